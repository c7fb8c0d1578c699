section
-- ===== PART A: goes FIRST, ahead of the names: the tables' words, and 'selects' of the private methods out of them =====
/-- a private method of a class that the tables say can be made, by its rows of tables_1 -/
def lw_okq (q : MethodName × Nat) : Prop := (q.1.cls ≠ "java/lang/invoke/MethodHandle" ∧ q.1.cls ≠ "java/lang/invoke/VarHandle") ∧ Cond.instantiable q.1.cls q.2 ∈ tables_1 ∧ Cond.privateMethod q.1 ∈ tables_1 ∧ Cond.instanceMethod q.1 ∈ tables_1
theorem lw_p0 : lw_okq (⟨"LetterFabric$Sorter", "letWinnersIn", "(LLetterFabric$Fabric;)V"⟩, 2) := ⟨⟨by decide +kernel, by decide +kernel⟩, List.mem_of_getElem? (i := 109) (by decide +kernel), List.mem_of_getElem? (i := 251) (by decide +kernel), List.mem_of_getElem? (i := 252) (by decide +kernel)⟩
theorem lw_p1 : lw_okq (⟨"LetterFabric$Sorter", "turnBackBeaten", "(LLetterFabric$Fabric;)V"⟩, 2) := ⟨⟨by decide +kernel, by decide +kernel⟩, List.mem_of_getElem? (i := 109) (by decide +kernel), List.mem_of_getElem? (i := 263) (by decide +kernel), List.mem_of_getElem? (i := 264) (by decide +kernel)⟩
theorem lw_p2 : lw_okq (⟨"LetterFabric$Sorter", "endLetter", "(LLetterFabric$Fabric;II)V"⟩, 2) := ⟨⟨by decide +kernel, by decide +kernel⟩, List.mem_of_getElem? (i := 109) (by decide +kernel), List.mem_of_getElem? (i := 267) (by decide +kernel), List.mem_of_getElem? (i := 268) (by decide +kernel)⟩
theorem lw_p3 : lw_okq (⟨"LetterFabric$Sorter", "letFirstsOut", "(LLetterFabric$Fabric;)V"⟩, 2) := ⟨⟨by decide +kernel, by decide +kernel⟩, List.mem_of_getElem? (i := 109) (by decide +kernel), List.mem_of_getElem? (i := 271) (by decide +kernel), List.mem_of_getElem? (i := 272) (by decide +kernel)⟩
theorem lw_p4 : lw_okq (⟨"LetterFabric", "enterNet", "()V"⟩, 8) := ⟨⟨by decide +kernel, by decide +kernel⟩, List.mem_of_getElem? (i := 11) (by decide +kernel), List.mem_of_getElem? (i := 331) (by decide +kernel), List.mem_of_getElem? (i := 332) (by decide +kernel)⟩
theorem lw_p5 : lw_okq (⟨"LetterFabric", "passStage", "(I)V"⟩, 8) := ⟨⟨by decide +kernel, by decide +kernel⟩, List.mem_of_getElem? (i := 11) (by decide +kernel), List.mem_of_getElem? (i := 335) (by decide +kernel), List.mem_of_getElem? (i := 336) (by decide +kernel)⟩
theorem lw_p6 : lw_okq (⟨"LetterFabric", "trySlot", "()Z"⟩, 8) := ⟨⟨by decide +kernel, by decide +kernel⟩, List.mem_of_getElem? (i := 11) (by decide +kernel), List.mem_of_getElem? (i := 348) (by decide +kernel), List.mem_of_getElem? (i := 349) (by decide +kernel)⟩
theorem lw_p7 : lw_okq (⟨"LetterFabric", "dropsIn", "(II)I"⟩, 8) := ⟨⟨by decide +kernel, by decide +kernel⟩, List.mem_of_getElem? (i := 11) (by decide +kernel), List.mem_of_getElem? (i := 356) (by decide +kernel), List.mem_of_getElem? (i := 357) (by decide +kernel)⟩
theorem lw_p8 : lw_okq (⟨"LetterFabric", "explainsAllSeen", "(I)Z"⟩, 8) := ⟨⟨by decide +kernel, by decide +kernel⟩, List.mem_of_getElem? (i := 11) (by decide +kernel), List.mem_of_getElem? (i := 397) (by decide +kernel), List.mem_of_getElem? (i := 398) (by decide +kernel)⟩
theorem lw_p9 : lw_okq (⟨"LetterFabricModel", "notes", "()V"⟩, 18) := ⟨⟨by decide +kernel, by decide +kernel⟩, List.mem_of_getElem? (i := 423) (by decide +kernel), List.mem_of_getElem? (i := 491) (by decide +kernel), List.mem_of_getElem? (i := 492) (by decide +kernel)⟩
theorem lw_p10 : lw_okq (⟨"LetterFabricModel", "writes", "(I)V"⟩, 18) := ⟨⟨by decide +kernel, by decide +kernel⟩, List.mem_of_getElem? (i := 423) (by decide +kernel), List.mem_of_getElem? (i := 495) (by decide +kernel), List.mem_of_getElem? (i := 496) (by decide +kernel)⟩
theorem lw_p11 : lw_okq (⟨"LetterFabricModel", "atLine", "(I)I"⟩, 18) := ⟨⟨by decide +kernel, by decide +kernel⟩, List.mem_of_getElem? (i := 423) (by decide +kernel), List.mem_of_getElem? (i := 506) (by decide +kernel), List.mem_of_getElem? (i := 507) (by decide +kernel)⟩
theorem lw_p12 : lw_okq (⟨"LetterFabricModel", "of", "(II)I"⟩, 18) := ⟨⟨by decide +kernel, by decide +kernel⟩, List.mem_of_getElem? (i := 423) (by decide +kernel), List.mem_of_getElem? (i := 510) (by decide +kernel), List.mem_of_getElem? (i := 511) (by decide +kernel)⟩
theorem lw_p13 : lw_okq (⟨"LetterFabricModel", "sets", "(III)V"⟩, 18) := ⟨⟨by decide +kernel, by decide +kernel⟩, List.mem_of_getElem? (i := 423) (by decide +kernel), List.mem_of_getElem? (i := 514) (by decide +kernel), List.mem_of_getElem? (i := 515) (by decide +kernel)⟩
theorem lw_p14 : lw_okq (⟨"LetterFabricModel", "goes", "()I"⟩, 18) := ⟨⟨by decide +kernel, by decide +kernel⟩, List.mem_of_getElem? (i := 423) (by decide +kernel), List.mem_of_getElem? (i := 522) (by decide +kernel), List.mem_of_getElem? (i := 523) (by decide +kernel)⟩
theorem lw_p15 : lw_okq (⟨"LetterFabricModel", "sorts", "()V"⟩, 18) := ⟨⟨by decide +kernel, by decide +kernel⟩, List.mem_of_getElem? (i := 423) (by decide +kernel), List.mem_of_getElem? (i := 526) (by decide +kernel), List.mem_of_getElem? (i := 527) (by decide +kernel)⟩
def lw_privs_1 : List (MethodName × Nat) := [(⟨"LetterFabric$Sorter", "letWinnersIn", "(LLetterFabric$Fabric;)V"⟩, 2), (⟨"LetterFabric$Sorter", "turnBackBeaten", "(LLetterFabric$Fabric;)V"⟩, 2), (⟨"LetterFabric$Sorter", "endLetter", "(LLetterFabric$Fabric;II)V"⟩, 2), (⟨"LetterFabric$Sorter", "letFirstsOut", "(LLetterFabric$Fabric;)V"⟩, 2), (⟨"LetterFabric", "enterNet", "()V"⟩, 8), (⟨"LetterFabric", "passStage", "(I)V"⟩, 8), (⟨"LetterFabric", "trySlot", "()Z"⟩, 8), (⟨"LetterFabric", "dropsIn", "(II)I"⟩, 8), (⟨"LetterFabric", "explainsAllSeen", "(I)Z"⟩, 8), (⟨"LetterFabricModel", "notes", "()V"⟩, 18), (⟨"LetterFabricModel", "writes", "(I)V"⟩, 18), (⟨"LetterFabricModel", "atLine", "(I)I"⟩, 18), (⟨"LetterFabricModel", "of", "(II)I"⟩, 18), (⟨"LetterFabricModel", "sets", "(III)V"⟩, 18), (⟨"LetterFabricModel", "goes", "()I"⟩, 18), (⟨"LetterFabricModel", "sorts", "()V"⟩, 18)]
theorem lw_r1 : ∀ q ∈ lw_privs_1, lw_okq q := List.forall_mem_cons.mpr ⟨lw_p0, List.forall_mem_cons.mpr ⟨lw_p1, List.forall_mem_cons.mpr ⟨lw_p2, List.forall_mem_cons.mpr ⟨lw_p3, List.forall_mem_cons.mpr ⟨lw_p4, List.forall_mem_cons.mpr ⟨lw_p5, List.forall_mem_cons.mpr ⟨lw_p6, List.forall_mem_cons.mpr ⟨lw_p7, List.forall_mem_cons.mpr ⟨lw_p8, List.forall_mem_cons.mpr ⟨lw_p9, List.forall_mem_cons.mpr ⟨lw_p10, List.forall_mem_cons.mpr ⟨lw_p11, List.forall_mem_cons.mpr ⟨lw_p12, List.forall_mem_cons.mpr ⟨lw_p13, List.forall_mem_cons.mpr ⟨lw_p14, List.forall_mem_cons.mpr ⟨lw_p15, fun _ h => absurd h List.not_mem_nil⟩⟩⟩⟩⟩⟩⟩⟩⟩⟩⟩⟩⟩⟩⟩⟩
theorem lw_p16 : lw_okq (⟨"LetterFabricModel", "isIn", "(I)Z"⟩, 18) := ⟨⟨by decide +kernel, by decide +kernel⟩, List.mem_of_getElem? (i := 423) (by decide +kernel), List.mem_of_getElem? (i := 530) (by decide +kernel), List.mem_of_getElem? (i := 531) (by decide +kernel)⟩
theorem lw_p17 : lw_okq (⟨"LetterFabricModel", "isSooner", "(II)Z"⟩, 18) := ⟨⟨by decide +kernel, by decide +kernel⟩, List.mem_of_getElem? (i := 423) (by decide +kernel), List.mem_of_getElem? (i := 534) (by decide +kernel), List.mem_of_getElem? (i := 535) (by decide +kernel)⟩
theorem lw_p18 : lw_okq (⟨"LetterFabricModel", "isAhead", "(II)Z"⟩, 18) := ⟨⟨by decide +kernel, by decide +kernel⟩, List.mem_of_getElem? (i := 423) (by decide +kernel), List.mem_of_getElem? (i := 538) (by decide +kernel), List.mem_of_getElem? (i := 539) (by decide +kernel)⟩
theorem lw_p19 : lw_okq (⟨"LetterFabricModel", "wins", "()V"⟩, 18) := ⟨⟨by decide +kernel, by decide +kernel⟩, List.mem_of_getElem? (i := 423) (by decide +kernel), List.mem_of_getElem? (i := 542) (by decide +kernel), List.mem_of_getElem? (i := 543) (by decide +kernel)⟩
theorem lw_p20 : lw_okq (⟨"LetterFabricModel", "manyAt", "(I)I"⟩, 18) := ⟨⟨by decide +kernel, by decide +kernel⟩, List.mem_of_getElem? (i := 423) (by decide +kernel), List.mem_of_getElem? (i := 546) (by decide +kernel), List.mem_of_getElem? (i := 547) (by decide +kernel)⟩
theorem lw_p21 : lw_okq (⟨"LetterFabricModel", "turns", "()V"⟩, 18) := ⟨⟨by decide +kernel, by decide +kernel⟩, List.mem_of_getElem? (i := 423) (by decide +kernel), List.mem_of_getElem? (i := 550) (by decide +kernel), List.mem_of_getElem? (i := 551) (by decide +kernel)⟩
theorem lw_p22 : lw_okq (⟨"LetterFabricModel", "queued", "(II)I"⟩, 18) := ⟨⟨by decide +kernel, by decide +kernel⟩, List.mem_of_getElem? (i := 423) (by decide +kernel), List.mem_of_getElem? (i := 554) (by decide +kernel), List.mem_of_getElem? (i := 555) (by decide +kernel)⟩
theorem lw_p23 : lw_okq (⟨"LetterFabricModel", "comesBack", "(I)V"⟩, 18) := ⟨⟨by decide +kernel, by decide +kernel⟩, List.mem_of_getElem? (i := 423) (by decide +kernel), List.mem_of_getElem? (i := 562) (by decide +kernel), List.mem_of_getElem? (i := 563) (by decide +kernel)⟩
theorem lw_p24 : lw_okq (⟨"LetterFabricModel", "setStraight", "()V"⟩, 18) := ⟨⟨by decide +kernel, by decide +kernel⟩, List.mem_of_getElem? (i := 423) (by decide +kernel), List.mem_of_getElem? (i := 594) (by decide +kernel), List.mem_of_getElem? (i := 595) (by decide +kernel)⟩
theorem lw_p25 : lw_okq (⟨"LetterFabricModel", "isOver", "()Z"⟩, 18) := ⟨⟨by decide +kernel, by decide +kernel⟩, List.mem_of_getElem? (i := 423) (by decide +kernel), List.mem_of_getElem? (i := 602) (by decide +kernel), List.mem_of_getElem? (i := 603) (by decide +kernel)⟩
theorem lw_p26 : lw_okq (⟨"LetterFabricModel", "lostBy", "(II)I"⟩, 18) := ⟨⟨by decide +kernel, by decide +kernel⟩, List.mem_of_getElem? (i := 423) (by decide +kernel), List.mem_of_getElem? (i := 610) (by decide +kernel), List.mem_of_getElem? (i := 611) (by decide +kernel)⟩
theorem lw_p27 : lw_okq (⟨"LetterFabricModel", "outWithout", "(II)I"⟩, 18) := ⟨⟨by decide +kernel, by decide +kernel⟩, List.mem_of_getElem? (i := 423) (by decide +kernel), List.mem_of_getElem? (i := 645) (by decide +kernel), List.mem_of_getElem? (i := 646) (by decide +kernel)⟩
def lw_privs_2 : List (MethodName × Nat) := [(⟨"LetterFabricModel", "isIn", "(I)Z"⟩, 18), (⟨"LetterFabricModel", "isSooner", "(II)Z"⟩, 18), (⟨"LetterFabricModel", "isAhead", "(II)Z"⟩, 18), (⟨"LetterFabricModel", "wins", "()V"⟩, 18), (⟨"LetterFabricModel", "manyAt", "(I)I"⟩, 18), (⟨"LetterFabricModel", "turns", "()V"⟩, 18), (⟨"LetterFabricModel", "queued", "(II)I"⟩, 18), (⟨"LetterFabricModel", "comesBack", "(I)V"⟩, 18), (⟨"LetterFabricModel", "setStraight", "()V"⟩, 18), (⟨"LetterFabricModel", "isOver", "()Z"⟩, 18), (⟨"LetterFabricModel", "lostBy", "(II)I"⟩, 18), (⟨"LetterFabricModel", "outWithout", "(II)I"⟩, 18)]
theorem lw_r2 : ∀ q ∈ lw_privs_2, lw_okq q := List.forall_mem_cons.mpr ⟨lw_p16, List.forall_mem_cons.mpr ⟨lw_p17, List.forall_mem_cons.mpr ⟨lw_p18, List.forall_mem_cons.mpr ⟨lw_p19, List.forall_mem_cons.mpr ⟨lw_p20, List.forall_mem_cons.mpr ⟨lw_p21, List.forall_mem_cons.mpr ⟨lw_p22, List.forall_mem_cons.mpr ⟨lw_p23, List.forall_mem_cons.mpr ⟨lw_p24, List.forall_mem_cons.mpr ⟨lw_p25, List.forall_mem_cons.mpr ⟨lw_p26, List.forall_mem_cons.mpr ⟨lw_p27, fun _ h => absurd h List.not_mem_nil⟩⟩⟩⟩⟩⟩⟩⟩⟩⟩⟩⟩
def lw_privs : List (MethodName × Nat) := lw_privs_1 ++ (lw_privs_2)
def lw_tbl : List Cond := k2_sels lw_privs ++ tables_1
theorem lw_privs_ok : ∀ q ∈ lw_privs, lw_okq q := by
  show ∀ q ∈ lw_privs_1 ++ (lw_privs_2), lw_okq q
  exact List.forall_mem_append.mpr ⟨lw_r1, lw_r2⟩
end
section
def RX0 : String := "LetterFabric$Fabric"
def TX0 : u_T := fun k => match k with
  | 0 => ("LetterFabric$Fabric", "nets", "I", false)
  | 1 => ("LetterFabric$Fabric", "mayTurn", "I", false)
  | 2 => ("LetterFabric$Fabric", "room", "I", false)
  | 3 => ("LetterFabric$Fabric", "now", "I", false)
  | 4 => ("LetterFabric$Fabric", "letters", "I", false)
  | 5 => ("LetterFabric$Fabric", "places", "[I", true)
  | 6 => ("LetterFabric$Fabric", "fromLine", "[I", true)
  | 7 => ("LetterFabric$Fabric", "toAddress", "[I", true)
  | 8 => ("LetterFabric$Fabric", "priorities", "[I", true)
  | 9 => ("LetterFabric$Fabric", "putIn", "[I", true)
  | 10 => ("LetterFabric$Fabric", "endedIn", "[I", true)
  | 11 => ("LetterFabric$Fabric", "rounds", "[I", true)
  | 12 => ("LetterFabric$Fabric", "tally", "[I", true)
  | _ => ("LetterFabric$Fabric", "queued", "LLetterFabric$Row;", true)
def tyX0 : Nat → FieldType := fun k => match k with
  | 0 => .int
  | 1 => .int
  | 2 => .int
  | 3 => .int
  | 4 => .int
  | 5 => .array .int
  | 6 => .array .int
  | 7 => .array .int
  | 8 => .array .int
  | 9 => .array .int
  | 10 => .array .int
  | 11 => .array .int
  | 12 => .array .int
  | _ => .object "LetterFabric$Row"
abbrev wsX00 : List Cond := u_ws RX0 TX0 14
theorem nmX0 : ∀ a, a < 14 → ∀ b, b < 14 → a ≠ b → (TX0 a).2.1 ≠ (TX0 b).2.1 := by decide +kernel
theorem tyX0_ok : ∀ k, k < 14 → parseFieldDescriptor (TX0 k).2.2.1 = some (tyX0 k) := by decide +kernel
abbrev cX0_init : ByteArray := prog_2_method_1_code
def yX0_init : MethodName := ⟨RX0, "<init>", "()V"⟩
abbrev cX0_begin : ByteArray := prog_2_method_2_code
def yX0_begin : MethodName := ⟨RX0, "begin", "()V"⟩
abbrev cX0_becomes : ByteArray := prog_2_method_3_code
def yX0_becomes : MethodName := ⟨RX0, "becomes", "(LLetterFabric$Fabric;)V"⟩
abbrev cX0_addLetter : ByteArray := prog_2_method_4_code
def yX0_addLetter : MethodName := ⟨RX0, "addLetter", "(III)I"⟩
abbrev cX0_letterAt : ByteArray := prog_2_method_5_code
def yX0_letterAt : MethodName := ⟨RX0, "letterAt", "(I)I"⟩
abbrev cX0_queuedLetter : ByteArray := prog_2_method_6_code
def yX0_queuedLetter : MethodName := ⟨RX0, "queuedLetter", "(II)I"⟩
abbrev cX0_countLive : ByteArray := prog_2_method_7_code
def yX0_countLive : MethodName := ⟨RX0, "countLive", "()I"⟩
abbrev cX0_moveLetter : ByteArray := prog_2_method_8_code
def yX0_moveLetter : MethodName := ⟨RX0, "moveLetter", "(II)V"⟩
abbrev cX0_goesBefore : ByteArray := prog_2_method_9_code
def yX0_goesBefore : MethodName := ⟨RX0, "goesBefore", "(IIZ)Z"⟩
def RX1 : String := "LetterFabric$Past"
def TX1 : u_T := fun k => match k with
  | 0 => ("LetterFabric$Past", "ring", "[LLetterFabric$Fabric;", true)
  | 1 => ("LetterFabric$Past", "next", "I", false)
  | _ => ("LetterFabric$Past", "known", "I", false)
def tyX1 : Nat → FieldType := fun k => match k with
  | 0 => .array (.object "LetterFabric$Fabric")
  | 1 => .int
  | _ => .int
abbrev wsX10 : List Cond := u_ws RX1 TX1 3
theorem nmX1 : ∀ a, a < 3 → ∀ b, b < 3 → a ≠ b → (TX1 a).2.1 ≠ (TX1 b).2.1 := by decide +kernel
theorem tyX1_ok : ∀ k, k < 3 → parseFieldDescriptor (TX1 k).2.2.1 = some (tyX1 k) := by decide +kernel
abbrev cX1_init : ByteArray := prog_3_method_1_code
def yX1_init : MethodName := ⟨RX1, "<init>", "()V"⟩
abbrev cX1_remember : ByteArray := prog_3_method_2_code
def yX1_remember : MethodName := ⟨RX1, "remember", "(LLetterFabric$Fabric;)V"⟩
abbrev cX1_giveBack : ByteArray := prog_3_method_3_code
def yX1_giveBack : MethodName := ⟨RX1, "giveBack", "(LLetterFabric$Fabric;)V"⟩
def RX2 : String := "LetterFabric$Row"
def TX2 : u_T := fun k => match k with
  | 0 => ("LetterFabric$Row", "numbers", "[I", true)
  | _ => ("LetterFabric$Row", "size", "I", false)
def tyX2 : Nat → FieldType := fun k => match k with
  | 0 => .array .int
  | _ => .int
abbrev wsX20 : List Cond := u_ws RX2 TX2 2
theorem nmX2 : ∀ a, a < 2 → ∀ b, b < 2 → a ≠ b → (TX2 a).2.1 ≠ (TX2 b).2.1 := by decide +kernel
theorem tyX2_ok : ∀ k, k < 2 → parseFieldDescriptor (TX2 k).2.2.1 = some (tyX2 k) := by decide +kernel
abbrev cX2_init : ByteArray := prog_4_method_1_code
def yX2_init : MethodName := ⟨RX2, "<init>", "()V"⟩
abbrev cX2_becomes : ByteArray := prog_4_method_2_code
def yX2_becomes : MethodName := ⟨RX2, "becomes", "(LLetterFabric$Row;)V"⟩
abbrev cX2_at : ByteArray := prog_4_method_3_code
def yX2_at : MethodName := ⟨RX2, "at", "(I)I"⟩
abbrev cX2_add : ByteArray := prog_4_method_4_code
def yX2_add : MethodName := ⟨RX2, "add", "(I)V"⟩
abbrev cX2_addInOrder : ByteArray := prog_4_method_5_code
def yX2_addInOrder : MethodName := ⟨RX2, "addInOrder", "(ILLetterFabric$Fabric;Z)V"⟩
def RX3 : String := "LetterFabric$Sightings"
def TX3 : u_T := fun k => match k with
  | 0 => ("LetterFabric$Sightings", "slots", "[I", true)
  | 1 => ("LetterFabric$Sightings", "outs", "[I", true)
  | _ => ("LetterFabric$Sightings", "size", "I", false)
def tyX3 : Nat → FieldType := fun k => match k with
  | 0 => .array .int
  | 1 => .array .int
  | _ => .int
abbrev wsX30 : List Cond := u_ws RX3 TX3 3
theorem nmX3 : ∀ a, a < 3 → ∀ b, b < 3 → a ≠ b → (TX3 a).2.1 ≠ (TX3 b).2.1 := by decide +kernel
theorem tyX3_ok : ∀ k, k < 3 → parseFieldDescriptor (TX3 k).2.2.1 = some (tyX3 k) := by decide +kernel
abbrev cX3_init : ByteArray := prog_5_method_1_code
def yX3_init : MethodName := ⟨RX3, "<init>", "()V"⟩
abbrev cX3_add : ByteArray := prog_5_method_2_code
def yX3_add : MethodName := ⟨RX3, "add", "(II)V"⟩
abbrev cX3_longest : ByteArray := prog_5_method_3_code
def yX3_longest : MethodName := ⟨RX3, "longest", "()I"⟩
abbrev cX3_allows : ByteArray := prog_5_method_4_code
def yX3_allows : MethodName := ⟨RX3, "allows", "(II)Z"⟩
def RX4 : String := "LetterFabric$Sorter"
def TX4 : u_T := fun k => match k with
  | 0 => ("LetterFabric$Sorter", "waiting", "LLetterFabric$Row;", true)
  | _ => ("LetterFabric$Sorter", "beaten", "LLetterFabric$Row;", true)
def tyX4 : Nat → FieldType := fun k => match k with
  | 0 => .object "LetterFabric$Row"
  | _ => .object "LetterFabric$Row"
abbrev wsX40 : List Cond := u_ws RX4 TX4 2
theorem nmX4 : ∀ a, a < 2 → ∀ b, b < 2 → a ≠ b → (TX4 a).2.1 ≠ (TX4 b).2.1 := by decide +kernel
theorem tyX4_ok : ∀ k, k < 2 → parseFieldDescriptor (TX4 k).2.2.1 = some (tyX4 k) := by decide +kernel
abbrev cX4_init : ByteArray := prog_6_method_1_code
def yX4_init : MethodName := ⟨RX4, "<init>", "()V"⟩
abbrev cX4_sortWaiting : ByteArray := prog_6_method_2_code
def yX4_sortWaiting : MethodName := ⟨RX4, "sortWaiting", "(LLetterFabric$Fabric;)LLetterFabric$Row;"⟩
abbrev cX4_sortTurned : ByteArray := prog_6_method_3_code
def yX4_sortTurned : MethodName := ⟨RX4, "sortTurned", "(LLetterFabric$Fabric;)LLetterFabric$Row;"⟩
abbrev cX4_passSlot : ByteArray := prog_6_method_4_code
def yX4_passSlot : MethodName := ⟨RX4, "passSlot", "(LLetterFabric$Fabric;)V"⟩
abbrev cX4_letWinnersIn : ByteArray := prog_6_method_5_code
def yX4_letWinnersIn : MethodName := ⟨RX4, "letWinnersIn", "(LLetterFabric$Fabric;)V"⟩
abbrev cX4_turnBackBeaten : ByteArray := prog_6_method_6_code
def yX4_turnBackBeaten : MethodName := ⟨RX4, "turnBackBeaten", "(LLetterFabric$Fabric;)V"⟩
abbrev cX4_letFirstsOut : ByteArray := prog_6_method_7_code
def yX4_letFirstsOut : MethodName := ⟨RX4, "letFirstsOut", "(LLetterFabric$Fabric;)V"⟩
abbrev cX4_endLetter : ByteArray := prog_6_method_8_code
def yX4_endLetter : MethodName := ⟨RX4, "endLetter", "(LLetterFabric$Fabric;II)V"⟩
def RX5 : String := "LetterFabric"
def TX5 : u_T := fun k => match k with
  | 0 => ("LetterFabric", "fabric", "LLetterFabric$Fabric;", true)
  | 1 => ("LetterFabric", "trial", "LLetterFabric$Fabric;", true)
  | 2 => ("LetterFabric", "sorter", "LLetterFabric$Sorter;", true)
  | 3 => ("LetterFabric", "past", "LLetterFabric$Past;", true)
  | 4 => ("LetterFabric", "seen", "LLetterFabric$Sightings;", true)
  | 5 => ("LetterFabric", "images", "[LLetterFabric$Fabric;", true)
  | 6 => ("LetterFabric", "kept", "[Z", true)
  | _ => ("LetterFabric", "netPlaces", "[I", true)
def tyX5 : Nat → FieldType := fun k => match k with
  | 0 => .object "LetterFabric$Fabric"
  | 1 => .object "LetterFabric$Fabric"
  | 2 => .object "LetterFabric$Sorter"
  | 3 => .object "LetterFabric$Past"
  | 4 => .object "LetterFabric$Sightings"
  | 5 => .array (.object "LetterFabric$Fabric")
  | 6 => .array .boolean
  | _ => .array .int
abbrev wsX50 : List Cond := u_ws RX5 TX5 8
theorem nmX5 : ∀ a, a < 8 → ∀ b, b < 8 → a ≠ b → (TX5 a).2.1 ≠ (TX5 b).2.1 := by decide +kernel
theorem tyX5_ok : ∀ k, k < 8 → parseFieldDescriptor (TX5 k).2.2.1 = some (tyX5 k) := by decide +kernel
abbrev cX5_init : ByteArray := prog_1_method_1_code
def yX5_init : MethodName := ⟨RX5, "<init>", "()V"⟩
abbrev cX5_tells : ByteArray := prog_1_method_2_code
def yX5_tells : MethodName := ⟨RX5, "tells", "(III)I"⟩
abbrev cX5_puts : ByteArray := prog_1_method_3_code
def yX5_puts : MethodName := ⟨RX5, "puts", "(III)I"⟩
abbrev cX5_slot : ByteArray := prog_1_method_4_code
def yX5_slot : MethodName := ⟨RX5, "slot", "()I"⟩
abbrev cX5_undo : ByteArray := prog_1_method_5_code
def yX5_undo : MethodName := ⟨RX5, "undo", "()I"⟩
abbrev cX5_clear : ByteArray := prog_1_method_6_code
def yX5_clear : MethodName := ⟨RX5, "clear", "()I"⟩
abbrev cX5_letter : ByteArray := prog_1_method_7_code
def yX5_letter : MethodName := ⟨RX5, "letter", "(II)I"⟩
abbrev cX5_line : ByteArray := prog_1_method_8_code
def yX5_line : MethodName := ⟨RX5, "line", "(I)I"⟩
abbrev cX5_queue : ByteArray := prog_1_method_9_code
def yX5_queue : MethodName := ⟨RX5, "queue", "(II)I"⟩
abbrev cX5_turned : ByteArray := prog_1_method_10_code
def yX5_turned : MethodName := ⟨RX5, "turned", "(I)I"⟩
abbrev cX5_sorted : ByteArray := prog_1_method_11_code
def yX5_sorted : MethodName := ⟨RX5, "sorted", "(I)I"⟩
abbrev cX5_straight : ByteArray := prog_1_method_12_code
def yX5_straight : MethodName := ⟨RX5, "straight", "(I)I"⟩
abbrev cX5_drain : ByteArray := prog_1_method_13_code
def yX5_drain : MethodName := ⟨RX5, "drain", "()I"⟩
abbrev cX5_lost : ByteArray := prog_1_method_14_code
def yX5_lost : MethodName := ⟨RX5, "lost", "(I)I"⟩
abbrev cX5_fewest : ByteArray := prog_1_method_15_code
def yX5_fewest : MethodName := ⟨RX5, "fewest", "(I)I"⟩
abbrev cX5_share : ByteArray := prog_1_method_16_code
def yX5_share : MethodName := ⟨RX5, "share", "(III)J"⟩
abbrev cX5_sees : ByteArray := prog_1_method_17_code
def yX5_sees : MethodName := ⟨RX5, "sees", "(II)I"⟩
abbrev cX5_forget : ByteArray := prog_1_method_18_code
def yX5_forget : MethodName := ⟨RX5, "forget", "()I"⟩
abbrev cX5_unseen : ByteArray := prog_1_method_19_code
def yX5_unseen : MethodName := ⟨RX5, "unseen", "()I"⟩
abbrev cX5_keep : ByteArray := prog_1_method_20_code
def yX5_keep : MethodName := ⟨RX5, "keep", "(I)I"⟩
abbrev cX5_back : ByteArray := prog_1_method_21_code
def yX5_back : MethodName := ⟨RX5, "back", "(I)I"⟩
abbrev cX5_count : ByteArray := prog_1_method_22_code
def yX5_count : MethodName := ⟨RX5, "count", "(I)I"⟩
abbrev cX5_isWithin : ByteArray := prog_1_method_23_code
def yX5_isWithin : MethodName := ⟨RX5, "isWithin", "(III)Z"⟩
abbrev cX5_isLine : ByteArray := prog_1_method_24_code
def yX5_isLine : MethodName := ⟨RX5, "isLine", "(I)Z"⟩
abbrev cX5_isAddress : ByteArray := prog_1_method_25_code
def yX5_isAddress : MethodName := ⟨RX5, "isAddress", "(I)Z"⟩
abbrev cX5_enterNet : ByteArray := prog_1_method_26_code
def yX5_enterNet : MethodName := ⟨RX5, "enterNet", "()V"⟩
abbrev cX5_passStage : ByteArray := prog_1_method_27_code
def yX5_passStage : MethodName := ⟨RX5, "passStage", "(I)V"⟩
abbrev cX5_trySlot : ByteArray := prog_1_method_28_code
def yX5_trySlot : MethodName := ⟨RX5, "trySlot", "()Z"⟩
abbrev cX5_dropsIn : ByteArray := prog_1_method_29_code
def yX5_dropsIn : MethodName := ⟨RX5, "dropsIn", "(II)I"⟩
abbrev cX5_explainsAllSeen : ByteArray := prog_1_method_30_code
def yX5_explainsAllSeen : MethodName := ⟨RX5, "explainsAllSeen", "(I)Z"⟩
abbrev cX5_waysNotTaken : ByteArray := prog_1_method_31_code
def yX5_waysNotTaken : MethodName := ⟨RX5, "waysNotTaken", "(II)J"⟩
abbrev cX5_power : ByteArray := prog_1_method_32_code
def yX5_power : MethodName := ⟨RX5, "power", "(JI)J"⟩
abbrev cX5_commonDivisor : ByteArray := prog_1_method_33_code
def yX5_commonDivisor : MethodName := ⟨RX5, "commonDivisor", "(JJ)J"⟩
def RX6 : String := "LetterFabricModel"
def TX6 : u_T := fun k => match k with
  | 0 => ("LetterFabricModel", "nets", "I", false)
  | 1 => ("LetterFabricModel", "backs", "I", false)
  | 2 => ("LetterFabricModel", "room", "I", false)
  | 3 => ("LetterFabricModel", "now", "I", false)
  | 4 => ("LetterFabricModel", "many", "I", false)
  | 5 => ("LetterFabricModel", "counter", "I", false)
  | 6 => ("LetterFabricModel", "its", "[I", true)
  | 7 => ("LetterFabricModel", "kept", "[I", true)
  | 8 => ("LetterFabricModel", "isKept", "[I", true)
  | 9 => ("LetterFabricModel", "done", "I", false)
  | 10 => ("LetterFabricModel", "sorted", "I", false)
  | 11 => ("LetterFabricModel", "order", "[I", true)
  | 12 => ("LetterFabricModel", "turn", "[I", true)
  | 13 => ("LetterFabricModel", "place", "[I", true)
  | 14 => ("LetterFabricModel", "blocked", "[I", true)
  | 15 => ("LetterFabricModel", "seen", "I", false)
  | 16 => ("LetterFabricModel", "seenSlots", "[I", true)
  | _ => ("LetterFabricModel", "seenOut", "[I", true)
def tyX6 : Nat → FieldType := fun k => match k with
  | 0 => .int
  | 1 => .int
  | 2 => .int
  | 3 => .int
  | 4 => .int
  | 5 => .int
  | 6 => .array .int
  | 7 => .array .int
  | 8 => .array .int
  | 9 => .int
  | 10 => .int
  | 11 => .array .int
  | 12 => .array .int
  | 13 => .array .int
  | 14 => .array .int
  | 15 => .int
  | 16 => .array .int
  | _ => .array .int
abbrev wsX60 : List Cond := u_ws RX6 TX6 18
theorem nmX6 : ∀ a, a < 18 → ∀ b, b < 18 → a ≠ b → (TX6 a).2.1 ≠ (TX6 b).2.1 := by decide +kernel
theorem tyX6_ok : ∀ k, k < 18 → parseFieldDescriptor (TX6 k).2.2.1 = some (tyX6 k) := by decide +kernel
abbrev cX6_init : ByteArray := prog_8_method_1_code
def yX6_init : MethodName := ⟨RX6, "<init>", "()V"⟩
abbrev cX6_in : ByteArray := prog_8_method_2_code
def yX6_in : MethodName := ⟨RX6, "in", "(III)Z"⟩
abbrev cX6_writes : ByteArray := prog_8_method_3_code
def yX6_writes : MethodName := ⟨RX6, "writes", "(I)V"⟩
abbrev cX6_comesBack : ByteArray := prog_8_method_4_code
def yX6_comesBack : MethodName := ⟨RX6, "comesBack", "(I)V"⟩
abbrev cX6_notes : ByteArray := prog_8_method_5_code
def yX6_notes : MethodName := ⟨RX6, "notes", "()V"⟩
abbrev cX6_of : ByteArray := prog_8_method_6_code
def yX6_of : MethodName := ⟨RX6, "of", "(II)I"⟩
abbrev cX6_sets : ByteArray := prog_8_method_7_code
def yX6_sets : MethodName := ⟨RX6, "sets", "(III)V"⟩
abbrev cX6_tells : ByteArray := prog_8_method_8_code
def yX6_tells : MethodName := ⟨RX6, "tells", "(III)I"⟩
abbrev cX6_isLine : ByteArray := prog_8_method_9_code
def yX6_isLine : MethodName := ⟨RX6, "isLine", "(I)Z"⟩
abbrev cX6_atLine : ByteArray := prog_8_method_10_code
def yX6_atLine : MethodName := ⟨RX6, "atLine", "(I)I"⟩
abbrev cX6_puts : ByteArray := prog_8_method_11_code
def yX6_puts : MethodName := ⟨RX6, "puts", "(III)I"⟩
abbrev cX6_isAhead : ByteArray := prog_8_method_12_code
def yX6_isAhead : MethodName := ⟨RX6, "isAhead", "(II)Z"⟩
abbrev cX6_manyAt : ByteArray := prog_8_method_13_code
def yX6_manyAt : MethodName := ⟨RX6, "manyAt", "(I)I"⟩
abbrev cX6_isIn : ByteArray := prog_8_method_14_code
def yX6_isIn : MethodName := ⟨RX6, "isIn", "(I)Z"⟩
abbrev cX6_isSooner : ByteArray := prog_8_method_15_code
def yX6_isSooner : MethodName := ⟨RX6, "isSooner", "(II)Z"⟩
abbrev cX6_sorts : ByteArray := prog_8_method_16_code
def yX6_sorts : MethodName := ⟨RX6, "sorts", "()V"⟩
abbrev cX6_wins : ByteArray := prog_8_method_17_code
def yX6_wins : MethodName := ⟨RX6, "wins", "()V"⟩
abbrev cX6_turns : ByteArray := prog_8_method_18_code
def yX6_turns : MethodName := ⟨RX6, "turns", "()V"⟩
abbrev cX6_queued : ByteArray := prog_8_method_19_code
def yX6_queued : MethodName := ⟨RX6, "queued", "(II)I"⟩
abbrev cX6_goes : ByteArray := prog_8_method_20_code
def yX6_goes : MethodName := ⟨RX6, "goes", "()I"⟩
abbrev cX6_slot : ByteArray := prog_8_method_21_code
def yX6_slot : MethodName := ⟨RX6, "slot", "()I"⟩
abbrev cX6_undo : ByteArray := prog_8_method_22_code
def yX6_undo : MethodName := ⟨RX6, "undo", "()I"⟩
abbrev cX6_clear : ByteArray := prog_8_method_23_code
def yX6_clear : MethodName := ⟨RX6, "clear", "()I"⟩
abbrev cX6_letter : ByteArray := prog_8_method_24_code
def yX6_letter : MethodName := ⟨RX6, "letter", "(II)I"⟩
abbrev cX6_line : ByteArray := prog_8_method_25_code
def yX6_line : MethodName := ⟨RX6, "line", "(I)I"⟩
abbrev cX6_queue : ByteArray := prog_8_method_26_code
def yX6_queue : MethodName := ⟨RX6, "queue", "(II)I"⟩
abbrev cX6_turned : ByteArray := prog_8_method_27_code
def yX6_turned : MethodName := ⟨RX6, "turned", "(I)I"⟩
abbrev cX6_sorted : ByteArray := prog_8_method_28_code
def yX6_sorted : MethodName := ⟨RX6, "sorted", "(I)I"⟩
abbrev cX6_setStraight : ByteArray := prog_8_method_29_code
def yX6_setStraight : MethodName := ⟨RX6, "setStraight", "()V"⟩
abbrev cX6_straight : ByteArray := prog_8_method_30_code
def yX6_straight : MethodName := ⟨RX6, "straight", "(I)I"⟩
abbrev cX6_isOver : ByteArray := prog_8_method_31_code
def yX6_isOver : MethodName := ⟨RX6, "isOver", "()Z"⟩
abbrev cX6_drain : ByteArray := prog_8_method_32_code
def yX6_drain : MethodName := ⟨RX6, "drain", "()I"⟩
abbrev cX6_lostBy : ByteArray := prog_8_method_33_code
def yX6_lostBy : MethodName := ⟨RX6, "lostBy", "(II)I"⟩
abbrev cX6_lost : ByteArray := prog_8_method_34_code
def yX6_lost : MethodName := ⟨RX6, "lost", "(I)I"⟩
abbrev cX6_fewest : ByteArray := prog_8_method_35_code
def yX6_fewest : MethodName := ⟨RX6, "fewest", "(I)I"⟩
abbrev cX6_power : ByteArray := prog_8_method_36_code
def yX6_power : MethodName := ⟨RX6, "power", "(JI)J"⟩
abbrev cX6_ways : ByteArray := prog_8_method_37_code
def yX6_ways : MethodName := ⟨RX6, "ways", "(I)J"⟩
abbrev cX6_gcd : ByteArray := prog_8_method_38_code
def yX6_gcd : MethodName := ⟨RX6, "gcd", "(JJ)J"⟩
abbrev cX6_share : ByteArray := prog_8_method_39_code
def yX6_share : MethodName := ⟨RX6, "share", "(III)J"⟩
abbrev cX6_sees : ByteArray := prog_8_method_40_code
def yX6_sees : MethodName := ⟨RX6, "sees", "(II)I"⟩
abbrev cX6_forget : ByteArray := prog_8_method_41_code
def yX6_forget : MethodName := ⟨RX6, "forget", "()I"⟩
abbrev cX6_outWithout : ByteArray := prog_8_method_42_code
def yX6_outWithout : MethodName := ⟨RX6, "outWithout", "(II)I"⟩
abbrev cX6_unseen : ByteArray := prog_8_method_43_code
def yX6_unseen : MethodName := ⟨RX6, "unseen", "()I"⟩
abbrev cX6_keep : ByteArray := prog_8_method_44_code
def yX6_keep : MethodName := ⟨RX6, "keep", "(I)I"⟩
abbrev cX6_back : ByteArray := prog_8_method_45_code
def yX6_back : MethodName := ⟨RX6, "back", "(I)I"⟩
abbrev cX6_count : ByteArray := prog_8_method_46_code
def yX6_count : MethodName := ⟨RX6, "count", "(I)I"⟩
def RJ9 : String := "java/lang/Math"
def TJ9 : u_T := fun k => match k with
  | _ => ("", "", "", false)
def tyJ9 : Nat → FieldType := fun k => match k with
  | _ => .int
theorem nmJ9 : ∀ a, a < 0 → ∀ b, b < 0 → a ≠ b → (TJ9 a).2.1 ≠ (TJ9 b).2.1 := by decide +kernel
theorem tyJ9_ok : ∀ k, k < 0 → parseFieldDescriptor (TJ9 k).2.2.1 = some (tyJ9 k) := by decide +kernel
abbrev cJ9_max_7cf53 : ByteArray := prog_9_method_65_code
def yJ9_max_7cf53 : MethodName := ⟨RJ9, "max", "(II)I"⟩
abbrev cJ9_min_7cf53 : ByteArray := prog_9_method_69_code
def yJ9_min_7cf53 : MethodName := ⟨RJ9, "min", "(II)I"⟩
def RJ10 : String := "java/lang/System"
def TJ10 : u_T := fun k => match k with
  | _ => ("", "", "", false)
def tyJ10 : Nat → FieldType := fun k => match k with
  | _ => .int
theorem nmJ10 : ∀ a, a < 0 → ∀ b, b < 0 → a ≠ b → (TJ10 a).2.1 ≠ (TJ10 b).2.1 := by decide +kernel
theorem tyJ10_ok : ∀ k, k < 0 → parseFieldDescriptor (TJ10 k).2.2.1 = some (tyJ10 k) := by decide +kernel
def RL : String := "LetterFabricLaw"
abbrev cL_law : ByteArray := code
def yL_law : MethodName := ⟨RL, "law", "([I)Z"⟩
abbrev vwCl : List vw_C := [(RX0, TX0, 14), (RX1, TX1, 3), (RX2, TX2, 2), (RX3, TX3, 3), (RX4, TX4, 2), (RX5, TX5, 8), (RX6, TX6, 18)]
end
section
theorem dX0_init_0 : decode cX0_init 0 = .ok (.aload_n 0, 1) := by decide +kernel
theorem dX0_init_1 : decode cX0_init 1 = .ok (.invokespecial 3, 3) := by decide +kernel
theorem dX0_init_4 : decode cX0_init 4 = .ok (.aload_n 0, 1) := by decide +kernel
theorem dX0_init_5 : decode cX0_init 5 = .ok (.iconst 1, 1) := by decide +kernel
theorem dX0_init_6 : decode cX0_init 6 = .ok (.putfield 9, 3) := by decide +kernel
theorem dX0_init_9 : decode cX0_init 9 = .ok (.aload_n 0, 1) := by decide +kernel
theorem dX0_init_10 : decode cX0_init 10 = .ok (.bipush 8, 2) := by decide +kernel
theorem dX0_init_12 : decode cX0_init 12 = .ok (.putfield 15, 3) := by decide +kernel
theorem dX0_init_15 : decode cX0_init 15 = .ok (.aload_n 0, 1) := by decide +kernel
theorem dX0_init_16 : decode cX0_init 16 = .ok (.bipush 8, 2) := by decide +kernel
theorem dX0_init_18 : decode cX0_init 18 = .ok (.putfield 18, 3) := by decide +kernel
theorem dX0_init_21 : decode cX0_init 21 = .ok (.aload_n 0, 1) := by decide +kernel
theorem dX0_init_22 : decode cX0_init 22 = .ok (.bipush 64, 2) := by decide +kernel
theorem dX0_init_24 : decode cX0_init 24 = .ok (.newarray .int, 2) := by decide +kernel
theorem dX0_init_26 : decode cX0_init 26 = .ok (.putfield 21, 3) := by decide +kernel
theorem dX0_init_29 : decode cX0_init 29 = .ok (.aload_n 0, 1) := by decide +kernel
theorem dX0_init_30 : decode cX0_init 30 = .ok (.bipush 64, 2) := by decide +kernel
theorem dX0_init_32 : decode cX0_init 32 = .ok (.newarray .int, 2) := by decide +kernel
theorem dX0_init_34 : decode cX0_init 34 = .ok (.putfield 25, 3) := by decide +kernel
theorem dX0_init_37 : decode cX0_init 37 = .ok (.aload_n 0, 1) := by decide +kernel
theorem dX0_init_38 : decode cX0_init 38 = .ok (.bipush 64, 2) := by decide +kernel
theorem dX0_init_40 : decode cX0_init 40 = .ok (.newarray .int, 2) := by decide +kernel
theorem dX0_init_42 : decode cX0_init 42 = .ok (.putfield 28, 3) := by decide +kernel
theorem dX0_init_45 : decode cX0_init 45 = .ok (.aload_n 0, 1) := by decide +kernel
theorem dX0_init_46 : decode cX0_init 46 = .ok (.bipush 64, 2) := by decide +kernel
theorem dX0_init_48 : decode cX0_init 48 = .ok (.newarray .int, 2) := by decide +kernel
theorem dX0_init_50 : decode cX0_init 50 = .ok (.putfield 31, 3) := by decide +kernel
theorem dX0_init_53 : decode cX0_init 53 = .ok (.aload_n 0, 1) := by decide +kernel
theorem dX0_init_54 : decode cX0_init 54 = .ok (.bipush 64, 2) := by decide +kernel
theorem dX0_init_56 : decode cX0_init 56 = .ok (.newarray .int, 2) := by decide +kernel
theorem dX0_init_58 : decode cX0_init 58 = .ok (.putfield 34, 3) := by decide +kernel
theorem dX0_init_61 : decode cX0_init 61 = .ok (.aload_n 0, 1) := by decide +kernel
theorem dX0_init_62 : decode cX0_init 62 = .ok (.bipush 64, 2) := by decide +kernel
theorem dX0_init_64 : decode cX0_init 64 = .ok (.newarray .int, 2) := by decide +kernel
theorem dX0_init_66 : decode cX0_init 66 = .ok (.putfield 37, 3) := by decide +kernel
theorem dX0_init_69 : decode cX0_init 69 = .ok (.aload_n 0, 1) := by decide +kernel
theorem dX0_init_70 : decode cX0_init 70 = .ok (.bipush 64, 2) := by decide +kernel
theorem dX0_init_72 : decode cX0_init 72 = .ok (.newarray .int, 2) := by decide +kernel
theorem dX0_init_74 : decode cX0_init 74 = .ok (.putfield 40, 3) := by decide +kernel
theorem dX0_init_77 : decode cX0_init 77 = .ok (.aload_n 0, 1) := by decide +kernel
theorem dX0_init_78 : decode cX0_init 78 = .ok (.iconst 5, 1) := by decide +kernel
theorem dX0_init_79 : decode cX0_init 79 = .ok (.newarray .int, 2) := by decide +kernel
theorem dX0_init_81 : decode cX0_init 81 = .ok (.putfield 43, 3) := by decide +kernel
theorem dX0_init_84 : decode cX0_init 84 = .ok (.aload_n 0, 1) := by decide +kernel
theorem dX0_init_85 : decode cX0_init 85 = .ok (.new 46, 3) := by decide +kernel
theorem dX0_init_88 : decode cX0_init 88 = .ok (.dup, 1) := by decide +kernel
theorem dX0_init_89 : decode cX0_init 89 = .ok (.invokespecial 48, 3) := by decide +kernel
theorem dX0_init_92 : decode cX0_init 92 = .ok (.putfield 49, 3) := by decide +kernel
theorem dX0_init_95 : decode cX0_init 95 = .ok (.return_, 1) := by decide +kernel
theorem dX0_begin_0 : decode cX0_begin 0 = .ok (.aload_n 0, 1) := by decide +kernel
theorem dX0_begin_1 : decode cX0_begin 1 = .ok (.iconst 1, 1) := by decide +kernel
theorem dX0_begin_2 : decode cX0_begin 2 = .ok (.putfield 9, 3) := by decide +kernel
theorem dX0_begin_5 : decode cX0_begin 5 = .ok (.aload_n 0, 1) := by decide +kernel
theorem dX0_begin_6 : decode cX0_begin 6 = .ok (.bipush 8, 2) := by decide +kernel
theorem dX0_begin_8 : decode cX0_begin 8 = .ok (.putfield 15, 3) := by decide +kernel
theorem dX0_begin_11 : decode cX0_begin 11 = .ok (.aload_n 0, 1) := by decide +kernel
theorem dX0_begin_12 : decode cX0_begin 12 = .ok (.bipush 8, 2) := by decide +kernel
theorem dX0_begin_14 : decode cX0_begin 14 = .ok (.putfield 18, 3) := by decide +kernel
theorem dX0_begin_17 : decode cX0_begin 17 = .ok (.aload_n 0, 1) := by decide +kernel
theorem dX0_begin_18 : decode cX0_begin 18 = .ok (.iconst 0, 1) := by decide +kernel
theorem dX0_begin_19 : decode cX0_begin 19 = .ok (.putfield 53, 3) := by decide +kernel
theorem dX0_begin_22 : decode cX0_begin 22 = .ok (.aload_n 0, 1) := by decide +kernel
theorem dX0_begin_23 : decode cX0_begin 23 = .ok (.iconst 0, 1) := by decide +kernel
theorem dX0_begin_24 : decode cX0_begin 24 = .ok (.putfield 56, 3) := by decide +kernel
theorem dX0_begin_27 : decode cX0_begin 27 = .ok (.aload_n 0, 1) := by decide +kernel
theorem dX0_begin_28 : decode cX0_begin 28 = .ok (.getfield 49, 3) := by decide +kernel
theorem dX0_begin_31 : decode cX0_begin 31 = .ok (.iconst 0, 1) := by decide +kernel
theorem dX0_begin_32 : decode cX0_begin 32 = .ok (.putfield 59, 3) := by decide +kernel
theorem dX0_begin_35 : decode cX0_begin 35 = .ok (.iconst 0, 1) := by decide +kernel
theorem dX0_begin_36 : decode cX0_begin 36 = .ok (.istore_n 1, 1) := by decide +kernel
theorem dX0_begin_37 : decode cX0_begin 37 = .ok (.iload_n 1, 1) := by decide +kernel
theorem dX0_begin_38 : decode cX0_begin 38 = .ok (.iconst 5, 1) := by decide +kernel
theorem dX0_begin_39 : decode cX0_begin 39 = .ok (.if_icmp .ge 16, 3) := by decide +kernel
theorem dX0_begin_42 : decode cX0_begin 42 = .ok (.aload_n 0, 1) := by decide +kernel
theorem dX0_begin_43 : decode cX0_begin 43 = .ok (.getfield 43, 3) := by decide +kernel
theorem dX0_begin_46 : decode cX0_begin 46 = .ok (.iload_n 1, 1) := by decide +kernel
theorem dX0_begin_47 : decode cX0_begin 47 = .ok (.iconst 0, 1) := by decide +kernel
theorem dX0_begin_48 : decode cX0_begin 48 = .ok (.iastore, 1) := by decide +kernel
theorem dX0_begin_49 : decode cX0_begin 49 = .ok (.iinc 1 1, 3) := by decide +kernel
theorem dX0_begin_52 : decode cX0_begin 52 = .ok (.goto (-15), 3) := by decide +kernel
theorem dX0_begin_55 : decode cX0_begin 55 = .ok (.return_, 1) := by decide +kernel
theorem dX0_becomes_0 : decode cX0_becomes 0 = .ok (.aload_n 0, 1) := by decide +kernel
theorem dX0_becomes_1 : decode cX0_becomes 1 = .ok (.aload_n 1, 1) := by decide +kernel
theorem dX0_becomes_2 : decode cX0_becomes 2 = .ok (.getfield 9, 3) := by decide +kernel
theorem dX0_becomes_5 : decode cX0_becomes 5 = .ok (.putfield 9, 3) := by decide +kernel
theorem dX0_becomes_8 : decode cX0_becomes 8 = .ok (.aload_n 0, 1) := by decide +kernel
theorem dX0_becomes_9 : decode cX0_becomes 9 = .ok (.aload_n 1, 1) := by decide +kernel
theorem dX0_becomes_10 : decode cX0_becomes 10 = .ok (.getfield 15, 3) := by decide +kernel
theorem dX0_becomes_13 : decode cX0_becomes 13 = .ok (.putfield 15, 3) := by decide +kernel
theorem dX0_becomes_16 : decode cX0_becomes 16 = .ok (.aload_n 0, 1) := by decide +kernel
theorem dX0_becomes_17 : decode cX0_becomes 17 = .ok (.aload_n 1, 1) := by decide +kernel
theorem dX0_becomes_18 : decode cX0_becomes 18 = .ok (.getfield 18, 3) := by decide +kernel
theorem dX0_becomes_21 : decode cX0_becomes 21 = .ok (.putfield 18, 3) := by decide +kernel
theorem dX0_becomes_24 : decode cX0_becomes 24 = .ok (.aload_n 0, 1) := by decide +kernel
theorem dX0_becomes_25 : decode cX0_becomes 25 = .ok (.aload_n 1, 1) := by decide +kernel
theorem dX0_becomes_26 : decode cX0_becomes 26 = .ok (.getfield 53, 3) := by decide +kernel
theorem dX0_becomes_29 : decode cX0_becomes 29 = .ok (.putfield 53, 3) := by decide +kernel
theorem dX0_becomes_32 : decode cX0_becomes 32 = .ok (.aload_n 0, 1) := by decide +kernel
theorem dX0_becomes_33 : decode cX0_becomes 33 = .ok (.aload_n 1, 1) := by decide +kernel
theorem dX0_becomes_34 : decode cX0_becomes 34 = .ok (.getfield 56, 3) := by decide +kernel
theorem dX0_becomes_37 : decode cX0_becomes 37 = .ok (.putfield 56, 3) := by decide +kernel
theorem dX0_becomes_40 : decode cX0_becomes 40 = .ok (.aload_n 1, 1) := by decide +kernel
theorem dX0_becomes_41 : decode cX0_becomes 41 = .ok (.getfield 21, 3) := by decide +kernel
theorem dX0_becomes_44 : decode cX0_becomes 44 = .ok (.iconst 0, 1) := by decide +kernel
theorem dX0_becomes_45 : decode cX0_becomes 45 = .ok (.aload_n 0, 1) := by decide +kernel
theorem dX0_becomes_46 : decode cX0_becomes 46 = .ok (.getfield 21, 3) := by decide +kernel
theorem dX0_becomes_49 : decode cX0_becomes 49 = .ok (.iconst 0, 1) := by decide +kernel
theorem dX0_becomes_50 : decode cX0_becomes 50 = .ok (.aload_n 0, 1) := by decide +kernel
theorem dX0_becomes_51 : decode cX0_becomes 51 = .ok (.getfield 56, 3) := by decide +kernel
theorem dX0_becomes_54 : decode cX0_becomes 54 = .ok (.invokestatic 62, 3) := by decide +kernel
theorem dX0_becomes_57 : decode cX0_becomes 57 = .ok (.aload_n 1, 1) := by decide +kernel
theorem dX0_becomes_58 : decode cX0_becomes 58 = .ok (.getfield 25, 3) := by decide +kernel
theorem dX0_becomes_61 : decode cX0_becomes 61 = .ok (.iconst 0, 1) := by decide +kernel
theorem dX0_becomes_62 : decode cX0_becomes 62 = .ok (.aload_n 0, 1) := by decide +kernel
theorem dX0_becomes_63 : decode cX0_becomes 63 = .ok (.getfield 25, 3) := by decide +kernel
theorem dX0_becomes_66 : decode cX0_becomes 66 = .ok (.iconst 0, 1) := by decide +kernel
theorem dX0_becomes_67 : decode cX0_becomes 67 = .ok (.aload_n 0, 1) := by decide +kernel
theorem dX0_becomes_68 : decode cX0_becomes 68 = .ok (.getfield 56, 3) := by decide +kernel
theorem dX0_becomes_71 : decode cX0_becomes 71 = .ok (.invokestatic 62, 3) := by decide +kernel
theorem dX0_becomes_74 : decode cX0_becomes 74 = .ok (.aload_n 1, 1) := by decide +kernel
theorem dX0_becomes_75 : decode cX0_becomes 75 = .ok (.getfield 28, 3) := by decide +kernel
theorem dX0_becomes_78 : decode cX0_becomes 78 = .ok (.iconst 0, 1) := by decide +kernel
theorem dX0_becomes_79 : decode cX0_becomes 79 = .ok (.aload_n 0, 1) := by decide +kernel
theorem dX0_becomes_80 : decode cX0_becomes 80 = .ok (.getfield 28, 3) := by decide +kernel
theorem dX0_becomes_83 : decode cX0_becomes 83 = .ok (.iconst 0, 1) := by decide +kernel
theorem dX0_becomes_84 : decode cX0_becomes 84 = .ok (.aload_n 0, 1) := by decide +kernel
theorem dX0_becomes_85 : decode cX0_becomes 85 = .ok (.getfield 56, 3) := by decide +kernel
theorem dX0_becomes_88 : decode cX0_becomes 88 = .ok (.invokestatic 62, 3) := by decide +kernel
theorem dX0_becomes_91 : decode cX0_becomes 91 = .ok (.aload_n 1, 1) := by decide +kernel
theorem dX0_becomes_92 : decode cX0_becomes 92 = .ok (.getfield 31, 3) := by decide +kernel
theorem dX0_becomes_95 : decode cX0_becomes 95 = .ok (.iconst 0, 1) := by decide +kernel
theorem dX0_becomes_96 : decode cX0_becomes 96 = .ok (.aload_n 0, 1) := by decide +kernel
theorem dX0_becomes_97 : decode cX0_becomes 97 = .ok (.getfield 31, 3) := by decide +kernel
theorem dX0_becomes_100 : decode cX0_becomes 100 = .ok (.iconst 0, 1) := by decide +kernel
theorem dX0_becomes_101 : decode cX0_becomes 101 = .ok (.aload_n 0, 1) := by decide +kernel
theorem dX0_becomes_102 : decode cX0_becomes 102 = .ok (.getfield 56, 3) := by decide +kernel
theorem dX0_becomes_105 : decode cX0_becomes 105 = .ok (.invokestatic 62, 3) := by decide +kernel
theorem dX0_becomes_108 : decode cX0_becomes 108 = .ok (.aload_n 1, 1) := by decide +kernel
theorem dX0_becomes_109 : decode cX0_becomes 109 = .ok (.getfield 34, 3) := by decide +kernel
theorem dX0_becomes_112 : decode cX0_becomes 112 = .ok (.iconst 0, 1) := by decide +kernel
theorem dX0_becomes_113 : decode cX0_becomes 113 = .ok (.aload_n 0, 1) := by decide +kernel
theorem dX0_becomes_114 : decode cX0_becomes 114 = .ok (.getfield 34, 3) := by decide +kernel
theorem dX0_becomes_117 : decode cX0_becomes 117 = .ok (.iconst 0, 1) := by decide +kernel
theorem dX0_becomes_118 : decode cX0_becomes 118 = .ok (.aload_n 0, 1) := by decide +kernel
theorem dX0_becomes_119 : decode cX0_becomes 119 = .ok (.getfield 56, 3) := by decide +kernel
theorem dX0_becomes_122 : decode cX0_becomes 122 = .ok (.invokestatic 62, 3) := by decide +kernel
theorem dX0_becomes_125 : decode cX0_becomes 125 = .ok (.aload_n 1, 1) := by decide +kernel
theorem dX0_becomes_126 : decode cX0_becomes 126 = .ok (.getfield 37, 3) := by decide +kernel
theorem dX0_becomes_129 : decode cX0_becomes 129 = .ok (.iconst 0, 1) := by decide +kernel
theorem dX0_becomes_130 : decode cX0_becomes 130 = .ok (.aload_n 0, 1) := by decide +kernel
theorem dX0_becomes_131 : decode cX0_becomes 131 = .ok (.getfield 37, 3) := by decide +kernel
theorem dX0_becomes_134 : decode cX0_becomes 134 = .ok (.iconst 0, 1) := by decide +kernel
theorem dX0_becomes_135 : decode cX0_becomes 135 = .ok (.aload_n 0, 1) := by decide +kernel
theorem dX0_becomes_136 : decode cX0_becomes 136 = .ok (.getfield 56, 3) := by decide +kernel
theorem dX0_becomes_139 : decode cX0_becomes 139 = .ok (.invokestatic 62, 3) := by decide +kernel
theorem dX0_becomes_142 : decode cX0_becomes 142 = .ok (.aload_n 1, 1) := by decide +kernel
theorem dX0_becomes_143 : decode cX0_becomes 143 = .ok (.getfield 40, 3) := by decide +kernel
theorem dX0_becomes_146 : decode cX0_becomes 146 = .ok (.iconst 0, 1) := by decide +kernel
theorem dX0_becomes_147 : decode cX0_becomes 147 = .ok (.aload_n 0, 1) := by decide +kernel
theorem dX0_becomes_148 : decode cX0_becomes 148 = .ok (.getfield 40, 3) := by decide +kernel
theorem dX0_becomes_151 : decode cX0_becomes 151 = .ok (.iconst 0, 1) := by decide +kernel
theorem dX0_becomes_152 : decode cX0_becomes 152 = .ok (.aload_n 0, 1) := by decide +kernel
theorem dX0_becomes_153 : decode cX0_becomes 153 = .ok (.getfield 56, 3) := by decide +kernel
theorem dX0_becomes_156 : decode cX0_becomes 156 = .ok (.invokestatic 62, 3) := by decide +kernel
theorem dX0_becomes_159 : decode cX0_becomes 159 = .ok (.aload_n 1, 1) := by decide +kernel
theorem dX0_becomes_160 : decode cX0_becomes 160 = .ok (.getfield 43, 3) := by decide +kernel
theorem dX0_becomes_163 : decode cX0_becomes 163 = .ok (.iconst 0, 1) := by decide +kernel
theorem dX0_becomes_164 : decode cX0_becomes 164 = .ok (.aload_n 0, 1) := by decide +kernel
theorem dX0_becomes_165 : decode cX0_becomes 165 = .ok (.getfield 43, 3) := by decide +kernel
theorem dX0_becomes_168 : decode cX0_becomes 168 = .ok (.iconst 0, 1) := by decide +kernel
theorem dX0_becomes_169 : decode cX0_becomes 169 = .ok (.iconst 5, 1) := by decide +kernel
theorem dX0_becomes_170 : decode cX0_becomes 170 = .ok (.invokestatic 62, 3) := by decide +kernel
theorem dX0_becomes_173 : decode cX0_becomes 173 = .ok (.aload_n 0, 1) := by decide +kernel
theorem dX0_becomes_174 : decode cX0_becomes 174 = .ok (.getfield 49, 3) := by decide +kernel
theorem dX0_becomes_177 : decode cX0_becomes 177 = .ok (.aload_n 1, 1) := by decide +kernel
theorem dX0_becomes_178 : decode cX0_becomes 178 = .ok (.getfield 49, 3) := by decide +kernel
theorem dX0_becomes_181 : decode cX0_becomes 181 = .ok (.invokevirtual 68, 3) := by decide +kernel
theorem dX0_becomes_184 : decode cX0_becomes 184 = .ok (.return_, 1) := by decide +kernel
theorem dX0_addLetter_0 : decode cX0_addLetter 0 = .ok (.aload_n 0, 1) := by decide +kernel
theorem dX0_addLetter_1 : decode cX0_addLetter 1 = .ok (.getfield 56, 3) := by decide +kernel
theorem dX0_addLetter_4 : decode cX0_addLetter 4 = .ok (.bipush 64, 2) := by decide +kernel
theorem dX0_addLetter_6 : decode cX0_addLetter 6 = .ok (.if_icmp .lt 6, 3) := by decide +kernel
theorem dX0_addLetter_9 : decode cX0_addLetter 9 = .ok (.bipush (-3), 2) := by decide +kernel
theorem dX0_addLetter_11 : decode cX0_addLetter 11 = .ok (.ireturn, 1) := by decide +kernel
theorem dX0_addLetter_12 : decode cX0_addLetter 12 = .ok (.aload_n 0, 1) := by decide +kernel
theorem dX0_addLetter_13 : decode cX0_addLetter 13 = .ok (.getfield 56, 3) := by decide +kernel
theorem dX0_addLetter_16 : decode cX0_addLetter 16 = .ok (.istore 4, 2) := by decide +kernel
theorem dX0_addLetter_18 : decode cX0_addLetter 18 = .ok (.aload_n 0, 1) := by decide +kernel
theorem dX0_addLetter_19 : decode cX0_addLetter 19 = .ok (.dup, 1) := by decide +kernel
theorem dX0_addLetter_20 : decode cX0_addLetter 20 = .ok (.getfield 56, 3) := by decide +kernel
theorem dX0_addLetter_23 : decode cX0_addLetter 23 = .ok (.iconst 1, 1) := by decide +kernel
theorem dX0_addLetter_24 : decode cX0_addLetter 24 = .ok (.iadd, 1) := by decide +kernel
theorem dX0_addLetter_25 : decode cX0_addLetter 25 = .ok (.putfield 56, 3) := by decide +kernel
theorem dX0_addLetter_28 : decode cX0_addLetter 28 = .ok (.aload_n 0, 1) := by decide +kernel
theorem dX0_addLetter_29 : decode cX0_addLetter 29 = .ok (.getfield 21, 3) := by decide +kernel
theorem dX0_addLetter_32 : decode cX0_addLetter 32 = .ok (.iload 4, 2) := by decide +kernel
theorem dX0_addLetter_34 : decode cX0_addLetter 34 = .ok (.iconst 0, 1) := by decide +kernel
theorem dX0_addLetter_35 : decode cX0_addLetter 35 = .ok (.iastore, 1) := by decide +kernel
theorem dX0_addLetter_36 : decode cX0_addLetter 36 = .ok (.aload_n 0, 1) := by decide +kernel
theorem dX0_addLetter_37 : decode cX0_addLetter 37 = .ok (.getfield 43, 3) := by decide +kernel
theorem dX0_addLetter_40 : decode cX0_addLetter 40 = .ok (.iconst 0, 1) := by decide +kernel
theorem dX0_addLetter_41 : decode cX0_addLetter 41 = .ok (.dup2, 1) := by decide +kernel
theorem dX0_addLetter_42 : decode cX0_addLetter 42 = .ok (.iaload, 1) := by decide +kernel
theorem dX0_addLetter_43 : decode cX0_addLetter 43 = .ok (.iconst 1, 1) := by decide +kernel
theorem dX0_addLetter_44 : decode cX0_addLetter 44 = .ok (.iadd, 1) := by decide +kernel
theorem dX0_addLetter_45 : decode cX0_addLetter 45 = .ok (.iastore, 1) := by decide +kernel
theorem dX0_addLetter_46 : decode cX0_addLetter 46 = .ok (.aload_n 0, 1) := by decide +kernel
theorem dX0_addLetter_47 : decode cX0_addLetter 47 = .ok (.getfield 25, 3) := by decide +kernel
theorem dX0_addLetter_50 : decode cX0_addLetter 50 = .ok (.iload 4, 2) := by decide +kernel
theorem dX0_addLetter_52 : decode cX0_addLetter 52 = .ok (.iload_n 1, 1) := by decide +kernel
theorem dX0_addLetter_53 : decode cX0_addLetter 53 = .ok (.iastore, 1) := by decide +kernel
theorem dX0_addLetter_54 : decode cX0_addLetter 54 = .ok (.aload_n 0, 1) := by decide +kernel
theorem dX0_addLetter_55 : decode cX0_addLetter 55 = .ok (.getfield 28, 3) := by decide +kernel
theorem dX0_addLetter_58 : decode cX0_addLetter 58 = .ok (.iload 4, 2) := by decide +kernel
theorem dX0_addLetter_60 : decode cX0_addLetter 60 = .ok (.iload_n 2, 1) := by decide +kernel
theorem dX0_addLetter_61 : decode cX0_addLetter 61 = .ok (.iastore, 1) := by decide +kernel
theorem dX0_addLetter_62 : decode cX0_addLetter 62 = .ok (.aload_n 0, 1) := by decide +kernel
theorem dX0_addLetter_63 : decode cX0_addLetter 63 = .ok (.getfield 31, 3) := by decide +kernel
theorem dX0_addLetter_66 : decode cX0_addLetter 66 = .ok (.iload 4, 2) := by decide +kernel
theorem dX0_addLetter_68 : decode cX0_addLetter 68 = .ok (.iload_n 3, 1) := by decide +kernel
theorem dX0_addLetter_69 : decode cX0_addLetter 69 = .ok (.iastore, 1) := by decide +kernel
theorem dX0_addLetter_70 : decode cX0_addLetter 70 = .ok (.aload_n 0, 1) := by decide +kernel
theorem dX0_addLetter_71 : decode cX0_addLetter 71 = .ok (.getfield 34, 3) := by decide +kernel
theorem dX0_addLetter_74 : decode cX0_addLetter 74 = .ok (.iload 4, 2) := by decide +kernel
theorem dX0_addLetter_76 : decode cX0_addLetter 76 = .ok (.aload_n 0, 1) := by decide +kernel
theorem dX0_addLetter_77 : decode cX0_addLetter 77 = .ok (.getfield 53, 3) := by decide +kernel
theorem dX0_addLetter_80 : decode cX0_addLetter 80 = .ok (.iastore, 1) := by decide +kernel
theorem dX0_addLetter_81 : decode cX0_addLetter 81 = .ok (.aload_n 0, 1) := by decide +kernel
theorem dX0_addLetter_82 : decode cX0_addLetter 82 = .ok (.getfield 37, 3) := by decide +kernel
theorem dX0_addLetter_85 : decode cX0_addLetter 85 = .ok (.iload 4, 2) := by decide +kernel
theorem dX0_addLetter_87 : decode cX0_addLetter 87 = .ok (.bipush (-9), 2) := by decide +kernel
theorem dX0_addLetter_89 : decode cX0_addLetter 89 = .ok (.iastore, 1) := by decide +kernel
theorem dX0_addLetter_90 : decode cX0_addLetter 90 = .ok (.aload_n 0, 1) := by decide +kernel
theorem dX0_addLetter_91 : decode cX0_addLetter 91 = .ok (.getfield 40, 3) := by decide +kernel
theorem dX0_addLetter_94 : decode cX0_addLetter 94 = .ok (.iload 4, 2) := by decide +kernel
theorem dX0_addLetter_96 : decode cX0_addLetter 96 = .ok (.iconst 0, 1) := by decide +kernel
theorem dX0_addLetter_97 : decode cX0_addLetter 97 = .ok (.iastore, 1) := by decide +kernel
theorem dX0_addLetter_98 : decode cX0_addLetter 98 = .ok (.iload 4, 2) := by decide +kernel
theorem dX0_addLetter_100 : decode cX0_addLetter 100 = .ok (.ireturn, 1) := by decide +kernel
theorem dX0_letterAt_0 : decode cX0_letterAt 0 = .ok (.iconst 0, 1) := by decide +kernel
theorem dX0_letterAt_1 : decode cX0_letterAt 1 = .ok (.istore_n 2, 1) := by decide +kernel
theorem dX0_letterAt_2 : decode cX0_letterAt 2 = .ok (.iload_n 2, 1) := by decide +kernel
theorem dX0_letterAt_3 : decode cX0_letterAt 3 = .ok (.aload_n 0, 1) := by decide +kernel
theorem dX0_letterAt_4 : decode cX0_letterAt 4 = .ok (.getfield 56, 3) := by decide +kernel
theorem dX0_letterAt_7 : decode cX0_letterAt 7 = .ok (.if_icmp .ge 30, 3) := by decide +kernel
theorem dX0_letterAt_10 : decode cX0_letterAt 10 = .ok (.aload_n 0, 1) := by decide +kernel
theorem dX0_letterAt_11 : decode cX0_letterAt 11 = .ok (.getfield 21, 3) := by decide +kernel
theorem dX0_letterAt_14 : decode cX0_letterAt 14 = .ok (.iload_n 2, 1) := by decide +kernel
theorem dX0_letterAt_15 : decode cX0_letterAt 15 = .ok (.iaload, 1) := by decide +kernel
theorem dX0_letterAt_16 : decode cX0_letterAt 16 = .ok (.ifCond .ne 15, 3) := by decide +kernel
theorem dX0_letterAt_19 : decode cX0_letterAt 19 = .ok (.aload_n 0, 1) := by decide +kernel
theorem dX0_letterAt_20 : decode cX0_letterAt 20 = .ok (.getfield 25, 3) := by decide +kernel
theorem dX0_letterAt_23 : decode cX0_letterAt 23 = .ok (.iload_n 2, 1) := by decide +kernel
theorem dX0_letterAt_24 : decode cX0_letterAt 24 = .ok (.iaload, 1) := by decide +kernel
theorem dX0_letterAt_25 : decode cX0_letterAt 25 = .ok (.iload_n 1, 1) := by decide +kernel
theorem dX0_letterAt_26 : decode cX0_letterAt 26 = .ok (.if_icmp .ne 5, 3) := by decide +kernel
theorem dX0_letterAt_29 : decode cX0_letterAt 29 = .ok (.iload_n 2, 1) := by decide +kernel
theorem dX0_letterAt_30 : decode cX0_letterAt 30 = .ok (.ireturn, 1) := by decide +kernel
theorem dX0_letterAt_31 : decode cX0_letterAt 31 = .ok (.iinc 2 1, 3) := by decide +kernel
theorem dX0_letterAt_34 : decode cX0_letterAt 34 = .ok (.goto (-32), 3) := by decide +kernel
theorem dX0_letterAt_37 : decode cX0_letterAt 37 = .ok (.bipush (-9), 2) := by decide +kernel
theorem dX0_letterAt_39 : decode cX0_letterAt 39 = .ok (.ireturn, 1) := by decide +kernel
theorem dX0_queuedLetter_0 : decode cX0_queuedLetter 0 = .ok (.iconst 0, 1) := by decide +kernel
theorem dX0_queuedLetter_1 : decode cX0_queuedLetter 1 = .ok (.istore_n 3, 1) := by decide +kernel
theorem dX0_queuedLetter_2 : decode cX0_queuedLetter 2 = .ok (.iconst 0, 1) := by decide +kernel
theorem dX0_queuedLetter_3 : decode cX0_queuedLetter 3 = .ok (.istore 4, 2) := by decide +kernel
theorem dX0_queuedLetter_5 : decode cX0_queuedLetter 5 = .ok (.iload 4, 2) := by decide +kernel
theorem dX0_queuedLetter_7 : decode cX0_queuedLetter 7 = .ok (.aload_n 0, 1) := by decide +kernel
theorem dX0_queuedLetter_8 : decode cX0_queuedLetter 8 = .ok (.getfield 49, 3) := by decide +kernel
theorem dX0_queuedLetter_11 : decode cX0_queuedLetter 11 = .ok (.getfield 59, 3) := by decide +kernel
theorem dX0_queuedLetter_14 : decode cX0_queuedLetter 14 = .ok (.if_icmp .ge 46, 3) := by decide +kernel
theorem dX0_queuedLetter_17 : decode cX0_queuedLetter 17 = .ok (.aload_n 0, 1) := by decide +kernel
theorem dX0_queuedLetter_18 : decode cX0_queuedLetter 18 = .ok (.getfield 49, 3) := by decide +kernel
theorem dX0_queuedLetter_21 : decode cX0_queuedLetter 21 = .ok (.getfield 72, 3) := by decide +kernel
theorem dX0_queuedLetter_24 : decode cX0_queuedLetter 24 = .ok (.iload 4, 2) := by decide +kernel
theorem dX0_queuedLetter_26 : decode cX0_queuedLetter 26 = .ok (.iaload, 1) := by decide +kernel
theorem dX0_queuedLetter_27 : decode cX0_queuedLetter 27 = .ok (.istore 5, 2) := by decide +kernel
theorem dX0_queuedLetter_29 : decode cX0_queuedLetter 29 = .ok (.aload_n 0, 1) := by decide +kernel
theorem dX0_queuedLetter_30 : decode cX0_queuedLetter 30 = .ok (.getfield 28, 3) := by decide +kernel
theorem dX0_queuedLetter_33 : decode cX0_queuedLetter 33 = .ok (.iload 5, 2) := by decide +kernel
theorem dX0_queuedLetter_35 : decode cX0_queuedLetter 35 = .ok (.iaload, 1) := by decide +kernel
theorem dX0_queuedLetter_36 : decode cX0_queuedLetter 36 = .ok (.iload_n 1, 1) := by decide +kernel
theorem dX0_queuedLetter_37 : decode cX0_queuedLetter 37 = .ok (.if_icmp .eq 6, 3) := by decide +kernel
theorem dX0_queuedLetter_40 : decode cX0_queuedLetter 40 = .ok (.goto 14, 3) := by decide +kernel
theorem dX0_queuedLetter_43 : decode cX0_queuedLetter 43 = .ok (.iload_n 3, 1) := by decide +kernel
theorem dX0_queuedLetter_44 : decode cX0_queuedLetter 44 = .ok (.iload_n 2, 1) := by decide +kernel
theorem dX0_queuedLetter_45 : decode cX0_queuedLetter 45 = .ok (.if_icmp .ne 6, 3) := by decide +kernel
theorem dX0_queuedLetter_48 : decode cX0_queuedLetter 48 = .ok (.iload 5, 2) := by decide +kernel
theorem dX0_queuedLetter_50 : decode cX0_queuedLetter 50 = .ok (.ireturn, 1) := by decide +kernel
theorem dX0_queuedLetter_51 : decode cX0_queuedLetter 51 = .ok (.iinc 3 1, 3) := by decide +kernel
theorem dX0_queuedLetter_54 : decode cX0_queuedLetter 54 = .ok (.iinc 4 1, 3) := by decide +kernel
theorem dX0_queuedLetter_57 : decode cX0_queuedLetter 57 = .ok (.goto (-52), 3) := by decide +kernel
theorem dX0_queuedLetter_60 : decode cX0_queuedLetter 60 = .ok (.bipush (-9), 2) := by decide +kernel
theorem dX0_queuedLetter_62 : decode cX0_queuedLetter 62 = .ok (.ireturn, 1) := by decide +kernel
theorem dX0_countLive_0 : decode cX0_countLive 0 = .ok (.aload_n 0, 1) := by decide +kernel
theorem dX0_countLive_1 : decode cX0_countLive 1 = .ok (.getfield 43, 3) := by decide +kernel
theorem dX0_countLive_4 : decode cX0_countLive 4 = .ok (.iconst 0, 1) := by decide +kernel
theorem dX0_countLive_5 : decode cX0_countLive 5 = .ok (.iaload, 1) := by decide +kernel
theorem dX0_countLive_6 : decode cX0_countLive 6 = .ok (.aload_n 0, 1) := by decide +kernel
theorem dX0_countLive_7 : decode cX0_countLive 7 = .ok (.getfield 43, 3) := by decide +kernel
theorem dX0_countLive_10 : decode cX0_countLive 10 = .ok (.iconst 1, 1) := by decide +kernel
theorem dX0_countLive_11 : decode cX0_countLive 11 = .ok (.iaload, 1) := by decide +kernel
theorem dX0_countLive_12 : decode cX0_countLive 12 = .ok (.iadd, 1) := by decide +kernel
theorem dX0_countLive_13 : decode cX0_countLive 13 = .ok (.aload_n 0, 1) := by decide +kernel
theorem dX0_countLive_14 : decode cX0_countLive 14 = .ok (.getfield 43, 3) := by decide +kernel
theorem dX0_countLive_17 : decode cX0_countLive 17 = .ok (.iconst 2, 1) := by decide +kernel
theorem dX0_countLive_18 : decode cX0_countLive 18 = .ok (.iaload, 1) := by decide +kernel
theorem dX0_countLive_19 : decode cX0_countLive 19 = .ok (.iadd, 1) := by decide +kernel
theorem dX0_countLive_20 : decode cX0_countLive 20 = .ok (.ireturn, 1) := by decide +kernel
theorem dX0_moveLetter_0 : decode cX0_moveLetter 0 = .ok (.aload_n 0, 1) := by decide +kernel
theorem dX0_moveLetter_1 : decode cX0_moveLetter 1 = .ok (.getfield 43, 3) := by decide +kernel
theorem dX0_moveLetter_4 : decode cX0_moveLetter 4 = .ok (.aload_n 0, 1) := by decide +kernel
theorem dX0_moveLetter_5 : decode cX0_moveLetter 5 = .ok (.getfield 21, 3) := by decide +kernel
theorem dX0_moveLetter_8 : decode cX0_moveLetter 8 = .ok (.iload_n 1, 1) := by decide +kernel
theorem dX0_moveLetter_9 : decode cX0_moveLetter 9 = .ok (.iaload, 1) := by decide +kernel
theorem dX0_moveLetter_10 : decode cX0_moveLetter 10 = .ok (.dup2, 1) := by decide +kernel
theorem dX0_moveLetter_11 : decode cX0_moveLetter 11 = .ok (.iaload, 1) := by decide +kernel
theorem dX0_moveLetter_12 : decode cX0_moveLetter 12 = .ok (.iconst 1, 1) := by decide +kernel
theorem dX0_moveLetter_13 : decode cX0_moveLetter 13 = .ok (.isub, 1) := by decide +kernel
theorem dX0_moveLetter_14 : decode cX0_moveLetter 14 = .ok (.iastore, 1) := by decide +kernel
theorem dX0_moveLetter_15 : decode cX0_moveLetter 15 = .ok (.aload_n 0, 1) := by decide +kernel
theorem dX0_moveLetter_16 : decode cX0_moveLetter 16 = .ok (.getfield 21, 3) := by decide +kernel
theorem dX0_moveLetter_19 : decode cX0_moveLetter 19 = .ok (.iload_n 1, 1) := by decide +kernel
theorem dX0_moveLetter_20 : decode cX0_moveLetter 20 = .ok (.iload_n 2, 1) := by decide +kernel
theorem dX0_moveLetter_21 : decode cX0_moveLetter 21 = .ok (.iastore, 1) := by decide +kernel
theorem dX0_moveLetter_22 : decode cX0_moveLetter 22 = .ok (.aload_n 0, 1) := by decide +kernel
theorem dX0_moveLetter_23 : decode cX0_moveLetter 23 = .ok (.getfield 43, 3) := by decide +kernel
theorem dX0_moveLetter_26 : decode cX0_moveLetter 26 = .ok (.iload_n 2, 1) := by decide +kernel
theorem dX0_moveLetter_27 : decode cX0_moveLetter 27 = .ok (.dup2, 1) := by decide +kernel
theorem dX0_moveLetter_28 : decode cX0_moveLetter 28 = .ok (.iaload, 1) := by decide +kernel
theorem dX0_moveLetter_29 : decode cX0_moveLetter 29 = .ok (.iconst 1, 1) := by decide +kernel
theorem dX0_moveLetter_30 : decode cX0_moveLetter 30 = .ok (.iadd, 1) := by decide +kernel
theorem dX0_moveLetter_31 : decode cX0_moveLetter 31 = .ok (.iastore, 1) := by decide +kernel
theorem dX0_moveLetter_32 : decode cX0_moveLetter 32 = .ok (.return_, 1) := by decide +kernel
theorem dX0_goesBefore_0 : decode cX0_goesBefore 0 = .ok (.iload_n 3, 1) := by decide +kernel
theorem dX0_goesBefore_1 : decode cX0_goesBefore 1 = .ok (.ifCond .eq 39, 3) := by decide +kernel
theorem dX0_goesBefore_4 : decode cX0_goesBefore 4 = .ok (.aload_n 0, 1) := by decide +kernel
theorem dX0_goesBefore_5 : decode cX0_goesBefore 5 = .ok (.getfield 28, 3) := by decide +kernel
theorem dX0_goesBefore_8 : decode cX0_goesBefore 8 = .ok (.iload_n 1, 1) := by decide +kernel
theorem dX0_goesBefore_9 : decode cX0_goesBefore 9 = .ok (.iaload, 1) := by decide +kernel
theorem dX0_goesBefore_10 : decode cX0_goesBefore 10 = .ok (.aload_n 0, 1) := by decide +kernel
theorem dX0_goesBefore_11 : decode cX0_goesBefore 11 = .ok (.getfield 28, 3) := by decide +kernel
theorem dX0_goesBefore_14 : decode cX0_goesBefore 14 = .ok (.iload_n 2, 1) := by decide +kernel
theorem dX0_goesBefore_15 : decode cX0_goesBefore 15 = .ok (.iaload, 1) := by decide +kernel
theorem dX0_goesBefore_16 : decode cX0_goesBefore 16 = .ok (.if_icmp .eq 24, 3) := by decide +kernel
theorem dX0_goesBefore_19 : decode cX0_goesBefore 19 = .ok (.aload_n 0, 1) := by decide +kernel
theorem dX0_goesBefore_20 : decode cX0_goesBefore 20 = .ok (.getfield 28, 3) := by decide +kernel
theorem dX0_goesBefore_23 : decode cX0_goesBefore 23 = .ok (.iload_n 1, 1) := by decide +kernel
theorem dX0_goesBefore_24 : decode cX0_goesBefore 24 = .ok (.iaload, 1) := by decide +kernel
theorem dX0_goesBefore_25 : decode cX0_goesBefore 25 = .ok (.aload_n 0, 1) := by decide +kernel
theorem dX0_goesBefore_26 : decode cX0_goesBefore 26 = .ok (.getfield 28, 3) := by decide +kernel
theorem dX0_goesBefore_29 : decode cX0_goesBefore 29 = .ok (.iload_n 2, 1) := by decide +kernel
theorem dX0_goesBefore_30 : decode cX0_goesBefore 30 = .ok (.iaload, 1) := by decide +kernel
theorem dX0_goesBefore_31 : decode cX0_goesBefore 31 = .ok (.if_icmp .ge 7, 3) := by decide +kernel
theorem dX0_goesBefore_34 : decode cX0_goesBefore 34 = .ok (.iconst 1, 1) := by decide +kernel
theorem dX0_goesBefore_35 : decode cX0_goesBefore 35 = .ok (.goto 4, 3) := by decide +kernel
theorem dX0_goesBefore_38 : decode cX0_goesBefore 38 = .ok (.iconst 0, 1) := by decide +kernel
theorem dX0_goesBefore_39 : decode cX0_goesBefore 39 = .ok (.ireturn, 1) := by decide +kernel
theorem dX0_goesBefore_40 : decode cX0_goesBefore 40 = .ok (.aload_n 0, 1) := by decide +kernel
theorem dX0_goesBefore_41 : decode cX0_goesBefore 41 = .ok (.getfield 31, 3) := by decide +kernel
theorem dX0_goesBefore_44 : decode cX0_goesBefore 44 = .ok (.iload_n 1, 1) := by decide +kernel
theorem dX0_goesBefore_45 : decode cX0_goesBefore 45 = .ok (.iaload, 1) := by decide +kernel
theorem dX0_goesBefore_46 : decode cX0_goesBefore 46 = .ok (.aload_n 0, 1) := by decide +kernel
theorem dX0_goesBefore_47 : decode cX0_goesBefore 47 = .ok (.getfield 31, 3) := by decide +kernel
theorem dX0_goesBefore_50 : decode cX0_goesBefore 50 = .ok (.iload_n 2, 1) := by decide +kernel
theorem dX0_goesBefore_51 : decode cX0_goesBefore 51 = .ok (.iaload, 1) := by decide +kernel
theorem dX0_goesBefore_52 : decode cX0_goesBefore 52 = .ok (.if_icmp .eq 24, 3) := by decide +kernel
theorem dX0_goesBefore_55 : decode cX0_goesBefore 55 = .ok (.aload_n 0, 1) := by decide +kernel
theorem dX0_goesBefore_56 : decode cX0_goesBefore 56 = .ok (.getfield 31, 3) := by decide +kernel
theorem dX0_goesBefore_59 : decode cX0_goesBefore 59 = .ok (.iload_n 1, 1) := by decide +kernel
theorem dX0_goesBefore_60 : decode cX0_goesBefore 60 = .ok (.iaload, 1) := by decide +kernel
theorem dX0_goesBefore_61 : decode cX0_goesBefore 61 = .ok (.aload_n 0, 1) := by decide +kernel
theorem dX0_goesBefore_62 : decode cX0_goesBefore 62 = .ok (.getfield 31, 3) := by decide +kernel
theorem dX0_goesBefore_65 : decode cX0_goesBefore 65 = .ok (.iload_n 2, 1) := by decide +kernel
theorem dX0_goesBefore_66 : decode cX0_goesBefore 66 = .ok (.iaload, 1) := by decide +kernel
theorem dX0_goesBefore_67 : decode cX0_goesBefore 67 = .ok (.if_icmp .le 7, 3) := by decide +kernel
theorem dX0_goesBefore_70 : decode cX0_goesBefore 70 = .ok (.iconst 1, 1) := by decide +kernel
theorem dX0_goesBefore_71 : decode cX0_goesBefore 71 = .ok (.goto 4, 3) := by decide +kernel
theorem dX0_goesBefore_74 : decode cX0_goesBefore 74 = .ok (.iconst 0, 1) := by decide +kernel
theorem dX0_goesBefore_75 : decode cX0_goesBefore 75 = .ok (.ireturn, 1) := by decide +kernel
theorem dX0_goesBefore_76 : decode cX0_goesBefore 76 = .ok (.iload_n 1, 1) := by decide +kernel
theorem dX0_goesBefore_77 : decode cX0_goesBefore 77 = .ok (.iload_n 2, 1) := by decide +kernel
theorem dX0_goesBefore_78 : decode cX0_goesBefore 78 = .ok (.if_icmp .ge 7, 3) := by decide +kernel
theorem dX0_goesBefore_81 : decode cX0_goesBefore 81 = .ok (.iconst 1, 1) := by decide +kernel
theorem dX0_goesBefore_82 : decode cX0_goesBefore 82 = .ok (.goto 4, 3) := by decide +kernel
theorem dX0_goesBefore_85 : decode cX0_goesBefore 85 = .ok (.iconst 0, 1) := by decide +kernel
theorem dX0_goesBefore_86 : decode cX0_goesBefore 86 = .ok (.ireturn, 1) := by decide +kernel
theorem dX1_init_0 : decode cX1_init 0 = .ok (.aload_n 0, 1) := by decide +kernel
theorem dX1_init_1 : decode cX1_init 1 = .ok (.invokespecial 3, 3) := by decide +kernel
theorem dX1_init_4 : decode cX1_init 4 = .ok (.aload_n 0, 1) := by decide +kernel
theorem dX1_init_5 : decode cX1_init 5 = .ok (.bipush 10, 2) := by decide +kernel
theorem dX1_init_7 : decode cX1_init 7 = .ok (.anewarray 9, 3) := by decide +kernel
theorem dX1_init_10 : decode cX1_init 10 = .ok (.putfield 11, 3) := by decide +kernel
theorem dX1_init_13 : decode cX1_init 13 = .ok (.iconst 0, 1) := by decide +kernel
theorem dX1_init_14 : decode cX1_init 14 = .ok (.istore_n 1, 1) := by decide +kernel
theorem dX1_init_15 : decode cX1_init 15 = .ok (.iload_n 1, 1) := by decide +kernel
theorem dX1_init_16 : decode cX1_init 16 = .ok (.bipush 10, 2) := by decide +kernel
theorem dX1_init_18 : decode cX1_init 18 = .ok (.if_icmp .ge 22, 3) := by decide +kernel
theorem dX1_init_21 : decode cX1_init 21 = .ok (.aload_n 0, 1) := by decide +kernel
theorem dX1_init_22 : decode cX1_init 22 = .ok (.getfield 11, 3) := by decide +kernel
theorem dX1_init_25 : decode cX1_init 25 = .ok (.iload_n 1, 1) := by decide +kernel
theorem dX1_init_26 : decode cX1_init 26 = .ok (.new 9, 3) := by decide +kernel
theorem dX1_init_29 : decode cX1_init 29 = .ok (.dup, 1) := by decide +kernel
theorem dX1_init_30 : decode cX1_init 30 = .ok (.invokespecial 17, 3) := by decide +kernel
theorem dX1_init_33 : decode cX1_init 33 = .ok (.aastore, 1) := by decide +kernel
theorem dX1_init_34 : decode cX1_init 34 = .ok (.iinc 1 1, 3) := by decide +kernel
theorem dX1_init_37 : decode cX1_init 37 = .ok (.goto (-22), 3) := by decide +kernel
theorem dX1_init_40 : decode cX1_init 40 = .ok (.return_, 1) := by decide +kernel
theorem dX1_remember_0 : decode cX1_remember 0 = .ok (.aload_n 0, 1) := by decide +kernel
theorem dX1_remember_1 : decode cX1_remember 1 = .ok (.getfield 11, 3) := by decide +kernel
theorem dX1_remember_4 : decode cX1_remember 4 = .ok (.aload_n 0, 1) := by decide +kernel
theorem dX1_remember_5 : decode cX1_remember 5 = .ok (.getfield 18, 3) := by decide +kernel
theorem dX1_remember_8 : decode cX1_remember 8 = .ok (.aaload, 1) := by decide +kernel
theorem dX1_remember_9 : decode cX1_remember 9 = .ok (.aload_n 1, 1) := by decide +kernel
theorem dX1_remember_10 : decode cX1_remember 10 = .ok (.invokevirtual 22, 3) := by decide +kernel
theorem dX1_remember_13 : decode cX1_remember 13 = .ok (.aload_n 0, 1) := by decide +kernel
theorem dX1_remember_14 : decode cX1_remember 14 = .ok (.aload_n 0, 1) := by decide +kernel
theorem dX1_remember_15 : decode cX1_remember 15 = .ok (.getfield 18, 3) := by decide +kernel
theorem dX1_remember_18 : decode cX1_remember 18 = .ok (.bipush 9, 2) := by decide +kernel
theorem dX1_remember_20 : decode cX1_remember 20 = .ok (.if_icmp .ge 12, 3) := by decide +kernel
theorem dX1_remember_23 : decode cX1_remember 23 = .ok (.aload_n 0, 1) := by decide +kernel
theorem dX1_remember_24 : decode cX1_remember 24 = .ok (.getfield 18, 3) := by decide +kernel
theorem dX1_remember_27 : decode cX1_remember 27 = .ok (.iconst 1, 1) := by decide +kernel
theorem dX1_remember_28 : decode cX1_remember 28 = .ok (.iadd, 1) := by decide +kernel
theorem dX1_remember_29 : decode cX1_remember 29 = .ok (.goto 4, 3) := by decide +kernel
theorem dX1_remember_32 : decode cX1_remember 32 = .ok (.iconst 0, 1) := by decide +kernel
theorem dX1_remember_33 : decode cX1_remember 33 = .ok (.putfield 18, 3) := by decide +kernel
theorem dX1_remember_36 : decode cX1_remember 36 = .ok (.aload_n 0, 1) := by decide +kernel
theorem dX1_remember_37 : decode cX1_remember 37 = .ok (.aload_n 0, 1) := by decide +kernel
theorem dX1_remember_38 : decode cX1_remember 38 = .ok (.getfield 26, 3) := by decide +kernel
theorem dX1_remember_41 : decode cX1_remember 41 = .ok (.iconst 1, 1) := by decide +kernel
theorem dX1_remember_42 : decode cX1_remember 42 = .ok (.iadd, 1) := by decide +kernel
theorem dX1_remember_43 : decode cX1_remember 43 = .ok (.bipush 10, 2) := by decide +kernel
theorem dX1_remember_45 : decode cX1_remember 45 = .ok (.invokestatic 29, 3) := by decide +kernel
theorem dX1_remember_48 : decode cX1_remember 48 = .ok (.putfield 26, 3) := by decide +kernel
theorem dX1_remember_51 : decode cX1_remember 51 = .ok (.return_, 1) := by decide +kernel
theorem dX1_giveBack_0 : decode cX1_giveBack 0 = .ok (.aload_n 0, 1) := by decide +kernel
theorem dX1_giveBack_1 : decode cX1_giveBack 1 = .ok (.aload_n 0, 1) := by decide +kernel
theorem dX1_giveBack_2 : decode cX1_giveBack 2 = .ok (.getfield 18, 3) := by decide +kernel
theorem dX1_giveBack_5 : decode cX1_giveBack 5 = .ok (.ifCond .le 12, 3) := by decide +kernel
theorem dX1_giveBack_8 : decode cX1_giveBack 8 = .ok (.aload_n 0, 1) := by decide +kernel
theorem dX1_giveBack_9 : decode cX1_giveBack 9 = .ok (.getfield 18, 3) := by decide +kernel
theorem dX1_giveBack_12 : decode cX1_giveBack 12 = .ok (.iconst 1, 1) := by decide +kernel
theorem dX1_giveBack_13 : decode cX1_giveBack 13 = .ok (.isub, 1) := by decide +kernel
theorem dX1_giveBack_14 : decode cX1_giveBack 14 = .ok (.goto 5, 3) := by decide +kernel
theorem dX1_giveBack_17 : decode cX1_giveBack 17 = .ok (.bipush 9, 2) := by decide +kernel
theorem dX1_giveBack_19 : decode cX1_giveBack 19 = .ok (.putfield 18, 3) := by decide +kernel
theorem dX1_giveBack_22 : decode cX1_giveBack 22 = .ok (.aload_n 1, 1) := by decide +kernel
theorem dX1_giveBack_23 : decode cX1_giveBack 23 = .ok (.aload_n 0, 1) := by decide +kernel
theorem dX1_giveBack_24 : decode cX1_giveBack 24 = .ok (.getfield 11, 3) := by decide +kernel
theorem dX1_giveBack_27 : decode cX1_giveBack 27 = .ok (.aload_n 0, 1) := by decide +kernel
theorem dX1_giveBack_28 : decode cX1_giveBack 28 = .ok (.getfield 18, 3) := by decide +kernel
theorem dX1_giveBack_31 : decode cX1_giveBack 31 = .ok (.aaload, 1) := by decide +kernel
theorem dX1_giveBack_32 : decode cX1_giveBack 32 = .ok (.invokevirtual 22, 3) := by decide +kernel
theorem dX1_giveBack_35 : decode cX1_giveBack 35 = .ok (.aload_n 0, 1) := by decide +kernel
theorem dX1_giveBack_36 : decode cX1_giveBack 36 = .ok (.aload_n 0, 1) := by decide +kernel
theorem dX1_giveBack_37 : decode cX1_giveBack 37 = .ok (.getfield 26, 3) := by decide +kernel
theorem dX1_giveBack_40 : decode cX1_giveBack 40 = .ok (.iconst 1, 1) := by decide +kernel
theorem dX1_giveBack_41 : decode cX1_giveBack 41 = .ok (.isub, 1) := by decide +kernel
theorem dX1_giveBack_42 : decode cX1_giveBack 42 = .ok (.iconst 0, 1) := by decide +kernel
theorem dX1_giveBack_43 : decode cX1_giveBack 43 = .ok (.invokestatic 35, 3) := by decide +kernel
theorem dX1_giveBack_46 : decode cX1_giveBack 46 = .ok (.putfield 26, 3) := by decide +kernel
theorem dX1_giveBack_49 : decode cX1_giveBack 49 = .ok (.return_, 1) := by decide +kernel
theorem dX2_init_0 : decode cX2_init 0 = .ok (.aload_n 0, 1) := by decide +kernel
theorem dX2_init_1 : decode cX2_init 1 = .ok (.invokespecial 3, 3) := by decide +kernel
theorem dX2_init_4 : decode cX2_init 4 = .ok (.aload_n 0, 1) := by decide +kernel
theorem dX2_init_5 : decode cX2_init 5 = .ok (.bipush 64, 2) := by decide +kernel
theorem dX2_init_7 : decode cX2_init 7 = .ok (.newarray .int, 2) := by decide +kernel
theorem dX2_init_9 : decode cX2_init 9 = .ok (.putfield 9, 3) := by decide +kernel
theorem dX2_init_12 : decode cX2_init 12 = .ok (.return_, 1) := by decide +kernel
theorem dX2_becomes_0 : decode cX2_becomes 0 = .ok (.aload_n 1, 1) := by decide +kernel
theorem dX2_becomes_1 : decode cX2_becomes 1 = .ok (.getfield 9, 3) := by decide +kernel
theorem dX2_becomes_4 : decode cX2_becomes 4 = .ok (.iconst 0, 1) := by decide +kernel
theorem dX2_becomes_5 : decode cX2_becomes 5 = .ok (.aload_n 0, 1) := by decide +kernel
theorem dX2_becomes_6 : decode cX2_becomes 6 = .ok (.getfield 9, 3) := by decide +kernel
theorem dX2_becomes_9 : decode cX2_becomes 9 = .ok (.iconst 0, 1) := by decide +kernel
theorem dX2_becomes_10 : decode cX2_becomes 10 = .ok (.aload_n 1, 1) := by decide +kernel
theorem dX2_becomes_11 : decode cX2_becomes 11 = .ok (.getfield 15, 3) := by decide +kernel
theorem dX2_becomes_14 : decode cX2_becomes 14 = .ok (.invokestatic 19, 3) := by decide +kernel
theorem dX2_becomes_17 : decode cX2_becomes 17 = .ok (.aload_n 0, 1) := by decide +kernel
theorem dX2_becomes_18 : decode cX2_becomes 18 = .ok (.aload_n 1, 1) := by decide +kernel
theorem dX2_becomes_19 : decode cX2_becomes 19 = .ok (.getfield 15, 3) := by decide +kernel
theorem dX2_becomes_22 : decode cX2_becomes 22 = .ok (.putfield 15, 3) := by decide +kernel
theorem dX2_becomes_25 : decode cX2_becomes 25 = .ok (.return_, 1) := by decide +kernel
theorem dX2_at_0 : decode cX2_at 0 = .ok (.iload_n 1, 1) := by decide +kernel
theorem dX2_at_1 : decode cX2_at 1 = .ok (.ifCond .lt 20, 3) := by decide +kernel
theorem dX2_at_4 : decode cX2_at 4 = .ok (.iload_n 1, 1) := by decide +kernel
theorem dX2_at_5 : decode cX2_at 5 = .ok (.aload_n 0, 1) := by decide +kernel
theorem dX2_at_6 : decode cX2_at 6 = .ok (.getfield 15, 3) := by decide +kernel
theorem dX2_at_9 : decode cX2_at 9 = .ok (.if_icmp .ge 12, 3) := by decide +kernel
theorem dX2_at_12 : decode cX2_at 12 = .ok (.aload_n 0, 1) := by decide +kernel
theorem dX2_at_13 : decode cX2_at 13 = .ok (.getfield 9, 3) := by decide +kernel
theorem dX2_at_16 : decode cX2_at 16 = .ok (.iload_n 1, 1) := by decide +kernel
theorem dX2_at_17 : decode cX2_at 17 = .ok (.iaload, 1) := by decide +kernel
theorem dX2_at_18 : decode cX2_at 18 = .ok (.goto 5, 3) := by decide +kernel
theorem dX2_at_21 : decode cX2_at 21 = .ok (.bipush (-9), 2) := by decide +kernel
theorem dX2_at_23 : decode cX2_at 23 = .ok (.ireturn, 1) := by decide +kernel
theorem dX2_add_0 : decode cX2_add 0 = .ok (.aload_n 0, 1) := by decide +kernel
theorem dX2_add_1 : decode cX2_add 1 = .ok (.getfield 15, 3) := by decide +kernel
theorem dX2_add_4 : decode cX2_add 4 = .ok (.bipush 64, 2) := by decide +kernel
theorem dX2_add_6 : decode cX2_add 6 = .ok (.if_icmp .ge 23, 3) := by decide +kernel
theorem dX2_add_9 : decode cX2_add 9 = .ok (.aload_n 0, 1) := by decide +kernel
theorem dX2_add_10 : decode cX2_add 10 = .ok (.getfield 9, 3) := by decide +kernel
theorem dX2_add_13 : decode cX2_add 13 = .ok (.aload_n 0, 1) := by decide +kernel
theorem dX2_add_14 : decode cX2_add 14 = .ok (.getfield 15, 3) := by decide +kernel
theorem dX2_add_17 : decode cX2_add 17 = .ok (.iload_n 1, 1) := by decide +kernel
theorem dX2_add_18 : decode cX2_add 18 = .ok (.iastore, 1) := by decide +kernel
theorem dX2_add_19 : decode cX2_add 19 = .ok (.aload_n 0, 1) := by decide +kernel
theorem dX2_add_20 : decode cX2_add 20 = .ok (.dup, 1) := by decide +kernel
theorem dX2_add_21 : decode cX2_add 21 = .ok (.getfield 15, 3) := by decide +kernel
theorem dX2_add_24 : decode cX2_add 24 = .ok (.iconst 1, 1) := by decide +kernel
theorem dX2_add_25 : decode cX2_add 25 = .ok (.iadd, 1) := by decide +kernel
theorem dX2_add_26 : decode cX2_add 26 = .ok (.putfield 15, 3) := by decide +kernel
theorem dX2_add_29 : decode cX2_add 29 = .ok (.return_, 1) := by decide +kernel
theorem dX2_addInOrder_0 : decode cX2_addInOrder 0 = .ok (.aload_n 0, 1) := by decide +kernel
theorem dX2_addInOrder_1 : decode cX2_addInOrder 1 = .ok (.getfield 15, 3) := by decide +kernel
theorem dX2_addInOrder_4 : decode cX2_addInOrder 4 = .ok (.bipush 64, 2) := by decide +kernel
theorem dX2_addInOrder_6 : decode cX2_addInOrder 6 = .ok (.if_icmp .lt 4, 3) := by decide +kernel
theorem dX2_addInOrder_9 : decode cX2_addInOrder 9 = .ok (.return_, 1) := by decide +kernel
theorem dX2_addInOrder_10 : decode cX2_addInOrder 10 = .ok (.aload_n 0, 1) := by decide +kernel
theorem dX2_addInOrder_11 : decode cX2_addInOrder 11 = .ok (.getfield 15, 3) := by decide +kernel
theorem dX2_addInOrder_14 : decode cX2_addInOrder 14 = .ok (.istore 4, 2) := by decide +kernel
theorem dX2_addInOrder_16 : decode cX2_addInOrder 16 = .ok (.iload 4, 2) := by decide +kernel
theorem dX2_addInOrder_18 : decode cX2_addInOrder 18 = .ok (.ifCond .le 43, 3) := by decide +kernel
theorem dX2_addInOrder_21 : decode cX2_addInOrder 21 = .ok (.aload_n 2, 1) := by decide +kernel
theorem dX2_addInOrder_22 : decode cX2_addInOrder 22 = .ok (.iload_n 1, 1) := by decide +kernel
theorem dX2_addInOrder_23 : decode cX2_addInOrder 23 = .ok (.aload_n 0, 1) := by decide +kernel
theorem dX2_addInOrder_24 : decode cX2_addInOrder 24 = .ok (.getfield 9, 3) := by decide +kernel
theorem dX2_addInOrder_27 : decode cX2_addInOrder 27 = .ok (.iload 4, 2) := by decide +kernel
theorem dX2_addInOrder_29 : decode cX2_addInOrder 29 = .ok (.iconst 1, 1) := by decide +kernel
theorem dX2_addInOrder_30 : decode cX2_addInOrder 30 = .ok (.isub, 1) := by decide +kernel
theorem dX2_addInOrder_31 : decode cX2_addInOrder 31 = .ok (.iaload, 1) := by decide +kernel
theorem dX2_addInOrder_32 : decode cX2_addInOrder 32 = .ok (.iload_n 3, 1) := by decide +kernel
theorem dX2_addInOrder_33 : decode cX2_addInOrder 33 = .ok (.invokevirtual 25, 3) := by decide +kernel
theorem dX2_addInOrder_36 : decode cX2_addInOrder 36 = .ok (.ifCond .eq 25, 3) := by decide +kernel
theorem dX2_addInOrder_39 : decode cX2_addInOrder 39 = .ok (.aload_n 0, 1) := by decide +kernel
theorem dX2_addInOrder_40 : decode cX2_addInOrder 40 = .ok (.getfield 9, 3) := by decide +kernel
theorem dX2_addInOrder_43 : decode cX2_addInOrder 43 = .ok (.iload 4, 2) := by decide +kernel
theorem dX2_addInOrder_45 : decode cX2_addInOrder 45 = .ok (.aload_n 0, 1) := by decide +kernel
theorem dX2_addInOrder_46 : decode cX2_addInOrder 46 = .ok (.getfield 9, 3) := by decide +kernel
theorem dX2_addInOrder_49 : decode cX2_addInOrder 49 = .ok (.iload 4, 2) := by decide +kernel
theorem dX2_addInOrder_51 : decode cX2_addInOrder 51 = .ok (.iconst 1, 1) := by decide +kernel
theorem dX2_addInOrder_52 : decode cX2_addInOrder 52 = .ok (.isub, 1) := by decide +kernel
theorem dX2_addInOrder_53 : decode cX2_addInOrder 53 = .ok (.iaload, 1) := by decide +kernel
theorem dX2_addInOrder_54 : decode cX2_addInOrder 54 = .ok (.iastore, 1) := by decide +kernel
theorem dX2_addInOrder_55 : decode cX2_addInOrder 55 = .ok (.iinc 4 (-1), 3) := by decide +kernel
theorem dX2_addInOrder_58 : decode cX2_addInOrder 58 = .ok (.goto (-42), 3) := by decide +kernel
theorem dX2_addInOrder_61 : decode cX2_addInOrder 61 = .ok (.aload_n 0, 1) := by decide +kernel
theorem dX2_addInOrder_62 : decode cX2_addInOrder 62 = .ok (.getfield 9, 3) := by decide +kernel
theorem dX2_addInOrder_65 : decode cX2_addInOrder 65 = .ok (.iload 4, 2) := by decide +kernel
theorem dX2_addInOrder_67 : decode cX2_addInOrder 67 = .ok (.iload_n 1, 1) := by decide +kernel
theorem dX2_addInOrder_68 : decode cX2_addInOrder 68 = .ok (.iastore, 1) := by decide +kernel
theorem dX2_addInOrder_69 : decode cX2_addInOrder 69 = .ok (.aload_n 0, 1) := by decide +kernel
theorem dX2_addInOrder_70 : decode cX2_addInOrder 70 = .ok (.dup, 1) := by decide +kernel
theorem dX2_addInOrder_71 : decode cX2_addInOrder 71 = .ok (.getfield 15, 3) := by decide +kernel
theorem dX2_addInOrder_74 : decode cX2_addInOrder 74 = .ok (.iconst 1, 1) := by decide +kernel
theorem dX2_addInOrder_75 : decode cX2_addInOrder 75 = .ok (.iadd, 1) := by decide +kernel
theorem dX2_addInOrder_76 : decode cX2_addInOrder 76 = .ok (.putfield 15, 3) := by decide +kernel
theorem dX2_addInOrder_79 : decode cX2_addInOrder 79 = .ok (.return_, 1) := by decide +kernel
theorem dX3_init_0 : decode cX3_init 0 = .ok (.aload_n 0, 1) := by decide +kernel
theorem dX3_init_1 : decode cX3_init 1 = .ok (.invokespecial 3, 3) := by decide +kernel
theorem dX3_init_4 : decode cX3_init 4 = .ok (.aload_n 0, 1) := by decide +kernel
theorem dX3_init_5 : decode cX3_init 5 = .ok (.bipush 6, 2) := by decide +kernel
theorem dX3_init_7 : decode cX3_init 7 = .ok (.newarray .int, 2) := by decide +kernel
theorem dX3_init_9 : decode cX3_init 9 = .ok (.putfield 9, 3) := by decide +kernel
theorem dX3_init_12 : decode cX3_init 12 = .ok (.aload_n 0, 1) := by decide +kernel
theorem dX3_init_13 : decode cX3_init 13 = .ok (.bipush 6, 2) := by decide +kernel
theorem dX3_init_15 : decode cX3_init 15 = .ok (.newarray .int, 2) := by decide +kernel
theorem dX3_init_17 : decode cX3_init 17 = .ok (.putfield 15, 3) := by decide +kernel
theorem dX3_init_20 : decode cX3_init 20 = .ok (.return_, 1) := by decide +kernel
theorem dX3_add_0 : decode cX3_add 0 = .ok (.aload_n 0, 1) := by decide +kernel
theorem dX3_add_1 : decode cX3_add 1 = .ok (.getfield 18, 3) := by decide +kernel
theorem dX3_add_4 : decode cX3_add 4 = .ok (.bipush 6, 2) := by decide +kernel
theorem dX3_add_6 : decode cX3_add 6 = .ok (.if_icmp .ge 33, 3) := by decide +kernel
theorem dX3_add_9 : decode cX3_add 9 = .ok (.aload_n 0, 1) := by decide +kernel
theorem dX3_add_10 : decode cX3_add 10 = .ok (.getfield 9, 3) := by decide +kernel
theorem dX3_add_13 : decode cX3_add 13 = .ok (.aload_n 0, 1) := by decide +kernel
theorem dX3_add_14 : decode cX3_add 14 = .ok (.getfield 18, 3) := by decide +kernel
theorem dX3_add_17 : decode cX3_add 17 = .ok (.iload_n 1, 1) := by decide +kernel
theorem dX3_add_18 : decode cX3_add 18 = .ok (.iastore, 1) := by decide +kernel
theorem dX3_add_19 : decode cX3_add 19 = .ok (.aload_n 0, 1) := by decide +kernel
theorem dX3_add_20 : decode cX3_add 20 = .ok (.getfield 15, 3) := by decide +kernel
theorem dX3_add_23 : decode cX3_add 23 = .ok (.aload_n 0, 1) := by decide +kernel
theorem dX3_add_24 : decode cX3_add 24 = .ok (.getfield 18, 3) := by decide +kernel
theorem dX3_add_27 : decode cX3_add 27 = .ok (.iload_n 2, 1) := by decide +kernel
theorem dX3_add_28 : decode cX3_add 28 = .ok (.iastore, 1) := by decide +kernel
theorem dX3_add_29 : decode cX3_add 29 = .ok (.aload_n 0, 1) := by decide +kernel
theorem dX3_add_30 : decode cX3_add 30 = .ok (.dup, 1) := by decide +kernel
theorem dX3_add_31 : decode cX3_add 31 = .ok (.getfield 18, 3) := by decide +kernel
theorem dX3_add_34 : decode cX3_add 34 = .ok (.iconst 1, 1) := by decide +kernel
theorem dX3_add_35 : decode cX3_add 35 = .ok (.iadd, 1) := by decide +kernel
theorem dX3_add_36 : decode cX3_add 36 = .ok (.putfield 18, 3) := by decide +kernel
theorem dX3_add_39 : decode cX3_add 39 = .ok (.return_, 1) := by decide +kernel
theorem dX3_longest_0 : decode cX3_longest 0 = .ok (.iconst 0, 1) := by decide +kernel
theorem dX3_longest_1 : decode cX3_longest 1 = .ok (.istore_n 1, 1) := by decide +kernel
theorem dX3_longest_2 : decode cX3_longest 2 = .ok (.iconst 0, 1) := by decide +kernel
theorem dX3_longest_3 : decode cX3_longest 3 = .ok (.istore_n 2, 1) := by decide +kernel
theorem dX3_longest_4 : decode cX3_longest 4 = .ok (.iload_n 2, 1) := by decide +kernel
theorem dX3_longest_5 : decode cX3_longest 5 = .ok (.aload_n 0, 1) := by decide +kernel
theorem dX3_longest_6 : decode cX3_longest 6 = .ok (.getfield 18, 3) := by decide +kernel
theorem dX3_longest_9 : decode cX3_longest 9 = .ok (.if_icmp .ge 20, 3) := by decide +kernel
theorem dX3_longest_12 : decode cX3_longest 12 = .ok (.iload_n 1, 1) := by decide +kernel
theorem dX3_longest_13 : decode cX3_longest 13 = .ok (.aload_n 0, 1) := by decide +kernel
theorem dX3_longest_14 : decode cX3_longest 14 = .ok (.getfield 9, 3) := by decide +kernel
theorem dX3_longest_17 : decode cX3_longest 17 = .ok (.iload_n 2, 1) := by decide +kernel
theorem dX3_longest_18 : decode cX3_longest 18 = .ok (.iaload, 1) := by decide +kernel
theorem dX3_longest_19 : decode cX3_longest 19 = .ok (.invokestatic 22, 3) := by decide +kernel
theorem dX3_longest_22 : decode cX3_longest 22 = .ok (.istore_n 1, 1) := by decide +kernel
theorem dX3_longest_23 : decode cX3_longest 23 = .ok (.iinc 2 1, 3) := by decide +kernel
theorem dX3_longest_26 : decode cX3_longest 26 = .ok (.goto (-22), 3) := by decide +kernel
theorem dX3_longest_29 : decode cX3_longest 29 = .ok (.iload_n 1, 1) := by decide +kernel
theorem dX3_longest_30 : decode cX3_longest 30 = .ok (.ireturn, 1) := by decide +kernel
theorem dX3_allows_0 : decode cX3_allows 0 = .ok (.iconst 0, 1) := by decide +kernel
theorem dX3_allows_1 : decode cX3_allows 1 = .ok (.istore_n 3, 1) := by decide +kernel
theorem dX3_allows_2 : decode cX3_allows 2 = .ok (.iload_n 3, 1) := by decide +kernel
theorem dX3_allows_3 : decode cX3_allows 3 = .ok (.aload_n 0, 1) := by decide +kernel
theorem dX3_allows_4 : decode cX3_allows 4 = .ok (.getfield 18, 3) := by decide +kernel
theorem dX3_allows_7 : decode cX3_allows 7 = .ok (.if_icmp .ge 31, 3) := by decide +kernel
theorem dX3_allows_10 : decode cX3_allows 10 = .ok (.aload_n 0, 1) := by decide +kernel
theorem dX3_allows_11 : decode cX3_allows 11 = .ok (.getfield 9, 3) := by decide +kernel
theorem dX3_allows_14 : decode cX3_allows 14 = .ok (.iload_n 3, 1) := by decide +kernel
theorem dX3_allows_15 : decode cX3_allows 15 = .ok (.iaload, 1) := by decide +kernel
theorem dX3_allows_16 : decode cX3_allows 16 = .ok (.iload_n 1, 1) := by decide +kernel
theorem dX3_allows_17 : decode cX3_allows 17 = .ok (.if_icmp .ne 15, 3) := by decide +kernel
theorem dX3_allows_20 : decode cX3_allows 20 = .ok (.aload_n 0, 1) := by decide +kernel
theorem dX3_allows_21 : decode cX3_allows 21 = .ok (.getfield 15, 3) := by decide +kernel
theorem dX3_allows_24 : decode cX3_allows 24 = .ok (.iload_n 3, 1) := by decide +kernel
theorem dX3_allows_25 : decode cX3_allows 25 = .ok (.iaload, 1) := by decide +kernel
theorem dX3_allows_26 : decode cX3_allows 26 = .ok (.iload_n 2, 1) := by decide +kernel
theorem dX3_allows_27 : decode cX3_allows 27 = .ok (.if_icmp .eq 5, 3) := by decide +kernel
theorem dX3_allows_30 : decode cX3_allows 30 = .ok (.iconst 0, 1) := by decide +kernel
theorem dX3_allows_31 : decode cX3_allows 31 = .ok (.ireturn, 1) := by decide +kernel
theorem dX3_allows_32 : decode cX3_allows 32 = .ok (.iinc 3 1, 3) := by decide +kernel
theorem dX3_allows_35 : decode cX3_allows 35 = .ok (.goto (-33), 3) := by decide +kernel
theorem dX3_allows_38 : decode cX3_allows 38 = .ok (.iconst 1, 1) := by decide +kernel
theorem dX3_allows_39 : decode cX3_allows 39 = .ok (.ireturn, 1) := by decide +kernel
theorem dX4_init_0 : decode cX4_init 0 = .ok (.aload_n 0, 1) := by decide +kernel
theorem dX4_init_1 : decode cX4_init 1 = .ok (.invokespecial 3, 3) := by decide +kernel
theorem dX4_init_4 : decode cX4_init 4 = .ok (.aload_n 0, 1) := by decide +kernel
theorem dX4_init_5 : decode cX4_init 5 = .ok (.new 9, 3) := by decide +kernel
theorem dX4_init_8 : decode cX4_init 8 = .ok (.dup, 1) := by decide +kernel
theorem dX4_init_9 : decode cX4_init 9 = .ok (.invokespecial 11, 3) := by decide +kernel
theorem dX4_init_12 : decode cX4_init 12 = .ok (.putfield 12, 3) := by decide +kernel
theorem dX4_init_15 : decode cX4_init 15 = .ok (.aload_n 0, 1) := by decide +kernel
theorem dX4_init_16 : decode cX4_init 16 = .ok (.new 9, 3) := by decide +kernel
theorem dX4_init_19 : decode cX4_init 19 = .ok (.dup, 1) := by decide +kernel
theorem dX4_init_20 : decode cX4_init 20 = .ok (.invokespecial 11, 3) := by decide +kernel
theorem dX4_init_23 : decode cX4_init 23 = .ok (.putfield 18, 3) := by decide +kernel
theorem dX4_init_26 : decode cX4_init 26 = .ok (.return_, 1) := by decide +kernel
theorem dX4_sortWaiting_0 : decode cX4_sortWaiting 0 = .ok (.aload_n 0, 1) := by decide +kernel
theorem dX4_sortWaiting_1 : decode cX4_sortWaiting 1 = .ok (.getfield 12, 3) := by decide +kernel
theorem dX4_sortWaiting_4 : decode cX4_sortWaiting 4 = .ok (.iconst 0, 1) := by decide +kernel
theorem dX4_sortWaiting_5 : decode cX4_sortWaiting 5 = .ok (.putfield 21, 3) := by decide +kernel
theorem dX4_sortWaiting_8 : decode cX4_sortWaiting 8 = .ok (.iconst 0, 1) := by decide +kernel
theorem dX4_sortWaiting_9 : decode cX4_sortWaiting 9 = .ok (.istore_n 2, 1) := by decide +kernel
theorem dX4_sortWaiting_10 : decode cX4_sortWaiting 10 = .ok (.iload_n 2, 1) := by decide +kernel
theorem dX4_sortWaiting_11 : decode cX4_sortWaiting 11 = .ok (.aload_n 1, 1) := by decide +kernel
theorem dX4_sortWaiting_12 : decode cX4_sortWaiting 12 = .ok (.getfield 25, 3) := by decide +kernel
theorem dX4_sortWaiting_15 : decode cX4_sortWaiting 15 = .ok (.if_icmp .ge 38, 3) := by decide +kernel
theorem dX4_sortWaiting_18 : decode cX4_sortWaiting 18 = .ok (.aload_n 1, 1) := by decide +kernel
theorem dX4_sortWaiting_19 : decode cX4_sortWaiting 19 = .ok (.getfield 30, 3) := by decide +kernel
theorem dX4_sortWaiting_22 : decode cX4_sortWaiting 22 = .ok (.iload_n 2, 1) := by decide +kernel
theorem dX4_sortWaiting_23 : decode cX4_sortWaiting 23 = .ok (.iaload, 1) := by decide +kernel
theorem dX4_sortWaiting_24 : decode cX4_sortWaiting 24 = .ok (.ifCond .eq 13, 3) := by decide +kernel
theorem dX4_sortWaiting_27 : decode cX4_sortWaiting 27 = .ok (.aload_n 1, 1) := by decide +kernel
theorem dX4_sortWaiting_28 : decode cX4_sortWaiting 28 = .ok (.getfield 30, 3) := by decide +kernel
theorem dX4_sortWaiting_31 : decode cX4_sortWaiting 31 = .ok (.iload_n 2, 1) := by decide +kernel
theorem dX4_sortWaiting_32 : decode cX4_sortWaiting 32 = .ok (.iaload, 1) := by decide +kernel
theorem dX4_sortWaiting_33 : decode cX4_sortWaiting 33 = .ok (.iconst 1, 1) := by decide +kernel
theorem dX4_sortWaiting_34 : decode cX4_sortWaiting 34 = .ok (.if_icmp .ne 13, 3) := by decide +kernel
theorem dX4_sortWaiting_37 : decode cX4_sortWaiting 37 = .ok (.aload_n 0, 1) := by decide +kernel
theorem dX4_sortWaiting_38 : decode cX4_sortWaiting 38 = .ok (.getfield 12, 3) := by decide +kernel
theorem dX4_sortWaiting_41 : decode cX4_sortWaiting 41 = .ok (.iload_n 2, 1) := by decide +kernel
theorem dX4_sortWaiting_42 : decode cX4_sortWaiting 42 = .ok (.aload_n 1, 1) := by decide +kernel
theorem dX4_sortWaiting_43 : decode cX4_sortWaiting 43 = .ok (.iconst 1, 1) := by decide +kernel
theorem dX4_sortWaiting_44 : decode cX4_sortWaiting 44 = .ok (.invokevirtual 34, 3) := by decide +kernel
theorem dX4_sortWaiting_47 : decode cX4_sortWaiting 47 = .ok (.iinc 2 1, 3) := by decide +kernel
theorem dX4_sortWaiting_50 : decode cX4_sortWaiting 50 = .ok (.goto (-40), 3) := by decide +kernel
theorem dX4_sortWaiting_53 : decode cX4_sortWaiting 53 = .ok (.aload_n 0, 1) := by decide +kernel
theorem dX4_sortWaiting_54 : decode cX4_sortWaiting 54 = .ok (.getfield 12, 3) := by decide +kernel
theorem dX4_sortWaiting_57 : decode cX4_sortWaiting 57 = .ok (.areturn, 1) := by decide +kernel
theorem dX4_sortTurned_0 : decode cX4_sortTurned 0 = .ok (.aload_n 0, 1) := by decide +kernel
theorem dX4_sortTurned_1 : decode cX4_sortTurned 1 = .ok (.getfield 12, 3) := by decide +kernel
theorem dX4_sortTurned_4 : decode cX4_sortTurned 4 = .ok (.iconst 0, 1) := by decide +kernel
theorem dX4_sortTurned_5 : decode cX4_sortTurned 5 = .ok (.putfield 21, 3) := by decide +kernel
theorem dX4_sortTurned_8 : decode cX4_sortTurned 8 = .ok (.iconst 0, 1) := by decide +kernel
theorem dX4_sortTurned_9 : decode cX4_sortTurned 9 = .ok (.istore_n 2, 1) := by decide +kernel
theorem dX4_sortTurned_10 : decode cX4_sortTurned 10 = .ok (.iload_n 2, 1) := by decide +kernel
theorem dX4_sortTurned_11 : decode cX4_sortTurned 11 = .ok (.aload_n 1, 1) := by decide +kernel
theorem dX4_sortTurned_12 : decode cX4_sortTurned 12 = .ok (.getfield 25, 3) := by decide +kernel
theorem dX4_sortTurned_15 : decode cX4_sortTurned 15 = .ok (.if_icmp .ge 29, 3) := by decide +kernel
theorem dX4_sortTurned_18 : decode cX4_sortTurned 18 = .ok (.aload_n 1, 1) := by decide +kernel
theorem dX4_sortTurned_19 : decode cX4_sortTurned 19 = .ok (.getfield 30, 3) := by decide +kernel
theorem dX4_sortTurned_22 : decode cX4_sortTurned 22 = .ok (.iload_n 2, 1) := by decide +kernel
theorem dX4_sortTurned_23 : decode cX4_sortTurned 23 = .ok (.iaload, 1) := by decide +kernel
theorem dX4_sortTurned_24 : decode cX4_sortTurned 24 = .ok (.iconst 1, 1) := by decide +kernel
theorem dX4_sortTurned_25 : decode cX4_sortTurned 25 = .ok (.if_icmp .ne 13, 3) := by decide +kernel
theorem dX4_sortTurned_28 : decode cX4_sortTurned 28 = .ok (.aload_n 0, 1) := by decide +kernel
theorem dX4_sortTurned_29 : decode cX4_sortTurned 29 = .ok (.getfield 12, 3) := by decide +kernel
theorem dX4_sortTurned_32 : decode cX4_sortTurned 32 = .ok (.iload_n 2, 1) := by decide +kernel
theorem dX4_sortTurned_33 : decode cX4_sortTurned 33 = .ok (.aload_n 1, 1) := by decide +kernel
theorem dX4_sortTurned_34 : decode cX4_sortTurned 34 = .ok (.iconst 0, 1) := by decide +kernel
theorem dX4_sortTurned_35 : decode cX4_sortTurned 35 = .ok (.invokevirtual 34, 3) := by decide +kernel
theorem dX4_sortTurned_38 : decode cX4_sortTurned 38 = .ok (.iinc 2 1, 3) := by decide +kernel
theorem dX4_sortTurned_41 : decode cX4_sortTurned 41 = .ok (.goto (-31), 3) := by decide +kernel
theorem dX4_sortTurned_44 : decode cX4_sortTurned 44 = .ok (.aload_n 0, 1) := by decide +kernel
theorem dX4_sortTurned_45 : decode cX4_sortTurned 45 = .ok (.getfield 12, 3) := by decide +kernel
theorem dX4_sortTurned_48 : decode cX4_sortTurned 48 = .ok (.areturn, 1) := by decide +kernel
theorem dX4_passSlot_0 : decode cX4_passSlot 0 = .ok (.aload_n 0, 1) := by decide +kernel
theorem dX4_passSlot_1 : decode cX4_passSlot 1 = .ok (.aload_n 1, 1) := by decide +kernel
theorem dX4_passSlot_2 : decode cX4_passSlot 2 = .ok (.invokevirtual 38, 3) := by decide +kernel
theorem dX4_passSlot_5 : decode cX4_passSlot 5 = .ok (.pop, 1) := by decide +kernel
theorem dX4_passSlot_6 : decode cX4_passSlot 6 = .ok (.aload_n 0, 1) := by decide +kernel
theorem dX4_passSlot_7 : decode cX4_passSlot 7 = .ok (.aload_n 1, 1) := by decide +kernel
theorem dX4_passSlot_8 : decode cX4_passSlot 8 = .ok (.invokevirtual 42, 3) := by decide +kernel
theorem dX4_passSlot_11 : decode cX4_passSlot 11 = .ok (.aload_n 0, 1) := by decide +kernel
theorem dX4_passSlot_12 : decode cX4_passSlot 12 = .ok (.aload_n 1, 1) := by decide +kernel
theorem dX4_passSlot_13 : decode cX4_passSlot 13 = .ok (.invokevirtual 46, 3) := by decide +kernel
theorem dX4_passSlot_16 : decode cX4_passSlot 16 = .ok (.aload_n 0, 1) := by decide +kernel
theorem dX4_passSlot_17 : decode cX4_passSlot 17 = .ok (.aload_n 1, 1) := by decide +kernel
theorem dX4_passSlot_18 : decode cX4_passSlot 18 = .ok (.invokevirtual 49, 3) := by decide +kernel
theorem dX4_passSlot_21 : decode cX4_passSlot 21 = .ok (.aload_n 1, 1) := by decide +kernel
theorem dX4_passSlot_22 : decode cX4_passSlot 22 = .ok (.dup, 1) := by decide +kernel
theorem dX4_passSlot_23 : decode cX4_passSlot 23 = .ok (.getfield 52, 3) := by decide +kernel
theorem dX4_passSlot_26 : decode cX4_passSlot 26 = .ok (.iconst 1, 1) := by decide +kernel
theorem dX4_passSlot_27 : decode cX4_passSlot 27 = .ok (.iadd, 1) := by decide +kernel
theorem dX4_passSlot_28 : decode cX4_passSlot 28 = .ok (.putfield 52, 3) := by decide +kernel
theorem dX4_passSlot_31 : decode cX4_passSlot 31 = .ok (.return_, 1) := by decide +kernel
theorem dX4_letWinnersIn_0 : decode cX4_letWinnersIn 0 = .ok (.aload_n 0, 1) := by decide +kernel
theorem dX4_letWinnersIn_1 : decode cX4_letWinnersIn 1 = .ok (.getfield 18, 3) := by decide +kernel
theorem dX4_letWinnersIn_4 : decode cX4_letWinnersIn 4 = .ok (.iconst 0, 1) := by decide +kernel
theorem dX4_letWinnersIn_5 : decode cX4_letWinnersIn 5 = .ok (.putfield 21, 3) := by decide +kernel
theorem dX4_letWinnersIn_8 : decode cX4_letWinnersIn 8 = .ok (.bipush (-9), 2) := by decide +kernel
theorem dX4_letWinnersIn_10 : decode cX4_letWinnersIn 10 = .ok (.istore_n 2, 1) := by decide +kernel
theorem dX4_letWinnersIn_11 : decode cX4_letWinnersIn 11 = .ok (.iconst 0, 1) := by decide +kernel
theorem dX4_letWinnersIn_12 : decode cX4_letWinnersIn 12 = .ok (.istore_n 3, 1) := by decide +kernel
theorem dX4_letWinnersIn_13 : decode cX4_letWinnersIn 13 = .ok (.iconst 0, 1) := by decide +kernel
theorem dX4_letWinnersIn_14 : decode cX4_letWinnersIn 14 = .ok (.istore 4, 2) := by decide +kernel
theorem dX4_letWinnersIn_16 : decode cX4_letWinnersIn 16 = .ok (.iload 4, 2) := by decide +kernel
theorem dX4_letWinnersIn_18 : decode cX4_letWinnersIn 18 = .ok (.aload_n 0, 1) := by decide +kernel
theorem dX4_letWinnersIn_19 : decode cX4_letWinnersIn 19 = .ok (.getfield 12, 3) := by decide +kernel
theorem dX4_letWinnersIn_22 : decode cX4_letWinnersIn 22 = .ok (.getfield 21, 3) := by decide +kernel
theorem dX4_letWinnersIn_25 : decode cX4_letWinnersIn 25 = .ok (.if_icmp .ge 100, 3) := by decide +kernel
theorem dX4_letWinnersIn_28 : decode cX4_letWinnersIn 28 = .ok (.aload_n 0, 1) := by decide +kernel
theorem dX4_letWinnersIn_29 : decode cX4_letWinnersIn 29 = .ok (.getfield 12, 3) := by decide +kernel
theorem dX4_letWinnersIn_32 : decode cX4_letWinnersIn 32 = .ok (.getfield 55, 3) := by decide +kernel
theorem dX4_letWinnersIn_35 : decode cX4_letWinnersIn 35 = .ok (.iload 4, 2) := by decide +kernel
theorem dX4_letWinnersIn_37 : decode cX4_letWinnersIn 37 = .ok (.iaload, 1) := by decide +kernel
theorem dX4_letWinnersIn_38 : decode cX4_letWinnersIn 38 = .ok (.istore 5, 2) := by decide +kernel
theorem dX4_letWinnersIn_40 : decode cX4_letWinnersIn 40 = .ok (.aload_n 1, 1) := by decide +kernel
theorem dX4_letWinnersIn_41 : decode cX4_letWinnersIn 41 = .ok (.getfield 58, 3) := by decide +kernel
theorem dX4_letWinnersIn_44 : decode cX4_letWinnersIn 44 = .ok (.iload 5, 2) := by decide +kernel
theorem dX4_letWinnersIn_46 : decode cX4_letWinnersIn 46 = .ok (.iaload, 1) := by decide +kernel
theorem dX4_letWinnersIn_47 : decode cX4_letWinnersIn 47 = .ok (.iload_n 2, 1) := by decide +kernel
theorem dX4_letWinnersIn_48 : decode cX4_letWinnersIn 48 = .ok (.if_icmp .ne 9, 3) := by decide +kernel
theorem dX4_letWinnersIn_51 : decode cX4_letWinnersIn 51 = .ok (.iload_n 3, 1) := by decide +kernel
theorem dX4_letWinnersIn_52 : decode cX4_letWinnersIn 52 = .ok (.iconst 1, 1) := by decide +kernel
theorem dX4_letWinnersIn_53 : decode cX4_letWinnersIn 53 = .ok (.iadd, 1) := by decide +kernel
theorem dX4_letWinnersIn_54 : decode cX4_letWinnersIn 54 = .ok (.goto 4, 3) := by decide +kernel
theorem dX4_letWinnersIn_57 : decode cX4_letWinnersIn 57 = .ok (.iconst 0, 1) := by decide +kernel
theorem dX4_letWinnersIn_58 : decode cX4_letWinnersIn 58 = .ok (.istore_n 3, 1) := by decide +kernel
theorem dX4_letWinnersIn_59 : decode cX4_letWinnersIn 59 = .ok (.aload_n 1, 1) := by decide +kernel
theorem dX4_letWinnersIn_60 : decode cX4_letWinnersIn 60 = .ok (.getfield 58, 3) := by decide +kernel
theorem dX4_letWinnersIn_63 : decode cX4_letWinnersIn 63 = .ok (.iload 5, 2) := by decide +kernel
theorem dX4_letWinnersIn_65 : decode cX4_letWinnersIn 65 = .ok (.iaload, 1) := by decide +kernel
theorem dX4_letWinnersIn_66 : decode cX4_letWinnersIn 66 = .ok (.istore_n 2, 1) := by decide +kernel
theorem dX4_letWinnersIn_67 : decode cX4_letWinnersIn 67 = .ok (.iload_n 3, 1) := by decide +kernel
theorem dX4_letWinnersIn_68 : decode cX4_letWinnersIn 68 = .ok (.aload_n 1, 1) := by decide +kernel
theorem dX4_letWinnersIn_69 : decode cX4_letWinnersIn 69 = .ok (.getfield 61, 3) := by decide +kernel
theorem dX4_letWinnersIn_72 : decode cX4_letWinnersIn 72 = .ok (.if_icmp .ge 36, 3) := by decide +kernel
theorem dX4_letWinnersIn_75 : decode cX4_letWinnersIn 75 = .ok (.aload_n 1, 1) := by decide +kernel
theorem dX4_letWinnersIn_76 : decode cX4_letWinnersIn 76 = .ok (.getfield 64, 3) := by decide +kernel
theorem dX4_letWinnersIn_79 : decode cX4_letWinnersIn 79 = .ok (.getfield 21, 3) := by decide +kernel
theorem dX4_letWinnersIn_82 : decode cX4_letWinnersIn 82 = .ok (.aload_n 1, 1) := by decide +kernel
theorem dX4_letWinnersIn_83 : decode cX4_letWinnersIn 83 = .ok (.getfield 67, 3) := by decide +kernel
theorem dX4_letWinnersIn_86 : decode cX4_letWinnersIn 86 = .ok (.if_icmp .ge 22, 3) := by decide +kernel
theorem dX4_letWinnersIn_89 : decode cX4_letWinnersIn 89 = .ok (.aload_n 1, 1) := by decide +kernel
theorem dX4_letWinnersIn_90 : decode cX4_letWinnersIn 90 = .ok (.getfield 64, 3) := by decide +kernel
theorem dX4_letWinnersIn_93 : decode cX4_letWinnersIn 93 = .ok (.iload 5, 2) := by decide +kernel
theorem dX4_letWinnersIn_95 : decode cX4_letWinnersIn 95 = .ok (.invokevirtual 70, 3) := by decide +kernel
theorem dX4_letWinnersIn_98 : decode cX4_letWinnersIn 98 = .ok (.aload_n 1, 1) := by decide +kernel
theorem dX4_letWinnersIn_99 : decode cX4_letWinnersIn 99 = .ok (.iload 5, 2) := by decide +kernel
theorem dX4_letWinnersIn_101 : decode cX4_letWinnersIn 101 = .ok (.iconst 2, 1) := by decide +kernel
theorem dX4_letWinnersIn_102 : decode cX4_letWinnersIn 102 = .ok (.invokevirtual 74, 3) := by decide +kernel
theorem dX4_letWinnersIn_105 : decode cX4_letWinnersIn 105 = .ok (.goto 14, 3) := by decide +kernel
theorem dX4_letWinnersIn_108 : decode cX4_letWinnersIn 108 = .ok (.aload_n 0, 1) := by decide +kernel
theorem dX4_letWinnersIn_109 : decode cX4_letWinnersIn 109 = .ok (.getfield 18, 3) := by decide +kernel
theorem dX4_letWinnersIn_112 : decode cX4_letWinnersIn 112 = .ok (.iload 5, 2) := by decide +kernel
theorem dX4_letWinnersIn_114 : decode cX4_letWinnersIn 114 = .ok (.aload_n 1, 1) := by decide +kernel
theorem dX4_letWinnersIn_115 : decode cX4_letWinnersIn 115 = .ok (.iconst 0, 1) := by decide +kernel
theorem dX4_letWinnersIn_116 : decode cX4_letWinnersIn 116 = .ok (.invokevirtual 34, 3) := by decide +kernel
theorem dX4_letWinnersIn_119 : decode cX4_letWinnersIn 119 = .ok (.iinc 4 1, 3) := by decide +kernel
theorem dX4_letWinnersIn_122 : decode cX4_letWinnersIn 122 = .ok (.goto (-106), 3) := by decide +kernel
theorem dX4_letWinnersIn_125 : decode cX4_letWinnersIn 125 = .ok (.return_, 1) := by decide +kernel
theorem dX4_turnBackBeaten_0 : decode cX4_turnBackBeaten 0 = .ok (.iconst 0, 1) := by decide +kernel
theorem dX4_turnBackBeaten_1 : decode cX4_turnBackBeaten 1 = .ok (.istore_n 2, 1) := by decide +kernel
theorem dX4_turnBackBeaten_2 : decode cX4_turnBackBeaten 2 = .ok (.iload_n 2, 1) := by decide +kernel
theorem dX4_turnBackBeaten_3 : decode cX4_turnBackBeaten 3 = .ok (.aload_n 0, 1) := by decide +kernel
theorem dX4_turnBackBeaten_4 : decode cX4_turnBackBeaten 4 = .ok (.getfield 18, 3) := by decide +kernel
theorem dX4_turnBackBeaten_7 : decode cX4_turnBackBeaten 7 = .ok (.getfield 21, 3) := by decide +kernel
theorem dX4_turnBackBeaten_10 : decode cX4_turnBackBeaten 10 = .ok (.if_icmp .ge 53, 3) := by decide +kernel
theorem dX4_turnBackBeaten_13 : decode cX4_turnBackBeaten 13 = .ok (.aload_n 0, 1) := by decide +kernel
theorem dX4_turnBackBeaten_14 : decode cX4_turnBackBeaten 14 = .ok (.getfield 18, 3) := by decide +kernel
theorem dX4_turnBackBeaten_17 : decode cX4_turnBackBeaten 17 = .ok (.getfield 55, 3) := by decide +kernel
theorem dX4_turnBackBeaten_20 : decode cX4_turnBackBeaten 20 = .ok (.iload_n 2, 1) := by decide +kernel
theorem dX4_turnBackBeaten_21 : decode cX4_turnBackBeaten 21 = .ok (.iaload, 1) := by decide +kernel
theorem dX4_turnBackBeaten_22 : decode cX4_turnBackBeaten 22 = .ok (.istore_n 3, 1) := by decide +kernel
theorem dX4_turnBackBeaten_23 : decode cX4_turnBackBeaten 23 = .ok (.iload_n 2, 1) := by decide +kernel
theorem dX4_turnBackBeaten_24 : decode cX4_turnBackBeaten 24 = .ok (.aload_n 1, 1) := by decide +kernel
theorem dX4_turnBackBeaten_25 : decode cX4_turnBackBeaten 25 = .ok (.getfield 78, 3) := by decide +kernel
theorem dX4_turnBackBeaten_28 : decode cX4_turnBackBeaten 28 = .ok (.if_icmp .ge 22, 3) := by decide +kernel
theorem dX4_turnBackBeaten_31 : decode cX4_turnBackBeaten 31 = .ok (.aload_n 1, 1) := by decide +kernel
theorem dX4_turnBackBeaten_32 : decode cX4_turnBackBeaten 32 = .ok (.iload_n 3, 1) := by decide +kernel
theorem dX4_turnBackBeaten_33 : decode cX4_turnBackBeaten 33 = .ok (.iconst 1, 1) := by decide +kernel
theorem dX4_turnBackBeaten_34 : decode cX4_turnBackBeaten 34 = .ok (.invokevirtual 74, 3) := by decide +kernel
theorem dX4_turnBackBeaten_37 : decode cX4_turnBackBeaten 37 = .ok (.aload_n 1, 1) := by decide +kernel
theorem dX4_turnBackBeaten_38 : decode cX4_turnBackBeaten 38 = .ok (.getfield 81, 3) := by decide +kernel
theorem dX4_turnBackBeaten_41 : decode cX4_turnBackBeaten 41 = .ok (.iload_n 3, 1) := by decide +kernel
theorem dX4_turnBackBeaten_42 : decode cX4_turnBackBeaten 42 = .ok (.dup2, 1) := by decide +kernel
theorem dX4_turnBackBeaten_43 : decode cX4_turnBackBeaten 43 = .ok (.iaload, 1) := by decide +kernel
theorem dX4_turnBackBeaten_44 : decode cX4_turnBackBeaten 44 = .ok (.iconst 1, 1) := by decide +kernel
theorem dX4_turnBackBeaten_45 : decode cX4_turnBackBeaten 45 = .ok (.iadd, 1) := by decide +kernel
theorem dX4_turnBackBeaten_46 : decode cX4_turnBackBeaten 46 = .ok (.iastore, 1) := by decide +kernel
theorem dX4_turnBackBeaten_47 : decode cX4_turnBackBeaten 47 = .ok (.goto 10, 3) := by decide +kernel
theorem dX4_turnBackBeaten_50 : decode cX4_turnBackBeaten 50 = .ok (.aload_n 0, 1) := by decide +kernel
theorem dX4_turnBackBeaten_51 : decode cX4_turnBackBeaten 51 = .ok (.aload_n 1, 1) := by decide +kernel
theorem dX4_turnBackBeaten_52 : decode cX4_turnBackBeaten 52 = .ok (.iload_n 3, 1) := by decide +kernel
theorem dX4_turnBackBeaten_53 : decode cX4_turnBackBeaten 53 = .ok (.iconst 4, 1) := by decide +kernel
theorem dX4_turnBackBeaten_54 : decode cX4_turnBackBeaten 54 = .ok (.invokevirtual 84, 3) := by decide +kernel
theorem dX4_turnBackBeaten_57 : decode cX4_turnBackBeaten 57 = .ok (.iinc 2 1, 3) := by decide +kernel
theorem dX4_turnBackBeaten_60 : decode cX4_turnBackBeaten 60 = .ok (.goto (-58), 3) := by decide +kernel
theorem dX4_turnBackBeaten_63 : decode cX4_turnBackBeaten 63 = .ok (.return_, 1) := by decide +kernel
theorem dX4_letFirstsOut_0 : decode cX4_letFirstsOut 0 = .ok (.aload_n 1, 1) := by decide +kernel
theorem dX4_letFirstsOut_1 : decode cX4_letFirstsOut 1 = .ok (.getfield 64, 3) := by decide +kernel
theorem dX4_letFirstsOut_4 : decode cX4_letFirstsOut 4 = .ok (.astore_n 2, 1) := by decide +kernel
theorem dX4_letFirstsOut_5 : decode cX4_letFirstsOut 5 = .ok (.iconst 0, 1) := by decide +kernel
theorem dX4_letFirstsOut_6 : decode cX4_letFirstsOut 6 = .ok (.istore_n 3, 1) := by decide +kernel
theorem dX4_letFirstsOut_7 : decode cX4_letFirstsOut 7 = .ok (.iconst 0, 1) := by decide +kernel
theorem dX4_letFirstsOut_8 : decode cX4_letFirstsOut 8 = .ok (.istore 4, 2) := by decide +kernel
theorem dX4_letFirstsOut_10 : decode cX4_letFirstsOut 10 = .ok (.iconst 0, 1) := by decide +kernel
theorem dX4_letFirstsOut_11 : decode cX4_letFirstsOut 11 = .ok (.istore 5, 2) := by decide +kernel
theorem dX4_letFirstsOut_13 : decode cX4_letFirstsOut 13 = .ok (.iload 5, 2) := by decide +kernel
theorem dX4_letFirstsOut_15 : decode cX4_letFirstsOut 15 = .ok (.aload_n 2, 1) := by decide +kernel
theorem dX4_letFirstsOut_16 : decode cX4_letFirstsOut 16 = .ok (.getfield 21, 3) := by decide +kernel
theorem dX4_letFirstsOut_19 : decode cX4_letFirstsOut 19 = .ok (.if_icmp .ge 64, 3) := by decide +kernel
theorem dX4_letFirstsOut_22 : decode cX4_letFirstsOut 22 = .ok (.aload_n 2, 1) := by decide +kernel
theorem dX4_letFirstsOut_23 : decode cX4_letFirstsOut 23 = .ok (.getfield 55, 3) := by decide +kernel
theorem dX4_letFirstsOut_26 : decode cX4_letFirstsOut 26 = .ok (.iload 5, 2) := by decide +kernel
theorem dX4_letFirstsOut_28 : decode cX4_letFirstsOut 28 = .ok (.iaload, 1) := by decide +kernel
theorem dX4_letFirstsOut_29 : decode cX4_letFirstsOut 29 = .ok (.istore 6, 2) := by decide +kernel
theorem dX4_letFirstsOut_31 : decode cX4_letFirstsOut 31 = .ok (.iconst 1, 1) := by decide +kernel
theorem dX4_letFirstsOut_32 : decode cX4_letFirstsOut 32 = .ok (.aload_n 1, 1) := by decide +kernel
theorem dX4_letFirstsOut_33 : decode cX4_letFirstsOut 33 = .ok (.getfield 58, 3) := by decide +kernel
theorem dX4_letFirstsOut_36 : decode cX4_letFirstsOut 36 = .ok (.iload 6, 2) := by decide +kernel
theorem dX4_letFirstsOut_38 : decode cX4_letFirstsOut 38 = .ok (.iaload, 1) := by decide +kernel
theorem dX4_letFirstsOut_39 : decode cX4_letFirstsOut 39 = .ok (.ishl, 1) := by decide +kernel
theorem dX4_letFirstsOut_40 : decode cX4_letFirstsOut 40 = .ok (.istore 7, 2) := by decide +kernel
theorem dX4_letFirstsOut_42 : decode cX4_letFirstsOut 42 = .ok (.iload_n 3, 1) := by decide +kernel
theorem dX4_letFirstsOut_43 : decode cX4_letFirstsOut 43 = .ok (.iload 7, 2) := by decide +kernel
theorem dX4_letFirstsOut_45 : decode cX4_letFirstsOut 45 = .ok (.iand, 1) := by decide +kernel
theorem dX4_letFirstsOut_46 : decode cX4_letFirstsOut 46 = .ok (.ifCond .ne 19, 3) := by decide +kernel
theorem dX4_letFirstsOut_49 : decode cX4_letFirstsOut 49 = .ok (.iload_n 3, 1) := by decide +kernel
theorem dX4_letFirstsOut_50 : decode cX4_letFirstsOut 50 = .ok (.iload 7, 2) := by decide +kernel
theorem dX4_letFirstsOut_52 : decode cX4_letFirstsOut 52 = .ok (.ior, 1) := by decide +kernel
theorem dX4_letFirstsOut_53 : decode cX4_letFirstsOut 53 = .ok (.istore_n 3, 1) := by decide +kernel
theorem dX4_letFirstsOut_54 : decode cX4_letFirstsOut 54 = .ok (.aload_n 0, 1) := by decide +kernel
theorem dX4_letFirstsOut_55 : decode cX4_letFirstsOut 55 = .ok (.aload_n 1, 1) := by decide +kernel
theorem dX4_letFirstsOut_56 : decode cX4_letFirstsOut 56 = .ok (.iload 6, 2) := by decide +kernel
theorem dX4_letFirstsOut_58 : decode cX4_letFirstsOut 58 = .ok (.iconst 3, 1) := by decide +kernel
theorem dX4_letFirstsOut_59 : decode cX4_letFirstsOut 59 = .ok (.invokevirtual 84, 3) := by decide +kernel
theorem dX4_letFirstsOut_62 : decode cX4_letFirstsOut 62 = .ok (.goto 15, 3) := by decide +kernel
theorem dX4_letFirstsOut_65 : decode cX4_letFirstsOut 65 = .ok (.aload_n 2, 1) := by decide +kernel
theorem dX4_letFirstsOut_66 : decode cX4_letFirstsOut 66 = .ok (.getfield 55, 3) := by decide +kernel
theorem dX4_letFirstsOut_69 : decode cX4_letFirstsOut 69 = .ok (.iload 4, 2) := by decide +kernel
theorem dX4_letFirstsOut_71 : decode cX4_letFirstsOut 71 = .ok (.iload 6, 2) := by decide +kernel
theorem dX4_letFirstsOut_73 : decode cX4_letFirstsOut 73 = .ok (.iastore, 1) := by decide +kernel
theorem dX4_letFirstsOut_74 : decode cX4_letFirstsOut 74 = .ok (.iinc 4 1, 3) := by decide +kernel
theorem dX4_letFirstsOut_77 : decode cX4_letFirstsOut 77 = .ok (.iinc 5 1, 3) := by decide +kernel
theorem dX4_letFirstsOut_80 : decode cX4_letFirstsOut 80 = .ok (.goto (-67), 3) := by decide +kernel
theorem dX4_letFirstsOut_83 : decode cX4_letFirstsOut 83 = .ok (.aload_n 2, 1) := by decide +kernel
theorem dX4_letFirstsOut_84 : decode cX4_letFirstsOut 84 = .ok (.iload 4, 2) := by decide +kernel
theorem dX4_letFirstsOut_86 : decode cX4_letFirstsOut 86 = .ok (.putfield 21, 3) := by decide +kernel
theorem dX4_letFirstsOut_89 : decode cX4_letFirstsOut 89 = .ok (.return_, 1) := by decide +kernel
theorem dX4_endLetter_0 : decode cX4_endLetter 0 = .ok (.aload_n 1, 1) := by decide +kernel
theorem dX4_endLetter_1 : decode cX4_endLetter 1 = .ok (.iload_n 2, 1) := by decide +kernel
theorem dX4_endLetter_2 : decode cX4_endLetter 2 = .ok (.iload_n 3, 1) := by decide +kernel
theorem dX4_endLetter_3 : decode cX4_endLetter 3 = .ok (.invokevirtual 74, 3) := by decide +kernel
theorem dX4_endLetter_6 : decode cX4_endLetter 6 = .ok (.aload_n 1, 1) := by decide +kernel
theorem dX4_endLetter_7 : decode cX4_endLetter 7 = .ok (.getfield 88, 3) := by decide +kernel
theorem dX4_endLetter_10 : decode cX4_endLetter 10 = .ok (.iload_n 2, 1) := by decide +kernel
theorem dX4_endLetter_11 : decode cX4_endLetter 11 = .ok (.aload_n 1, 1) := by decide +kernel
theorem dX4_endLetter_12 : decode cX4_endLetter 12 = .ok (.getfield 52, 3) := by decide +kernel
theorem dX4_endLetter_15 : decode cX4_endLetter 15 = .ok (.iastore, 1) := by decide +kernel
theorem dX4_endLetter_16 : decode cX4_endLetter 16 = .ok (.return_, 1) := by decide +kernel
theorem dX5_init_0 : decode cX5_init 0 = .ok (.aload_n 0, 1) := by decide +kernel
theorem dX5_init_1 : decode cX5_init 1 = .ok (.invokespecial 3, 3) := by decide +kernel
theorem dX5_init_4 : decode cX5_init 4 = .ok (.aload_n 0, 1) := by decide +kernel
theorem dX5_init_5 : decode cX5_init 5 = .ok (.new 9, 3) := by decide +kernel
theorem dX5_init_8 : decode cX5_init 8 = .ok (.dup, 1) := by decide +kernel
theorem dX5_init_9 : decode cX5_init 9 = .ok (.invokespecial 11, 3) := by decide +kernel
theorem dX5_init_12 : decode cX5_init 12 = .ok (.putfield 12, 3) := by decide +kernel
theorem dX5_init_15 : decode cX5_init 15 = .ok (.aload_n 0, 1) := by decide +kernel
theorem dX5_init_16 : decode cX5_init 16 = .ok (.new 9, 3) := by decide +kernel
theorem dX5_init_19 : decode cX5_init 19 = .ok (.dup, 1) := by decide +kernel
theorem dX5_init_20 : decode cX5_init 20 = .ok (.invokespecial 11, 3) := by decide +kernel
theorem dX5_init_23 : decode cX5_init 23 = .ok (.putfield 16, 3) := by decide +kernel
theorem dX5_init_26 : decode cX5_init 26 = .ok (.aload_n 0, 1) := by decide +kernel
theorem dX5_init_27 : decode cX5_init 27 = .ok (.new 19, 3) := by decide +kernel
theorem dX5_init_30 : decode cX5_init 30 = .ok (.dup, 1) := by decide +kernel
theorem dX5_init_31 : decode cX5_init 31 = .ok (.invokespecial 21, 3) := by decide +kernel
theorem dX5_init_34 : decode cX5_init 34 = .ok (.putfield 22, 3) := by decide +kernel
theorem dX5_init_37 : decode cX5_init 37 = .ok (.aload_n 0, 1) := by decide +kernel
theorem dX5_init_38 : decode cX5_init 38 = .ok (.new 26, 3) := by decide +kernel
theorem dX5_init_41 : decode cX5_init 41 = .ok (.dup, 1) := by decide +kernel
theorem dX5_init_42 : decode cX5_init 42 = .ok (.invokespecial 28, 3) := by decide +kernel
theorem dX5_init_45 : decode cX5_init 45 = .ok (.putfield 29, 3) := by decide +kernel
theorem dX5_init_48 : decode cX5_init 48 = .ok (.aload_n 0, 1) := by decide +kernel
theorem dX5_init_49 : decode cX5_init 49 = .ok (.new 33, 3) := by decide +kernel
theorem dX5_init_52 : decode cX5_init 52 = .ok (.dup, 1) := by decide +kernel
theorem dX5_init_53 : decode cX5_init 53 = .ok (.invokespecial 35, 3) := by decide +kernel
theorem dX5_init_56 : decode cX5_init 56 = .ok (.putfield 36, 3) := by decide +kernel
theorem dX5_init_59 : decode cX5_init 59 = .ok (.aload_n 0, 1) := by decide +kernel
theorem dX5_init_60 : decode cX5_init 60 = .ok (.iconst 2, 1) := by decide +kernel
theorem dX5_init_61 : decode cX5_init 61 = .ok (.anewarray 9, 3) := by decide +kernel
theorem dX5_init_64 : decode cX5_init 64 = .ok (.putfield 40, 3) := by decide +kernel
theorem dX5_init_67 : decode cX5_init 67 = .ok (.aload_n 0, 1) := by decide +kernel
theorem dX5_init_68 : decode cX5_init 68 = .ok (.iconst 2, 1) := by decide +kernel
theorem dX5_init_69 : decode cX5_init 69 = .ok (.newarray .boolean, 2) := by decide +kernel
theorem dX5_init_71 : decode cX5_init 71 = .ok (.putfield 44, 3) := by decide +kernel
theorem dX5_init_74 : decode cX5_init 74 = .ok (.aload_n 0, 1) := by decide +kernel
theorem dX5_init_75 : decode cX5_init 75 = .ok (.bipush 8, 2) := by decide +kernel
theorem dX5_init_77 : decode cX5_init 77 = .ok (.newarray .int, 2) := by decide +kernel
theorem dX5_init_79 : decode cX5_init 79 = .ok (.putfield 48, 3) := by decide +kernel
theorem dX5_init_82 : decode cX5_init 82 = .ok (.iconst 0, 1) := by decide +kernel
theorem dX5_init_83 : decode cX5_init 83 = .ok (.istore_n 1, 1) := by decide +kernel
theorem dX5_init_84 : decode cX5_init 84 = .ok (.iload_n 1, 1) := by decide +kernel
theorem dX5_init_85 : decode cX5_init 85 = .ok (.iconst 2, 1) := by decide +kernel
theorem dX5_init_86 : decode cX5_init 86 = .ok (.if_icmp .ge 22, 3) := by decide +kernel
theorem dX5_init_89 : decode cX5_init 89 = .ok (.aload_n 0, 1) := by decide +kernel
theorem dX5_init_90 : decode cX5_init 90 = .ok (.getfield 40, 3) := by decide +kernel
theorem dX5_init_93 : decode cX5_init 93 = .ok (.iload_n 1, 1) := by decide +kernel
theorem dX5_init_94 : decode cX5_init 94 = .ok (.new 9, 3) := by decide +kernel
theorem dX5_init_97 : decode cX5_init 97 = .ok (.dup, 1) := by decide +kernel
theorem dX5_init_98 : decode cX5_init 98 = .ok (.invokespecial 11, 3) := by decide +kernel
theorem dX5_init_101 : decode cX5_init 101 = .ok (.aastore, 1) := by decide +kernel
theorem dX5_init_102 : decode cX5_init 102 = .ok (.iinc 1 1, 3) := by decide +kernel
theorem dX5_init_105 : decode cX5_init 105 = .ok (.goto (-21), 3) := by decide +kernel
theorem dX5_init_108 : decode cX5_init 108 = .ok (.return_, 1) := by decide +kernel
theorem dX5_tells_0 : decode cX5_tells 0 = .ok (.iload_n 1, 1) := by decide +kernel
theorem dX5_tells_1 : decode cX5_tells 1 = .ok (.iconst 1, 1) := by decide +kernel
theorem dX5_tells_2 : decode cX5_tells 2 = .ok (.iconst 3, 1) := by decide +kernel
theorem dX5_tells_3 : decode cX5_tells 3 = .ok (.invokestatic 52, 3) := by decide +kernel
theorem dX5_tells_6 : decode cX5_tells 6 = .ok (.ifCond .eq 23, 3) := by decide +kernel
theorem dX5_tells_9 : decode cX5_tells 9 = .ok (.iload_n 2, 1) := by decide +kernel
theorem dX5_tells_10 : decode cX5_tells 10 = .ok (.iconst 0, 1) := by decide +kernel
theorem dX5_tells_11 : decode cX5_tells 11 = .ok (.bipush 8, 2) := by decide +kernel
theorem dX5_tells_13 : decode cX5_tells 13 = .ok (.invokestatic 52, 3) := by decide +kernel
theorem dX5_tells_16 : decode cX5_tells 16 = .ok (.ifCond .eq 13, 3) := by decide +kernel
theorem dX5_tells_19 : decode cX5_tells 19 = .ok (.iload_n 3, 1) := by decide +kernel
theorem dX5_tells_20 : decode cX5_tells 20 = .ok (.iconst 0, 1) := by decide +kernel
theorem dX5_tells_21 : decode cX5_tells 21 = .ok (.bipush 24, 2) := by decide +kernel
theorem dX5_tells_23 : decode cX5_tells 23 = .ok (.invokestatic 52, 3) := by decide +kernel
theorem dX5_tells_26 : decode cX5_tells 26 = .ok (.ifCond .ne 5, 3) := by decide +kernel
theorem dX5_tells_29 : decode cX5_tells 29 = .ok (.iconst (-1), 1) := by decide +kernel
theorem dX5_tells_30 : decode cX5_tells 30 = .ok (.ireturn, 1) := by decide +kernel
theorem dX5_tells_31 : decode cX5_tells 31 = .ok (.aload_n 0, 1) := by decide +kernel
theorem dX5_tells_32 : decode cX5_tells 32 = .ok (.getfield 12, 3) := by decide +kernel
theorem dX5_tells_35 : decode cX5_tells 35 = .ok (.getfield 56, 3) := by decide +kernel
theorem dX5_tells_38 : decode cX5_tells 38 = .ok (.iload_n 1, 1) := by decide +kernel
theorem dX5_tells_39 : decode cX5_tells 39 = .ok (.if_icmp .ne 28, 3) := by decide +kernel
theorem dX5_tells_42 : decode cX5_tells 42 = .ok (.aload_n 0, 1) := by decide +kernel
theorem dX5_tells_43 : decode cX5_tells 43 = .ok (.getfield 12, 3) := by decide +kernel
theorem dX5_tells_46 : decode cX5_tells 46 = .ok (.getfield 60, 3) := by decide +kernel
theorem dX5_tells_49 : decode cX5_tells 49 = .ok (.iload_n 2, 1) := by decide +kernel
theorem dX5_tells_50 : decode cX5_tells 50 = .ok (.if_icmp .ne 17, 3) := by decide +kernel
theorem dX5_tells_53 : decode cX5_tells 53 = .ok (.aload_n 0, 1) := by decide +kernel
theorem dX5_tells_54 : decode cX5_tells 54 = .ok (.getfield 12, 3) := by decide +kernel
theorem dX5_tells_57 : decode cX5_tells 57 = .ok (.getfield 63, 3) := by decide +kernel
theorem dX5_tells_60 : decode cX5_tells 60 = .ok (.iload_n 3, 1) := by decide +kernel
theorem dX5_tells_61 : decode cX5_tells 61 = .ok (.if_icmp .ne 6, 3) := by decide +kernel
theorem dX5_tells_64 : decode cX5_tells 64 = .ok (.bipush (-2), 2) := by decide +kernel
theorem dX5_tells_66 : decode cX5_tells 66 = .ok (.ireturn, 1) := by decide +kernel
theorem dX5_tells_67 : decode cX5_tells 67 = .ok (.aload_n 0, 1) := by decide +kernel
theorem dX5_tells_68 : decode cX5_tells 68 = .ok (.getfield 29, 3) := by decide +kernel
theorem dX5_tells_71 : decode cX5_tells 71 = .ok (.aload_n 0, 1) := by decide +kernel
theorem dX5_tells_72 : decode cX5_tells 72 = .ok (.getfield 12, 3) := by decide +kernel
theorem dX5_tells_75 : decode cX5_tells 75 = .ok (.invokevirtual 66, 3) := by decide +kernel
theorem dX5_tells_78 : decode cX5_tells 78 = .ok (.aload_n 0, 1) := by decide +kernel
theorem dX5_tells_79 : decode cX5_tells 79 = .ok (.getfield 12, 3) := by decide +kernel
theorem dX5_tells_82 : decode cX5_tells 82 = .ok (.iload_n 1, 1) := by decide +kernel
theorem dX5_tells_83 : decode cX5_tells 83 = .ok (.putfield 56, 3) := by decide +kernel
theorem dX5_tells_86 : decode cX5_tells 86 = .ok (.aload_n 0, 1) := by decide +kernel
theorem dX5_tells_87 : decode cX5_tells 87 = .ok (.getfield 12, 3) := by decide +kernel
theorem dX5_tells_90 : decode cX5_tells 90 = .ok (.iload_n 2, 1) := by decide +kernel
theorem dX5_tells_91 : decode cX5_tells 91 = .ok (.putfield 60, 3) := by decide +kernel
theorem dX5_tells_94 : decode cX5_tells 94 = .ok (.aload_n 0, 1) := by decide +kernel
theorem dX5_tells_95 : decode cX5_tells 95 = .ok (.getfield 12, 3) := by decide +kernel
theorem dX5_tells_98 : decode cX5_tells 98 = .ok (.iload_n 3, 1) := by decide +kernel
theorem dX5_tells_99 : decode cX5_tells 99 = .ok (.putfield 63, 3) := by decide +kernel
theorem dX5_tells_102 : decode cX5_tells 102 = .ok (.iconst 1, 1) := by decide +kernel
theorem dX5_tells_103 : decode cX5_tells 103 = .ok (.ireturn, 1) := by decide +kernel
theorem dX5_puts_0 : decode cX5_puts 0 = .ok (.iload_n 1, 1) := by decide +kernel
theorem dX5_puts_1 : decode cX5_puts 1 = .ok (.invokestatic 70, 3) := by decide +kernel
theorem dX5_puts_4 : decode cX5_puts 4 = .ok (.ifCond .eq 19, 3) := by decide +kernel
theorem dX5_puts_7 : decode cX5_puts 7 = .ok (.iload_n 2, 1) := by decide +kernel
theorem dX5_puts_8 : decode cX5_puts 8 = .ok (.invokestatic 74, 3) := by decide +kernel
theorem dX5_puts_11 : decode cX5_puts 11 = .ok (.ifCond .eq 12, 3) := by decide +kernel
theorem dX5_puts_14 : decode cX5_puts 14 = .ok (.iload_n 3, 1) := by decide +kernel
theorem dX5_puts_15 : decode cX5_puts 15 = .ok (.iconst 0, 1) := by decide +kernel
theorem dX5_puts_16 : decode cX5_puts 16 = .ok (.iconst 3, 1) := by decide +kernel
theorem dX5_puts_17 : decode cX5_puts 17 = .ok (.invokestatic 52, 3) := by decide +kernel
theorem dX5_puts_20 : decode cX5_puts 20 = .ok (.ifCond .ne 5, 3) := by decide +kernel
theorem dX5_puts_23 : decode cX5_puts 23 = .ok (.iconst (-1), 1) := by decide +kernel
theorem dX5_puts_24 : decode cX5_puts 24 = .ok (.ireturn, 1) := by decide +kernel
theorem dX5_puts_25 : decode cX5_puts 25 = .ok (.aload_n 0, 1) := by decide +kernel
theorem dX5_puts_26 : decode cX5_puts 26 = .ok (.getfield 12, 3) := by decide +kernel
theorem dX5_puts_29 : decode cX5_puts 29 = .ok (.iload_n 1, 1) := by decide +kernel
theorem dX5_puts_30 : decode cX5_puts 30 = .ok (.invokevirtual 77, 3) := by decide +kernel
theorem dX5_puts_33 : decode cX5_puts 33 = .ok (.bipush (-9), 2) := by decide +kernel
theorem dX5_puts_35 : decode cX5_puts 35 = .ok (.if_icmp .eq 6, 3) := by decide +kernel
theorem dX5_puts_38 : decode cX5_puts 38 = .ok (.bipush (-2), 2) := by decide +kernel
theorem dX5_puts_40 : decode cX5_puts 40 = .ok (.ireturn, 1) := by decide +kernel
theorem dX5_puts_41 : decode cX5_puts 41 = .ok (.aload_n 0, 1) := by decide +kernel
theorem dX5_puts_42 : decode cX5_puts 42 = .ok (.getfield 12, 3) := by decide +kernel
theorem dX5_puts_45 : decode cX5_puts 45 = .ok (.getfield 81, 3) := by decide +kernel
theorem dX5_puts_48 : decode cX5_puts 48 = .ok (.bipush 64, 2) := by decide +kernel
theorem dX5_puts_50 : decode cX5_puts 50 = .ok (.if_icmp .lt 6, 3) := by decide +kernel
theorem dX5_puts_53 : decode cX5_puts 53 = .ok (.bipush (-3), 2) := by decide +kernel
theorem dX5_puts_55 : decode cX5_puts 55 = .ok (.ireturn, 1) := by decide +kernel
theorem dX5_puts_56 : decode cX5_puts 56 = .ok (.aload_n 0, 1) := by decide +kernel
theorem dX5_puts_57 : decode cX5_puts 57 = .ok (.getfield 29, 3) := by decide +kernel
theorem dX5_puts_60 : decode cX5_puts 60 = .ok (.aload_n 0, 1) := by decide +kernel
theorem dX5_puts_61 : decode cX5_puts 61 = .ok (.getfield 12, 3) := by decide +kernel
theorem dX5_puts_64 : decode cX5_puts 64 = .ok (.invokevirtual 66, 3) := by decide +kernel
theorem dX5_puts_67 : decode cX5_puts 67 = .ok (.aload_n 0, 1) := by decide +kernel
theorem dX5_puts_68 : decode cX5_puts 68 = .ok (.getfield 12, 3) := by decide +kernel
theorem dX5_puts_71 : decode cX5_puts 71 = .ok (.iload_n 1, 1) := by decide +kernel
theorem dX5_puts_72 : decode cX5_puts 72 = .ok (.iload_n 2, 1) := by decide +kernel
theorem dX5_puts_73 : decode cX5_puts 73 = .ok (.iload_n 3, 1) := by decide +kernel
theorem dX5_puts_74 : decode cX5_puts 74 = .ok (.invokevirtual 84, 3) := by decide +kernel
theorem dX5_puts_77 : decode cX5_puts 77 = .ok (.ireturn, 1) := by decide +kernel
theorem dX5_slot_0 : decode cX5_slot 0 = .ok (.aload_n 0, 1) := by decide +kernel
theorem dX5_slot_1 : decode cX5_slot 1 = .ok (.getfield 12, 3) := by decide +kernel
theorem dX5_slot_4 : decode cX5_slot 4 = .ok (.getfield 88, 3) := by decide +kernel
theorem dX5_slot_7 : decode cX5_slot 7 = .ok (.bipush 99, 2) := by decide +kernel
theorem dX5_slot_9 : decode cX5_slot 9 = .ok (.if_icmp .lt 6, 3) := by decide +kernel
theorem dX5_slot_12 : decode cX5_slot 12 = .ok (.bipush (-2), 2) := by decide +kernel
theorem dX5_slot_14 : decode cX5_slot 14 = .ok (.ireturn, 1) := by decide +kernel
theorem dX5_slot_15 : decode cX5_slot 15 = .ok (.aload_n 0, 1) := by decide +kernel
theorem dX5_slot_16 : decode cX5_slot 16 = .ok (.getfield 29, 3) := by decide +kernel
theorem dX5_slot_19 : decode cX5_slot 19 = .ok (.aload_n 0, 1) := by decide +kernel
theorem dX5_slot_20 : decode cX5_slot 20 = .ok (.getfield 12, 3) := by decide +kernel
theorem dX5_slot_23 : decode cX5_slot 23 = .ok (.invokevirtual 66, 3) := by decide +kernel
theorem dX5_slot_26 : decode cX5_slot 26 = .ok (.aload_n 0, 1) := by decide +kernel
theorem dX5_slot_27 : decode cX5_slot 27 = .ok (.getfield 12, 3) := by decide +kernel
theorem dX5_slot_30 : decode cX5_slot 30 = .ok (.getfield 91, 3) := by decide +kernel
theorem dX5_slot_33 : decode cX5_slot 33 = .ok (.iconst 3, 1) := by decide +kernel
theorem dX5_slot_34 : decode cX5_slot 34 = .ok (.iaload, 1) := by decide +kernel
theorem dX5_slot_35 : decode cX5_slot 35 = .ok (.istore_n 1, 1) := by decide +kernel
theorem dX5_slot_36 : decode cX5_slot 36 = .ok (.aload_n 0, 1) := by decide +kernel
theorem dX5_slot_37 : decode cX5_slot 37 = .ok (.getfield 22, 3) := by decide +kernel
theorem dX5_slot_40 : decode cX5_slot 40 = .ok (.aload_n 0, 1) := by decide +kernel
theorem dX5_slot_41 : decode cX5_slot 41 = .ok (.getfield 12, 3) := by decide +kernel
theorem dX5_slot_44 : decode cX5_slot 44 = .ok (.invokevirtual 94, 3) := by decide +kernel
theorem dX5_slot_47 : decode cX5_slot 47 = .ok (.aload_n 0, 1) := by decide +kernel
theorem dX5_slot_48 : decode cX5_slot 48 = .ok (.getfield 12, 3) := by decide +kernel
theorem dX5_slot_51 : decode cX5_slot 51 = .ok (.getfield 91, 3) := by decide +kernel
theorem dX5_slot_54 : decode cX5_slot 54 = .ok (.iconst 3, 1) := by decide +kernel
theorem dX5_slot_55 : decode cX5_slot 55 = .ok (.iaload, 1) := by decide +kernel
theorem dX5_slot_56 : decode cX5_slot 56 = .ok (.iload_n 1, 1) := by decide +kernel
theorem dX5_slot_57 : decode cX5_slot 57 = .ok (.isub, 1) := by decide +kernel
theorem dX5_slot_58 : decode cX5_slot 58 = .ok (.ireturn, 1) := by decide +kernel
theorem dX5_undo_0 : decode cX5_undo 0 = .ok (.aload_n 0, 1) := by decide +kernel
theorem dX5_undo_1 : decode cX5_undo 1 = .ok (.getfield 29, 3) := by decide +kernel
theorem dX5_undo_4 : decode cX5_undo 4 = .ok (.getfield 97, 3) := by decide +kernel
theorem dX5_undo_7 : decode cX5_undo 7 = .ok (.ifCond .ne 6, 3) := by decide +kernel
theorem dX5_undo_10 : decode cX5_undo 10 = .ok (.bipush (-2), 2) := by decide +kernel
theorem dX5_undo_12 : decode cX5_undo 12 = .ok (.ireturn, 1) := by decide +kernel
theorem dX5_undo_13 : decode cX5_undo 13 = .ok (.aload_n 0, 1) := by decide +kernel
theorem dX5_undo_14 : decode cX5_undo 14 = .ok (.getfield 29, 3) := by decide +kernel
theorem dX5_undo_17 : decode cX5_undo 17 = .ok (.aload_n 0, 1) := by decide +kernel
theorem dX5_undo_18 : decode cX5_undo 18 = .ok (.getfield 12, 3) := by decide +kernel
theorem dX5_undo_21 : decode cX5_undo 21 = .ok (.invokevirtual 100, 3) := by decide +kernel
theorem dX5_undo_24 : decode cX5_undo 24 = .ok (.aload_n 0, 1) := by decide +kernel
theorem dX5_undo_25 : decode cX5_undo 25 = .ok (.getfield 29, 3) := by decide +kernel
theorem dX5_undo_28 : decode cX5_undo 28 = .ok (.getfield 97, 3) := by decide +kernel
theorem dX5_undo_31 : decode cX5_undo 31 = .ok (.ireturn, 1) := by decide +kernel
theorem dX5_clear_0 : decode cX5_clear 0 = .ok (.aload_n 0, 1) := by decide +kernel
theorem dX5_clear_1 : decode cX5_clear 1 = .ok (.getfield 12, 3) := by decide +kernel
theorem dX5_clear_4 : decode cX5_clear 4 = .ok (.getfield 81, 3) := by decide +kernel
theorem dX5_clear_7 : decode cX5_clear 7 = .ok (.istore_n 1, 1) := by decide +kernel
theorem dX5_clear_8 : decode cX5_clear 8 = .ok (.aload_n 0, 1) := by decide +kernel
theorem dX5_clear_9 : decode cX5_clear 9 = .ok (.getfield 12, 3) := by decide +kernel
theorem dX5_clear_12 : decode cX5_clear 12 = .ok (.invokevirtual 103, 3) := by decide +kernel
theorem dX5_clear_15 : decode cX5_clear 15 = .ok (.aload_n 0, 1) := by decide +kernel
theorem dX5_clear_16 : decode cX5_clear 16 = .ok (.getfield 29, 3) := by decide +kernel
theorem dX5_clear_19 : decode cX5_clear 19 = .ok (.iconst 0, 1) := by decide +kernel
theorem dX5_clear_20 : decode cX5_clear 20 = .ok (.putfield 97, 3) := by decide +kernel
theorem dX5_clear_23 : decode cX5_clear 23 = .ok (.aload_n 0, 1) := by decide +kernel
theorem dX5_clear_24 : decode cX5_clear 24 = .ok (.getfield 36, 3) := by decide +kernel
theorem dX5_clear_27 : decode cX5_clear 27 = .ok (.iconst 0, 1) := by decide +kernel
theorem dX5_clear_28 : decode cX5_clear 28 = .ok (.putfield 106, 3) := by decide +kernel
theorem dX5_clear_31 : decode cX5_clear 31 = .ok (.iconst 0, 1) := by decide +kernel
theorem dX5_clear_32 : decode cX5_clear 32 = .ok (.istore_n 2, 1) := by decide +kernel
theorem dX5_clear_33 : decode cX5_clear 33 = .ok (.iload_n 2, 1) := by decide +kernel
theorem dX5_clear_34 : decode cX5_clear 34 = .ok (.iconst 2, 1) := by decide +kernel
theorem dX5_clear_35 : decode cX5_clear 35 = .ok (.if_icmp .ge 16, 3) := by decide +kernel
theorem dX5_clear_38 : decode cX5_clear 38 = .ok (.aload_n 0, 1) := by decide +kernel
theorem dX5_clear_39 : decode cX5_clear 39 = .ok (.getfield 44, 3) := by decide +kernel
theorem dX5_clear_42 : decode cX5_clear 42 = .ok (.iload_n 2, 1) := by decide +kernel
theorem dX5_clear_43 : decode cX5_clear 43 = .ok (.iconst 0, 1) := by decide +kernel
theorem dX5_clear_44 : decode cX5_clear 44 = .ok (.bastore, 1) := by decide +kernel
theorem dX5_clear_45 : decode cX5_clear 45 = .ok (.iinc 2 1, 3) := by decide +kernel
theorem dX5_clear_48 : decode cX5_clear 48 = .ok (.goto (-15), 3) := by decide +kernel
theorem dX5_clear_51 : decode cX5_clear 51 = .ok (.iload_n 1, 1) := by decide +kernel
theorem dX5_clear_52 : decode cX5_clear 52 = .ok (.ireturn, 1) := by decide +kernel
theorem dX5_letter_0 : decode cX5_letter 0 = .ok (.iload_n 1, 1) := by decide +kernel
theorem dX5_letter_1 : decode cX5_letter 1 = .ok (.iconst 0, 1) := by decide +kernel
theorem dX5_letter_2 : decode cX5_letter 2 = .ok (.aload_n 0, 1) := by decide +kernel
theorem dX5_letter_3 : decode cX5_letter 3 = .ok (.getfield 12, 3) := by decide +kernel
theorem dX5_letter_6 : decode cX5_letter 6 = .ok (.getfield 81, 3) := by decide +kernel
theorem dX5_letter_9 : decode cX5_letter 9 = .ok (.iconst 1, 1) := by decide +kernel
theorem dX5_letter_10 : decode cX5_letter 10 = .ok (.isub, 1) := by decide +kernel
theorem dX5_letter_11 : decode cX5_letter 11 = .ok (.invokestatic 52, 3) := by decide +kernel
theorem dX5_letter_14 : decode cX5_letter 14 = .ok (.ifCond .ne 5, 3) := by decide +kernel
theorem dX5_letter_17 : decode cX5_letter 17 = .ok (.iconst (-1), 1) := by decide +kernel
theorem dX5_letter_18 : decode cX5_letter 18 = .ok (.ireturn, 1) := by decide +kernel
theorem dX5_letter_19 : decode cX5_letter 19 = .ok (.iload_n 2, 1) := by decide +kernel
theorem dX5_letter_20 : decode cX5_letter 20 = .ok (.tableswitch 114 0 6 #[44, 54, 64, 74, 84, 94, 104], 44) := by decide +kernel
theorem dX5_letter_64 : decode cX5_letter 64 = .ok (.aload_n 0, 1) := by decide +kernel
theorem dX5_letter_65 : decode cX5_letter 65 = .ok (.getfield 12, 3) := by decide +kernel
theorem dX5_letter_68 : decode cX5_letter 68 = .ok (.getfield 109, 3) := by decide +kernel
theorem dX5_letter_71 : decode cX5_letter 71 = .ok (.iload_n 1, 1) := by decide +kernel
theorem dX5_letter_72 : decode cX5_letter 72 = .ok (.iaload, 1) := by decide +kernel
theorem dX5_letter_73 : decode cX5_letter 73 = .ok (.ireturn, 1) := by decide +kernel
theorem dX5_letter_74 : decode cX5_letter 74 = .ok (.aload_n 0, 1) := by decide +kernel
theorem dX5_letter_75 : decode cX5_letter 75 = .ok (.getfield 12, 3) := by decide +kernel
theorem dX5_letter_78 : decode cX5_letter 78 = .ok (.getfield 112, 3) := by decide +kernel
theorem dX5_letter_81 : decode cX5_letter 81 = .ok (.iload_n 1, 1) := by decide +kernel
theorem dX5_letter_82 : decode cX5_letter 82 = .ok (.iaload, 1) := by decide +kernel
theorem dX5_letter_83 : decode cX5_letter 83 = .ok (.ireturn, 1) := by decide +kernel
theorem dX5_letter_84 : decode cX5_letter 84 = .ok (.aload_n 0, 1) := by decide +kernel
theorem dX5_letter_85 : decode cX5_letter 85 = .ok (.getfield 12, 3) := by decide +kernel
theorem dX5_letter_88 : decode cX5_letter 88 = .ok (.getfield 115, 3) := by decide +kernel
theorem dX5_letter_91 : decode cX5_letter 91 = .ok (.iload_n 1, 1) := by decide +kernel
theorem dX5_letter_92 : decode cX5_letter 92 = .ok (.iaload, 1) := by decide +kernel
theorem dX5_letter_93 : decode cX5_letter 93 = .ok (.ireturn, 1) := by decide +kernel
theorem dX5_letter_94 : decode cX5_letter 94 = .ok (.aload_n 0, 1) := by decide +kernel
theorem dX5_letter_95 : decode cX5_letter 95 = .ok (.getfield 12, 3) := by decide +kernel
theorem dX5_letter_98 : decode cX5_letter 98 = .ok (.getfield 118, 3) := by decide +kernel
theorem dX5_letter_101 : decode cX5_letter 101 = .ok (.iload_n 1, 1) := by decide +kernel
theorem dX5_letter_102 : decode cX5_letter 102 = .ok (.iaload, 1) := by decide +kernel
theorem dX5_letter_103 : decode cX5_letter 103 = .ok (.ireturn, 1) := by decide +kernel
theorem dX5_letter_104 : decode cX5_letter 104 = .ok (.aload_n 0, 1) := by decide +kernel
theorem dX5_letter_105 : decode cX5_letter 105 = .ok (.getfield 12, 3) := by decide +kernel
theorem dX5_letter_108 : decode cX5_letter 108 = .ok (.getfield 121, 3) := by decide +kernel
theorem dX5_letter_111 : decode cX5_letter 111 = .ok (.iload_n 1, 1) := by decide +kernel
theorem dX5_letter_112 : decode cX5_letter 112 = .ok (.iaload, 1) := by decide +kernel
theorem dX5_letter_113 : decode cX5_letter 113 = .ok (.ireturn, 1) := by decide +kernel
theorem dX5_letter_114 : decode cX5_letter 114 = .ok (.aload_n 0, 1) := by decide +kernel
theorem dX5_letter_115 : decode cX5_letter 115 = .ok (.getfield 12, 3) := by decide +kernel
theorem dX5_letter_118 : decode cX5_letter 118 = .ok (.getfield 124, 3) := by decide +kernel
theorem dX5_letter_121 : decode cX5_letter 121 = .ok (.iload_n 1, 1) := by decide +kernel
theorem dX5_letter_122 : decode cX5_letter 122 = .ok (.iaload, 1) := by decide +kernel
theorem dX5_letter_123 : decode cX5_letter 123 = .ok (.ireturn, 1) := by decide +kernel
theorem dX5_letter_124 : decode cX5_letter 124 = .ok (.aload_n 0, 1) := by decide +kernel
theorem dX5_letter_125 : decode cX5_letter 125 = .ok (.getfield 12, 3) := by decide +kernel
theorem dX5_letter_128 : decode cX5_letter 128 = .ok (.getfield 127, 3) := by decide +kernel
theorem dX5_letter_131 : decode cX5_letter 131 = .ok (.iload_n 1, 1) := by decide +kernel
theorem dX5_letter_132 : decode cX5_letter 132 = .ok (.iaload, 1) := by decide +kernel
theorem dX5_letter_133 : decode cX5_letter 133 = .ok (.ireturn, 1) := by decide +kernel
theorem dX5_letter_134 : decode cX5_letter 134 = .ok (.iconst (-1), 1) := by decide +kernel
theorem dX5_letter_135 : decode cX5_letter 135 = .ok (.ireturn, 1) := by decide +kernel
theorem dX5_line_0 : decode cX5_line 0 = .ok (.iload_n 1, 1) := by decide +kernel
theorem dX5_line_1 : decode cX5_line 1 = .ok (.invokestatic 70, 3) := by decide +kernel
theorem dX5_line_4 : decode cX5_line 4 = .ok (.ifCond .eq 14, 3) := by decide +kernel
theorem dX5_line_7 : decode cX5_line 7 = .ok (.aload_n 0, 1) := by decide +kernel
theorem dX5_line_8 : decode cX5_line 8 = .ok (.getfield 12, 3) := by decide +kernel
theorem dX5_line_11 : decode cX5_line 11 = .ok (.iload_n 1, 1) := by decide +kernel
theorem dX5_line_12 : decode cX5_line 12 = .ok (.invokevirtual 77, 3) := by decide +kernel
theorem dX5_line_15 : decode cX5_line 15 = .ok (.goto 4, 3) := by decide +kernel
theorem dX5_line_18 : decode cX5_line 18 = .ok (.iconst (-1), 1) := by decide +kernel
theorem dX5_line_19 : decode cX5_line 19 = .ok (.ireturn, 1) := by decide +kernel
theorem dX5_queue_0 : decode cX5_queue 0 = .ok (.iload_n 1, 1) := by decide +kernel
theorem dX5_queue_1 : decode cX5_queue 1 = .ok (.invokestatic 74, 3) := by decide +kernel
theorem dX5_queue_4 : decode cX5_queue 4 = .ok (.ifCond .eq 7, 3) := by decide +kernel
theorem dX5_queue_7 : decode cX5_queue 7 = .ok (.iload_n 2, 1) := by decide +kernel
theorem dX5_queue_8 : decode cX5_queue 8 = .ok (.ifCond .ge 5, 3) := by decide +kernel
theorem dX5_queue_11 : decode cX5_queue 11 = .ok (.iconst (-1), 1) := by decide +kernel
theorem dX5_queue_12 : decode cX5_queue 12 = .ok (.ireturn, 1) := by decide +kernel
theorem dX5_queue_13 : decode cX5_queue 13 = .ok (.aload_n 0, 1) := by decide +kernel
theorem dX5_queue_14 : decode cX5_queue 14 = .ok (.getfield 12, 3) := by decide +kernel
theorem dX5_queue_17 : decode cX5_queue 17 = .ok (.iload_n 1, 1) := by decide +kernel
theorem dX5_queue_18 : decode cX5_queue 18 = .ok (.iload_n 2, 1) := by decide +kernel
theorem dX5_queue_19 : decode cX5_queue 19 = .ok (.invokevirtual 130, 3) := by decide +kernel
theorem dX5_queue_22 : decode cX5_queue 22 = .ok (.ireturn, 1) := by decide +kernel
theorem dX5_turned_0 : decode cX5_turned 0 = .ok (.iload_n 1, 1) := by decide +kernel
theorem dX5_turned_1 : decode cX5_turned 1 = .ok (.ifCond .ge 5, 3) := by decide +kernel
theorem dX5_turned_4 : decode cX5_turned 4 = .ok (.iconst (-1), 1) := by decide +kernel
theorem dX5_turned_5 : decode cX5_turned 5 = .ok (.ireturn, 1) := by decide +kernel
theorem dX5_turned_6 : decode cX5_turned 6 = .ok (.aload_n 0, 1) := by decide +kernel
theorem dX5_turned_7 : decode cX5_turned 7 = .ok (.getfield 22, 3) := by decide +kernel
theorem dX5_turned_10 : decode cX5_turned 10 = .ok (.aload_n 0, 1) := by decide +kernel
theorem dX5_turned_11 : decode cX5_turned 11 = .ok (.getfield 12, 3) := by decide +kernel
theorem dX5_turned_14 : decode cX5_turned 14 = .ok (.invokevirtual 134, 3) := by decide +kernel
theorem dX5_turned_17 : decode cX5_turned 17 = .ok (.iload_n 1, 1) := by decide +kernel
theorem dX5_turned_18 : decode cX5_turned 18 = .ok (.invokevirtual 138, 3) := by decide +kernel
theorem dX5_turned_21 : decode cX5_turned 21 = .ok (.ireturn, 1) := by decide +kernel
theorem dX5_sorted_0 : decode cX5_sorted 0 = .ok (.iload_n 1, 1) := by decide +kernel
theorem dX5_sorted_1 : decode cX5_sorted 1 = .ok (.ifCond .ge 5, 3) := by decide +kernel
theorem dX5_sorted_4 : decode cX5_sorted 4 = .ok (.iconst (-1), 1) := by decide +kernel
theorem dX5_sorted_5 : decode cX5_sorted 5 = .ok (.ireturn, 1) := by decide +kernel
theorem dX5_sorted_6 : decode cX5_sorted 6 = .ok (.aload_n 0, 1) := by decide +kernel
theorem dX5_sorted_7 : decode cX5_sorted 7 = .ok (.getfield 22, 3) := by decide +kernel
theorem dX5_sorted_10 : decode cX5_sorted 10 = .ok (.aload_n 0, 1) := by decide +kernel
theorem dX5_sorted_11 : decode cX5_sorted 11 = .ok (.getfield 12, 3) := by decide +kernel
theorem dX5_sorted_14 : decode cX5_sorted 14 = .ok (.invokevirtual 143, 3) := by decide +kernel
theorem dX5_sorted_17 : decode cX5_sorted 17 = .ok (.iload_n 1, 1) := by decide +kernel
theorem dX5_sorted_18 : decode cX5_sorted 18 = .ok (.invokevirtual 138, 3) := by decide +kernel
theorem dX5_sorted_21 : decode cX5_sorted 21 = .ok (.ireturn, 1) := by decide +kernel
theorem dX5_straight_0 : decode cX5_straight 0 = .ok (.iload_n 1, 1) := by decide +kernel
theorem dX5_straight_1 : decode cX5_straight 1 = .ok (.invokestatic 70, 3) := by decide +kernel
theorem dX5_straight_4 : decode cX5_straight 4 = .ok (.ifCond .ne 5, 3) := by decide +kernel
theorem dX5_straight_7 : decode cX5_straight 7 = .ok (.iconst (-1), 1) := by decide +kernel
theorem dX5_straight_8 : decode cX5_straight 8 = .ok (.ireturn, 1) := by decide +kernel
theorem dX5_straight_9 : decode cX5_straight 9 = .ok (.aload_n 0, 1) := by decide +kernel
theorem dX5_straight_10 : decode cX5_straight 10 = .ok (.getfield 12, 3) := by decide +kernel
theorem dX5_straight_13 : decode cX5_straight 13 = .ok (.iload_n 1, 1) := by decide +kernel
theorem dX5_straight_14 : decode cX5_straight 14 = .ok (.invokevirtual 77, 3) := by decide +kernel
theorem dX5_straight_17 : decode cX5_straight 17 = .ok (.bipush (-9), 2) := by decide +kernel
theorem dX5_straight_19 : decode cX5_straight 19 = .ok (.if_icmp .ne 6, 3) := by decide +kernel
theorem dX5_straight_22 : decode cX5_straight 22 = .ok (.bipush (-2), 2) := by decide +kernel
theorem dX5_straight_24 : decode cX5_straight 24 = .ok (.ireturn, 1) := by decide +kernel
theorem dX5_straight_25 : decode cX5_straight 25 = .ok (.aload_n 0, 1) := by decide +kernel
theorem dX5_straight_26 : decode cX5_straight 26 = .ok (.invokevirtual 146, 3) := by decide +kernel
theorem dX5_straight_29 : decode cX5_straight 29 = .ok (.iconst 1, 1) := by decide +kernel
theorem dX5_straight_30 : decode cX5_straight 30 = .ok (.istore_n 2, 1) := by decide +kernel
theorem dX5_straight_31 : decode cX5_straight 31 = .ok (.iload_n 2, 1) := by decide +kernel
theorem dX5_straight_32 : decode cX5_straight 32 = .ok (.iconst 3, 1) := by decide +kernel
theorem dX5_straight_33 : decode cX5_straight 33 = .ok (.if_icmp .gt 27, 3) := by decide +kernel
theorem dX5_straight_36 : decode cX5_straight 36 = .ok (.aload_n 0, 1) := by decide +kernel
theorem dX5_straight_37 : decode cX5_straight 37 = .ok (.iload_n 2, 1) := by decide +kernel
theorem dX5_straight_38 : decode cX5_straight 38 = .ok (.invokevirtual 149, 3) := by decide +kernel
theorem dX5_straight_41 : decode cX5_straight 41 = .ok (.aload_n 0, 1) := by decide +kernel
theorem dX5_straight_42 : decode cX5_straight 42 = .ok (.getfield 48, 3) := by decide +kernel
theorem dX5_straight_45 : decode cX5_straight 45 = .ok (.iload_n 1, 1) := by decide +kernel
theorem dX5_straight_46 : decode cX5_straight 46 = .ok (.iaload, 1) := by decide +kernel
theorem dX5_straight_47 : decode cX5_straight 47 = .ok (.bipush (-9), 2) := by decide +kernel
theorem dX5_straight_49 : decode cX5_straight 49 = .ok (.if_icmp .ne 5, 3) := by decide +kernel
theorem dX5_straight_52 : decode cX5_straight 52 = .ok (.iload_n 2, 1) := by decide +kernel
theorem dX5_straight_53 : decode cX5_straight 53 = .ok (.ireturn, 1) := by decide +kernel
theorem dX5_straight_54 : decode cX5_straight 54 = .ok (.iinc 2 1, 3) := by decide +kernel
theorem dX5_straight_57 : decode cX5_straight 57 = .ok (.goto (-26), 3) := by decide +kernel
theorem dX5_straight_60 : decode cX5_straight 60 = .ok (.iconst 0, 1) := by decide +kernel
theorem dX5_straight_61 : decode cX5_straight 61 = .ok (.ireturn, 1) := by decide +kernel
theorem dX5_drain_0 : decode cX5_drain 0 = .ok (.aload_n 0, 1) := by decide +kernel
theorem dX5_drain_1 : decode cX5_drain 1 = .ok (.getfield 16, 3) := by decide +kernel
theorem dX5_drain_4 : decode cX5_drain 4 = .ok (.aload_n 0, 1) := by decide +kernel
theorem dX5_drain_5 : decode cX5_drain 5 = .ok (.getfield 12, 3) := by decide +kernel
theorem dX5_drain_8 : decode cX5_drain 8 = .ok (.invokevirtual 153, 3) := by decide +kernel
theorem dX5_drain_11 : decode cX5_drain 11 = .ok (.iconst 0, 1) := by decide +kernel
theorem dX5_drain_12 : decode cX5_drain 12 = .ok (.istore_n 1, 1) := by decide +kernel
theorem dX5_drain_13 : decode cX5_drain 13 = .ok (.iload_n 1, 1) := by decide +kernel
theorem dX5_drain_14 : decode cX5_drain 14 = .ok (.bipush 99, 2) := by decide +kernel
theorem dX5_drain_16 : decode cX5_drain 16 = .ok (.if_icmp .gt 31, 3) := by decide +kernel
theorem dX5_drain_19 : decode cX5_drain 19 = .ok (.aload_n 0, 1) := by decide +kernel
theorem dX5_drain_20 : decode cX5_drain 20 = .ok (.getfield 16, 3) := by decide +kernel
theorem dX5_drain_23 : decode cX5_drain 23 = .ok (.invokevirtual 156, 3) := by decide +kernel
theorem dX5_drain_26 : decode cX5_drain 26 = .ok (.ifCond .ne 5, 3) := by decide +kernel
theorem dX5_drain_29 : decode cX5_drain 29 = .ok (.iload_n 1, 1) := by decide +kernel
theorem dX5_drain_30 : decode cX5_drain 30 = .ok (.ireturn, 1) := by decide +kernel
theorem dX5_drain_31 : decode cX5_drain 31 = .ok (.aload_n 0, 1) := by decide +kernel
theorem dX5_drain_32 : decode cX5_drain 32 = .ok (.invokevirtual 160, 3) := by decide +kernel
theorem dX5_drain_35 : decode cX5_drain 35 = .ok (.ifCond .ne 6, 3) := by decide +kernel
theorem dX5_drain_38 : decode cX5_drain 38 = .ok (.bipush (-9), 2) := by decide +kernel
theorem dX5_drain_40 : decode cX5_drain 40 = .ok (.ireturn, 1) := by decide +kernel
theorem dX5_drain_41 : decode cX5_drain 41 = .ok (.iinc 1 1, 3) := by decide +kernel
theorem dX5_drain_44 : decode cX5_drain 44 = .ok (.goto (-31), 3) := by decide +kernel
theorem dX5_drain_47 : decode cX5_drain 47 = .ok (.bipush (-9), 2) := by decide +kernel
theorem dX5_drain_49 : decode cX5_drain 49 = .ok (.ireturn, 1) := by decide +kernel
theorem dX5_lost_0 : decode cX5_lost 0 = .ok (.iload_n 1, 1) := by decide +kernel
theorem dX5_lost_1 : decode cX5_lost 1 = .ok (.iconst 0, 1) := by decide +kernel
theorem dX5_lost_2 : decode cX5_lost 2 = .ok (.bipush 40, 2) := by decide +kernel
theorem dX5_lost_4 : decode cX5_lost 4 = .ok (.invokestatic 52, 3) := by decide +kernel
theorem dX5_lost_7 : decode cX5_lost 7 = .ok (.ifCond .eq 18, 3) := by decide +kernel
theorem dX5_lost_10 : decode cX5_lost 10 = .ok (.aload_n 0, 1) := by decide +kernel
theorem dX5_lost_11 : decode cX5_lost 11 = .ok (.iload_n 1, 1) := by decide +kernel
theorem dX5_lost_12 : decode cX5_lost 12 = .ok (.aload_n 0, 1) := by decide +kernel
theorem dX5_lost_13 : decode cX5_lost 13 = .ok (.getfield 12, 3) := by decide +kernel
theorem dX5_lost_16 : decode cX5_lost 16 = .ok (.getfield 56, 3) := by decide +kernel
theorem dX5_lost_19 : decode cX5_lost 19 = .ok (.invokevirtual 164, 3) := by decide +kernel
theorem dX5_lost_22 : decode cX5_lost 22 = .ok (.goto 4, 3) := by decide +kernel
theorem dX5_lost_25 : decode cX5_lost 25 = .ok (.iconst (-1), 1) := by decide +kernel
theorem dX5_lost_26 : decode cX5_lost 26 = .ok (.ireturn, 1) := by decide +kernel
theorem dX5_fewest_0 : decode cX5_fewest 0 = .ok (.iload_n 1, 1) := by decide +kernel
theorem dX5_fewest_1 : decode cX5_fewest 1 = .ok (.iconst 0, 1) := by decide +kernel
theorem dX5_fewest_2 : decode cX5_fewest 2 = .ok (.bipush 40, 2) := by decide +kernel
theorem dX5_fewest_4 : decode cX5_fewest 4 = .ok (.invokestatic 52, 3) := by decide +kernel
theorem dX5_fewest_7 : decode cX5_fewest 7 = .ok (.ifCond .ne 5, 3) := by decide +kernel
theorem dX5_fewest_10 : decode cX5_fewest 10 = .ok (.iconst (-1), 1) := by decide +kernel
end
section
theorem dX5_fewest_11 : decode cX5_fewest 11 = .ok (.ireturn, 1) := by decide +kernel
theorem dX5_fewest_12 : decode cX5_fewest 12 = .ok (.iconst 1, 1) := by decide +kernel
theorem dX5_fewest_13 : decode cX5_fewest 13 = .ok (.istore_n 2, 1) := by decide +kernel
theorem dX5_fewest_14 : decode cX5_fewest 14 = .ok (.iload_n 2, 1) := by decide +kernel
theorem dX5_fewest_15 : decode cX5_fewest 15 = .ok (.iconst 3, 1) := by decide +kernel
theorem dX5_fewest_16 : decode cX5_fewest 16 = .ok (.if_icmp .gt 20, 3) := by decide +kernel
theorem dX5_fewest_19 : decode cX5_fewest 19 = .ok (.aload_n 0, 1) := by decide +kernel
theorem dX5_fewest_20 : decode cX5_fewest 20 = .ok (.iload_n 1, 1) := by decide +kernel
theorem dX5_fewest_21 : decode cX5_fewest 21 = .ok (.iload_n 2, 1) := by decide +kernel
theorem dX5_fewest_22 : decode cX5_fewest 22 = .ok (.invokevirtual 164, 3) := by decide +kernel
theorem dX5_fewest_25 : decode cX5_fewest 25 = .ok (.ifCond .ne 5, 3) := by decide +kernel
theorem dX5_fewest_28 : decode cX5_fewest 28 = .ok (.iload_n 2, 1) := by decide +kernel
theorem dX5_fewest_29 : decode cX5_fewest 29 = .ok (.ireturn, 1) := by decide +kernel
theorem dX5_fewest_30 : decode cX5_fewest 30 = .ok (.iinc 2 1, 3) := by decide +kernel
theorem dX5_fewest_33 : decode cX5_fewest 33 = .ok (.goto (-19), 3) := by decide +kernel
theorem dX5_fewest_36 : decode cX5_fewest 36 = .ok (.bipush (-9), 2) := by decide +kernel
theorem dX5_fewest_38 : decode cX5_fewest 38 = .ok (.ireturn, 1) := by decide +kernel
theorem dX5_share_0 : decode cX5_share 0 = .ok (.iload_n 1, 1) := by decide +kernel
theorem dX5_share_1 : decode cX5_share 1 = .ok (.iconst 0, 1) := by decide +kernel
theorem dX5_share_2 : decode cX5_share 2 = .ok (.bipush 10, 2) := by decide +kernel
theorem dX5_share_4 : decode cX5_share 4 = .ok (.invokestatic 52, 3) := by decide +kernel
theorem dX5_share_7 : decode cX5_share 7 = .ok (.ifCond .eq 22, 3) := by decide +kernel
theorem dX5_share_10 : decode cX5_share 10 = .ok (.iload_n 2, 1) := by decide +kernel
theorem dX5_share_11 : decode cX5_share 11 = .ok (.iconst 0, 1) := by decide +kernel
theorem dX5_share_12 : decode cX5_share 12 = .ok (.bipush 8, 2) := by decide +kernel
theorem dX5_share_14 : decode cX5_share 14 = .ok (.invokestatic 52, 3) := by decide +kernel
theorem dX5_share_17 : decode cX5_share 17 = .ok (.ifCond .eq 12, 3) := by decide +kernel
theorem dX5_share_20 : decode cX5_share 20 = .ok (.iload_n 3, 1) := by decide +kernel
theorem dX5_share_21 : decode cX5_share 21 = .ok (.iconst 0, 1) := by decide +kernel
theorem dX5_share_22 : decode cX5_share 22 = .ok (.iconst 1, 1) := by decide +kernel
theorem dX5_share_23 : decode cX5_share 23 = .ok (.invokestatic 52, 3) := by decide +kernel
theorem dX5_share_26 : decode cX5_share 26 = .ok (.ifCond .ne 7, 3) := by decide +kernel
theorem dX5_share_29 : decode cX5_share 29 = .ok (.ldc2_w 167, 3) := by decide +kernel
theorem dX5_share_32 : decode cX5_share 32 = .ok (.lreturn, 1) := by decide +kernel
theorem dX5_share_33 : decode cX5_share 33 = .ok (.iload_n 1, 1) := by decide +kernel
theorem dX5_share_34 : decode cX5_share 34 = .ok (.iload_n 2, 1) := by decide +kernel
theorem dX5_share_35 : decode cX5_share 35 = .ok (.invokestatic 169, 3) := by decide +kernel
theorem dX5_share_38 : decode cX5_share 38 = .ok (.lstore 4, 2) := by decide +kernel
theorem dX5_share_40 : decode cX5_share 40 = .ok (.ldc2_w 173, 3) := by decide +kernel
theorem dX5_share_43 : decode cX5_share 43 = .ok (.bipush 8, 2) := by decide +kernel
theorem dX5_share_45 : decode cX5_share 45 = .ok (.invokestatic 175, 3) := by decide +kernel
theorem dX5_share_48 : decode cX5_share 48 = .ok (.lstore 6, 2) := by decide +kernel
theorem dX5_share_50 : decode cX5_share 50 = .ok (.lload 4, 2) := by decide +kernel
theorem dX5_share_52 : decode cX5_share 52 = .ok (.lload 6, 2) := by decide +kernel
theorem dX5_share_54 : decode cX5_share 54 = .ok (.invokestatic 179, 3) := by decide +kernel
theorem dX5_share_57 : decode cX5_share 57 = .ok (.lstore 8, 2) := by decide +kernel
theorem dX5_share_59 : decode cX5_share 59 = .ok (.lload 8, 2) := by decide +kernel
theorem dX5_share_61 : decode cX5_share 61 = .ok (.lconst 0, 1) := by decide +kernel
theorem dX5_share_62 : decode cX5_share 62 = .ok (.lcmp, 1) := by decide +kernel
theorem dX5_share_63 : decode cX5_share 63 = .ok (.ifCond .ne 7, 3) := by decide +kernel
theorem dX5_share_66 : decode cX5_share 66 = .ok (.ldc2_w 167, 3) := by decide +kernel
theorem dX5_share_69 : decode cX5_share 69 = .ok (.lreturn, 1) := by decide +kernel
theorem dX5_share_70 : decode cX5_share 70 = .ok (.iload_n 3, 1) := by decide +kernel
theorem dX5_share_71 : decode cX5_share 71 = .ok (.ifCond .ne 11, 3) := by decide +kernel
theorem dX5_share_74 : decode cX5_share 74 = .ok (.lload 4, 2) := by decide +kernel
theorem dX5_share_76 : decode cX5_share 76 = .ok (.lload 8, 2) := by decide +kernel
theorem dX5_share_78 : decode cX5_share 78 = .ok (.ldiv, 1) := by decide +kernel
theorem dX5_share_79 : decode cX5_share 79 = .ok (.goto 8, 3) := by decide +kernel
theorem dX5_share_82 : decode cX5_share 82 = .ok (.lload 6, 2) := by decide +kernel
theorem dX5_share_84 : decode cX5_share 84 = .ok (.lload 8, 2) := by decide +kernel
theorem dX5_share_86 : decode cX5_share 86 = .ok (.ldiv, 1) := by decide +kernel
theorem dX5_share_87 : decode cX5_share 87 = .ok (.lreturn, 1) := by decide +kernel
theorem dX5_sees_0 : decode cX5_sees 0 = .ok (.iload_n 1, 1) := by decide +kernel
theorem dX5_sees_1 : decode cX5_sees 1 = .ok (.iconst 1, 1) := by decide +kernel
theorem dX5_sees_2 : decode cX5_sees 2 = .ok (.bipush 40, 2) := by decide +kernel
theorem dX5_sees_4 : decode cX5_sees 4 = .ok (.invokestatic 52, 3) := by decide +kernel
theorem dX5_sees_7 : decode cX5_sees 7 = .ok (.ifCond .eq 13, 3) := by decide +kernel
theorem dX5_sees_10 : decode cX5_sees 10 = .ok (.iload_n 2, 1) := by decide +kernel
theorem dX5_sees_11 : decode cX5_sees 11 = .ok (.iconst 0, 1) := by decide +kernel
theorem dX5_sees_12 : decode cX5_sees 12 = .ok (.bipush 64, 2) := by decide +kernel
theorem dX5_sees_14 : decode cX5_sees 14 = .ok (.invokestatic 52, 3) := by decide +kernel
theorem dX5_sees_17 : decode cX5_sees 17 = .ok (.ifCond .ne 5, 3) := by decide +kernel
theorem dX5_sees_20 : decode cX5_sees 20 = .ok (.iconst (-1), 1) := by decide +kernel
theorem dX5_sees_21 : decode cX5_sees 21 = .ok (.ireturn, 1) := by decide +kernel
theorem dX5_sees_22 : decode cX5_sees 22 = .ok (.aload_n 0, 1) := by decide +kernel
theorem dX5_sees_23 : decode cX5_sees 23 = .ok (.getfield 36, 3) := by decide +kernel
theorem dX5_sees_26 : decode cX5_sees 26 = .ok (.getfield 106, 3) := by decide +kernel
theorem dX5_sees_29 : decode cX5_sees 29 = .ok (.bipush 6, 2) := by decide +kernel
theorem dX5_sees_31 : decode cX5_sees 31 = .ok (.if_icmp .lt 6, 3) := by decide +kernel
theorem dX5_sees_34 : decode cX5_sees 34 = .ok (.bipush (-3), 2) := by decide +kernel
theorem dX5_sees_36 : decode cX5_sees 36 = .ok (.ireturn, 1) := by decide +kernel
theorem dX5_sees_37 : decode cX5_sees 37 = .ok (.aload_n 0, 1) := by decide +kernel
theorem dX5_sees_38 : decode cX5_sees 38 = .ok (.getfield 36, 3) := by decide +kernel
theorem dX5_sees_41 : decode cX5_sees 41 = .ok (.iload_n 1, 1) := by decide +kernel
theorem dX5_sees_42 : decode cX5_sees 42 = .ok (.iload_n 2, 1) := by decide +kernel
theorem dX5_sees_43 : decode cX5_sees 43 = .ok (.invokevirtual 183, 3) := by decide +kernel
theorem dX5_sees_46 : decode cX5_sees 46 = .ok (.aload_n 0, 1) := by decide +kernel
theorem dX5_sees_47 : decode cX5_sees 47 = .ok (.getfield 36, 3) := by decide +kernel
theorem dX5_sees_50 : decode cX5_sees 50 = .ok (.getfield 106, 3) := by decide +kernel
theorem dX5_sees_53 : decode cX5_sees 53 = .ok (.ireturn, 1) := by decide +kernel
theorem dX5_forget_0 : decode cX5_forget 0 = .ok (.aload_n 0, 1) := by decide +kernel
theorem dX5_forget_1 : decode cX5_forget 1 = .ok (.getfield 36, 3) := by decide +kernel
theorem dX5_forget_4 : decode cX5_forget 4 = .ok (.getfield 106, 3) := by decide +kernel
theorem dX5_forget_7 : decode cX5_forget 7 = .ok (.istore_n 1, 1) := by decide +kernel
theorem dX5_forget_8 : decode cX5_forget 8 = .ok (.aload_n 0, 1) := by decide +kernel
theorem dX5_forget_9 : decode cX5_forget 9 = .ok (.getfield 36, 3) := by decide +kernel
theorem dX5_forget_12 : decode cX5_forget 12 = .ok (.iconst 0, 1) := by decide +kernel
theorem dX5_forget_13 : decode cX5_forget 13 = .ok (.putfield 106, 3) := by decide +kernel
theorem dX5_forget_16 : decode cX5_forget 16 = .ok (.iload_n 1, 1) := by decide +kernel
theorem dX5_forget_17 : decode cX5_forget 17 = .ok (.ireturn, 1) := by decide +kernel
theorem dX5_unseen_0 : decode cX5_unseen 0 = .ok (.iconst 0, 1) := by decide +kernel
theorem dX5_unseen_1 : decode cX5_unseen 1 = .ok (.istore_n 1, 1) := by decide +kernel
theorem dX5_unseen_2 : decode cX5_unseen 2 = .ok (.iconst 0, 1) := by decide +kernel
theorem dX5_unseen_3 : decode cX5_unseen 3 = .ok (.istore_n 2, 1) := by decide +kernel
theorem dX5_unseen_4 : decode cX5_unseen 4 = .ok (.iload_n 2, 1) := by decide +kernel
theorem dX5_unseen_5 : decode cX5_unseen 5 = .ok (.bipush 8, 2) := by decide +kernel
theorem dX5_unseen_7 : decode cX5_unseen 7 = .ok (.if_icmp .ge 38, 3) := by decide +kernel
theorem dX5_unseen_10 : decode cX5_unseen 10 = .ok (.aload_n 0, 1) := by decide +kernel
theorem dX5_unseen_11 : decode cX5_unseen 11 = .ok (.getfield 12, 3) := by decide +kernel
theorem dX5_unseen_14 : decode cX5_unseen 14 = .ok (.iload_n 2, 1) := by decide +kernel
theorem dX5_unseen_15 : decode cX5_unseen 15 = .ok (.invokevirtual 77, 3) := by decide +kernel
theorem dX5_unseen_18 : decode cX5_unseen 18 = .ok (.istore_n 3, 1) := by decide +kernel
theorem dX5_unseen_19 : decode cX5_unseen 19 = .ok (.iload_n 3, 1) := by decide +kernel
theorem dX5_unseen_20 : decode cX5_unseen 20 = .ok (.bipush (-9), 2) := by decide +kernel
theorem dX5_unseen_22 : decode cX5_unseen 22 = .ok (.if_icmp .eq 17, 3) := by decide +kernel
theorem dX5_unseen_25 : decode cX5_unseen 25 = .ok (.aload_n 0, 1) := by decide +kernel
theorem dX5_unseen_26 : decode cX5_unseen 26 = .ok (.iload_n 3, 1) := by decide +kernel
theorem dX5_unseen_27 : decode cX5_unseen 27 = .ok (.invokevirtual 187, 3) := by decide +kernel
theorem dX5_unseen_30 : decode cX5_unseen 30 = .ok (.ifCond .eq 9, 3) := by decide +kernel
theorem dX5_unseen_33 : decode cX5_unseen 33 = .ok (.iload_n 1, 1) := by decide +kernel
theorem dX5_unseen_34 : decode cX5_unseen 34 = .ok (.iconst 1, 1) := by decide +kernel
theorem dX5_unseen_35 : decode cX5_unseen 35 = .ok (.iload_n 2, 1) := by decide +kernel
theorem dX5_unseen_36 : decode cX5_unseen 36 = .ok (.ishl, 1) := by decide +kernel
theorem dX5_unseen_37 : decode cX5_unseen 37 = .ok (.ior, 1) := by decide +kernel
theorem dX5_unseen_38 : decode cX5_unseen 38 = .ok (.istore_n 1, 1) := by decide +kernel
theorem dX5_unseen_39 : decode cX5_unseen 39 = .ok (.iinc 2 1, 3) := by decide +kernel
theorem dX5_unseen_42 : decode cX5_unseen 42 = .ok (.goto (-38), 3) := by decide +kernel
theorem dX5_unseen_45 : decode cX5_unseen 45 = .ok (.iload_n 1, 1) := by decide +kernel
theorem dX5_unseen_46 : decode cX5_unseen 46 = .ok (.ireturn, 1) := by decide +kernel
theorem dX5_keep_0 : decode cX5_keep 0 = .ok (.iload_n 1, 1) := by decide +kernel
theorem dX5_keep_1 : decode cX5_keep 1 = .ok (.iconst 0, 1) := by decide +kernel
theorem dX5_keep_2 : decode cX5_keep 2 = .ok (.iconst 1, 1) := by decide +kernel
theorem dX5_keep_3 : decode cX5_keep 3 = .ok (.invokestatic 52, 3) := by decide +kernel
theorem dX5_keep_6 : decode cX5_keep 6 = .ok (.ifCond .ne 5, 3) := by decide +kernel
theorem dX5_keep_9 : decode cX5_keep 9 = .ok (.iconst (-1), 1) := by decide +kernel
theorem dX5_keep_10 : decode cX5_keep 10 = .ok (.ireturn, 1) := by decide +kernel
theorem dX5_keep_11 : decode cX5_keep 11 = .ok (.aload_n 0, 1) := by decide +kernel
theorem dX5_keep_12 : decode cX5_keep 12 = .ok (.getfield 40, 3) := by decide +kernel
theorem dX5_keep_15 : decode cX5_keep 15 = .ok (.iload_n 1, 1) := by decide +kernel
theorem dX5_keep_16 : decode cX5_keep 16 = .ok (.aaload, 1) := by decide +kernel
theorem dX5_keep_17 : decode cX5_keep 17 = .ok (.aload_n 0, 1) := by decide +kernel
theorem dX5_keep_18 : decode cX5_keep 18 = .ok (.getfield 12, 3) := by decide +kernel
theorem dX5_keep_21 : decode cX5_keep 21 = .ok (.invokevirtual 153, 3) := by decide +kernel
theorem dX5_keep_24 : decode cX5_keep 24 = .ok (.aload_n 0, 1) := by decide +kernel
theorem dX5_keep_25 : decode cX5_keep 25 = .ok (.getfield 44, 3) := by decide +kernel
theorem dX5_keep_28 : decode cX5_keep 28 = .ok (.iload_n 1, 1) := by decide +kernel
theorem dX5_keep_29 : decode cX5_keep 29 = .ok (.iconst 1, 1) := by decide +kernel
theorem dX5_keep_30 : decode cX5_keep 30 = .ok (.bastore, 1) := by decide +kernel
theorem dX5_keep_31 : decode cX5_keep 31 = .ok (.aload_n 0, 1) := by decide +kernel
theorem dX5_keep_32 : decode cX5_keep 32 = .ok (.getfield 12, 3) := by decide +kernel
theorem dX5_keep_35 : decode cX5_keep 35 = .ok (.getfield 81, 3) := by decide +kernel
theorem dX5_keep_38 : decode cX5_keep 38 = .ok (.ireturn, 1) := by decide +kernel
theorem dX5_back_0 : decode cX5_back 0 = .ok (.iload_n 1, 1) := by decide +kernel
theorem dX5_back_1 : decode cX5_back 1 = .ok (.iconst 0, 1) := by decide +kernel
theorem dX5_back_2 : decode cX5_back 2 = .ok (.iconst 1, 1) := by decide +kernel
theorem dX5_back_3 : decode cX5_back 3 = .ok (.invokestatic 52, 3) := by decide +kernel
theorem dX5_back_6 : decode cX5_back 6 = .ok (.ifCond .ne 5, 3) := by decide +kernel
theorem dX5_back_9 : decode cX5_back 9 = .ok (.iconst (-1), 1) := by decide +kernel
theorem dX5_back_10 : decode cX5_back 10 = .ok (.ireturn, 1) := by decide +kernel
theorem dX5_back_11 : decode cX5_back 11 = .ok (.aload_n 0, 1) := by decide +kernel
theorem dX5_back_12 : decode cX5_back 12 = .ok (.getfield 44, 3) := by decide +kernel
theorem dX5_back_15 : decode cX5_back 15 = .ok (.iload_n 1, 1) := by decide +kernel
theorem dX5_back_16 : decode cX5_back 16 = .ok (.baload, 1) := by decide +kernel
theorem dX5_back_17 : decode cX5_back 17 = .ok (.ifCond .ne 6, 3) := by decide +kernel
theorem dX5_back_20 : decode cX5_back 20 = .ok (.bipush (-2), 2) := by decide +kernel
theorem dX5_back_22 : decode cX5_back 22 = .ok (.ireturn, 1) := by decide +kernel
theorem dX5_back_23 : decode cX5_back 23 = .ok (.aload_n 0, 1) := by decide +kernel
theorem dX5_back_24 : decode cX5_back 24 = .ok (.getfield 12, 3) := by decide +kernel
theorem dX5_back_27 : decode cX5_back 27 = .ok (.aload_n 0, 1) := by decide +kernel
theorem dX5_back_28 : decode cX5_back 28 = .ok (.getfield 40, 3) := by decide +kernel
theorem dX5_back_31 : decode cX5_back 31 = .ok (.iload_n 1, 1) := by decide +kernel
theorem dX5_back_32 : decode cX5_back 32 = .ok (.aaload, 1) := by decide +kernel
theorem dX5_back_33 : decode cX5_back 33 = .ok (.invokevirtual 153, 3) := by decide +kernel
theorem dX5_back_36 : decode cX5_back 36 = .ok (.aload_n 0, 1) := by decide +kernel
theorem dX5_back_37 : decode cX5_back 37 = .ok (.getfield 29, 3) := by decide +kernel
theorem dX5_back_40 : decode cX5_back 40 = .ok (.iconst 0, 1) := by decide +kernel
theorem dX5_back_41 : decode cX5_back 41 = .ok (.putfield 97, 3) := by decide +kernel
theorem dX5_back_44 : decode cX5_back 44 = .ok (.aload_n 0, 1) := by decide +kernel
theorem dX5_back_45 : decode cX5_back 45 = .ok (.getfield 12, 3) := by decide +kernel
theorem dX5_back_48 : decode cX5_back 48 = .ok (.getfield 81, 3) := by decide +kernel
theorem dX5_back_51 : decode cX5_back 51 = .ok (.ireturn, 1) := by decide +kernel
theorem dX5_count_0 : decode cX5_count 0 = .ok (.iload_n 1, 1) := by decide +kernel
theorem dX5_count_1 : decode cX5_count 1 = .ok (.tableswitch 169 0 11 #[63, 71, 79, 87, 95, 103, 113, 123, 133, 143, 153, 161], 63) := by decide +kernel
theorem dX5_count_64 : decode cX5_count 64 = .ok (.aload_n 0, 1) := by decide +kernel
theorem dX5_count_65 : decode cX5_count 65 = .ok (.getfield 12, 3) := by decide +kernel
theorem dX5_count_68 : decode cX5_count 68 = .ok (.getfield 56, 3) := by decide +kernel
theorem dX5_count_71 : decode cX5_count 71 = .ok (.ireturn, 1) := by decide +kernel
theorem dX5_count_72 : decode cX5_count 72 = .ok (.aload_n 0, 1) := by decide +kernel
theorem dX5_count_73 : decode cX5_count 73 = .ok (.getfield 12, 3) := by decide +kernel
theorem dX5_count_76 : decode cX5_count 76 = .ok (.getfield 60, 3) := by decide +kernel
theorem dX5_count_79 : decode cX5_count 79 = .ok (.ireturn, 1) := by decide +kernel
theorem dX5_count_80 : decode cX5_count 80 = .ok (.aload_n 0, 1) := by decide +kernel
theorem dX5_count_81 : decode cX5_count 81 = .ok (.getfield 12, 3) := by decide +kernel
theorem dX5_count_84 : decode cX5_count 84 = .ok (.getfield 63, 3) := by decide +kernel
theorem dX5_count_87 : decode cX5_count 87 = .ok (.ireturn, 1) := by decide +kernel
theorem dX5_count_88 : decode cX5_count 88 = .ok (.aload_n 0, 1) := by decide +kernel
theorem dX5_count_89 : decode cX5_count 89 = .ok (.getfield 12, 3) := by decide +kernel
theorem dX5_count_92 : decode cX5_count 92 = .ok (.getfield 88, 3) := by decide +kernel
theorem dX5_count_95 : decode cX5_count 95 = .ok (.ireturn, 1) := by decide +kernel
theorem dX5_count_96 : decode cX5_count 96 = .ok (.aload_n 0, 1) := by decide +kernel
theorem dX5_count_97 : decode cX5_count 97 = .ok (.getfield 12, 3) := by decide +kernel
theorem dX5_count_100 : decode cX5_count 100 = .ok (.getfield 81, 3) := by decide +kernel
theorem dX5_count_103 : decode cX5_count 103 = .ok (.ireturn, 1) := by decide +kernel
theorem dX5_count_104 : decode cX5_count 104 = .ok (.aload_n 0, 1) := by decide +kernel
theorem dX5_count_105 : decode cX5_count 105 = .ok (.getfield 12, 3) := by decide +kernel
theorem dX5_count_108 : decode cX5_count 108 = .ok (.getfield 91, 3) := by decide +kernel
theorem dX5_count_111 : decode cX5_count 111 = .ok (.iconst 0, 1) := by decide +kernel
theorem dX5_count_112 : decode cX5_count 112 = .ok (.iaload, 1) := by decide +kernel
theorem dX5_count_113 : decode cX5_count 113 = .ok (.ireturn, 1) := by decide +kernel
theorem dX5_count_114 : decode cX5_count 114 = .ok (.aload_n 0, 1) := by decide +kernel
theorem dX5_count_115 : decode cX5_count 115 = .ok (.getfield 12, 3) := by decide +kernel
theorem dX5_count_118 : decode cX5_count 118 = .ok (.getfield 91, 3) := by decide +kernel
theorem dX5_count_121 : decode cX5_count 121 = .ok (.iconst 1, 1) := by decide +kernel
theorem dX5_count_122 : decode cX5_count 122 = .ok (.iaload, 1) := by decide +kernel
theorem dX5_count_123 : decode cX5_count 123 = .ok (.ireturn, 1) := by decide +kernel
theorem dX5_count_124 : decode cX5_count 124 = .ok (.aload_n 0, 1) := by decide +kernel
theorem dX5_count_125 : decode cX5_count 125 = .ok (.getfield 12, 3) := by decide +kernel
theorem dX5_count_128 : decode cX5_count 128 = .ok (.getfield 91, 3) := by decide +kernel
theorem dX5_count_131 : decode cX5_count 131 = .ok (.iconst 2, 1) := by decide +kernel
theorem dX5_count_132 : decode cX5_count 132 = .ok (.iaload, 1) := by decide +kernel
theorem dX5_count_133 : decode cX5_count 133 = .ok (.ireturn, 1) := by decide +kernel
theorem dX5_count_134 : decode cX5_count 134 = .ok (.aload_n 0, 1) := by decide +kernel
theorem dX5_count_135 : decode cX5_count 135 = .ok (.getfield 12, 3) := by decide +kernel
theorem dX5_count_138 : decode cX5_count 138 = .ok (.getfield 91, 3) := by decide +kernel
theorem dX5_count_141 : decode cX5_count 141 = .ok (.iconst 3, 1) := by decide +kernel
theorem dX5_count_142 : decode cX5_count 142 = .ok (.iaload, 1) := by decide +kernel
theorem dX5_count_143 : decode cX5_count 143 = .ok (.ireturn, 1) := by decide +kernel
theorem dX5_count_144 : decode cX5_count 144 = .ok (.aload_n 0, 1) := by decide +kernel
theorem dX5_count_145 : decode cX5_count 145 = .ok (.getfield 12, 3) := by decide +kernel
theorem dX5_count_148 : decode cX5_count 148 = .ok (.getfield 91, 3) := by decide +kernel
theorem dX5_count_151 : decode cX5_count 151 = .ok (.iconst 4, 1) := by decide +kernel
theorem dX5_count_152 : decode cX5_count 152 = .ok (.iaload, 1) := by decide +kernel
theorem dX5_count_153 : decode cX5_count 153 = .ok (.ireturn, 1) := by decide +kernel
theorem dX5_count_154 : decode cX5_count 154 = .ok (.aload_n 0, 1) := by decide +kernel
theorem dX5_count_155 : decode cX5_count 155 = .ok (.getfield 36, 3) := by decide +kernel
theorem dX5_count_158 : decode cX5_count 158 = .ok (.getfield 106, 3) := by decide +kernel
theorem dX5_count_161 : decode cX5_count 161 = .ok (.ireturn, 1) := by decide +kernel
theorem dX5_count_162 : decode cX5_count 162 = .ok (.aload_n 0, 1) := by decide +kernel
theorem dX5_count_163 : decode cX5_count 163 = .ok (.getfield 29, 3) := by decide +kernel
theorem dX5_count_166 : decode cX5_count 166 = .ok (.getfield 97, 3) := by decide +kernel
theorem dX5_count_169 : decode cX5_count 169 = .ok (.ireturn, 1) := by decide +kernel
theorem dX5_count_170 : decode cX5_count 170 = .ok (.iconst (-1), 1) := by decide +kernel
theorem dX5_count_171 : decode cX5_count 171 = .ok (.ireturn, 1) := by decide +kernel
theorem dX5_isWithin_0 : decode cX5_isWithin 0 = .ok (.iload_n 0, 1) := by decide +kernel
theorem dX5_isWithin_1 : decode cX5_isWithin 1 = .ok (.iload_n 1, 1) := by decide +kernel
theorem dX5_isWithin_2 : decode cX5_isWithin 2 = .ok (.if_icmp .lt 12, 3) := by decide +kernel
theorem dX5_isWithin_5 : decode cX5_isWithin 5 = .ok (.iload_n 0, 1) := by decide +kernel
theorem dX5_isWithin_6 : decode cX5_isWithin 6 = .ok (.iload_n 2, 1) := by decide +kernel
theorem dX5_isWithin_7 : decode cX5_isWithin 7 = .ok (.if_icmp .gt 7, 3) := by decide +kernel
theorem dX5_isWithin_10 : decode cX5_isWithin 10 = .ok (.iconst 1, 1) := by decide +kernel
theorem dX5_isWithin_11 : decode cX5_isWithin 11 = .ok (.goto 4, 3) := by decide +kernel
theorem dX5_isWithin_14 : decode cX5_isWithin 14 = .ok (.iconst 0, 1) := by decide +kernel
theorem dX5_isWithin_15 : decode cX5_isWithin 15 = .ok (.ireturn, 1) := by decide +kernel
theorem dX5_isLine_0 : decode cX5_isLine 0 = .ok (.iload_n 0, 1) := by decide +kernel
theorem dX5_isLine_1 : decode cX5_isLine 1 = .ok (.iconst 0, 1) := by decide +kernel
theorem dX5_isLine_2 : decode cX5_isLine 2 = .ok (.bipush 7, 2) := by decide +kernel
theorem dX5_isLine_4 : decode cX5_isLine 4 = .ok (.invokestatic 52, 3) := by decide +kernel
theorem dX5_isLine_7 : decode cX5_isLine 7 = .ok (.ireturn, 1) := by decide +kernel
theorem dX5_isAddress_0 : decode cX5_isAddress 0 = .ok (.iload_n 0, 1) := by decide +kernel
theorem dX5_isAddress_1 : decode cX5_isAddress 1 = .ok (.iconst 0, 1) := by decide +kernel
theorem dX5_isAddress_2 : decode cX5_isAddress 2 = .ok (.bipush 7, 2) := by decide +kernel
theorem dX5_isAddress_4 : decode cX5_isAddress 4 = .ok (.invokestatic 52, 3) := by decide +kernel
theorem dX5_isAddress_7 : decode cX5_isAddress 7 = .ok (.ireturn, 1) := by decide +kernel
theorem dX5_enterNet_0 : decode cX5_enterNet 0 = .ok (.iconst 0, 1) := by decide +kernel
theorem dX5_enterNet_1 : decode cX5_enterNet 1 = .ok (.istore_n 1, 1) := by decide +kernel
theorem dX5_enterNet_2 : decode cX5_enterNet 2 = .ok (.iload_n 1, 1) := by decide +kernel
theorem dX5_enterNet_3 : decode cX5_enterNet 3 = .ok (.bipush 8, 2) := by decide +kernel
theorem dX5_enterNet_5 : decode cX5_enterNet 5 = .ok (.if_icmp .ge 34, 3) := by decide +kernel
theorem dX5_enterNet_8 : decode cX5_enterNet 8 = .ok (.aload_n 0, 1) := by decide +kernel
theorem dX5_enterNet_9 : decode cX5_enterNet 9 = .ok (.getfield 48, 3) := by decide +kernel
theorem dX5_enterNet_12 : decode cX5_enterNet 12 = .ok (.iload_n 1, 1) := by decide +kernel
theorem dX5_enterNet_13 : decode cX5_enterNet 13 = .ok (.aload_n 0, 1) := by decide +kernel
theorem dX5_enterNet_14 : decode cX5_enterNet 14 = .ok (.getfield 12, 3) := by decide +kernel
theorem dX5_enterNet_17 : decode cX5_enterNet 17 = .ok (.iload_n 1, 1) := by decide +kernel
theorem dX5_enterNet_18 : decode cX5_enterNet 18 = .ok (.invokevirtual 77, 3) := by decide +kernel
theorem dX5_enterNet_21 : decode cX5_enterNet 21 = .ok (.bipush (-9), 2) := by decide +kernel
theorem dX5_enterNet_23 : decode cX5_enterNet 23 = .ok (.if_icmp .ne 8, 3) := by decide +kernel
theorem dX5_enterNet_26 : decode cX5_enterNet 26 = .ok (.bipush (-9), 2) := by decide +kernel
theorem dX5_enterNet_28 : decode cX5_enterNet 28 = .ok (.goto 4, 3) := by decide +kernel
theorem dX5_enterNet_31 : decode cX5_enterNet 31 = .ok (.iload_n 1, 1) := by decide +kernel
theorem dX5_enterNet_32 : decode cX5_enterNet 32 = .ok (.iastore, 1) := by decide +kernel
theorem dX5_enterNet_33 : decode cX5_enterNet 33 = .ok (.iinc 1 1, 3) := by decide +kernel
theorem dX5_enterNet_36 : decode cX5_enterNet 36 = .ok (.goto (-34), 3) := by decide +kernel
theorem dX5_enterNet_39 : decode cX5_enterNet 39 = .ok (.return_, 1) := by decide +kernel
theorem dX5_passStage_0 : decode cX5_passStage 0 = .ok (.iconst 1, 1) := by decide +kernel
theorem dX5_passStage_1 : decode cX5_passStage 1 = .ok (.iconst 3, 1) := by decide +kernel
theorem dX5_passStage_2 : decode cX5_passStage 2 = .ok (.iload_n 1, 1) := by decide +kernel
theorem dX5_passStage_3 : decode cX5_passStage 3 = .ok (.isub, 1) := by decide +kernel
theorem dX5_passStage_4 : decode cX5_passStage 4 = .ok (.ishl, 1) := by decide +kernel
theorem dX5_passStage_5 : decode cX5_passStage 5 = .ok (.istore_n 2, 1) := by decide +kernel
theorem dX5_passStage_6 : decode cX5_passStage 6 = .ok (.iconst 0, 1) := by decide +kernel
theorem dX5_passStage_7 : decode cX5_passStage 7 = .ok (.istore_n 3, 1) := by decide +kernel
theorem dX5_passStage_8 : decode cX5_passStage 8 = .ok (.iconst 0, 1) := by decide +kernel
theorem dX5_passStage_9 : decode cX5_passStage 9 = .ok (.istore 4, 2) := by decide +kernel
theorem dX5_passStage_11 : decode cX5_passStage 11 = .ok (.iload 4, 2) := by decide +kernel
theorem dX5_passStage_13 : decode cX5_passStage 13 = .ok (.bipush 8, 2) := by decide +kernel
theorem dX5_passStage_15 : decode cX5_passStage 15 = .ok (.if_icmp .ge 110, 3) := by decide +kernel
theorem dX5_passStage_18 : decode cX5_passStage 18 = .ok (.aload_n 0, 1) := by decide +kernel
theorem dX5_passStage_19 : decode cX5_passStage 19 = .ok (.getfield 12, 3) := by decide +kernel
theorem dX5_passStage_22 : decode cX5_passStage 22 = .ok (.iload 4, 2) := by decide +kernel
theorem dX5_passStage_24 : decode cX5_passStage 24 = .ok (.invokevirtual 77, 3) := by decide +kernel
theorem dX5_passStage_27 : decode cX5_passStage 27 = .ok (.istore 5, 2) := by decide +kernel
theorem dX5_passStage_29 : decode cX5_passStage 29 = .ok (.iload 5, 2) := by decide +kernel
theorem dX5_passStage_31 : decode cX5_passStage 31 = .ok (.bipush (-9), 2) := by decide +kernel
theorem dX5_passStage_33 : decode cX5_passStage 33 = .ok (.if_icmp .eq 86, 3) := by decide +kernel
theorem dX5_passStage_36 : decode cX5_passStage 36 = .ok (.aload_n 0, 1) := by decide +kernel
theorem dX5_passStage_37 : decode cX5_passStage 37 = .ok (.getfield 48, 3) := by decide +kernel
theorem dX5_passStage_40 : decode cX5_passStage 40 = .ok (.iload 4, 2) := by decide +kernel
theorem dX5_passStage_42 : decode cX5_passStage 42 = .ok (.iaload, 1) := by decide +kernel
theorem dX5_passStage_43 : decode cX5_passStage 43 = .ok (.bipush (-9), 2) := by decide +kernel
theorem dX5_passStage_45 : decode cX5_passStage 45 = .ok (.if_icmp .ne 6, 3) := by decide +kernel
theorem dX5_passStage_48 : decode cX5_passStage 48 = .ok (.goto 71, 3) := by decide +kernel
theorem dX5_passStage_51 : decode cX5_passStage 51 = .ok (.aload_n 0, 1) := by decide +kernel
theorem dX5_passStage_52 : decode cX5_passStage 52 = .ok (.getfield 48, 3) := by decide +kernel
theorem dX5_passStage_55 : decode cX5_passStage 55 = .ok (.iload 4, 2) := by decide +kernel
theorem dX5_passStage_57 : decode cX5_passStage 57 = .ok (.iaload, 1) := by decide +kernel
theorem dX5_passStage_58 : decode cX5_passStage 58 = .ok (.iload_n 2, 1) := by decide +kernel
theorem dX5_passStage_59 : decode cX5_passStage 59 = .ok (.iconst (-1), 1) := by decide +kernel
theorem dX5_passStage_60 : decode cX5_passStage 60 = .ok (.ixor, 1) := by decide +kernel
theorem dX5_passStage_61 : decode cX5_passStage 61 = .ok (.iand, 1) := by decide +kernel
theorem dX5_passStage_62 : decode cX5_passStage 62 = .ok (.aload_n 0, 1) := by decide +kernel
theorem dX5_passStage_63 : decode cX5_passStage 63 = .ok (.getfield 12, 3) := by decide +kernel
theorem dX5_passStage_66 : decode cX5_passStage 66 = .ok (.getfield 115, 3) := by decide +kernel
theorem dX5_passStage_69 : decode cX5_passStage 69 = .ok (.iload 5, 2) := by decide +kernel
theorem dX5_passStage_71 : decode cX5_passStage 71 = .ok (.iaload, 1) := by decide +kernel
theorem dX5_passStage_72 : decode cX5_passStage 72 = .ok (.iload_n 2, 1) := by decide +kernel
theorem dX5_passStage_73 : decode cX5_passStage 73 = .ok (.iand, 1) := by decide +kernel
theorem dX5_passStage_74 : decode cX5_passStage 74 = .ok (.ior, 1) := by decide +kernel
theorem dX5_passStage_75 : decode cX5_passStage 75 = .ok (.istore 6, 2) := by decide +kernel
theorem dX5_passStage_77 : decode cX5_passStage 77 = .ok (.iload_n 3, 1) := by decide +kernel
theorem dX5_passStage_78 : decode cX5_passStage 78 = .ok (.iconst 1, 1) := by decide +kernel
theorem dX5_passStage_79 : decode cX5_passStage 79 = .ok (.iload 6, 2) := by decide +kernel
theorem dX5_passStage_81 : decode cX5_passStage 81 = .ok (.ishl, 1) := by decide +kernel
theorem dX5_passStage_82 : decode cX5_passStage 82 = .ok (.iand, 1) := by decide +kernel
theorem dX5_passStage_83 : decode cX5_passStage 83 = .ok (.ifCond .eq 7, 3) := by decide +kernel
theorem dX5_passStage_86 : decode cX5_passStage 86 = .ok (.iconst 1, 1) := by decide +kernel
theorem dX5_passStage_87 : decode cX5_passStage 87 = .ok (.goto 4, 3) := by decide +kernel
theorem dX5_passStage_90 : decode cX5_passStage 90 = .ok (.iconst 0, 1) := by decide +kernel
theorem dX5_passStage_91 : decode cX5_passStage 91 = .ok (.istore 7, 2) := by decide +kernel
theorem dX5_passStage_93 : decode cX5_passStage 93 = .ok (.aload_n 0, 1) := by decide +kernel
theorem dX5_passStage_94 : decode cX5_passStage 94 = .ok (.getfield 48, 3) := by decide +kernel
theorem dX5_passStage_97 : decode cX5_passStage 97 = .ok (.iload 4, 2) := by decide +kernel
theorem dX5_passStage_99 : decode cX5_passStage 99 = .ok (.iload 7, 2) := by decide +kernel
theorem dX5_passStage_101 : decode cX5_passStage 101 = .ok (.ifCond .eq 8, 3) := by decide +kernel
theorem dX5_passStage_104 : decode cX5_passStage 104 = .ok (.bipush (-9), 2) := by decide +kernel
theorem dX5_passStage_106 : decode cX5_passStage 106 = .ok (.goto 5, 3) := by decide +kernel
theorem dX5_passStage_109 : decode cX5_passStage 109 = .ok (.iload 6, 2) := by decide +kernel
theorem dX5_passStage_111 : decode cX5_passStage 111 = .ok (.iastore, 1) := by decide +kernel
theorem dX5_passStage_112 : decode cX5_passStage 112 = .ok (.iload_n 3, 1) := by decide +kernel
theorem dX5_passStage_113 : decode cX5_passStage 113 = .ok (.iconst 1, 1) := by decide +kernel
theorem dX5_passStage_114 : decode cX5_passStage 114 = .ok (.iload 6, 2) := by decide +kernel
theorem dX5_passStage_116 : decode cX5_passStage 116 = .ok (.ishl, 1) := by decide +kernel
theorem dX5_passStage_117 : decode cX5_passStage 117 = .ok (.ior, 1) := by decide +kernel
theorem dX5_passStage_118 : decode cX5_passStage 118 = .ok (.istore_n 3, 1) := by decide +kernel
theorem dX5_passStage_119 : decode cX5_passStage 119 = .ok (.iinc 4 1, 3) := by decide +kernel
theorem dX5_passStage_122 : decode cX5_passStage 122 = .ok (.goto (-111), 3) := by decide +kernel
theorem dX5_passStage_125 : decode cX5_passStage 125 = .ok (.return_, 1) := by decide +kernel
theorem dX5_trySlot_0 : decode cX5_trySlot 0 = .ok (.aload_n 0, 1) := by decide +kernel
theorem dX5_trySlot_1 : decode cX5_trySlot 1 = .ok (.getfield 16, 3) := by decide +kernel
theorem dX5_trySlot_4 : decode cX5_trySlot 4 = .ok (.invokevirtual 156, 3) := by decide +kernel
theorem dX5_trySlot_7 : decode cX5_trySlot 7 = .ok (.istore_n 1, 1) := by decide +kernel
theorem dX5_trySlot_8 : decode cX5_trySlot 8 = .ok (.aload_n 0, 1) := by decide +kernel
theorem dX5_trySlot_9 : decode cX5_trySlot 9 = .ok (.getfield 22, 3) := by decide +kernel
theorem dX5_trySlot_12 : decode cX5_trySlot 12 = .ok (.aload_n 0, 1) := by decide +kernel
theorem dX5_trySlot_13 : decode cX5_trySlot 13 = .ok (.getfield 16, 3) := by decide +kernel
theorem dX5_trySlot_16 : decode cX5_trySlot 16 = .ok (.invokevirtual 94, 3) := by decide +kernel
theorem dX5_trySlot_19 : decode cX5_trySlot 19 = .ok (.aload_n 0, 1) := by decide +kernel
theorem dX5_trySlot_20 : decode cX5_trySlot 20 = .ok (.getfield 16, 3) := by decide +kernel
theorem dX5_trySlot_23 : decode cX5_trySlot 23 = .ok (.invokevirtual 156, 3) := by decide +kernel
theorem dX5_trySlot_26 : decode cX5_trySlot 26 = .ok (.iload_n 1, 1) := by decide +kernel
theorem dX5_trySlot_27 : decode cX5_trySlot 27 = .ok (.if_icmp .eq 7, 3) := by decide +kernel
theorem dX5_trySlot_30 : decode cX5_trySlot 30 = .ok (.iconst 1, 1) := by decide +kernel
theorem dX5_trySlot_31 : decode cX5_trySlot 31 = .ok (.goto 4, 3) := by decide +kernel
theorem dX5_trySlot_34 : decode cX5_trySlot 34 = .ok (.iconst 0, 1) := by decide +kernel
theorem dX5_trySlot_35 : decode cX5_trySlot 35 = .ok (.ireturn, 1) := by decide +kernel
theorem dX5_dropsIn_0 : decode cX5_dropsIn 0 = .ok (.aload_n 0, 1) := by decide +kernel
theorem dX5_dropsIn_1 : decode cX5_dropsIn 1 = .ok (.getfield 16, 3) := by decide +kernel
theorem dX5_dropsIn_4 : decode cX5_dropsIn 4 = .ok (.aload_n 0, 1) := by decide +kernel
theorem dX5_dropsIn_5 : decode cX5_dropsIn 5 = .ok (.getfield 12, 3) := by decide +kernel
theorem dX5_dropsIn_8 : decode cX5_dropsIn 8 = .ok (.invokevirtual 153, 3) := by decide +kernel
theorem dX5_dropsIn_11 : decode cX5_dropsIn 11 = .ok (.aload_n 0, 1) := by decide +kernel
theorem dX5_dropsIn_12 : decode cX5_dropsIn 12 = .ok (.getfield 16, 3) := by decide +kernel
theorem dX5_dropsIn_15 : decode cX5_dropsIn 15 = .ok (.iload_n 2, 1) := by decide +kernel
theorem dX5_dropsIn_16 : decode cX5_dropsIn 16 = .ok (.putfield 56, 3) := by decide +kernel
theorem dX5_dropsIn_19 : decode cX5_dropsIn 19 = .ok (.iconst 1, 1) := by decide +kernel
theorem dX5_dropsIn_20 : decode cX5_dropsIn 20 = .ok (.istore_n 3, 1) := by decide +kernel
theorem dX5_dropsIn_21 : decode cX5_dropsIn 21 = .ok (.iconst 0, 1) := by decide +kernel
theorem dX5_dropsIn_22 : decode cX5_dropsIn 22 = .ok (.istore 4, 2) := by decide +kernel
theorem dX5_dropsIn_24 : decode cX5_dropsIn 24 = .ok (.iload 4, 2) := by decide +kernel
theorem dX5_dropsIn_26 : decode cX5_dropsIn 26 = .ok (.iload_n 1, 1) := by decide +kernel
theorem dX5_dropsIn_27 : decode cX5_dropsIn 27 = .ok (.if_icmp .ge 18, 3) := by decide +kernel
theorem dX5_dropsIn_30 : decode cX5_dropsIn 30 = .ok (.iload_n 3, 1) := by decide +kernel
theorem dX5_dropsIn_31 : decode cX5_dropsIn 31 = .ok (.ifCond .eq 14, 3) := by decide +kernel
theorem dX5_dropsIn_34 : decode cX5_dropsIn 34 = .ok (.aload_n 0, 1) := by decide +kernel
theorem dX5_dropsIn_35 : decode cX5_dropsIn 35 = .ok (.invokevirtual 160, 3) := by decide +kernel
theorem dX5_dropsIn_38 : decode cX5_dropsIn 38 = .ok (.istore_n 3, 1) := by decide +kernel
theorem dX5_dropsIn_39 : decode cX5_dropsIn 39 = .ok (.iinc 4 1, 3) := by decide +kernel
theorem dX5_dropsIn_42 : decode cX5_dropsIn 42 = .ok (.goto (-18), 3) := by decide +kernel
theorem dX5_dropsIn_45 : decode cX5_dropsIn 45 = .ok (.aload_n 0, 1) := by decide +kernel
theorem dX5_dropsIn_46 : decode cX5_dropsIn 46 = .ok (.getfield 16, 3) := by decide +kernel
theorem dX5_dropsIn_49 : decode cX5_dropsIn 49 = .ok (.getfield 91, 3) := by decide +kernel
theorem dX5_dropsIn_52 : decode cX5_dropsIn 52 = .ok (.iconst 4, 1) := by decide +kernel
theorem dX5_dropsIn_53 : decode cX5_dropsIn 53 = .ok (.iaload, 1) := by decide +kernel
theorem dX5_dropsIn_54 : decode cX5_dropsIn 54 = .ok (.aload_n 0, 1) := by decide +kernel
theorem dX5_dropsIn_55 : decode cX5_dropsIn 55 = .ok (.getfield 12, 3) := by decide +kernel
theorem dX5_dropsIn_58 : decode cX5_dropsIn 58 = .ok (.getfield 91, 3) := by decide +kernel
theorem dX5_dropsIn_61 : decode cX5_dropsIn 61 = .ok (.iconst 4, 1) := by decide +kernel
theorem dX5_dropsIn_62 : decode cX5_dropsIn 62 = .ok (.iaload, 1) := by decide +kernel
theorem dX5_dropsIn_63 : decode cX5_dropsIn 63 = .ok (.isub, 1) := by decide +kernel
theorem dX5_dropsIn_64 : decode cX5_dropsIn 64 = .ok (.ireturn, 1) := by decide +kernel
theorem dX5_explainsAllSeen_0 : decode cX5_explainsAllSeen 0 = .ok (.aload_n 0, 1) := by decide +kernel
theorem dX5_explainsAllSeen_1 : decode cX5_explainsAllSeen 1 = .ok (.getfield 16, 3) := by decide +kernel
theorem dX5_explainsAllSeen_4 : decode cX5_explainsAllSeen 4 = .ok (.aload_n 0, 1) := by decide +kernel
theorem dX5_explainsAllSeen_5 : decode cX5_explainsAllSeen 5 = .ok (.getfield 12, 3) := by decide +kernel
theorem dX5_explainsAllSeen_8 : decode cX5_explainsAllSeen 8 = .ok (.invokevirtual 153, 3) := by decide +kernel
theorem dX5_explainsAllSeen_11 : decode cX5_explainsAllSeen 11 = .ok (.aload_n 0, 1) := by decide +kernel
theorem dX5_explainsAllSeen_12 : decode cX5_explainsAllSeen 12 = .ok (.getfield 16, 3) := by decide +kernel
theorem dX5_explainsAllSeen_15 : decode cX5_explainsAllSeen 15 = .ok (.iload_n 1, 1) := by decide +kernel
theorem dX5_explainsAllSeen_16 : decode cX5_explainsAllSeen 16 = .ok (.iconst 4, 1) := by decide +kernel
theorem dX5_explainsAllSeen_17 : decode cX5_explainsAllSeen 17 = .ok (.invokevirtual 190, 3) := by decide +kernel
theorem dX5_explainsAllSeen_20 : decode cX5_explainsAllSeen 20 = .ok (.aload_n 0, 1) := by decide +kernel
theorem dX5_explainsAllSeen_21 : decode cX5_explainsAllSeen 21 = .ok (.getfield 36, 3) := by decide +kernel
theorem dX5_explainsAllSeen_24 : decode cX5_explainsAllSeen 24 = .ok (.invokevirtual 193, 3) := by decide +kernel
theorem dX5_explainsAllSeen_27 : decode cX5_explainsAllSeen 27 = .ok (.istore_n 2, 1) := by decide +kernel
theorem dX5_explainsAllSeen_28 : decode cX5_explainsAllSeen 28 = .ok (.iconst 1, 1) := by decide +kernel
theorem dX5_explainsAllSeen_29 : decode cX5_explainsAllSeen 29 = .ok (.istore_n 3, 1) := by decide +kernel
theorem dX5_explainsAllSeen_30 : decode cX5_explainsAllSeen 30 = .ok (.iconst 1, 1) := by decide +kernel
theorem dX5_explainsAllSeen_31 : decode cX5_explainsAllSeen 31 = .ok (.istore 4, 2) := by decide +kernel
theorem dX5_explainsAllSeen_33 : decode cX5_explainsAllSeen 33 = .ok (.iload 4, 2) := by decide +kernel
theorem dX5_explainsAllSeen_35 : decode cX5_explainsAllSeen 35 = .ok (.iload_n 2, 1) := by decide +kernel
theorem dX5_explainsAllSeen_36 : decode cX5_explainsAllSeen 36 = .ok (.if_icmp .gt 51, 3) := by decide +kernel
theorem dX5_explainsAllSeen_39 : decode cX5_explainsAllSeen 39 = .ok (.iload_n 3, 1) := by decide +kernel
theorem dX5_explainsAllSeen_40 : decode cX5_explainsAllSeen 40 = .ok (.ifCond .eq 8, 3) := by decide +kernel
theorem dX5_explainsAllSeen_43 : decode cX5_explainsAllSeen 43 = .ok (.aload_n 0, 1) := by decide +kernel
theorem dX5_explainsAllSeen_44 : decode cX5_explainsAllSeen 44 = .ok (.invokevirtual 160, 3) := by decide +kernel
theorem dX5_explainsAllSeen_47 : decode cX5_explainsAllSeen 47 = .ok (.istore_n 3, 1) := by decide +kernel
theorem dX5_explainsAllSeen_48 : decode cX5_explainsAllSeen 48 = .ok (.aload_n 0, 1) := by decide +kernel
theorem dX5_explainsAllSeen_49 : decode cX5_explainsAllSeen 49 = .ok (.getfield 36, 3) := by decide +kernel
theorem dX5_explainsAllSeen_52 : decode cX5_explainsAllSeen 52 = .ok (.iload 4, 2) := by decide +kernel
theorem dX5_explainsAllSeen_54 : decode cX5_explainsAllSeen 54 = .ok (.aload_n 0, 1) := by decide +kernel
theorem dX5_explainsAllSeen_55 : decode cX5_explainsAllSeen 55 = .ok (.getfield 16, 3) := by decide +kernel
theorem dX5_explainsAllSeen_58 : decode cX5_explainsAllSeen 58 = .ok (.getfield 91, 3) := by decide +kernel
theorem dX5_explainsAllSeen_61 : decode cX5_explainsAllSeen 61 = .ok (.iconst 3, 1) := by decide +kernel
theorem dX5_explainsAllSeen_62 : decode cX5_explainsAllSeen 62 = .ok (.iaload, 1) := by decide +kernel
theorem dX5_explainsAllSeen_63 : decode cX5_explainsAllSeen 63 = .ok (.aload_n 0, 1) := by decide +kernel
theorem dX5_explainsAllSeen_64 : decode cX5_explainsAllSeen 64 = .ok (.getfield 12, 3) := by decide +kernel
theorem dX5_explainsAllSeen_67 : decode cX5_explainsAllSeen 67 = .ok (.getfield 91, 3) := by decide +kernel
theorem dX5_explainsAllSeen_70 : decode cX5_explainsAllSeen 70 = .ok (.iconst 3, 1) := by decide +kernel
theorem dX5_explainsAllSeen_71 : decode cX5_explainsAllSeen 71 = .ok (.iaload, 1) := by decide +kernel
theorem dX5_explainsAllSeen_72 : decode cX5_explainsAllSeen 72 = .ok (.isub, 1) := by decide +kernel
theorem dX5_explainsAllSeen_73 : decode cX5_explainsAllSeen 73 = .ok (.invokevirtual 196, 3) := by decide +kernel
theorem dX5_explainsAllSeen_76 : decode cX5_explainsAllSeen 76 = .ok (.ifCond .ne 5, 3) := by decide +kernel
theorem dX5_explainsAllSeen_79 : decode cX5_explainsAllSeen 79 = .ok (.iconst 0, 1) := by decide +kernel
theorem dX5_explainsAllSeen_80 : decode cX5_explainsAllSeen 80 = .ok (.ireturn, 1) := by decide +kernel
theorem dX5_explainsAllSeen_81 : decode cX5_explainsAllSeen 81 = .ok (.iinc 4 1, 3) := by decide +kernel
theorem dX5_explainsAllSeen_84 : decode cX5_explainsAllSeen 84 = .ok (.goto (-51), 3) := by decide +kernel
theorem dX5_explainsAllSeen_87 : decode cX5_explainsAllSeen 87 = .ok (.iconst 1, 1) := by decide +kernel
theorem dX5_explainsAllSeen_88 : decode cX5_explainsAllSeen 88 = .ok (.ireturn, 1) := by decide +kernel
theorem dX5_waysNotTaken_0 : decode cX5_waysNotTaken 0 = .ok (.lconst 0, 1) := by decide +kernel
theorem dX5_waysNotTaken_1 : decode cX5_waysNotTaken 1 = .ok (.lstore_n 2, 1) := by decide +kernel
theorem dX5_waysNotTaken_2 : decode cX5_waysNotTaken 2 = .ok (.iload_n 1, 1) := by decide +kernel
theorem dX5_waysNotTaken_3 : decode cX5_waysNotTaken 3 = .ok (.iconst 1, 1) := by decide +kernel
theorem dX5_waysNotTaken_4 : decode cX5_waysNotTaken 4 = .ok (.iadd, 1) := by decide +kernel
theorem dX5_waysNotTaken_5 : decode cX5_waysNotTaken 5 = .ok (.istore 4, 2) := by decide +kernel
theorem dX5_waysNotTaken_7 : decode cX5_waysNotTaken 7 = .ok (.iload 4, 2) := by decide +kernel
theorem dX5_waysNotTaken_9 : decode cX5_waysNotTaken 9 = .ok (.bipush 8, 2) := by decide +kernel
theorem dX5_waysNotTaken_11 : decode cX5_waysNotTaken 11 = .ok (.if_icmp .gt 51, 3) := by decide +kernel
theorem dX5_waysNotTaken_14 : decode cX5_waysNotTaken 14 = .ok (.getstatic 200, 3) := by decide +kernel
theorem dX5_waysNotTaken_17 : decode cX5_waysNotTaken 17 = .ok (.iload 4, 2) := by decide +kernel
theorem dX5_waysNotTaken_19 : decode cX5_waysNotTaken 19 = .ok (.iaload, 1) := by decide +kernel
theorem dX5_waysNotTaken_20 : decode cX5_waysNotTaken 20 = .ok (.i2l, 1) := by decide +kernel
theorem dX5_waysNotTaken_21 : decode cX5_waysNotTaken 21 = .ok (.iload_n 0, 1) := by decide +kernel
theorem dX5_waysNotTaken_22 : decode cX5_waysNotTaken 22 = .ok (.i2l, 1) := by decide +kernel
theorem dX5_waysNotTaken_23 : decode cX5_waysNotTaken 23 = .ok (.iload 4, 2) := by decide +kernel
theorem dX5_waysNotTaken_25 : decode cX5_waysNotTaken 25 = .ok (.invokestatic 175, 3) := by decide +kernel
theorem dX5_waysNotTaken_28 : decode cX5_waysNotTaken 28 = .ok (.lmul, 1) := by decide +kernel
theorem dX5_waysNotTaken_29 : decode cX5_waysNotTaken 29 = .ok (.bipush 80, 2) := by decide +kernel
theorem dX5_waysNotTaken_31 : decode cX5_waysNotTaken 31 = .ok (.iload_n 0, 1) := by decide +kernel
theorem dX5_waysNotTaken_32 : decode cX5_waysNotTaken 32 = .ok (.isub, 1) := by decide +kernel
theorem dX5_waysNotTaken_33 : decode cX5_waysNotTaken 33 = .ok (.i2l, 1) := by decide +kernel
theorem dX5_waysNotTaken_34 : decode cX5_waysNotTaken 34 = .ok (.bipush 8, 2) := by decide +kernel
theorem dX5_waysNotTaken_36 : decode cX5_waysNotTaken 36 = .ok (.iload 4, 2) := by decide +kernel
theorem dX5_waysNotTaken_38 : decode cX5_waysNotTaken 38 = .ok (.isub, 1) := by decide +kernel
theorem dX5_waysNotTaken_39 : decode cX5_waysNotTaken 39 = .ok (.invokestatic 175, 3) := by decide +kernel
theorem dX5_waysNotTaken_42 : decode cX5_waysNotTaken 42 = .ok (.lmul, 1) := by decide +kernel
theorem dX5_waysNotTaken_43 : decode cX5_waysNotTaken 43 = .ok (.lstore 5, 2) := by decide +kernel
theorem dX5_waysNotTaken_45 : decode cX5_waysNotTaken 45 = .ok (.lload_n 2, 1) := by decide +kernel
theorem dX5_waysNotTaken_46 : decode cX5_waysNotTaken 46 = .ok (.iload 4, 2) := by decide +kernel
theorem dX5_waysNotTaken_48 : decode cX5_waysNotTaken 48 = .ok (.iload_n 1, 1) := by decide +kernel
theorem dX5_waysNotTaken_49 : decode cX5_waysNotTaken 49 = .ok (.isub, 1) := by decide +kernel
theorem dX5_waysNotTaken_50 : decode cX5_waysNotTaken 50 = .ok (.i2l, 1) := by decide +kernel
theorem dX5_waysNotTaken_51 : decode cX5_waysNotTaken 51 = .ok (.lload 5, 2) := by decide +kernel
theorem dX5_waysNotTaken_53 : decode cX5_waysNotTaken 53 = .ok (.lmul, 1) := by decide +kernel
theorem dX5_waysNotTaken_54 : decode cX5_waysNotTaken 54 = .ok (.ladd, 1) := by decide +kernel
theorem dX5_waysNotTaken_55 : decode cX5_waysNotTaken 55 = .ok (.lstore_n 2, 1) := by decide +kernel
theorem dX5_waysNotTaken_56 : decode cX5_waysNotTaken 56 = .ok (.iinc 4 1, 3) := by decide +kernel
theorem dX5_waysNotTaken_59 : decode cX5_waysNotTaken 59 = .ok (.goto (-52), 3) := by decide +kernel
theorem dX5_waysNotTaken_62 : decode cX5_waysNotTaken 62 = .ok (.lload_n 2, 1) := by decide +kernel
theorem dX5_waysNotTaken_63 : decode cX5_waysNotTaken 63 = .ok (.lreturn, 1) := by decide +kernel
theorem dX5_power_0 : decode cX5_power 0 = .ok (.lconst 1, 1) := by decide +kernel
theorem dX5_power_1 : decode cX5_power 1 = .ok (.lstore_n 3, 1) := by decide +kernel
theorem dX5_power_2 : decode cX5_power 2 = .ok (.iconst 0, 1) := by decide +kernel
theorem dX5_power_3 : decode cX5_power 3 = .ok (.istore 5, 2) := by decide +kernel
theorem dX5_power_5 : decode cX5_power 5 = .ok (.iload 5, 2) := by decide +kernel
theorem dX5_power_7 : decode cX5_power 7 = .ok (.iload_n 2, 1) := by decide +kernel
theorem dX5_power_8 : decode cX5_power 8 = .ok (.if_icmp .ge 13, 3) := by decide +kernel
theorem dX5_power_11 : decode cX5_power 11 = .ok (.lload_n 3, 1) := by decide +kernel
theorem dX5_power_12 : decode cX5_power 12 = .ok (.lload_n 0, 1) := by decide +kernel
theorem dX5_power_13 : decode cX5_power 13 = .ok (.lmul, 1) := by decide +kernel
theorem dX5_power_14 : decode cX5_power 14 = .ok (.lstore_n 3, 1) := by decide +kernel
theorem dX5_power_15 : decode cX5_power 15 = .ok (.iinc 5 1, 3) := by decide +kernel
theorem dX5_power_18 : decode cX5_power 18 = .ok (.goto (-13), 3) := by decide +kernel
theorem dX5_power_21 : decode cX5_power 21 = .ok (.lload_n 3, 1) := by decide +kernel
theorem dX5_power_22 : decode cX5_power 22 = .ok (.lreturn, 1) := by decide +kernel
theorem dX5_commonDivisor_0 : decode cX5_commonDivisor 0 = .ok (.lload_n 0, 1) := by decide +kernel
theorem dX5_commonDivisor_1 : decode cX5_commonDivisor 1 = .ok (.lstore 4, 2) := by decide +kernel
theorem dX5_commonDivisor_3 : decode cX5_commonDivisor 3 = .ok (.lload_n 2, 1) := by decide +kernel
theorem dX5_commonDivisor_4 : decode cX5_commonDivisor 4 = .ok (.lstore 6, 2) := by decide +kernel
theorem dX5_commonDivisor_6 : decode cX5_commonDivisor 6 = .ok (.iconst 0, 1) := by decide +kernel
theorem dX5_commonDivisor_7 : decode cX5_commonDivisor 7 = .ok (.istore 8, 2) := by decide +kernel
theorem dX5_commonDivisor_9 : decode cX5_commonDivisor 9 = .ok (.iload 8, 2) := by decide +kernel
theorem dX5_commonDivisor_11 : decode cX5_commonDivisor 11 = .ok (.sipush 200, 3) := by decide +kernel
theorem dX5_commonDivisor_14 : decode cX5_commonDivisor 14 = .ok (.if_icmp .ge 31, 3) := by decide +kernel
theorem dX5_commonDivisor_17 : decode cX5_commonDivisor 17 = .ok (.lload 6, 2) := by decide +kernel
theorem dX5_commonDivisor_19 : decode cX5_commonDivisor 19 = .ok (.lconst 0, 1) := by decide +kernel
theorem dX5_commonDivisor_20 : decode cX5_commonDivisor 20 = .ok (.lcmp, 1) := by decide +kernel
theorem dX5_commonDivisor_21 : decode cX5_commonDivisor 21 = .ok (.ifCond .eq 24, 3) := by decide +kernel
theorem dX5_commonDivisor_24 : decode cX5_commonDivisor 24 = .ok (.lload 4, 2) := by decide +kernel
theorem dX5_commonDivisor_26 : decode cX5_commonDivisor 26 = .ok (.lload 6, 2) := by decide +kernel
theorem dX5_commonDivisor_28 : decode cX5_commonDivisor 28 = .ok (.lrem, 1) := by decide +kernel
theorem dX5_commonDivisor_29 : decode cX5_commonDivisor 29 = .ok (.lstore 9, 2) := by decide +kernel
theorem dX5_commonDivisor_31 : decode cX5_commonDivisor 31 = .ok (.lload 6, 2) := by decide +kernel
theorem dX5_commonDivisor_33 : decode cX5_commonDivisor 33 = .ok (.lstore 4, 2) := by decide +kernel
theorem dX5_commonDivisor_35 : decode cX5_commonDivisor 35 = .ok (.lload 9, 2) := by decide +kernel
theorem dX5_commonDivisor_37 : decode cX5_commonDivisor 37 = .ok (.lstore 6, 2) := by decide +kernel
theorem dX5_commonDivisor_39 : decode cX5_commonDivisor 39 = .ok (.iinc 8 1, 3) := by decide +kernel
theorem dX5_commonDivisor_42 : decode cX5_commonDivisor 42 = .ok (.goto (-33), 3) := by decide +kernel
theorem dX5_commonDivisor_45 : decode cX5_commonDivisor 45 = .ok (.lload 4, 2) := by decide +kernel
theorem dX5_commonDivisor_47 : decode cX5_commonDivisor 47 = .ok (.lreturn, 1) := by decide +kernel
theorem dX6_init_0 : decode cX6_init 0 = .ok (.aload_n 0, 1) := by decide +kernel
theorem dX6_init_1 : decode cX6_init 1 = .ok (.invokespecial 1, 3) := by decide +kernel
theorem dX6_init_4 : decode cX6_init 4 = .ok (.aload_n 0, 1) := by decide +kernel
theorem dX6_init_5 : decode cX6_init 5 = .ok (.iconst 1, 1) := by decide +kernel
theorem dX6_init_6 : decode cX6_init 6 = .ok (.putfield 7, 3) := by decide +kernel
theorem dX6_init_9 : decode cX6_init 9 = .ok (.aload_n 0, 1) := by decide +kernel
theorem dX6_init_10 : decode cX6_init 10 = .ok (.bipush 8, 2) := by decide +kernel
theorem dX6_init_12 : decode cX6_init 12 = .ok (.putfield 13, 3) := by decide +kernel
theorem dX6_init_15 : decode cX6_init 15 = .ok (.aload_n 0, 1) := by decide +kernel
theorem dX6_init_16 : decode cX6_init 16 = .ok (.bipush 8, 2) := by decide +kernel
theorem dX6_init_18 : decode cX6_init 18 = .ok (.putfield 16, 3) := by decide +kernel
theorem dX6_init_21 : decode cX6_init 21 = .ok (.aload_n 0, 1) := by decide +kernel
theorem dX6_init_22 : decode cX6_init 22 = .ok (.sipush 512, 3) := by decide +kernel
theorem dX6_init_25 : decode cX6_init 25 = .ok (.newarray .int, 2) := by decide +kernel
theorem dX6_init_27 : decode cX6_init 27 = .ok (.putfield 19, 3) := by decide +kernel
theorem dX6_init_30 : decode cX6_init 30 = .ok (.aload_n 0, 1) := by decide +kernel
theorem dX6_init_31 : decode cX6_init 31 = .ok (.sipush 6760, 3) := by decide +kernel
theorem dX6_init_34 : decode cX6_init 34 = .ok (.newarray .int, 2) := by decide +kernel
theorem dX6_init_36 : decode cX6_init 36 = .ok (.putfield 23, 3) := by decide +kernel
theorem dX6_init_39 : decode cX6_init 39 = .ok (.aload_n 0, 1) := by decide +kernel
theorem dX6_init_40 : decode cX6_init 40 = .ok (.iconst 2, 1) := by decide +kernel
theorem dX6_init_41 : decode cX6_init 41 = .ok (.newarray .int, 2) := by decide +kernel
theorem dX6_init_43 : decode cX6_init 43 = .ok (.putfield 26, 3) := by decide +kernel
theorem dX6_init_46 : decode cX6_init 46 = .ok (.aload_n 0, 1) := by decide +kernel
theorem dX6_init_47 : decode cX6_init 47 = .ok (.bipush 64, 2) := by decide +kernel
theorem dX6_init_49 : decode cX6_init 49 = .ok (.newarray .int, 2) := by decide +kernel
theorem dX6_init_51 : decode cX6_init 51 = .ok (.putfield 29, 3) := by decide +kernel
theorem dX6_init_54 : decode cX6_init 54 = .ok (.aload_n 0, 1) := by decide +kernel
theorem dX6_init_55 : decode cX6_init 55 = .ok (.bipush 64, 2) := by decide +kernel
theorem dX6_init_57 : decode cX6_init 57 = .ok (.newarray .int, 2) := by decide +kernel
theorem dX6_init_59 : decode cX6_init 59 = .ok (.putfield 32, 3) := by decide +kernel
theorem dX6_init_62 : decode cX6_init 62 = .ok (.aload_n 0, 1) := by decide +kernel
theorem dX6_init_63 : decode cX6_init 63 = .ok (.bipush 8, 2) := by decide +kernel
theorem dX6_init_65 : decode cX6_init 65 = .ok (.newarray .int, 2) := by decide +kernel
theorem dX6_init_67 : decode cX6_init 67 = .ok (.putfield 35, 3) := by decide +kernel
theorem dX6_init_70 : decode cX6_init 70 = .ok (.aload_n 0, 1) := by decide +kernel
theorem dX6_init_71 : decode cX6_init 71 = .ok (.bipush 8, 2) := by decide +kernel
theorem dX6_init_73 : decode cX6_init 73 = .ok (.newarray .int, 2) := by decide +kernel
theorem dX6_init_75 : decode cX6_init 75 = .ok (.putfield 38, 3) := by decide +kernel
theorem dX6_init_78 : decode cX6_init 78 = .ok (.aload_n 0, 1) := by decide +kernel
theorem dX6_init_79 : decode cX6_init 79 = .ok (.bipush 6, 2) := by decide +kernel
theorem dX6_init_81 : decode cX6_init 81 = .ok (.newarray .int, 2) := by decide +kernel
theorem dX6_init_83 : decode cX6_init 83 = .ok (.putfield 41, 3) := by decide +kernel
theorem dX6_init_86 : decode cX6_init 86 = .ok (.aload_n 0, 1) := by decide +kernel
theorem dX6_init_87 : decode cX6_init 87 = .ok (.bipush 6, 2) := by decide +kernel
theorem dX6_init_89 : decode cX6_init 89 = .ok (.newarray .int, 2) := by decide +kernel
theorem dX6_init_91 : decode cX6_init 91 = .ok (.putfield 44, 3) := by decide +kernel
theorem dX6_init_94 : decode cX6_init 94 = .ok (.return_, 1) := by decide +kernel
theorem dX6_in_0 : decode cX6_in 0 = .ok (.iload_n 0, 1) := by decide +kernel
theorem dX6_in_1 : decode cX6_in 1 = .ok (.iload_n 1, 1) := by decide +kernel
theorem dX6_in_2 : decode cX6_in 2 = .ok (.if_icmp .lt 12, 3) := by decide +kernel
theorem dX6_in_5 : decode cX6_in 5 = .ok (.iload_n 0, 1) := by decide +kernel
theorem dX6_in_6 : decode cX6_in 6 = .ok (.iload_n 2, 1) := by decide +kernel
theorem dX6_in_7 : decode cX6_in 7 = .ok (.if_icmp .gt 7, 3) := by decide +kernel
theorem dX6_in_10 : decode cX6_in 10 = .ok (.iconst 1, 1) := by decide +kernel
theorem dX6_in_11 : decode cX6_in 11 = .ok (.goto 4, 3) := by decide +kernel
theorem dX6_in_14 : decode cX6_in 14 = .ok (.iconst 0, 1) := by decide +kernel
theorem dX6_in_15 : decode cX6_in 15 = .ok (.ireturn, 1) := by decide +kernel
theorem dX6_writes_0 : decode cX6_writes 0 = .ok (.sipush 520, 3) := by decide +kernel
theorem dX6_writes_3 : decode cX6_writes 3 = .ok (.iload_n 1, 1) := by decide +kernel
theorem dX6_writes_4 : decode cX6_writes 4 = .ok (.imul, 1) := by decide +kernel
theorem dX6_writes_5 : decode cX6_writes 5 = .ok (.istore_n 2, 1) := by decide +kernel
theorem dX6_writes_6 : decode cX6_writes 6 = .ok (.aload_n 0, 1) := by decide +kernel
theorem dX6_writes_7 : decode cX6_writes 7 = .ok (.getfield 23, 3) := by decide +kernel
theorem dX6_writes_10 : decode cX6_writes 10 = .ok (.iload_n 2, 1) := by decide +kernel
theorem dX6_writes_11 : decode cX6_writes 11 = .ok (.aload_n 0, 1) := by decide +kernel
theorem dX6_writes_12 : decode cX6_writes 12 = .ok (.getfield 7, 3) := by decide +kernel
theorem dX6_writes_15 : decode cX6_writes 15 = .ok (.iastore, 1) := by decide +kernel
theorem dX6_writes_16 : decode cX6_writes 16 = .ok (.aload_n 0, 1) := by decide +kernel
theorem dX6_writes_17 : decode cX6_writes 17 = .ok (.getfield 23, 3) := by decide +kernel
theorem dX6_writes_20 : decode cX6_writes 20 = .ok (.iload_n 2, 1) := by decide +kernel
theorem dX6_writes_21 : decode cX6_writes 21 = .ok (.iconst 1, 1) := by decide +kernel
theorem dX6_writes_22 : decode cX6_writes 22 = .ok (.iadd, 1) := by decide +kernel
theorem dX6_writes_23 : decode cX6_writes 23 = .ok (.aload_n 0, 1) := by decide +kernel
theorem dX6_writes_24 : decode cX6_writes 24 = .ok (.getfield 13, 3) := by decide +kernel
theorem dX6_writes_27 : decode cX6_writes 27 = .ok (.iastore, 1) := by decide +kernel
theorem dX6_writes_28 : decode cX6_writes 28 = .ok (.aload_n 0, 1) := by decide +kernel
theorem dX6_writes_29 : decode cX6_writes 29 = .ok (.getfield 23, 3) := by decide +kernel
theorem dX6_writes_32 : decode cX6_writes 32 = .ok (.iload_n 2, 1) := by decide +kernel
theorem dX6_writes_33 : decode cX6_writes 33 = .ok (.iconst 2, 1) := by decide +kernel
theorem dX6_writes_34 : decode cX6_writes 34 = .ok (.iadd, 1) := by decide +kernel
theorem dX6_writes_35 : decode cX6_writes 35 = .ok (.aload_n 0, 1) := by decide +kernel
theorem dX6_writes_36 : decode cX6_writes 36 = .ok (.getfield 16, 3) := by decide +kernel
theorem dX6_writes_39 : decode cX6_writes 39 = .ok (.iastore, 1) := by decide +kernel
theorem dX6_writes_40 : decode cX6_writes 40 = .ok (.aload_n 0, 1) := by decide +kernel
theorem dX6_writes_41 : decode cX6_writes 41 = .ok (.getfield 23, 3) := by decide +kernel
theorem dX6_writes_44 : decode cX6_writes 44 = .ok (.iload_n 2, 1) := by decide +kernel
theorem dX6_writes_45 : decode cX6_writes 45 = .ok (.iconst 3, 1) := by decide +kernel
theorem dX6_writes_46 : decode cX6_writes 46 = .ok (.iadd, 1) := by decide +kernel
theorem dX6_writes_47 : decode cX6_writes 47 = .ok (.aload_n 0, 1) := by decide +kernel
theorem dX6_writes_48 : decode cX6_writes 48 = .ok (.getfield 47, 3) := by decide +kernel
theorem dX6_writes_51 : decode cX6_writes 51 = .ok (.iastore, 1) := by decide +kernel
theorem dX6_writes_52 : decode cX6_writes 52 = .ok (.aload_n 0, 1) := by decide +kernel
theorem dX6_writes_53 : decode cX6_writes 53 = .ok (.getfield 23, 3) := by decide +kernel
theorem dX6_writes_56 : decode cX6_writes 56 = .ok (.iload_n 2, 1) := by decide +kernel
theorem dX6_writes_57 : decode cX6_writes 57 = .ok (.iconst 4, 1) := by decide +kernel
theorem dX6_writes_58 : decode cX6_writes 58 = .ok (.iadd, 1) := by decide +kernel
theorem dX6_writes_59 : decode cX6_writes 59 = .ok (.aload_n 0, 1) := by decide +kernel
theorem dX6_writes_60 : decode cX6_writes 60 = .ok (.getfield 50, 3) := by decide +kernel
theorem dX6_writes_63 : decode cX6_writes 63 = .ok (.iastore, 1) := by decide +kernel
theorem dX6_writes_64 : decode cX6_writes 64 = .ok (.aload_n 0, 1) := by decide +kernel
theorem dX6_writes_65 : decode cX6_writes 65 = .ok (.getfield 23, 3) := by decide +kernel
theorem dX6_writes_68 : decode cX6_writes 68 = .ok (.iload_n 2, 1) := by decide +kernel
theorem dX6_writes_69 : decode cX6_writes 69 = .ok (.iconst 5, 1) := by decide +kernel
theorem dX6_writes_70 : decode cX6_writes 70 = .ok (.iadd, 1) := by decide +kernel
theorem dX6_writes_71 : decode cX6_writes 71 = .ok (.aload_n 0, 1) := by decide +kernel
theorem dX6_writes_72 : decode cX6_writes 72 = .ok (.getfield 53, 3) := by decide +kernel
theorem dX6_writes_75 : decode cX6_writes 75 = .ok (.iastore, 1) := by decide +kernel
theorem dX6_writes_76 : decode cX6_writes 76 = .ok (.iconst 0, 1) := by decide +kernel
theorem dX6_writes_77 : decode cX6_writes 77 = .ok (.istore_n 3, 1) := by decide +kernel
theorem dX6_writes_78 : decode cX6_writes 78 = .ok (.iload_n 3, 1) := by decide +kernel
theorem dX6_writes_79 : decode cX6_writes 79 = .ok (.sipush 512, 3) := by decide +kernel
theorem dX6_writes_82 : decode cX6_writes 82 = .ok (.if_icmp .ge 26, 3) := by decide +kernel
theorem dX6_writes_85 : decode cX6_writes 85 = .ok (.aload_n 0, 1) := by decide +kernel
theorem dX6_writes_86 : decode cX6_writes 86 = .ok (.getfield 23, 3) := by decide +kernel
theorem dX6_writes_89 : decode cX6_writes 89 = .ok (.iload_n 2, 1) := by decide +kernel
theorem dX6_writes_90 : decode cX6_writes 90 = .ok (.bipush 8, 2) := by decide +kernel
theorem dX6_writes_92 : decode cX6_writes 92 = .ok (.iadd, 1) := by decide +kernel
theorem dX6_writes_93 : decode cX6_writes 93 = .ok (.iload_n 3, 1) := by decide +kernel
theorem dX6_writes_94 : decode cX6_writes 94 = .ok (.iadd, 1) := by decide +kernel
theorem dX6_writes_95 : decode cX6_writes 95 = .ok (.aload_n 0, 1) := by decide +kernel
theorem dX6_writes_96 : decode cX6_writes 96 = .ok (.getfield 19, 3) := by decide +kernel
theorem dX6_writes_99 : decode cX6_writes 99 = .ok (.iload_n 3, 1) := by decide +kernel
theorem dX6_writes_100 : decode cX6_writes 100 = .ok (.iaload, 1) := by decide +kernel
theorem dX6_writes_101 : decode cX6_writes 101 = .ok (.iastore, 1) := by decide +kernel
theorem dX6_writes_102 : decode cX6_writes 102 = .ok (.iinc 3 1, 3) := by decide +kernel
theorem dX6_writes_105 : decode cX6_writes 105 = .ok (.goto (-27), 3) := by decide +kernel
theorem dX6_writes_108 : decode cX6_writes 108 = .ok (.return_, 1) := by decide +kernel
theorem dX6_comesBack_0 : decode cX6_comesBack 0 = .ok (.sipush 520, 3) := by decide +kernel
theorem dX6_comesBack_3 : decode cX6_comesBack 3 = .ok (.iload_n 1, 1) := by decide +kernel
theorem dX6_comesBack_4 : decode cX6_comesBack 4 = .ok (.imul, 1) := by decide +kernel
theorem dX6_comesBack_5 : decode cX6_comesBack 5 = .ok (.istore_n 2, 1) := by decide +kernel
theorem dX6_comesBack_6 : decode cX6_comesBack 6 = .ok (.aload_n 0, 1) := by decide +kernel
theorem dX6_comesBack_7 : decode cX6_comesBack 7 = .ok (.aload_n 0, 1) := by decide +kernel
theorem dX6_comesBack_8 : decode cX6_comesBack 8 = .ok (.getfield 23, 3) := by decide +kernel
theorem dX6_comesBack_11 : decode cX6_comesBack 11 = .ok (.iload_n 2, 1) := by decide +kernel
theorem dX6_comesBack_12 : decode cX6_comesBack 12 = .ok (.iaload, 1) := by decide +kernel
theorem dX6_comesBack_13 : decode cX6_comesBack 13 = .ok (.putfield 7, 3) := by decide +kernel
theorem dX6_comesBack_16 : decode cX6_comesBack 16 = .ok (.aload_n 0, 1) := by decide +kernel
theorem dX6_comesBack_17 : decode cX6_comesBack 17 = .ok (.aload_n 0, 1) := by decide +kernel
theorem dX6_comesBack_18 : decode cX6_comesBack 18 = .ok (.getfield 23, 3) := by decide +kernel
theorem dX6_comesBack_21 : decode cX6_comesBack 21 = .ok (.iload_n 2, 1) := by decide +kernel
theorem dX6_comesBack_22 : decode cX6_comesBack 22 = .ok (.iconst 1, 1) := by decide +kernel
theorem dX6_comesBack_23 : decode cX6_comesBack 23 = .ok (.iadd, 1) := by decide +kernel
theorem dX6_comesBack_24 : decode cX6_comesBack 24 = .ok (.iaload, 1) := by decide +kernel
theorem dX6_comesBack_25 : decode cX6_comesBack 25 = .ok (.putfield 13, 3) := by decide +kernel
theorem dX6_comesBack_28 : decode cX6_comesBack 28 = .ok (.aload_n 0, 1) := by decide +kernel
theorem dX6_comesBack_29 : decode cX6_comesBack 29 = .ok (.aload_n 0, 1) := by decide +kernel
theorem dX6_comesBack_30 : decode cX6_comesBack 30 = .ok (.getfield 23, 3) := by decide +kernel
theorem dX6_comesBack_33 : decode cX6_comesBack 33 = .ok (.iload_n 2, 1) := by decide +kernel
theorem dX6_comesBack_34 : decode cX6_comesBack 34 = .ok (.iconst 2, 1) := by decide +kernel
theorem dX6_comesBack_35 : decode cX6_comesBack 35 = .ok (.iadd, 1) := by decide +kernel
theorem dX6_comesBack_36 : decode cX6_comesBack 36 = .ok (.iaload, 1) := by decide +kernel
theorem dX6_comesBack_37 : decode cX6_comesBack 37 = .ok (.putfield 16, 3) := by decide +kernel
theorem dX6_comesBack_40 : decode cX6_comesBack 40 = .ok (.aload_n 0, 1) := by decide +kernel
theorem dX6_comesBack_41 : decode cX6_comesBack 41 = .ok (.aload_n 0, 1) := by decide +kernel
theorem dX6_comesBack_42 : decode cX6_comesBack 42 = .ok (.getfield 23, 3) := by decide +kernel
theorem dX6_comesBack_45 : decode cX6_comesBack 45 = .ok (.iload_n 2, 1) := by decide +kernel
theorem dX6_comesBack_46 : decode cX6_comesBack 46 = .ok (.iconst 3, 1) := by decide +kernel
theorem dX6_comesBack_47 : decode cX6_comesBack 47 = .ok (.iadd, 1) := by decide +kernel
theorem dX6_comesBack_48 : decode cX6_comesBack 48 = .ok (.iaload, 1) := by decide +kernel
theorem dX6_comesBack_49 : decode cX6_comesBack 49 = .ok (.putfield 47, 3) := by decide +kernel
theorem dX6_comesBack_52 : decode cX6_comesBack 52 = .ok (.aload_n 0, 1) := by decide +kernel
theorem dX6_comesBack_53 : decode cX6_comesBack 53 = .ok (.aload_n 0, 1) := by decide +kernel
theorem dX6_comesBack_54 : decode cX6_comesBack 54 = .ok (.getfield 23, 3) := by decide +kernel
theorem dX6_comesBack_57 : decode cX6_comesBack 57 = .ok (.iload_n 2, 1) := by decide +kernel
theorem dX6_comesBack_58 : decode cX6_comesBack 58 = .ok (.iconst 4, 1) := by decide +kernel
theorem dX6_comesBack_59 : decode cX6_comesBack 59 = .ok (.iadd, 1) := by decide +kernel
theorem dX6_comesBack_60 : decode cX6_comesBack 60 = .ok (.iaload, 1) := by decide +kernel
theorem dX6_comesBack_61 : decode cX6_comesBack 61 = .ok (.putfield 50, 3) := by decide +kernel
theorem dX6_comesBack_64 : decode cX6_comesBack 64 = .ok (.aload_n 0, 1) := by decide +kernel
theorem dX6_comesBack_65 : decode cX6_comesBack 65 = .ok (.aload_n 0, 1) := by decide +kernel
theorem dX6_comesBack_66 : decode cX6_comesBack 66 = .ok (.getfield 23, 3) := by decide +kernel
theorem dX6_comesBack_69 : decode cX6_comesBack 69 = .ok (.iload_n 2, 1) := by decide +kernel
theorem dX6_comesBack_70 : decode cX6_comesBack 70 = .ok (.iconst 5, 1) := by decide +kernel
theorem dX6_comesBack_71 : decode cX6_comesBack 71 = .ok (.iadd, 1) := by decide +kernel
theorem dX6_comesBack_72 : decode cX6_comesBack 72 = .ok (.iaload, 1) := by decide +kernel
theorem dX6_comesBack_73 : decode cX6_comesBack 73 = .ok (.putfield 53, 3) := by decide +kernel
theorem dX6_comesBack_76 : decode cX6_comesBack 76 = .ok (.iconst 0, 1) := by decide +kernel
theorem dX6_comesBack_77 : decode cX6_comesBack 77 = .ok (.istore_n 3, 1) := by decide +kernel
theorem dX6_comesBack_78 : decode cX6_comesBack 78 = .ok (.iload_n 3, 1) := by decide +kernel
theorem dX6_comesBack_79 : decode cX6_comesBack 79 = .ok (.sipush 512, 3) := by decide +kernel
theorem dX6_comesBack_82 : decode cX6_comesBack 82 = .ok (.if_icmp .ge 26, 3) := by decide +kernel
theorem dX6_comesBack_85 : decode cX6_comesBack 85 = .ok (.aload_n 0, 1) := by decide +kernel
theorem dX6_comesBack_86 : decode cX6_comesBack 86 = .ok (.getfield 19, 3) := by decide +kernel
theorem dX6_comesBack_89 : decode cX6_comesBack 89 = .ok (.iload_n 3, 1) := by decide +kernel
theorem dX6_comesBack_90 : decode cX6_comesBack 90 = .ok (.aload_n 0, 1) := by decide +kernel
theorem dX6_comesBack_91 : decode cX6_comesBack 91 = .ok (.getfield 23, 3) := by decide +kernel
theorem dX6_comesBack_94 : decode cX6_comesBack 94 = .ok (.iload_n 2, 1) := by decide +kernel
theorem dX6_comesBack_95 : decode cX6_comesBack 95 = .ok (.bipush 8, 2) := by decide +kernel
theorem dX6_comesBack_97 : decode cX6_comesBack 97 = .ok (.iadd, 1) := by decide +kernel
theorem dX6_comesBack_98 : decode cX6_comesBack 98 = .ok (.iload_n 3, 1) := by decide +kernel
theorem dX6_comesBack_99 : decode cX6_comesBack 99 = .ok (.iadd, 1) := by decide +kernel
theorem dX6_comesBack_100 : decode cX6_comesBack 100 = .ok (.iaload, 1) := by decide +kernel
theorem dX6_comesBack_101 : decode cX6_comesBack 101 = .ok (.iastore, 1) := by decide +kernel
theorem dX6_comesBack_102 : decode cX6_comesBack 102 = .ok (.iinc 3 1, 3) := by decide +kernel
theorem dX6_comesBack_105 : decode cX6_comesBack 105 = .ok (.goto (-27), 3) := by decide +kernel
theorem dX6_comesBack_108 : decode cX6_comesBack 108 = .ok (.return_, 1) := by decide +kernel
theorem dX6_notes_0 : decode cX6_notes 0 = .ok (.aload_n 0, 1) := by decide +kernel
theorem dX6_notes_1 : decode cX6_notes 1 = .ok (.getfield 56, 3) := by decide +kernel
theorem dX6_notes_4 : decode cX6_notes 4 = .ok (.bipush 10, 2) := by decide +kernel
theorem dX6_notes_6 : decode cX6_notes 6 = .ok (.if_icmp .ne 44, 3) := by decide +kernel
theorem dX6_notes_9 : decode cX6_notes 9 = .ok (.iconst 0, 1) := by decide +kernel
theorem dX6_notes_10 : decode cX6_notes 10 = .ok (.istore_n 1, 1) := by decide +kernel
theorem dX6_notes_11 : decode cX6_notes 11 = .ok (.iload_n 1, 1) := by decide +kernel
theorem dX6_notes_12 : decode cX6_notes 12 = .ok (.sipush 4680, 3) := by decide +kernel
theorem dX6_notes_15 : decode cX6_notes 15 = .ok (.if_icmp .ge 25, 3) := by decide +kernel
theorem dX6_notes_18 : decode cX6_notes 18 = .ok (.aload_n 0, 1) := by decide +kernel
theorem dX6_notes_19 : decode cX6_notes 19 = .ok (.getfield 23, 3) := by decide +kernel
theorem dX6_notes_22 : decode cX6_notes 22 = .ok (.iload_n 1, 1) := by decide +kernel
theorem dX6_notes_23 : decode cX6_notes 23 = .ok (.aload_n 0, 1) := by decide +kernel
theorem dX6_notes_24 : decode cX6_notes 24 = .ok (.getfield 23, 3) := by decide +kernel
theorem dX6_notes_27 : decode cX6_notes 27 = .ok (.iload_n 1, 1) := by decide +kernel
theorem dX6_notes_28 : decode cX6_notes 28 = .ok (.sipush 520, 3) := by decide +kernel
theorem dX6_notes_31 : decode cX6_notes 31 = .ok (.iadd, 1) := by decide +kernel
theorem dX6_notes_32 : decode cX6_notes 32 = .ok (.iaload, 1) := by decide +kernel
theorem dX6_notes_33 : decode cX6_notes 33 = .ok (.iastore, 1) := by decide +kernel
theorem dX6_notes_34 : decode cX6_notes 34 = .ok (.iinc 1 1, 3) := by decide +kernel
theorem dX6_notes_37 : decode cX6_notes 37 = .ok (.goto (-26), 3) := by decide +kernel
theorem dX6_notes_40 : decode cX6_notes 40 = .ok (.aload_n 0, 1) := by decide +kernel
theorem dX6_notes_41 : decode cX6_notes 41 = .ok (.dup, 1) := by decide +kernel
theorem dX6_notes_42 : decode cX6_notes 42 = .ok (.getfield 56, 3) := by decide +kernel
theorem dX6_notes_45 : decode cX6_notes 45 = .ok (.iconst 1, 1) := by decide +kernel
theorem dX6_notes_46 : decode cX6_notes 46 = .ok (.isub, 1) := by decide +kernel
theorem dX6_notes_47 : decode cX6_notes 47 = .ok (.putfield 56, 3) := by decide +kernel
theorem dX6_notes_50 : decode cX6_notes 50 = .ok (.aload_n 0, 1) := by decide +kernel
theorem dX6_notes_51 : decode cX6_notes 51 = .ok (.aload_n 0, 1) := by decide +kernel
theorem dX6_notes_52 : decode cX6_notes 52 = .ok (.getfield 56, 3) := by decide +kernel
theorem dX6_notes_55 : decode cX6_notes 55 = .ok (.invokevirtual 59, 3) := by decide +kernel
theorem dX6_notes_58 : decode cX6_notes 58 = .ok (.aload_n 0, 1) := by decide +kernel
theorem dX6_notes_59 : decode cX6_notes 59 = .ok (.dup, 1) := by decide +kernel
theorem dX6_notes_60 : decode cX6_notes 60 = .ok (.getfield 56, 3) := by decide +kernel
theorem dX6_notes_63 : decode cX6_notes 63 = .ok (.iconst 1, 1) := by decide +kernel
theorem dX6_notes_64 : decode cX6_notes 64 = .ok (.iadd, 1) := by decide +kernel
theorem dX6_notes_65 : decode cX6_notes 65 = .ok (.putfield 56, 3) := by decide +kernel
theorem dX6_notes_68 : decode cX6_notes 68 = .ok (.return_, 1) := by decide +kernel
theorem dX6_of_0 : decode cX6_of 0 = .ok (.aload_n 0, 1) := by decide +kernel
theorem dX6_of_1 : decode cX6_of 1 = .ok (.getfield 19, 3) := by decide +kernel
theorem dX6_of_4 : decode cX6_of 4 = .ok (.bipush 8, 2) := by decide +kernel
theorem dX6_of_6 : decode cX6_of 6 = .ok (.iload_n 1, 1) := by decide +kernel
theorem dX6_of_7 : decode cX6_of 7 = .ok (.imul, 1) := by decide +kernel
theorem dX6_of_8 : decode cX6_of 8 = .ok (.iload_n 2, 1) := by decide +kernel
theorem dX6_of_9 : decode cX6_of 9 = .ok (.iadd, 1) := by decide +kernel
theorem dX6_of_10 : decode cX6_of 10 = .ok (.iaload, 1) := by decide +kernel
theorem dX6_of_11 : decode cX6_of 11 = .ok (.ireturn, 1) := by decide +kernel
theorem dX6_sets_0 : decode cX6_sets 0 = .ok (.aload_n 0, 1) := by decide +kernel
theorem dX6_sets_1 : decode cX6_sets 1 = .ok (.getfield 19, 3) := by decide +kernel
theorem dX6_sets_4 : decode cX6_sets 4 = .ok (.bipush 8, 2) := by decide +kernel
theorem dX6_sets_6 : decode cX6_sets 6 = .ok (.iload_n 1, 1) := by decide +kernel
theorem dX6_sets_7 : decode cX6_sets 7 = .ok (.imul, 1) := by decide +kernel
theorem dX6_sets_8 : decode cX6_sets 8 = .ok (.iload_n 2, 1) := by decide +kernel
theorem dX6_sets_9 : decode cX6_sets 9 = .ok (.iadd, 1) := by decide +kernel
theorem dX6_sets_10 : decode cX6_sets 10 = .ok (.iload_n 3, 1) := by decide +kernel
theorem dX6_sets_11 : decode cX6_sets 11 = .ok (.iastore, 1) := by decide +kernel
theorem dX6_sets_12 : decode cX6_sets 12 = .ok (.return_, 1) := by decide +kernel
theorem dX6_tells_0 : decode cX6_tells 0 = .ok (.iload_n 1, 1) := by decide +kernel
theorem dX6_tells_1 : decode cX6_tells 1 = .ok (.iconst 1, 1) := by decide +kernel
theorem dX6_tells_2 : decode cX6_tells 2 = .ok (.iconst 3, 1) := by decide +kernel
theorem dX6_tells_3 : decode cX6_tells 3 = .ok (.invokestatic 63, 3) := by decide +kernel
theorem dX6_tells_6 : decode cX6_tells 6 = .ok (.ifCond .eq 23, 3) := by decide +kernel
theorem dX6_tells_9 : decode cX6_tells 9 = .ok (.iload_n 2, 1) := by decide +kernel
theorem dX6_tells_10 : decode cX6_tells 10 = .ok (.iconst 0, 1) := by decide +kernel
theorem dX6_tells_11 : decode cX6_tells 11 = .ok (.bipush 8, 2) := by decide +kernel
theorem dX6_tells_13 : decode cX6_tells 13 = .ok (.invokestatic 63, 3) := by decide +kernel
theorem dX6_tells_16 : decode cX6_tells 16 = .ok (.ifCond .eq 13, 3) := by decide +kernel
theorem dX6_tells_19 : decode cX6_tells 19 = .ok (.iload_n 3, 1) := by decide +kernel
theorem dX6_tells_20 : decode cX6_tells 20 = .ok (.iconst 0, 1) := by decide +kernel
theorem dX6_tells_21 : decode cX6_tells 21 = .ok (.bipush 24, 2) := by decide +kernel
theorem dX6_tells_23 : decode cX6_tells 23 = .ok (.invokestatic 63, 3) := by decide +kernel
theorem dX6_tells_26 : decode cX6_tells 26 = .ok (.ifCond .ne 5, 3) := by decide +kernel
theorem dX6_tells_29 : decode cX6_tells 29 = .ok (.iconst (-1), 1) := by decide +kernel
theorem dX6_tells_30 : decode cX6_tells 30 = .ok (.ireturn, 1) := by decide +kernel
theorem dX6_tells_31 : decode cX6_tells 31 = .ok (.iload_n 1, 1) := by decide +kernel
theorem dX6_tells_32 : decode cX6_tells 32 = .ok (.aload_n 0, 1) := by decide +kernel
theorem dX6_tells_33 : decode cX6_tells 33 = .ok (.getfield 7, 3) := by decide +kernel
theorem dX6_tells_36 : decode cX6_tells 36 = .ok (.if_icmp .ne 22, 3) := by decide +kernel
theorem dX6_tells_39 : decode cX6_tells 39 = .ok (.iload_n 2, 1) := by decide +kernel
theorem dX6_tells_40 : decode cX6_tells 40 = .ok (.aload_n 0, 1) := by decide +kernel
theorem dX6_tells_41 : decode cX6_tells 41 = .ok (.getfield 13, 3) := by decide +kernel
theorem dX6_tells_44 : decode cX6_tells 44 = .ok (.if_icmp .ne 14, 3) := by decide +kernel
theorem dX6_tells_47 : decode cX6_tells 47 = .ok (.iload_n 3, 1) := by decide +kernel
theorem dX6_tells_48 : decode cX6_tells 48 = .ok (.aload_n 0, 1) := by decide +kernel
theorem dX6_tells_49 : decode cX6_tells 49 = .ok (.getfield 16, 3) := by decide +kernel
theorem dX6_tells_52 : decode cX6_tells 52 = .ok (.if_icmp .ne 6, 3) := by decide +kernel
theorem dX6_tells_55 : decode cX6_tells 55 = .ok (.bipush (-2), 2) := by decide +kernel
theorem dX6_tells_57 : decode cX6_tells 57 = .ok (.ireturn, 1) := by decide +kernel
theorem dX6_tells_58 : decode cX6_tells 58 = .ok (.aload_n 0, 1) := by decide +kernel
theorem dX6_tells_59 : decode cX6_tells 59 = .ok (.invokevirtual 67, 3) := by decide +kernel
theorem dX6_tells_62 : decode cX6_tells 62 = .ok (.aload_n 0, 1) := by decide +kernel
theorem dX6_tells_63 : decode cX6_tells 63 = .ok (.iload_n 1, 1) := by decide +kernel
theorem dX6_tells_64 : decode cX6_tells 64 = .ok (.putfield 7, 3) := by decide +kernel
theorem dX6_tells_67 : decode cX6_tells 67 = .ok (.aload_n 0, 1) := by decide +kernel
theorem dX6_tells_68 : decode cX6_tells 68 = .ok (.iload_n 2, 1) := by decide +kernel
theorem dX6_tells_69 : decode cX6_tells 69 = .ok (.putfield 13, 3) := by decide +kernel
theorem dX6_tells_72 : decode cX6_tells 72 = .ok (.aload_n 0, 1) := by decide +kernel
theorem dX6_tells_73 : decode cX6_tells 73 = .ok (.iload_n 3, 1) := by decide +kernel
theorem dX6_tells_74 : decode cX6_tells 74 = .ok (.putfield 16, 3) := by decide +kernel
theorem dX6_tells_77 : decode cX6_tells 77 = .ok (.iconst 1, 1) := by decide +kernel
theorem dX6_tells_78 : decode cX6_tells 78 = .ok (.ireturn, 1) := by decide +kernel
theorem dX6_isLine_0 : decode cX6_isLine 0 = .ok (.iload_n 0, 1) := by decide +kernel
theorem dX6_isLine_1 : decode cX6_isLine 1 = .ok (.iconst 0, 1) := by decide +kernel
theorem dX6_isLine_2 : decode cX6_isLine 2 = .ok (.bipush 7, 2) := by decide +kernel
theorem dX6_isLine_4 : decode cX6_isLine 4 = .ok (.invokestatic 63, 3) := by decide +kernel
theorem dX6_isLine_7 : decode cX6_isLine 7 = .ok (.ireturn, 1) := by decide +kernel
theorem dX6_atLine_0 : decode cX6_atLine 0 = .ok (.iconst 0, 1) := by decide +kernel
theorem dX6_atLine_1 : decode cX6_atLine 1 = .ok (.istore_n 2, 1) := by decide +kernel
theorem dX6_atLine_2 : decode cX6_atLine 2 = .ok (.iload_n 2, 1) := by decide +kernel
theorem dX6_atLine_3 : decode cX6_atLine 3 = .ok (.aload_n 0, 1) := by decide +kernel
theorem dX6_atLine_4 : decode cX6_atLine 4 = .ok (.getfield 50, 3) := by decide +kernel
theorem dX6_atLine_7 : decode cX6_atLine 7 = .ok (.if_icmp .ge 30, 3) := by decide +kernel
theorem dX6_atLine_10 : decode cX6_atLine 10 = .ok (.aload_n 0, 1) := by decide +kernel
theorem dX6_atLine_11 : decode cX6_atLine 11 = .ok (.iload_n 2, 1) := by decide +kernel
theorem dX6_atLine_12 : decode cX6_atLine 12 = .ok (.iconst 0, 1) := by decide +kernel
theorem dX6_atLine_13 : decode cX6_atLine 13 = .ok (.invokevirtual 70, 3) := by decide +kernel
theorem dX6_atLine_16 : decode cX6_atLine 16 = .ok (.ifCond .ne 15, 3) := by decide +kernel
theorem dX6_atLine_19 : decode cX6_atLine 19 = .ok (.aload_n 0, 1) := by decide +kernel
theorem dX6_atLine_20 : decode cX6_atLine 20 = .ok (.iload_n 2, 1) := by decide +kernel
theorem dX6_atLine_21 : decode cX6_atLine 21 = .ok (.iconst 1, 1) := by decide +kernel
theorem dX6_atLine_22 : decode cX6_atLine 22 = .ok (.invokevirtual 70, 3) := by decide +kernel
theorem dX6_atLine_25 : decode cX6_atLine 25 = .ok (.iload_n 1, 1) := by decide +kernel
theorem dX6_atLine_26 : decode cX6_atLine 26 = .ok (.if_icmp .ne 5, 3) := by decide +kernel
theorem dX6_atLine_29 : decode cX6_atLine 29 = .ok (.iload_n 2, 1) := by decide +kernel
theorem dX6_atLine_30 : decode cX6_atLine 30 = .ok (.ireturn, 1) := by decide +kernel
theorem dX6_atLine_31 : decode cX6_atLine 31 = .ok (.iinc 2 1, 3) := by decide +kernel
theorem dX6_atLine_34 : decode cX6_atLine 34 = .ok (.goto (-32), 3) := by decide +kernel
theorem dX6_atLine_37 : decode cX6_atLine 37 = .ok (.bipush (-9), 2) := by decide +kernel
theorem dX6_atLine_39 : decode cX6_atLine 39 = .ok (.ireturn, 1) := by decide +kernel
theorem dX6_puts_0 : decode cX6_puts 0 = .ok (.iload_n 1, 1) := by decide +kernel
theorem dX6_puts_1 : decode cX6_puts 1 = .ok (.invokestatic 74, 3) := by decide +kernel
theorem dX6_puts_4 : decode cX6_puts 4 = .ok (.ifCond .eq 19, 3) := by decide +kernel
theorem dX6_puts_7 : decode cX6_puts 7 = .ok (.iload_n 2, 1) := by decide +kernel
theorem dX6_puts_8 : decode cX6_puts 8 = .ok (.invokestatic 74, 3) := by decide +kernel
theorem dX6_puts_11 : decode cX6_puts 11 = .ok (.ifCond .eq 12, 3) := by decide +kernel
theorem dX6_puts_14 : decode cX6_puts 14 = .ok (.iload_n 3, 1) := by decide +kernel
theorem dX6_puts_15 : decode cX6_puts 15 = .ok (.iconst 0, 1) := by decide +kernel
theorem dX6_puts_16 : decode cX6_puts 16 = .ok (.iconst 3, 1) := by decide +kernel
theorem dX6_puts_17 : decode cX6_puts 17 = .ok (.invokestatic 63, 3) := by decide +kernel
theorem dX6_puts_20 : decode cX6_puts 20 = .ok (.ifCond .ne 5, 3) := by decide +kernel
theorem dX6_puts_23 : decode cX6_puts 23 = .ok (.iconst (-1), 1) := by decide +kernel
theorem dX6_puts_24 : decode cX6_puts 24 = .ok (.ireturn, 1) := by decide +kernel
theorem dX6_puts_25 : decode cX6_puts 25 = .ok (.aload_n 0, 1) := by decide +kernel
theorem dX6_puts_26 : decode cX6_puts 26 = .ok (.iload_n 1, 1) := by decide +kernel
theorem dX6_puts_27 : decode cX6_puts 27 = .ok (.invokevirtual 78, 3) := by decide +kernel
theorem dX6_puts_30 : decode cX6_puts 30 = .ok (.bipush (-9), 2) := by decide +kernel
theorem dX6_puts_32 : decode cX6_puts 32 = .ok (.if_icmp .eq 6, 3) := by decide +kernel
theorem dX6_puts_35 : decode cX6_puts 35 = .ok (.bipush (-2), 2) := by decide +kernel
theorem dX6_puts_37 : decode cX6_puts 37 = .ok (.ireturn, 1) := by decide +kernel
theorem dX6_puts_38 : decode cX6_puts 38 = .ok (.aload_n 0, 1) := by decide +kernel
theorem dX6_puts_39 : decode cX6_puts 39 = .ok (.getfield 50, 3) := by decide +kernel
theorem dX6_puts_42 : decode cX6_puts 42 = .ok (.bipush 64, 2) := by decide +kernel
theorem dX6_puts_44 : decode cX6_puts 44 = .ok (.if_icmp .ne 6, 3) := by decide +kernel
theorem dX6_puts_47 : decode cX6_puts 47 = .ok (.bipush (-3), 2) := by decide +kernel
theorem dX6_puts_49 : decode cX6_puts 49 = .ok (.ireturn, 1) := by decide +kernel
theorem dX6_puts_50 : decode cX6_puts 50 = .ok (.aload_n 0, 1) := by decide +kernel
theorem dX6_puts_51 : decode cX6_puts 51 = .ok (.invokevirtual 67, 3) := by decide +kernel
theorem dX6_puts_54 : decode cX6_puts 54 = .ok (.aload_n 0, 1) := by decide +kernel
theorem dX6_puts_55 : decode cX6_puts 55 = .ok (.aload_n 0, 1) := by decide +kernel
theorem dX6_puts_56 : decode cX6_puts 56 = .ok (.getfield 50, 3) := by decide +kernel
theorem dX6_puts_59 : decode cX6_puts 59 = .ok (.iconst 0, 1) := by decide +kernel
theorem dX6_puts_60 : decode cX6_puts 60 = .ok (.iconst 0, 1) := by decide +kernel
theorem dX6_puts_61 : decode cX6_puts 61 = .ok (.invokevirtual 82, 3) := by decide +kernel
theorem dX6_puts_64 : decode cX6_puts 64 = .ok (.aload_n 0, 1) := by decide +kernel
theorem dX6_puts_65 : decode cX6_puts 65 = .ok (.aload_n 0, 1) := by decide +kernel
theorem dX6_puts_66 : decode cX6_puts 66 = .ok (.getfield 50, 3) := by decide +kernel
theorem dX6_puts_69 : decode cX6_puts 69 = .ok (.iconst 1, 1) := by decide +kernel
theorem dX6_puts_70 : decode cX6_puts 70 = .ok (.iload_n 1, 1) := by decide +kernel
theorem dX6_puts_71 : decode cX6_puts 71 = .ok (.invokevirtual 82, 3) := by decide +kernel
theorem dX6_puts_74 : decode cX6_puts 74 = .ok (.aload_n 0, 1) := by decide +kernel
theorem dX6_puts_75 : decode cX6_puts 75 = .ok (.aload_n 0, 1) := by decide +kernel
theorem dX6_puts_76 : decode cX6_puts 76 = .ok (.getfield 50, 3) := by decide +kernel
theorem dX6_puts_79 : decode cX6_puts 79 = .ok (.iconst 2, 1) := by decide +kernel
theorem dX6_puts_80 : decode cX6_puts 80 = .ok (.iload_n 2, 1) := by decide +kernel
theorem dX6_puts_81 : decode cX6_puts 81 = .ok (.invokevirtual 82, 3) := by decide +kernel
theorem dX6_puts_84 : decode cX6_puts 84 = .ok (.aload_n 0, 1) := by decide +kernel
theorem dX6_puts_85 : decode cX6_puts 85 = .ok (.aload_n 0, 1) := by decide +kernel
theorem dX6_puts_86 : decode cX6_puts 86 = .ok (.getfield 50, 3) := by decide +kernel
theorem dX6_puts_89 : decode cX6_puts 89 = .ok (.iconst 3, 1) := by decide +kernel
theorem dX6_puts_90 : decode cX6_puts 90 = .ok (.iload_n 3, 1) := by decide +kernel
theorem dX6_puts_91 : decode cX6_puts 91 = .ok (.invokevirtual 82, 3) := by decide +kernel
theorem dX6_puts_94 : decode cX6_puts 94 = .ok (.aload_n 0, 1) := by decide +kernel
theorem dX6_puts_95 : decode cX6_puts 95 = .ok (.aload_n 0, 1) := by decide +kernel
theorem dX6_puts_96 : decode cX6_puts 96 = .ok (.getfield 50, 3) := by decide +kernel
theorem dX6_puts_99 : decode cX6_puts 99 = .ok (.iconst 4, 1) := by decide +kernel
theorem dX6_puts_100 : decode cX6_puts 100 = .ok (.aload_n 0, 1) := by decide +kernel
theorem dX6_puts_101 : decode cX6_puts 101 = .ok (.getfield 47, 3) := by decide +kernel
theorem dX6_puts_104 : decode cX6_puts 104 = .ok (.invokevirtual 82, 3) := by decide +kernel
theorem dX6_puts_107 : decode cX6_puts 107 = .ok (.aload_n 0, 1) := by decide +kernel
theorem dX6_puts_108 : decode cX6_puts 108 = .ok (.aload_n 0, 1) := by decide +kernel
theorem dX6_puts_109 : decode cX6_puts 109 = .ok (.getfield 50, 3) := by decide +kernel
theorem dX6_puts_112 : decode cX6_puts 112 = .ok (.iconst 5, 1) := by decide +kernel
theorem dX6_puts_113 : decode cX6_puts 113 = .ok (.bipush (-9), 2) := by decide +kernel
theorem dX6_puts_115 : decode cX6_puts 115 = .ok (.invokevirtual 82, 3) := by decide +kernel
theorem dX6_puts_118 : decode cX6_puts 118 = .ok (.aload_n 0, 1) := by decide +kernel
theorem dX6_puts_119 : decode cX6_puts 119 = .ok (.aload_n 0, 1) := by decide +kernel
theorem dX6_puts_120 : decode cX6_puts 120 = .ok (.getfield 50, 3) := by decide +kernel
theorem dX6_puts_123 : decode cX6_puts 123 = .ok (.bipush 6, 2) := by decide +kernel
theorem dX6_puts_125 : decode cX6_puts 125 = .ok (.iconst 0, 1) := by decide +kernel
theorem dX6_puts_126 : decode cX6_puts 126 = .ok (.invokevirtual 82, 3) := by decide +kernel
theorem dX6_puts_129 : decode cX6_puts 129 = .ok (.aload_n 0, 1) := by decide +kernel
theorem dX6_puts_130 : decode cX6_puts 130 = .ok (.aload_n 0, 1) := by decide +kernel
theorem dX6_puts_131 : decode cX6_puts 131 = .ok (.getfield 50, 3) := by decide +kernel
theorem dX6_puts_134 : decode cX6_puts 134 = .ok (.bipush 7, 2) := by decide +kernel
theorem dX6_puts_136 : decode cX6_puts 136 = .ok (.iconst 0, 1) := by decide +kernel
theorem dX6_puts_137 : decode cX6_puts 137 = .ok (.invokevirtual 82, 3) := by decide +kernel
theorem dX6_puts_140 : decode cX6_puts 140 = .ok (.aload_n 0, 1) := by decide +kernel
theorem dX6_puts_141 : decode cX6_puts 141 = .ok (.dup, 1) := by decide +kernel
theorem dX6_puts_142 : decode cX6_puts 142 = .ok (.getfield 50, 3) := by decide +kernel
theorem dX6_puts_145 : decode cX6_puts 145 = .ok (.iconst 1, 1) := by decide +kernel
theorem dX6_puts_146 : decode cX6_puts 146 = .ok (.iadd, 1) := by decide +kernel
theorem dX6_puts_147 : decode cX6_puts 147 = .ok (.putfield 50, 3) := by decide +kernel
theorem dX6_puts_150 : decode cX6_puts 150 = .ok (.aload_n 0, 1) := by decide +kernel
theorem dX6_puts_151 : decode cX6_puts 151 = .ok (.getfield 50, 3) := by decide +kernel
theorem dX6_puts_154 : decode cX6_puts 154 = .ok (.iconst 1, 1) := by decide +kernel
theorem dX6_puts_155 : decode cX6_puts 155 = .ok (.isub, 1) := by decide +kernel
theorem dX6_puts_156 : decode cX6_puts 156 = .ok (.ireturn, 1) := by decide +kernel
theorem dX6_isAhead_0 : decode cX6_isAhead 0 = .ok (.aload_n 0, 1) := by decide +kernel
theorem dX6_isAhead_1 : decode cX6_isAhead 1 = .ok (.iload_n 1, 1) := by decide +kernel
theorem dX6_isAhead_2 : decode cX6_isAhead 2 = .ok (.iconst 3, 1) := by decide +kernel
theorem dX6_isAhead_3 : decode cX6_isAhead 3 = .ok (.invokevirtual 70, 3) := by decide +kernel
theorem dX6_isAhead_6 : decode cX6_isAhead 6 = .ok (.aload_n 0, 1) := by decide +kernel
theorem dX6_isAhead_7 : decode cX6_isAhead 7 = .ok (.iload_n 2, 1) := by decide +kernel
theorem dX6_isAhead_8 : decode cX6_isAhead 8 = .ok (.iconst 3, 1) := by decide +kernel
theorem dX6_isAhead_9 : decode cX6_isAhead 9 = .ok (.invokevirtual 70, 3) := by decide +kernel
theorem dX6_isAhead_12 : decode cX6_isAhead 12 = .ok (.if_icmp .eq 26, 3) := by decide +kernel
theorem dX6_isAhead_15 : decode cX6_isAhead 15 = .ok (.aload_n 0, 1) := by decide +kernel
theorem dX6_isAhead_16 : decode cX6_isAhead 16 = .ok (.iload_n 1, 1) := by decide +kernel
theorem dX6_isAhead_17 : decode cX6_isAhead 17 = .ok (.iconst 3, 1) := by decide +kernel
theorem dX6_isAhead_18 : decode cX6_isAhead 18 = .ok (.invokevirtual 70, 3) := by decide +kernel
theorem dX6_isAhead_21 : decode cX6_isAhead 21 = .ok (.aload_n 0, 1) := by decide +kernel
theorem dX6_isAhead_22 : decode cX6_isAhead 22 = .ok (.iload_n 2, 1) := by decide +kernel
theorem dX6_isAhead_23 : decode cX6_isAhead 23 = .ok (.iconst 3, 1) := by decide +kernel
theorem dX6_isAhead_24 : decode cX6_isAhead 24 = .ok (.invokevirtual 70, 3) := by decide +kernel
theorem dX6_isAhead_27 : decode cX6_isAhead 27 = .ok (.if_icmp .le 7, 3) := by decide +kernel
theorem dX6_isAhead_30 : decode cX6_isAhead 30 = .ok (.iconst 1, 1) := by decide +kernel
theorem dX6_isAhead_31 : decode cX6_isAhead 31 = .ok (.goto 17, 3) := by decide +kernel
theorem dX6_isAhead_34 : decode cX6_isAhead 34 = .ok (.iconst 0, 1) := by decide +kernel
theorem dX6_isAhead_35 : decode cX6_isAhead 35 = .ok (.goto 13, 3) := by decide +kernel
theorem dX6_isAhead_38 : decode cX6_isAhead 38 = .ok (.iload_n 1, 1) := by decide +kernel
theorem dX6_isAhead_39 : decode cX6_isAhead 39 = .ok (.iload_n 2, 1) := by decide +kernel
theorem dX6_isAhead_40 : decode cX6_isAhead 40 = .ok (.if_icmp .ge 7, 3) := by decide +kernel
theorem dX6_isAhead_43 : decode cX6_isAhead 43 = .ok (.iconst 1, 1) := by decide +kernel
theorem dX6_isAhead_44 : decode cX6_isAhead 44 = .ok (.goto 4, 3) := by decide +kernel
theorem dX6_isAhead_47 : decode cX6_isAhead 47 = .ok (.iconst 0, 1) := by decide +kernel
theorem dX6_isAhead_48 : decode cX6_isAhead 48 = .ok (.ireturn, 1) := by decide +kernel
theorem dX6_manyAt_0 : decode cX6_manyAt 0 = .ok (.iconst 0, 1) := by decide +kernel
theorem dX6_manyAt_1 : decode cX6_manyAt 1 = .ok (.istore_n 2, 1) := by decide +kernel
theorem dX6_manyAt_2 : decode cX6_manyAt 2 = .ok (.iconst 0, 1) := by decide +kernel
theorem dX6_manyAt_3 : decode cX6_manyAt 3 = .ok (.istore_n 3, 1) := by decide +kernel
theorem dX6_manyAt_4 : decode cX6_manyAt 4 = .ok (.iload_n 3, 1) := by decide +kernel
theorem dX6_manyAt_5 : decode cX6_manyAt 5 = .ok (.aload_n 0, 1) := by decide +kernel
theorem dX6_manyAt_6 : decode cX6_manyAt 6 = .ok (.getfield 50, 3) := by decide +kernel
theorem dX6_manyAt_9 : decode cX6_manyAt 9 = .ok (.if_icmp .ge 27, 3) := by decide +kernel
theorem dX6_manyAt_12 : decode cX6_manyAt 12 = .ok (.iload_n 2, 1) := by decide +kernel
theorem dX6_manyAt_13 : decode cX6_manyAt 13 = .ok (.aload_n 0, 1) := by decide +kernel
theorem dX6_manyAt_14 : decode cX6_manyAt 14 = .ok (.iload_n 3, 1) := by decide +kernel
theorem dX6_manyAt_15 : decode cX6_manyAt 15 = .ok (.iconst 0, 1) := by decide +kernel
theorem dX6_manyAt_16 : decode cX6_manyAt 16 = .ok (.invokevirtual 70, 3) := by decide +kernel
theorem dX6_manyAt_19 : decode cX6_manyAt 19 = .ok (.iload_n 1, 1) := by decide +kernel
theorem dX6_manyAt_20 : decode cX6_manyAt 20 = .ok (.if_icmp .ne 7, 3) := by decide +kernel
theorem dX6_manyAt_23 : decode cX6_manyAt 23 = .ok (.iconst 1, 1) := by decide +kernel
theorem dX6_manyAt_24 : decode cX6_manyAt 24 = .ok (.goto 4, 3) := by decide +kernel
theorem dX6_manyAt_27 : decode cX6_manyAt 27 = .ok (.iconst 0, 1) := by decide +kernel
theorem dX6_manyAt_28 : decode cX6_manyAt 28 = .ok (.iadd, 1) := by decide +kernel
theorem dX6_manyAt_29 : decode cX6_manyAt 29 = .ok (.istore_n 2, 1) := by decide +kernel
theorem dX6_manyAt_30 : decode cX6_manyAt 30 = .ok (.iinc 3 1, 3) := by decide +kernel
theorem dX6_manyAt_33 : decode cX6_manyAt 33 = .ok (.goto (-29), 3) := by decide +kernel
theorem dX6_manyAt_36 : decode cX6_manyAt 36 = .ok (.iload_n 2, 1) := by decide +kernel
theorem dX6_manyAt_37 : decode cX6_manyAt 37 = .ok (.ireturn, 1) := by decide +kernel
theorem dX6_isIn_0 : decode cX6_isIn 0 = .ok (.aload_n 0, 1) := by decide +kernel
theorem dX6_isIn_1 : decode cX6_isIn 1 = .ok (.iload_n 1, 1) := by decide +kernel
theorem dX6_isIn_2 : decode cX6_isIn 2 = .ok (.iconst 0, 1) := by decide +kernel
theorem dX6_isIn_3 : decode cX6_isIn 3 = .ok (.invokevirtual 70, 3) := by decide +kernel
theorem dX6_isIn_6 : decode cX6_isIn 6 = .ok (.ifCond .eq 13, 3) := by decide +kernel
theorem dX6_isIn_9 : decode cX6_isIn 9 = .ok (.aload_n 0, 1) := by decide +kernel
theorem dX6_isIn_10 : decode cX6_isIn 10 = .ok (.iload_n 1, 1) := by decide +kernel
theorem dX6_isIn_11 : decode cX6_isIn 11 = .ok (.iconst 0, 1) := by decide +kernel
theorem dX6_isIn_12 : decode cX6_isIn 12 = .ok (.invokevirtual 70, 3) := by decide +kernel
theorem dX6_isIn_15 : decode cX6_isIn 15 = .ok (.iconst 1, 1) := by decide +kernel
theorem dX6_isIn_16 : decode cX6_isIn 16 = .ok (.if_icmp .ne 7, 3) := by decide +kernel
theorem dX6_isIn_19 : decode cX6_isIn 19 = .ok (.iconst 1, 1) := by decide +kernel
theorem dX6_isIn_20 : decode cX6_isIn 20 = .ok (.goto 4, 3) := by decide +kernel
theorem dX6_isIn_23 : decode cX6_isIn 23 = .ok (.iconst 0, 1) := by decide +kernel
theorem dX6_isIn_24 : decode cX6_isIn 24 = .ok (.ireturn, 1) := by decide +kernel
theorem dX6_isSooner_0 : decode cX6_isSooner 0 = .ok (.aload_n 0, 1) := by decide +kernel
theorem dX6_isSooner_1 : decode cX6_isSooner 1 = .ok (.iload_n 1, 1) := by decide +kernel
theorem dX6_isSooner_2 : decode cX6_isSooner 2 = .ok (.iconst 2, 1) := by decide +kernel
theorem dX6_isSooner_3 : decode cX6_isSooner 3 = .ok (.invokevirtual 70, 3) := by decide +kernel
theorem dX6_isSooner_6 : decode cX6_isSooner 6 = .ok (.aload_n 0, 1) := by decide +kernel
theorem dX6_isSooner_7 : decode cX6_isSooner 7 = .ok (.iload_n 2, 1) := by decide +kernel
theorem dX6_isSooner_8 : decode cX6_isSooner 8 = .ok (.iconst 2, 1) := by decide +kernel
theorem dX6_isSooner_9 : decode cX6_isSooner 9 = .ok (.invokevirtual 70, 3) := by decide +kernel
theorem dX6_isSooner_12 : decode cX6_isSooner 12 = .ok (.if_icmp .eq 26, 3) := by decide +kernel
theorem dX6_isSooner_15 : decode cX6_isSooner 15 = .ok (.aload_n 0, 1) := by decide +kernel
theorem dX6_isSooner_16 : decode cX6_isSooner 16 = .ok (.iload_n 1, 1) := by decide +kernel
theorem dX6_isSooner_17 : decode cX6_isSooner 17 = .ok (.iconst 2, 1) := by decide +kernel
theorem dX6_isSooner_18 : decode cX6_isSooner 18 = .ok (.invokevirtual 70, 3) := by decide +kernel
theorem dX6_isSooner_21 : decode cX6_isSooner 21 = .ok (.aload_n 0, 1) := by decide +kernel
theorem dX6_isSooner_22 : decode cX6_isSooner 22 = .ok (.iload_n 2, 1) := by decide +kernel
theorem dX6_isSooner_23 : decode cX6_isSooner 23 = .ok (.iconst 2, 1) := by decide +kernel
theorem dX6_isSooner_24 : decode cX6_isSooner 24 = .ok (.invokevirtual 70, 3) := by decide +kernel
theorem dX6_isSooner_27 : decode cX6_isSooner 27 = .ok (.if_icmp .ge 7, 3) := by decide +kernel
theorem dX6_isSooner_30 : decode cX6_isSooner 30 = .ok (.iconst 1, 1) := by decide +kernel
theorem dX6_isSooner_31 : decode cX6_isSooner 31 = .ok (.goto 13, 3) := by decide +kernel
theorem dX6_isSooner_34 : decode cX6_isSooner 34 = .ok (.iconst 0, 1) := by decide +kernel
theorem dX6_isSooner_35 : decode cX6_isSooner 35 = .ok (.goto 9, 3) := by decide +kernel
theorem dX6_isSooner_38 : decode cX6_isSooner 38 = .ok (.aload_n 0, 1) := by decide +kernel
theorem dX6_isSooner_39 : decode cX6_isSooner 39 = .ok (.iload_n 1, 1) := by decide +kernel
theorem dX6_isSooner_40 : decode cX6_isSooner 40 = .ok (.iload_n 2, 1) := by decide +kernel
theorem dX6_isSooner_41 : decode cX6_isSooner 41 = .ok (.invokevirtual 86, 3) := by decide +kernel
theorem dX6_isSooner_44 : decode cX6_isSooner 44 = .ok (.ireturn, 1) := by decide +kernel
theorem dX6_sorts_0 : decode cX6_sorts 0 = .ok (.aload_n 0, 1) := by decide +kernel
theorem dX6_sorts_1 : decode cX6_sorts 1 = .ok (.iconst 0, 1) := by decide +kernel
theorem dX6_sorts_2 : decode cX6_sorts 2 = .ok (.putfield 90, 3) := by decide +kernel
theorem dX6_sorts_5 : decode cX6_sorts 5 = .ok (.iconst 0, 1) := by decide +kernel
theorem dX6_sorts_6 : decode cX6_sorts 6 = .ok (.istore_n 1, 1) := by decide +kernel
theorem dX6_sorts_7 : decode cX6_sorts 7 = .ok (.iload_n 1, 1) := by decide +kernel
theorem dX6_sorts_8 : decode cX6_sorts 8 = .ok (.aload_n 0, 1) := by decide +kernel
theorem dX6_sorts_9 : decode cX6_sorts 9 = .ok (.getfield 50, 3) := by decide +kernel
theorem dX6_sorts_12 : decode cX6_sorts 12 = .ok (.if_icmp .ge 79, 3) := by decide +kernel
theorem dX6_sorts_15 : decode cX6_sorts 15 = .ok (.aload_n 0, 1) := by decide +kernel
theorem dX6_sorts_16 : decode cX6_sorts 16 = .ok (.iload_n 1, 1) := by decide +kernel
theorem dX6_sorts_17 : decode cX6_sorts 17 = .ok (.invokevirtual 93, 3) := by decide +kernel
theorem dX6_sorts_20 : decode cX6_sorts 20 = .ok (.ifCond .eq 65, 3) := by decide +kernel
theorem dX6_sorts_23 : decode cX6_sorts 23 = .ok (.aload_n 0, 1) := by decide +kernel
theorem dX6_sorts_24 : decode cX6_sorts 24 = .ok (.getfield 90, 3) := by decide +kernel
theorem dX6_sorts_27 : decode cX6_sorts 27 = .ok (.istore_n 2, 1) := by decide +kernel
theorem dX6_sorts_28 : decode cX6_sorts 28 = .ok (.iload_n 2, 1) := by decide +kernel
theorem dX6_sorts_29 : decode cX6_sorts 29 = .ok (.ifCond .le 39, 3) := by decide +kernel
theorem dX6_sorts_32 : decode cX6_sorts 32 = .ok (.aload_n 0, 1) := by decide +kernel
theorem dX6_sorts_33 : decode cX6_sorts 33 = .ok (.iload_n 1, 1) := by decide +kernel
theorem dX6_sorts_34 : decode cX6_sorts 34 = .ok (.aload_n 0, 1) := by decide +kernel
theorem dX6_sorts_35 : decode cX6_sorts 35 = .ok (.getfield 29, 3) := by decide +kernel
theorem dX6_sorts_38 : decode cX6_sorts 38 = .ok (.iload_n 2, 1) := by decide +kernel
theorem dX6_sorts_39 : decode cX6_sorts 39 = .ok (.iconst 1, 1) := by decide +kernel
theorem dX6_sorts_40 : decode cX6_sorts 40 = .ok (.isub, 1) := by decide +kernel
theorem dX6_sorts_41 : decode cX6_sorts 41 = .ok (.iaload, 1) := by decide +kernel
theorem dX6_sorts_42 : decode cX6_sorts 42 = .ok (.invokevirtual 96, 3) := by decide +kernel
theorem dX6_sorts_45 : decode cX6_sorts 45 = .ok (.ifCond .eq 23, 3) := by decide +kernel
theorem dX6_sorts_48 : decode cX6_sorts 48 = .ok (.aload_n 0, 1) := by decide +kernel
theorem dX6_sorts_49 : decode cX6_sorts 49 = .ok (.getfield 29, 3) := by decide +kernel
theorem dX6_sorts_52 : decode cX6_sorts 52 = .ok (.iload_n 2, 1) := by decide +kernel
theorem dX6_sorts_53 : decode cX6_sorts 53 = .ok (.aload_n 0, 1) := by decide +kernel
theorem dX6_sorts_54 : decode cX6_sorts 54 = .ok (.getfield 29, 3) := by decide +kernel
theorem dX6_sorts_57 : decode cX6_sorts 57 = .ok (.iload_n 2, 1) := by decide +kernel
theorem dX6_sorts_58 : decode cX6_sorts 58 = .ok (.iconst 1, 1) := by decide +kernel
theorem dX6_sorts_59 : decode cX6_sorts 59 = .ok (.isub, 1) := by decide +kernel
theorem dX6_sorts_60 : decode cX6_sorts 60 = .ok (.iaload, 1) := by decide +kernel
theorem dX6_sorts_61 : decode cX6_sorts 61 = .ok (.iastore, 1) := by decide +kernel
theorem dX6_sorts_62 : decode cX6_sorts 62 = .ok (.iinc 2 (-1), 3) := by decide +kernel
theorem dX6_sorts_65 : decode cX6_sorts 65 = .ok (.goto (-37), 3) := by decide +kernel
theorem dX6_sorts_68 : decode cX6_sorts 68 = .ok (.aload_n 0, 1) := by decide +kernel
theorem dX6_sorts_69 : decode cX6_sorts 69 = .ok (.getfield 29, 3) := by decide +kernel
theorem dX6_sorts_72 : decode cX6_sorts 72 = .ok (.iload_n 2, 1) := by decide +kernel
theorem dX6_sorts_73 : decode cX6_sorts 73 = .ok (.iload_n 1, 1) := by decide +kernel
theorem dX6_sorts_74 : decode cX6_sorts 74 = .ok (.iastore, 1) := by decide +kernel
theorem dX6_sorts_75 : decode cX6_sorts 75 = .ok (.aload_n 0, 1) := by decide +kernel
theorem dX6_sorts_76 : decode cX6_sorts 76 = .ok (.dup, 1) := by decide +kernel
theorem dX6_sorts_77 : decode cX6_sorts 77 = .ok (.getfield 90, 3) := by decide +kernel
theorem dX6_sorts_80 : decode cX6_sorts 80 = .ok (.iconst 1, 1) := by decide +kernel
theorem dX6_sorts_81 : decode cX6_sorts 81 = .ok (.iadd, 1) := by decide +kernel
theorem dX6_sorts_82 : decode cX6_sorts 82 = .ok (.putfield 90, 3) := by decide +kernel
theorem dX6_sorts_85 : decode cX6_sorts 85 = .ok (.iinc 1 1, 3) := by decide +kernel
theorem dX6_sorts_88 : decode cX6_sorts 88 = .ok (.goto (-81), 3) := by decide +kernel
theorem dX6_sorts_91 : decode cX6_sorts 91 = .ok (.return_, 1) := by decide +kernel
theorem dX6_wins_0 : decode cX6_wins 0 = .ok (.aload_n 0, 1) := by decide +kernel
theorem dX6_wins_1 : decode cX6_wins 1 = .ok (.iconst 2, 1) := by decide +kernel
theorem dX6_wins_2 : decode cX6_wins 2 = .ok (.invokevirtual 99, 3) := by decide +kernel
theorem dX6_wins_5 : decode cX6_wins 5 = .ok (.istore_n 1, 1) := by decide +kernel
theorem dX6_wins_6 : decode cX6_wins 6 = .ok (.iconst 0, 1) := by decide +kernel
theorem dX6_wins_7 : decode cX6_wins 7 = .ok (.istore_n 2, 1) := by decide +kernel
theorem dX6_wins_8 : decode cX6_wins 8 = .ok (.iconst 0, 1) := by decide +kernel
theorem dX6_wins_9 : decode cX6_wins 9 = .ok (.istore_n 3, 1) := by decide +kernel
theorem dX6_wins_10 : decode cX6_wins 10 = .ok (.iload_n 3, 1) := by decide +kernel
theorem dX6_wins_11 : decode cX6_wins 11 = .ok (.aload_n 0, 1) := by decide +kernel
theorem dX6_wins_12 : decode cX6_wins 12 = .ok (.getfield 90, 3) := by decide +kernel
theorem dX6_wins_15 : decode cX6_wins 15 = .ok (.if_icmp .ge 101, 3) := by decide +kernel
theorem dX6_wins_18 : decode cX6_wins 18 = .ok (.aload_n 0, 1) := by decide +kernel
theorem dX6_wins_19 : decode cX6_wins 19 = .ok (.getfield 29, 3) := by decide +kernel
theorem dX6_wins_22 : decode cX6_wins 22 = .ok (.iload_n 3, 1) := by decide +kernel
theorem dX6_wins_23 : decode cX6_wins 23 = .ok (.iaload, 1) := by decide +kernel
theorem dX6_wins_24 : decode cX6_wins 24 = .ok (.istore 4, 2) := by decide +kernel
theorem dX6_wins_26 : decode cX6_wins 26 = .ok (.iload_n 3, 1) := by decide +kernel
theorem dX6_wins_27 : decode cX6_wins 27 = .ok (.ifCond .le 32, 3) := by decide +kernel
theorem dX6_wins_30 : decode cX6_wins 30 = .ok (.aload_n 0, 1) := by decide +kernel
theorem dX6_wins_31 : decode cX6_wins 31 = .ok (.aload_n 0, 1) := by decide +kernel
theorem dX6_wins_32 : decode cX6_wins 32 = .ok (.getfield 29, 3) := by decide +kernel
theorem dX6_wins_35 : decode cX6_wins 35 = .ok (.iload_n 3, 1) := by decide +kernel
theorem dX6_wins_36 : decode cX6_wins 36 = .ok (.iconst 1, 1) := by decide +kernel
theorem dX6_wins_37 : decode cX6_wins 37 = .ok (.isub, 1) := by decide +kernel
theorem dX6_wins_38 : decode cX6_wins 38 = .ok (.iaload, 1) := by decide +kernel
theorem dX6_wins_39 : decode cX6_wins 39 = .ok (.iconst 2, 1) := by decide +kernel
theorem dX6_wins_40 : decode cX6_wins 40 = .ok (.invokevirtual 70, 3) := by decide +kernel
theorem dX6_wins_43 : decode cX6_wins 43 = .ok (.aload_n 0, 1) := by decide +kernel
theorem dX6_wins_44 : decode cX6_wins 44 = .ok (.iload 4, 2) := by decide +kernel
theorem dX6_wins_46 : decode cX6_wins 46 = .ok (.iconst 2, 1) := by decide +kernel
theorem dX6_wins_47 : decode cX6_wins 47 = .ok (.invokevirtual 70, 3) := by decide +kernel
theorem dX6_wins_50 : decode cX6_wins 50 = .ok (.if_icmp .ne 9, 3) := by decide +kernel
theorem dX6_wins_53 : decode cX6_wins 53 = .ok (.iload_n 2, 1) := by decide +kernel
theorem dX6_wins_54 : decode cX6_wins 54 = .ok (.iconst 1, 1) := by decide +kernel
theorem dX6_wins_55 : decode cX6_wins 55 = .ok (.iadd, 1) := by decide +kernel
theorem dX6_wins_56 : decode cX6_wins 56 = .ok (.goto 4, 3) := by decide +kernel
theorem dX6_wins_59 : decode cX6_wins 59 = .ok (.iconst 0, 1) := by decide +kernel
theorem dX6_wins_60 : decode cX6_wins 60 = .ok (.istore_n 2, 1) := by decide +kernel
theorem dX6_wins_61 : decode cX6_wins 61 = .ok (.iload_n 2, 1) := by decide +kernel
theorem dX6_wins_62 : decode cX6_wins 62 = .ok (.aload_n 0, 1) := by decide +kernel
theorem dX6_wins_63 : decode cX6_wins 63 = .ok (.getfield 7, 3) := by decide +kernel
theorem dX6_wins_66 : decode cX6_wins 66 = .ok (.if_icmp .ge 44, 3) := by decide +kernel
theorem dX6_wins_69 : decode cX6_wins 69 = .ok (.iload_n 1, 1) := by decide +kernel
theorem dX6_wins_70 : decode cX6_wins 70 = .ok (.aload_n 0, 1) := by decide +kernel
theorem dX6_wins_71 : decode cX6_wins 71 = .ok (.getfield 16, 3) := by decide +kernel
theorem dX6_wins_74 : decode cX6_wins 74 = .ok (.if_icmp .ge 36, 3) := by decide +kernel
theorem dX6_wins_77 : decode cX6_wins 77 = .ok (.aload_n 0, 1) := by decide +kernel
theorem dX6_wins_78 : decode cX6_wins 78 = .ok (.iload 4, 2) := by decide +kernel
theorem dX6_wins_80 : decode cX6_wins 80 = .ok (.iconst 0, 1) := by decide +kernel
theorem dX6_wins_81 : decode cX6_wins 81 = .ok (.iconst 2, 1) := by decide +kernel
theorem dX6_wins_82 : decode cX6_wins 82 = .ok (.invokevirtual 82, 3) := by decide +kernel
theorem dX6_wins_85 : decode cX6_wins 85 = .ok (.aload_n 0, 1) := by decide +kernel
theorem dX6_wins_86 : decode cX6_wins 86 = .ok (.iload 4, 2) := by decide +kernel
theorem dX6_wins_88 : decode cX6_wins 88 = .ok (.bipush 7, 2) := by decide +kernel
theorem dX6_wins_90 : decode cX6_wins 90 = .ok (.aload_n 0, 1) := by decide +kernel
theorem dX6_wins_91 : decode cX6_wins 91 = .ok (.getfield 53, 3) := by decide +kernel
theorem dX6_wins_94 : decode cX6_wins 94 = .ok (.invokevirtual 82, 3) := by decide +kernel
theorem dX6_wins_97 : decode cX6_wins 97 = .ok (.aload_n 0, 1) := by decide +kernel
theorem dX6_wins_98 : decode cX6_wins 98 = .ok (.dup, 1) := by decide +kernel
theorem dX6_wins_99 : decode cX6_wins 99 = .ok (.getfield 53, 3) := by decide +kernel
theorem dX6_wins_102 : decode cX6_wins 102 = .ok (.iconst 1, 1) := by decide +kernel
theorem dX6_wins_103 : decode cX6_wins 103 = .ok (.iadd, 1) := by decide +kernel
theorem dX6_wins_104 : decode cX6_wins 104 = .ok (.putfield 53, 3) := by decide +kernel
theorem dX6_wins_107 : decode cX6_wins 107 = .ok (.iinc 1 1, 3) := by decide +kernel
theorem dX6_wins_110 : decode cX6_wins 110 = .ok (.iinc 3 1, 3) := by decide +kernel
theorem dX6_wins_113 : decode cX6_wins 113 = .ok (.goto (-103), 3) := by decide +kernel
theorem dX6_wins_116 : decode cX6_wins 116 = .ok (.return_, 1) := by decide +kernel
theorem dX6_turns_0 : decode cX6_turns 0 = .ok (.iconst 0, 1) := by decide +kernel
theorem dX6_turns_1 : decode cX6_turns 1 = .ok (.istore_n 1, 1) := by decide +kernel
theorem dX6_turns_2 : decode cX6_turns 2 = .ok (.iload_n 1, 1) := by decide +kernel
theorem dX6_turns_3 : decode cX6_turns 3 = .ok (.aload_n 0, 1) := by decide +kernel
theorem dX6_turns_4 : decode cX6_turns 4 = .ok (.getfield 90, 3) := by decide +kernel
theorem dX6_turns_7 : decode cX6_turns 7 = .ok (.if_icmp .ge 133, 3) := by decide +kernel
theorem dX6_turns_10 : decode cX6_turns 10 = .ok (.aload_n 0, 1) := by decide +kernel
theorem dX6_turns_11 : decode cX6_turns 11 = .ok (.getfield 29, 3) := by decide +kernel
theorem dX6_turns_14 : decode cX6_turns 14 = .ok (.iload_n 1, 1) := by decide +kernel
theorem dX6_turns_15 : decode cX6_turns 15 = .ok (.iaload, 1) := by decide +kernel
theorem dX6_turns_16 : decode cX6_turns 16 = .ok (.istore_n 2, 1) := by decide +kernel
theorem dX6_turns_17 : decode cX6_turns 17 = .ok (.iconst 0, 1) := by decide +kernel
theorem dX6_turns_18 : decode cX6_turns 18 = .ok (.istore_n 3, 1) := by decide +kernel
theorem dX6_turns_19 : decode cX6_turns 19 = .ok (.iconst 0, 1) := by decide +kernel
theorem dX6_turns_20 : decode cX6_turns 20 = .ok (.istore 4, 2) := by decide +kernel
theorem dX6_turns_22 : decode cX6_turns 22 = .ok (.iload 4, 2) := by decide +kernel
theorem dX6_turns_24 : decode cX6_turns 24 = .ok (.aload_n 0, 1) := by decide +kernel
theorem dX6_turns_25 : decode cX6_turns 25 = .ok (.getfield 90, 3) := by decide +kernel
theorem dX6_turns_28 : decode cX6_turns 28 = .ok (.if_icmp .ge 73, 3) := by decide +kernel
theorem dX6_turns_31 : decode cX6_turns 31 = .ok (.aload_n 0, 1) := by decide +kernel
theorem dX6_turns_32 : decode cX6_turns 32 = .ok (.iload_n 2, 1) := by decide +kernel
theorem dX6_turns_33 : decode cX6_turns 33 = .ok (.invokevirtual 93, 3) := by decide +kernel
theorem dX6_turns_36 : decode cX6_turns 36 = .ok (.ifCond .eq 65, 3) := by decide +kernel
theorem dX6_turns_39 : decode cX6_turns 39 = .ok (.aload_n 0, 1) := by decide +kernel
theorem dX6_turns_40 : decode cX6_turns 40 = .ok (.getfield 29, 3) := by decide +kernel
theorem dX6_turns_43 : decode cX6_turns 43 = .ok (.iload 4, 2) := by decide +kernel
theorem dX6_turns_45 : decode cX6_turns 45 = .ok (.iaload, 1) := by decide +kernel
theorem dX6_turns_46 : decode cX6_turns 46 = .ok (.istore 5, 2) := by decide +kernel
theorem dX6_turns_48 : decode cX6_turns 48 = .ok (.iload 5, 2) := by decide +kernel
theorem dX6_turns_50 : decode cX6_turns 50 = .ok (.iload_n 2, 1) := by decide +kernel
theorem dX6_turns_51 : decode cX6_turns 51 = .ok (.if_icmp .eq 18, 3) := by decide +kernel
theorem dX6_turns_54 : decode cX6_turns 54 = .ok (.aload_n 0, 1) := by decide +kernel
theorem dX6_turns_55 : decode cX6_turns 55 = .ok (.iload 5, 2) := by decide +kernel
theorem dX6_turns_57 : decode cX6_turns 57 = .ok (.iconst 0, 1) := by decide +kernel
theorem dX6_turns_58 : decode cX6_turns 58 = .ok (.invokevirtual 70, 3) := by decide +kernel
theorem dX6_turns_61 : decode cX6_turns 61 = .ok (.iconst 2, 1) := by decide +kernel
theorem dX6_turns_62 : decode cX6_turns 62 = .ok (.if_icmp .eq 7, 3) := by decide +kernel
theorem dX6_turns_65 : decode cX6_turns 65 = .ok (.iconst 1, 1) := by decide +kernel
theorem dX6_turns_66 : decode cX6_turns 66 = .ok (.goto 4, 3) := by decide +kernel
theorem dX6_turns_69 : decode cX6_turns 69 = .ok (.iconst 0, 1) := by decide +kernel
theorem dX6_turns_70 : decode cX6_turns 70 = .ok (.istore 6, 2) := by decide +kernel
theorem dX6_turns_72 : decode cX6_turns 72 = .ok (.iload_n 3, 1) := by decide +kernel
theorem dX6_turns_73 : decode cX6_turns 73 = .ok (.iload 6, 2) := by decide +kernel
theorem dX6_turns_75 : decode cX6_turns 75 = .ok (.ifCond .eq 17, 3) := by decide +kernel
theorem dX6_turns_78 : decode cX6_turns 78 = .ok (.aload_n 0, 1) := by decide +kernel
theorem dX6_turns_79 : decode cX6_turns 79 = .ok (.iload 5, 2) := by decide +kernel
theorem dX6_turns_81 : decode cX6_turns 81 = .ok (.iload_n 2, 1) := by decide +kernel
theorem dX6_turns_82 : decode cX6_turns 82 = .ok (.invokevirtual 86, 3) := by decide +kernel
theorem dX6_turns_85 : decode cX6_turns 85 = .ok (.ifCond .eq 7, 3) := by decide +kernel
theorem dX6_turns_88 : decode cX6_turns 88 = .ok (.iconst 1, 1) := by decide +kernel
theorem dX6_turns_89 : decode cX6_turns 89 = .ok (.goto 4, 3) := by decide +kernel
theorem dX6_turns_92 : decode cX6_turns 92 = .ok (.iconst 0, 1) := by decide +kernel
theorem dX6_turns_93 : decode cX6_turns 93 = .ok (.iadd, 1) := by decide +kernel
theorem dX6_turns_94 : decode cX6_turns 94 = .ok (.istore_n 3, 1) := by decide +kernel
theorem dX6_turns_95 : decode cX6_turns 95 = .ok (.iinc 4 1, 3) := by decide +kernel
theorem dX6_turns_98 : decode cX6_turns 98 = .ok (.goto (-76), 3) := by decide +kernel
theorem dX6_turns_101 : decode cX6_turns 101 = .ok (.aload_n 0, 1) := by decide +kernel
theorem dX6_turns_102 : decode cX6_turns 102 = .ok (.getfield 32, 3) := by decide +kernel
theorem dX6_turns_105 : decode cX6_turns 105 = .ok (.iload_n 1, 1) := by decide +kernel
theorem dX6_turns_106 : decode cX6_turns 106 = .ok (.aload_n 0, 1) := by decide +kernel
theorem dX6_turns_107 : decode cX6_turns 107 = .ok (.iload_n 2, 1) := by decide +kernel
theorem dX6_turns_108 : decode cX6_turns 108 = .ok (.iconst 0, 1) := by decide +kernel
theorem dX6_turns_109 : decode cX6_turns 109 = .ok (.invokevirtual 70, 3) := by decide +kernel
theorem dX6_turns_112 : decode cX6_turns 112 = .ok (.iconst 2, 1) := by decide +kernel
theorem dX6_turns_113 : decode cX6_turns 113 = .ok (.if_icmp .ne 7, 3) := by decide +kernel
theorem dX6_turns_116 : decode cX6_turns 116 = .ok (.iconst 2, 1) := by decide +kernel
theorem dX6_turns_117 : decode cX6_turns 117 = .ok (.goto 16, 3) := by decide +kernel
theorem dX6_turns_120 : decode cX6_turns 120 = .ok (.iload_n 3, 1) := by decide +kernel
theorem dX6_turns_121 : decode cX6_turns 121 = .ok (.aload_n 0, 1) := by decide +kernel
theorem dX6_turns_122 : decode cX6_turns 122 = .ok (.getfield 13, 3) := by decide +kernel
theorem dX6_turns_125 : decode cX6_turns 125 = .ok (.if_icmp .ge 7, 3) := by decide +kernel
theorem dX6_turns_128 : decode cX6_turns 128 = .ok (.iconst 1, 1) := by decide +kernel
theorem dX6_turns_129 : decode cX6_turns 129 = .ok (.goto 4, 3) := by decide +kernel
theorem dX6_turns_132 : decode cX6_turns 132 = .ok (.iconst 4, 1) := by decide +kernel
theorem dX6_turns_133 : decode cX6_turns 133 = .ok (.iastore, 1) := by decide +kernel
theorem dX6_turns_134 : decode cX6_turns 134 = .ok (.iinc 1 1, 3) := by decide +kernel
theorem dX6_turns_137 : decode cX6_turns 137 = .ok (.goto (-135), 3) := by decide +kernel
theorem dX6_turns_140 : decode cX6_turns 140 = .ok (.iconst 0, 1) := by decide +kernel
theorem dX6_turns_141 : decode cX6_turns 141 = .ok (.istore_n 1, 1) := by decide +kernel
theorem dX6_turns_142 : decode cX6_turns 142 = .ok (.iload_n 1, 1) := by decide +kernel
theorem dX6_turns_143 : decode cX6_turns 143 = .ok (.aload_n 0, 1) := by decide +kernel
theorem dX6_turns_144 : decode cX6_turns 144 = .ok (.getfield 90, 3) := by decide +kernel
theorem dX6_turns_147 : decode cX6_turns 147 = .ok (.if_icmp .ge 87, 3) := by decide +kernel
theorem dX6_turns_150 : decode cX6_turns 150 = .ok (.aload_n 0, 1) := by decide +kernel
theorem dX6_turns_151 : decode cX6_turns 151 = .ok (.getfield 29, 3) := by decide +kernel
theorem dX6_turns_154 : decode cX6_turns 154 = .ok (.iload_n 1, 1) := by decide +kernel
theorem dX6_turns_155 : decode cX6_turns 155 = .ok (.iaload, 1) := by decide +kernel
theorem dX6_turns_156 : decode cX6_turns 156 = .ok (.istore_n 2, 1) := by decide +kernel
theorem dX6_turns_157 : decode cX6_turns 157 = .ok (.aload_n 0, 1) := by decide +kernel
theorem dX6_turns_158 : decode cX6_turns 158 = .ok (.iload_n 2, 1) := by decide +kernel
theorem dX6_turns_159 : decode cX6_turns 159 = .ok (.iconst 0, 1) := by decide +kernel
theorem dX6_turns_160 : decode cX6_turns 160 = .ok (.aload_n 0, 1) := by decide +kernel
theorem dX6_turns_161 : decode cX6_turns 161 = .ok (.getfield 32, 3) := by decide +kernel
theorem dX6_turns_164 : decode cX6_turns 164 = .ok (.iload_n 1, 1) := by decide +kernel
theorem dX6_turns_165 : decode cX6_turns 165 = .ok (.iaload, 1) := by decide +kernel
theorem dX6_turns_166 : decode cX6_turns 166 = .ok (.invokevirtual 82, 3) := by decide +kernel
theorem dX6_turns_169 : decode cX6_turns 169 = .ok (.aload_n 0, 1) := by decide +kernel
theorem dX6_turns_170 : decode cX6_turns 170 = .ok (.iload_n 2, 1) := by decide +kernel
theorem dX6_turns_171 : decode cX6_turns 171 = .ok (.bipush 6, 2) := by decide +kernel
theorem dX6_turns_173 : decode cX6_turns 173 = .ok (.aload_n 0, 1) := by decide +kernel
theorem dX6_turns_174 : decode cX6_turns 174 = .ok (.iload_n 2, 1) := by decide +kernel
theorem dX6_turns_175 : decode cX6_turns 175 = .ok (.bipush 6, 2) := by decide +kernel
theorem dX6_turns_177 : decode cX6_turns 177 = .ok (.invokevirtual 70, 3) := by decide +kernel
theorem dX6_turns_180 : decode cX6_turns 180 = .ok (.aload_n 0, 1) := by decide +kernel
theorem dX6_turns_181 : decode cX6_turns 181 = .ok (.getfield 32, 3) := by decide +kernel
theorem dX6_turns_184 : decode cX6_turns 184 = .ok (.iload_n 1, 1) := by decide +kernel
theorem dX6_turns_185 : decode cX6_turns 185 = .ok (.iaload, 1) := by decide +kernel
theorem dX6_turns_186 : decode cX6_turns 186 = .ok (.iconst 1, 1) := by decide +kernel
theorem dX6_turns_187 : decode cX6_turns 187 = .ok (.if_icmp .ne 7, 3) := by decide +kernel
theorem dX6_turns_190 : decode cX6_turns 190 = .ok (.iconst 1, 1) := by decide +kernel
theorem dX6_turns_191 : decode cX6_turns 191 = .ok (.goto 4, 3) := by decide +kernel
theorem dX6_turns_194 : decode cX6_turns 194 = .ok (.iconst 0, 1) := by decide +kernel
theorem dX6_turns_195 : decode cX6_turns 195 = .ok (.iadd, 1) := by decide +kernel
theorem dX6_turns_196 : decode cX6_turns 196 = .ok (.invokevirtual 82, 3) := by decide +kernel
theorem dX6_turns_199 : decode cX6_turns 199 = .ok (.aload_n 0, 1) := by decide +kernel
theorem dX6_turns_200 : decode cX6_turns 200 = .ok (.iload_n 2, 1) := by decide +kernel
theorem dX6_turns_201 : decode cX6_turns 201 = .ok (.iconst 5, 1) := by decide +kernel
theorem dX6_turns_202 : decode cX6_turns 202 = .ok (.aload_n 0, 1) := by decide +kernel
theorem dX6_turns_203 : decode cX6_turns 203 = .ok (.getfield 32, 3) := by decide +kernel
theorem dX6_turns_206 : decode cX6_turns 206 = .ok (.iload_n 1, 1) := by decide +kernel
theorem dX6_turns_207 : decode cX6_turns 207 = .ok (.iaload, 1) := by decide +kernel
theorem dX6_turns_208 : decode cX6_turns 208 = .ok (.iconst 4, 1) := by decide +kernel
theorem dX6_turns_209 : decode cX6_turns 209 = .ok (.if_icmp .ne 10, 3) := by decide +kernel
theorem dX6_turns_212 : decode cX6_turns 212 = .ok (.aload_n 0, 1) := by decide +kernel
theorem dX6_turns_213 : decode cX6_turns 213 = .ok (.getfield 47, 3) := by decide +kernel
theorem dX6_turns_216 : decode cX6_turns 216 = .ok (.goto 9, 3) := by decide +kernel
theorem dX6_turns_219 : decode cX6_turns 219 = .ok (.aload_n 0, 1) := by decide +kernel
theorem dX6_turns_220 : decode cX6_turns 220 = .ok (.iload_n 2, 1) := by decide +kernel
theorem dX6_turns_221 : decode cX6_turns 221 = .ok (.iconst 5, 1) := by decide +kernel
end
section
theorem dX6_turns_222 : decode cX6_turns 222 = .ok (.invokevirtual 70, 3) := by decide +kernel
theorem dX6_turns_225 : decode cX6_turns 225 = .ok (.invokevirtual 82, 3) := by decide +kernel
theorem dX6_turns_228 : decode cX6_turns 228 = .ok (.iinc 1 1, 3) := by decide +kernel
theorem dX6_turns_231 : decode cX6_turns 231 = .ok (.goto (-89), 3) := by decide +kernel
theorem dX6_turns_234 : decode cX6_turns 234 = .ok (.return_, 1) := by decide +kernel
theorem dX6_queued_0 : decode cX6_queued 0 = .ok (.iconst 0, 1) := by decide +kernel
theorem dX6_queued_1 : decode cX6_queued 1 = .ok (.istore_n 3, 1) := by decide +kernel
theorem dX6_queued_2 : decode cX6_queued 2 = .ok (.iload_n 3, 1) := by decide +kernel
theorem dX6_queued_3 : decode cX6_queued 3 = .ok (.aload_n 0, 1) := by decide +kernel
theorem dX6_queued_4 : decode cX6_queued 4 = .ok (.getfield 50, 3) := by decide +kernel
theorem dX6_queued_7 : decode cX6_queued 7 = .ok (.if_icmp .ge 108, 3) := by decide +kernel
theorem dX6_queued_10 : decode cX6_queued 10 = .ok (.aload_n 0, 1) := by decide +kernel
theorem dX6_queued_11 : decode cX6_queued 11 = .ok (.iload_n 3, 1) := by decide +kernel
theorem dX6_queued_12 : decode cX6_queued 12 = .ok (.iconst 0, 1) := by decide +kernel
theorem dX6_queued_13 : decode cX6_queued 13 = .ok (.invokevirtual 70, 3) := by decide +kernel
theorem dX6_queued_16 : decode cX6_queued 16 = .ok (.iconst 2, 1) := by decide +kernel
theorem dX6_queued_17 : decode cX6_queued 17 = .ok (.if_icmp .ne 92, 3) := by decide +kernel
theorem dX6_queued_20 : decode cX6_queued 20 = .ok (.aload_n 0, 1) := by decide +kernel
theorem dX6_queued_21 : decode cX6_queued 21 = .ok (.iload_n 3, 1) := by decide +kernel
theorem dX6_queued_22 : decode cX6_queued 22 = .ok (.iconst 2, 1) := by decide +kernel
theorem dX6_queued_23 : decode cX6_queued 23 = .ok (.invokevirtual 70, 3) := by decide +kernel
theorem dX6_queued_26 : decode cX6_queued 26 = .ok (.iload_n 1, 1) := by decide +kernel
theorem dX6_queued_27 : decode cX6_queued 27 = .ok (.if_icmp .ne 82, 3) := by decide +kernel
theorem dX6_queued_30 : decode cX6_queued 30 = .ok (.iconst 0, 1) := by decide +kernel
theorem dX6_queued_31 : decode cX6_queued 31 = .ok (.istore 4, 2) := by decide +kernel
theorem dX6_queued_33 : decode cX6_queued 33 = .ok (.iconst 0, 1) := by decide +kernel
theorem dX6_queued_34 : decode cX6_queued 34 = .ok (.istore 5, 2) := by decide +kernel
theorem dX6_queued_36 : decode cX6_queued 36 = .ok (.iload 5, 2) := by decide +kernel
theorem dX6_queued_38 : decode cX6_queued 38 = .ok (.aload_n 0, 1) := by decide +kernel
theorem dX6_queued_39 : decode cX6_queued 39 = .ok (.getfield 50, 3) := by decide +kernel
theorem dX6_queued_42 : decode cX6_queued 42 = .ok (.if_icmp .ge 59, 3) := by decide +kernel
theorem dX6_queued_45 : decode cX6_queued 45 = .ok (.iload 4, 2) := by decide +kernel
theorem dX6_queued_47 : decode cX6_queued 47 = .ok (.aload_n 0, 1) := by decide +kernel
theorem dX6_queued_48 : decode cX6_queued 48 = .ok (.iload 5, 2) := by decide +kernel
theorem dX6_queued_50 : decode cX6_queued 50 = .ok (.iconst 0, 1) := by decide +kernel
theorem dX6_queued_51 : decode cX6_queued 51 = .ok (.invokevirtual 70, 3) := by decide +kernel
theorem dX6_queued_54 : decode cX6_queued 54 = .ok (.iconst 2, 1) := by decide +kernel
theorem dX6_queued_55 : decode cX6_queued 55 = .ok (.if_icmp .ne 36, 3) := by decide +kernel
theorem dX6_queued_58 : decode cX6_queued 58 = .ok (.aload_n 0, 1) := by decide +kernel
theorem dX6_queued_59 : decode cX6_queued 59 = .ok (.iload 5, 2) := by decide +kernel
theorem dX6_queued_61 : decode cX6_queued 61 = .ok (.iconst 2, 1) := by decide +kernel
theorem dX6_queued_62 : decode cX6_queued 62 = .ok (.invokevirtual 70, 3) := by decide +kernel
theorem dX6_queued_65 : decode cX6_queued 65 = .ok (.iload_n 1, 1) := by decide +kernel
theorem dX6_queued_66 : decode cX6_queued 66 = .ok (.if_icmp .ne 25, 3) := by decide +kernel
theorem dX6_queued_69 : decode cX6_queued 69 = .ok (.aload_n 0, 1) := by decide +kernel
theorem dX6_queued_70 : decode cX6_queued 70 = .ok (.iload 5, 2) := by decide +kernel
theorem dX6_queued_72 : decode cX6_queued 72 = .ok (.bipush 7, 2) := by decide +kernel
theorem dX6_queued_74 : decode cX6_queued 74 = .ok (.invokevirtual 70, 3) := by decide +kernel
theorem dX6_queued_77 : decode cX6_queued 77 = .ok (.aload_n 0, 1) := by decide +kernel
theorem dX6_queued_78 : decode cX6_queued 78 = .ok (.iload_n 3, 1) := by decide +kernel
theorem dX6_queued_79 : decode cX6_queued 79 = .ok (.bipush 7, 2) := by decide +kernel
theorem dX6_queued_81 : decode cX6_queued 81 = .ok (.invokevirtual 70, 3) := by decide +kernel
theorem dX6_queued_84 : decode cX6_queued 84 = .ok (.if_icmp .ge 7, 3) := by decide +kernel
theorem dX6_queued_87 : decode cX6_queued 87 = .ok (.iconst 1, 1) := by decide +kernel
theorem dX6_queued_88 : decode cX6_queued 88 = .ok (.goto 4, 3) := by decide +kernel
theorem dX6_queued_91 : decode cX6_queued 91 = .ok (.iconst 0, 1) := by decide +kernel
theorem dX6_queued_92 : decode cX6_queued 92 = .ok (.iadd, 1) := by decide +kernel
theorem dX6_queued_93 : decode cX6_queued 93 = .ok (.istore 4, 2) := by decide +kernel
theorem dX6_queued_95 : decode cX6_queued 95 = .ok (.iinc 5 1, 3) := by decide +kernel
theorem dX6_queued_98 : decode cX6_queued 98 = .ok (.goto (-62), 3) := by decide +kernel
theorem dX6_queued_101 : decode cX6_queued 101 = .ok (.iload 4, 2) := by decide +kernel
theorem dX6_queued_103 : decode cX6_queued 103 = .ok (.iload_n 2, 1) := by decide +kernel
theorem dX6_queued_104 : decode cX6_queued 104 = .ok (.if_icmp .ne 5, 3) := by decide +kernel
theorem dX6_queued_107 : decode cX6_queued 107 = .ok (.iload_n 3, 1) := by decide +kernel
theorem dX6_queued_108 : decode cX6_queued 108 = .ok (.ireturn, 1) := by decide +kernel
theorem dX6_queued_109 : decode cX6_queued 109 = .ok (.iinc 3 1, 3) := by decide +kernel
theorem dX6_queued_112 : decode cX6_queued 112 = .ok (.goto (-110), 3) := by decide +kernel
theorem dX6_queued_115 : decode cX6_queued 115 = .ok (.bipush (-9), 2) := by decide +kernel
theorem dX6_queued_117 : decode cX6_queued 117 = .ok (.ireturn, 1) := by decide +kernel
theorem dX6_goes_0 : decode cX6_goes 0 = .ok (.aload_n 0, 1) := by decide +kernel
theorem dX6_goes_1 : decode cX6_goes 1 = .ok (.invokevirtual 102, 3) := by decide +kernel
theorem dX6_goes_4 : decode cX6_goes 4 = .ok (.aload_n 0, 1) := by decide +kernel
theorem dX6_goes_5 : decode cX6_goes 5 = .ok (.invokevirtual 105, 3) := by decide +kernel
theorem dX6_goes_8 : decode cX6_goes 8 = .ok (.aload_n 0, 1) := by decide +kernel
theorem dX6_goes_9 : decode cX6_goes 9 = .ok (.invokevirtual 108, 3) := by decide +kernel
theorem dX6_goes_12 : decode cX6_goes 12 = .ok (.iconst 0, 1) := by decide +kernel
theorem dX6_goes_13 : decode cX6_goes 13 = .ok (.istore_n 1, 1) := by decide +kernel
theorem dX6_goes_14 : decode cX6_goes 14 = .ok (.iconst 0, 1) := by decide +kernel
theorem dX6_goes_15 : decode cX6_goes 15 = .ok (.istore_n 2, 1) := by decide +kernel
theorem dX6_goes_16 : decode cX6_goes 16 = .ok (.iload_n 2, 1) := by decide +kernel
theorem dX6_goes_17 : decode cX6_goes 17 = .ok (.bipush 8, 2) := by decide +kernel
theorem dX6_goes_19 : decode cX6_goes 19 = .ok (.if_icmp .ge 42, 3) := by decide +kernel
theorem dX6_goes_22 : decode cX6_goes 22 = .ok (.aload_n 0, 1) := by decide +kernel
theorem dX6_goes_23 : decode cX6_goes 23 = .ok (.iload_n 2, 1) := by decide +kernel
theorem dX6_goes_24 : decode cX6_goes 24 = .ok (.iconst 0, 1) := by decide +kernel
theorem dX6_goes_25 : decode cX6_goes 25 = .ok (.invokevirtual 111, 3) := by decide +kernel
theorem dX6_goes_28 : decode cX6_goes 28 = .ok (.istore_n 3, 1) := by decide +kernel
theorem dX6_goes_29 : decode cX6_goes 29 = .ok (.iload_n 3, 1) := by decide +kernel
theorem dX6_goes_30 : decode cX6_goes 30 = .ok (.bipush (-9), 2) := by decide +kernel
theorem dX6_goes_32 : decode cX6_goes 32 = .ok (.if_icmp .eq 23, 3) := by decide +kernel
theorem dX6_goes_35 : decode cX6_goes 35 = .ok (.aload_n 0, 1) := by decide +kernel
theorem dX6_goes_36 : decode cX6_goes 36 = .ok (.iload_n 3, 1) := by decide +kernel
theorem dX6_goes_37 : decode cX6_goes 37 = .ok (.iconst 0, 1) := by decide +kernel
theorem dX6_goes_38 : decode cX6_goes 38 = .ok (.iconst 3, 1) := by decide +kernel
theorem dX6_goes_39 : decode cX6_goes 39 = .ok (.invokevirtual 82, 3) := by decide +kernel
theorem dX6_goes_42 : decode cX6_goes 42 = .ok (.aload_n 0, 1) := by decide +kernel
theorem dX6_goes_43 : decode cX6_goes 43 = .ok (.iload_n 3, 1) := by decide +kernel
theorem dX6_goes_44 : decode cX6_goes 44 = .ok (.iconst 5, 1) := by decide +kernel
theorem dX6_goes_45 : decode cX6_goes 45 = .ok (.aload_n 0, 1) := by decide +kernel
theorem dX6_goes_46 : decode cX6_goes 46 = .ok (.getfield 47, 3) := by decide +kernel
theorem dX6_goes_49 : decode cX6_goes 49 = .ok (.invokevirtual 82, 3) := by decide +kernel
theorem dX6_goes_52 : decode cX6_goes 52 = .ok (.iinc 1 1, 3) := by decide +kernel
theorem dX6_goes_55 : decode cX6_goes 55 = .ok (.iinc 2 1, 3) := by decide +kernel
theorem dX6_goes_58 : decode cX6_goes 58 = .ok (.goto (-42), 3) := by decide +kernel
theorem dX6_goes_61 : decode cX6_goes 61 = .ok (.aload_n 0, 1) := by decide +kernel
theorem dX6_goes_62 : decode cX6_goes 62 = .ok (.dup, 1) := by decide +kernel
theorem dX6_goes_63 : decode cX6_goes 63 = .ok (.getfield 47, 3) := by decide +kernel
theorem dX6_goes_66 : decode cX6_goes 66 = .ok (.iconst 1, 1) := by decide +kernel
theorem dX6_goes_67 : decode cX6_goes 67 = .ok (.iadd, 1) := by decide +kernel
theorem dX6_goes_68 : decode cX6_goes 68 = .ok (.putfield 47, 3) := by decide +kernel
theorem dX6_goes_71 : decode cX6_goes 71 = .ok (.iload_n 1, 1) := by decide +kernel
theorem dX6_goes_72 : decode cX6_goes 72 = .ok (.ireturn, 1) := by decide +kernel
theorem dX6_slot_0 : decode cX6_slot 0 = .ok (.aload_n 0, 1) := by decide +kernel
theorem dX6_slot_1 : decode cX6_slot 1 = .ok (.getfield 47, 3) := by decide +kernel
theorem dX6_slot_4 : decode cX6_slot 4 = .ok (.bipush 99, 2) := by decide +kernel
theorem dX6_slot_6 : decode cX6_slot 6 = .ok (.if_icmp .ne 6, 3) := by decide +kernel
theorem dX6_slot_9 : decode cX6_slot 9 = .ok (.bipush (-2), 2) := by decide +kernel
theorem dX6_slot_11 : decode cX6_slot 11 = .ok (.ireturn, 1) := by decide +kernel
theorem dX6_slot_12 : decode cX6_slot 12 = .ok (.aload_n 0, 1) := by decide +kernel
theorem dX6_slot_13 : decode cX6_slot 13 = .ok (.invokevirtual 67, 3) := by decide +kernel
theorem dX6_slot_16 : decode cX6_slot 16 = .ok (.aload_n 0, 1) := by decide +kernel
theorem dX6_slot_17 : decode cX6_slot 17 = .ok (.invokevirtual 114, 3) := by decide +kernel
theorem dX6_slot_20 : decode cX6_slot 20 = .ok (.ireturn, 1) := by decide +kernel
theorem dX6_undo_0 : decode cX6_undo 0 = .ok (.aload_n 0, 1) := by decide +kernel
theorem dX6_undo_1 : decode cX6_undo 1 = .ok (.getfield 56, 3) := by decide +kernel
theorem dX6_undo_4 : decode cX6_undo 4 = .ok (.ifCond .ne 6, 3) := by decide +kernel
theorem dX6_undo_7 : decode cX6_undo 7 = .ok (.bipush (-2), 2) := by decide +kernel
theorem dX6_undo_9 : decode cX6_undo 9 = .ok (.ireturn, 1) := by decide +kernel
theorem dX6_undo_10 : decode cX6_undo 10 = .ok (.aload_n 0, 1) := by decide +kernel
theorem dX6_undo_11 : decode cX6_undo 11 = .ok (.dup, 1) := by decide +kernel
theorem dX6_undo_12 : decode cX6_undo 12 = .ok (.getfield 56, 3) := by decide +kernel
theorem dX6_undo_15 : decode cX6_undo 15 = .ok (.iconst 1, 1) := by decide +kernel
theorem dX6_undo_16 : decode cX6_undo 16 = .ok (.isub, 1) := by decide +kernel
theorem dX6_undo_17 : decode cX6_undo 17 = .ok (.putfield 56, 3) := by decide +kernel
theorem dX6_undo_20 : decode cX6_undo 20 = .ok (.aload_n 0, 1) := by decide +kernel
theorem dX6_undo_21 : decode cX6_undo 21 = .ok (.aload_n 0, 1) := by decide +kernel
theorem dX6_undo_22 : decode cX6_undo 22 = .ok (.getfield 56, 3) := by decide +kernel
theorem dX6_undo_25 : decode cX6_undo 25 = .ok (.invokevirtual 118, 3) := by decide +kernel
theorem dX6_undo_28 : decode cX6_undo 28 = .ok (.aload_n 0, 1) := by decide +kernel
theorem dX6_undo_29 : decode cX6_undo 29 = .ok (.getfield 56, 3) := by decide +kernel
theorem dX6_undo_32 : decode cX6_undo 32 = .ok (.ireturn, 1) := by decide +kernel
theorem dX6_clear_0 : decode cX6_clear 0 = .ok (.aload_n 0, 1) := by decide +kernel
theorem dX6_clear_1 : decode cX6_clear 1 = .ok (.getfield 50, 3) := by decide +kernel
theorem dX6_clear_4 : decode cX6_clear 4 = .ok (.istore_n 1, 1) := by decide +kernel
theorem dX6_clear_5 : decode cX6_clear 5 = .ok (.aload_n 0, 1) := by decide +kernel
theorem dX6_clear_6 : decode cX6_clear 6 = .ok (.iconst 1, 1) := by decide +kernel
theorem dX6_clear_7 : decode cX6_clear 7 = .ok (.putfield 7, 3) := by decide +kernel
theorem dX6_clear_10 : decode cX6_clear 10 = .ok (.aload_n 0, 1) := by decide +kernel
theorem dX6_clear_11 : decode cX6_clear 11 = .ok (.bipush 8, 2) := by decide +kernel
theorem dX6_clear_13 : decode cX6_clear 13 = .ok (.putfield 13, 3) := by decide +kernel
theorem dX6_clear_16 : decode cX6_clear 16 = .ok (.aload_n 0, 1) := by decide +kernel
theorem dX6_clear_17 : decode cX6_clear 17 = .ok (.bipush 8, 2) := by decide +kernel
theorem dX6_clear_19 : decode cX6_clear 19 = .ok (.putfield 16, 3) := by decide +kernel
theorem dX6_clear_22 : decode cX6_clear 22 = .ok (.aload_n 0, 1) := by decide +kernel
theorem dX6_clear_23 : decode cX6_clear 23 = .ok (.iconst 0, 1) := by decide +kernel
theorem dX6_clear_24 : decode cX6_clear 24 = .ok (.putfield 47, 3) := by decide +kernel
theorem dX6_clear_27 : decode cX6_clear 27 = .ok (.aload_n 0, 1) := by decide +kernel
theorem dX6_clear_28 : decode cX6_clear 28 = .ok (.iconst 0, 1) := by decide +kernel
theorem dX6_clear_29 : decode cX6_clear 29 = .ok (.putfield 50, 3) := by decide +kernel
theorem dX6_clear_32 : decode cX6_clear 32 = .ok (.aload_n 0, 1) := by decide +kernel
theorem dX6_clear_33 : decode cX6_clear 33 = .ok (.iconst 0, 1) := by decide +kernel
theorem dX6_clear_34 : decode cX6_clear 34 = .ok (.putfield 53, 3) := by decide +kernel
theorem dX6_clear_37 : decode cX6_clear 37 = .ok (.aload_n 0, 1) := by decide +kernel
theorem dX6_clear_38 : decode cX6_clear 38 = .ok (.iconst 0, 1) := by decide +kernel
theorem dX6_clear_39 : decode cX6_clear 39 = .ok (.putfield 56, 3) := by decide +kernel
theorem dX6_clear_42 : decode cX6_clear 42 = .ok (.aload_n 0, 1) := by decide +kernel
theorem dX6_clear_43 : decode cX6_clear 43 = .ok (.iconst 0, 1) := by decide +kernel
theorem dX6_clear_44 : decode cX6_clear 44 = .ok (.putfield 121, 3) := by decide +kernel
theorem dX6_clear_47 : decode cX6_clear 47 = .ok (.aload_n 0, 1) := by decide +kernel
theorem dX6_clear_48 : decode cX6_clear 48 = .ok (.getfield 26, 3) := by decide +kernel
theorem dX6_clear_51 : decode cX6_clear 51 = .ok (.iconst 0, 1) := by decide +kernel
theorem dX6_clear_52 : decode cX6_clear 52 = .ok (.iconst 0, 1) := by decide +kernel
theorem dX6_clear_53 : decode cX6_clear 53 = .ok (.iastore, 1) := by decide +kernel
theorem dX6_clear_54 : decode cX6_clear 54 = .ok (.aload_n 0, 1) := by decide +kernel
theorem dX6_clear_55 : decode cX6_clear 55 = .ok (.getfield 26, 3) := by decide +kernel
theorem dX6_clear_58 : decode cX6_clear 58 = .ok (.iconst 1, 1) := by decide +kernel
theorem dX6_clear_59 : decode cX6_clear 59 = .ok (.iconst 0, 1) := by decide +kernel
theorem dX6_clear_60 : decode cX6_clear 60 = .ok (.iastore, 1) := by decide +kernel
theorem dX6_clear_61 : decode cX6_clear 61 = .ok (.iload_n 1, 1) := by decide +kernel
theorem dX6_clear_62 : decode cX6_clear 62 = .ok (.ireturn, 1) := by decide +kernel
theorem dX6_letter_0 : decode cX6_letter 0 = .ok (.iload_n 1, 1) := by decide +kernel
theorem dX6_letter_1 : decode cX6_letter 1 = .ok (.iconst 0, 1) := by decide +kernel
theorem dX6_letter_2 : decode cX6_letter 2 = .ok (.aload_n 0, 1) := by decide +kernel
theorem dX6_letter_3 : decode cX6_letter 3 = .ok (.getfield 50, 3) := by decide +kernel
theorem dX6_letter_6 : decode cX6_letter 6 = .ok (.iconst 1, 1) := by decide +kernel
theorem dX6_letter_7 : decode cX6_letter 7 = .ok (.isub, 1) := by decide +kernel
theorem dX6_letter_8 : decode cX6_letter 8 = .ok (.invokestatic 63, 3) := by decide +kernel
theorem dX6_letter_11 : decode cX6_letter 11 = .ok (.ifCond .eq 22, 3) := by decide +kernel
theorem dX6_letter_14 : decode cX6_letter 14 = .ok (.iload_n 2, 1) := by decide +kernel
theorem dX6_letter_15 : decode cX6_letter 15 = .ok (.iconst 0, 1) := by decide +kernel
theorem dX6_letter_16 : decode cX6_letter 16 = .ok (.bipush 6, 2) := by decide +kernel
theorem dX6_letter_18 : decode cX6_letter 18 = .ok (.invokestatic 63, 3) := by decide +kernel
theorem dX6_letter_21 : decode cX6_letter 21 = .ok (.ifCond .eq 12, 3) := by decide +kernel
theorem dX6_letter_24 : decode cX6_letter 24 = .ok (.aload_n 0, 1) := by decide +kernel
theorem dX6_letter_25 : decode cX6_letter 25 = .ok (.iload_n 1, 1) := by decide +kernel
theorem dX6_letter_26 : decode cX6_letter 26 = .ok (.iload_n 2, 1) := by decide +kernel
theorem dX6_letter_27 : decode cX6_letter 27 = .ok (.invokevirtual 70, 3) := by decide +kernel
theorem dX6_letter_30 : decode cX6_letter 30 = .ok (.goto 4, 3) := by decide +kernel
theorem dX6_letter_33 : decode cX6_letter 33 = .ok (.iconst (-1), 1) := by decide +kernel
theorem dX6_letter_34 : decode cX6_letter 34 = .ok (.ireturn, 1) := by decide +kernel
theorem dX6_line_0 : decode cX6_line 0 = .ok (.iload_n 1, 1) := by decide +kernel
theorem dX6_line_1 : decode cX6_line 1 = .ok (.invokestatic 74, 3) := by decide +kernel
theorem dX6_line_4 : decode cX6_line 4 = .ok (.ifCond .eq 11, 3) := by decide +kernel
theorem dX6_line_7 : decode cX6_line 7 = .ok (.aload_n 0, 1) := by decide +kernel
theorem dX6_line_8 : decode cX6_line 8 = .ok (.iload_n 1, 1) := by decide +kernel
theorem dX6_line_9 : decode cX6_line 9 = .ok (.invokevirtual 78, 3) := by decide +kernel
theorem dX6_line_12 : decode cX6_line 12 = .ok (.goto 4, 3) := by decide +kernel
theorem dX6_line_15 : decode cX6_line 15 = .ok (.iconst (-1), 1) := by decide +kernel
theorem dX6_line_16 : decode cX6_line 16 = .ok (.ireturn, 1) := by decide +kernel
theorem dX6_queue_0 : decode cX6_queue 0 = .ok (.iload_n 1, 1) := by decide +kernel
theorem dX6_queue_1 : decode cX6_queue 1 = .ok (.invokestatic 74, 3) := by decide +kernel
theorem dX6_queue_4 : decode cX6_queue 4 = .ok (.ifCond .eq 16, 3) := by decide +kernel
theorem dX6_queue_7 : decode cX6_queue 7 = .ok (.iload_n 2, 1) := by decide +kernel
theorem dX6_queue_8 : decode cX6_queue 8 = .ok (.ifCond .lt 12, 3) := by decide +kernel
theorem dX6_queue_11 : decode cX6_queue 11 = .ok (.aload_n 0, 1) := by decide +kernel
theorem dX6_queue_12 : decode cX6_queue 12 = .ok (.iload_n 1, 1) := by decide +kernel
theorem dX6_queue_13 : decode cX6_queue 13 = .ok (.iload_n 2, 1) := by decide +kernel
theorem dX6_queue_14 : decode cX6_queue 14 = .ok (.invokevirtual 111, 3) := by decide +kernel
theorem dX6_queue_17 : decode cX6_queue 17 = .ok (.goto 4, 3) := by decide +kernel
theorem dX6_queue_20 : decode cX6_queue 20 = .ok (.iconst (-1), 1) := by decide +kernel
theorem dX6_queue_21 : decode cX6_queue 21 = .ok (.ireturn, 1) := by decide +kernel
theorem dX6_turned_0 : decode cX6_turned 0 = .ok (.iload_n 1, 1) := by decide +kernel
theorem dX6_turned_1 : decode cX6_turned 1 = .ok (.ifCond .ge 5, 3) := by decide +kernel
theorem dX6_turned_4 : decode cX6_turned 4 = .ok (.iconst (-1), 1) := by decide +kernel
theorem dX6_turned_5 : decode cX6_turned 5 = .ok (.ireturn, 1) := by decide +kernel
theorem dX6_turned_6 : decode cX6_turned 6 = .ok (.iconst 0, 1) := by decide +kernel
theorem dX6_turned_7 : decode cX6_turned 7 = .ok (.istore_n 2, 1) := by decide +kernel
theorem dX6_turned_8 : decode cX6_turned 8 = .ok (.iload_n 2, 1) := by decide +kernel
theorem dX6_turned_9 : decode cX6_turned 9 = .ok (.aload_n 0, 1) := by decide +kernel
theorem dX6_turned_10 : decode cX6_turned 10 = .ok (.getfield 50, 3) := by decide +kernel
theorem dX6_turned_13 : decode cX6_turned 13 = .ok (.if_icmp .ge 81, 3) := by decide +kernel
theorem dX6_turned_16 : decode cX6_turned 16 = .ok (.aload_n 0, 1) := by decide +kernel
theorem dX6_turned_17 : decode cX6_turned 17 = .ok (.iload_n 2, 1) := by decide +kernel
theorem dX6_turned_18 : decode cX6_turned 18 = .ok (.iconst 0, 1) := by decide +kernel
theorem dX6_turned_19 : decode cX6_turned 19 = .ok (.invokevirtual 70, 3) := by decide +kernel
theorem dX6_turned_22 : decode cX6_turned 22 = .ok (.iconst 1, 1) := by decide +kernel
theorem dX6_turned_23 : decode cX6_turned 23 = .ok (.if_icmp .ne 65, 3) := by decide +kernel
theorem dX6_turned_26 : decode cX6_turned 26 = .ok (.iconst 0, 1) := by decide +kernel
theorem dX6_turned_27 : decode cX6_turned 27 = .ok (.istore_n 3, 1) := by decide +kernel
theorem dX6_turned_28 : decode cX6_turned 28 = .ok (.iconst 0, 1) := by decide +kernel
theorem dX6_turned_29 : decode cX6_turned 29 = .ok (.istore 4, 2) := by decide +kernel
theorem dX6_turned_31 : decode cX6_turned 31 = .ok (.iload 4, 2) := by decide +kernel
theorem dX6_turned_33 : decode cX6_turned 33 = .ok (.aload_n 0, 1) := by decide +kernel
theorem dX6_turned_34 : decode cX6_turned 34 = .ok (.getfield 50, 3) := by decide +kernel
theorem dX6_turned_37 : decode cX6_turned 37 = .ok (.if_icmp .ge 44, 3) := by decide +kernel
theorem dX6_turned_40 : decode cX6_turned 40 = .ok (.iload_n 3, 1) := by decide +kernel
theorem dX6_turned_41 : decode cX6_turned 41 = .ok (.iload 4, 2) := by decide +kernel
theorem dX6_turned_43 : decode cX6_turned 43 = .ok (.iload_n 2, 1) := by decide +kernel
theorem dX6_turned_44 : decode cX6_turned 44 = .ok (.if_icmp .eq 28, 3) := by decide +kernel
theorem dX6_turned_47 : decode cX6_turned 47 = .ok (.aload_n 0, 1) := by decide +kernel
theorem dX6_turned_48 : decode cX6_turned 48 = .ok (.iload 4, 2) := by decide +kernel
theorem dX6_turned_50 : decode cX6_turned 50 = .ok (.iconst 0, 1) := by decide +kernel
theorem dX6_turned_51 : decode cX6_turned 51 = .ok (.invokevirtual 70, 3) := by decide +kernel
theorem dX6_turned_54 : decode cX6_turned 54 = .ok (.iconst 1, 1) := by decide +kernel
theorem dX6_turned_55 : decode cX6_turned 55 = .ok (.if_icmp .ne 17, 3) := by decide +kernel
theorem dX6_turned_58 : decode cX6_turned 58 = .ok (.aload_n 0, 1) := by decide +kernel
theorem dX6_turned_59 : decode cX6_turned 59 = .ok (.iload 4, 2) := by decide +kernel
theorem dX6_turned_61 : decode cX6_turned 61 = .ok (.iload_n 2, 1) := by decide +kernel
theorem dX6_turned_62 : decode cX6_turned 62 = .ok (.invokevirtual 86, 3) := by decide +kernel
theorem dX6_turned_65 : decode cX6_turned 65 = .ok (.ifCond .eq 7, 3) := by decide +kernel
theorem dX6_turned_68 : decode cX6_turned 68 = .ok (.iconst 1, 1) := by decide +kernel
theorem dX6_turned_69 : decode cX6_turned 69 = .ok (.goto 4, 3) := by decide +kernel
theorem dX6_turned_72 : decode cX6_turned 72 = .ok (.iconst 0, 1) := by decide +kernel
theorem dX6_turned_73 : decode cX6_turned 73 = .ok (.iadd, 1) := by decide +kernel
theorem dX6_turned_74 : decode cX6_turned 74 = .ok (.istore_n 3, 1) := by decide +kernel
theorem dX6_turned_75 : decode cX6_turned 75 = .ok (.iinc 4 1, 3) := by decide +kernel
theorem dX6_turned_78 : decode cX6_turned 78 = .ok (.goto (-47), 3) := by decide +kernel
theorem dX6_turned_81 : decode cX6_turned 81 = .ok (.iload_n 3, 1) := by decide +kernel
theorem dX6_turned_82 : decode cX6_turned 82 = .ok (.iload_n 1, 1) := by decide +kernel
theorem dX6_turned_83 : decode cX6_turned 83 = .ok (.if_icmp .ne 5, 3) := by decide +kernel
theorem dX6_turned_86 : decode cX6_turned 86 = .ok (.iload_n 2, 1) := by decide +kernel
theorem dX6_turned_87 : decode cX6_turned 87 = .ok (.ireturn, 1) := by decide +kernel
theorem dX6_turned_88 : decode cX6_turned 88 = .ok (.iinc 2 1, 3) := by decide +kernel
theorem dX6_turned_91 : decode cX6_turned 91 = .ok (.goto (-83), 3) := by decide +kernel
theorem dX6_turned_94 : decode cX6_turned 94 = .ok (.bipush (-9), 2) := by decide +kernel
theorem dX6_turned_96 : decode cX6_turned 96 = .ok (.ireturn, 1) := by decide +kernel
theorem dX6_sorted_0 : decode cX6_sorted 0 = .ok (.iload_n 1, 1) := by decide +kernel
theorem dX6_sorted_1 : decode cX6_sorted 1 = .ok (.ifCond .ge 5, 3) := by decide +kernel
theorem dX6_sorted_4 : decode cX6_sorted 4 = .ok (.iconst (-1), 1) := by decide +kernel
theorem dX6_sorted_5 : decode cX6_sorted 5 = .ok (.ireturn, 1) := by decide +kernel
theorem dX6_sorted_6 : decode cX6_sorted 6 = .ok (.aload_n 0, 1) := by decide +kernel
theorem dX6_sorted_7 : decode cX6_sorted 7 = .ok (.invokevirtual 102, 3) := by decide +kernel
theorem dX6_sorted_10 : decode cX6_sorted 10 = .ok (.iload_n 1, 1) := by decide +kernel
theorem dX6_sorted_11 : decode cX6_sorted 11 = .ok (.aload_n 0, 1) := by decide +kernel
theorem dX6_sorted_12 : decode cX6_sorted 12 = .ok (.getfield 90, 3) := by decide +kernel
theorem dX6_sorted_15 : decode cX6_sorted 15 = .ok (.if_icmp .ge 12, 3) := by decide +kernel
theorem dX6_sorted_18 : decode cX6_sorted 18 = .ok (.aload_n 0, 1) := by decide +kernel
theorem dX6_sorted_19 : decode cX6_sorted 19 = .ok (.getfield 29, 3) := by decide +kernel
theorem dX6_sorted_22 : decode cX6_sorted 22 = .ok (.iload_n 1, 1) := by decide +kernel
theorem dX6_sorted_23 : decode cX6_sorted 23 = .ok (.iaload, 1) := by decide +kernel
theorem dX6_sorted_24 : decode cX6_sorted 24 = .ok (.goto 5, 3) := by decide +kernel
theorem dX6_sorted_27 : decode cX6_sorted 27 = .ok (.bipush (-9), 2) := by decide +kernel
theorem dX6_sorted_29 : decode cX6_sorted 29 = .ok (.ireturn, 1) := by decide +kernel
theorem dX6_setStraight_0 : decode cX6_setStraight 0 = .ok (.iconst 0, 1) := by decide +kernel
theorem dX6_setStraight_1 : decode cX6_setStraight 1 = .ok (.istore_n 1, 1) := by decide +kernel
theorem dX6_setStraight_2 : decode cX6_setStraight 2 = .ok (.iload_n 1, 1) := by decide +kernel
theorem dX6_setStraight_3 : decode cX6_setStraight 3 = .ok (.bipush 8, 2) := by decide +kernel
theorem dX6_setStraight_5 : decode cX6_setStraight 5 = .ok (.if_icmp .ge 37, 3) := by decide +kernel
theorem dX6_setStraight_8 : decode cX6_setStraight 8 = .ok (.aload_n 0, 1) := by decide +kernel
theorem dX6_setStraight_9 : decode cX6_setStraight 9 = .ok (.getfield 35, 3) := by decide +kernel
theorem dX6_setStraight_12 : decode cX6_setStraight 12 = .ok (.iload_n 1, 1) := by decide +kernel
theorem dX6_setStraight_13 : decode cX6_setStraight 13 = .ok (.iload_n 1, 1) := by decide +kernel
theorem dX6_setStraight_14 : decode cX6_setStraight 14 = .ok (.iastore, 1) := by decide +kernel
theorem dX6_setStraight_15 : decode cX6_setStraight 15 = .ok (.aload_n 0, 1) := by decide +kernel
theorem dX6_setStraight_16 : decode cX6_setStraight 16 = .ok (.getfield 38, 3) := by decide +kernel
theorem dX6_setStraight_19 : decode cX6_setStraight 19 = .ok (.iload_n 1, 1) := by decide +kernel
theorem dX6_setStraight_20 : decode cX6_setStraight 20 = .ok (.aload_n 0, 1) := by decide +kernel
theorem dX6_setStraight_21 : decode cX6_setStraight 21 = .ok (.iload_n 1, 1) := by decide +kernel
theorem dX6_setStraight_22 : decode cX6_setStraight 22 = .ok (.invokevirtual 78, 3) := by decide +kernel
theorem dX6_setStraight_25 : decode cX6_setStraight 25 = .ok (.bipush (-9), 2) := by decide +kernel
theorem dX6_setStraight_27 : decode cX6_setStraight 27 = .ok (.if_icmp .ne 7, 3) := by decide +kernel
theorem dX6_setStraight_30 : decode cX6_setStraight 30 = .ok (.iconst 5, 1) := by decide +kernel
theorem dX6_setStraight_31 : decode cX6_setStraight 31 = .ok (.goto 4, 3) := by decide +kernel
theorem dX6_setStraight_34 : decode cX6_setStraight 34 = .ok (.iconst 0, 1) := by decide +kernel
theorem dX6_setStraight_35 : decode cX6_setStraight 35 = .ok (.iastore, 1) := by decide +kernel
theorem dX6_setStraight_36 : decode cX6_setStraight 36 = .ok (.iinc 1 1, 3) := by decide +kernel
theorem dX6_setStraight_39 : decode cX6_setStraight 39 = .ok (.goto (-37), 3) := by decide +kernel
theorem dX6_setStraight_42 : decode cX6_setStraight 42 = .ok (.iconst 1, 1) := by decide +kernel
theorem dX6_setStraight_43 : decode cX6_setStraight 43 = .ok (.istore_n 1, 1) := by decide +kernel
theorem dX6_setStraight_44 : decode cX6_setStraight 44 = .ok (.iload_n 1, 1) := by decide +kernel
theorem dX6_setStraight_45 : decode cX6_setStraight 45 = .ok (.iconst 3, 1) := by decide +kernel
theorem dX6_setStraight_46 : decode cX6_setStraight 46 = .ok (.if_icmp .gt 123, 3) := by decide +kernel
theorem dX6_setStraight_49 : decode cX6_setStraight 49 = .ok (.bipush 8, 2) := by decide +kernel
theorem dX6_setStraight_51 : decode cX6_setStraight 51 = .ok (.iload_n 1, 1) := by decide +kernel
theorem dX6_setStraight_52 : decode cX6_setStraight 52 = .ok (.ishr, 1) := by decide +kernel
theorem dX6_setStraight_53 : decode cX6_setStraight 53 = .ok (.istore_n 2, 1) := by decide +kernel
theorem dX6_setStraight_54 : decode cX6_setStraight 54 = .ok (.iconst 0, 1) := by decide +kernel
theorem dX6_setStraight_55 : decode cX6_setStraight 55 = .ok (.istore_n 3, 1) := by decide +kernel
theorem dX6_setStraight_56 : decode cX6_setStraight 56 = .ok (.iload_n 3, 1) := by decide +kernel
theorem dX6_setStraight_57 : decode cX6_setStraight 57 = .ok (.bipush 8, 2) := by decide +kernel
theorem dX6_setStraight_59 : decode cX6_setStraight 59 = .ok (.if_icmp .ge 104, 3) := by decide +kernel
theorem dX6_setStraight_62 : decode cX6_setStraight 62 = .ok (.aload_n 0, 1) := by decide +kernel
theorem dX6_setStraight_63 : decode cX6_setStraight 63 = .ok (.getfield 38, 3) := by decide +kernel
theorem dX6_setStraight_66 : decode cX6_setStraight 66 = .ok (.iload_n 3, 1) := by decide +kernel
theorem dX6_setStraight_67 : decode cX6_setStraight 67 = .ok (.iaload, 1) := by decide +kernel
theorem dX6_setStraight_68 : decode cX6_setStraight 68 = .ok (.ifCond .ne 89, 3) := by decide +kernel
theorem dX6_setStraight_71 : decode cX6_setStraight 71 = .ok (.aload_n 0, 1) := by decide +kernel
theorem dX6_setStraight_72 : decode cX6_setStraight 72 = .ok (.getfield 35, 3) := by decide +kernel
theorem dX6_setStraight_75 : decode cX6_setStraight 75 = .ok (.iload_n 3, 1) := by decide +kernel
theorem dX6_setStraight_76 : decode cX6_setStraight 76 = .ok (.aload_n 0, 1) := by decide +kernel
theorem dX6_setStraight_77 : decode cX6_setStraight 77 = .ok (.getfield 35, 3) := by decide +kernel
theorem dX6_setStraight_80 : decode cX6_setStraight 80 = .ok (.iload_n 3, 1) := by decide +kernel
theorem dX6_setStraight_81 : decode cX6_setStraight 81 = .ok (.iaload, 1) := by decide +kernel
theorem dX6_setStraight_82 : decode cX6_setStraight 82 = .ok (.iload_n 2, 1) := by decide +kernel
theorem dX6_setStraight_83 : decode cX6_setStraight 83 = .ok (.iconst (-1), 1) := by decide +kernel
theorem dX6_setStraight_84 : decode cX6_setStraight 84 = .ok (.ixor, 1) := by decide +kernel
theorem dX6_setStraight_85 : decode cX6_setStraight 85 = .ok (.iand, 1) := by decide +kernel
theorem dX6_setStraight_86 : decode cX6_setStraight 86 = .ok (.aload_n 0, 1) := by decide +kernel
theorem dX6_setStraight_87 : decode cX6_setStraight 87 = .ok (.aload_n 0, 1) := by decide +kernel
theorem dX6_setStraight_88 : decode cX6_setStraight 88 = .ok (.iload_n 3, 1) := by decide +kernel
theorem dX6_setStraight_89 : decode cX6_setStraight 89 = .ok (.invokevirtual 78, 3) := by decide +kernel
theorem dX6_setStraight_92 : decode cX6_setStraight 92 = .ok (.iconst 2, 1) := by decide +kernel
theorem dX6_setStraight_93 : decode cX6_setStraight 93 = .ok (.invokevirtual 70, 3) := by decide +kernel
theorem dX6_setStraight_96 : decode cX6_setStraight 96 = .ok (.iload_n 2, 1) := by decide +kernel
theorem dX6_setStraight_97 : decode cX6_setStraight 97 = .ok (.iand, 1) := by decide +kernel
theorem dX6_setStraight_98 : decode cX6_setStraight 98 = .ok (.ior, 1) := by decide +kernel
theorem dX6_setStraight_99 : decode cX6_setStraight 99 = .ok (.iastore, 1) := by decide +kernel
theorem dX6_setStraight_100 : decode cX6_setStraight 100 = .ok (.iconst 0, 1) := by decide +kernel
theorem dX6_setStraight_101 : decode cX6_setStraight 101 = .ok (.istore 4, 2) := by decide +kernel
theorem dX6_setStraight_103 : decode cX6_setStraight 103 = .ok (.iload 4, 2) := by decide +kernel
theorem dX6_setStraight_105 : decode cX6_setStraight 105 = .ok (.iload_n 3, 1) := by decide +kernel
theorem dX6_setStraight_106 : decode cX6_setStraight 106 = .ok (.if_icmp .ge 51, 3) := by decide +kernel
theorem dX6_setStraight_109 : decode cX6_setStraight 109 = .ok (.aload_n 0, 1) := by decide +kernel
theorem dX6_setStraight_110 : decode cX6_setStraight 110 = .ok (.getfield 38, 3) := by decide +kernel
theorem dX6_setStraight_113 : decode cX6_setStraight 113 = .ok (.iload_n 3, 1) := by decide +kernel
theorem dX6_setStraight_114 : decode cX6_setStraight 114 = .ok (.aload_n 0, 1) := by decide +kernel
theorem dX6_setStraight_115 : decode cX6_setStraight 115 = .ok (.getfield 38, 3) := by decide +kernel
theorem dX6_setStraight_118 : decode cX6_setStraight 118 = .ok (.iload 4, 2) := by decide +kernel
theorem dX6_setStraight_120 : decode cX6_setStraight 120 = .ok (.iaload, 1) := by decide +kernel
theorem dX6_setStraight_121 : decode cX6_setStraight 121 = .ok (.ifCond .ne 23, 3) := by decide +kernel
theorem dX6_setStraight_124 : decode cX6_setStraight 124 = .ok (.aload_n 0, 1) := by decide +kernel
theorem dX6_setStraight_125 : decode cX6_setStraight 125 = .ok (.getfield 35, 3) := by decide +kernel
theorem dX6_setStraight_128 : decode cX6_setStraight 128 = .ok (.iload 4, 2) := by decide +kernel
theorem dX6_setStraight_130 : decode cX6_setStraight 130 = .ok (.iaload, 1) := by decide +kernel
theorem dX6_setStraight_131 : decode cX6_setStraight 131 = .ok (.aload_n 0, 1) := by decide +kernel
theorem dX6_setStraight_132 : decode cX6_setStraight 132 = .ok (.getfield 35, 3) := by decide +kernel
theorem dX6_setStraight_135 : decode cX6_setStraight 135 = .ok (.iload_n 3, 1) := by decide +kernel
theorem dX6_setStraight_136 : decode cX6_setStraight 136 = .ok (.iaload, 1) := by decide +kernel
theorem dX6_setStraight_137 : decode cX6_setStraight 137 = .ok (.if_icmp .ne 7, 3) := by decide +kernel
theorem dX6_setStraight_140 : decode cX6_setStraight 140 = .ok (.iload_n 1, 1) := by decide +kernel
theorem dX6_setStraight_141 : decode cX6_setStraight 141 = .ok (.goto 9, 3) := by decide +kernel
theorem dX6_setStraight_144 : decode cX6_setStraight 144 = .ok (.aload_n 0, 1) := by decide +kernel
theorem dX6_setStraight_145 : decode cX6_setStraight 145 = .ok (.getfield 38, 3) := by decide +kernel
theorem dX6_setStraight_148 : decode cX6_setStraight 148 = .ok (.iload_n 3, 1) := by decide +kernel
theorem dX6_setStraight_149 : decode cX6_setStraight 149 = .ok (.iaload, 1) := by decide +kernel
theorem dX6_setStraight_150 : decode cX6_setStraight 150 = .ok (.iastore, 1) := by decide +kernel
theorem dX6_setStraight_151 : decode cX6_setStraight 151 = .ok (.iinc 4 1, 3) := by decide +kernel
theorem dX6_setStraight_154 : decode cX6_setStraight 154 = .ok (.goto (-51), 3) := by decide +kernel
theorem dX6_setStraight_157 : decode cX6_setStraight 157 = .ok (.iinc 3 1, 3) := by decide +kernel
theorem dX6_setStraight_160 : decode cX6_setStraight 160 = .ok (.goto (-104), 3) := by decide +kernel
theorem dX6_setStraight_163 : decode cX6_setStraight 163 = .ok (.iinc 1 1, 3) := by decide +kernel
theorem dX6_setStraight_166 : decode cX6_setStraight 166 = .ok (.goto (-122), 3) := by decide +kernel
theorem dX6_setStraight_169 : decode cX6_setStraight 169 = .ok (.return_, 1) := by decide +kernel
theorem dX6_straight_0 : decode cX6_straight 0 = .ok (.iload_n 1, 1) := by decide +kernel
theorem dX6_straight_1 : decode cX6_straight 1 = .ok (.invokestatic 74, 3) := by decide +kernel
theorem dX6_straight_4 : decode cX6_straight 4 = .ok (.ifCond .ne 5, 3) := by decide +kernel
theorem dX6_straight_7 : decode cX6_straight 7 = .ok (.iconst (-1), 1) := by decide +kernel
theorem dX6_straight_8 : decode cX6_straight 8 = .ok (.ireturn, 1) := by decide +kernel
theorem dX6_straight_9 : decode cX6_straight 9 = .ok (.aload_n 0, 1) := by decide +kernel
theorem dX6_straight_10 : decode cX6_straight 10 = .ok (.iload_n 1, 1) := by decide +kernel
theorem dX6_straight_11 : decode cX6_straight 11 = .ok (.invokevirtual 78, 3) := by decide +kernel
theorem dX6_straight_14 : decode cX6_straight 14 = .ok (.bipush (-9), 2) := by decide +kernel
theorem dX6_straight_16 : decode cX6_straight 16 = .ok (.if_icmp .ne 6, 3) := by decide +kernel
theorem dX6_straight_19 : decode cX6_straight 19 = .ok (.bipush (-2), 2) := by decide +kernel
theorem dX6_straight_21 : decode cX6_straight 21 = .ok (.ireturn, 1) := by decide +kernel
theorem dX6_straight_22 : decode cX6_straight 22 = .ok (.aload_n 0, 1) := by decide +kernel
theorem dX6_straight_23 : decode cX6_straight 23 = .ok (.invokevirtual 124, 3) := by decide +kernel
theorem dX6_straight_26 : decode cX6_straight 26 = .ok (.aload_n 0, 1) := by decide +kernel
theorem dX6_straight_27 : decode cX6_straight 27 = .ok (.getfield 38, 3) := by decide +kernel
theorem dX6_straight_30 : decode cX6_straight 30 = .ok (.iload_n 1, 1) := by decide +kernel
theorem dX6_straight_31 : decode cX6_straight 31 = .ok (.iaload, 1) := by decide +kernel
theorem dX6_straight_32 : decode cX6_straight 32 = .ok (.ireturn, 1) := by decide +kernel
theorem dX6_isOver_0 : decode cX6_isOver 0 = .ok (.aload_n 0, 1) := by decide +kernel
theorem dX6_isOver_1 : decode cX6_isOver 1 = .ok (.iconst 0, 1) := by decide +kernel
theorem dX6_isOver_2 : decode cX6_isOver 2 = .ok (.invokevirtual 99, 3) := by decide +kernel
theorem dX6_isOver_5 : decode cX6_isOver 5 = .ok (.aload_n 0, 1) := by decide +kernel
theorem dX6_isOver_6 : decode cX6_isOver 6 = .ok (.iconst 1, 1) := by decide +kernel
theorem dX6_isOver_7 : decode cX6_isOver 7 = .ok (.invokevirtual 99, 3) := by decide +kernel
theorem dX6_isOver_10 : decode cX6_isOver 10 = .ok (.iadd, 1) := by decide +kernel
theorem dX6_isOver_11 : decode cX6_isOver 11 = .ok (.aload_n 0, 1) := by decide +kernel
theorem dX6_isOver_12 : decode cX6_isOver 12 = .ok (.iconst 2, 1) := by decide +kernel
theorem dX6_isOver_13 : decode cX6_isOver 13 = .ok (.invokevirtual 99, 3) := by decide +kernel
theorem dX6_isOver_16 : decode cX6_isOver 16 = .ok (.iadd, 1) := by decide +kernel
theorem dX6_isOver_17 : decode cX6_isOver 17 = .ok (.ifCond .ne 7, 3) := by decide +kernel
theorem dX6_isOver_20 : decode cX6_isOver 20 = .ok (.iconst 1, 1) := by decide +kernel
theorem dX6_isOver_21 : decode cX6_isOver 21 = .ok (.goto 4, 3) := by decide +kernel
theorem dX6_isOver_24 : decode cX6_isOver 24 = .ok (.iconst 0, 1) := by decide +kernel
theorem dX6_isOver_25 : decode cX6_isOver 25 = .ok (.ireturn, 1) := by decide +kernel
theorem dX6_drain_0 : decode cX6_drain 0 = .ok (.aload_n 0, 1) := by decide +kernel
theorem dX6_drain_1 : decode cX6_drain 1 = .ok (.bipush 12, 2) := by decide +kernel
theorem dX6_drain_3 : decode cX6_drain 3 = .ok (.invokevirtual 59, 3) := by decide +kernel
theorem dX6_drain_6 : decode cX6_drain 6 = .ok (.iconst 0, 1) := by decide +kernel
theorem dX6_drain_7 : decode cX6_drain 7 = .ok (.istore_n 1, 1) := by decide +kernel
theorem dX6_drain_8 : decode cX6_drain 8 = .ok (.iload_n 1, 1) := by decide +kernel
theorem dX6_drain_9 : decode cX6_drain 9 = .ok (.bipush 99, 2) := by decide +kernel
theorem dX6_drain_11 : decode cX6_drain 11 = .ok (.if_icmp .ge 21, 3) := by decide +kernel
theorem dX6_drain_14 : decode cX6_drain 14 = .ok (.aload_n 0, 1) := by decide +kernel
theorem dX6_drain_15 : decode cX6_drain 15 = .ok (.invokevirtual 127, 3) := by decide +kernel
theorem dX6_drain_18 : decode cX6_drain 18 = .ok (.ifCond .ne 14, 3) := by decide +kernel
theorem dX6_drain_21 : decode cX6_drain 21 = .ok (.aload_n 0, 1) := by decide +kernel
theorem dX6_drain_22 : decode cX6_drain 22 = .ok (.invokevirtual 114, 3) := by decide +kernel
theorem dX6_drain_25 : decode cX6_drain 25 = .ok (.pop, 1) := by decide +kernel
theorem dX6_drain_26 : decode cX6_drain 26 = .ok (.iinc 1 1, 3) := by decide +kernel
theorem dX6_drain_29 : decode cX6_drain 29 = .ok (.goto (-21), 3) := by decide +kernel
theorem dX6_drain_32 : decode cX6_drain 32 = .ok (.aload_n 0, 1) := by decide +kernel
theorem dX6_drain_33 : decode cX6_drain 33 = .ok (.invokevirtual 127, 3) := by decide +kernel
theorem dX6_drain_36 : decode cX6_drain 36 = .ok (.ifCond .eq 7, 3) := by decide +kernel
theorem dX6_drain_39 : decode cX6_drain 39 = .ok (.iload_n 1, 1) := by decide +kernel
theorem dX6_drain_40 : decode cX6_drain 40 = .ok (.goto 5, 3) := by decide +kernel
theorem dX6_drain_43 : decode cX6_drain 43 = .ok (.bipush (-9), 2) := by decide +kernel
theorem dX6_drain_45 : decode cX6_drain 45 = .ok (.istore_n 2, 1) := by decide +kernel
theorem dX6_drain_46 : decode cX6_drain 46 = .ok (.aload_n 0, 1) := by decide +kernel
theorem dX6_drain_47 : decode cX6_drain 47 = .ok (.bipush 12, 2) := by decide +kernel
theorem dX6_drain_49 : decode cX6_drain 49 = .ok (.invokevirtual 118, 3) := by decide +kernel
theorem dX6_drain_52 : decode cX6_drain 52 = .ok (.iload_n 2, 1) := by decide +kernel
theorem dX6_drain_53 : decode cX6_drain 53 = .ok (.ireturn, 1) := by decide +kernel
theorem dX6_lostBy_0 : decode cX6_lostBy 0 = .ok (.aload_n 0, 1) := by decide +kernel
theorem dX6_lostBy_1 : decode cX6_lostBy 1 = .ok (.bipush 12, 2) := by decide +kernel
theorem dX6_lostBy_3 : decode cX6_lostBy 3 = .ok (.invokevirtual 59, 3) := by decide +kernel
theorem dX6_lostBy_6 : decode cX6_lostBy 6 = .ok (.aload_n 0, 1) := by decide +kernel
theorem dX6_lostBy_7 : decode cX6_lostBy 7 = .ok (.iload_n 2, 1) := by decide +kernel
theorem dX6_lostBy_8 : decode cX6_lostBy 8 = .ok (.putfield 7, 3) := by decide +kernel
theorem dX6_lostBy_11 : decode cX6_lostBy 11 = .ok (.aload_n 0, 1) := by decide +kernel
theorem dX6_lostBy_12 : decode cX6_lostBy 12 = .ok (.iconst 4, 1) := by decide +kernel
theorem dX6_lostBy_13 : decode cX6_lostBy 13 = .ok (.invokevirtual 99, 3) := by decide +kernel
theorem dX6_lostBy_16 : decode cX6_lostBy 16 = .ok (.istore_n 3, 1) := by decide +kernel
theorem dX6_lostBy_17 : decode cX6_lostBy 17 = .ok (.iconst 0, 1) := by decide +kernel
theorem dX6_lostBy_18 : decode cX6_lostBy 18 = .ok (.istore 4, 2) := by decide +kernel
theorem dX6_lostBy_20 : decode cX6_lostBy 20 = .ok (.iload 4, 2) := by decide +kernel
theorem dX6_lostBy_22 : decode cX6_lostBy 22 = .ok (.iload_n 1, 1) := by decide +kernel
theorem dX6_lostBy_23 : decode cX6_lostBy 23 = .ok (.if_icmp .ge 14, 3) := by decide +kernel
theorem dX6_lostBy_26 : decode cX6_lostBy 26 = .ok (.aload_n 0, 1) := by decide +kernel
theorem dX6_lostBy_27 : decode cX6_lostBy 27 = .ok (.invokevirtual 114, 3) := by decide +kernel
theorem dX6_lostBy_30 : decode cX6_lostBy 30 = .ok (.pop, 1) := by decide +kernel
theorem dX6_lostBy_31 : decode cX6_lostBy 31 = .ok (.iinc 4 1, 3) := by decide +kernel
theorem dX6_lostBy_34 : decode cX6_lostBy 34 = .ok (.goto (-14), 3) := by decide +kernel
theorem dX6_lostBy_37 : decode cX6_lostBy 37 = .ok (.aload_n 0, 1) := by decide +kernel
theorem dX6_lostBy_38 : decode cX6_lostBy 38 = .ok (.iconst 4, 1) := by decide +kernel
theorem dX6_lostBy_39 : decode cX6_lostBy 39 = .ok (.invokevirtual 99, 3) := by decide +kernel
theorem dX6_lostBy_42 : decode cX6_lostBy 42 = .ok (.iload_n 3, 1) := by decide +kernel
theorem dX6_lostBy_43 : decode cX6_lostBy 43 = .ok (.isub, 1) := by decide +kernel
theorem dX6_lostBy_44 : decode cX6_lostBy 44 = .ok (.istore 4, 2) := by decide +kernel
theorem dX6_lostBy_46 : decode cX6_lostBy 46 = .ok (.aload_n 0, 1) := by decide +kernel
theorem dX6_lostBy_47 : decode cX6_lostBy 47 = .ok (.bipush 12, 2) := by decide +kernel
theorem dX6_lostBy_49 : decode cX6_lostBy 49 = .ok (.invokevirtual 118, 3) := by decide +kernel
theorem dX6_lostBy_52 : decode cX6_lostBy 52 = .ok (.iload 4, 2) := by decide +kernel
theorem dX6_lostBy_54 : decode cX6_lostBy 54 = .ok (.ireturn, 1) := by decide +kernel
theorem dX6_lost_0 : decode cX6_lost 0 = .ok (.iload_n 1, 1) := by decide +kernel
theorem dX6_lost_1 : decode cX6_lost 1 = .ok (.iconst 0, 1) := by decide +kernel
theorem dX6_lost_2 : decode cX6_lost 2 = .ok (.bipush 40, 2) := by decide +kernel
theorem dX6_lost_4 : decode cX6_lost 4 = .ok (.invokestatic 63, 3) := by decide +kernel
theorem dX6_lost_7 : decode cX6_lost 7 = .ok (.ifCond .eq 15, 3) := by decide +kernel
theorem dX6_lost_10 : decode cX6_lost 10 = .ok (.aload_n 0, 1) := by decide +kernel
theorem dX6_lost_11 : decode cX6_lost 11 = .ok (.iload_n 1, 1) := by decide +kernel
theorem dX6_lost_12 : decode cX6_lost 12 = .ok (.aload_n 0, 1) := by decide +kernel
theorem dX6_lost_13 : decode cX6_lost 13 = .ok (.getfield 7, 3) := by decide +kernel
theorem dX6_lost_16 : decode cX6_lost 16 = .ok (.invokevirtual 131, 3) := by decide +kernel
theorem dX6_lost_19 : decode cX6_lost 19 = .ok (.goto 4, 3) := by decide +kernel
theorem dX6_lost_22 : decode cX6_lost 22 = .ok (.iconst (-1), 1) := by decide +kernel
theorem dX6_lost_23 : decode cX6_lost 23 = .ok (.ireturn, 1) := by decide +kernel
theorem dX6_fewest_0 : decode cX6_fewest 0 = .ok (.iload_n 1, 1) := by decide +kernel
theorem dX6_fewest_1 : decode cX6_fewest 1 = .ok (.iconst 0, 1) := by decide +kernel
theorem dX6_fewest_2 : decode cX6_fewest 2 = .ok (.bipush 40, 2) := by decide +kernel
theorem dX6_fewest_4 : decode cX6_fewest 4 = .ok (.invokestatic 63, 3) := by decide +kernel
theorem dX6_fewest_7 : decode cX6_fewest 7 = .ok (.ifCond .ne 5, 3) := by decide +kernel
theorem dX6_fewest_10 : decode cX6_fewest 10 = .ok (.iconst (-1), 1) := by decide +kernel
theorem dX6_fewest_11 : decode cX6_fewest 11 = .ok (.ireturn, 1) := by decide +kernel
theorem dX6_fewest_12 : decode cX6_fewest 12 = .ok (.iconst 1, 1) := by decide +kernel
theorem dX6_fewest_13 : decode cX6_fewest 13 = .ok (.istore_n 2, 1) := by decide +kernel
theorem dX6_fewest_14 : decode cX6_fewest 14 = .ok (.iload_n 2, 1) := by decide +kernel
theorem dX6_fewest_15 : decode cX6_fewest 15 = .ok (.iconst 3, 1) := by decide +kernel
theorem dX6_fewest_16 : decode cX6_fewest 16 = .ok (.if_icmp .gt 20, 3) := by decide +kernel
theorem dX6_fewest_19 : decode cX6_fewest 19 = .ok (.aload_n 0, 1) := by decide +kernel
theorem dX6_fewest_20 : decode cX6_fewest 20 = .ok (.iload_n 1, 1) := by decide +kernel
theorem dX6_fewest_21 : decode cX6_fewest 21 = .ok (.iload_n 2, 1) := by decide +kernel
theorem dX6_fewest_22 : decode cX6_fewest 22 = .ok (.invokevirtual 131, 3) := by decide +kernel
theorem dX6_fewest_25 : decode cX6_fewest 25 = .ok (.ifCond .ne 5, 3) := by decide +kernel
theorem dX6_fewest_28 : decode cX6_fewest 28 = .ok (.iload_n 2, 1) := by decide +kernel
theorem dX6_fewest_29 : decode cX6_fewest 29 = .ok (.ireturn, 1) := by decide +kernel
theorem dX6_fewest_30 : decode cX6_fewest 30 = .ok (.iinc 2 1, 3) := by decide +kernel
theorem dX6_fewest_33 : decode cX6_fewest 33 = .ok (.goto (-19), 3) := by decide +kernel
theorem dX6_fewest_36 : decode cX6_fewest 36 = .ok (.bipush (-9), 2) := by decide +kernel
theorem dX6_fewest_38 : decode cX6_fewest 38 = .ok (.ireturn, 1) := by decide +kernel
theorem dX6_power_0 : decode cX6_power 0 = .ok (.lconst 1, 1) := by decide +kernel
theorem dX6_power_1 : decode cX6_power 1 = .ok (.lstore_n 3, 1) := by decide +kernel
theorem dX6_power_2 : decode cX6_power 2 = .ok (.iconst 0, 1) := by decide +kernel
theorem dX6_power_3 : decode cX6_power 3 = .ok (.istore 5, 2) := by decide +kernel
theorem dX6_power_5 : decode cX6_power 5 = .ok (.iload 5, 2) := by decide +kernel
theorem dX6_power_7 : decode cX6_power 7 = .ok (.iload_n 2, 1) := by decide +kernel
theorem dX6_power_8 : decode cX6_power 8 = .ok (.if_icmp .ge 13, 3) := by decide +kernel
theorem dX6_power_11 : decode cX6_power 11 = .ok (.lload_n 3, 1) := by decide +kernel
theorem dX6_power_12 : decode cX6_power 12 = .ok (.lload_n 0, 1) := by decide +kernel
theorem dX6_power_13 : decode cX6_power 13 = .ok (.lmul, 1) := by decide +kernel
theorem dX6_power_14 : decode cX6_power 14 = .ok (.lstore_n 3, 1) := by decide +kernel
theorem dX6_power_15 : decode cX6_power 15 = .ok (.iinc 5 1, 3) := by decide +kernel
theorem dX6_power_18 : decode cX6_power 18 = .ok (.goto (-13), 3) := by decide +kernel
theorem dX6_power_21 : decode cX6_power 21 = .ok (.lload_n 3, 1) := by decide +kernel
theorem dX6_power_22 : decode cX6_power 22 = .ok (.lreturn, 1) := by decide +kernel
theorem dX6_ways_0 : decode cX6_ways 0 = .ok (.lconst 1, 1) := by decide +kernel
theorem dX6_ways_1 : decode cX6_ways 1 = .ok (.lstore_n 1, 1) := by decide +kernel
theorem dX6_ways_2 : decode cX6_ways 2 = .ok (.iconst 0, 1) := by decide +kernel
theorem dX6_ways_3 : decode cX6_ways 3 = .ok (.istore_n 3, 1) := by decide +kernel
theorem dX6_ways_4 : decode cX6_ways 4 = .ok (.iload_n 3, 1) := by decide +kernel
theorem dX6_ways_5 : decode cX6_ways 5 = .ok (.iload_n 0, 1) := by decide +kernel
theorem dX6_ways_6 : decode cX6_ways 6 = .ok (.if_icmp .ge 22, 3) := by decide +kernel
theorem dX6_ways_9 : decode cX6_ways 9 = .ok (.lload_n 1, 1) := by decide +kernel
theorem dX6_ways_10 : decode cX6_ways 10 = .ok (.bipush 8, 2) := by decide +kernel
theorem dX6_ways_12 : decode cX6_ways 12 = .ok (.iload_n 3, 1) := by decide +kernel
theorem dX6_ways_13 : decode cX6_ways 13 = .ok (.isub, 1) := by decide +kernel
theorem dX6_ways_14 : decode cX6_ways 14 = .ok (.i2l, 1) := by decide +kernel
theorem dX6_ways_15 : decode cX6_ways 15 = .ok (.lmul, 1) := by decide +kernel
theorem dX6_ways_16 : decode cX6_ways 16 = .ok (.iload_n 3, 1) := by decide +kernel
theorem dX6_ways_17 : decode cX6_ways 17 = .ok (.iconst 1, 1) := by decide +kernel
theorem dX6_ways_18 : decode cX6_ways 18 = .ok (.iadd, 1) := by decide +kernel
theorem dX6_ways_19 : decode cX6_ways 19 = .ok (.i2l, 1) := by decide +kernel
theorem dX6_ways_20 : decode cX6_ways 20 = .ok (.ldiv, 1) := by decide +kernel
theorem dX6_ways_21 : decode cX6_ways 21 = .ok (.lstore_n 1, 1) := by decide +kernel
theorem dX6_ways_22 : decode cX6_ways 22 = .ok (.iinc 3 1, 3) := by decide +kernel
theorem dX6_ways_25 : decode cX6_ways 25 = .ok (.goto (-21), 3) := by decide +kernel
theorem dX6_ways_28 : decode cX6_ways 28 = .ok (.lload_n 1, 1) := by decide +kernel
theorem dX6_ways_29 : decode cX6_ways 29 = .ok (.lreturn, 1) := by decide +kernel
theorem dX6_gcd_0 : decode cX6_gcd 0 = .ok (.lload_n 0, 1) := by decide +kernel
theorem dX6_gcd_1 : decode cX6_gcd 1 = .ok (.lstore 4, 2) := by decide +kernel
theorem dX6_gcd_3 : decode cX6_gcd 3 = .ok (.lload_n 2, 1) := by decide +kernel
theorem dX6_gcd_4 : decode cX6_gcd 4 = .ok (.lstore 6, 2) := by decide +kernel
theorem dX6_gcd_6 : decode cX6_gcd 6 = .ok (.lload 6, 2) := by decide +kernel
theorem dX6_gcd_8 : decode cX6_gcd 8 = .ok (.lconst 0, 1) := by decide +kernel
theorem dX6_gcd_9 : decode cX6_gcd 9 = .ok (.lcmp, 1) := by decide +kernel
theorem dX6_gcd_10 : decode cX6_gcd 10 = .ok (.ifCond .eq 21, 3) := by decide +kernel
theorem dX6_gcd_13 : decode cX6_gcd 13 = .ok (.lload 4, 2) := by decide +kernel
theorem dX6_gcd_15 : decode cX6_gcd 15 = .ok (.lload 6, 2) := by decide +kernel
theorem dX6_gcd_17 : decode cX6_gcd 17 = .ok (.lrem, 1) := by decide +kernel
theorem dX6_gcd_18 : decode cX6_gcd 18 = .ok (.lstore 8, 2) := by decide +kernel
theorem dX6_gcd_20 : decode cX6_gcd 20 = .ok (.lload 6, 2) := by decide +kernel
theorem dX6_gcd_22 : decode cX6_gcd 22 = .ok (.lstore 4, 2) := by decide +kernel
theorem dX6_gcd_24 : decode cX6_gcd 24 = .ok (.lload 8, 2) := by decide +kernel
theorem dX6_gcd_26 : decode cX6_gcd 26 = .ok (.lstore 6, 2) := by decide +kernel
theorem dX6_gcd_28 : decode cX6_gcd 28 = .ok (.goto (-22), 3) := by decide +kernel
theorem dX6_gcd_31 : decode cX6_gcd 31 = .ok (.lload 4, 2) := by decide +kernel
theorem dX6_gcd_33 : decode cX6_gcd 33 = .ok (.lreturn, 1) := by decide +kernel
theorem dX6_share_0 : decode cX6_share 0 = .ok (.iload_n 1, 1) := by decide +kernel
theorem dX6_share_1 : decode cX6_share 1 = .ok (.iconst 0, 1) := by decide +kernel
theorem dX6_share_2 : decode cX6_share 2 = .ok (.bipush 10, 2) := by decide +kernel
theorem dX6_share_4 : decode cX6_share 4 = .ok (.invokestatic 63, 3) := by decide +kernel
theorem dX6_share_7 : decode cX6_share 7 = .ok (.ifCond .eq 22, 3) := by decide +kernel
theorem dX6_share_10 : decode cX6_share 10 = .ok (.iload_n 2, 1) := by decide +kernel
theorem dX6_share_11 : decode cX6_share 11 = .ok (.iconst 0, 1) := by decide +kernel
theorem dX6_share_12 : decode cX6_share 12 = .ok (.bipush 8, 2) := by decide +kernel
theorem dX6_share_14 : decode cX6_share 14 = .ok (.invokestatic 63, 3) := by decide +kernel
theorem dX6_share_17 : decode cX6_share 17 = .ok (.ifCond .eq 12, 3) := by decide +kernel
theorem dX6_share_20 : decode cX6_share 20 = .ok (.iload_n 3, 1) := by decide +kernel
theorem dX6_share_21 : decode cX6_share 21 = .ok (.iconst 0, 1) := by decide +kernel
theorem dX6_share_22 : decode cX6_share 22 = .ok (.iconst 1, 1) := by decide +kernel
theorem dX6_share_23 : decode cX6_share 23 = .ok (.invokestatic 63, 3) := by decide +kernel
theorem dX6_share_26 : decode cX6_share 26 = .ok (.ifCond .ne 7, 3) := by decide +kernel
theorem dX6_share_29 : decode cX6_share 29 = .ok (.ldc2_w 134, 3) := by decide +kernel
theorem dX6_share_32 : decode cX6_share 32 = .ok (.lreturn, 1) := by decide +kernel
theorem dX6_share_33 : decode cX6_share 33 = .ok (.lconst 0, 1) := by decide +kernel
theorem dX6_share_34 : decode cX6_share 34 = .ok (.lstore 4, 2) := by decide +kernel
theorem dX6_share_36 : decode cX6_share 36 = .ok (.iload_n 2, 1) := by decide +kernel
theorem dX6_share_37 : decode cX6_share 37 = .ok (.iconst 1, 1) := by decide +kernel
theorem dX6_share_38 : decode cX6_share 38 = .ok (.iadd, 1) := by decide +kernel
theorem dX6_share_39 : decode cX6_share 39 = .ok (.istore 6, 2) := by decide +kernel
theorem dX6_share_41 : decode cX6_share 41 = .ok (.iload 6, 2) := by decide +kernel
theorem dX6_share_43 : decode cX6_share 43 = .ok (.bipush 8, 2) := by decide +kernel
theorem dX6_share_45 : decode cX6_share 45 = .ok (.if_icmp .gt 48, 3) := by decide +kernel
theorem dX6_share_48 : decode cX6_share 48 = .ok (.lload 4, 2) := by decide +kernel
theorem dX6_share_50 : decode cX6_share 50 = .ok (.iload 6, 2) := by decide +kernel
theorem dX6_share_52 : decode cX6_share 52 = .ok (.iload_n 2, 1) := by decide +kernel
theorem dX6_share_53 : decode cX6_share 53 = .ok (.isub, 1) := by decide +kernel
theorem dX6_share_54 : decode cX6_share 54 = .ok (.i2l, 1) := by decide +kernel
theorem dX6_share_55 : decode cX6_share 55 = .ok (.iload 6, 2) := by decide +kernel
theorem dX6_share_57 : decode cX6_share 57 = .ok (.invokestatic 136, 3) := by decide +kernel
theorem dX6_share_60 : decode cX6_share 60 = .ok (.lmul, 1) := by decide +kernel
theorem dX6_share_61 : decode cX6_share 61 = .ok (.iload_n 1, 1) := by decide +kernel
theorem dX6_share_62 : decode cX6_share 62 = .ok (.i2l, 1) := by decide +kernel
theorem dX6_share_63 : decode cX6_share 63 = .ok (.iload 6, 2) := by decide +kernel
theorem dX6_share_65 : decode cX6_share 65 = .ok (.invokestatic 140, 3) := by decide +kernel
theorem dX6_share_68 : decode cX6_share 68 = .ok (.lmul, 1) := by decide +kernel
theorem dX6_share_69 : decode cX6_share 69 = .ok (.ldc2_w 144, 3) := by decide +kernel
theorem dX6_share_72 : decode cX6_share 72 = .ok (.iload_n 1, 1) := by decide +kernel
theorem dX6_share_73 : decode cX6_share 73 = .ok (.i2l, 1) := by decide +kernel
theorem dX6_share_74 : decode cX6_share 74 = .ok (.lsub, 1) := by decide +kernel
theorem dX6_share_75 : decode cX6_share 75 = .ok (.bipush 8, 2) := by decide +kernel
theorem dX6_share_77 : decode cX6_share 77 = .ok (.iload 6, 2) := by decide +kernel
theorem dX6_share_79 : decode cX6_share 79 = .ok (.isub, 1) := by decide +kernel
theorem dX6_share_80 : decode cX6_share 80 = .ok (.invokestatic 140, 3) := by decide +kernel
theorem dX6_share_83 : decode cX6_share 83 = .ok (.lmul, 1) := by decide +kernel
theorem dX6_share_84 : decode cX6_share 84 = .ok (.ladd, 1) := by decide +kernel
theorem dX6_share_85 : decode cX6_share 85 = .ok (.lstore 4, 2) := by decide +kernel
theorem dX6_share_87 : decode cX6_share 87 = .ok (.iinc 6 1, 3) := by decide +kernel
theorem dX6_share_90 : decode cX6_share 90 = .ok (.goto (-49), 3) := by decide +kernel
theorem dX6_share_93 : decode cX6_share 93 = .ok (.ldc2_w 144, 3) := by decide +kernel
theorem dX6_share_96 : decode cX6_share 96 = .ok (.bipush 8, 2) := by decide +kernel
theorem dX6_share_98 : decode cX6_share 98 = .ok (.invokestatic 140, 3) := by decide +kernel
theorem dX6_share_101 : decode cX6_share 101 = .ok (.lstore 6, 2) := by decide +kernel
theorem dX6_share_103 : decode cX6_share 103 = .ok (.lload 4, 2) := by decide +kernel
theorem dX6_share_105 : decode cX6_share 105 = .ok (.lload 6, 2) := by decide +kernel
theorem dX6_share_107 : decode cX6_share 107 = .ok (.invokestatic 146, 3) := by decide +kernel
theorem dX6_share_110 : decode cX6_share 110 = .ok (.lstore 8, 2) := by decide +kernel
theorem dX6_share_112 : decode cX6_share 112 = .ok (.iload_n 3, 1) := by decide +kernel
theorem dX6_share_113 : decode cX6_share 113 = .ok (.ifCond .ne 11, 3) := by decide +kernel
theorem dX6_share_116 : decode cX6_share 116 = .ok (.lload 4, 2) := by decide +kernel
theorem dX6_share_118 : decode cX6_share 118 = .ok (.lload 8, 2) := by decide +kernel
theorem dX6_share_120 : decode cX6_share 120 = .ok (.ldiv, 1) := by decide +kernel
theorem dX6_share_121 : decode cX6_share 121 = .ok (.goto 8, 3) := by decide +kernel
theorem dX6_share_124 : decode cX6_share 124 = .ok (.lload 6, 2) := by decide +kernel
theorem dX6_share_126 : decode cX6_share 126 = .ok (.lload 8, 2) := by decide +kernel
theorem dX6_share_128 : decode cX6_share 128 = .ok (.ldiv, 1) := by decide +kernel
theorem dX6_share_129 : decode cX6_share 129 = .ok (.lreturn, 1) := by decide +kernel
theorem dX6_sees_0 : decode cX6_sees 0 = .ok (.iload_n 1, 1) := by decide +kernel
theorem dX6_sees_1 : decode cX6_sees 1 = .ok (.iconst 1, 1) := by decide +kernel
theorem dX6_sees_2 : decode cX6_sees 2 = .ok (.bipush 40, 2) := by decide +kernel
theorem dX6_sees_4 : decode cX6_sees 4 = .ok (.invokestatic 63, 3) := by decide +kernel
theorem dX6_sees_7 : decode cX6_sees 7 = .ok (.ifCond .eq 13, 3) := by decide +kernel
theorem dX6_sees_10 : decode cX6_sees 10 = .ok (.iload_n 2, 1) := by decide +kernel
theorem dX6_sees_11 : decode cX6_sees 11 = .ok (.iconst 0, 1) := by decide +kernel
theorem dX6_sees_12 : decode cX6_sees 12 = .ok (.bipush 64, 2) := by decide +kernel
theorem dX6_sees_14 : decode cX6_sees 14 = .ok (.invokestatic 63, 3) := by decide +kernel
theorem dX6_sees_17 : decode cX6_sees 17 = .ok (.ifCond .ne 5, 3) := by decide +kernel
theorem dX6_sees_20 : decode cX6_sees 20 = .ok (.iconst (-1), 1) := by decide +kernel
theorem dX6_sees_21 : decode cX6_sees 21 = .ok (.ireturn, 1) := by decide +kernel
theorem dX6_sees_22 : decode cX6_sees 22 = .ok (.aload_n 0, 1) := by decide +kernel
theorem dX6_sees_23 : decode cX6_sees 23 = .ok (.getfield 121, 3) := by decide +kernel
theorem dX6_sees_26 : decode cX6_sees 26 = .ok (.bipush 6, 2) := by decide +kernel
theorem dX6_sees_28 : decode cX6_sees 28 = .ok (.if_icmp .ne 6, 3) := by decide +kernel
theorem dX6_sees_31 : decode cX6_sees 31 = .ok (.bipush (-3), 2) := by decide +kernel
theorem dX6_sees_33 : decode cX6_sees 33 = .ok (.ireturn, 1) := by decide +kernel
theorem dX6_sees_34 : decode cX6_sees 34 = .ok (.aload_n 0, 1) := by decide +kernel
theorem dX6_sees_35 : decode cX6_sees 35 = .ok (.getfield 41, 3) := by decide +kernel
theorem dX6_sees_38 : decode cX6_sees 38 = .ok (.aload_n 0, 1) := by decide +kernel
theorem dX6_sees_39 : decode cX6_sees 39 = .ok (.getfield 121, 3) := by decide +kernel
theorem dX6_sees_42 : decode cX6_sees 42 = .ok (.iload_n 1, 1) := by decide +kernel
theorem dX6_sees_43 : decode cX6_sees 43 = .ok (.iastore, 1) := by decide +kernel
theorem dX6_sees_44 : decode cX6_sees 44 = .ok (.aload_n 0, 1) := by decide +kernel
theorem dX6_sees_45 : decode cX6_sees 45 = .ok (.getfield 44, 3) := by decide +kernel
theorem dX6_sees_48 : decode cX6_sees 48 = .ok (.aload_n 0, 1) := by decide +kernel
theorem dX6_sees_49 : decode cX6_sees 49 = .ok (.getfield 121, 3) := by decide +kernel
theorem dX6_sees_52 : decode cX6_sees 52 = .ok (.iload_n 2, 1) := by decide +kernel
theorem dX6_sees_53 : decode cX6_sees 53 = .ok (.iastore, 1) := by decide +kernel
theorem dX6_sees_54 : decode cX6_sees 54 = .ok (.aload_n 0, 1) := by decide +kernel
theorem dX6_sees_55 : decode cX6_sees 55 = .ok (.dup, 1) := by decide +kernel
theorem dX6_sees_56 : decode cX6_sees 56 = .ok (.getfield 121, 3) := by decide +kernel
theorem dX6_sees_59 : decode cX6_sees 59 = .ok (.iconst 1, 1) := by decide +kernel
theorem dX6_sees_60 : decode cX6_sees 60 = .ok (.iadd, 1) := by decide +kernel
theorem dX6_sees_61 : decode cX6_sees 61 = .ok (.putfield 121, 3) := by decide +kernel
theorem dX6_sees_64 : decode cX6_sees 64 = .ok (.aload_n 0, 1) := by decide +kernel
theorem dX6_sees_65 : decode cX6_sees 65 = .ok (.getfield 121, 3) := by decide +kernel
theorem dX6_sees_68 : decode cX6_sees 68 = .ok (.ireturn, 1) := by decide +kernel
theorem dX6_forget_0 : decode cX6_forget 0 = .ok (.aload_n 0, 1) := by decide +kernel
theorem dX6_forget_1 : decode cX6_forget 1 = .ok (.getfield 121, 3) := by decide +kernel
theorem dX6_forget_4 : decode cX6_forget 4 = .ok (.istore_n 1, 1) := by decide +kernel
theorem dX6_forget_5 : decode cX6_forget 5 = .ok (.aload_n 0, 1) := by decide +kernel
theorem dX6_forget_6 : decode cX6_forget 6 = .ok (.iconst 0, 1) := by decide +kernel
theorem dX6_forget_7 : decode cX6_forget 7 = .ok (.putfield 121, 3) := by decide +kernel
theorem dX6_forget_10 : decode cX6_forget 10 = .ok (.iload_n 1, 1) := by decide +kernel
theorem dX6_forget_11 : decode cX6_forget 11 = .ok (.ireturn, 1) := by decide +kernel
theorem dX6_outWithout_0 : decode cX6_outWithout 0 = .ok (.aload_n 0, 1) := by decide +kernel
theorem dX6_outWithout_1 : decode cX6_outWithout 1 = .ok (.bipush 12, 2) := by decide +kernel
theorem dX6_outWithout_3 : decode cX6_outWithout 3 = .ok (.invokevirtual 59, 3) := by decide +kernel
theorem dX6_outWithout_6 : decode cX6_outWithout 6 = .ok (.aload_n 0, 1) := by decide +kernel
theorem dX6_outWithout_7 : decode cX6_outWithout 7 = .ok (.iload_n 1, 1) := by decide +kernel
theorem dX6_outWithout_8 : decode cX6_outWithout 8 = .ok (.iconst 0, 1) := by decide +kernel
theorem dX6_outWithout_9 : decode cX6_outWithout 9 = .ok (.iconst 5, 1) := by decide +kernel
theorem dX6_outWithout_10 : decode cX6_outWithout 10 = .ok (.invokevirtual 82, 3) := by decide +kernel
theorem dX6_outWithout_13 : decode cX6_outWithout 13 = .ok (.iconst 0, 1) := by decide +kernel
theorem dX6_outWithout_14 : decode cX6_outWithout 14 = .ok (.istore_n 3, 1) := by decide +kernel
theorem dX6_outWithout_15 : decode cX6_outWithout 15 = .ok (.iconst 0, 1) := by decide +kernel
theorem dX6_outWithout_16 : decode cX6_outWithout 16 = .ok (.istore 4, 2) := by decide +kernel
theorem dX6_outWithout_18 : decode cX6_outWithout 18 = .ok (.iload 4, 2) := by decide +kernel
theorem dX6_outWithout_20 : decode cX6_outWithout 20 = .ok (.iload_n 2, 1) := by decide +kernel
theorem dX6_outWithout_21 : decode cX6_outWithout 21 = .ok (.if_icmp .ge 16, 3) := by decide +kernel
theorem dX6_outWithout_24 : decode cX6_outWithout 24 = .ok (.iload_n 3, 1) := by decide +kernel
theorem dX6_outWithout_25 : decode cX6_outWithout 25 = .ok (.aload_n 0, 1) := by decide +kernel
theorem dX6_outWithout_26 : decode cX6_outWithout 26 = .ok (.invokevirtual 114, 3) := by decide +kernel
theorem dX6_outWithout_29 : decode cX6_outWithout 29 = .ok (.iadd, 1) := by decide +kernel
theorem dX6_outWithout_30 : decode cX6_outWithout 30 = .ok (.istore_n 3, 1) := by decide +kernel
theorem dX6_outWithout_31 : decode cX6_outWithout 31 = .ok (.iinc 4 1, 3) := by decide +kernel
theorem dX6_outWithout_34 : decode cX6_outWithout 34 = .ok (.goto (-16), 3) := by decide +kernel
theorem dX6_outWithout_37 : decode cX6_outWithout 37 = .ok (.aload_n 0, 1) := by decide +kernel
theorem dX6_outWithout_38 : decode cX6_outWithout 38 = .ok (.bipush 12, 2) := by decide +kernel
theorem dX6_outWithout_40 : decode cX6_outWithout 40 = .ok (.invokevirtual 118, 3) := by decide +kernel
theorem dX6_outWithout_43 : decode cX6_outWithout 43 = .ok (.iload_n 3, 1) := by decide +kernel
theorem dX6_outWithout_44 : decode cX6_outWithout 44 = .ok (.ireturn, 1) := by decide +kernel
theorem dX6_unseen_0 : decode cX6_unseen 0 = .ok (.iconst 0, 1) := by decide +kernel
theorem dX6_unseen_1 : decode cX6_unseen 1 = .ok (.istore_n 1, 1) := by decide +kernel
theorem dX6_unseen_2 : decode cX6_unseen 2 = .ok (.iconst 0, 1) := by decide +kernel
theorem dX6_unseen_3 : decode cX6_unseen 3 = .ok (.istore_n 2, 1) := by decide +kernel
theorem dX6_unseen_4 : decode cX6_unseen 4 = .ok (.iload_n 2, 1) := by decide +kernel
theorem dX6_unseen_5 : decode cX6_unseen 5 = .ok (.bipush 8, 2) := by decide +kernel
theorem dX6_unseen_7 : decode cX6_unseen 7 = .ok (.if_icmp .ge 95, 3) := by decide +kernel
theorem dX6_unseen_10 : decode cX6_unseen 10 = .ok (.aload_n 0, 1) := by decide +kernel
theorem dX6_unseen_11 : decode cX6_unseen 11 = .ok (.iload_n 2, 1) := by decide +kernel
theorem dX6_unseen_12 : decode cX6_unseen 12 = .ok (.invokevirtual 78, 3) := by decide +kernel
theorem dX6_unseen_15 : decode cX6_unseen 15 = .ok (.istore_n 3, 1) := by decide +kernel
theorem dX6_unseen_16 : decode cX6_unseen 16 = .ok (.iload_n 3, 1) := by decide +kernel
theorem dX6_unseen_17 : decode cX6_unseen 17 = .ok (.bipush (-9), 2) := by decide +kernel
theorem dX6_unseen_19 : decode cX6_unseen 19 = .ok (.if_icmp .eq 7, 3) := by decide +kernel
theorem dX6_unseen_22 : decode cX6_unseen 22 = .ok (.iconst 1, 1) := by decide +kernel
theorem dX6_unseen_23 : decode cX6_unseen 23 = .ok (.goto 4, 3) := by decide +kernel
theorem dX6_unseen_26 : decode cX6_unseen 26 = .ok (.iconst 0, 1) := by decide +kernel
theorem dX6_unseen_27 : decode cX6_unseen 27 = .ok (.istore 4, 2) := by decide +kernel
theorem dX6_unseen_29 : decode cX6_unseen 29 = .ok (.iconst 0, 1) := by decide +kernel
theorem dX6_unseen_30 : decode cX6_unseen 30 = .ok (.istore 5, 2) := by decide +kernel
theorem dX6_unseen_32 : decode cX6_unseen 32 = .ok (.iload 5, 2) := by decide +kernel
theorem dX6_unseen_34 : decode cX6_unseen 34 = .ok (.aload_n 0, 1) := by decide +kernel
theorem dX6_unseen_35 : decode cX6_unseen 35 = .ok (.getfield 121, 3) := by decide +kernel
theorem dX6_unseen_38 : decode cX6_unseen 38 = .ok (.if_icmp .ge 43, 3) := by decide +kernel
theorem dX6_unseen_41 : decode cX6_unseen 41 = .ok (.iload 4, 2) := by decide +kernel
theorem dX6_unseen_43 : decode cX6_unseen 43 = .ok (.ifCond .eq 38, 3) := by decide +kernel
theorem dX6_unseen_46 : decode cX6_unseen 46 = .ok (.aload_n 0, 1) := by decide +kernel
theorem dX6_unseen_47 : decode cX6_unseen 47 = .ok (.iload_n 3, 1) := by decide +kernel
theorem dX6_unseen_48 : decode cX6_unseen 48 = .ok (.aload_n 0, 1) := by decide +kernel
theorem dX6_unseen_49 : decode cX6_unseen 49 = .ok (.getfield 41, 3) := by decide +kernel
theorem dX6_unseen_52 : decode cX6_unseen 52 = .ok (.iload 5, 2) := by decide +kernel
theorem dX6_unseen_54 : decode cX6_unseen 54 = .ok (.iaload, 1) := by decide +kernel
theorem dX6_unseen_55 : decode cX6_unseen 55 = .ok (.invokevirtual 150, 3) := by decide +kernel
theorem dX6_unseen_58 : decode cX6_unseen 58 = .ok (.aload_n 0, 1) := by decide +kernel
theorem dX6_unseen_59 : decode cX6_unseen 59 = .ok (.getfield 44, 3) := by decide +kernel
theorem dX6_unseen_62 : decode cX6_unseen 62 = .ok (.iload 5, 2) := by decide +kernel
theorem dX6_unseen_64 : decode cX6_unseen 64 = .ok (.iaload, 1) := by decide +kernel
theorem dX6_unseen_65 : decode cX6_unseen 65 = .ok (.if_icmp .ne 7, 3) := by decide +kernel
theorem dX6_unseen_68 : decode cX6_unseen 68 = .ok (.iconst 1, 1) := by decide +kernel
theorem dX6_unseen_69 : decode cX6_unseen 69 = .ok (.goto 4, 3) := by decide +kernel
theorem dX6_unseen_72 : decode cX6_unseen 72 = .ok (.iconst 0, 1) := by decide +kernel
theorem dX6_unseen_73 : decode cX6_unseen 73 = .ok (.istore 4, 2) := by decide +kernel
theorem dX6_unseen_75 : decode cX6_unseen 75 = .ok (.iinc 5 1, 3) := by decide +kernel
theorem dX6_unseen_78 : decode cX6_unseen 78 = .ok (.goto (-46), 3) := by decide +kernel
theorem dX6_unseen_81 : decode cX6_unseen 81 = .ok (.iload_n 1, 1) := by decide +kernel
theorem dX6_unseen_82 : decode cX6_unseen 82 = .ok (.iload 4, 2) := by decide +kernel
theorem dX6_unseen_84 : decode cX6_unseen 84 = .ok (.ifCond .eq 9, 3) := by decide +kernel
theorem dX6_unseen_87 : decode cX6_unseen 87 = .ok (.iconst 1, 1) := by decide +kernel
theorem dX6_unseen_88 : decode cX6_unseen 88 = .ok (.iload_n 2, 1) := by decide +kernel
theorem dX6_unseen_89 : decode cX6_unseen 89 = .ok (.ishl, 1) := by decide +kernel
theorem dX6_unseen_90 : decode cX6_unseen 90 = .ok (.goto 4, 3) := by decide +kernel
theorem dX6_unseen_93 : decode cX6_unseen 93 = .ok (.iconst 0, 1) := by decide +kernel
theorem dX6_unseen_94 : decode cX6_unseen 94 = .ok (.ior, 1) := by decide +kernel
theorem dX6_unseen_95 : decode cX6_unseen 95 = .ok (.istore_n 1, 1) := by decide +kernel
theorem dX6_unseen_96 : decode cX6_unseen 96 = .ok (.iinc 2 1, 3) := by decide +kernel
theorem dX6_unseen_99 : decode cX6_unseen 99 = .ok (.goto (-95), 3) := by decide +kernel
theorem dX6_unseen_102 : decode cX6_unseen 102 = .ok (.iload_n 1, 1) := by decide +kernel
theorem dX6_unseen_103 : decode cX6_unseen 103 = .ok (.ireturn, 1) := by decide +kernel
theorem dX6_keep_0 : decode cX6_keep 0 = .ok (.iload_n 1, 1) := by decide +kernel
theorem dX6_keep_1 : decode cX6_keep 1 = .ok (.iconst 0, 1) := by decide +kernel
theorem dX6_keep_2 : decode cX6_keep 2 = .ok (.iconst 1, 1) := by decide +kernel
theorem dX6_keep_3 : decode cX6_keep 3 = .ok (.invokestatic 63, 3) := by decide +kernel
theorem dX6_keep_6 : decode cX6_keep 6 = .ok (.ifCond .ne 5, 3) := by decide +kernel
theorem dX6_keep_9 : decode cX6_keep 9 = .ok (.iconst (-1), 1) := by decide +kernel
theorem dX6_keep_10 : decode cX6_keep 10 = .ok (.ireturn, 1) := by decide +kernel
theorem dX6_keep_11 : decode cX6_keep 11 = .ok (.aload_n 0, 1) := by decide +kernel
theorem dX6_keep_12 : decode cX6_keep 12 = .ok (.bipush 10, 2) := by decide +kernel
theorem dX6_keep_14 : decode cX6_keep 14 = .ok (.iload_n 1, 1) := by decide +kernel
theorem dX6_keep_15 : decode cX6_keep 15 = .ok (.iadd, 1) := by decide +kernel
theorem dX6_keep_16 : decode cX6_keep 16 = .ok (.invokevirtual 59, 3) := by decide +kernel
theorem dX6_keep_19 : decode cX6_keep 19 = .ok (.aload_n 0, 1) := by decide +kernel
theorem dX6_keep_20 : decode cX6_keep 20 = .ok (.getfield 26, 3) := by decide +kernel
theorem dX6_keep_23 : decode cX6_keep 23 = .ok (.iload_n 1, 1) := by decide +kernel
theorem dX6_keep_24 : decode cX6_keep 24 = .ok (.iconst 1, 1) := by decide +kernel
theorem dX6_keep_25 : decode cX6_keep 25 = .ok (.iastore, 1) := by decide +kernel
theorem dX6_keep_26 : decode cX6_keep 26 = .ok (.aload_n 0, 1) := by decide +kernel
theorem dX6_keep_27 : decode cX6_keep 27 = .ok (.getfield 50, 3) := by decide +kernel
theorem dX6_keep_30 : decode cX6_keep 30 = .ok (.ireturn, 1) := by decide +kernel
theorem dX6_back_0 : decode cX6_back 0 = .ok (.iload_n 1, 1) := by decide +kernel
theorem dX6_back_1 : decode cX6_back 1 = .ok (.iconst 0, 1) := by decide +kernel
theorem dX6_back_2 : decode cX6_back 2 = .ok (.iconst 1, 1) := by decide +kernel
theorem dX6_back_3 : decode cX6_back 3 = .ok (.invokestatic 63, 3) := by decide +kernel
theorem dX6_back_6 : decode cX6_back 6 = .ok (.ifCond .ne 5, 3) := by decide +kernel
theorem dX6_back_9 : decode cX6_back 9 = .ok (.iconst (-1), 1) := by decide +kernel
theorem dX6_back_10 : decode cX6_back 10 = .ok (.ireturn, 1) := by decide +kernel
theorem dX6_back_11 : decode cX6_back 11 = .ok (.aload_n 0, 1) := by decide +kernel
theorem dX6_back_12 : decode cX6_back 12 = .ok (.getfield 26, 3) := by decide +kernel
theorem dX6_back_15 : decode cX6_back 15 = .ok (.iload_n 1, 1) := by decide +kernel
theorem dX6_back_16 : decode cX6_back 16 = .ok (.iaload, 1) := by decide +kernel
theorem dX6_back_17 : decode cX6_back 17 = .ok (.ifCond .ne 6, 3) := by decide +kernel
theorem dX6_back_20 : decode cX6_back 20 = .ok (.bipush (-2), 2) := by decide +kernel
theorem dX6_back_22 : decode cX6_back 22 = .ok (.ireturn, 1) := by decide +kernel
theorem dX6_back_23 : decode cX6_back 23 = .ok (.aload_n 0, 1) := by decide +kernel
theorem dX6_back_24 : decode cX6_back 24 = .ok (.bipush 10, 2) := by decide +kernel
theorem dX6_back_26 : decode cX6_back 26 = .ok (.iload_n 1, 1) := by decide +kernel
theorem dX6_back_27 : decode cX6_back 27 = .ok (.iadd, 1) := by decide +kernel
theorem dX6_back_28 : decode cX6_back 28 = .ok (.invokevirtual 118, 3) := by decide +kernel
theorem dX6_back_31 : decode cX6_back 31 = .ok (.aload_n 0, 1) := by decide +kernel
theorem dX6_back_32 : decode cX6_back 32 = .ok (.iconst 0, 1) := by decide +kernel
theorem dX6_back_33 : decode cX6_back 33 = .ok (.putfield 56, 3) := by decide +kernel
theorem dX6_back_36 : decode cX6_back 36 = .ok (.aload_n 0, 1) := by decide +kernel
theorem dX6_back_37 : decode cX6_back 37 = .ok (.getfield 50, 3) := by decide +kernel
theorem dX6_back_40 : decode cX6_back 40 = .ok (.ireturn, 1) := by decide +kernel
theorem dX6_count_0 : decode cX6_count 0 = .ok (.iload_n 1, 1) := by decide +kernel
theorem dX6_count_1 : decode cX6_count 1 = .ok (.tableswitch 106 0 11 #[63, 68, 73, 78, 83, 88, 88, 88, 88, 88, 96, 101], 63) := by decide +kernel
theorem dX6_count_64 : decode cX6_count 64 = .ok (.aload_n 0, 1) := by decide +kernel
theorem dX6_count_65 : decode cX6_count 65 = .ok (.getfield 7, 3) := by decide +kernel
theorem dX6_count_68 : decode cX6_count 68 = .ok (.ireturn, 1) := by decide +kernel
theorem dX6_count_69 : decode cX6_count 69 = .ok (.aload_n 0, 1) := by decide +kernel
theorem dX6_count_70 : decode cX6_count 70 = .ok (.getfield 13, 3) := by decide +kernel
theorem dX6_count_73 : decode cX6_count 73 = .ok (.ireturn, 1) := by decide +kernel
theorem dX6_count_74 : decode cX6_count 74 = .ok (.aload_n 0, 1) := by decide +kernel
theorem dX6_count_75 : decode cX6_count 75 = .ok (.getfield 16, 3) := by decide +kernel
theorem dX6_count_78 : decode cX6_count 78 = .ok (.ireturn, 1) := by decide +kernel
theorem dX6_count_79 : decode cX6_count 79 = .ok (.aload_n 0, 1) := by decide +kernel
theorem dX6_count_80 : decode cX6_count 80 = .ok (.getfield 47, 3) := by decide +kernel
theorem dX6_count_83 : decode cX6_count 83 = .ok (.ireturn, 1) := by decide +kernel
theorem dX6_count_84 : decode cX6_count 84 = .ok (.aload_n 0, 1) := by decide +kernel
theorem dX6_count_85 : decode cX6_count 85 = .ok (.getfield 50, 3) := by decide +kernel
theorem dX6_count_88 : decode cX6_count 88 = .ok (.ireturn, 1) := by decide +kernel
theorem dX6_count_89 : decode cX6_count 89 = .ok (.aload_n 0, 1) := by decide +kernel
theorem dX6_count_90 : decode cX6_count 90 = .ok (.iload_n 1, 1) := by decide +kernel
theorem dX6_count_91 : decode cX6_count 91 = .ok (.iconst 5, 1) := by decide +kernel
theorem dX6_count_92 : decode cX6_count 92 = .ok (.isub, 1) := by decide +kernel
theorem dX6_count_93 : decode cX6_count 93 = .ok (.invokevirtual 99, 3) := by decide +kernel
theorem dX6_count_96 : decode cX6_count 96 = .ok (.ireturn, 1) := by decide +kernel
theorem dX6_count_97 : decode cX6_count 97 = .ok (.aload_n 0, 1) := by decide +kernel
theorem dX6_count_98 : decode cX6_count 98 = .ok (.getfield 121, 3) := by decide +kernel
theorem dX6_count_101 : decode cX6_count 101 = .ok (.ireturn, 1) := by decide +kernel
theorem dX6_count_102 : decode cX6_count 102 = .ok (.aload_n 0, 1) := by decide +kernel
theorem dX6_count_103 : decode cX6_count 103 = .ok (.getfield 56, 3) := by decide +kernel
theorem dX6_count_106 : decode cX6_count 106 = .ok (.ireturn, 1) := by decide +kernel
theorem dX6_count_107 : decode cX6_count 107 = .ok (.iconst (-1), 1) := by decide +kernel
theorem dX6_count_108 : decode cX6_count 108 = .ok (.ireturn, 1) := by decide +kernel
theorem dJ9_max_7cf53_0 : decode cJ9_max_7cf53 0 = .ok (.iload_n 0, 1) := by decide +kernel
theorem dJ9_max_7cf53_1 : decode cJ9_max_7cf53 1 = .ok (.iload_n 1, 1) := by decide +kernel
theorem dJ9_max_7cf53_2 : decode cJ9_max_7cf53 2 = .ok (.if_icmp .lt 7, 3) := by decide +kernel
theorem dJ9_max_7cf53_5 : decode cJ9_max_7cf53 5 = .ok (.iload_n 0, 1) := by decide +kernel
theorem dJ9_max_7cf53_6 : decode cJ9_max_7cf53 6 = .ok (.goto 4, 3) := by decide +kernel
theorem dJ9_max_7cf53_9 : decode cJ9_max_7cf53 9 = .ok (.iload_n 1, 1) := by decide +kernel
theorem dJ9_max_7cf53_10 : decode cJ9_max_7cf53 10 = .ok (.ireturn, 1) := by decide +kernel
theorem dJ9_min_7cf53_0 : decode cJ9_min_7cf53 0 = .ok (.iload_n 0, 1) := by decide +kernel
theorem dJ9_min_7cf53_1 : decode cJ9_min_7cf53 1 = .ok (.iload_n 1, 1) := by decide +kernel
theorem dJ9_min_7cf53_2 : decode cJ9_min_7cf53 2 = .ok (.if_icmp .gt 7, 3) := by decide +kernel
theorem dJ9_min_7cf53_5 : decode cJ9_min_7cf53 5 = .ok (.iload_n 0, 1) := by decide +kernel
theorem dJ9_min_7cf53_6 : decode cJ9_min_7cf53 6 = .ok (.goto 4, 3) := by decide +kernel
theorem dJ9_min_7cf53_9 : decode cJ9_min_7cf53 9 = .ok (.iload_n 1, 1) := by decide +kernel
theorem dJ9_min_7cf53_10 : decode cJ9_min_7cf53 10 = .ok (.ireturn, 1) := by decide +kernel
theorem dL_law_0 : decode cL_law 0 = .ok (.new 7, 3) := by decide +kernel
theorem dL_law_3 : decode cL_law 3 = .ok (.dup, 1) := by decide +kernel
theorem dL_law_4 : decode cL_law 4 = .ok (.invokespecial 9, 3) := by decide +kernel
theorem dL_law_7 : decode cL_law 7 = .ok (.astore_n 1, 1) := by decide +kernel
theorem dL_law_8 : decode cL_law 8 = .ok (.new 10, 3) := by decide +kernel
theorem dL_law_11 : decode cL_law 11 = .ok (.dup, 1) := by decide +kernel
theorem dL_law_12 : decode cL_law 12 = .ok (.invokespecial 12, 3) := by decide +kernel
theorem dL_law_15 : decode cL_law 15 = .ok (.astore_n 2, 1) := by decide +kernel
theorem dL_law_16 : decode cL_law 16 = .ok (.iconst 0, 1) := by decide +kernel
theorem dL_law_17 : decode cL_law 17 = .ok (.istore_n 3, 1) := by decide +kernel
theorem dL_law_18 : decode cL_law 18 = .ok (.iload_n 3, 1) := by decide +kernel
theorem dL_law_19 : decode cL_law 19 = .ok (.aload_n 0, 1) := by decide +kernel
theorem dL_law_20 : decode cL_law 20 = .ok (.arraylength, 1) := by decide +kernel
theorem dL_law_21 : decode cL_law 21 = .ok (.iconst 4, 1) := by decide +kernel
theorem dL_law_22 : decode cL_law 22 = .ok (.isub, 1) := by decide +kernel
theorem dL_law_23 : decode cL_law 23 = .ok (.if_icmp .gt 629, 3) := by decide +kernel
theorem dL_law_26 : decode cL_law 26 = .ok (.aload_n 0, 1) := by decide +kernel
theorem dL_law_27 : decode cL_law 27 = .ok (.iload_n 3, 1) := by decide +kernel
theorem dL_law_28 : decode cL_law 28 = .ok (.iaload, 1) := by decide +kernel
theorem dL_law_29 : decode cL_law 29 = .ok (.bipush 31, 2) := by decide +kernel
theorem dL_law_31 : decode cL_law 31 = .ok (.iand, 1) := by decide +kernel
theorem dL_law_32 : decode cL_law 32 = .ok (.tableswitch 614 0 20 #[100, 143, 186, 199, 212, 225, 258, 281, 314, 337, 360, 383, 396, 419, 442, 486, 519, 532, 545, 568, 591], 100) := by decide +kernel
theorem dL_law_132 : decode cL_law 132 = .ok (.aload_n 1, 1) := by decide +kernel
theorem dL_law_133 : decode cL_law 133 = .ok (.aload_n 0, 1) := by decide +kernel
theorem dL_law_134 : decode cL_law 134 = .ok (.iload_n 3, 1) := by decide +kernel
theorem dL_law_135 : decode cL_law 135 = .ok (.iconst 1, 1) := by decide +kernel
theorem dL_law_136 : decode cL_law 136 = .ok (.iadd, 1) := by decide +kernel
theorem dL_law_137 : decode cL_law 137 = .ok (.iaload, 1) := by decide +kernel
theorem dL_law_138 : decode cL_law 138 = .ok (.aload_n 0, 1) := by decide +kernel
theorem dL_law_139 : decode cL_law 139 = .ok (.iload_n 3, 1) := by decide +kernel
theorem dL_law_140 : decode cL_law 140 = .ok (.iconst 2, 1) := by decide +kernel
theorem dL_law_141 : decode cL_law 141 = .ok (.iadd, 1) := by decide +kernel
theorem dL_law_142 : decode cL_law 142 = .ok (.iaload, 1) := by decide +kernel
theorem dL_law_143 : decode cL_law 143 = .ok (.aload_n 0, 1) := by decide +kernel
theorem dL_law_144 : decode cL_law 144 = .ok (.iload_n 3, 1) := by decide +kernel
theorem dL_law_145 : decode cL_law 145 = .ok (.iconst 3, 1) := by decide +kernel
theorem dL_law_146 : decode cL_law 146 = .ok (.iadd, 1) := by decide +kernel
theorem dL_law_147 : decode cL_law 147 = .ok (.iaload, 1) := by decide +kernel
theorem dL_law_148 : decode cL_law 148 = .ok (.invokevirtual 13, 3) := by decide +kernel
theorem dL_law_151 : decode cL_law 151 = .ok (.aload_n 2, 1) := by decide +kernel
theorem dL_law_152 : decode cL_law 152 = .ok (.aload_n 0, 1) := by decide +kernel
theorem dL_law_153 : decode cL_law 153 = .ok (.iload_n 3, 1) := by decide +kernel
theorem dL_law_154 : decode cL_law 154 = .ok (.iconst 1, 1) := by decide +kernel
theorem dL_law_155 : decode cL_law 155 = .ok (.iadd, 1) := by decide +kernel
theorem dL_law_156 : decode cL_law 156 = .ok (.iaload, 1) := by decide +kernel
theorem dL_law_157 : decode cL_law 157 = .ok (.aload_n 0, 1) := by decide +kernel
theorem dL_law_158 : decode cL_law 158 = .ok (.iload_n 3, 1) := by decide +kernel
theorem dL_law_159 : decode cL_law 159 = .ok (.iconst 2, 1) := by decide +kernel
theorem dL_law_160 : decode cL_law 160 = .ok (.iadd, 1) := by decide +kernel
theorem dL_law_161 : decode cL_law 161 = .ok (.iaload, 1) := by decide +kernel
theorem dL_law_162 : decode cL_law 162 = .ok (.aload_n 0, 1) := by decide +kernel
theorem dL_law_163 : decode cL_law 163 = .ok (.iload_n 3, 1) := by decide +kernel
theorem dL_law_164 : decode cL_law 164 = .ok (.iconst 3, 1) := by decide +kernel
theorem dL_law_165 : decode cL_law 165 = .ok (.iadd, 1) := by decide +kernel
theorem dL_law_166 : decode cL_law 166 = .ok (.iaload, 1) := by decide +kernel
theorem dL_law_167 : decode cL_law 167 = .ok (.invokevirtual 17, 3) := by decide +kernel
theorem dL_law_170 : decode cL_law 170 = .ok (.if_icmp .eq 476, 3) := by decide +kernel
theorem dL_law_173 : decode cL_law 173 = .ok (.iconst 0, 1) := by decide +kernel
theorem dL_law_174 : decode cL_law 174 = .ok (.ireturn, 1) := by decide +kernel
theorem dL_law_175 : decode cL_law 175 = .ok (.aload_n 1, 1) := by decide +kernel
theorem dL_law_176 : decode cL_law 176 = .ok (.aload_n 0, 1) := by decide +kernel
theorem dL_law_177 : decode cL_law 177 = .ok (.iload_n 3, 1) := by decide +kernel
theorem dL_law_178 : decode cL_law 178 = .ok (.iconst 1, 1) := by decide +kernel
theorem dL_law_179 : decode cL_law 179 = .ok (.iadd, 1) := by decide +kernel
theorem dL_law_180 : decode cL_law 180 = .ok (.iaload, 1) := by decide +kernel
theorem dL_law_181 : decode cL_law 181 = .ok (.aload_n 0, 1) := by decide +kernel
theorem dL_law_182 : decode cL_law 182 = .ok (.iload_n 3, 1) := by decide +kernel
theorem dL_law_183 : decode cL_law 183 = .ok (.iconst 2, 1) := by decide +kernel
theorem dL_law_184 : decode cL_law 184 = .ok (.iadd, 1) := by decide +kernel
theorem dL_law_185 : decode cL_law 185 = .ok (.iaload, 1) := by decide +kernel
theorem dL_law_186 : decode cL_law 186 = .ok (.aload_n 0, 1) := by decide +kernel
theorem dL_law_187 : decode cL_law 187 = .ok (.iload_n 3, 1) := by decide +kernel
theorem dL_law_188 : decode cL_law 188 = .ok (.iconst 3, 1) := by decide +kernel
theorem dL_law_189 : decode cL_law 189 = .ok (.iadd, 1) := by decide +kernel
theorem dL_law_190 : decode cL_law 190 = .ok (.iaload, 1) := by decide +kernel
theorem dL_law_191 : decode cL_law 191 = .ok (.invokevirtual 18, 3) := by decide +kernel
theorem dL_law_194 : decode cL_law 194 = .ok (.aload_n 2, 1) := by decide +kernel
theorem dL_law_195 : decode cL_law 195 = .ok (.aload_n 0, 1) := by decide +kernel
theorem dL_law_196 : decode cL_law 196 = .ok (.iload_n 3, 1) := by decide +kernel
theorem dL_law_197 : decode cL_law 197 = .ok (.iconst 1, 1) := by decide +kernel
theorem dL_law_198 : decode cL_law 198 = .ok (.iadd, 1) := by decide +kernel
theorem dL_law_199 : decode cL_law 199 = .ok (.iaload, 1) := by decide +kernel
theorem dL_law_200 : decode cL_law 200 = .ok (.aload_n 0, 1) := by decide +kernel
theorem dL_law_201 : decode cL_law 201 = .ok (.iload_n 3, 1) := by decide +kernel
theorem dL_law_202 : decode cL_law 202 = .ok (.iconst 2, 1) := by decide +kernel
theorem dL_law_203 : decode cL_law 203 = .ok (.iadd, 1) := by decide +kernel
theorem dL_law_204 : decode cL_law 204 = .ok (.iaload, 1) := by decide +kernel
theorem dL_law_205 : decode cL_law 205 = .ok (.aload_n 0, 1) := by decide +kernel
theorem dL_law_206 : decode cL_law 206 = .ok (.iload_n 3, 1) := by decide +kernel
theorem dL_law_207 : decode cL_law 207 = .ok (.iconst 3, 1) := by decide +kernel
theorem dL_law_208 : decode cL_law 208 = .ok (.iadd, 1) := by decide +kernel
theorem dL_law_209 : decode cL_law 209 = .ok (.iaload, 1) := by decide +kernel
theorem dL_law_210 : decode cL_law 210 = .ok (.invokevirtual 21, 3) := by decide +kernel
theorem dL_law_213 : decode cL_law 213 = .ok (.if_icmp .eq 433, 3) := by decide +kernel
theorem dL_law_216 : decode cL_law 216 = .ok (.iconst 0, 1) := by decide +kernel
theorem dL_law_217 : decode cL_law 217 = .ok (.ireturn, 1) := by decide +kernel
theorem dL_law_218 : decode cL_law 218 = .ok (.aload_n 1, 1) := by decide +kernel
theorem dL_law_219 : decode cL_law 219 = .ok (.invokevirtual 22, 3) := by decide +kernel
theorem dL_law_222 : decode cL_law 222 = .ok (.aload_n 2, 1) := by decide +kernel
theorem dL_law_223 : decode cL_law 223 = .ok (.invokevirtual 26, 3) := by decide +kernel
theorem dL_law_226 : decode cL_law 226 = .ok (.if_icmp .eq 420, 3) := by decide +kernel
theorem dL_law_229 : decode cL_law 229 = .ok (.iconst 0, 1) := by decide +kernel
theorem dL_law_230 : decode cL_law 230 = .ok (.ireturn, 1) := by decide +kernel
theorem dL_law_231 : decode cL_law 231 = .ok (.aload_n 1, 1) := by decide +kernel
theorem dL_law_232 : decode cL_law 232 = .ok (.invokevirtual 27, 3) := by decide +kernel
theorem dL_law_235 : decode cL_law 235 = .ok (.aload_n 2, 1) := by decide +kernel
theorem dL_law_236 : decode cL_law 236 = .ok (.invokevirtual 30, 3) := by decide +kernel
theorem dL_law_239 : decode cL_law 239 = .ok (.if_icmp .eq 407, 3) := by decide +kernel
theorem dL_law_242 : decode cL_law 242 = .ok (.iconst 0, 1) := by decide +kernel
theorem dL_law_243 : decode cL_law 243 = .ok (.ireturn, 1) := by decide +kernel
theorem dL_law_244 : decode cL_law 244 = .ok (.aload_n 1, 1) := by decide +kernel
theorem dL_law_245 : decode cL_law 245 = .ok (.invokevirtual 31, 3) := by decide +kernel
theorem dL_law_248 : decode cL_law 248 = .ok (.aload_n 2, 1) := by decide +kernel
theorem dL_law_249 : decode cL_law 249 = .ok (.invokevirtual 34, 3) := by decide +kernel
theorem dL_law_252 : decode cL_law 252 = .ok (.if_icmp .eq 394, 3) := by decide +kernel
theorem dL_law_255 : decode cL_law 255 = .ok (.iconst 0, 1) := by decide +kernel
theorem dL_law_256 : decode cL_law 256 = .ok (.ireturn, 1) := by decide +kernel
theorem dL_law_257 : decode cL_law 257 = .ok (.aload_n 1, 1) := by decide +kernel
theorem dL_law_258 : decode cL_law 258 = .ok (.aload_n 0, 1) := by decide +kernel
theorem dL_law_259 : decode cL_law 259 = .ok (.iload_n 3, 1) := by decide +kernel
theorem dL_law_260 : decode cL_law 260 = .ok (.iconst 1, 1) := by decide +kernel
theorem dL_law_261 : decode cL_law 261 = .ok (.iadd, 1) := by decide +kernel
theorem dL_law_262 : decode cL_law 262 = .ok (.iaload, 1) := by decide +kernel
theorem dL_law_263 : decode cL_law 263 = .ok (.aload_n 0, 1) := by decide +kernel
theorem dL_law_264 : decode cL_law 264 = .ok (.iload_n 3, 1) := by decide +kernel
theorem dL_law_265 : decode cL_law 265 = .ok (.iconst 2, 1) := by decide +kernel
theorem dL_law_266 : decode cL_law 266 = .ok (.iadd, 1) := by decide +kernel
theorem dL_law_267 : decode cL_law 267 = .ok (.iaload, 1) := by decide +kernel
theorem dL_law_268 : decode cL_law 268 = .ok (.invokevirtual 35, 3) := by decide +kernel
theorem dL_law_271 : decode cL_law 271 = .ok (.aload_n 2, 1) := by decide +kernel
theorem dL_law_272 : decode cL_law 272 = .ok (.aload_n 0, 1) := by decide +kernel
theorem dL_law_273 : decode cL_law 273 = .ok (.iload_n 3, 1) := by decide +kernel
theorem dL_law_274 : decode cL_law 274 = .ok (.iconst 1, 1) := by decide +kernel
theorem dL_law_275 : decode cL_law 275 = .ok (.iadd, 1) := by decide +kernel
theorem dL_law_276 : decode cL_law 276 = .ok (.iaload, 1) := by decide +kernel
theorem dL_law_277 : decode cL_law 277 = .ok (.aload_n 0, 1) := by decide +kernel
theorem dL_law_278 : decode cL_law 278 = .ok (.iload_n 3, 1) := by decide +kernel
theorem dL_law_279 : decode cL_law 279 = .ok (.iconst 2, 1) := by decide +kernel
theorem dL_law_280 : decode cL_law 280 = .ok (.iadd, 1) := by decide +kernel
theorem dL_law_281 : decode cL_law 281 = .ok (.iaload, 1) := by decide +kernel
theorem dL_law_282 : decode cL_law 282 = .ok (.invokevirtual 39, 3) := by decide +kernel
theorem dL_law_285 : decode cL_law 285 = .ok (.if_icmp .eq 361, 3) := by decide +kernel
theorem dL_law_288 : decode cL_law 288 = .ok (.iconst 0, 1) := by decide +kernel
theorem dL_law_289 : decode cL_law 289 = .ok (.ireturn, 1) := by decide +kernel
theorem dL_law_290 : decode cL_law 290 = .ok (.aload_n 1, 1) := by decide +kernel
theorem dL_law_291 : decode cL_law 291 = .ok (.aload_n 0, 1) := by decide +kernel
theorem dL_law_292 : decode cL_law 292 = .ok (.iload_n 3, 1) := by decide +kernel
theorem dL_law_293 : decode cL_law 293 = .ok (.iconst 1, 1) := by decide +kernel
theorem dL_law_294 : decode cL_law 294 = .ok (.iadd, 1) := by decide +kernel
theorem dL_law_295 : decode cL_law 295 = .ok (.iaload, 1) := by decide +kernel
theorem dL_law_296 : decode cL_law 296 = .ok (.invokevirtual 40, 3) := by decide +kernel
theorem dL_law_299 : decode cL_law 299 = .ok (.aload_n 2, 1) := by decide +kernel
theorem dL_law_300 : decode cL_law 300 = .ok (.aload_n 0, 1) := by decide +kernel
theorem dL_law_301 : decode cL_law 301 = .ok (.iload_n 3, 1) := by decide +kernel
theorem dL_law_302 : decode cL_law 302 = .ok (.iconst 1, 1) := by decide +kernel
theorem dL_law_303 : decode cL_law 303 = .ok (.iadd, 1) := by decide +kernel
theorem dL_law_304 : decode cL_law 304 = .ok (.iaload, 1) := by decide +kernel
theorem dL_law_305 : decode cL_law 305 = .ok (.invokevirtual 44, 3) := by decide +kernel
theorem dL_law_308 : decode cL_law 308 = .ok (.if_icmp .eq 338, 3) := by decide +kernel
theorem dL_law_311 : decode cL_law 311 = .ok (.iconst 0, 1) := by decide +kernel
theorem dL_law_312 : decode cL_law 312 = .ok (.ireturn, 1) := by decide +kernel
theorem dL_law_313 : decode cL_law 313 = .ok (.aload_n 1, 1) := by decide +kernel
theorem dL_law_314 : decode cL_law 314 = .ok (.aload_n 0, 1) := by decide +kernel
theorem dL_law_315 : decode cL_law 315 = .ok (.iload_n 3, 1) := by decide +kernel
theorem dL_law_316 : decode cL_law 316 = .ok (.iconst 1, 1) := by decide +kernel
theorem dL_law_317 : decode cL_law 317 = .ok (.iadd, 1) := by decide +kernel
theorem dL_law_318 : decode cL_law 318 = .ok (.iaload, 1) := by decide +kernel
theorem dL_law_319 : decode cL_law 319 = .ok (.aload_n 0, 1) := by decide +kernel
theorem dL_law_320 : decode cL_law 320 = .ok (.iload_n 3, 1) := by decide +kernel
theorem dL_law_321 : decode cL_law 321 = .ok (.iconst 2, 1) := by decide +kernel
theorem dL_law_322 : decode cL_law 322 = .ok (.iadd, 1) := by decide +kernel
theorem dL_law_323 : decode cL_law 323 = .ok (.iaload, 1) := by decide +kernel
theorem dL_law_324 : decode cL_law 324 = .ok (.invokevirtual 45, 3) := by decide +kernel
theorem dL_law_327 : decode cL_law 327 = .ok (.aload_n 2, 1) := by decide +kernel
theorem dL_law_328 : decode cL_law 328 = .ok (.aload_n 0, 1) := by decide +kernel
theorem dL_law_329 : decode cL_law 329 = .ok (.iload_n 3, 1) := by decide +kernel
theorem dL_law_330 : decode cL_law 330 = .ok (.iconst 1, 1) := by decide +kernel
theorem dL_law_331 : decode cL_law 331 = .ok (.iadd, 1) := by decide +kernel
theorem dL_law_332 : decode cL_law 332 = .ok (.iaload, 1) := by decide +kernel
theorem dL_law_333 : decode cL_law 333 = .ok (.aload_n 0, 1) := by decide +kernel
theorem dL_law_334 : decode cL_law 334 = .ok (.iload_n 3, 1) := by decide +kernel
theorem dL_law_335 : decode cL_law 335 = .ok (.iconst 2, 1) := by decide +kernel
theorem dL_law_336 : decode cL_law 336 = .ok (.iadd, 1) := by decide +kernel
theorem dL_law_337 : decode cL_law 337 = .ok (.iaload, 1) := by decide +kernel
theorem dL_law_338 : decode cL_law 338 = .ok (.invokevirtual 48, 3) := by decide +kernel
theorem dL_law_341 : decode cL_law 341 = .ok (.if_icmp .eq 305, 3) := by decide +kernel
theorem dL_law_344 : decode cL_law 344 = .ok (.iconst 0, 1) := by decide +kernel
theorem dL_law_345 : decode cL_law 345 = .ok (.ireturn, 1) := by decide +kernel
theorem dL_law_346 : decode cL_law 346 = .ok (.aload_n 1, 1) := by decide +kernel
theorem dL_law_347 : decode cL_law 347 = .ok (.aload_n 0, 1) := by decide +kernel
theorem dL_law_348 : decode cL_law 348 = .ok (.iload_n 3, 1) := by decide +kernel
theorem dL_law_349 : decode cL_law 349 = .ok (.iconst 1, 1) := by decide +kernel
theorem dL_law_350 : decode cL_law 350 = .ok (.iadd, 1) := by decide +kernel
theorem dL_law_351 : decode cL_law 351 = .ok (.iaload, 1) := by decide +kernel
theorem dL_law_352 : decode cL_law 352 = .ok (.invokevirtual 49, 3) := by decide +kernel
theorem dL_law_355 : decode cL_law 355 = .ok (.aload_n 2, 1) := by decide +kernel
theorem dL_law_356 : decode cL_law 356 = .ok (.aload_n 0, 1) := by decide +kernel
theorem dL_law_357 : decode cL_law 357 = .ok (.iload_n 3, 1) := by decide +kernel
theorem dL_law_358 : decode cL_law 358 = .ok (.iconst 1, 1) := by decide +kernel
theorem dL_law_359 : decode cL_law 359 = .ok (.iadd, 1) := by decide +kernel
theorem dL_law_360 : decode cL_law 360 = .ok (.iaload, 1) := by decide +kernel
theorem dL_law_361 : decode cL_law 361 = .ok (.invokevirtual 52, 3) := by decide +kernel
theorem dL_law_364 : decode cL_law 364 = .ok (.if_icmp .eq 282, 3) := by decide +kernel
theorem dL_law_367 : decode cL_law 367 = .ok (.iconst 0, 1) := by decide +kernel
theorem dL_law_368 : decode cL_law 368 = .ok (.ireturn, 1) := by decide +kernel
theorem dL_law_369 : decode cL_law 369 = .ok (.aload_n 1, 1) := by decide +kernel
theorem dL_law_370 : decode cL_law 370 = .ok (.aload_n 0, 1) := by decide +kernel
theorem dL_law_371 : decode cL_law 371 = .ok (.iload_n 3, 1) := by decide +kernel
theorem dL_law_372 : decode cL_law 372 = .ok (.iconst 1, 1) := by decide +kernel
theorem dL_law_373 : decode cL_law 373 = .ok (.iadd, 1) := by decide +kernel
theorem dL_law_374 : decode cL_law 374 = .ok (.iaload, 1) := by decide +kernel
theorem dL_law_375 : decode cL_law 375 = .ok (.invokevirtual 53, 3) := by decide +kernel
theorem dL_law_378 : decode cL_law 378 = .ok (.aload_n 2, 1) := by decide +kernel
theorem dL_law_379 : decode cL_law 379 = .ok (.aload_n 0, 1) := by decide +kernel
theorem dL_law_380 : decode cL_law 380 = .ok (.iload_n 3, 1) := by decide +kernel
theorem dL_law_381 : decode cL_law 381 = .ok (.iconst 1, 1) := by decide +kernel
theorem dL_law_382 : decode cL_law 382 = .ok (.iadd, 1) := by decide +kernel
theorem dL_law_383 : decode cL_law 383 = .ok (.iaload, 1) := by decide +kernel
theorem dL_law_384 : decode cL_law 384 = .ok (.invokevirtual 56, 3) := by decide +kernel
theorem dL_law_387 : decode cL_law 387 = .ok (.if_icmp .eq 259, 3) := by decide +kernel
theorem dL_law_390 : decode cL_law 390 = .ok (.iconst 0, 1) := by decide +kernel
theorem dL_law_391 : decode cL_law 391 = .ok (.ireturn, 1) := by decide +kernel
theorem dL_law_392 : decode cL_law 392 = .ok (.aload_n 1, 1) := by decide +kernel
theorem dL_law_393 : decode cL_law 393 = .ok (.aload_n 0, 1) := by decide +kernel
theorem dL_law_394 : decode cL_law 394 = .ok (.iload_n 3, 1) := by decide +kernel
theorem dL_law_395 : decode cL_law 395 = .ok (.iconst 1, 1) := by decide +kernel
theorem dL_law_396 : decode cL_law 396 = .ok (.iadd, 1) := by decide +kernel
theorem dL_law_397 : decode cL_law 397 = .ok (.iaload, 1) := by decide +kernel
theorem dL_law_398 : decode cL_law 398 = .ok (.invokevirtual 57, 3) := by decide +kernel
theorem dL_law_401 : decode cL_law 401 = .ok (.aload_n 2, 1) := by decide +kernel
theorem dL_law_402 : decode cL_law 402 = .ok (.aload_n 0, 1) := by decide +kernel
theorem dL_law_403 : decode cL_law 403 = .ok (.iload_n 3, 1) := by decide +kernel
theorem dL_law_404 : decode cL_law 404 = .ok (.iconst 1, 1) := by decide +kernel
theorem dL_law_405 : decode cL_law 405 = .ok (.iadd, 1) := by decide +kernel
theorem dL_law_406 : decode cL_law 406 = .ok (.iaload, 1) := by decide +kernel
theorem dL_law_407 : decode cL_law 407 = .ok (.invokevirtual 60, 3) := by decide +kernel
theorem dL_law_410 : decode cL_law 410 = .ok (.if_icmp .eq 236, 3) := by decide +kernel
theorem dL_law_413 : decode cL_law 413 = .ok (.iconst 0, 1) := by decide +kernel
theorem dL_law_414 : decode cL_law 414 = .ok (.ireturn, 1) := by decide +kernel
theorem dL_law_415 : decode cL_law 415 = .ok (.aload_n 1, 1) := by decide +kernel
theorem dL_law_416 : decode cL_law 416 = .ok (.invokevirtual 61, 3) := by decide +kernel
theorem dL_law_419 : decode cL_law 419 = .ok (.aload_n 2, 1) := by decide +kernel
theorem dL_law_420 : decode cL_law 420 = .ok (.invokevirtual 64, 3) := by decide +kernel
theorem dL_law_423 : decode cL_law 423 = .ok (.if_icmp .eq 223, 3) := by decide +kernel
theorem dL_law_426 : decode cL_law 426 = .ok (.iconst 0, 1) := by decide +kernel
theorem dL_law_427 : decode cL_law 427 = .ok (.ireturn, 1) := by decide +kernel
theorem dL_law_428 : decode cL_law 428 = .ok (.aload_n 1, 1) := by decide +kernel
theorem dL_law_429 : decode cL_law 429 = .ok (.aload_n 0, 1) := by decide +kernel
theorem dL_law_430 : decode cL_law 430 = .ok (.iload_n 3, 1) := by decide +kernel
theorem dL_law_431 : decode cL_law 431 = .ok (.iconst 1, 1) := by decide +kernel
theorem dL_law_432 : decode cL_law 432 = .ok (.iadd, 1) := by decide +kernel
theorem dL_law_433 : decode cL_law 433 = .ok (.iaload, 1) := by decide +kernel
theorem dL_law_434 : decode cL_law 434 = .ok (.invokevirtual 65, 3) := by decide +kernel
theorem dL_law_437 : decode cL_law 437 = .ok (.aload_n 2, 1) := by decide +kernel
theorem dL_law_438 : decode cL_law 438 = .ok (.aload_n 0, 1) := by decide +kernel
theorem dL_law_439 : decode cL_law 439 = .ok (.iload_n 3, 1) := by decide +kernel
theorem dL_law_440 : decode cL_law 440 = .ok (.iconst 1, 1) := by decide +kernel
theorem dL_law_441 : decode cL_law 441 = .ok (.iadd, 1) := by decide +kernel
theorem dL_law_442 : decode cL_law 442 = .ok (.iaload, 1) := by decide +kernel
theorem dL_law_443 : decode cL_law 443 = .ok (.invokevirtual 68, 3) := by decide +kernel
theorem dL_law_446 : decode cL_law 446 = .ok (.if_icmp .eq 200, 3) := by decide +kernel
theorem dL_law_449 : decode cL_law 449 = .ok (.iconst 0, 1) := by decide +kernel
theorem dL_law_450 : decode cL_law 450 = .ok (.ireturn, 1) := by decide +kernel
theorem dL_law_451 : decode cL_law 451 = .ok (.aload_n 1, 1) := by decide +kernel
theorem dL_law_452 : decode cL_law 452 = .ok (.aload_n 0, 1) := by decide +kernel
theorem dL_law_453 : decode cL_law 453 = .ok (.iload_n 3, 1) := by decide +kernel
theorem dL_law_454 : decode cL_law 454 = .ok (.iconst 1, 1) := by decide +kernel
theorem dL_law_455 : decode cL_law 455 = .ok (.iadd, 1) := by decide +kernel
theorem dL_law_456 : decode cL_law 456 = .ok (.iaload, 1) := by decide +kernel
theorem dL_law_457 : decode cL_law 457 = .ok (.invokevirtual 69, 3) := by decide +kernel
theorem dL_law_460 : decode cL_law 460 = .ok (.aload_n 2, 1) := by decide +kernel
theorem dL_law_461 : decode cL_law 461 = .ok (.aload_n 0, 1) := by decide +kernel
theorem dL_law_462 : decode cL_law 462 = .ok (.iload_n 3, 1) := by decide +kernel
theorem dL_law_463 : decode cL_law 463 = .ok (.iconst 1, 1) := by decide +kernel
theorem dL_law_464 : decode cL_law 464 = .ok (.iadd, 1) := by decide +kernel
theorem dL_law_465 : decode cL_law 465 = .ok (.iaload, 1) := by decide +kernel
theorem dL_law_466 : decode cL_law 466 = .ok (.invokevirtual 72, 3) := by decide +kernel
theorem dL_law_469 : decode cL_law 469 = .ok (.if_icmp .eq 177, 3) := by decide +kernel
theorem dL_law_472 : decode cL_law 472 = .ok (.iconst 0, 1) := by decide +kernel
theorem dL_law_473 : decode cL_law 473 = .ok (.ireturn, 1) := by decide +kernel
theorem dL_law_474 : decode cL_law 474 = .ok (.aload_n 1, 1) := by decide +kernel
theorem dL_law_475 : decode cL_law 475 = .ok (.aload_n 0, 1) := by decide +kernel
theorem dL_law_476 : decode cL_law 476 = .ok (.iload_n 3, 1) := by decide +kernel
theorem dL_law_477 : decode cL_law 477 = .ok (.iconst 1, 1) := by decide +kernel
theorem dL_law_478 : decode cL_law 478 = .ok (.iadd, 1) := by decide +kernel
theorem dL_law_479 : decode cL_law 479 = .ok (.iaload, 1) := by decide +kernel
theorem dL_law_480 : decode cL_law 480 = .ok (.aload_n 0, 1) := by decide +kernel
theorem dL_law_481 : decode cL_law 481 = .ok (.iload_n 3, 1) := by decide +kernel
theorem dL_law_482 : decode cL_law 482 = .ok (.iconst 2, 1) := by decide +kernel
theorem dL_law_483 : decode cL_law 483 = .ok (.iadd, 1) := by decide +kernel
theorem dL_law_484 : decode cL_law 484 = .ok (.iaload, 1) := by decide +kernel
theorem dL_law_485 : decode cL_law 485 = .ok (.aload_n 0, 1) := by decide +kernel
theorem dL_law_486 : decode cL_law 486 = .ok (.iload_n 3, 1) := by decide +kernel
theorem dL_law_487 : decode cL_law 487 = .ok (.iconst 3, 1) := by decide +kernel
theorem dL_law_488 : decode cL_law 488 = .ok (.iadd, 1) := by decide +kernel
theorem dL_law_489 : decode cL_law 489 = .ok (.iaload, 1) := by decide +kernel
theorem dL_law_490 : decode cL_law 490 = .ok (.invokevirtual 73, 3) := by decide +kernel
theorem dL_law_493 : decode cL_law 493 = .ok (.aload_n 2, 1) := by decide +kernel
theorem dL_law_494 : decode cL_law 494 = .ok (.aload_n 0, 1) := by decide +kernel
theorem dL_law_495 : decode cL_law 495 = .ok (.iload_n 3, 1) := by decide +kernel
theorem dL_law_496 : decode cL_law 496 = .ok (.iconst 1, 1) := by decide +kernel
theorem dL_law_497 : decode cL_law 497 = .ok (.iadd, 1) := by decide +kernel
theorem dL_law_498 : decode cL_law 498 = .ok (.iaload, 1) := by decide +kernel
theorem dL_law_499 : decode cL_law 499 = .ok (.aload_n 0, 1) := by decide +kernel
theorem dL_law_500 : decode cL_law 500 = .ok (.iload_n 3, 1) := by decide +kernel
theorem dL_law_501 : decode cL_law 501 = .ok (.iconst 2, 1) := by decide +kernel
theorem dL_law_502 : decode cL_law 502 = .ok (.iadd, 1) := by decide +kernel
theorem dL_law_503 : decode cL_law 503 = .ok (.iaload, 1) := by decide +kernel
theorem dL_law_504 : decode cL_law 504 = .ok (.aload_n 0, 1) := by decide +kernel
theorem dL_law_505 : decode cL_law 505 = .ok (.iload_n 3, 1) := by decide +kernel
theorem dL_law_506 : decode cL_law 506 = .ok (.iconst 3, 1) := by decide +kernel
theorem dL_law_507 : decode cL_law 507 = .ok (.iadd, 1) := by decide +kernel
theorem dL_law_508 : decode cL_law 508 = .ok (.iaload, 1) := by decide +kernel
theorem dL_law_509 : decode cL_law 509 = .ok (.invokevirtual 77, 3) := by decide +kernel
theorem dL_law_512 : decode cL_law 512 = .ok (.lcmp, 1) := by decide +kernel
theorem dL_law_513 : decode cL_law 513 = .ok (.ifCond .eq 133, 3) := by decide +kernel
theorem dL_law_516 : decode cL_law 516 = .ok (.iconst 0, 1) := by decide +kernel
theorem dL_law_517 : decode cL_law 517 = .ok (.ireturn, 1) := by decide +kernel
theorem dL_law_518 : decode cL_law 518 = .ok (.aload_n 1, 1) := by decide +kernel
theorem dL_law_519 : decode cL_law 519 = .ok (.aload_n 0, 1) := by decide +kernel
theorem dL_law_520 : decode cL_law 520 = .ok (.iload_n 3, 1) := by decide +kernel
theorem dL_law_521 : decode cL_law 521 = .ok (.iconst 1, 1) := by decide +kernel
theorem dL_law_522 : decode cL_law 522 = .ok (.iadd, 1) := by decide +kernel
theorem dL_law_523 : decode cL_law 523 = .ok (.iaload, 1) := by decide +kernel
theorem dL_law_524 : decode cL_law 524 = .ok (.aload_n 0, 1) := by decide +kernel
theorem dL_law_525 : decode cL_law 525 = .ok (.iload_n 3, 1) := by decide +kernel
theorem dL_law_526 : decode cL_law 526 = .ok (.iconst 2, 1) := by decide +kernel
theorem dL_law_527 : decode cL_law 527 = .ok (.iadd, 1) := by decide +kernel
theorem dL_law_528 : decode cL_law 528 = .ok (.iaload, 1) := by decide +kernel
theorem dL_law_529 : decode cL_law 529 = .ok (.invokevirtual 78, 3) := by decide +kernel
theorem dL_law_532 : decode cL_law 532 = .ok (.aload_n 2, 1) := by decide +kernel
theorem dL_law_533 : decode cL_law 533 = .ok (.aload_n 0, 1) := by decide +kernel
theorem dL_law_534 : decode cL_law 534 = .ok (.iload_n 3, 1) := by decide +kernel
theorem dL_law_535 : decode cL_law 535 = .ok (.iconst 1, 1) := by decide +kernel
theorem dL_law_536 : decode cL_law 536 = .ok (.iadd, 1) := by decide +kernel
theorem dL_law_537 : decode cL_law 537 = .ok (.iaload, 1) := by decide +kernel
theorem dL_law_538 : decode cL_law 538 = .ok (.aload_n 0, 1) := by decide +kernel
theorem dL_law_539 : decode cL_law 539 = .ok (.iload_n 3, 1) := by decide +kernel
theorem dL_law_540 : decode cL_law 540 = .ok (.iconst 2, 1) := by decide +kernel
theorem dL_law_541 : decode cL_law 541 = .ok (.iadd, 1) := by decide +kernel
theorem dL_law_542 : decode cL_law 542 = .ok (.iaload, 1) := by decide +kernel
theorem dL_law_543 : decode cL_law 543 = .ok (.invokevirtual 81, 3) := by decide +kernel
theorem dL_law_546 : decode cL_law 546 = .ok (.if_icmp .eq 100, 3) := by decide +kernel
theorem dL_law_549 : decode cL_law 549 = .ok (.iconst 0, 1) := by decide +kernel
theorem dL_law_550 : decode cL_law 550 = .ok (.ireturn, 1) := by decide +kernel
theorem dL_law_551 : decode cL_law 551 = .ok (.aload_n 1, 1) := by decide +kernel
theorem dL_law_552 : decode cL_law 552 = .ok (.invokevirtual 82, 3) := by decide +kernel
theorem dL_law_555 : decode cL_law 555 = .ok (.aload_n 2, 1) := by decide +kernel
theorem dL_law_556 : decode cL_law 556 = .ok (.invokevirtual 85, 3) := by decide +kernel
theorem dL_law_559 : decode cL_law 559 = .ok (.if_icmp .eq 87, 3) := by decide +kernel
theorem dL_law_562 : decode cL_law 562 = .ok (.iconst 0, 1) := by decide +kernel
theorem dL_law_563 : decode cL_law 563 = .ok (.ireturn, 1) := by decide +kernel
theorem dL_law_564 : decode cL_law 564 = .ok (.aload_n 1, 1) := by decide +kernel
theorem dL_law_565 : decode cL_law 565 = .ok (.invokevirtual 86, 3) := by decide +kernel
theorem dL_law_568 : decode cL_law 568 = .ok (.aload_n 2, 1) := by decide +kernel
theorem dL_law_569 : decode cL_law 569 = .ok (.invokevirtual 89, 3) := by decide +kernel
theorem dL_law_572 : decode cL_law 572 = .ok (.if_icmp .eq 74, 3) := by decide +kernel
theorem dL_law_575 : decode cL_law 575 = .ok (.iconst 0, 1) := by decide +kernel
theorem dL_law_576 : decode cL_law 576 = .ok (.ireturn, 1) := by decide +kernel
theorem dL_law_577 : decode cL_law 577 = .ok (.aload_n 1, 1) := by decide +kernel
theorem dL_law_578 : decode cL_law 578 = .ok (.aload_n 0, 1) := by decide +kernel
theorem dL_law_579 : decode cL_law 579 = .ok (.iload_n 3, 1) := by decide +kernel
theorem dL_law_580 : decode cL_law 580 = .ok (.iconst 1, 1) := by decide +kernel
theorem dL_law_581 : decode cL_law 581 = .ok (.iadd, 1) := by decide +kernel
theorem dL_law_582 : decode cL_law 582 = .ok (.iaload, 1) := by decide +kernel
theorem dL_law_583 : decode cL_law 583 = .ok (.invokevirtual 90, 3) := by decide +kernel
theorem dL_law_586 : decode cL_law 586 = .ok (.aload_n 2, 1) := by decide +kernel
theorem dL_law_587 : decode cL_law 587 = .ok (.aload_n 0, 1) := by decide +kernel
theorem dL_law_588 : decode cL_law 588 = .ok (.iload_n 3, 1) := by decide +kernel
theorem dL_law_589 : decode cL_law 589 = .ok (.iconst 1, 1) := by decide +kernel
theorem dL_law_590 : decode cL_law 590 = .ok (.iadd, 1) := by decide +kernel
theorem dL_law_591 : decode cL_law 591 = .ok (.iaload, 1) := by decide +kernel
theorem dL_law_592 : decode cL_law 592 = .ok (.invokevirtual 93, 3) := by decide +kernel
theorem dL_law_595 : decode cL_law 595 = .ok (.if_icmp .eq 51, 3) := by decide +kernel
theorem dL_law_598 : decode cL_law 598 = .ok (.iconst 0, 1) := by decide +kernel
theorem dL_law_599 : decode cL_law 599 = .ok (.ireturn, 1) := by decide +kernel
theorem dL_law_600 : decode cL_law 600 = .ok (.aload_n 1, 1) := by decide +kernel
theorem dL_law_601 : decode cL_law 601 = .ok (.aload_n 0, 1) := by decide +kernel
theorem dL_law_602 : decode cL_law 602 = .ok (.iload_n 3, 1) := by decide +kernel
theorem dL_law_603 : decode cL_law 603 = .ok (.iconst 1, 1) := by decide +kernel
theorem dL_law_604 : decode cL_law 604 = .ok (.iadd, 1) := by decide +kernel
theorem dL_law_605 : decode cL_law 605 = .ok (.iaload, 1) := by decide +kernel
theorem dL_law_606 : decode cL_law 606 = .ok (.invokevirtual 94, 3) := by decide +kernel
theorem dL_law_609 : decode cL_law 609 = .ok (.aload_n 2, 1) := by decide +kernel
theorem dL_law_610 : decode cL_law 610 = .ok (.aload_n 0, 1) := by decide +kernel
theorem dL_law_611 : decode cL_law 611 = .ok (.iload_n 3, 1) := by decide +kernel
theorem dL_law_612 : decode cL_law 612 = .ok (.iconst 1, 1) := by decide +kernel
theorem dL_law_613 : decode cL_law 613 = .ok (.iadd, 1) := by decide +kernel
theorem dL_law_614 : decode cL_law 614 = .ok (.iaload, 1) := by decide +kernel
theorem dL_law_615 : decode cL_law 615 = .ok (.invokevirtual 97, 3) := by decide +kernel
theorem dL_law_618 : decode cL_law 618 = .ok (.if_icmp .eq 28, 3) := by decide +kernel
theorem dL_law_621 : decode cL_law 621 = .ok (.iconst 0, 1) := by decide +kernel
theorem dL_law_622 : decode cL_law 622 = .ok (.ireturn, 1) := by decide +kernel
theorem dL_law_623 : decode cL_law 623 = .ok (.aload_n 1, 1) := by decide +kernel
theorem dL_law_624 : decode cL_law 624 = .ok (.aload_n 0, 1) := by decide +kernel
theorem dL_law_625 : decode cL_law 625 = .ok (.iload_n 3, 1) := by decide +kernel
theorem dL_law_626 : decode cL_law 626 = .ok (.iconst 1, 1) := by decide +kernel
theorem dL_law_627 : decode cL_law 627 = .ok (.iadd, 1) := by decide +kernel
theorem dL_law_628 : decode cL_law 628 = .ok (.iaload, 1) := by decide +kernel
theorem dL_law_629 : decode cL_law 629 = .ok (.invokevirtual 98, 3) := by decide +kernel
theorem dL_law_632 : decode cL_law 632 = .ok (.aload_n 2, 1) := by decide +kernel
theorem dL_law_633 : decode cL_law 633 = .ok (.aload_n 0, 1) := by decide +kernel
theorem dL_law_634 : decode cL_law 634 = .ok (.iload_n 3, 1) := by decide +kernel
theorem dL_law_635 : decode cL_law 635 = .ok (.iconst 1, 1) := by decide +kernel
theorem dL_law_636 : decode cL_law 636 = .ok (.iadd, 1) := by decide +kernel
theorem dL_law_637 : decode cL_law 637 = .ok (.iaload, 1) := by decide +kernel
theorem dL_law_638 : decode cL_law 638 = .ok (.invokevirtual 101, 3) := by decide +kernel
theorem dL_law_641 : decode cL_law 641 = .ok (.if_icmp .eq 5, 3) := by decide +kernel
theorem dL_law_644 : decode cL_law 644 = .ok (.iconst 0, 1) := by decide +kernel
theorem dL_law_645 : decode cL_law 645 = .ok (.ireturn, 1) := by decide +kernel
theorem dL_law_646 : decode cL_law 646 = .ok (.iinc 3 4, 3) := by decide +kernel
theorem dL_law_649 : decode cL_law 649 = .ok (.goto (-631), 3) := by decide +kernel
theorem dL_law_652 : decode cL_law 652 = .ok (.iconst 1, 1) := by decide +kernel
theorem dL_law_653 : decode cL_law 653 = .ok (.ireturn, 1) := by decide +kernel
end
section
/-- the tables' words that hold in every later state -/
def gtb : List Cond := lw_tbl.filter goodWord
theorem gt_of {w : Cond} (i : Nat) (h : lw_tbl[i]? = some w) (hg : goodWord w = true) : w ∈ gtb := List.mem_filter.mpr ⟨List.mem_of_getElem? h, hg⟩
theorem gtb_good {big : List Cond} (hb : ∀ w ∈ gtb, w ∈ big) : GoodIn big gtb := fun w h => ⟨hb w h, good_of_word (List.mem_filter.mp h).2⟩
theorem gtb_tbl : ∀ w ∈ gtb, w ∈ lw_tbl := fun w h => (List.mem_filter.mp h).1

theorem se_X4_letWinnersIn : Cond.selects RX4 yX4_letWinnersIn yX4_letWinnersIn ∈ gtb := gt_of 0 (by decide +kernel) (by decide +kernel)
theorem se_X4_turnBackBeaten : Cond.selects RX4 yX4_turnBackBeaten yX4_turnBackBeaten ∈ gtb := gt_of 1 (by decide +kernel) (by decide +kernel)
theorem se_X4_endLetter : Cond.selects RX4 yX4_endLetter yX4_endLetter ∈ gtb := gt_of 2 (by decide +kernel) (by decide +kernel)
theorem se_X4_letFirstsOut : Cond.selects RX4 yX4_letFirstsOut yX4_letFirstsOut ∈ gtb := gt_of 3 (by decide +kernel) (by decide +kernel)
theorem se_X5_enterNet : Cond.selects RX5 yX5_enterNet yX5_enterNet ∈ gtb := gt_of 4 (by decide +kernel) (by decide +kernel)
theorem se_X5_passStage : Cond.selects RX5 yX5_passStage yX5_passStage ∈ gtb := gt_of 5 (by decide +kernel) (by decide +kernel)
theorem se_X5_trySlot : Cond.selects RX5 yX5_trySlot yX5_trySlot ∈ gtb := gt_of 6 (by decide +kernel) (by decide +kernel)
theorem se_X5_dropsIn : Cond.selects RX5 yX5_dropsIn yX5_dropsIn ∈ gtb := gt_of 7 (by decide +kernel) (by decide +kernel)
theorem se_X5_explainsAllSeen : Cond.selects RX5 yX5_explainsAllSeen yX5_explainsAllSeen ∈ gtb := gt_of 8 (by decide +kernel) (by decide +kernel)
theorem se_X6_notes : Cond.selects RX6 yX6_notes yX6_notes ∈ gtb := gt_of 9 (by decide +kernel) (by decide +kernel)
theorem se_X6_writes : Cond.selects RX6 yX6_writes yX6_writes ∈ gtb := gt_of 10 (by decide +kernel) (by decide +kernel)
theorem se_X6_atLine : Cond.selects RX6 yX6_atLine yX6_atLine ∈ gtb := gt_of 11 (by decide +kernel) (by decide +kernel)
theorem se_X6_of : Cond.selects RX6 yX6_of yX6_of ∈ gtb := gt_of 12 (by decide +kernel) (by decide +kernel)
theorem se_X6_sets : Cond.selects RX6 yX6_sets yX6_sets ∈ gtb := gt_of 13 (by decide +kernel) (by decide +kernel)
theorem se_X6_goes : Cond.selects RX6 yX6_goes yX6_goes ∈ gtb := gt_of 14 (by decide +kernel) (by decide +kernel)
theorem se_X6_sorts : Cond.selects RX6 yX6_sorts yX6_sorts ∈ gtb := gt_of 15 (by decide +kernel) (by decide +kernel)
theorem se_X6_isIn : Cond.selects RX6 yX6_isIn yX6_isIn ∈ gtb := gt_of 16 (by decide +kernel) (by decide +kernel)
theorem se_X6_isSooner : Cond.selects RX6 yX6_isSooner yX6_isSooner ∈ gtb := gt_of 17 (by decide +kernel) (by decide +kernel)
theorem se_X6_isAhead : Cond.selects RX6 yX6_isAhead yX6_isAhead ∈ gtb := gt_of 18 (by decide +kernel) (by decide +kernel)
theorem se_X6_wins : Cond.selects RX6 yX6_wins yX6_wins ∈ gtb := gt_of 19 (by decide +kernel) (by decide +kernel)
theorem se_X6_manyAt : Cond.selects RX6 yX6_manyAt yX6_manyAt ∈ gtb := gt_of 20 (by decide +kernel) (by decide +kernel)
theorem se_X6_turns : Cond.selects RX6 yX6_turns yX6_turns ∈ gtb := gt_of 21 (by decide +kernel) (by decide +kernel)
theorem se_X6_queued : Cond.selects RX6 yX6_queued yX6_queued ∈ gtb := gt_of 22 (by decide +kernel) (by decide +kernel)
theorem se_X6_comesBack : Cond.selects RX6 yX6_comesBack yX6_comesBack ∈ gtb := gt_of 23 (by decide +kernel) (by decide +kernel)
theorem se_X6_setStraight : Cond.selects RX6 yX6_setStraight yX6_setStraight ∈ gtb := gt_of 24 (by decide +kernel) (by decide +kernel)
theorem se_X6_isOver : Cond.selects RX6 yX6_isOver yX6_isOver ∈ gtb := gt_of 25 (by decide +kernel) (by decide +kernel)
theorem se_X6_lostBy : Cond.selects RX6 yX6_lostBy yX6_lostBy ∈ gtb := gt_of 26 (by decide +kernel) (by decide +kernel)
theorem se_X6_outWithout : Cond.selects RX6 yX6_outWithout yX6_outWithout ∈ gtb := gt_of 27 (by decide +kernel) (by decide +kernel)
theorem ini_L : Cond.initialized RL ∈ gtb := gt_of 28 (by decide +kernel) (by decide +kernel)
theorem ini_X5 : Cond.initialized RX5 ∈ gtb := gt_of 29 (by decide +kernel) (by decide +kernel)
theorem ini_X0 : Cond.initialized RX0 ∈ gtb := gt_of 30 (by decide +kernel) (by decide +kernel)
theorem ini_X2 : Cond.initialized RX2 ∈ gtb := gt_of 31 (by decide +kernel) (by decide +kernel)
theorem ini_X4 : Cond.initialized RX4 ∈ gtb := gt_of 32 (by decide +kernel) (by decide +kernel)
theorem ini_X1 : Cond.initialized RX1 ∈ gtb := gt_of 33 (by decide +kernel) (by decide +kernel)
theorem ini_X3 : Cond.initialized RX3 ∈ gtb := gt_of 34 (by decide +kernel) (by decide +kernel)
theorem ini_X6 : Cond.initialized RX6 ∈ gtb := gt_of 35 (by decide +kernel) (by decide +kernel)
theorem ini_J10 : Cond.initialized RJ10 ∈ gtb := gt_of 36 (by decide +kernel) (by decide +kernel)
theorem ini_J9 : Cond.initialized RJ9 ∈ gtb := gt_of 37 (by decide +kernel) (by decide +kernel)
theorem cl_L_7 : Cond.classLink RL 7 RX5 ∈ gtb := gt_of 38 (by decide +kernel) (by decide +kernel)
theorem ins_X5 : Cond.instantiable RX5 8 ∈ gtb := gt_of 39 (by decide +kernel) (by decide +kernel)
theorem ml_L_9 : Cond.methodLink RL 9 yX5_init ∈ gtb := gt_of 40 (by decide +kernel) (by decide +kernel)
theorem im_X5_init : Cond.instanceMethod yX5_init ∈ gtb := gt_of 41 (by decide +kernel) (by decide +kernel)
theorem co_X5_init : Cond.code yX5_init cX5_init 2 none ∈ gtb := gt_of 42 (by decide +kernel) (by decide +kernel)
theorem ml_X5_3 : Cond.methodLink RX5 3 objectInit ∈ gtb := gt_of 43 (by decide +kernel) (by decide +kernel)
theorem im_objectInit : Cond.instanceMethod objectInit ∈ gtb := gt_of 44 (by decide +kernel) (by decide +kernel)
theorem co_objectInit : Cond.code objectInit ⟨#[0xb1]⟩ 1 none ∈ gtb := gt_of 45 (by decide +kernel) (by decide +kernel)
theorem cl_X5_9 : Cond.classLink RX5 9 RX0 ∈ gtb := gt_of 46 (by decide +kernel) (by decide +kernel)
theorem ins_X0 : Cond.instantiable RX0 14 ∈ gtb := gt_of 47 (by decide +kernel) (by decide +kernel)
theorem im_X0_init : Cond.instanceMethod yX0_init ∈ gtb := gt_of 49 (by decide +kernel) (by decide +kernel)
theorem co_X0_init : Cond.code yX0_init cX0_init 1 none ∈ gtb := gt_of 50 (by decide +kernel) (by decide +kernel)
theorem ml_X0_3 : Cond.methodLink RX0 3 objectInit ∈ gtb := gt_of 51 (by decide +kernel) (by decide +kernel)
theorem cl_X0_46 : Cond.classLink RX0 46 RX2 ∈ gtb := gt_of 52 (by decide +kernel) (by decide +kernel)
theorem ins_X2 : Cond.instantiable RX2 2 ∈ gtb := gt_of 53 (by decide +kernel) (by decide +kernel)
theorem im_X2_init : Cond.instanceMethod yX2_init ∈ gtb := gt_of 55 (by decide +kernel) (by decide +kernel)
theorem co_X2_init : Cond.code yX2_init cX2_init 1 none ∈ gtb := gt_of 56 (by decide +kernel) (by decide +kernel)
theorem ml_X2_3 : Cond.methodLink RX2 3 objectInit ∈ gtb := gt_of 57 (by decide +kernel) (by decide +kernel)
theorem fl_X2_9 : Cond.fieldLink RX2 9 "LetterFabric$Row" "numbers" "[I" ∈ gtb := gt_of 58 (by decide +kernel) (by decide +kernel)
theorem fl_X4_55 : Cond.fieldLink RX4 55 "LetterFabric$Row" "numbers" "[I" ∈ gtb := gt_of 59 (by decide +kernel) (by decide +kernel)
theorem fl_X0_72 : Cond.fieldLink RX0 72 "LetterFabric$Row" "numbers" "[I" ∈ gtb := gt_of 60 (by decide +kernel) (by decide +kernel)
theorem fl_X4_21 : Cond.fieldLink RX4 21 "LetterFabric$Row" "size" "I" ∈ gtb := gt_of 61 (by decide +kernel) (by decide +kernel)
theorem fl_X2_15 : Cond.fieldLink RX2 15 "LetterFabric$Row" "size" "I" ∈ gtb := gt_of 62 (by decide +kernel) (by decide +kernel)
theorem fl_X0_59 : Cond.fieldLink RX0 59 "LetterFabric$Row" "size" "I" ∈ gtb := gt_of 63 (by decide +kernel) (by decide +kernel)
theorem arr_int : Cond.arrayClass .int ∈ gtb := gt_of 69 (by decide +kernel) (by decide +kernel)
theorem fl_X0_9 : Cond.fieldLink RX0 9 "LetterFabric$Fabric" "nets" "I" ∈ gtb := gt_of 70 (by decide +kernel) (by decide +kernel)
theorem fl_X5_56 : Cond.fieldLink RX5 56 "LetterFabric$Fabric" "nets" "I" ∈ gtb := gt_of 71 (by decide +kernel) (by decide +kernel)
theorem fl_X4_61 : Cond.fieldLink RX4 61 "LetterFabric$Fabric" "nets" "I" ∈ gtb := gt_of 72 (by decide +kernel) (by decide +kernel)
theorem fl_X0_15 : Cond.fieldLink RX0 15 "LetterFabric$Fabric" "mayTurn" "I" ∈ gtb := gt_of 73 (by decide +kernel) (by decide +kernel)
theorem fl_X5_60 : Cond.fieldLink RX5 60 "LetterFabric$Fabric" "mayTurn" "I" ∈ gtb := gt_of 74 (by decide +kernel) (by decide +kernel)
theorem fl_X4_78 : Cond.fieldLink RX4 78 "LetterFabric$Fabric" "mayTurn" "I" ∈ gtb := gt_of 75 (by decide +kernel) (by decide +kernel)
theorem fl_X0_18 : Cond.fieldLink RX0 18 "LetterFabric$Fabric" "room" "I" ∈ gtb := gt_of 76 (by decide +kernel) (by decide +kernel)
theorem fl_X5_63 : Cond.fieldLink RX5 63 "LetterFabric$Fabric" "room" "I" ∈ gtb := gt_of 77 (by decide +kernel) (by decide +kernel)
theorem fl_X4_67 : Cond.fieldLink RX4 67 "LetterFabric$Fabric" "room" "I" ∈ gtb := gt_of 78 (by decide +kernel) (by decide +kernel)
theorem fl_X0_53 : Cond.fieldLink RX0 53 "LetterFabric$Fabric" "now" "I" ∈ gtb := gt_of 79 (by decide +kernel) (by decide +kernel)
theorem fl_X5_88 : Cond.fieldLink RX5 88 "LetterFabric$Fabric" "now" "I" ∈ gtb := gt_of 80 (by decide +kernel) (by decide +kernel)
theorem fl_X4_52 : Cond.fieldLink RX4 52 "LetterFabric$Fabric" "now" "I" ∈ gtb := gt_of 81 (by decide +kernel) (by decide +kernel)
theorem fl_X4_25 : Cond.fieldLink RX4 25 "LetterFabric$Fabric" "letters" "I" ∈ gtb := gt_of 82 (by decide +kernel) (by decide +kernel)
theorem fl_X0_56 : Cond.fieldLink RX0 56 "LetterFabric$Fabric" "letters" "I" ∈ gtb := gt_of 83 (by decide +kernel) (by decide +kernel)
theorem fl_X5_81 : Cond.fieldLink RX5 81 "LetterFabric$Fabric" "letters" "I" ∈ gtb := gt_of 84 (by decide +kernel) (by decide +kernel)
theorem fl_X0_21 : Cond.fieldLink RX0 21 "LetterFabric$Fabric" "places" "[I" ∈ gtb := gt_of 85 (by decide +kernel) (by decide +kernel)
theorem fl_X4_30 : Cond.fieldLink RX4 30 "LetterFabric$Fabric" "places" "[I" ∈ gtb := gt_of 86 (by decide +kernel) (by decide +kernel)
theorem fl_X5_109 : Cond.fieldLink RX5 109 "LetterFabric$Fabric" "places" "[I" ∈ gtb := gt_of 87 (by decide +kernel) (by decide +kernel)
theorem fl_X0_25 : Cond.fieldLink RX0 25 "LetterFabric$Fabric" "fromLine" "[I" ∈ gtb := gt_of 88 (by decide +kernel) (by decide +kernel)
theorem fl_X5_112 : Cond.fieldLink RX5 112 "LetterFabric$Fabric" "fromLine" "[I" ∈ gtb := gt_of 89 (by decide +kernel) (by decide +kernel)
theorem fl_X0_28 : Cond.fieldLink RX0 28 "LetterFabric$Fabric" "toAddress" "[I" ∈ gtb := gt_of 90 (by decide +kernel) (by decide +kernel)
theorem fl_X4_58 : Cond.fieldLink RX4 58 "LetterFabric$Fabric" "toAddress" "[I" ∈ gtb := gt_of 91 (by decide +kernel) (by decide +kernel)
theorem fl_X5_115 : Cond.fieldLink RX5 115 "LetterFabric$Fabric" "toAddress" "[I" ∈ gtb := gt_of 92 (by decide +kernel) (by decide +kernel)
theorem fl_X0_31 : Cond.fieldLink RX0 31 "LetterFabric$Fabric" "priorities" "[I" ∈ gtb := gt_of 93 (by decide +kernel) (by decide +kernel)
theorem fl_X5_118 : Cond.fieldLink RX5 118 "LetterFabric$Fabric" "priorities" "[I" ∈ gtb := gt_of 94 (by decide +kernel) (by decide +kernel)
theorem fl_X0_34 : Cond.fieldLink RX0 34 "LetterFabric$Fabric" "putIn" "[I" ∈ gtb := gt_of 95 (by decide +kernel) (by decide +kernel)
theorem fl_X5_121 : Cond.fieldLink RX5 121 "LetterFabric$Fabric" "putIn" "[I" ∈ gtb := gt_of 96 (by decide +kernel) (by decide +kernel)
theorem fl_X0_37 : Cond.fieldLink RX0 37 "LetterFabric$Fabric" "endedIn" "[I" ∈ gtb := gt_of 97 (by decide +kernel) (by decide +kernel)
theorem fl_X5_124 : Cond.fieldLink RX5 124 "LetterFabric$Fabric" "endedIn" "[I" ∈ gtb := gt_of 98 (by decide +kernel) (by decide +kernel)
theorem fl_X4_88 : Cond.fieldLink RX4 88 "LetterFabric$Fabric" "endedIn" "[I" ∈ gtb := gt_of 99 (by decide +kernel) (by decide +kernel)
theorem fl_X0_40 : Cond.fieldLink RX0 40 "LetterFabric$Fabric" "rounds" "[I" ∈ gtb := gt_of 100 (by decide +kernel) (by decide +kernel)
theorem fl_X4_81 : Cond.fieldLink RX4 81 "LetterFabric$Fabric" "rounds" "[I" ∈ gtb := gt_of 101 (by decide +kernel) (by decide +kernel)
theorem fl_X5_127 : Cond.fieldLink RX5 127 "LetterFabric$Fabric" "rounds" "[I" ∈ gtb := gt_of 102 (by decide +kernel) (by decide +kernel)
theorem fl_X0_43 : Cond.fieldLink RX0 43 "LetterFabric$Fabric" "tally" "[I" ∈ gtb := gt_of 103 (by decide +kernel) (by decide +kernel)
theorem fl_X5_91 : Cond.fieldLink RX5 91 "LetterFabric$Fabric" "tally" "[I" ∈ gtb := gt_of 104 (by decide +kernel) (by decide +kernel)
theorem fl_X0_49 : Cond.fieldLink RX0 49 "LetterFabric$Fabric" "queued" "LLetterFabric$Row;" ∈ gtb := gt_of 105 (by decide +kernel) (by decide +kernel)
theorem fl_X4_64 : Cond.fieldLink RX4 64 "LetterFabric$Fabric" "queued" "LLetterFabric$Row;" ∈ gtb := gt_of 106 (by decide +kernel) (by decide +kernel)
theorem cl_X5_19 : Cond.classLink RX5 19 RX4 ∈ gtb := gt_of 136 (by decide +kernel) (by decide +kernel)
theorem ins_X4 : Cond.instantiable RX4 2 ∈ gtb := gt_of 137 (by decide +kernel) (by decide +kernel)
theorem im_X4_init : Cond.instanceMethod yX4_init ∈ gtb := gt_of 139 (by decide +kernel) (by decide +kernel)
theorem co_X4_init : Cond.code yX4_init cX4_init 1 none ∈ gtb := gt_of 140 (by decide +kernel) (by decide +kernel)
theorem ml_X4_3 : Cond.methodLink RX4 3 objectInit ∈ gtb := gt_of 141 (by decide +kernel) (by decide +kernel)
theorem cl_X4_9 : Cond.classLink RX4 9 RX2 ∈ gtb := gt_of 142 (by decide +kernel) (by decide +kernel)
theorem fl_X4_12 : Cond.fieldLink RX4 12 "LetterFabric$Sorter" "waiting" "LLetterFabric$Row;" ∈ gtb := gt_of 144 (by decide +kernel) (by decide +kernel)
theorem fl_X4_18 : Cond.fieldLink RX4 18 "LetterFabric$Sorter" "beaten" "LLetterFabric$Row;" ∈ gtb := gt_of 145 (by decide +kernel) (by decide +kernel)
theorem cl_X5_26 : Cond.classLink RX5 26 RX1 ∈ gtb := gt_of 151 (by decide +kernel) (by decide +kernel)
theorem ins_X1 : Cond.instantiable RX1 3 ∈ gtb := gt_of 152 (by decide +kernel) (by decide +kernel)
theorem ml_X5_28 : Cond.methodLink RX5 28 yX1_init ∈ gtb := gt_of 153 (by decide +kernel) (by decide +kernel)
theorem im_X1_init : Cond.instanceMethod yX1_init ∈ gtb := gt_of 154 (by decide +kernel) (by decide +kernel)
theorem co_X1_init : Cond.code yX1_init cX1_init 2 none ∈ gtb := gt_of 155 (by decide +kernel) (by decide +kernel)
theorem ml_X1_3 : Cond.methodLink RX1 3 objectInit ∈ gtb := gt_of 156 (by decide +kernel) (by decide +kernel)
theorem cl_X1_9 : Cond.classLink RX1 9 RX0 ∈ gtb := gt_of 157 (by decide +kernel) (by decide +kernel)
theorem fl_X1_11 : Cond.fieldLink RX1 11 "LetterFabric$Past" "ring" "[LLetterFabric$Fabric;" ∈ gtb := gt_of 160 (by decide +kernel) (by decide +kernel)
theorem fl_X1_18 : Cond.fieldLink RX1 18 "LetterFabric$Past" "next" "I" ∈ gtb := gt_of 161 (by decide +kernel) (by decide +kernel)
theorem fl_X1_26 : Cond.fieldLink RX1 26 "LetterFabric$Past" "known" "I" ∈ gtb := gt_of 162 (by decide +kernel) (by decide +kernel)
theorem fl_X5_97 : Cond.fieldLink RX5 97 "LetterFabric$Past" "known" "I" ∈ gtb := gt_of 163 (by decide +kernel) (by decide +kernel)
theorem cl_X5_33 : Cond.classLink RX5 33 RX3 ∈ gtb := gt_of 171 (by decide +kernel) (by decide +kernel)
theorem ins_X3 : Cond.instantiable RX3 3 ∈ gtb := gt_of 172 (by decide +kernel) (by decide +kernel)
theorem im_X3_init : Cond.instanceMethod yX3_init ∈ gtb := gt_of 174 (by decide +kernel) (by decide +kernel)
theorem co_X3_init : Cond.code yX3_init cX3_init 1 none ∈ gtb := gt_of 175 (by decide +kernel) (by decide +kernel)
theorem ml_X3_3 : Cond.methodLink RX3 3 objectInit ∈ gtb := gt_of 176 (by decide +kernel) (by decide +kernel)
theorem fl_X3_9 : Cond.fieldLink RX3 9 "LetterFabric$Sightings" "slots" "[I" ∈ gtb := gt_of 177 (by decide +kernel) (by decide +kernel)
theorem fl_X3_15 : Cond.fieldLink RX3 15 "LetterFabric$Sightings" "outs" "[I" ∈ gtb := gt_of 178 (by decide +kernel) (by decide +kernel)
theorem fl_X3_18 : Cond.fieldLink RX3 18 "LetterFabric$Sightings" "size" "I" ∈ gtb := gt_of 179 (by decide +kernel) (by decide +kernel)
theorem fl_X5_106 : Cond.fieldLink RX5 106 "LetterFabric$Sightings" "size" "I" ∈ gtb := gt_of 180 (by decide +kernel) (by decide +kernel)
theorem fl_X5_12 : Cond.fieldLink RX5 12 "LetterFabric" "fabric" "LLetterFabric$Fabric;" ∈ gtb := gt_of 188 (by decide +kernel) (by decide +kernel)
theorem fl_X5_16 : Cond.fieldLink RX5 16 "LetterFabric" "trial" "LLetterFabric$Fabric;" ∈ gtb := gt_of 189 (by decide +kernel) (by decide +kernel)
theorem fl_X5_22 : Cond.fieldLink RX5 22 "LetterFabric" "sorter" "LLetterFabric$Sorter;" ∈ gtb := gt_of 190 (by decide +kernel) (by decide +kernel)
theorem fl_X5_29 : Cond.fieldLink RX5 29 "LetterFabric" "past" "LLetterFabric$Past;" ∈ gtb := gt_of 191 (by decide +kernel) (by decide +kernel)
theorem fl_X5_36 : Cond.fieldLink RX5 36 "LetterFabric" "seen" "LLetterFabric$Sightings;" ∈ gtb := gt_of 192 (by decide +kernel) (by decide +kernel)
theorem fl_X5_40 : Cond.fieldLink RX5 40 "LetterFabric" "images" "[LLetterFabric$Fabric;" ∈ gtb := gt_of 193 (by decide +kernel) (by decide +kernel)
theorem fl_X5_44 : Cond.fieldLink RX5 44 "LetterFabric" "kept" "[Z" ∈ gtb := gt_of 194 (by decide +kernel) (by decide +kernel)
theorem fl_X5_48 : Cond.fieldLink RX5 48 "LetterFabric" "netPlaces" "[I" ∈ gtb := gt_of 195 (by decide +kernel) (by decide +kernel)
theorem arr_boolean : Cond.arrayClass .boolean ∈ gtb := gt_of 213 (by decide +kernel) (by decide +kernel)
theorem ml_L_13 : Cond.methodLink RL 13 yX5_tells ∈ gtb := gt_of 214 (by decide +kernel) (by decide +kernel)
theorem im_X5_tells : Cond.instanceMethod yX5_tells ∈ gtb := gt_of 215 (by decide +kernel) (by decide +kernel)
theorem se_X5_tells : Cond.selects RX5 yX5_tells yX5_tells ∈ gtb := gt_of 216 (by decide +kernel) (by decide +kernel)
theorem co_X5_tells : Cond.code yX5_tells cX5_tells 4 (some .int) ∈ gtb := gt_of 217 (by decide +kernel) (by decide +kernel)
theorem ml_X5_52 : Cond.methodLink RX5 52 yX5_isWithin ∈ gtb := gt_of 218 (by decide +kernel) (by decide +kernel)
theorem sm_X5_isWithin : Cond.static yX5_isWithin ∈ gtb := gt_of 219 (by decide +kernel) (by decide +kernel)
theorem co_X5_isWithin : Cond.code yX5_isWithin cX5_isWithin 3 (some .boolean) ∈ gtb := gt_of 220 (by decide +kernel) (by decide +kernel)
theorem ml_X5_66 : Cond.methodLink RX5 66 yX1_remember ∈ gtb := gt_of 221 (by decide +kernel) (by decide +kernel)
theorem im_X1_remember : Cond.instanceMethod yX1_remember ∈ gtb := gt_of 222 (by decide +kernel) (by decide +kernel)
theorem se_X1_remember : Cond.selects RX1 yX1_remember yX1_remember ∈ gtb := gt_of 223 (by decide +kernel) (by decide +kernel)
theorem co_X1_remember : Cond.code yX1_remember cX1_remember 2 none ∈ gtb := gt_of 224 (by decide +kernel) (by decide +kernel)
theorem ml_X1_22 : Cond.methodLink RX1 22 yX0_becomes ∈ gtb := gt_of 225 (by decide +kernel) (by decide +kernel)
theorem im_X0_becomes : Cond.instanceMethod yX0_becomes ∈ gtb := gt_of 226 (by decide +kernel) (by decide +kernel)
theorem se_X0_becomes : Cond.selects RX0 yX0_becomes yX0_becomes ∈ gtb := gt_of 227 (by decide +kernel) (by decide +kernel)
theorem co_X0_becomes : Cond.code yX0_becomes cX0_becomes 2 none ∈ gtb := gt_of 228 (by decide +kernel) (by decide +kernel)
theorem ml_X0_62 : Cond.methodLink RX0 62 arraycopyName ∈ gtb := gt_of 229 (by decide +kernel) (by decide +kernel)
theorem sm_arraycopy : Cond.static arraycopyName ∈ gtb := gt_of 230 (by decide +kernel) (by decide +kernel)
theorem nat_arraycopy : Cond.native arraycopyName ∈ gtb := gt_of 231 (by decide +kernel) (by decide +kernel)
theorem ml_X0_68 : Cond.methodLink RX0 68 yX2_becomes ∈ gtb := gt_of 232 (by decide +kernel) (by decide +kernel)
theorem im_X2_becomes : Cond.instanceMethod yX2_becomes ∈ gtb := gt_of 233 (by decide +kernel) (by decide +kernel)
theorem se_X2_becomes : Cond.selects RX2 yX2_becomes yX2_becomes ∈ gtb := gt_of 234 (by decide +kernel) (by decide +kernel)
theorem co_X2_becomes : Cond.code yX2_becomes cX2_becomes 2 none ∈ gtb := gt_of 235 (by decide +kernel) (by decide +kernel)
theorem ml_X2_19 : Cond.methodLink RX2 19 arraycopyName ∈ gtb := gt_of 236 (by decide +kernel) (by decide +kernel)
theorem ml_X1_29 : Cond.methodLink RX1 29 Lib.Math.min.name ∈ gtb := gt_of 237 (by decide +kernel) (by decide +kernel)
theorem sm_J9_min_7cf53 : Cond.static Lib.Math.min.name ∈ gtb := gt_of 238 (by decide +kernel) (by decide +kernel)
theorem co_J9_min_7cf53 : Cond.code Lib.Math.min.name Lib.Math.min.code 2 (some .int) ∈ gtb := gt_of 239 (by decide +kernel) (by decide +kernel)
theorem ml_L_18 : Cond.methodLink RL 18 yX5_puts ∈ gtb := gt_of 240 (by decide +kernel) (by decide +kernel)
theorem im_X5_puts : Cond.instanceMethod yX5_puts ∈ gtb := gt_of 241 (by decide +kernel) (by decide +kernel)
theorem se_X5_puts : Cond.selects RX5 yX5_puts yX5_puts ∈ gtb := gt_of 242 (by decide +kernel) (by decide +kernel)
theorem co_X5_puts : Cond.code yX5_puts cX5_puts 4 (some .int) ∈ gtb := gt_of 243 (by decide +kernel) (by decide +kernel)
theorem ml_X5_70 : Cond.methodLink RX5 70 yX5_isLine ∈ gtb := gt_of 244 (by decide +kernel) (by decide +kernel)
theorem sm_X5_isLine : Cond.static yX5_isLine ∈ gtb := gt_of 245 (by decide +kernel) (by decide +kernel)
theorem co_X5_isLine : Cond.code yX5_isLine cX5_isLine 1 (some .boolean) ∈ gtb := gt_of 246 (by decide +kernel) (by decide +kernel)
theorem ml_X5_74 : Cond.methodLink RX5 74 yX5_isAddress ∈ gtb := gt_of 247 (by decide +kernel) (by decide +kernel)
theorem sm_X5_isAddress : Cond.static yX5_isAddress ∈ gtb := gt_of 248 (by decide +kernel) (by decide +kernel)
theorem co_X5_isAddress : Cond.code yX5_isAddress cX5_isAddress 1 (some .boolean) ∈ gtb := gt_of 249 (by decide +kernel) (by decide +kernel)
theorem ml_X5_77 : Cond.methodLink RX5 77 yX0_letterAt ∈ gtb := gt_of 250 (by decide +kernel) (by decide +kernel)
theorem im_X0_letterAt : Cond.instanceMethod yX0_letterAt ∈ gtb := gt_of 251 (by decide +kernel) (by decide +kernel)
theorem se_X0_letterAt : Cond.selects RX0 yX0_letterAt yX0_letterAt ∈ gtb := gt_of 252 (by decide +kernel) (by decide +kernel)
theorem co_X0_letterAt : Cond.code yX0_letterAt cX0_letterAt 3 (some .int) ∈ gtb := gt_of 253 (by decide +kernel) (by decide +kernel)
theorem ml_X5_84 : Cond.methodLink RX5 84 yX0_addLetter ∈ gtb := gt_of 254 (by decide +kernel) (by decide +kernel)
theorem im_X0_addLetter : Cond.instanceMethod yX0_addLetter ∈ gtb := gt_of 255 (by decide +kernel) (by decide +kernel)
theorem se_X0_addLetter : Cond.selects RX0 yX0_addLetter yX0_addLetter ∈ gtb := gt_of 256 (by decide +kernel) (by decide +kernel)
theorem co_X0_addLetter : Cond.code yX0_addLetter cX0_addLetter 5 (some .int) ∈ gtb := gt_of 257 (by decide +kernel) (by decide +kernel)
theorem ml_L_22 : Cond.methodLink RL 22 yX5_slot ∈ gtb := gt_of 258 (by decide +kernel) (by decide +kernel)
theorem im_X5_slot : Cond.instanceMethod yX5_slot ∈ gtb := gt_of 259 (by decide +kernel) (by decide +kernel)
theorem se_X5_slot : Cond.selects RX5 yX5_slot yX5_slot ∈ gtb := gt_of 260 (by decide +kernel) (by decide +kernel)
theorem co_X5_slot : Cond.code yX5_slot cX5_slot 2 (some .int) ∈ gtb := gt_of 261 (by decide +kernel) (by decide +kernel)
theorem ml_X5_94 : Cond.methodLink RX5 94 yX4_passSlot ∈ gtb := gt_of 262 (by decide +kernel) (by decide +kernel)
theorem im_X4_passSlot : Cond.instanceMethod yX4_passSlot ∈ gtb := gt_of 263 (by decide +kernel) (by decide +kernel)
theorem se_X4_passSlot : Cond.selects RX4 yX4_passSlot yX4_passSlot ∈ gtb := gt_of 264 (by decide +kernel) (by decide +kernel)
theorem co_X4_passSlot : Cond.code yX4_passSlot cX4_passSlot 2 none ∈ gtb := gt_of 265 (by decide +kernel) (by decide +kernel)
theorem ml_X4_38 : Cond.methodLink RX4 38 yX4_sortWaiting ∈ gtb := gt_of 266 (by decide +kernel) (by decide +kernel)
theorem im_X4_sortWaiting : Cond.instanceMethod yX4_sortWaiting ∈ gtb := gt_of 267 (by decide +kernel) (by decide +kernel)
theorem se_X4_sortWaiting : Cond.selects RX4 yX4_sortWaiting yX4_sortWaiting ∈ gtb := gt_of 268 (by decide +kernel) (by decide +kernel)
theorem co_X4_sortWaiting : Cond.code yX4_sortWaiting cX4_sortWaiting 3 (some (.object "LetterFabric$Row")) ∈ gtb := gt_of 269 (by decide +kernel) (by decide +kernel)
theorem ml_X4_34 : Cond.methodLink RX4 34 yX2_addInOrder ∈ gtb := gt_of 270 (by decide +kernel) (by decide +kernel)
theorem im_X2_addInOrder : Cond.instanceMethod yX2_addInOrder ∈ gtb := gt_of 271 (by decide +kernel) (by decide +kernel)
theorem se_X2_addInOrder : Cond.selects RX2 yX2_addInOrder yX2_addInOrder ∈ gtb := gt_of 272 (by decide +kernel) (by decide +kernel)
theorem co_X2_addInOrder : Cond.code yX2_addInOrder cX2_addInOrder 5 none ∈ gtb := gt_of 273 (by decide +kernel) (by decide +kernel)
theorem ml_X2_25 : Cond.methodLink RX2 25 yX0_goesBefore ∈ gtb := gt_of 274 (by decide +kernel) (by decide +kernel)
theorem im_X0_goesBefore : Cond.instanceMethod yX0_goesBefore ∈ gtb := gt_of 275 (by decide +kernel) (by decide +kernel)
theorem se_X0_goesBefore : Cond.selects RX0 yX0_goesBefore yX0_goesBefore ∈ gtb := gt_of 276 (by decide +kernel) (by decide +kernel)
theorem co_X0_goesBefore : Cond.code yX0_goesBefore cX0_goesBefore 4 (some .boolean) ∈ gtb := gt_of 277 (by decide +kernel) (by decide +kernel)
theorem ml_X4_42 : Cond.methodLink RX4 42 yX4_letWinnersIn ∈ gtb := gt_of 278 (by decide +kernel) (by decide +kernel)
theorem im_X4_letWinnersIn : Cond.instanceMethod yX4_letWinnersIn ∈ gtb := gt_of 280 (by decide +kernel) (by decide +kernel)
theorem co_X4_letWinnersIn : Cond.code yX4_letWinnersIn cX4_letWinnersIn 6 none ∈ gtb := gt_of 281 (by decide +kernel) (by decide +kernel)
theorem ml_X4_70 : Cond.methodLink RX4 70 yX2_add ∈ gtb := gt_of 282 (by decide +kernel) (by decide +kernel)
theorem im_X2_add : Cond.instanceMethod yX2_add ∈ gtb := gt_of 283 (by decide +kernel) (by decide +kernel)
theorem se_X2_add : Cond.selects RX2 yX2_add yX2_add ∈ gtb := gt_of 284 (by decide +kernel) (by decide +kernel)
theorem co_X2_add : Cond.code yX2_add cX2_add 2 none ∈ gtb := gt_of 285 (by decide +kernel) (by decide +kernel)
theorem ml_X4_74 : Cond.methodLink RX4 74 yX0_moveLetter ∈ gtb := gt_of 286 (by decide +kernel) (by decide +kernel)
theorem im_X0_moveLetter : Cond.instanceMethod yX0_moveLetter ∈ gtb := gt_of 287 (by decide +kernel) (by decide +kernel)
theorem se_X0_moveLetter : Cond.selects RX0 yX0_moveLetter yX0_moveLetter ∈ gtb := gt_of 288 (by decide +kernel) (by decide +kernel)
theorem co_X0_moveLetter : Cond.code yX0_moveLetter cX0_moveLetter 3 none ∈ gtb := gt_of 289 (by decide +kernel) (by decide +kernel)
theorem ml_X4_46 : Cond.methodLink RX4 46 yX4_turnBackBeaten ∈ gtb := gt_of 290 (by decide +kernel) (by decide +kernel)
theorem im_X4_turnBackBeaten : Cond.instanceMethod yX4_turnBackBeaten ∈ gtb := gt_of 292 (by decide +kernel) (by decide +kernel)
theorem co_X4_turnBackBeaten : Cond.code yX4_turnBackBeaten cX4_turnBackBeaten 4 none ∈ gtb := gt_of 293 (by decide +kernel) (by decide +kernel)
theorem ml_X4_84 : Cond.methodLink RX4 84 yX4_endLetter ∈ gtb := gt_of 294 (by decide +kernel) (by decide +kernel)
theorem im_X4_endLetter : Cond.instanceMethod yX4_endLetter ∈ gtb := gt_of 296 (by decide +kernel) (by decide +kernel)
theorem co_X4_endLetter : Cond.code yX4_endLetter cX4_endLetter 4 none ∈ gtb := gt_of 297 (by decide +kernel) (by decide +kernel)
theorem ml_X4_49 : Cond.methodLink RX4 49 yX4_letFirstsOut ∈ gtb := gt_of 298 (by decide +kernel) (by decide +kernel)
theorem im_X4_letFirstsOut : Cond.instanceMethod yX4_letFirstsOut ∈ gtb := gt_of 300 (by decide +kernel) (by decide +kernel)
theorem co_X4_letFirstsOut : Cond.code yX4_letFirstsOut cX4_letFirstsOut 8 none ∈ gtb := gt_of 301 (by decide +kernel) (by decide +kernel)
theorem ml_L_27 : Cond.methodLink RL 27 yX5_undo ∈ gtb := gt_of 302 (by decide +kernel) (by decide +kernel)
theorem im_X5_undo : Cond.instanceMethod yX5_undo ∈ gtb := gt_of 303 (by decide +kernel) (by decide +kernel)
theorem se_X5_undo : Cond.selects RX5 yX5_undo yX5_undo ∈ gtb := gt_of 304 (by decide +kernel) (by decide +kernel)
theorem co_X5_undo : Cond.code yX5_undo cX5_undo 1 (some .int) ∈ gtb := gt_of 305 (by decide +kernel) (by decide +kernel)
theorem ml_X5_100 : Cond.methodLink RX5 100 yX1_giveBack ∈ gtb := gt_of 306 (by decide +kernel) (by decide +kernel)
theorem im_X1_giveBack : Cond.instanceMethod yX1_giveBack ∈ gtb := gt_of 307 (by decide +kernel) (by decide +kernel)
theorem se_X1_giveBack : Cond.selects RX1 yX1_giveBack yX1_giveBack ∈ gtb := gt_of 308 (by decide +kernel) (by decide +kernel)
theorem co_X1_giveBack : Cond.code yX1_giveBack cX1_giveBack 2 none ∈ gtb := gt_of 309 (by decide +kernel) (by decide +kernel)
theorem ml_X1_35 : Cond.methodLink RX1 35 Lib.Math.max.name ∈ gtb := gt_of 310 (by decide +kernel) (by decide +kernel)
theorem sm_J9_max_7cf53 : Cond.static Lib.Math.max.name ∈ gtb := gt_of 311 (by decide +kernel) (by decide +kernel)
theorem co_J9_max_7cf53 : Cond.code Lib.Math.max.name Lib.Math.max.code 2 (some .int) ∈ gtb := gt_of 312 (by decide +kernel) (by decide +kernel)
theorem ml_L_31 : Cond.methodLink RL 31 yX5_clear ∈ gtb := gt_of 313 (by decide +kernel) (by decide +kernel)
theorem im_X5_clear : Cond.instanceMethod yX5_clear ∈ gtb := gt_of 314 (by decide +kernel) (by decide +kernel)
theorem se_X5_clear : Cond.selects RX5 yX5_clear yX5_clear ∈ gtb := gt_of 315 (by decide +kernel) (by decide +kernel)
theorem co_X5_clear : Cond.code yX5_clear cX5_clear 3 (some .int) ∈ gtb := gt_of 316 (by decide +kernel) (by decide +kernel)
theorem ml_X5_103 : Cond.methodLink RX5 103 yX0_begin ∈ gtb := gt_of 317 (by decide +kernel) (by decide +kernel)
theorem im_X0_begin : Cond.instanceMethod yX0_begin ∈ gtb := gt_of 318 (by decide +kernel) (by decide +kernel)
theorem se_X0_begin : Cond.selects RX0 yX0_begin yX0_begin ∈ gtb := gt_of 319 (by decide +kernel) (by decide +kernel)
theorem co_X0_begin : Cond.code yX0_begin cX0_begin 2 none ∈ gtb := gt_of 320 (by decide +kernel) (by decide +kernel)
theorem ml_L_35 : Cond.methodLink RL 35 yX5_letter ∈ gtb := gt_of 321 (by decide +kernel) (by decide +kernel)
theorem im_X5_letter : Cond.instanceMethod yX5_letter ∈ gtb := gt_of 322 (by decide +kernel) (by decide +kernel)
theorem se_X5_letter : Cond.selects RX5 yX5_letter yX5_letter ∈ gtb := gt_of 323 (by decide +kernel) (by decide +kernel)
theorem co_X5_letter : Cond.code yX5_letter cX5_letter 3 (some .int) ∈ gtb := gt_of 324 (by decide +kernel) (by decide +kernel)
theorem ml_L_40 : Cond.methodLink RL 40 yX5_line ∈ gtb := gt_of 325 (by decide +kernel) (by decide +kernel)
theorem im_X5_line : Cond.instanceMethod yX5_line ∈ gtb := gt_of 326 (by decide +kernel) (by decide +kernel)
theorem se_X5_line : Cond.selects RX5 yX5_line yX5_line ∈ gtb := gt_of 327 (by decide +kernel) (by decide +kernel)
theorem co_X5_line : Cond.code yX5_line cX5_line 2 (some .int) ∈ gtb := gt_of 328 (by decide +kernel) (by decide +kernel)
theorem ml_L_45 : Cond.methodLink RL 45 yX5_queue ∈ gtb := gt_of 329 (by decide +kernel) (by decide +kernel)
theorem im_X5_queue : Cond.instanceMethod yX5_queue ∈ gtb := gt_of 330 (by decide +kernel) (by decide +kernel)
theorem se_X5_queue : Cond.selects RX5 yX5_queue yX5_queue ∈ gtb := gt_of 331 (by decide +kernel) (by decide +kernel)
theorem co_X5_queue : Cond.code yX5_queue cX5_queue 3 (some .int) ∈ gtb := gt_of 332 (by decide +kernel) (by decide +kernel)
theorem ml_X5_130 : Cond.methodLink RX5 130 yX0_queuedLetter ∈ gtb := gt_of 333 (by decide +kernel) (by decide +kernel)
theorem im_X0_queuedLetter : Cond.instanceMethod yX0_queuedLetter ∈ gtb := gt_of 334 (by decide +kernel) (by decide +kernel)
theorem se_X0_queuedLetter : Cond.selects RX0 yX0_queuedLetter yX0_queuedLetter ∈ gtb := gt_of 335 (by decide +kernel) (by decide +kernel)
theorem co_X0_queuedLetter : Cond.code yX0_queuedLetter cX0_queuedLetter 6 (some .int) ∈ gtb := gt_of 336 (by decide +kernel) (by decide +kernel)
theorem ml_L_49 : Cond.methodLink RL 49 yX5_turned ∈ gtb := gt_of 337 (by decide +kernel) (by decide +kernel)
theorem im_X5_turned : Cond.instanceMethod yX5_turned ∈ gtb := gt_of 338 (by decide +kernel) (by decide +kernel)
theorem se_X5_turned : Cond.selects RX5 yX5_turned yX5_turned ∈ gtb := gt_of 339 (by decide +kernel) (by decide +kernel)
theorem co_X5_turned : Cond.code yX5_turned cX5_turned 2 (some .int) ∈ gtb := gt_of 340 (by decide +kernel) (by decide +kernel)
theorem ml_X5_134 : Cond.methodLink RX5 134 yX4_sortTurned ∈ gtb := gt_of 341 (by decide +kernel) (by decide +kernel)
theorem im_X4_sortTurned : Cond.instanceMethod yX4_sortTurned ∈ gtb := gt_of 342 (by decide +kernel) (by decide +kernel)
theorem se_X4_sortTurned : Cond.selects RX4 yX4_sortTurned yX4_sortTurned ∈ gtb := gt_of 343 (by decide +kernel) (by decide +kernel)
theorem co_X4_sortTurned : Cond.code yX4_sortTurned cX4_sortTurned 3 (some (.object "LetterFabric$Row")) ∈ gtb := gt_of 344 (by decide +kernel) (by decide +kernel)
theorem ml_X5_138 : Cond.methodLink RX5 138 yX2_at ∈ gtb := gt_of 345 (by decide +kernel) (by decide +kernel)
theorem im_X2_at : Cond.instanceMethod yX2_at ∈ gtb := gt_of 346 (by decide +kernel) (by decide +kernel)
theorem se_X2_at : Cond.selects RX2 yX2_at yX2_at ∈ gtb := gt_of 347 (by decide +kernel) (by decide +kernel)
theorem co_X2_at : Cond.code yX2_at cX2_at 2 (some .int) ∈ gtb := gt_of 348 (by decide +kernel) (by decide +kernel)
theorem ml_L_53 : Cond.methodLink RL 53 yX5_sorted ∈ gtb := gt_of 349 (by decide +kernel) (by decide +kernel)
theorem im_X5_sorted : Cond.instanceMethod yX5_sorted ∈ gtb := gt_of 350 (by decide +kernel) (by decide +kernel)
theorem se_X5_sorted : Cond.selects RX5 yX5_sorted yX5_sorted ∈ gtb := gt_of 351 (by decide +kernel) (by decide +kernel)
theorem co_X5_sorted : Cond.code yX5_sorted cX5_sorted 2 (some .int) ∈ gtb := gt_of 352 (by decide +kernel) (by decide +kernel)
theorem ml_X5_143 : Cond.methodLink RX5 143 yX4_sortWaiting ∈ gtb := gt_of 353 (by decide +kernel) (by decide +kernel)
theorem ml_L_57 : Cond.methodLink RL 57 yX5_straight ∈ gtb := gt_of 354 (by decide +kernel) (by decide +kernel)
theorem im_X5_straight : Cond.instanceMethod yX5_straight ∈ gtb := gt_of 355 (by decide +kernel) (by decide +kernel)
theorem se_X5_straight : Cond.selects RX5 yX5_straight yX5_straight ∈ gtb := gt_of 356 (by decide +kernel) (by decide +kernel)
theorem co_X5_straight : Cond.code yX5_straight cX5_straight 3 (some .int) ∈ gtb := gt_of 357 (by decide +kernel) (by decide +kernel)
theorem ml_X5_146 : Cond.methodLink RX5 146 yX5_enterNet ∈ gtb := gt_of 358 (by decide +kernel) (by decide +kernel)
theorem im_X5_enterNet : Cond.instanceMethod yX5_enterNet ∈ gtb := gt_of 360 (by decide +kernel) (by decide +kernel)
theorem co_X5_enterNet : Cond.code yX5_enterNet cX5_enterNet 2 none ∈ gtb := gt_of 361 (by decide +kernel) (by decide +kernel)
theorem ml_X5_149 : Cond.methodLink RX5 149 yX5_passStage ∈ gtb := gt_of 362 (by decide +kernel) (by decide +kernel)
theorem im_X5_passStage : Cond.instanceMethod yX5_passStage ∈ gtb := gt_of 364 (by decide +kernel) (by decide +kernel)
theorem co_X5_passStage : Cond.code yX5_passStage cX5_passStage 8 none ∈ gtb := gt_of 365 (by decide +kernel) (by decide +kernel)
theorem ml_L_61 : Cond.methodLink RL 61 yX5_drain ∈ gtb := gt_of 366 (by decide +kernel) (by decide +kernel)
theorem im_X5_drain : Cond.instanceMethod yX5_drain ∈ gtb := gt_of 367 (by decide +kernel) (by decide +kernel)
theorem se_X5_drain : Cond.selects RX5 yX5_drain yX5_drain ∈ gtb := gt_of 368 (by decide +kernel) (by decide +kernel)
theorem co_X5_drain : Cond.code yX5_drain cX5_drain 2 (some .int) ∈ gtb := gt_of 369 (by decide +kernel) (by decide +kernel)
theorem ml_X5_153 : Cond.methodLink RX5 153 yX0_becomes ∈ gtb := gt_of 370 (by decide +kernel) (by decide +kernel)
theorem ml_X5_156 : Cond.methodLink RX5 156 yX0_countLive ∈ gtb := gt_of 371 (by decide +kernel) (by decide +kernel)
theorem im_X0_countLive : Cond.instanceMethod yX0_countLive ∈ gtb := gt_of 372 (by decide +kernel) (by decide +kernel)
theorem se_X0_countLive : Cond.selects RX0 yX0_countLive yX0_countLive ∈ gtb := gt_of 373 (by decide +kernel) (by decide +kernel)
theorem co_X0_countLive : Cond.code yX0_countLive cX0_countLive 1 (some .int) ∈ gtb := gt_of 374 (by decide +kernel) (by decide +kernel)
theorem ml_X5_160 : Cond.methodLink RX5 160 yX5_trySlot ∈ gtb := gt_of 375 (by decide +kernel) (by decide +kernel)
theorem im_X5_trySlot : Cond.instanceMethod yX5_trySlot ∈ gtb := gt_of 377 (by decide +kernel) (by decide +kernel)
theorem co_X5_trySlot : Cond.code yX5_trySlot cX5_trySlot 2 (some .boolean) ∈ gtb := gt_of 378 (by decide +kernel) (by decide +kernel)
theorem ml_L_65 : Cond.methodLink RL 65 yX5_lost ∈ gtb := gt_of 379 (by decide +kernel) (by decide +kernel)
theorem im_X5_lost : Cond.instanceMethod yX5_lost ∈ gtb := gt_of 380 (by decide +kernel) (by decide +kernel)
theorem se_X5_lost : Cond.selects RX5 yX5_lost yX5_lost ∈ gtb := gt_of 381 (by decide +kernel) (by decide +kernel)
theorem co_X5_lost : Cond.code yX5_lost cX5_lost 2 (some .int) ∈ gtb := gt_of 382 (by decide +kernel) (by decide +kernel)
theorem ml_X5_164 : Cond.methodLink RX5 164 yX5_dropsIn ∈ gtb := gt_of 383 (by decide +kernel) (by decide +kernel)
theorem im_X5_dropsIn : Cond.instanceMethod yX5_dropsIn ∈ gtb := gt_of 385 (by decide +kernel) (by decide +kernel)
theorem co_X5_dropsIn : Cond.code yX5_dropsIn cX5_dropsIn 5 (some .int) ∈ gtb := gt_of 386 (by decide +kernel) (by decide +kernel)
theorem ml_L_69 : Cond.methodLink RL 69 yX5_fewest ∈ gtb := gt_of 387 (by decide +kernel) (by decide +kernel)
theorem im_X5_fewest : Cond.instanceMethod yX5_fewest ∈ gtb := gt_of 388 (by decide +kernel) (by decide +kernel)
theorem se_X5_fewest : Cond.selects RX5 yX5_fewest yX5_fewest ∈ gtb := gt_of 389 (by decide +kernel) (by decide +kernel)
theorem co_X5_fewest : Cond.code yX5_fewest cX5_fewest 3 (some .int) ∈ gtb := gt_of 390 (by decide +kernel) (by decide +kernel)
theorem ml_L_73 : Cond.methodLink RL 73 yX5_share ∈ gtb := gt_of 391 (by decide +kernel) (by decide +kernel)
theorem im_X5_share : Cond.instanceMethod yX5_share ∈ gtb := gt_of 392 (by decide +kernel) (by decide +kernel)
theorem se_X5_share : Cond.selects RX5 yX5_share yX5_share ∈ gtb := gt_of 393 (by decide +kernel) (by decide +kernel)
theorem co_X5_share : Cond.code yX5_share cX5_share 10 (some .long) ∈ gtb := gt_of 394 (by decide +kernel) (by decide +kernel)
theorem cj_X5_167 : Cond.constantLong RX5 167 (-1) ∈ gtb := gt_of 395 (by decide +kernel) (by decide +kernel)
theorem ml_X5_169 : Cond.methodLink RX5 169 yX5_waysNotTaken ∈ gtb := gt_of 396 (by decide +kernel) (by decide +kernel)
theorem sm_X5_waysNotTaken : Cond.static yX5_waysNotTaken ∈ gtb := gt_of 397 (by decide +kernel) (by decide +kernel)
theorem co_X5_waysNotTaken : Cond.code yX5_waysNotTaken cX5_waysNotTaken 7 (some .long) ∈ gtb := gt_of 398 (by decide +kernel) (by decide +kernel)
theorem fl_X5_200 : Cond.fieldLink RX5 200 "LetterFabric" "WAYS_TO_CHOOSE_LINES" "[I" ∈ gtb := gt_of 399 (by decide +kernel) (by decide +kernel)
theorem ml_X5_175 : Cond.methodLink RX5 175 yX5_power ∈ gtb := gt_of 401 (by decide +kernel) (by decide +kernel)
theorem sm_X5_power : Cond.static yX5_power ∈ gtb := gt_of 402 (by decide +kernel) (by decide +kernel)
theorem co_X5_power : Cond.code yX5_power cX5_power 6 (some .long) ∈ gtb := gt_of 403 (by decide +kernel) (by decide +kernel)
theorem cj_X5_173 : Cond.constantLong RX5 173 (80) ∈ gtb := gt_of 404 (by decide +kernel) (by decide +kernel)
theorem ml_X5_179 : Cond.methodLink RX5 179 yX5_commonDivisor ∈ gtb := gt_of 405 (by decide +kernel) (by decide +kernel)
theorem sm_X5_commonDivisor : Cond.static yX5_commonDivisor ∈ gtb := gt_of 406 (by decide +kernel) (by decide +kernel)
theorem co_X5_commonDivisor : Cond.code yX5_commonDivisor cX5_commonDivisor 11 (some .long) ∈ gtb := gt_of 407 (by decide +kernel) (by decide +kernel)
theorem ml_L_78 : Cond.methodLink RL 78 yX5_sees ∈ gtb := gt_of 408 (by decide +kernel) (by decide +kernel)
theorem im_X5_sees : Cond.instanceMethod yX5_sees ∈ gtb := gt_of 409 (by decide +kernel) (by decide +kernel)
theorem se_X5_sees : Cond.selects RX5 yX5_sees yX5_sees ∈ gtb := gt_of 410 (by decide +kernel) (by decide +kernel)
theorem co_X5_sees : Cond.code yX5_sees cX5_sees 3 (some .int) ∈ gtb := gt_of 411 (by decide +kernel) (by decide +kernel)
theorem ml_X5_183 : Cond.methodLink RX5 183 yX3_add ∈ gtb := gt_of 412 (by decide +kernel) (by decide +kernel)
theorem im_X3_add : Cond.instanceMethod yX3_add ∈ gtb := gt_of 413 (by decide +kernel) (by decide +kernel)
theorem se_X3_add : Cond.selects RX3 yX3_add yX3_add ∈ gtb := gt_of 414 (by decide +kernel) (by decide +kernel)
theorem co_X3_add : Cond.code yX3_add cX3_add 3 none ∈ gtb := gt_of 415 (by decide +kernel) (by decide +kernel)
theorem ml_L_82 : Cond.methodLink RL 82 yX5_forget ∈ gtb := gt_of 416 (by decide +kernel) (by decide +kernel)
theorem im_X5_forget : Cond.instanceMethod yX5_forget ∈ gtb := gt_of 417 (by decide +kernel) (by decide +kernel)
theorem se_X5_forget : Cond.selects RX5 yX5_forget yX5_forget ∈ gtb := gt_of 418 (by decide +kernel) (by decide +kernel)
theorem co_X5_forget : Cond.code yX5_forget cX5_forget 2 (some .int) ∈ gtb := gt_of 419 (by decide +kernel) (by decide +kernel)
theorem ml_L_86 : Cond.methodLink RL 86 yX5_unseen ∈ gtb := gt_of 420 (by decide +kernel) (by decide +kernel)
theorem im_X5_unseen : Cond.instanceMethod yX5_unseen ∈ gtb := gt_of 421 (by decide +kernel) (by decide +kernel)
theorem se_X5_unseen : Cond.selects RX5 yX5_unseen yX5_unseen ∈ gtb := gt_of 422 (by decide +kernel) (by decide +kernel)
theorem co_X5_unseen : Cond.code yX5_unseen cX5_unseen 4 (some .int) ∈ gtb := gt_of 423 (by decide +kernel) (by decide +kernel)
theorem ml_X5_187 : Cond.methodLink RX5 187 yX5_explainsAllSeen ∈ gtb := gt_of 424 (by decide +kernel) (by decide +kernel)
theorem im_X5_explainsAllSeen : Cond.instanceMethod yX5_explainsAllSeen ∈ gtb := gt_of 426 (by decide +kernel) (by decide +kernel)
theorem co_X5_explainsAllSeen : Cond.code yX5_explainsAllSeen cX5_explainsAllSeen 5 (some .boolean) ∈ gtb := gt_of 427 (by decide +kernel) (by decide +kernel)
theorem ml_X5_190 : Cond.methodLink RX5 190 yX0_moveLetter ∈ gtb := gt_of 428 (by decide +kernel) (by decide +kernel)
theorem ml_X5_193 : Cond.methodLink RX5 193 yX3_longest ∈ gtb := gt_of 429 (by decide +kernel) (by decide +kernel)
theorem im_X3_longest : Cond.instanceMethod yX3_longest ∈ gtb := gt_of 430 (by decide +kernel) (by decide +kernel)
theorem se_X3_longest : Cond.selects RX3 yX3_longest yX3_longest ∈ gtb := gt_of 431 (by decide +kernel) (by decide +kernel)
theorem co_X3_longest : Cond.code yX3_longest cX3_longest 3 (some .int) ∈ gtb := gt_of 432 (by decide +kernel) (by decide +kernel)
theorem ml_X3_22 : Cond.methodLink RX3 22 Lib.Math.max.name ∈ gtb := gt_of 433 (by decide +kernel) (by decide +kernel)
theorem ml_X5_196 : Cond.methodLink RX5 196 yX3_allows ∈ gtb := gt_of 434 (by decide +kernel) (by decide +kernel)
theorem im_X3_allows : Cond.instanceMethod yX3_allows ∈ gtb := gt_of 435 (by decide +kernel) (by decide +kernel)
theorem se_X3_allows : Cond.selects RX3 yX3_allows yX3_allows ∈ gtb := gt_of 436 (by decide +kernel) (by decide +kernel)
theorem co_X3_allows : Cond.code yX3_allows cX3_allows 4 (some .boolean) ∈ gtb := gt_of 437 (by decide +kernel) (by decide +kernel)
theorem ml_L_90 : Cond.methodLink RL 90 yX5_keep ∈ gtb := gt_of 438 (by decide +kernel) (by decide +kernel)
theorem im_X5_keep : Cond.instanceMethod yX5_keep ∈ gtb := gt_of 439 (by decide +kernel) (by decide +kernel)
theorem se_X5_keep : Cond.selects RX5 yX5_keep yX5_keep ∈ gtb := gt_of 440 (by decide +kernel) (by decide +kernel)
theorem co_X5_keep : Cond.code yX5_keep cX5_keep 2 (some .int) ∈ gtb := gt_of 441 (by decide +kernel) (by decide +kernel)
theorem ml_L_94 : Cond.methodLink RL 94 yX5_back ∈ gtb := gt_of 442 (by decide +kernel) (by decide +kernel)
theorem im_X5_back : Cond.instanceMethod yX5_back ∈ gtb := gt_of 443 (by decide +kernel) (by decide +kernel)
theorem se_X5_back : Cond.selects RX5 yX5_back yX5_back ∈ gtb := gt_of 444 (by decide +kernel) (by decide +kernel)
theorem co_X5_back : Cond.code yX5_back cX5_back 2 (some .int) ∈ gtb := gt_of 445 (by decide +kernel) (by decide +kernel)
theorem ml_L_98 : Cond.methodLink RL 98 yX5_count ∈ gtb := gt_of 446 (by decide +kernel) (by decide +kernel)
theorem im_X5_count : Cond.instanceMethod yX5_count ∈ gtb := gt_of 447 (by decide +kernel) (by decide +kernel)
theorem se_X5_count : Cond.selects RX5 yX5_count yX5_count ∈ gtb := gt_of 448 (by decide +kernel) (by decide +kernel)
theorem co_X5_count : Cond.code yX5_count cX5_count 2 (some .int) ∈ gtb := gt_of 449 (by decide +kernel) (by decide +kernel)
theorem cl_L_10 : Cond.classLink RL 10 RX6 ∈ gtb := gt_of 450 (by decide +kernel) (by decide +kernel)
theorem ins_X6 : Cond.instantiable RX6 18 ∈ gtb := gt_of 451 (by decide +kernel) (by decide +kernel)
theorem ml_L_12 : Cond.methodLink RL 12 yX6_init ∈ gtb := gt_of 452 (by decide +kernel) (by decide +kernel)
theorem im_X6_init : Cond.instanceMethod yX6_init ∈ gtb := gt_of 453 (by decide +kernel) (by decide +kernel)
theorem co_X6_init : Cond.code yX6_init cX6_init 1 none ∈ gtb := gt_of 454 (by decide +kernel) (by decide +kernel)
theorem ml_X6_1 : Cond.methodLink RX6 1 objectInit ∈ gtb := gt_of 455 (by decide +kernel) (by decide +kernel)
theorem fl_X6_7 : Cond.fieldLink RX6 7 "LetterFabricModel" "nets" "I" ∈ gtb := gt_of 456 (by decide +kernel) (by decide +kernel)
theorem fl_X6_13 : Cond.fieldLink RX6 13 "LetterFabricModel" "backs" "I" ∈ gtb := gt_of 457 (by decide +kernel) (by decide +kernel)
theorem fl_X6_16 : Cond.fieldLink RX6 16 "LetterFabricModel" "room" "I" ∈ gtb := gt_of 458 (by decide +kernel) (by decide +kernel)
theorem fl_X6_47 : Cond.fieldLink RX6 47 "LetterFabricModel" "now" "I" ∈ gtb := gt_of 459 (by decide +kernel) (by decide +kernel)
theorem fl_X6_50 : Cond.fieldLink RX6 50 "LetterFabricModel" "many" "I" ∈ gtb := gt_of 460 (by decide +kernel) (by decide +kernel)
theorem fl_X6_53 : Cond.fieldLink RX6 53 "LetterFabricModel" "counter" "I" ∈ gtb := gt_of 461 (by decide +kernel) (by decide +kernel)
theorem fl_X6_19 : Cond.fieldLink RX6 19 "LetterFabricModel" "its" "[I" ∈ gtb := gt_of 462 (by decide +kernel) (by decide +kernel)
theorem fl_X6_23 : Cond.fieldLink RX6 23 "LetterFabricModel" "kept" "[I" ∈ gtb := gt_of 463 (by decide +kernel) (by decide +kernel)
theorem fl_X6_26 : Cond.fieldLink RX6 26 "LetterFabricModel" "isKept" "[I" ∈ gtb := gt_of 464 (by decide +kernel) (by decide +kernel)
theorem fl_X6_56 : Cond.fieldLink RX6 56 "LetterFabricModel" "done" "I" ∈ gtb := gt_of 465 (by decide +kernel) (by decide +kernel)
theorem fl_X6_90 : Cond.fieldLink RX6 90 "LetterFabricModel" "sorted" "I" ∈ gtb := gt_of 466 (by decide +kernel) (by decide +kernel)
theorem fl_X6_29 : Cond.fieldLink RX6 29 "LetterFabricModel" "order" "[I" ∈ gtb := gt_of 467 (by decide +kernel) (by decide +kernel)
theorem fl_X6_32 : Cond.fieldLink RX6 32 "LetterFabricModel" "turn" "[I" ∈ gtb := gt_of 468 (by decide +kernel) (by decide +kernel)
theorem fl_X6_35 : Cond.fieldLink RX6 35 "LetterFabricModel" "place" "[I" ∈ gtb := gt_of 469 (by decide +kernel) (by decide +kernel)
theorem fl_X6_38 : Cond.fieldLink RX6 38 "LetterFabricModel" "blocked" "[I" ∈ gtb := gt_of 470 (by decide +kernel) (by decide +kernel)
theorem fl_X6_121 : Cond.fieldLink RX6 121 "LetterFabricModel" "seen" "I" ∈ gtb := gt_of 471 (by decide +kernel) (by decide +kernel)
theorem fl_X6_41 : Cond.fieldLink RX6 41 "LetterFabricModel" "seenSlots" "[I" ∈ gtb := gt_of 472 (by decide +kernel) (by decide +kernel)
theorem fl_X6_44 : Cond.fieldLink RX6 44 "LetterFabricModel" "seenOut" "[I" ∈ gtb := gt_of 473 (by decide +kernel) (by decide +kernel)
theorem ml_L_17 : Cond.methodLink RL 17 yX6_tells ∈ gtb := gt_of 511 (by decide +kernel) (by decide +kernel)
theorem im_X6_tells : Cond.instanceMethod yX6_tells ∈ gtb := gt_of 512 (by decide +kernel) (by decide +kernel)
theorem se_X6_tells : Cond.selects RX6 yX6_tells yX6_tells ∈ gtb := gt_of 513 (by decide +kernel) (by decide +kernel)
theorem co_X6_tells : Cond.code yX6_tells cX6_tells 4 (some .int) ∈ gtb := gt_of 514 (by decide +kernel) (by decide +kernel)
theorem ml_X6_63 : Cond.methodLink RX6 63 yX6_in ∈ gtb := gt_of 515 (by decide +kernel) (by decide +kernel)
theorem sm_X6_in : Cond.static yX6_in ∈ gtb := gt_of 516 (by decide +kernel) (by decide +kernel)
theorem co_X6_in : Cond.code yX6_in cX6_in 3 (some .boolean) ∈ gtb := gt_of 517 (by decide +kernel) (by decide +kernel)
theorem ml_X6_67 : Cond.methodLink RX6 67 yX6_notes ∈ gtb := gt_of 518 (by decide +kernel) (by decide +kernel)
theorem im_X6_notes : Cond.instanceMethod yX6_notes ∈ gtb := gt_of 520 (by decide +kernel) (by decide +kernel)
theorem co_X6_notes : Cond.code yX6_notes cX6_notes 2 none ∈ gtb := gt_of 521 (by decide +kernel) (by decide +kernel)
theorem ml_X6_59 : Cond.methodLink RX6 59 yX6_writes ∈ gtb := gt_of 522 (by decide +kernel) (by decide +kernel)
theorem im_X6_writes : Cond.instanceMethod yX6_writes ∈ gtb := gt_of 524 (by decide +kernel) (by decide +kernel)
theorem co_X6_writes : Cond.code yX6_writes cX6_writes 4 none ∈ gtb := gt_of 525 (by decide +kernel) (by decide +kernel)
theorem ml_L_21 : Cond.methodLink RL 21 yX6_puts ∈ gtb := gt_of 526 (by decide +kernel) (by decide +kernel)
theorem im_X6_puts : Cond.instanceMethod yX6_puts ∈ gtb := gt_of 527 (by decide +kernel) (by decide +kernel)
theorem se_X6_puts : Cond.selects RX6 yX6_puts yX6_puts ∈ gtb := gt_of 528 (by decide +kernel) (by decide +kernel)
theorem co_X6_puts : Cond.code yX6_puts cX6_puts 4 (some .int) ∈ gtb := gt_of 529 (by decide +kernel) (by decide +kernel)
theorem ml_X6_74 : Cond.methodLink RX6 74 yX6_isLine ∈ gtb := gt_of 530 (by decide +kernel) (by decide +kernel)
theorem sm_X6_isLine : Cond.static yX6_isLine ∈ gtb := gt_of 531 (by decide +kernel) (by decide +kernel)
theorem co_X6_isLine : Cond.code yX6_isLine cX6_isLine 1 (some .boolean) ∈ gtb := gt_of 532 (by decide +kernel) (by decide +kernel)
theorem ml_X6_78 : Cond.methodLink RX6 78 yX6_atLine ∈ gtb := gt_of 533 (by decide +kernel) (by decide +kernel)
theorem im_X6_atLine : Cond.instanceMethod yX6_atLine ∈ gtb := gt_of 535 (by decide +kernel) (by decide +kernel)
theorem co_X6_atLine : Cond.code yX6_atLine cX6_atLine 3 (some .int) ∈ gtb := gt_of 536 (by decide +kernel) (by decide +kernel)
theorem ml_X6_70 : Cond.methodLink RX6 70 yX6_of ∈ gtb := gt_of 537 (by decide +kernel) (by decide +kernel)
theorem im_X6_of : Cond.instanceMethod yX6_of ∈ gtb := gt_of 539 (by decide +kernel) (by decide +kernel)
theorem co_X6_of : Cond.code yX6_of cX6_of 3 (some .int) ∈ gtb := gt_of 540 (by decide +kernel) (by decide +kernel)
theorem ml_X6_82 : Cond.methodLink RX6 82 yX6_sets ∈ gtb := gt_of 541 (by decide +kernel) (by decide +kernel)
theorem im_X6_sets : Cond.instanceMethod yX6_sets ∈ gtb := gt_of 543 (by decide +kernel) (by decide +kernel)
theorem co_X6_sets : Cond.code yX6_sets cX6_sets 4 none ∈ gtb := gt_of 544 (by decide +kernel) (by decide +kernel)
theorem ml_L_26 : Cond.methodLink RL 26 yX6_slot ∈ gtb := gt_of 545 (by decide +kernel) (by decide +kernel)
theorem im_X6_slot : Cond.instanceMethod yX6_slot ∈ gtb := gt_of 546 (by decide +kernel) (by decide +kernel)
theorem se_X6_slot : Cond.selects RX6 yX6_slot yX6_slot ∈ gtb := gt_of 547 (by decide +kernel) (by decide +kernel)
theorem co_X6_slot : Cond.code yX6_slot cX6_slot 1 (some .int) ∈ gtb := gt_of 548 (by decide +kernel) (by decide +kernel)
theorem ml_X6_114 : Cond.methodLink RX6 114 yX6_goes ∈ gtb := gt_of 549 (by decide +kernel) (by decide +kernel)
theorem im_X6_goes : Cond.instanceMethod yX6_goes ∈ gtb := gt_of 551 (by decide +kernel) (by decide +kernel)
theorem co_X6_goes : Cond.code yX6_goes cX6_goes 4 (some .int) ∈ gtb := gt_of 552 (by decide +kernel) (by decide +kernel)
theorem ml_X6_102 : Cond.methodLink RX6 102 yX6_sorts ∈ gtb := gt_of 553 (by decide +kernel) (by decide +kernel)
theorem im_X6_sorts : Cond.instanceMethod yX6_sorts ∈ gtb := gt_of 555 (by decide +kernel) (by decide +kernel)
theorem co_X6_sorts : Cond.code yX6_sorts cX6_sorts 3 none ∈ gtb := gt_of 556 (by decide +kernel) (by decide +kernel)
theorem ml_X6_93 : Cond.methodLink RX6 93 yX6_isIn ∈ gtb := gt_of 557 (by decide +kernel) (by decide +kernel)
theorem im_X6_isIn : Cond.instanceMethod yX6_isIn ∈ gtb := gt_of 559 (by decide +kernel) (by decide +kernel)
theorem co_X6_isIn : Cond.code yX6_isIn cX6_isIn 2 (some .boolean) ∈ gtb := gt_of 560 (by decide +kernel) (by decide +kernel)
theorem ml_X6_96 : Cond.methodLink RX6 96 yX6_isSooner ∈ gtb := gt_of 561 (by decide +kernel) (by decide +kernel)
theorem im_X6_isSooner : Cond.instanceMethod yX6_isSooner ∈ gtb := gt_of 563 (by decide +kernel) (by decide +kernel)
theorem co_X6_isSooner : Cond.code yX6_isSooner cX6_isSooner 3 (some .boolean) ∈ gtb := gt_of 564 (by decide +kernel) (by decide +kernel)
theorem ml_X6_86 : Cond.methodLink RX6 86 yX6_isAhead ∈ gtb := gt_of 565 (by decide +kernel) (by decide +kernel)
theorem im_X6_isAhead : Cond.instanceMethod yX6_isAhead ∈ gtb := gt_of 567 (by decide +kernel) (by decide +kernel)
theorem co_X6_isAhead : Cond.code yX6_isAhead cX6_isAhead 3 (some .boolean) ∈ gtb := gt_of 568 (by decide +kernel) (by decide +kernel)
theorem ml_X6_105 : Cond.methodLink RX6 105 yX6_wins ∈ gtb := gt_of 569 (by decide +kernel) (by decide +kernel)
theorem im_X6_wins : Cond.instanceMethod yX6_wins ∈ gtb := gt_of 571 (by decide +kernel) (by decide +kernel)
theorem co_X6_wins : Cond.code yX6_wins cX6_wins 5 none ∈ gtb := gt_of 572 (by decide +kernel) (by decide +kernel)
theorem ml_X6_99 : Cond.methodLink RX6 99 yX6_manyAt ∈ gtb := gt_of 573 (by decide +kernel) (by decide +kernel)
theorem im_X6_manyAt : Cond.instanceMethod yX6_manyAt ∈ gtb := gt_of 575 (by decide +kernel) (by decide +kernel)
theorem co_X6_manyAt : Cond.code yX6_manyAt cX6_manyAt 4 (some .int) ∈ gtb := gt_of 576 (by decide +kernel) (by decide +kernel)
theorem ml_X6_108 : Cond.methodLink RX6 108 yX6_turns ∈ gtb := gt_of 577 (by decide +kernel) (by decide +kernel)
theorem im_X6_turns : Cond.instanceMethod yX6_turns ∈ gtb := gt_of 579 (by decide +kernel) (by decide +kernel)
theorem co_X6_turns : Cond.code yX6_turns cX6_turns 7 none ∈ gtb := gt_of 580 (by decide +kernel) (by decide +kernel)
theorem ml_X6_111 : Cond.methodLink RX6 111 yX6_queued ∈ gtb := gt_of 581 (by decide +kernel) (by decide +kernel)
theorem im_X6_queued : Cond.instanceMethod yX6_queued ∈ gtb := gt_of 583 (by decide +kernel) (by decide +kernel)
theorem co_X6_queued : Cond.code yX6_queued cX6_queued 6 (some .int) ∈ gtb := gt_of 584 (by decide +kernel) (by decide +kernel)
theorem ml_L_30 : Cond.methodLink RL 30 yX6_undo ∈ gtb := gt_of 585 (by decide +kernel) (by decide +kernel)
theorem im_X6_undo : Cond.instanceMethod yX6_undo ∈ gtb := gt_of 586 (by decide +kernel) (by decide +kernel)
theorem se_X6_undo : Cond.selects RX6 yX6_undo yX6_undo ∈ gtb := gt_of 587 (by decide +kernel) (by decide +kernel)
theorem co_X6_undo : Cond.code yX6_undo cX6_undo 1 (some .int) ∈ gtb := gt_of 588 (by decide +kernel) (by decide +kernel)
theorem ml_X6_118 : Cond.methodLink RX6 118 yX6_comesBack ∈ gtb := gt_of 589 (by decide +kernel) (by decide +kernel)
theorem im_X6_comesBack : Cond.instanceMethod yX6_comesBack ∈ gtb := gt_of 591 (by decide +kernel) (by decide +kernel)
theorem co_X6_comesBack : Cond.code yX6_comesBack cX6_comesBack 4 none ∈ gtb := gt_of 592 (by decide +kernel) (by decide +kernel)
theorem ml_L_34 : Cond.methodLink RL 34 yX6_clear ∈ gtb := gt_of 593 (by decide +kernel) (by decide +kernel)
theorem im_X6_clear : Cond.instanceMethod yX6_clear ∈ gtb := gt_of 594 (by decide +kernel) (by decide +kernel)
theorem se_X6_clear : Cond.selects RX6 yX6_clear yX6_clear ∈ gtb := gt_of 595 (by decide +kernel) (by decide +kernel)
theorem co_X6_clear : Cond.code yX6_clear cX6_clear 2 (some .int) ∈ gtb := gt_of 596 (by decide +kernel) (by decide +kernel)
theorem ml_L_39 : Cond.methodLink RL 39 yX6_letter ∈ gtb := gt_of 597 (by decide +kernel) (by decide +kernel)
theorem im_X6_letter : Cond.instanceMethod yX6_letter ∈ gtb := gt_of 598 (by decide +kernel) (by decide +kernel)
theorem se_X6_letter : Cond.selects RX6 yX6_letter yX6_letter ∈ gtb := gt_of 599 (by decide +kernel) (by decide +kernel)
theorem co_X6_letter : Cond.code yX6_letter cX6_letter 3 (some .int) ∈ gtb := gt_of 600 (by decide +kernel) (by decide +kernel)
theorem ml_L_44 : Cond.methodLink RL 44 yX6_line ∈ gtb := gt_of 601 (by decide +kernel) (by decide +kernel)
theorem im_X6_line : Cond.instanceMethod yX6_line ∈ gtb := gt_of 602 (by decide +kernel) (by decide +kernel)
theorem se_X6_line : Cond.selects RX6 yX6_line yX6_line ∈ gtb := gt_of 603 (by decide +kernel) (by decide +kernel)
theorem co_X6_line : Cond.code yX6_line cX6_line 2 (some .int) ∈ gtb := gt_of 604 (by decide +kernel) (by decide +kernel)
theorem ml_L_48 : Cond.methodLink RL 48 yX6_queue ∈ gtb := gt_of 605 (by decide +kernel) (by decide +kernel)
theorem im_X6_queue : Cond.instanceMethod yX6_queue ∈ gtb := gt_of 606 (by decide +kernel) (by decide +kernel)
theorem se_X6_queue : Cond.selects RX6 yX6_queue yX6_queue ∈ gtb := gt_of 607 (by decide +kernel) (by decide +kernel)
theorem co_X6_queue : Cond.code yX6_queue cX6_queue 3 (some .int) ∈ gtb := gt_of 608 (by decide +kernel) (by decide +kernel)
theorem ml_L_52 : Cond.methodLink RL 52 yX6_turned ∈ gtb := gt_of 609 (by decide +kernel) (by decide +kernel)
theorem im_X6_turned : Cond.instanceMethod yX6_turned ∈ gtb := gt_of 610 (by decide +kernel) (by decide +kernel)
theorem se_X6_turned : Cond.selects RX6 yX6_turned yX6_turned ∈ gtb := gt_of 611 (by decide +kernel) (by decide +kernel)
theorem co_X6_turned : Cond.code yX6_turned cX6_turned 5 (some .int) ∈ gtb := gt_of 612 (by decide +kernel) (by decide +kernel)
theorem ml_L_56 : Cond.methodLink RL 56 yX6_sorted ∈ gtb := gt_of 613 (by decide +kernel) (by decide +kernel)
theorem im_X6_sorted : Cond.instanceMethod yX6_sorted ∈ gtb := gt_of 614 (by decide +kernel) (by decide +kernel)
theorem se_X6_sorted : Cond.selects RX6 yX6_sorted yX6_sorted ∈ gtb := gt_of 615 (by decide +kernel) (by decide +kernel)
theorem co_X6_sorted : Cond.code yX6_sorted cX6_sorted 2 (some .int) ∈ gtb := gt_of 616 (by decide +kernel) (by decide +kernel)
theorem ml_L_60 : Cond.methodLink RL 60 yX6_straight ∈ gtb := gt_of 617 (by decide +kernel) (by decide +kernel)
theorem im_X6_straight : Cond.instanceMethod yX6_straight ∈ gtb := gt_of 618 (by decide +kernel) (by decide +kernel)
theorem se_X6_straight : Cond.selects RX6 yX6_straight yX6_straight ∈ gtb := gt_of 619 (by decide +kernel) (by decide +kernel)
theorem co_X6_straight : Cond.code yX6_straight cX6_straight 2 (some .int) ∈ gtb := gt_of 620 (by decide +kernel) (by decide +kernel)
theorem ml_X6_124 : Cond.methodLink RX6 124 yX6_setStraight ∈ gtb := gt_of 621 (by decide +kernel) (by decide +kernel)
theorem im_X6_setStraight : Cond.instanceMethod yX6_setStraight ∈ gtb := gt_of 623 (by decide +kernel) (by decide +kernel)
theorem co_X6_setStraight : Cond.code yX6_setStraight cX6_setStraight 5 none ∈ gtb := gt_of 624 (by decide +kernel) (by decide +kernel)
theorem ml_L_64 : Cond.methodLink RL 64 yX6_drain ∈ gtb := gt_of 625 (by decide +kernel) (by decide +kernel)
theorem im_X6_drain : Cond.instanceMethod yX6_drain ∈ gtb := gt_of 626 (by decide +kernel) (by decide +kernel)
theorem se_X6_drain : Cond.selects RX6 yX6_drain yX6_drain ∈ gtb := gt_of 627 (by decide +kernel) (by decide +kernel)
theorem co_X6_drain : Cond.code yX6_drain cX6_drain 3 (some .int) ∈ gtb := gt_of 628 (by decide +kernel) (by decide +kernel)
theorem ml_X6_127 : Cond.methodLink RX6 127 yX6_isOver ∈ gtb := gt_of 629 (by decide +kernel) (by decide +kernel)
theorem im_X6_isOver : Cond.instanceMethod yX6_isOver ∈ gtb := gt_of 631 (by decide +kernel) (by decide +kernel)
theorem co_X6_isOver : Cond.code yX6_isOver cX6_isOver 1 (some .boolean) ∈ gtb := gt_of 632 (by decide +kernel) (by decide +kernel)
theorem ml_L_68 : Cond.methodLink RL 68 yX6_lost ∈ gtb := gt_of 633 (by decide +kernel) (by decide +kernel)
theorem im_X6_lost : Cond.instanceMethod yX6_lost ∈ gtb := gt_of 634 (by decide +kernel) (by decide +kernel)
theorem se_X6_lost : Cond.selects RX6 yX6_lost yX6_lost ∈ gtb := gt_of 635 (by decide +kernel) (by decide +kernel)
theorem co_X6_lost : Cond.code yX6_lost cX6_lost 2 (some .int) ∈ gtb := gt_of 636 (by decide +kernel) (by decide +kernel)
theorem ml_X6_131 : Cond.methodLink RX6 131 yX6_lostBy ∈ gtb := gt_of 637 (by decide +kernel) (by decide +kernel)
theorem im_X6_lostBy : Cond.instanceMethod yX6_lostBy ∈ gtb := gt_of 639 (by decide +kernel) (by decide +kernel)
theorem co_X6_lostBy : Cond.code yX6_lostBy cX6_lostBy 5 (some .int) ∈ gtb := gt_of 640 (by decide +kernel) (by decide +kernel)
theorem ml_L_72 : Cond.methodLink RL 72 yX6_fewest ∈ gtb := gt_of 641 (by decide +kernel) (by decide +kernel)
theorem im_X6_fewest : Cond.instanceMethod yX6_fewest ∈ gtb := gt_of 642 (by decide +kernel) (by decide +kernel)
theorem se_X6_fewest : Cond.selects RX6 yX6_fewest yX6_fewest ∈ gtb := gt_of 643 (by decide +kernel) (by decide +kernel)
theorem co_X6_fewest : Cond.code yX6_fewest cX6_fewest 3 (some .int) ∈ gtb := gt_of 644 (by decide +kernel) (by decide +kernel)
theorem ml_L_77 : Cond.methodLink RL 77 yX6_share ∈ gtb := gt_of 645 (by decide +kernel) (by decide +kernel)
theorem im_X6_share : Cond.instanceMethod yX6_share ∈ gtb := gt_of 646 (by decide +kernel) (by decide +kernel)
theorem se_X6_share : Cond.selects RX6 yX6_share yX6_share ∈ gtb := gt_of 647 (by decide +kernel) (by decide +kernel)
theorem co_X6_share : Cond.code yX6_share cX6_share 10 (some .long) ∈ gtb := gt_of 648 (by decide +kernel) (by decide +kernel)
theorem cj_X6_134 : Cond.constantLong RX6 134 (-1) ∈ gtb := gt_of 649 (by decide +kernel) (by decide +kernel)
theorem ml_X6_136 : Cond.methodLink RX6 136 yX6_ways ∈ gtb := gt_of 650 (by decide +kernel) (by decide +kernel)
theorem sm_X6_ways : Cond.static yX6_ways ∈ gtb := gt_of 651 (by decide +kernel) (by decide +kernel)
theorem co_X6_ways : Cond.code yX6_ways cX6_ways 4 (some .long) ∈ gtb := gt_of 652 (by decide +kernel) (by decide +kernel)
theorem ml_X6_140 : Cond.methodLink RX6 140 yX6_power ∈ gtb := gt_of 653 (by decide +kernel) (by decide +kernel)
theorem sm_X6_power : Cond.static yX6_power ∈ gtb := gt_of 654 (by decide +kernel) (by decide +kernel)
theorem co_X6_power : Cond.code yX6_power cX6_power 6 (some .long) ∈ gtb := gt_of 655 (by decide +kernel) (by decide +kernel)
theorem cj_X6_144 : Cond.constantLong RX6 144 (80) ∈ gtb := gt_of 656 (by decide +kernel) (by decide +kernel)
theorem ml_X6_146 : Cond.methodLink RX6 146 yX6_gcd ∈ gtb := gt_of 657 (by decide +kernel) (by decide +kernel)
theorem sm_X6_gcd : Cond.static yX6_gcd ∈ gtb := gt_of 658 (by decide +kernel) (by decide +kernel)
theorem co_X6_gcd : Cond.code yX6_gcd cX6_gcd 10 (some .long) ∈ gtb := gt_of 659 (by decide +kernel) (by decide +kernel)
theorem ml_L_81 : Cond.methodLink RL 81 yX6_sees ∈ gtb := gt_of 660 (by decide +kernel) (by decide +kernel)
theorem im_X6_sees : Cond.instanceMethod yX6_sees ∈ gtb := gt_of 661 (by decide +kernel) (by decide +kernel)
theorem se_X6_sees : Cond.selects RX6 yX6_sees yX6_sees ∈ gtb := gt_of 662 (by decide +kernel) (by decide +kernel)
theorem co_X6_sees : Cond.code yX6_sees cX6_sees 3 (some .int) ∈ gtb := gt_of 663 (by decide +kernel) (by decide +kernel)
theorem ml_L_85 : Cond.methodLink RL 85 yX6_forget ∈ gtb := gt_of 664 (by decide +kernel) (by decide +kernel)
theorem im_X6_forget : Cond.instanceMethod yX6_forget ∈ gtb := gt_of 665 (by decide +kernel) (by decide +kernel)
theorem se_X6_forget : Cond.selects RX6 yX6_forget yX6_forget ∈ gtb := gt_of 666 (by decide +kernel) (by decide +kernel)
theorem co_X6_forget : Cond.code yX6_forget cX6_forget 2 (some .int) ∈ gtb := gt_of 667 (by decide +kernel) (by decide +kernel)
theorem ml_L_89 : Cond.methodLink RL 89 yX6_unseen ∈ gtb := gt_of 668 (by decide +kernel) (by decide +kernel)
theorem im_X6_unseen : Cond.instanceMethod yX6_unseen ∈ gtb := gt_of 669 (by decide +kernel) (by decide +kernel)
theorem se_X6_unseen : Cond.selects RX6 yX6_unseen yX6_unseen ∈ gtb := gt_of 670 (by decide +kernel) (by decide +kernel)
theorem co_X6_unseen : Cond.code yX6_unseen cX6_unseen 6 (some .int) ∈ gtb := gt_of 671 (by decide +kernel) (by decide +kernel)
theorem ml_X6_150 : Cond.methodLink RX6 150 yX6_outWithout ∈ gtb := gt_of 672 (by decide +kernel) (by decide +kernel)
theorem im_X6_outWithout : Cond.instanceMethod yX6_outWithout ∈ gtb := gt_of 674 (by decide +kernel) (by decide +kernel)
theorem co_X6_outWithout : Cond.code yX6_outWithout cX6_outWithout 5 (some .int) ∈ gtb := gt_of 675 (by decide +kernel) (by decide +kernel)
theorem ml_L_93 : Cond.methodLink RL 93 yX6_keep ∈ gtb := gt_of 676 (by decide +kernel) (by decide +kernel)
theorem im_X6_keep : Cond.instanceMethod yX6_keep ∈ gtb := gt_of 677 (by decide +kernel) (by decide +kernel)
theorem se_X6_keep : Cond.selects RX6 yX6_keep yX6_keep ∈ gtb := gt_of 678 (by decide +kernel) (by decide +kernel)
theorem co_X6_keep : Cond.code yX6_keep cX6_keep 2 (some .int) ∈ gtb := gt_of 679 (by decide +kernel) (by decide +kernel)
theorem ml_L_97 : Cond.methodLink RL 97 yX6_back ∈ gtb := gt_of 680 (by decide +kernel) (by decide +kernel)
theorem im_X6_back : Cond.instanceMethod yX6_back ∈ gtb := gt_of 681 (by decide +kernel) (by decide +kernel)
theorem se_X6_back : Cond.selects RX6 yX6_back yX6_back ∈ gtb := gt_of 682 (by decide +kernel) (by decide +kernel)
theorem co_X6_back : Cond.code yX6_back cX6_back 2 (some .int) ∈ gtb := gt_of 683 (by decide +kernel) (by decide +kernel)
theorem ml_L_101 : Cond.methodLink RL 101 yX6_count ∈ gtb := gt_of 684 (by decide +kernel) (by decide +kernel)
theorem im_X6_count : Cond.instanceMethod yX6_count ∈ gtb := gt_of 685 (by decide +kernel) (by decide +kernel)
theorem se_X6_count : Cond.selects RX6 yX6_count yX6_count ∈ gtb := gt_of 686 (by decide +kernel) (by decide +kernel)
theorem co_X6_count : Cond.code yX6_count cX6_count 2 (some .int) ∈ gtb := gt_of 687 (by decide +kernel) (by decide +kernel)
theorem uin_X0 : ∀ w ∈ u_ws RX0 TX0 14, w ∈ gtb := by decide +kernel
theorem uin_X1 : ∀ w ∈ u_ws RX1 TX1 3, w ∈ gtb := by decide +kernel
theorem uin_X2 : ∀ w ∈ u_ws RX2 TX2 2, w ∈ gtb := by decide +kernel
theorem uin_X3 : ∀ w ∈ u_ws RX3 TX3 3, w ∈ gtb := by decide +kernel
theorem uin_X4 : ∀ w ∈ u_ws RX4 TX4 2, w ∈ gtb := by decide +kernel
theorem uin_X5 : ∀ w ∈ u_ws RX5 TX5 8, w ∈ gtb := by decide +kernel
theorem uin_X6 : ∀ w ∈ u_ws RX6 TX6 18, w ∈ gtb := by decide +kernel
end
section
/-! ===== the world: one value for all that the class and the reference hold =====
 a fabric: (nets mayTurn room now by 0..3, letters, the arrays by 0..7: places fromLine toAddress priorities putIn endedIn rounds tally)
 a row: (numbers, size); rows 0..13 are the queues of the fabrics, 14 waiting, 15 beaten
 the rest of the class: (next known seen.size by 0..2, the arrays by 0..3: slots outs kept netPlaces)
 the reference: (nets backs room now by 0..3, many counter done sorted seen by 0..4, the arrays by 0..7: its kept isKept turn place blocked seenSlots seenOut, order) -/
abbrev FabT : Type := (Nat → Int32) × Nat × (Nat → Nat → Int32)
abbrev RowT : Type := (Nat → Nat) × Nat
abbrev XT : Type := (Nat → Nat) × (Nat → Nat → Int32)
abbrev MT : Type := (Nat → Int32) × (Nat → Nat) × (Nat → Nat → Int32) × (Nat → Nat)
abbrev ST : Type := (Nat → FabT) × (Nat → RowT) × XT × MT
abbrev EnvT : Type := va_G × ClassId × ClassId × ClassId × (Nat → Nat → Nat → Nat)
abbrev eD (E : EnvT) : va_G := E.1
abbrev eI (E : EnvT) : ClassId := E.2.1
abbrev eZ (E : EnvT) : ClassId := E.2.2.1
abbrev eO (E : EnvT) : ClassId := E.2.2.2.1
abbrev ad (E : EnvT) (k i j : Nat) : Nat := E.2.2.2.2 k i j
def flen (j : Nat) : Nat := match j with
  | 7 => 5
  | _ => 64
def xlen (j : Nat) : Nat := match j with
  | 0 => 6
  | 1 => 6
  | 2 => 2
  | _ => 8
def mlen (j : Nat) : Nat := match j with
  | 0 => 512
  | 1 => 6760
  | 2 => 2
  | 3 => 64
  | 4 => 8
  | 5 => 8
  | _ => 6
/-- which cells there are: kind, which one, which of its arrays -/
def okK (k i j : Nat) : Prop := match k with
  | 0 => i = 0 ∧ j = 0
  | 1 => i < 14 ∧ j = 0
  | 2 => i < 14 ∧ j < 8
  | 3 => i < 16 ∧ j = 0
  | 4 => i < 16 ∧ j = 0
  | 5 => i = 0 ∧ j = 0
  | 6 => i = 0 ∧ j = 0
  | 7 => i = 0 ∧ j = 0
  | 8 => i = 0 ∧ j = 0
  | 9 => i = 0 ∧ j < 4
  | 10 => i = 0 ∧ j = 0
  | 11 => i = 0 ∧ j = 0
  | 12 => i = 0 ∧ j < 8
  | 13 => i = 0 ∧ j = 0
  | _ => False
def xarr (E : EnvT) (j : Nat) (f : Nat → Int32) : va_E := match j with
  | 2 => .inl (eZ E, 2, .inl f)
  | j => .inl (eI E, xlen j, .inl f)
def enc (E : EnvT) (σ : ST) (k i j : Nat) : va_E := match k with
  | 0 => .inr (5, [.ref (ad E 1 0 0), .ref (ad E 1 1 0), .ref (ad E 5 0 0), .ref (ad E 6 0 0), .ref (ad E 8 0 0), .ref (ad E 10 0 0), .ref (ad E 9 0 2), .ref (ad E 9 0 3)])
  | 1 => .inr (0, [.int ((σ.1 i).1 0), .int ((σ.1 i).1 1), .int ((σ.1 i).1 2), .int ((σ.1 i).1 3), .int (nI (σ.1 i).2.1), .ref (ad E 2 i 0), .ref (ad E 2 i 1), .ref (ad E 2 i 2), .ref (ad E 2 i 3), .ref (ad E 2 i 4), .ref (ad E 2 i 5), .ref (ad E 2 i 6), .ref (ad E 2 i 7), .ref (ad E 3 i 0)])
  | 2 => .inl (eI E, flen j, .inl ((σ.1 i).2.2 j))
  | 3 => .inr (2, [.ref (ad E 4 i 0), .int (nI (σ.2.1 i).2)])
  | 4 => .inl (eI E, 64, .inl (fun n => nI ((σ.2.1 i).1 n)))
  | 5 => .inr (4, [.ref (ad E 3 14 0), .ref (ad E 3 15 0)])
  | 6 => .inr (1, [.ref (ad E 7 0 0), .int (nI (σ.2.2.1.1 0)), .int (nI (σ.2.2.1.1 1))])
  | 7 => .inl (eO E, 10, .inr (.inr (.inr (.inr (fun j => some (ad E 1 (2 + j) 0))))))
  | 8 => .inr (3, [.ref (ad E 9 0 0), .ref (ad E 9 0 1), .int (nI (σ.2.2.1.1 2))])
  | 9 => xarr E j (σ.2.2.1.2 j)
  | 10 => .inl (eO E, 2, .inr (.inr (.inr (.inr (fun j => some (ad E 1 (12 + j) 0))))))
  | 11 => .inr (6, [.int (σ.2.2.2.1 0), .int (σ.2.2.2.1 1), .int (σ.2.2.2.1 2), .int (σ.2.2.2.1 3), .int (nI (σ.2.2.2.2.1 0)), .int (nI (σ.2.2.2.2.1 1)), .ref (ad E 12 0 0), .ref (ad E 12 0 1), .ref (ad E 12 0 2), .int (nI (σ.2.2.2.2.1 2)), .int (nI (σ.2.2.2.2.1 3)), .ref (ad E 13 0 0), .ref (ad E 12 0 3), .ref (ad E 12 0 4), .ref (ad E 12 0 5), .int (nI (σ.2.2.2.2.1 4)), .ref (ad E 12 0 6), .ref (ad E 12 0 7)])
  | 12 => .inl (eI E, mlen j, .inl (σ.2.2.2.2.2.1 j))
  | _ => .inl (eI E, 64, .inl (fun n => nI (σ.2.2.2.2.2.2 n)))
def EOK (E : EnvT) : Prop := ∀ k i j k' i' j', okK k i j → okK k' i' j' → ad E k i j = ad E k' i' j' → k = k' ∧ i = i' ∧ j = j'
def AE (E : EnvT) (q : Nat) : Prop := ∃ k i j, okK k i j ∧ q = ad E k i j
def tysE (E : EnvT) : List (ClassId × FieldType) := [(eI E, .int), (eZ E, .boolean), (eO E, .object "LetterFabric$Fabric")]
def Wh (E : EnvT) (σ : ST) (H : Heap) : Prop := ∀ k i j, okK k i j → va_at (eD E) vwCl (ad E k i j, enc E σ k i j) H
def Wd (E : EnvT) (σ : ST) (U : State) : Prop := va_K (eD E) vwCl (tysE E) U ∧ Wh E σ U.heap
theorem Wh.one {E : EnvT} {σ : ST} {H : Heap} (h : Wh E σ H) {k i j : Nat} (hok : okK k i j) {e : va_E} (he : enc E σ k i j = e) : va_P (eD E) vwCl [(ad E k i j, e)] H := by
  subst he
  intro q x hq
  have hz : q < 1 := (List.getElem?_eq_some_iff.mp hq).1
  rw [show q = 0 by omega] at hq
  cases hq
  exact h k i j hok
theorem Wh.put {E : EnvT} {σ σ' : ST} {H H1 : Heap} (hE : EOK E) (h : Wh E σ H) {k i j : Nat} (hok : okK k i j) {e : va_E} (he : va_at (eD E) vwCl (ad E k i j, e) H1) (ho : ∀ q : Nat, q ≠ ad E k i j → H1[q]? = H[q]?)
    (h1 : enc E σ' k i j = e) (h2 : ∀ k' i' j', okK k' i' j' → ¬ (k' = k ∧ i' = i ∧ j' = j) → enc E σ' k' i' j' = enc E σ k' i' j') : Wh E σ' H1 := by
  intro k' i' j' hok'
  by_cases hs : k' = k ∧ i' = i ∧ j' = j
  · obtain ⟨rfl, rfl, rfl⟩ := hs
    rw [h1]
    exact he
  · rw [h2 k' i' j' hok' hs]
    exact (h k' i' j' hok').kept (ho _ (fun q => hs (hE _ _ _ _ _ _ hok' hok q)))
/-! ===== the machine's fixed parts of one walk ===== -/
abbrev KX : Type := Program × Launch × Env × Room × State × MethodId × Array Value × List Frame × Method × Code × Nat × Nat × (State → Prop)
abbrev kp (K : KX) := K.1
abbrev kl (K : KX) := K.2.1
abbrev ke (K : KX) := K.2.2.1
abbrev kR (K : KX) := K.2.2.2.1
abbrev ks (K : KX) := K.2.2.2.2.1
abbrev km (K : KX) := K.2.2.2.2.2.1
abbrev ka (K : KX) := K.2.2.2.2.2.2.1
abbrev kbl (K : KX) := K.2.2.2.2.2.2.2.1
abbrev kme (K : KX) := K.2.2.2.2.2.2.2.2.1
abbrev kc (K : KX) := K.2.2.2.2.2.2.2.2.2.1
abbrev kce (K : KX) := K.2.2.2.2.2.2.2.2.2.2.1
abbrev ksl (K : KX) := K.2.2.2.2.2.2.2.2.2.2.2.1
abbrev kQ (K : KX) := K.2.2.2.2.2.2.2.2.2.2.2.2
def KW (K : KX) (H : Heap) (locs : List Loc) (g : JFrame) : Prop := W (kp K) (kl K) (ke K) (kR K) (ks K) (km K) (ka K) (kbl K) (kme K) (kc K) H locs (kce K) (ksl K) (kQ K) g
/-- the machine, at pc, the world being σ, the locals lv, the stack st, comes to its end -/
def GG (K : KX) (E : EnvT) (σ : ST) (pc : Nat) (lv : List (Nat × Value)) (st : List Value) : Prop :=
  ∀ (H : Heap) (locs : List Loc) (ls : Array Slot), Wh E σ H → va_S (AE E) (ks K).heap H locs → lv_has ls (kc K).maxLocals lv → KW K H locs (F0 (km K) pc ls st)
/-- what is known of the walk: the code, how many locals, whose, room for frames and locals below -/
def Cx (K : KX) (E : EnvT) (cc : ByteArray) (nL : Nat) (own : String) (f n : Nat) : Prop :=
  (kp K).tables.exec = Jvm.exec ∧ (kc K).code = cc ∧ (kc K).maxLocals = nL ∧ (ks K).vm.findClass own = some (km K).cls ∧ (∀ w ∈ gtb, w.before (ka K) (ks K) = true) ∧ va_K (eD E) vwCl (tysE E) (ks K) ∧ EOK E ∧ f ≤ (kR K).frames ∧ n ≤ (kR K).locals ∧ kce K ≤ (kR K).cells ∧ ksl K ≤ (kR K).slots
def QO (E : EnvT) (post : Option Value → ST → Prop) : Array Value → State → Outcome → State → Prop := fun _ st oc t => (∃ (v : Option Value) (σ' : ST), oc = .returned v ∧ post v σ' ∧ Wd E σ' t) ∧ va_F (AE E) st t
/-- the walk is one of a method with this answer's type and this end -/
def Rx (K : KX) (E : EnvT) (ret : Option FieldType) (post : Option Value → ST → Prop) : Prop :=
  (kme K).sig.returnType = ret ∧ (kme K).locks = false ∧ kQ K = MQ (kbl K) (QO E post) (ka K) (ks K) (kce K) (ksl K) (AE E)
/-- a method's contract -/
def Con (l : Launch) (E : EnvT) (y : MethodName) (cc : ByteArray) (nL : Nat) (ret : Option FieldType) (f n : Nat) (av : List Value) (σ : ST) (post : Option Value → ST → Prop) : Prop :=
  Met l y (Cond.code y cc nL ret :: gtb) { frames := f, cells := 0, slots := 0, locals := n } (va_Pc av (fun U => Wd E σ U)) (QO E post) 0 0 (AE E)
theorem con_intro {l : Launch} {E : EnvT} {y : MethodName} {cc : ByteArray} {nL : Nat} {ret : Option FieldType} {f n : Nat} {av : List Value} {σ : ST} {post : Option Value → ST → Prop} (hE : EOK E) (hy : plainName y.cls = true) (hn : (lg_sl av).length ≤ nL)
    (walk : ∀ K : KX, kl K = l → Cx K E cc nL y.cls f n → Rx K E ret post → GG K E σ 0 (lv_args 0 av) []) : Con l E y cc nL ret f n av σ post := by
  refine Met.ofW (cc := cc) (maxL := nL) (ret := ret) hy rfl ?_
  intro p e s m args below meth c s₁ B hml hv
  obtain ⟨rfl, hK, hW⟩ := hv
  have hts := atoms_spec (ws := Cond.code y cc nL ret :: gtb) B.pre
  have hown : s.vm.findClass y.cls = some m.cls := findClass_of_methodNamed B.named
  have hl := lv_entry av (n := nL) hn
  rw [lg_entry_eq]
  exact walk (p, l, e, { frames := f, cells := 0, slots := 0, locals := n }, s, m, av.toArray, below, meth, c, 0, 0, MQ below (QO E post) av.toArray s 0 0 (AE E)) rfl
    ⟨B.exec, B.bytes, hml, hown, fun w h => hts w (List.mem_cons_of_mem _ h), hK, hE, Nat.le_refl _, Nat.le_refl _, Nat.le_refl _, Nat.le_refl _⟩ ⟨B.returns, B.notSynchronized, rfl⟩ s.heap [] _ hW va_S.rf (by show lv_has _ c.maxLocals _; rw [hml]; exact hl)
end
section
section RL
variable {K : KX} {E : EnvT} {cc : ByteArray} {nL : Nat} {own : String} {f n : Nat} {σ : ST} {pc : Nat} {lv : List (Nat × Value)} {rest : List Value}

theorem g_iadd (h : Cx K E cc nL own f n) {x y : Int32} (hd : decode cc pc = .ok (.iadd, 1)) (k : GG K E σ (pc + 1) lv (.int (x + y) :: rest)) : GG K E σ pc lv (.int y :: .int x :: rest) := fun H locs ls hW hS hl => lv_iadd h.1 h.2.1 hd (k H locs ls hW hS hl)
theorem g_isub (h : Cx K E cc nL own f n) {x y : Int32} (hd : decode cc pc = .ok (.isub, 1)) (k : GG K E σ (pc + 1) lv (.int (x - y) :: rest)) : GG K E σ pc lv (.int y :: .int x :: rest) := fun H locs ls hW hS hl => lv_isub h.1 h.2.1 hd (k H locs ls hW hS hl)
theorem g_imul (h : Cx K E cc nL own f n) {x y : Int32} (hd : decode cc pc = .ok (.imul, 1)) (k : GG K E σ (pc + 1) lv (.int (x * y) :: rest)) : GG K E σ pc lv (.int y :: .int x :: rest) := fun H locs ls hW hS hl => lv_imul h.1 h.2.1 hd (k H locs ls hW hS hl)
theorem g_iand (h : Cx K E cc nL own f n) {x y : Int32} (hd : decode cc pc = .ok (.iand, 1)) (k : GG K E σ (pc + 1) lv (.int (x &&& y) :: rest)) : GG K E σ pc lv (.int y :: .int x :: rest) := fun H locs ls hW hS hl => lv_iand h.1 h.2.1 hd (k H locs ls hW hS hl)
theorem g_ior (h : Cx K E cc nL own f n) {x y : Int32} (hd : decode cc pc = .ok (.ior, 1)) (k : GG K E σ (pc + 1) lv (.int (x ||| y) :: rest)) : GG K E σ pc lv (.int y :: .int x :: rest) := fun H locs ls hW hS hl => lv_ior h.1 h.2.1 hd (k H locs ls hW hS hl)
theorem g_ixor (h : Cx K E cc nL own f n) {x y : Int32} (hd : decode cc pc = .ok (.ixor, 1)) (k : GG K E σ (pc + 1) lv (.int (x ^^^ y) :: rest)) : GG K E σ pc lv (.int y :: .int x :: rest) := fun H locs ls hW hS hl => lv_ixor h.1 h.2.1 hd (k H locs ls hW hS hl)
theorem g_ishl (h : Cx K E cc nL own f n) {x y : Int32} (hd : decode cc pc = .ok (.ishl, 1)) (k : GG K E σ (pc + 1) lv (.int (x <<< (y &&& 31)) :: rest)) : GG K E σ pc lv (.int y :: .int x :: rest) := fun H locs ls hW hS hl => lv_ishl h.1 h.2.1 hd (k H locs ls hW hS hl)
theorem g_ishr (h : Cx K E cc nL own f n) {x y : Int32} (hd : decode cc pc = .ok (.ishr, 1)) (k : GG K E σ (pc + 1) lv (.int (x >>> (y &&& 31)) :: rest)) : GG K E σ pc lv (.int y :: .int x :: rest) := fun H locs ls hW hS hl => lv_ishr h.1 h.2.1 hd (k H locs ls hW hS hl)
theorem g_ladd (h : Cx K E cc nL own f n) {x y : Int64} (hd : decode cc pc = .ok (.ladd, 1)) (k : GG K E σ (pc + 1) lv (.long (x + y) :: rest)) : GG K E σ pc lv (.long y :: .long x :: rest) := fun H locs ls hW hS hl => lv_ladd h.1 h.2.1 hd (k H locs ls hW hS hl)
theorem g_lsub (h : Cx K E cc nL own f n) {x y : Int64} (hd : decode cc pc = .ok (.lsub, 1)) (k : GG K E σ (pc + 1) lv (.long (x - y) :: rest)) : GG K E σ pc lv (.long y :: .long x :: rest) := fun H locs ls hW hS hl => lv_lsub h.1 h.2.1 hd (k H locs ls hW hS hl)
theorem g_lmul (h : Cx K E cc nL own f n) {x y : Int64} (hd : decode cc pc = .ok (.lmul, 1)) (k : GG K E σ (pc + 1) lv (.long (x * y) :: rest)) : GG K E σ pc lv (.long y :: .long x :: rest) := fun H locs ls hW hS hl => lv_lmul h.1 h.2.1 hd (k H locs ls hW hS hl)
theorem g_ldiv (h : Cx K E cc nL own f n) {x y : Int64} (hd : decode cc pc = .ok (.ldiv, 1)) (hne : ¬ y = 0) (k : GG K E σ (pc + 1) lv (.long (x / y) :: rest)) : GG K E σ pc lv (.long y :: .long x :: rest) := fun H locs ls hW hS hl => lv_ldiv h.1 h.2.1 hd hne (k H locs ls hW hS hl)
theorem g_lrem (h : Cx K E cc nL own f n) {x y : Int64} (hd : decode cc pc = .ok (.lrem, 1)) (hne : ¬ y = 0) (k : GG K E σ (pc + 1) lv (.long (x - x / y * y) :: rest)) : GG K E σ pc lv (.long y :: .long x :: rest) := fun H locs ls hW hS hl => lv_lrem h.1 h.2.1 hd hne (k H locs ls hW hS hl)
theorem g_i2l (h : Cx K E cc nL own f n) {x : Int32} (hd : decode cc pc = .ok (.i2l, 1)) (k : GG K E σ (pc + 1) lv (.long x.toInt64 :: rest)) : GG K E σ pc lv (.int x :: rest) := fun H locs ls hW hS hl => lv_i2l h.1 h.2.1 hd rfl (k H locs ls hW hS hl)
theorem g_lcmp (h : Cx K E cc nL own f n) {x y : Int64} (hd : decode cc pc = .ok (.lcmp, 1)) (k : GG K E σ (pc + 1) lv (.int (lg_cmp x y) :: rest)) : GG K E σ pc lv (.long y :: .long x :: rest) := fun H locs ls hW hS hl => W.lcmp h.1 h.2.1 hd (k H locs ls hW hS hl)
theorem g_dup (h : Cx K E cc nL own f n) {va : Value} (hd : decode cc pc = .ok (.dup, 1)) (hva : va.category = 1) (k : GG K E σ (pc + 1) lv (va :: va :: rest)) : GG K E σ pc lv (va :: rest) := fun H locs ls hW hS hl => lv_dup h.1 h.2.1 hd hva (k H locs ls hW hS hl)
theorem g_pop (h : Cx K E cc nL own f n) {va : Value} (hd : decode cc pc = .ok (.pop, 1)) (hva : va.category = 1) (k : GG K E σ (pc + 1) lv (rest)) : GG K E σ pc lv (va :: rest) := fun H locs ls hW hS hl => lv_pop h.1 h.2.1 hd hva (k H locs ls hW hS hl)
theorem g_dup2 (h : Cx K E cc nL own f n) {va vb : Value} (hd : decode cc pc = .ok (.dup2, 1)) (hva : va.category = 1) (hvb : vb.category = 1) (k : GG K E σ (pc + 1) lv (va :: vb :: va :: vb :: rest)) : GG K E σ pc lv (va :: vb :: rest) := fun H locs ls hW hS hl => lv_dup2_11 h.1 h.2.1 hd hva hvb (k H locs ls hW hS hl)
theorem g_iconst (h : Cx K E cc nL own f n) {z : Int} {v : Int32} (hd : decode cc pc = .ok (.iconst z, 1)) (hv : Int32.ofInt z = v) (k : GG K E σ (pc + 1) lv (.int v :: rest)) : GG K E σ pc lv (rest) := fun H locs ls hW hS hl => lv_iconst h.1 h.2.1 hd hv (k H locs ls hW hS hl)
theorem g_bipush (h : Cx K E cc nL own f n) {z : Int} {v : Int32} (hd : decode cc pc = .ok (.bipush z, 2)) (hv : (Int8.ofInt z).toInt32 = v) (k : GG K E σ (pc + 2) lv (.int v :: rest)) : GG K E σ pc lv (rest) := fun H locs ls hW hS hl => lv_bipush h.1 h.2.1 hd hv (k H locs ls hW hS hl)
theorem g_sipush (h : Cx K E cc nL own f n) {z : Int} {v : Int32} (hd : decode cc pc = .ok (.sipush z, 3)) (hv : (Int16.ofInt z).toInt32 = v) (k : GG K E σ (pc + 3) lv (.int v :: rest)) : GG K E σ pc lv (rest) := fun H locs ls hW hS hl => lv_sipush h.1 h.2.1 hd hv (k H locs ls hW hS hl)
theorem g_lconst (h : Cx K E cc nL own f n) {z : Fin 2} {v : Int64} (hd : decode cc pc = .ok (.lconst z, 1)) (hv : Int64.ofNat (z : Nat) = v) (k : GG K E σ (pc + 1) lv (.long v :: rest)) : GG K E σ pc lv (rest) := fun H locs ls hW hS hl => lv_lconst h.1 h.2.1 hd hv (k H locs ls hW hS hl)
theorem g_iload_n (h : Cx K E cc nL own f n) {q : Fin 4} {x : Int32} (j : Nat) (hd : decode cc pc = .ok (.iload_n q, 1)) (hk : lv[j]? = some ((q : Nat), .int x)) (k : GG K E σ (pc + 1) lv (.int x :: rest)) : GG K E σ pc lv (rest) := fun H locs ls hW hS hl => lv_iload_n h.1 h.2.1 hd rfl (lv_at hl j hk) (k H locs ls hW hS hl)
theorem g_iload (h : Cx K E cc nL own f n) {q : Nat} {x : Int32} (j : Nat) (hd : decode cc pc = .ok (.iload q, 2)) (hk : lv[j]? = some (q, .int x)) (k : GG K E σ (pc + 2) lv (.int x :: rest)) : GG K E σ pc lv (rest) := fun H locs ls hW hS hl => lv_iload h.1 h.2.1 hd (lv_at hl j hk) (k H locs ls hW hS hl)
theorem g_lload_n (h : Cx K E cc nL own f n) {q : Fin 4} {x : Int64} (j : Nat) (hd : decode cc pc = .ok (.lload_n q, 1)) (hk : lv[j]? = some ((q : Nat), .long x)) (k : GG K E σ (pc + 1) lv (.long x :: rest)) : GG K E σ pc lv (rest) := fun H locs ls hW hS hl => lv_lload_n h.1 h.2.1 hd rfl (lv_at hl j hk) (k H locs ls hW hS hl)
theorem g_lload (h : Cx K E cc nL own f n) {q : Nat} {x : Int64} (j : Nat) (hd : decode cc pc = .ok (.lload q, 2)) (hk : lv[j]? = some (q, .long x)) (k : GG K E σ (pc + 2) lv (.long x :: rest)) : GG K E σ pc lv (rest) := fun H locs ls hW hS hl => lv_lload h.1 h.2.1 hd (lv_at hl j hk) (k H locs ls hW hS hl)
theorem g_aload_n (h : Cx K E cc nL own f n) {q : Fin 4} {x : Nat} (j : Nat) (hd : decode cc pc = .ok (.aload_n q, 1)) (hk : lv[j]? = some ((q : Nat), .ref x)) (k : GG K E σ (pc + 1) lv (.ref x :: rest)) : GG K E σ pc lv (rest) := fun H locs ls hW hS hl => lv_aload_n h.1 h.2.1 hd rfl (lv_at hl j hk) (k H locs ls hW hS hl)
theorem g_aload (h : Cx K E cc nL own f n) {q : Nat} {x : Nat} (j : Nat) (hd : decode cc pc = .ok (.aload q, 2)) (hk : lv[j]? = some (q, .ref x)) (k : GG K E σ (pc + 2) lv (.ref x :: rest)) : GG K E σ pc lv (rest) := fun H locs ls hW hS hl => lv_aload h.1 h.2.1 hd (lv_at hl j hk) (k H locs ls hW hS hl)
/-- a local is written; the list stays in the order of the places -/
def lset1 (lv : List (Nat × Value)) (i : Nat) (v : Value) : List (Nat × Value) := lv.filter (fun q => decide (q.1 < i) && !(q.1 + 1 == i && q.2.category == 2)) ++ (i, v) :: lv.filter (fun q => decide (i < q.1))
def lset2 (lv : List (Nat × Value)) (i : Nat) (v : Value) : List (Nat × Value) := lv.filter (fun q => decide (q.1 < i) && !(q.1 + 1 == i && q.2.category == 2)) ++ (i, v) :: lv.filter (fun q => decide (i + 1 < q.1))
theorem lset1_has {ls : Array Slot} {i : Nat} {v : Value} {m : Nat} (h : lv_has ls m ((i, v) :: lv.filter (fun q => !(q.1 == i) && !(q.1 + 1 == i && q.2.category == 2)))) : lv_has ls m (lset1 lv i v) := by
  refine ⟨h.1, h.2.1, fun q hq => h.2.2 q ?_⟩
  rcases List.mem_append.mp hq with hq | hq
  · obtain ⟨h1, h2⟩ := List.mem_filter.mp hq
    simp only [Bool.and_eq_true, decide_eq_true_eq] at h2
    refine List.mem_cons_of_mem _ (List.mem_filter.mpr ⟨h1, ?_⟩)
    rw [h2.2, Bool.and_true]
    have : ¬ q.1 = i := by omega
    simp [this]
  · rcases List.mem_cons.mp hq with hq | hq
    · rw [hq]; exact List.mem_cons_self
    · obtain ⟨h1, h2⟩ := List.mem_filter.mp hq
      simp only [decide_eq_true_eq] at h2
      refine List.mem_cons_of_mem _ (List.mem_filter.mpr ⟨h1, ?_⟩)
      have e1 : ¬ q.1 = i := by omega
      have e2 : ¬ q.1 + 1 = i := by omega
      simp [e1, e2]
theorem lset2_has {ls : Array Slot} {i : Nat} {v : Value} {m : Nat} (h : lv_has ls m ((i, v) :: lv.filter (fun q => !(q.1 == i) && (!(q.1 == i + 1) && !(q.1 + 1 == i && q.2.category == 2))))) : lv_has ls m (lset2 lv i v) := by
  refine ⟨h.1, h.2.1, fun q hq => h.2.2 q ?_⟩
  rcases List.mem_append.mp hq with hq | hq
  · obtain ⟨h1, h2⟩ := List.mem_filter.mp hq
    simp only [Bool.and_eq_true, decide_eq_true_eq] at h2
    refine List.mem_cons_of_mem _ (List.mem_filter.mpr ⟨h1, ?_⟩)
    rw [h2.2, Bool.and_true]
    have e1 : ¬ q.1 = i := by omega
    have e2 : ¬ q.1 = i + 1 := by omega
    simp [e1, e2]
  · rcases List.mem_cons.mp hq with hq | hq
    · rw [hq]; exact List.mem_cons_self
    · obtain ⟨h1, h2⟩ := List.mem_filter.mp hq
      simp only [decide_eq_true_eq] at h2
      refine List.mem_cons_of_mem _ (List.mem_filter.mpr ⟨h1, ?_⟩)
      have e1 : ¬ q.1 = i := by omega
      have e2 : ¬ q.1 + 1 = i := by omega
      have e3 : ¬ q.1 = i + 1 := by omega
      simp [e1, e2, e3]
theorem g_istore_n (h : Cx K E cc nL own f n) {q : Fin 4} {x : Int32} (lv' : List (Nat × Value)) (hd : decode cc pc = .ok (.istore_n q, 1)) (hn : (q : Nat) < nL) (hv : lset1 lv (q : Nat) (.int x) = lv') (k : GG K E σ (pc + 1) lv' rest) : GG K E σ pc lv (.int x :: rest) := by
  subst hv
  exact fun H locs ls hW hS hl => lv_istore_n h.1 h.2.1 hd rfl hl (by rw [h.2.2.1]; exact hn) rfl (fun ls2 hl2 => k H locs ls2 hW hS (lset1_has hl2))
theorem g_istore (h : Cx K E cc nL own f n) {q : Nat} {x : Int32} (lv' : List (Nat × Value)) (hd : decode cc pc = .ok (.istore q, 2)) (hn : q < nL) (hv : lset1 lv q (.int x) = lv') (k : GG K E σ (pc + 2) lv' rest) : GG K E σ pc lv (.int x :: rest) := by
  subst hv
  exact fun H locs ls hW hS hl => lv_istore h.1 h.2.1 hd hl (by rw [h.2.2.1]; exact hn) rfl (fun ls2 hl2 => k H locs ls2 hW hS (lset1_has hl2))
theorem g_lstore_n (h : Cx K E cc nL own f n) {q : Fin 4} {x : Int64} (lv' : List (Nat × Value)) (hd : decode cc pc = .ok (.lstore_n q, 1)) (hn : (q : Nat) + 1 < nL) (hv : lset2 lv (q : Nat) (.long x) = lv') (k : GG K E σ (pc + 1) lv' rest) : GG K E σ pc lv (.long x :: rest) := by
  subst hv
  exact fun H locs ls hW hS hl => lv_lstore_n h.1 h.2.1 hd rfl hl (by rw [h.2.2.1]; exact hn) rfl (fun ls2 hl2 => k H locs ls2 hW hS (lset2_has hl2))
theorem g_lstore (h : Cx K E cc nL own f n) {q : Nat} {x : Int64} (lv' : List (Nat × Value)) (hd : decode cc pc = .ok (.lstore q, 2)) (hn : q + 1 < nL) (hv : lset2 lv q (.long x) = lv') (k : GG K E σ (pc + 2) lv' rest) : GG K E σ pc lv (.long x :: rest) := by
  subst hv
  exact fun H locs ls hW hS hl => lv_lstore h.1 h.2.1 hd hl (by rw [h.2.2.1]; exact hn) rfl (fun ls2 hl2 => k H locs ls2 hW hS (lset2_has hl2))
theorem g_astore_n (h : Cx K E cc nL own f n) {q : Fin 4} {x : Nat} (lv' : List (Nat × Value)) (hd : decode cc pc = .ok (.astore_n q, 1)) (hn : (q : Nat) < nL) (hv : lset1 lv (q : Nat) (.ref x) = lv') (k : GG K E σ (pc + 1) lv' rest) : GG K E σ pc lv (.ref x :: rest) := by
  subst hv
  exact fun H locs ls hW hS hl => lv_astore_n h.1 h.2.1 hd rfl hl (by rw [h.2.2.1]; exact hn) rfl (fun ls2 hl2 => k H locs ls2 hW hS (lset1_has hl2))
theorem g_astore (h : Cx K E cc nL own f n) {q : Nat} {x : Nat} (lv' : List (Nat × Value)) (hd : decode cc pc = .ok (.astore q, 2)) (hn : q < nL) (hv : lset1 lv q (.ref x) = lv') (k : GG K E σ (pc + 2) lv' rest) : GG K E σ pc lv (.ref x :: rest) := by
  subst hv
  exact fun H locs ls hW hS hl => lv_astore h.1 h.2.1 hd hl (by rw [h.2.2.1]; exact hn) rfl (fun ls2 hl2 => k H locs ls2 hW hS (lset1_has hl2))
theorem g_iinc (h : Cx K E cc nL own f n) {q : Nat} {z : Int} {x v : Int32} (j : Nat) (lv' : List (Nat × Value)) (hd : decode cc pc = .ok (.iinc q z, 3)) (hk : lv[j]? = some (q, .int x)) (hx : x + Int32.ofInt z = v) (hn : q < nL) (hv : lset1 lv q (.int v) = lv') (k : GG K E σ (pc + 3) lv' rest) : GG K E σ pc lv rest := by
  subst hv
  exact fun H locs ls hW hS hl => lv_iinc h.1 h.2.1 hd hl hk hx (by rw [h.2.2.1]; exact hn) rfl (fun ls2 hl2 => k H locs ls2 hW hS (lset1_has hl2))
theorem g_if_eq (h : Cx K E cc nL own f n) {x : Int32} {off : Int} (tgt : Nat) (hd : decode cc pc = .ok (.ifCond .eq off, 3)) (ht : (pc : Int) + off = (tgt : Int)) (kt : x = 0 → GG K E σ tgt lv rest) (kf : ¬ x = 0 → GG K E σ (pc + 3) lv rest) : GG K E σ pc lv (.int x :: rest) := fun H locs ls hW hS hl => lv_if_eq h.1 h.2.1 hd ht (fun c => kt c H locs ls hW hS hl) (fun c => kf c H locs ls hW hS hl)
theorem g_if_ne (h : Cx K E cc nL own f n) {x : Int32} {off : Int} (tgt : Nat) (hd : decode cc pc = .ok (.ifCond .ne off, 3)) (ht : (pc : Int) + off = (tgt : Int)) (kt : ¬ x = 0 → GG K E σ tgt lv rest) (kf : x = 0 → GG K E σ (pc + 3) lv rest) : GG K E σ pc lv (.int x :: rest) := fun H locs ls hW hS hl => lv_if_ne h.1 h.2.1 hd ht (fun c => kt c H locs ls hW hS hl) (fun c => kf c H locs ls hW hS hl)
theorem g_if_lt (h : Cx K E cc nL own f n) {x : Int32} {off : Int} (tgt : Nat) (hd : decode cc pc = .ok (.ifCond .lt off, 3)) (ht : (pc : Int) + off = (tgt : Int)) (kt : x < 0 → GG K E σ tgt lv rest) (kf : ¬ x < 0 → GG K E σ (pc + 3) lv rest) : GG K E σ pc lv (.int x :: rest) := fun H locs ls hW hS hl => lv_if_lt h.1 h.2.1 hd ht (fun c => kt c H locs ls hW hS hl) (fun c => kf c H locs ls hW hS hl)
theorem g_if_ge (h : Cx K E cc nL own f n) {x : Int32} {off : Int} (tgt : Nat) (hd : decode cc pc = .ok (.ifCond .ge off, 3)) (ht : (pc : Int) + off = (tgt : Int)) (kt : 0 ≤ x → GG K E σ tgt lv rest) (kf : ¬ 0 ≤ x → GG K E σ (pc + 3) lv rest) : GG K E σ pc lv (.int x :: rest) := fun H locs ls hW hS hl => lv_if_ge h.1 h.2.1 hd ht (fun c => kt c H locs ls hW hS hl) (fun c => kf c H locs ls hW hS hl)
theorem g_if_gt (h : Cx K E cc nL own f n) {x : Int32} {off : Int} (tgt : Nat) (hd : decode cc pc = .ok (.ifCond .gt off, 3)) (ht : (pc : Int) + off = (tgt : Int)) (kt : 0 < x → GG K E σ tgt lv rest) (kf : ¬ 0 < x → GG K E σ (pc + 3) lv rest) : GG K E σ pc lv (.int x :: rest) := fun H locs ls hW hS hl => lv_if_gt h.1 h.2.1 hd ht (fun c => kt c H locs ls hW hS hl) (fun c => kf c H locs ls hW hS hl)
theorem g_if_le (h : Cx K E cc nL own f n) {x : Int32} {off : Int} (tgt : Nat) (hd : decode cc pc = .ok (.ifCond .le off, 3)) (ht : (pc : Int) + off = (tgt : Int)) (kt : x ≤ 0 → GG K E σ tgt lv rest) (kf : ¬ x ≤ 0 → GG K E σ (pc + 3) lv rest) : GG K E σ pc lv (.int x :: rest) := fun H locs ls hW hS hl => lv_if_le h.1 h.2.1 hd ht (fun c => kt c H locs ls hW hS hl) (fun c => kf c H locs ls hW hS hl)
theorem g_icmp_eq (h : Cx K E cc nL own f n) {x y : Int32} {off : Int} (tgt : Nat) (hd : decode cc pc = .ok (.if_icmp .eq off, 3)) (ht : (pc : Int) + off = (tgt : Int)) (kt : x = y → GG K E σ tgt lv rest) (kf : ¬ x = y → GG K E σ (pc + 3) lv rest) : GG K E σ pc lv (.int y :: .int x :: rest) := fun H locs ls hW hS hl => lv_icmp_eq h.1 h.2.1 hd ht (fun c => kt c H locs ls hW hS hl) (fun c => kf c H locs ls hW hS hl)
theorem g_ncmp_eq (h : Cx K E cc nL own f n) {a b : Nat} {off : Int} (tgt : Nat) (hd : decode cc pc = .ok (.if_icmp .eq off, 3)) (ht : (pc : Int) + off = (tgt : Int)) (ha : a < 2 ^ 31) (hb : b < 2 ^ 31) (kt : a = b → GG K E σ tgt lv rest) (kf : a ≠ b → GG K E σ (pc + 3) lv rest) : GG K E σ pc lv (.int (nI b) :: .int (nI a) :: rest) := g_icmp_eq h tgt hd ht (fun q => kt ((nI_eq ha hb).mp q)) (fun q => kf (fun e => q ((nI_eq ha hb).mpr e)))
theorem g_icmp_ne (h : Cx K E cc nL own f n) {x y : Int32} {off : Int} (tgt : Nat) (hd : decode cc pc = .ok (.if_icmp .ne off, 3)) (ht : (pc : Int) + off = (tgt : Int)) (kt : ¬ x = y → GG K E σ tgt lv rest) (kf : x = y → GG K E σ (pc + 3) lv rest) : GG K E σ pc lv (.int y :: .int x :: rest) := fun H locs ls hW hS hl => lv_icmp_ne h.1 h.2.1 hd ht (fun c => kt c H locs ls hW hS hl) (fun c => kf c H locs ls hW hS hl)
theorem g_ncmp_ne (h : Cx K E cc nL own f n) {a b : Nat} {off : Int} (tgt : Nat) (hd : decode cc pc = .ok (.if_icmp .ne off, 3)) (ht : (pc : Int) + off = (tgt : Int)) (ha : a < 2 ^ 31) (hb : b < 2 ^ 31) (kt : a ≠ b → GG K E σ tgt lv rest) (kf : a = b → GG K E σ (pc + 3) lv rest) : GG K E σ pc lv (.int (nI b) :: .int (nI a) :: rest) := g_icmp_ne h tgt hd ht (fun q => kt (fun e => q ((nI_eq ha hb).mpr e))) (fun q => kf ((nI_eq ha hb).mp q))
theorem g_icmp_lt (h : Cx K E cc nL own f n) {x y : Int32} {off : Int} (tgt : Nat) (hd : decode cc pc = .ok (.if_icmp .lt off, 3)) (ht : (pc : Int) + off = (tgt : Int)) (kt : x < y → GG K E σ tgt lv rest) (kf : ¬ x < y → GG K E σ (pc + 3) lv rest) : GG K E σ pc lv (.int y :: .int x :: rest) := fun H locs ls hW hS hl => lv_icmp_lt h.1 h.2.1 hd ht (fun c => kt c H locs ls hW hS hl) (fun c => kf c H locs ls hW hS hl)
theorem g_ncmp_lt (h : Cx K E cc nL own f n) {a b : Nat} {off : Int} (tgt : Nat) (hd : decode cc pc = .ok (.if_icmp .lt off, 3)) (ht : (pc : Int) + off = (tgt : Int)) (ha : a < 2 ^ 31) (hb : b < 2 ^ 31) (kt : a < b → GG K E σ tgt lv rest) (kf : b ≤ a → GG K E σ (pc + 3) lv rest) : GG K E σ pc lv (.int (nI b) :: .int (nI a) :: rest) := g_icmp_lt h tgt hd ht (fun q => kt ((nI_ltI ha hb).mp q)) (fun q => kf (Nat.not_lt.mp (fun e => q ((nI_ltI ha hb).mpr e))))
theorem g_icmp_ge (h : Cx K E cc nL own f n) {x y : Int32} {off : Int} (tgt : Nat) (hd : decode cc pc = .ok (.if_icmp .ge off, 3)) (ht : (pc : Int) + off = (tgt : Int)) (kt : y ≤ x → GG K E σ tgt lv rest) (kf : ¬ y ≤ x → GG K E σ (pc + 3) lv rest) : GG K E σ pc lv (.int y :: .int x :: rest) := fun H locs ls hW hS hl => lv_icmp_ge h.1 h.2.1 hd ht (fun c => kt c H locs ls hW hS hl) (fun c => kf c H locs ls hW hS hl)
theorem g_ncmp_ge (h : Cx K E cc nL own f n) {a b : Nat} {off : Int} (tgt : Nat) (hd : decode cc pc = .ok (.if_icmp .ge off, 3)) (ht : (pc : Int) + off = (tgt : Int)) (ha : a < 2 ^ 31) (hb : b < 2 ^ 31) (kt : b ≤ a → GG K E σ tgt lv rest) (kf : a < b → GG K E σ (pc + 3) lv rest) : GG K E σ pc lv (.int (nI b) :: .int (nI a) :: rest) := g_icmp_ge h tgt hd ht (fun q => kt ((nI_leI hb ha).mp q)) (fun q => kf (Nat.not_le.mp (fun e => q ((nI_leI hb ha).mpr e))))
theorem g_icmp_gt (h : Cx K E cc nL own f n) {x y : Int32} {off : Int} (tgt : Nat) (hd : decode cc pc = .ok (.if_icmp .gt off, 3)) (ht : (pc : Int) + off = (tgt : Int)) (kt : y < x → GG K E σ tgt lv rest) (kf : ¬ y < x → GG K E σ (pc + 3) lv rest) : GG K E σ pc lv (.int y :: .int x :: rest) := fun H locs ls hW hS hl => lv_icmp_gt h.1 h.2.1 hd ht (fun c => kt c H locs ls hW hS hl) (fun c => kf c H locs ls hW hS hl)
theorem g_ncmp_gt (h : Cx K E cc nL own f n) {a b : Nat} {off : Int} (tgt : Nat) (hd : decode cc pc = .ok (.if_icmp .gt off, 3)) (ht : (pc : Int) + off = (tgt : Int)) (ha : a < 2 ^ 31) (hb : b < 2 ^ 31) (kt : b < a → GG K E σ tgt lv rest) (kf : a ≤ b → GG K E σ (pc + 3) lv rest) : GG K E σ pc lv (.int (nI b) :: .int (nI a) :: rest) := g_icmp_gt h tgt hd ht (fun q => kt ((nI_ltI hb ha).mp q)) (fun q => kf (Nat.not_lt.mp (fun e => q ((nI_ltI hb ha).mpr e))))
theorem g_icmp_le (h : Cx K E cc nL own f n) {x y : Int32} {off : Int} (tgt : Nat) (hd : decode cc pc = .ok (.if_icmp .le off, 3)) (ht : (pc : Int) + off = (tgt : Int)) (kt : x ≤ y → GG K E σ tgt lv rest) (kf : ¬ x ≤ y → GG K E σ (pc + 3) lv rest) : GG K E σ pc lv (.int y :: .int x :: rest) := fun H locs ls hW hS hl => lv_icmp_le h.1 h.2.1 hd ht (fun c => kt c H locs ls hW hS hl) (fun c => kf c H locs ls hW hS hl)
theorem g_ncmp_le (h : Cx K E cc nL own f n) {a b : Nat} {off : Int} (tgt : Nat) (hd : decode cc pc = .ok (.if_icmp .le off, 3)) (ht : (pc : Int) + off = (tgt : Int)) (ha : a < 2 ^ 31) (hb : b < 2 ^ 31) (kt : a ≤ b → GG K E σ tgt lv rest) (kf : b < a → GG K E σ (pc + 3) lv rest) : GG K E σ pc lv (.int (nI b) :: .int (nI a) :: rest) := g_icmp_le h tgt hd ht (fun q => kt ((nI_leI ha hb).mp q)) (fun q => kf (Nat.not_le.mp (fun e => q ((nI_leI ha hb).mpr e))))
theorem g_goto (h : Cx K E cc nL own f n) {off : Int} (tgt : Nat) (hd : decode cc pc = .ok (.goto off, 3)) (ht : (pc : Int) + off = (tgt : Int)) (k : GG K E σ tgt lv rest) : GG K E σ pc lv rest := fun H locs ls hW hS hl => lv_goto h.1 h.2.1 hd ht (k H locs ls hW hS hl)
theorem g_tabIn (h : Cx K E cc nL own f n) {dflt lo hi : Int} {offs : Array Int} {len : Nat} {x : Int32} {off : Int} (tgt : Nat) (hd : decode cc pc = .ok (.tableswitch dflt lo hi offs, len)) (h1 : ¬ x.toInt < lo) (h2 : ¬ hi < x.toInt) (ho : offs[(x.toInt - lo).toNat]? = some off) (ht : (pc : Int) + off = (tgt : Int)) (k : GG K E σ tgt lv rest) : GG K E σ pc lv (.int x :: rest) := fun H locs ls hW hS hl => lv_tableIn h.1 h.2.1 hd h1 h2 ho ht (k H locs ls hW hS hl)
theorem g_tabOut (h : Cx K E cc nL own f n) {dflt lo hi : Int} {offs : Array Int} {len : Nat} {x : Int32} (tgt : Nat) (hd : decode cc pc = .ok (.tableswitch dflt lo hi offs, len)) (hx : x.toInt < lo ∨ hi < x.toInt) (ht : (pc : Int) + dflt = (tgt : Int)) (k : GG K E σ tgt lv rest) : GG K E σ pc lv (.int x :: rest) := fun H locs ls hW hS hl => lv_tableOut h.1 h.2.1 hd hx ht (k H locs ls hW hS hl)
theorem g_ldc2 (h : Cx K E cc nL own f n) {index : Nat} {v : Int64} (hw : Cond.constantLong own index v ∈ gtb) (hd : decode cc pc = .ok (.ldc2_w index, 3)) (k : GG K E σ (pc + 3) lv (.long v :: rest)) : GG K E σ pc lv rest := fun H locs ls hW hS hl => lv_ldc2 h.1 h.2.1 h.2.2.2.1 (h.2.2.2.2.1 _ hw) hd (k H locs ls hW hS hl)
theorem g_top {x : Int32} (k : ∀ y : Int32, y = x → GG K E σ pc lv (.int y :: rest)) : GG K E σ pc lv (.int x :: rest) := k x rfl
theorem g_is {x : Int32} (y : Int32) (e : x = y) (k : GG K E σ pc lv (.int y :: rest)) : GG K E σ pc lv (.int x :: rest) := e ▸ k
theorem g_isl {x : Int64} (y : Int64) (e : x = y) (k : GG K E σ pc lv (.long y :: rest)) : GG K E σ pc lv (.long x :: rest) := e ▸ k
theorem g_st (σ' : ST) (e : σ = σ') (k : GG K E σ' pc lv rest) : GG K E σ pc lv rest := e ▸ k
theorem g_sub (lv' : List (Nat × Value)) (is : List Nat) (e : lv_pick lv is = lv') (k : GG K E σ pc lv' rest) : GG K E σ pc lv rest := fun H locs ls hW hS hl => k H locs ls hW hS (lv_sub hl is e)
theorem g_get (h : Cx K E cc nL own f n) (k i j : Nat) (hok : okK k i j) {ci : Nat} {fs : List Value} (he : enc E σ k i j = .inr (ci, fs)) {C : String} {T : u_T} {N : Nat} (hc : vwCl[ci]? = some (C, T, N)) (hin : ∀ w ∈ u_ws C T N, w ∈ gtb) (q : Nat) (hq : q < N) {index : Nat} (hl : Cond.fieldLink own index (T q).1 (T q).2.1 (T q).2.2.1 ∈ gtb) {v : Value} (hv : fs[q]? = some v) (hd : decode cc pc = .ok (.getfield index, 3)) (kk : GG K E σ (pc + 3) lv (v :: rest)) : GG K E σ pc lv (.ref (ad E k i j) :: rest) := fun H locs ls hW hS hl2 =>
  va_get (D := eD E) (cl := vwCl) h.1 h.2.1 h.2.2.2.2.1 hin h.2.2.2.1 h.2.2.2.2.2.1 (hW.one hok he) 0 rfl hc q hq (h.2.2.2.2.1 _ hl) (fun _ z => z) hv hd (kk H locs ls hW hS hl2)
theorem g_put (h : Cx K E cc nL own f n) (k i j : Nat) (hok : okK k i j) {ci : Nat} {fs : List Value} (he : enc E σ k i j = .inr (ci, fs)) {C : String} {T : u_T} {N : Nat} (hc : vwCl[ci]? = some (C, T, N)) (hin : ∀ w ∈ u_ws C T N, w ∈ gtb) (ty0 : Nat → FieldType) (hty : ∀ k, k < N → parseFieldDescriptor (T k).2.2.1 = some (ty0 k)) (hnm : ∀ a, a < N → ∀ b, b < N → a ≠ b → (T a).2.1 ≠ (T b).2.1) (q : Nat) (hq : q < N) {index : Nat} (hl : Cond.fieldLink own index (T q).1 (T q).2.1 (T q).2.2.1 ∈ gtb) (hfin : (T q).2.2.2 = false) (hd0 : parseFieldDescriptor (T q).2.2.1 = some .int) {x : Int32} (hlen : q < fs.length)
    {σ' : ST} (h1 : enc E σ' k i j = .inr (ci, fs.set q (.int x))) (h2 : ∀ k' i' j', okK k' i' j' → ¬ (k' = k ∧ i' = i ∧ j' = j) → enc E σ' k' i' j' = enc E σ k' i' j') (hd : decode cc pc = .ok (.putfield index, 3)) (kk : GG K E σ' (pc + 3) lv rest) : GG K E σ pc lv (.int x :: .ref (ad E k i j) :: rest) := by
  intro H locs ls hW hS hl2
  have hP := hW.one hok he
  have hap := va_apart (own := own) h.2.2.2.2.1 hin ty0 hty hnm h.2.2.2.2.2.1 hc
  obtain ⟨r, g1, cell, q1, q2, q3, q4⟩ := hP 0 _ rfl
  have hr : r = (C, T, N) := Option.some.inj (g1.symm.trans hc)
  subst hr
  obtain ⟨hSl, hfc, kC, hkC, hkind⟩ := h.2.2.2.2.2.1.1 ci _ hc
  obtain ⟨cf, kf, fi, fd, hi, hsl⟩ := hSl q hq
  have hlay := h.2.2.2.2.1 _ (hin _ (u_in_lay hq))
  unfold u_lay at hlay
  rw [if_neg (by rw [hfin]; decide)] at hlay
  have hst := (u_facts hfc hkC (u_lays h.2.2.2.2.1 hin hq) hi).1
  have h6 := u_store hfc hkC hkind hlay hi hd0 (v := .int x) rfl rfl
  refine W.putK h.1 h.2.1 (f := fd) ⟨h.2.2.2.1, h.2.2.2.2.1 _ hl, ⟨_, _, _, hi⟩, hst⟩ (by rw [q2]; exact h6) q1 q3 (by rw [hsl]; exact k2_hasslot (q4 q hq)) rfl rfl hd fun H' e1 e2 e3 => ?_
  rw [hsl] at e1 ⊢
  exact kk H' _ ls (hW.put (e := .inr (ci, fs.set q (.int x))) h.2.2.2.2.2.2.1 hok ⟨_, hc, t_OB.to (V := updV (vp_V fs) q (.int x)) ⟨_, e1, q2, q3, t_set q4 hap hq (.int x)⟩ (fun j _ => vp_updV_set hlen (.int x) j)⟩ e3 h1 h2) (hS.put e2 e3 ⟨k, i, j, hok, rfl⟩) hl2
theorem g_iald (h : Cx K E cc nL own f n) (k i j : Nat) (hok : okK k i j) {N : Nat} {fn : Nat → Int32} (he : enc E σ k i j = .inl (eI E, N, .inl fn)) (t : Nat) (ht : t < N) (hN : N < 2 ^ 31) (hd : decode cc pc = .ok (.iaload, 1)) (kk : GG K E σ (pc + 1) lv (.int (fn t) :: rest)) : GG K E σ pc lv (.int (nI t) :: .ref (ad E k i j) :: rest) := fun H locs ls hW hS hl2 => by
  refine va_iald (D := eD E) (cl := vwCl) h.1 h.2.1 h.2.2.2.2.2.1 (hW.one hok he) 0 0 rfl rfl (vp_in_nI ht hN) hd ?_
  rw [nI_clamp (by omega)]
  exact kk H locs ls hW hS hl2
theorem g_zald (h : Cx K E cc nL own f n) (k i j : Nat) (hok : okK k i j) {N : Nat} {fn : Nat → Int32} (he : enc E σ k i j = .inl (eZ E, N, .inl fn)) (t : Nat) (ht : t < N) (hN : N < 2 ^ 31) (hd : decode cc pc = .ok (.baload, 1)) (kk : GG K E σ (pc + 1) lv (.int (fn t) :: rest)) : GG K E σ pc lv (.int (nI t) :: .ref (ad E k i j) :: rest) := fun H locs ls hW hS hl2 => by
  refine va_zald (D := eD E) (cl := vwCl) h.1 h.2.1 h.2.2.2.2.2.1 (hW.one hok he) 0 1 rfl rfl (vp_in_nI ht hN) hd ?_
  rw [nI_clamp (by omega)]
  exact kk H locs ls hW hS hl2
theorem g_aald (h : Cx K E cc nL own f n) (k i j : Nat) (hok : okK k i j) {N : Nat} {fn : Nat → Option Nat} (he : enc E σ k i j = .inl (eO E, N, .inr (.inr (.inr (.inr fn))))) (t : Nat) (ht : t < N) (hN : N < 2 ^ 31) (hd : decode cc pc = .ok (.aaload, 1)) (kk : GG K E σ (pc + 1) lv (va_rf (fn t) :: rest)) : GG K E σ pc lv (.int (nI t) :: .ref (ad E k i j) :: rest) := fun H locs ls hW hS hl2 => by
  refine va_aldq (D := eD E) (cl := vwCl) (C := "LetterFabric$Fabric") h.1 h.2.1 h.2.2.2.2.2.1 (hW.one hok he) 0 2 rfl rfl (vp_in_nI ht hN) hd ?_
  rw [nI_clamp (by omega)]
  exact kk H locs ls hW hS hl2
theorem g_iast (h : Cx K E cc nL own f n) (k i j : Nat) (hok : okK k i j) {N : Nat} {fn : Nat → Int32} (he : enc E σ k i j = .inl (eI E, N, .inl fn)) (t : Nat) (ht : t < N) (hN : N < 2 ^ 31) {x : Int32} {σ' : ST} (h1 : enc E σ' k i j = .inl (eI E, N, .inl (upd fn t x))) (h2 : ∀ k' i' j', okK k' i' j' → ¬ (k' = k ∧ i' = i ∧ j' = j) → enc E σ' k' i' j' = enc E σ k' i' j') (hd : decode cc pc = .ok (.iastore, 1)) (kk : GG K E σ' (pc + 1) lv rest) : GG K E σ pc lv (.int x :: .int (nI t) :: .ref (ad E k i j) :: rest) := by
  intro H locs ls hW hS hl2
  have hP := hW.one hok he
  refine W.iast h.1 h.2.1 (hP 0 _ rfl) ((h.2.2.2.2.2.1.2 0 _ rfl).1 N (fun j => .int (fn j))) (fun q => by cases q) (by show ¬ (nI t < 0 ∨ (arrV _ _ _).slots.size ≤ _); rw [arrV_size]; exact vp_in_nI ht hN) rfl rfl hd fun H1 e z oq => ?_
  refine kk H1 _ ls (hW.put h.2.2.2.2.2.2.1 hok ?_ oq h1 h2) (hS.put z oq ⟨k, i, j, hok, rfl⟩) hl2
  show H1[ad E k i j]? = some (vp_cell _ _)
  rw [e, nI_clamp (by omega), vp_cell_i, vp_cell_i, arrV_store]
  congr 2
  funext q
  by_cases hq : q = t
  · subst hq
    simp [updV, upd]
  · simp [updV, upd, hq]
theorem g_zast (h : Cx K E cc nL own f n) (k i j : Nat) (hok : okK k i j) {N : Nat} {fn : Nat → Int32} (he : enc E σ k i j = .inl (eZ E, N, .inl fn)) (t : Nat) (ht : t < N) (hN : N < 2 ^ 31) {x : Int32} (hx : narrow .boolean (.int x) = .int x) {σ' : ST} (h1 : enc E σ' k i j = .inl (eZ E, N, .inl (upd fn t x))) (h2 : ∀ k' i' j', okK k' i' j' → ¬ (k' = k ∧ i' = i ∧ j' = j) → enc E σ' k' i' j' = enc E σ k' i' j') (hd : decode cc pc = .ok (.bastore, 1)) (kk : GG K E σ' (pc + 1) lv rest) : GG K E σ pc lv (.int x :: .int (nI t) :: .ref (ad E k i j) :: rest) := by
  intro H locs ls hW hS hl2
  have hP := hW.one hok he
  refine W.zast h.1 h.2.1 (hP 0 _ rfl) ((h.2.2.2.2.2.1.2 1 _ rfl).1 N (fun j => .int (fn j))) (fun q => by cases q) (by show ¬ (nI t < 0 ∨ (arrV _ _ _).slots.size ≤ _); rw [arrV_size]; exact vp_in_nI ht hN) rfl rfl hd fun H1 e z oq => ?_
  refine kk H1 _ ls (hW.put h.2.2.2.2.2.2.1 hok ?_ oq h1 h2) (hS.put z oq ⟨k, i, j, hok, rfl⟩) hl2
  show H1[ad E k i j]? = some (vp_cell _ _)
  rw [e, nI_clamp (by omega), vp_cell_i, vp_cell_i, arrV_store]
  congr 2
  funext q
  by_cases hq : q = t
  · subst hq
    simp [updV, upd, hx]
  · simp [updV, upd, hq]
theorem va_cpy0 {α : Type} {fs gs : Nat → α} {m j : Nat} : va_cpy fs gs 0 0 m j = if j < m then fs j else gs j := by
  by_cases h : j < m
  · rw [if_pos h]; simp [va_cpy, h]
  · rw [if_neg h]; simp [va_cpy, h]
theorem g_copy (h : Cx K E cc nL own f n) (k i j k0 i0 j0 : Nat) (hok : okK k i j) (hok0 : okK k0 i0 j0) (hne : ¬ (k0 = k ∧ i0 = i ∧ j0 = j)) {N N0 : Nat} {fn f0 : Nat → Int32} (he : enc E σ k i j = .inl (eI E, N, .inl fn)) (he0 : enc E σ k0 i0 j0 = .inl (eI E, N0, .inl f0)) (t : Nat) (ht : t ≤ N) (ht0 : t ≤ N0) (hN : N < 2 ^ 31) {index : Nat} (hlk : Cond.methodLink own index arraycopyName ∈ gtb) (hfr : 1 ≤ f) (hlo : 40 ≤ n) (hnil : (rest.map fun v => v.category).sum ≤ 8) {σ' : ST} (h1 : enc E σ' k i j = .inl (eI E, N, .inl (fun m => if m < t then f0 m else fn m))) (h2 : ∀ k' i' j', okK k' i' j' → ¬ (k' = k ∧ i' = i ∧ j' = j) → enc E σ' k' i' j' = enc E σ k' i' j') (hd : decode cc pc = .ok (.invokestatic index, 3)) (kk : GG K E σ' (pc + 3) lv rest) : GG K E σ pc lv (.int (nI t) :: .int 0 :: .ref (ad E k i j) :: .int 0 :: .ref (ad E k0 i0 j0) :: rest) := by
  intro H locs ls hW hS hl2
  have had : ad E k0 i0 j0 ≠ ad E k i j := fun q => hne (h.2.2.2.2.2.2.1 _ _ _ _ _ _ hok0 hok q)
  have hP0 := hW.one hok0 he0
  have hP1 := hW.one hok he
  have hc0 : (0 : Int32).toNatClampNeg = 0 := by decide
  have hnn : ∀ z : Int32, ¬ z < 0 → z.toInt = (z.toNatClampNeg : Int) := by
    intro z hz
    have hz0 : (0 : Int) ≤ z.toInt := by
      have := Int32.not_lt.mp hz
      simpa using Int32.le_iff_toInt_le.mp this
    show z.toInt = ((z.toInt.toNat : Nat) : Int)
    omega
  have htc : (nI t).toNatClampNeg = t := nI_clamp (by omega)
  have htI : (nI t).toInt = (t : Int) := nI_toInt (by omega)
  have hroom : 2 * (F0 (km K) pc ls (.int (nI t) :: .int 0 :: .ref (ad E k i j) :: .int 0 :: .ref (ad E k0 i0 j0) :: rest)).monitorRoom + (rest.map fun v => v.category).sum + (nativeFrameWords "java/lang/System" "arraycopy" 5 + 11) ≤ (kR K).locals := by
    have e1 : nativeFrameWords "java/lang/System" "arraycopy" 5 + 11 ≤ 32 := by decide +kernel
    have e2 := h.2.2.2.2.2.2.2.2.1
    show 2 * 0 + _ + _ ≤ _
    omega
  intro T hT X
  have hc0' : H[ad E k0 i0 j0]? = some (vp_cell (eI E) (N0, .inl f0)) := hP0 0 _ rfl
  have hc1' : H[ad E k i j]? = some (vp_cell (eI E) (N, .inl fn)) := hP1 0 _ rfl
  obtain ⟨-, kA, hkA, cmA, hkkA⟩ := (h.2.2.2.2.2.1.2 0 _ rfl).1 N0 (fun j => .int (f0 j))
  obtain ⟨vm', X', step⟩ := X.arraycopy h.1 h.2.2.2.1 (h.2.2.2.2.1 _ hlk) (h.2.2.2.2.1 _ nat_arraycopy) (h.2.2.2.2.1 _ sm_arraycopy) (h.2.2.2.2.1 _ ini_J10) (src := ad E k0 i0 j0) (dst := ad E k i j) (cs := vp_cell (eI E) (N0, .inl f0)) (cd := vp_cell (eI E) (N, .inl fn)) (srcPos := 0) (destPos := 0) (n := nI t) (by rw [hT]; exact hc0') (by rw [hT]; exact hc1')
    (fun _ h => by cases h) (fun _ h => by cases h) (fun h => by cases h) (fun h => by cases h) hkA hkA hkkA hkkA (by simp [refKind]) (by decide) (by decide) (nI_pos (by omega))
    (by rw [htI]; show ¬ _ > ((arrV (eI E) N0 (fun j => .int (f0 j))).slots.size : Int); rw [arrV_size, show (0 : Int32).toInt = 0 from rfl]; omega)
    (by rw [htI]; show ¬ _ > ((arrV (eI E) N (fun j => .int (fn j))).slots.size : Int); rw [arrV_size, show (0 : Int32).toInt = 0 from rfl]; omega)
    (fun vm₁ _ i hi => by
      have e : (vp_cell (eI E) (N0, .inl f0)).slots.getD ((0 : Int32).toNatClampNeg + i) .null = .int (f0 ((0 : Int32).toNatClampNeg + i)) := by
        show (arrV (eI E) N0 (fun j => .int (f0 j))).slots.getD _ _ = _
        rw [Array.getD_eq_getD_getElem?, arrV_read _ _ (by rw [hc0]; omega)]
        rfl
      refine ⟨?_, ?_⟩
      · rw [e]; rfl
      · rw [e]; exact trivial)
    (g := F0 (km K) pc ls (.int (nI t) :: .int 0 :: .ref (ad E k i j) :: .int 0 :: .ref (ad E k0 i0 j0) :: rest)) rfl hl2.1 (rest := rest) rfl (by rw [h.2.1]; exact hd) (Nat.le_trans hfr h.2.2.2.2.2.2.2.1) hroom
  have e1 : copied (vp_cell (eI E) (N0, .inl f0)) (vp_cell (eI E) (N, .inl fn)) 0 0 (nI t) = vp_cell (eI E) (N, .inl (va_cpy f0 fn (0 : Int32).toNatClampNeg (0 : Int32).toNatClampNeg (nI t).toNatClampNeg)) := va_copied (fun z => .int z) (eI E) (eI E) f0 fn (by rw [hc0, htc]; omega)
  rw [hc0, htc] at e1
  have e2 : (va_cpy f0 fn 0 0 t) = fun m => if m < t then f0 m else fn m := funext fun m => va_cpy0
  rw [e2] at e1
  rw [e1] at X' step
  have hlt : ad E k i j < H.size := (Array.getElem?_eq_some_iff.mp hc1').1
  have hheap : ((T.setVm vm').setCell (ad E k i j) (vp_cell (eI E) (N, .inl (fun m => if m < t then f0 m else fn m)))).heap = H.setIfInBounds (ad E k i j) (vp_cell (eI E) (N, .inl (fun m => if m < t then f0 m else fn m))) := by rw [← hT]; rfl
  have oq : ∀ q : Nat, q ≠ ad E k i j → (H.setIfInBounds (ad E k i j) (vp_cell (eI E) (N, .inl (fun m => if m < t then f0 m else fn m))))[q]? = H[q]? := fun q hq => by simp [Array.getElem?_setIfInBounds, Ne.symm hq]
  obtain ⟨t2, a1, b1⟩ := kk _ _ ls (hW.put (e := .inl (eI E, N, .inl (fun m => if m < t then f0 m else fn m))) h.2.2.2.2.2.2.1 hok (show (H.setIfInBounds (ad E k i j) _)[ad E k i j]? = some _ by simp [Array.getElem?_setIfInBounds, hlt]) oq h1 h2) ⟨by simp; exact hS.1, fun q g1 g2 => by
      rw [oq q (fun e => g2 (by rw [e]; exact ⟨k, i, j, hok, rfl⟩))]
      exact hS.2.1 q g1 g2, fun q hq => by
      rcases List.mem_append.mp hq with h | h
      · exact hS.2.2 q h
      · obtain ⟨z, -, hz⟩ := List.mem_map.mp h
        rw [← hz]
        exact ⟨k, i, j, hok, rfl⟩⟩ hl2 _ hheap X'
  exact ⟨t2, step t2 a1, b1⟩

end RL
end
section
section RC
variable {K : KX} {E : EnvT} {cc : ByteArray} {nL : Nat} {own : String} {f n : Nat} {σ : ST} {pc : Nat} {lv : List (Nat × Value)} {rest : List Value} {post : Option Value → ST → Prop}
theorem g_iret (h : Cx K E cc nL own f n) {v : Int32} (hR : Rx K E (some .int) post) (hd : decode cc pc = .ok (.ireturn, 1)) (hp : post (some (.int v)) σ) : GG K E σ pc lv [.int v] := by
  intro H locs ls hW hS hl
  unfold KW
  rw [hR.2.2]
  exact W.iret h.1 h.2.1 hR.1 (fun t ht hWm => ⟨⟨_, σ, rfl, hp, va_K.moved hWm.alike h.2.2.2.2.2.1, by rw [ht]; exact hW⟩, hS.F ht⟩) hS.2.2 hd hR.2.1
theorem g_zret (h : Cx K E cc nL own f n) {v : Int32} (hR : Rx K E (some .boolean) post) (hd : decode cc pc = .ok (.ireturn, 1)) (hn : narrow .boolean (.int v) = .int v) (hp : post (some (.int v)) σ) : GG K E σ pc lv [.int v] := by
  intro H locs ls hW hS hl
  unfold KW
  rw [hR.2.2]
  exact W.zret h.1 h.2.1 hR.1 hn (fun t ht hWm => ⟨⟨_, σ, rfl, hp, va_K.moved hWm.alike h.2.2.2.2.2.1, by rw [ht]; exact hW⟩, hS.F ht⟩) hS.2.2 hd hR.2.1
theorem g_vret (h : Cx K E cc nL own f n) (hR : Rx K E none post) (hd : decode cc pc = .ok (.return_, 1)) (hp : post none σ) : GG K E σ pc lv [] := by
  intro H locs ls hW hS hl
  unfold KW
  rw [hR.2.2]
  exact W.vret h.1 h.2.1 hR.1 (fun t ht hWm => ⟨⟨_, σ, rfl, hp, va_K.moved hWm.alike h.2.2.2.2.2.1, by rw [ht]; exact hW⟩, hS.F ht⟩) hS.2.2 hd hR.2.1
theorem g_lret (h : Cx K E cc nL own f n) {v : Int64} (hR : Rx K E (some .long) post) (hd : decode cc pc = .ok (.lreturn, 1)) (hp : post (some (.long v)) σ) : GG K E σ pc lv [.long v] := by
  intro H locs ls hW hS hl
  unfold KW
  rw [hR.2.2]
  exact W.lret h.1 h.2.1 hR.1 (fun t ht hWm => ⟨⟨_, σ, rfl, hp, va_K.moved hWm.alike h.2.2.2.2.2.1, by rw [ht]; exact hW⟩, hS.F ht⟩) hS.2.2 hd hR.2.1
theorem g_aret (h : Cx K E cc nL own f n) {a : Nat} {C : String} (hR : Rx K E (some (.object C)) post) (hd : decode cc pc = .ok (.areturn, 1)) (hp : post (some (.ref a)) σ) : GG K E σ pc lv [.ref a] := by
  intro H locs ls hW hS hl
  unfold KW
  rw [hR.2.2]
  exact W.aret h.1 h.2.1 hR.1 (Or.inl ⟨_, rfl⟩) (Or.inr ⟨_, rfl⟩) (fun t ht hWm => ⟨⟨_, σ, rfl, hp, va_K.moved hWm.alike h.2.2.2.2.2.1, by rw [ht]; exact hW⟩, hS.F ht⟩) hS.2.2 hd hR.2.1
theorem good_gtb {ws : List Cond} (hw : ∀ w ∈ ws, w ∈ gtb) : GoodIn gtb ws := fun w h => ⟨hw w h, good_of_word (List.mem_filter.mp (hw w h)).2⟩
/-- what the tables say of a method that is called on an object of its own kind -/
def MV (y : MethodName) (C : String) (cc : ByteArray) (nL : Nat) (ret : Option FieldType) (np : Nat) : Prop :=
  Cond.instanceMethod y ∈ gtb ∧ Cond.selects C y y ∈ gtb ∧ Cond.initialized C ∈ gtb ∧ Cond.code y cc nL ret ∈ gtb ∧ (y.cls = C ∧ y.cls ≠ "java/lang/invoke/MethodHandle" ∧ y.cls ≠ "java/lang/invoke/VarHandle" ∧ (parseMethodDescriptor y.desc).map (fun d => d.parameters.length) = some np)
def MS (y : MethodName) (cc : ByteArray) (nL : Nat) (ret : Option FieldType) (np : Nat) : Prop :=
  Cond.static y ∈ gtb ∧ Cond.initialized y.cls ∈ gtb ∧ Cond.code y cc nL ret ∈ gtb ∧ (y.cls ≠ "java/lang/invoke/MethodHandle" ∧ y.cls ≠ "java/lang/invoke/VarHandle" ∧ (parseMethodDescriptor y.desc).map (fun d => d.parameters.length) = some np)
theorem wd_blind {av : List Value} {σ : ST} : FrameBlind (va_Pc av (fun U => Wd E σ U)) := fun a U g mk q => ⟨q.1, va_K.moved (u := U) (U := U.calling g mk a) (Vm.Alike.refl U.vm) q.2.1, q.2.2⟩
/-- behind a call -/
theorem g_after {st : List Value} {a : Array Value} (h : Cx K E cc nL own f n) {H : Heap} {locs : List Loc} {ls : Array Slot} (hr : va_Run (kp K) (kl K) (ke K) (kR K) (ks K) (km K) (ka K) (kbl K) (kme K) (kc K) H locs (kce K) (ksl K) 0 0 (F0 (km K) pc ls st) rest (QO E post a) (AE E)) (hS : va_S (AE E) (ks K).heap H locs) (hl : lv_has ls (kc K).maxLocals lv)
    (kk : ∀ (v : Option Value) (σ' : ST), post v σ' → GG K E σ' (pc + 3) lv (v.toList ++ rest)) : KW K H locs (F0 (km K) pc ls st) := by
  intro T hT X
  obtain ⟨v, st₀, t, T', L, h0, X', hL, e1, e2, ⟨⟨v', σ', hv, hp, hK', hW'⟩, hz, hk⟩, stp⟩ := hr T hT X
  cases hv
  rw [h0] at hz hk
  obtain ⟨t2, a1, b1⟩ := kk v σ' hp T'.heap (locs ++ L) ls (by rw [e1]; exact hW')
    ⟨Nat.le_trans hS.1 (by rw [e1]; exact hz), fun q h1 h2 => by rw [e1, hk q (Nat.lt_of_lt_of_le h1 hS.1) h2]; exact hS.2.1 q h1 h2, fun q hq => by
      rcases List.mem_append.mp hq with h | h
      · exact hS.2.2 q h
      · exact hL q h⟩ hl T' rfl X'
  exact ⟨t2, stp t2 a1, b1⟩
theorem g_callV (h : Cx K E cc nL own f n) {y : MethodName} {C : String} {c' : ByteArray} {nL' : Nat} {ret' : Option FieldType} {np f' n' : Nat} {As : List Value} {idx : Nat} (hMV : MV y C c' nL' ret' np) (k i j : Nat) (hok : okK k i j) {ci : Nat} {fs : List Value} (he : enc E σ k i j = .inr (ci, fs)) {T : u_T} {N : Nat} (hc : vwCl[ci]? = some (C, T, N))
    (hM : Con (kl K) E y c' nL' ret' f' n' (.ref (ad E k i j) :: As) σ post) (hlink : Cond.methodLink own idx y ∈ gtb) (hlen : As.length = np) (hf : f' + 1 ≤ f) (hn : 8 + (nL' + 11) + n' ≤ n) {st : List Value} (hst : st = As.reverse ++ .ref (ad E k i j) :: rest) (hr : (rest.map fun v => v.category).sum ≤ 8) (hd : decode cc pc = .ok (.invokevirtual idx, 3))
    (kk : ∀ (v : Option Value) (σ' : ST), post v σ' → GG K E σ' (pc + 3) lv (v.toList ++ rest)) : GG K E σ pc lv st := by
  intro H locs ls hW hS hl
  obtain ⟨m1, m2, m3, m4, m5⟩ := hMV
  have hG : GoodIn gtb (wsV own idx C y (Cond.code y c' nL' ret' :: gtb)) := good_gtb (fun w hw => by
    simp only [wsV, List.cons_append, List.nil_append, List.mem_cons] at hw
    rcases hw with rfl | rfl | rfl | rfl | rfl | hw
    · exact hlink
    · exact m1
    · exact m2
    · exact m3
    · exact m4
    · exact hw)
  exact g_after h (va_runV (As := As) (rest := rest) (nL := nL) (Ts := gtb) (own := own) ⟨h.1, h.2.1, h.2.2.1, h.2.2.2.1, h.2.2.2.2.1⟩ hM (cwV np h.2.2.2.2.1 hG rfl rfl rfl m5 ⟨Nat.le_trans hf h.2.2.2.2.2.2.2.1, Nat.le_trans hn h.2.2.2.2.2.2.2.2.1⟩)
    ⟨wd_blind, va_recv h.2.2.2.2.2.1 (hW.one hok he) hc (q0 := 0) rfl, fun U hU hWm => ⟨rfl, va_K.moved hWm.alike h.2.2.2.2.2.1, by rw [hU]; exact hW⟩⟩ rfl hlen (by rw [← h.2.2.1]; exact hl.1) hst (lv_room hr) hd ⟨h.2.2.2.2.2.2.2.2.2.1, h.2.2.2.2.2.2.2.2.2.2⟩) hS hl kk
theorem g_callS (h : Cx K E cc nL own f n) {y : MethodName} {c' : ByteArray} {nL' : Nat} {ret' : Option FieldType} {np f' n' : Nat} {As : List Value} {idx : Nat} (hMS : MS y c' nL' ret' np)
    (hM : Con (kl K) E y c' nL' ret' f' n' As σ post) (hlink : Cond.methodLink own idx y ∈ gtb) (hlen : As.length = np) (hf : f' + 1 ≤ f) (hn : 8 + (nL' + 11) + n' ≤ n) {st : List Value} (hst : st = As.reverse ++ rest) (hr : (rest.map fun v => v.category).sum ≤ 8) (hd : decode cc pc = .ok (.invokestatic idx, 3))
    (kk : ∀ (v : Option Value) (σ' : ST), post v σ' → GG K E σ' (pc + 3) lv (v.toList ++ rest)) : GG K E σ pc lv st := by
  intro H locs ls hW hS hl
  obtain ⟨m1, m2, m3, m4⟩ := hMS
  have hG : GoodIn gtb (va_wsS own idx y (Cond.code y c' nL' ret' :: gtb)) := good_gtb (fun w hw => by
    simp only [va_wsS, List.cons_append, List.nil_append, List.mem_cons] at hw
    rcases hw with rfl | rfl | rfl | rfl | hw
    · exact hlink
    · exact m1
    · exact m2
    · exact m3
    · exact hw)
  exact g_after h (va_runS (As := As) (rest := rest) (nL := nL) (Ts := gtb) (own := own) ⟨h.1, h.2.1, h.2.2.1, h.2.2.2.1, h.2.2.2.2.1⟩ hM (va_cwS np h.2.2.2.2.1 hG rfl rfl rfl m4 ⟨Nat.le_trans hf h.2.2.2.2.2.2.2.1, Nat.le_trans hn h.2.2.2.2.2.2.2.2.1⟩)
    ⟨wd_blind, fun U hU hWm => ⟨rfl, va_K.moved hWm.alike h.2.2.2.2.2.1, by rw [hU]; exact hW⟩⟩ rfl hlen (by rw [← h.2.2.1]; exact hl.1) hst (lv_room hr) hd ⟨h.2.2.2.2.2.2.2.2.2.1, h.2.2.2.2.2.2.2.2.2.2⟩) hS hl kk
theorem g_mmax (h : Cx K E cc nL own f n) {index : Nat} (hlk : Cond.methodLink own index Lib.Math.max.name ∈ gtb) (hf : 1 ≤ f) (hn : 21 ≤ n) (hr : (rest.map fun v => v.category).sum ≤ 8) {x y : Int32} (hd : decode cc pc = .ok (.invokestatic index, 3)) (k : GG K E σ (pc + 3) lv (.int (if x < y then y else x) :: rest)) : GG K E σ pc lv (.int y :: .int x :: rest) := fun H locs ls hW hS hl =>
  va_mmax h.1 h.2.1 hl.1.symm h.2.2.2.1 (h.2.2.2.2.1 _ hlk) (h.2.2.2.2.1 _ sm_J9_max_7cf53) (h.2.2.2.2.1 _ ini_J9) (h.2.2.2.2.1 _ co_J9_max_7cf53) (Nat.le_trans hf h.2.2.2.2.2.2.2.1) (Nat.le_trans (by omega) h.2.2.2.2.2.2.2.2.1) h.2.2.2.2.2.2.2.2.2.1 h.2.2.2.2.2.2.2.2.2.2 hd (k H locs ls hW hS hl)
theorem g_mmin (h : Cx K E cc nL own f n) {index : Nat} (hlk : Cond.methodLink own index Lib.Math.min.name ∈ gtb) (hf : 1 ≤ f) (hn : 21 ≤ n) (hr : (rest.map fun v => v.category).sum ≤ 8) {x y : Int32} (hd : decode cc pc = .ok (.invokestatic index, 3)) (k : GG K E σ (pc + 3) lv (.int (if y < x then y else x) :: rest)) : GG K E σ pc lv (.int y :: .int x :: rest) := fun H locs ls hW hS hl =>
  va_mmin h.1 h.2.1 hl.1.symm h.2.2.2.1 (h.2.2.2.2.1 _ hlk) (h.2.2.2.2.1 _ sm_J9_min_7cf53) (h.2.2.2.2.1 _ ini_J9) (h.2.2.2.2.1 _ co_J9_min_7cf53) (Nat.le_trans hf h.2.2.2.2.2.2.2.1) (Nat.le_trans (by omega) h.2.2.2.2.2.2.2.2.1) h.2.2.2.2.2.2.2.2.2.1 h.2.2.2.2.2.2.2.2.2.2 hd (k H locs ls hW hS hl)
end RC
end
section
def sF (σ : ST) (i : Nat) (F : FabT) : ST := (va_up σ.1 i F, σ.2)
def sR (σ : ST) (r : Nat) (w : RowT) : ST := (σ.1, va_up σ.2.1 r w, σ.2.2)
def sX (σ : ST) (x : XT) : ST := (σ.1, σ.2.1, x, σ.2.2.2)
def sM (σ : ST) (m : MT) : ST := (σ.1, σ.2.1, σ.2.2.1, m)
theorem up_s {α : Type} (g : Nat → α) (i : Nat) (v : α) : va_up g i v i = v := by simp [va_up]
theorem up_n {α : Type} {g : Nat → α} {i j : Nat} {v : α} (h : j ≠ i) : va_up g i v j = g j := by simp [va_up, h]
theorem up_id {α : Type} (g : Nat → α) (i : Nat) : va_up g i (g i) = g := by funext j; by_cases h : j = i <;> simp [va_up, h]
theorem ok_F {i : Nat} (h : i < 14) : okK 1 i 0 := ⟨h, rfl⟩
theorem ok_A {i j : Nat} (h : i < 14) (hj : j < 8) : okK 2 i j := ⟨h, hj⟩
theorem ok_R {i : Nat} (h : i < 16) : okK 3 i 0 := ⟨h, rfl⟩
theorem ok_N {i : Nat} (h : i < 16) : okK 4 i 0 := ⟨h, rfl⟩
theorem enc_F_c {E : EnvT} {σ : ST} {i : Nat} {c : Nat → Int32} {m : Nat} : ∀ k' i' j', okK k' i' j' → ¬ (k' = 1 ∧ i' = i ∧ j' = 0) → enc E (sF σ i (c, m, (σ.1 i).2.2)) k' i' j' = enc E σ k' i' j' := by
  intro k' i' j' hok hne
  match k', hok, hne with
  | 0, _, _ => rfl
  | 1, hok, hne =>
    have : i' ≠ i := fun e => hne ⟨rfl, e, hok.2⟩
    simp [enc, sF, up_n this]
  | 2, _, _ =>
    by_cases e : i' = i
    · subst e; simp [enc, sF, up_s]
    · simp [enc, sF, up_n e]
  | 3, _, _ => rfl
  | 4, _, _ => rfl
  | 5, _, _ => rfl
  | 6, _, _ => rfl
  | 7, _, _ => rfl
  | 8, _, _ => rfl
  | 9, _, _ => rfl
  | 10, _, _ => rfl
  | 11, _, _ => rfl
  | 12, _, _ => rfl
  | 13, _, _ => rfl
  | _ + 14, hok, _ => exact hok.elim
theorem enc_F_a {E : EnvT} {σ : ST} {i j : Nat} {fn : Nat → Int32} : ∀ k' i' j', okK k' i' j' → ¬ (k' = 2 ∧ i' = i ∧ j' = j) → enc E (sF σ i ((σ.1 i).1, (σ.1 i).2.1, va_up (σ.1 i).2.2 j fn)) k' i' j' = enc E σ k' i' j' := by
  intro k' i' j' hok hne
  match k', hok, hne with
  | 0, _, _ => rfl
  | 1, _, _ =>
    by_cases e : i' = i
    · subst e; simp [enc, sF, up_s]
    · simp [enc, sF, up_n e]
  | 2, _, hne =>
    by_cases e : i' = i
    · subst e
      have : j' ≠ j := fun e => hne ⟨rfl, rfl, e⟩
      simp [enc, sF, up_s, up_n this]
    · simp [enc, sF, up_n e]
  | 3, _, _ => rfl
  | 4, _, _ => rfl
  | 5, _, _ => rfl
  | 6, _, _ => rfl
  | 7, _, _ => rfl
  | 8, _, _ => rfl
  | 9, _, _ => rfl
  | 10, _, _ => rfl
  | 11, _, _ => rfl
  | 12, _, _ => rfl
  | 13, _, _ => rfl
  | _ + 14, hok, _ => exact hok.elim
theorem enc_R_s {E : EnvT} {σ : ST} {r m : Nat} : ∀ k' i' j', okK k' i' j' → ¬ (k' = 3 ∧ i' = r ∧ j' = 0) → enc E (sR σ r ((σ.2.1 r).1, m)) k' i' j' = enc E σ k' i' j' := by
  intro k' i' j' hok hne
  match k', hok, hne with
  | 0, _, _ => rfl
  | 1, _, _ => rfl
  | 2, _, _ => rfl
  | 3, hok, hne =>
    have : i' ≠ r := fun e => hne ⟨rfl, e, hok.2⟩
    simp [enc, sR, up_n this]
  | 4, _, _ =>
    by_cases e : i' = r
    · subst e; simp [enc, sR, up_s]
    · simp [enc, sR, up_n e]
  | 5, _, _ => rfl
  | 6, _, _ => rfl
  | 7, _, _ => rfl
  | 8, _, _ => rfl
  | 9, _, _ => rfl
  | 10, _, _ => rfl
  | 11, _, _ => rfl
  | 12, _, _ => rfl
  | 13, _, _ => rfl
  | _ + 14, hok, _ => exact hok.elim
theorem enc_R_n {E : EnvT} {σ : ST} {r : Nat} {g : Nat → Nat} : ∀ k' i' j', okK k' i' j' → ¬ (k' = 4 ∧ i' = r ∧ j' = 0) → enc E (sR σ r (g, (σ.2.1 r).2)) k' i' j' = enc E σ k' i' j' := by
  intro k' i' j' hok hne
  match k', hok, hne with
  | 0, _, _ => rfl
  | 1, _, _ => rfl
  | 2, _, _ => rfl
  | 3, _, _ =>
    by_cases e : i' = r
    · subst e; simp [enc, sR, up_s]
    · simp [enc, sR, up_n e]
  | 4, hok, hne =>
    have : i' ≠ r := fun e => hne ⟨rfl, e, hok.2⟩
    simp [enc, sR, up_n this]
  | 5, _, _ => rfl
  | 6, _, _ => rfl
  | 7, _, _ => rfl
  | 8, _, _ => rfl
  | 9, _, _ => rfl
  | 10, _, _ => rfl
  | 11, _, _ => rfl
  | 12, _, _ => rfl
  | 13, _, _ => rfl
  | _ + 14, hok, _ => exact hok.elim
theorem enc_X_01 {E : EnvT} {σ : ST} {w m : Nat} (hw : w < 2) : ∀ k' i' j', okK k' i' j' → ¬ (k' = 6 ∧ i' = 0 ∧ j' = 0) → enc E (sX σ (va_up σ.2.2.1.1 w m, σ.2.2.1.2)) k' i' j' = enc E σ k' i' j' := by
  intro k' i' j' hok hne
  match k', hok, hne with
  | 0, _, _ => rfl
  | 1, _, _ => rfl
  | 2, _, _ => rfl
  | 3, _, _ => rfl
  | 4, _, _ => rfl
  | 5, _, _ => rfl
  | 6, hok, hne => exact absurd ⟨rfl, hok.1, hok.2⟩ hne
  | 7, _, _ => rfl
  | 8, _, _ =>
    have : 2 ≠ w := by omega
    simp [enc, sX, up_n this]
  | 9, _, _ => rfl
  | 10, _, _ => rfl
  | 11, _, _ => rfl
  | 12, _, _ => rfl
  | 13, _, _ => rfl
  | _ + 14, hok, _ => exact hok.elim
theorem enc_X_2 {E : EnvT} {σ : ST} {m : Nat} : ∀ k' i' j', okK k' i' j' → ¬ (k' = 8 ∧ i' = 0 ∧ j' = 0) → enc E (sX σ (va_up σ.2.2.1.1 2 m, σ.2.2.1.2)) k' i' j' = enc E σ k' i' j' := by
  intro k' i' j' hok hne
  match k', hok, hne with
  | 0, _, _ => rfl
  | 1, _, _ => rfl
  | 2, _, _ => rfl
  | 3, _, _ => rfl
  | 4, _, _ => rfl
  | 5, _, _ => rfl
  | 6, _, _ => rfl
  | 7, _, _ => rfl
  | 8, hok, hne => exact absurd ⟨rfl, hok.1, hok.2⟩ hne
  | 9, _, _ => rfl
  | 10, _, _ => rfl
  | 11, _, _ => rfl
  | 12, _, _ => rfl
  | 13, _, _ => rfl
  | _ + 14, hok, _ => exact hok.elim
theorem enc_X_a {E : EnvT} {σ : ST} {j : Nat} {fn : Nat → Int32} : ∀ k' i' j', okK k' i' j' → ¬ (k' = 9 ∧ i' = 0 ∧ j' = j) → enc E (sX σ (σ.2.2.1.1, va_up σ.2.2.1.2 j fn)) k' i' j' = enc E σ k' i' j' := by
  intro k' i' j' hok hne
  match k', hok, hne with
  | 0, _, _ => rfl
  | 1, _, _ => rfl
  | 2, _, _ => rfl
  | 3, _, _ => rfl
  | 4, _, _ => rfl
  | 5, _, _ => rfl
  | 6, _, _ => rfl
  | 7, _, _ => rfl
  | 8, _, _ => rfl
  | 9, hok, hne =>
    have : j' ≠ j := fun e => hne ⟨rfl, hok.1, e⟩
    simp [enc, sX, up_n this]
  | 10, _, _ => rfl
  | 11, _, _ => rfl
  | 12, _, _ => rfl
  | 13, _, _ => rfl
  | _ + 14, hok, _ => exact hok.elim
theorem enc_M_c {E : EnvT} {σ : ST} {c : Nat → Int32} {m : Nat → Nat} : ∀ k' i' j', okK k' i' j' → ¬ (k' = 11 ∧ i' = 0 ∧ j' = 0) → enc E (sM σ (c, m, σ.2.2.2.2.2)) k' i' j' = enc E σ k' i' j' := by
  intro k' i' j' hok hne
  match k', hok, hne with
  | 0, _, _ => rfl
  | 1, _, _ => rfl
  | 2, _, _ => rfl
  | 3, _, _ => rfl
  | 4, _, _ => rfl
  | 5, _, _ => rfl
  | 6, _, _ => rfl
  | 7, _, _ => rfl
  | 8, _, _ => rfl
  | 9, _, _ => rfl
  | 10, _, _ => rfl
  | 11, hok, hne => exact absurd ⟨rfl, hok.1, hok.2⟩ hne
  | 12, _, _ => rfl
  | 13, _, _ => rfl
  | _ + 14, hok, _ => exact hok.elim
theorem enc_M_a {E : EnvT} {σ : ST} {j : Nat} {fn : Nat → Int32} : ∀ k' i' j', okK k' i' j' → ¬ (k' = 12 ∧ i' = 0 ∧ j' = j) → enc E (sM σ (σ.2.2.2.1, σ.2.2.2.2.1, va_up σ.2.2.2.2.2.1 j fn, σ.2.2.2.2.2.2)) k' i' j' = enc E σ k' i' j' := by
  intro k' i' j' hok hne
  match k', hok, hne with
  | 0, _, _ => rfl
  | 1, _, _ => rfl
  | 2, _, _ => rfl
  | 3, _, _ => rfl
  | 4, _, _ => rfl
  | 5, _, _ => rfl
  | 6, _, _ => rfl
  | 7, _, _ => rfl
  | 8, _, _ => rfl
  | 9, _, _ => rfl
  | 10, _, _ => rfl
  | 11, _, _ => rfl
  | 12, hok, hne =>
    have : j' ≠ j := fun e => hne ⟨rfl, hok.1, e⟩
    simp [enc, sM, up_n this]
  | 13, _, _ => rfl
  | _ + 14, hok, _ => exact hok.elim
theorem enc_M_o {E : EnvT} {σ : ST} {g : Nat → Nat} : ∀ k' i' j', okK k' i' j' → ¬ (k' = 13 ∧ i' = 0 ∧ j' = 0) → enc E (sM σ (σ.2.2.2.1, σ.2.2.2.2.1, σ.2.2.2.2.2.1, g)) k' i' j' = enc E σ k' i' j' := by
  intro k' i' j' hok hne
  match k', hok, hne with
  | 0, _, _ => rfl
  | 1, _, _ => rfl
  | 2, _, _ => rfl
  | 3, _, _ => rfl
  | 4, _, _ => rfl
  | 5, _, _ => rfl
  | 6, _, _ => rfl
  | 7, _, _ => rfl
  | 8, _, _ => rfl
  | 9, _, _ => rfl
  | 10, _, _ => rfl
  | 11, _, _ => rfl
  | 12, _, _ => rfl
  | 13, hok, hne => exact absurd ⟨rfl, hok.1, hok.2⟩ hne
  | _ + 14, hok, _ => exact hok.elim
section RM
variable {K : KX} {E : EnvT} {cc : ByteArray} {nL : Nat} {own : String} {f n : Nat} {σ : ST} {pc : Nat} {lv : List (Nat × Value)} {rest : List Value}
theorem g_putFc (h : Cx K E cc nL own f n) (i : Nat) (hi : i < 14) (w : Nat) (hw : w < 4) {index : Nat} {x : Int32} (hl : Cond.fieldLink own index (TX0 w).1 (TX0 w).2.1 (TX0 w).2.2.1 ∈ gtb) (hd : decode cc pc = .ok (.putfield index, 3)) (kk : ∀ σ', σ' = sF σ i (va_up (σ.1 i).1 w x, (σ.1 i).2) → GG K E σ' (pc + 3) lv rest) : GG K E σ pc lv (.int x :: .ref (ad E 1 i 0) :: rest) := by
  have hc : w = 0 ∨ w = 1 ∨ w = 2 ∨ w = 3 := by omega
  refine g_put h 1 i 0 (ok_F hi) rfl rfl uin_X0 tyX0 tyX0_ok nmX0 w (by omega) hl ?_ ?_ ?_ (σ' := sF σ i (va_up (σ.1 i).1 w x, (σ.1 i).2.1, (σ.1 i).2.2)) ?_ enc_F_c hd (kk _ rfl)
  · rcases hc with rfl | rfl | rfl | rfl <;> rfl
  · rcases hc with rfl | rfl | rfl | rfl <;> decide +kernel
  · show w < 14; omega
  · rcases hc with rfl | rfl | rfl | rfl <;> simp [enc, sF, up_s, va_up]
theorem g_putFl (h : Cx K E cc nL own f n) (i : Nat) (hi : i < 14) {index m : Nat} (hl : Cond.fieldLink own index (TX0 4).1 (TX0 4).2.1 (TX0 4).2.2.1 ∈ gtb) (hd : decode cc pc = .ok (.putfield index, 3)) (kk : ∀ σ', σ' = sF σ i ((σ.1 i).1, m, (σ.1 i).2.2) → GG K E σ' (pc + 3) lv rest) : GG K E σ pc lv (.int (nI m) :: .ref (ad E 1 i 0) :: rest) := by
  refine g_put h 1 i 0 (ok_F hi) rfl rfl uin_X0 tyX0 tyX0_ok nmX0 4 (by omega) hl rfl (by decide +kernel) (Nat.le_of_ble_eq_true rfl) (σ' := sF σ i ((σ.1 i).1, m, (σ.1 i).2.2)) ?_ enc_F_c hd (kk _ rfl)
  simp [enc, sF, up_s]
theorem g_putRs (h : Cx K E cc nL own f n) (r : Nat) (hr : r < 16) {index m : Nat} (hl : Cond.fieldLink own index (TX2 1).1 (TX2 1).2.1 (TX2 1).2.2.1 ∈ gtb) (hd : decode cc pc = .ok (.putfield index, 3)) (kk : ∀ σ', σ' = sR σ r ((σ.2.1 r).1, m) → GG K E σ' (pc + 3) lv rest) : GG K E σ pc lv (.int (nI m) :: .ref (ad E 3 r 0) :: rest) := by
  refine g_put h 3 r 0 (ok_R hr) rfl rfl uin_X2 tyX2 tyX2_ok nmX2 1 (by omega) hl rfl (by decide +kernel) (Nat.le_of_ble_eq_true rfl) (σ' := sR σ r ((σ.2.1 r).1, m)) ?_ enc_R_s hd (kk _ rfl)
  simp [enc, sR, up_s]
theorem g_putXp (h : Cx K E cc nL own f n) (w : Nat) (hw : w < 2) {index m : Nat} (hl : Cond.fieldLink own index (TX1 (w + 1)).1 (TX1 (w + 1)).2.1 (TX1 (w + 1)).2.2.1 ∈ gtb) (hd : decode cc pc = .ok (.putfield index, 3)) (kk : ∀ σ', σ' = sX σ (va_up σ.2.2.1.1 w m, σ.2.2.1.2) → GG K E σ' (pc + 3) lv rest) : GG K E σ pc lv (.int (nI m) :: .ref (ad E 6 0 0) :: rest) := by
  have hc : w = 0 ∨ w = 1 := by omega
  refine g_put h 6 0 0 ⟨rfl, rfl⟩ rfl rfl uin_X1 tyX1 tyX1_ok nmX1 (w + 1) (by omega) hl ?_ ?_ ?_ (σ' := sX σ (va_up σ.2.2.1.1 w m, σ.2.2.1.2)) ?_ (enc_X_01 hw) hd (kk _ rfl)
  · rcases hc with rfl | rfl <;> rfl
  · rcases hc with rfl | rfl <;> decide +kernel
  · show w + 1 < 3; omega
  · rcases hc with rfl | rfl <;> simp [enc, sX, va_up]
theorem g_putXs (h : Cx K E cc nL own f n) {index m : Nat} (hl : Cond.fieldLink own index (TX3 2).1 (TX3 2).2.1 (TX3 2).2.2.1 ∈ gtb) (hd : decode cc pc = .ok (.putfield index, 3)) (kk : ∀ σ', σ' = sX σ (va_up σ.2.2.1.1 2 m, σ.2.2.1.2) → GG K E σ' (pc + 3) lv rest) : GG K E σ pc lv (.int (nI m) :: .ref (ad E 8 0 0) :: rest) := by
  refine g_put h 8 0 0 ⟨rfl, rfl⟩ rfl rfl uin_X3 tyX3 tyX3_ok nmX3 2 (by omega) hl rfl (by decide +kernel) (Nat.le_of_ble_eq_true rfl) (σ' := sX σ (va_up σ.2.2.1.1 2 m, σ.2.2.1.2)) ?_ enc_X_2 hd (kk _ rfl)
  simp [enc, sX, va_up]
theorem g_putMc (h : Cx K E cc nL own f n) (w : Nat) (hw : w < 4) {index : Nat} {x : Int32} (hl : Cond.fieldLink own index (TX6 w).1 (TX6 w).2.1 (TX6 w).2.2.1 ∈ gtb) (hd : decode cc pc = .ok (.putfield index, 3)) (kk : ∀ σ', σ' = sM σ (va_up σ.2.2.2.1 w x, σ.2.2.2.2) → GG K E σ' (pc + 3) lv rest) : GG K E σ pc lv (.int x :: .ref (ad E 11 0 0) :: rest) := by
  have hc : w = 0 ∨ w = 1 ∨ w = 2 ∨ w = 3 := by omega
  refine g_put h 11 0 0 ⟨rfl, rfl⟩ rfl rfl uin_X6 tyX6 tyX6_ok nmX6 w (by omega) hl ?_ ?_ ?_ (σ' := sM σ (va_up σ.2.2.2.1 w x, σ.2.2.2.2.1, σ.2.2.2.2.2)) ?_ enc_M_c hd (kk _ rfl)
  · rcases hc with rfl | rfl | rfl | rfl <;> rfl
  · rcases hc with rfl | rfl | rfl | rfl <;> decide +kernel
  · show w < 18; omega
  · rcases hc with rfl | rfl | rfl | rfl <;> simp [enc, sM, va_up]
/-- the slots of many, counter, done, sorted, seen -/
def mns (w : Nat) : Nat := match w with
  | 0 => 4
  | 1 => 5
  | 2 => 9
  | 3 => 10
  | _ => 15
theorem g_putMn (h : Cx K E cc nL own f n) (w : Nat) (hw : w < 5) {index m : Nat} (hl : Cond.fieldLink own index (TX6 (mns w)).1 (TX6 (mns w)).2.1 (TX6 (mns w)).2.2.1 ∈ gtb) (hd : decode cc pc = .ok (.putfield index, 3)) (kk : ∀ σ', σ' = sM σ (σ.2.2.2.1, va_up σ.2.2.2.2.1 w m, σ.2.2.2.2.2) → GG K E σ' (pc + 3) lv rest) : GG K E σ pc lv (.int (nI m) :: .ref (ad E 11 0 0) :: rest) := by
  have hc : w = 0 ∨ w = 1 ∨ w = 2 ∨ w = 3 ∨ w = 4 := by omega
  refine g_put h 11 0 0 ⟨rfl, rfl⟩ rfl rfl uin_X6 tyX6 tyX6_ok nmX6 (mns w) ?_ hl ?_ ?_ ?_ (σ' := sM σ (σ.2.2.2.1, va_up σ.2.2.2.2.1 w m, σ.2.2.2.2.2)) ?_ enc_M_c hd (kk _ rfl)
  · rcases hc with rfl | rfl | rfl | rfl | rfl <;> decide
  · rcases hc with rfl | rfl | rfl | rfl | rfl <;> rfl
  · rcases hc with rfl | rfl | rfl | rfl | rfl <;> decide +kernel
  · show mns w < 18; rcases hc with rfl | rfl | rfl | rfl | rfl <;> decide
  · rcases hc with rfl | rfl | rfl | rfl | rfl <;> simp [enc, sM, va_up, mns]
theorem flen_lt (j : Nat) : flen j < 2 ^ 31 := by unfold flen; split <;> decide
theorem mlen_lt (j : Nat) : mlen j < 2 ^ 31 := by unfold mlen; split <;> decide
theorem xlen_lt (j : Nat) : xlen j < 2 ^ 31 := by unfold xlen; split <;> decide
theorem g_astF (h : Cx K E cc nL own f n) (i j : Nat) (hi : i < 14) (hj : j < 8) (t : Nat) (ht : t < flen j) {x : Int32} (hd : decode cc pc = .ok (.iastore, 1)) (kk : ∀ σ', σ' = sF σ i ((σ.1 i).1, (σ.1 i).2.1, va_up (σ.1 i).2.2 j (upd ((σ.1 i).2.2 j) t x)) → GG K E σ' (pc + 1) lv rest) : GG K E σ pc lv (.int x :: .int (nI t) :: .ref (ad E 2 i j) :: rest) :=
  g_iast h 2 i j (ok_A hi hj) rfl t ht (flen_lt j) (by simp [enc, sF, up_s]) enc_F_a hd (kk _ rfl)
theorem g_aldF (h : Cx K E cc nL own f n) (i j : Nat) (hi : i < 14) (hj : j < 8) (t : Nat) (ht : t < flen j) (hd : decode cc pc = .ok (.iaload, 1)) (kk : GG K E σ (pc + 1) lv (.int ((σ.1 i).2.2 j t) :: rest)) : GG K E σ pc lv (.int (nI t) :: .ref (ad E 2 i j) :: rest) :=
  g_iald h 2 i j (ok_A hi hj) rfl t ht (flen_lt j) hd kk
theorem g_astR (h : Cx K E cc nL own f n) (r : Nat) (hr : r < 16) (t : Nat) (ht : t < 64) {m : Nat} (hd : decode cc pc = .ok (.iastore, 1)) (kk : ∀ σ', σ' = sR σ r (va_up (σ.2.1 r).1 t m, (σ.2.1 r).2) → GG K E σ' (pc + 1) lv rest) : GG K E σ pc lv (.int (nI m) :: .int (nI t) :: .ref (ad E 4 r 0) :: rest) := by
  refine g_iast h 4 r 0 (ok_N hr) rfl t ht (by decide) (σ' := sR σ r (va_up (σ.2.1 r).1 t m, (σ.2.1 r).2)) ?_ enc_R_n hd (kk _ rfl)
  simp only [enc, sR, up_s]
  congr 3
  congr 1
  funext q
  by_cases e : q = t <;> simp [va_up, upd, e]
theorem g_aldR (h : Cx K E cc nL own f n) (r : Nat) (hr : r < 16) (t : Nat) (ht : t < 64) (hd : decode cc pc = .ok (.iaload, 1)) (kk : GG K E σ (pc + 1) lv (.int (nI ((σ.2.1 r).1 t)) :: rest)) : GG K E σ pc lv (.int (nI t) :: .ref (ad E 4 r 0) :: rest) :=
  g_iald h 4 r 0 (ok_N hr) rfl t ht (by decide) hd kk
theorem g_aldX (h : Cx K E cc nL own f n) (j : Nat) (hj : j < 4) (hj2 : j ≠ 2) (t : Nat) (ht : t < xlen j) (hd : decode cc pc = .ok (.iaload, 1)) (kk : GG K E σ (pc + 1) lv (.int (σ.2.2.1.2 j t) :: rest)) : GG K E σ pc lv (.int (nI t) :: .ref (ad E 9 0 j) :: rest) := by
  refine g_iald h 9 0 j ⟨rfl, hj⟩ (N := xlen j) (fn := σ.2.2.1.2 j) ?_ t ht (xlen_lt j) hd kk
  have hc : j = 0 ∨ j = 1 ∨ j = 3 := by omega
  rcases hc with rfl | rfl | rfl <;> rfl
theorem g_astX (h : Cx K E cc nL own f n) (j : Nat) (hj : j < 4) (hj2 : j ≠ 2) (t : Nat) (ht : t < xlen j) {x : Int32} (hd : decode cc pc = .ok (.iastore, 1)) (kk : ∀ σ', σ' = sX σ (σ.2.2.1.1, va_up σ.2.2.1.2 j (upd (σ.2.2.1.2 j) t x)) → GG K E σ' (pc + 1) lv rest) : GG K E σ pc lv (.int x :: .int (nI t) :: .ref (ad E 9 0 j) :: rest) := by
  refine g_iast h 9 0 j ⟨rfl, hj⟩ (N := xlen j) (fn := σ.2.2.1.2 j) ?_ t ht (xlen_lt j) (σ' := sX σ (σ.2.2.1.1, va_up σ.2.2.1.2 j (upd (σ.2.2.1.2 j) t x))) ?_ enc_X_a hd (kk _ rfl)
  · have hc : j = 0 ∨ j = 1 ∨ j = 3 := by omega
    rcases hc with rfl | rfl | rfl <;> rfl
  · have hc : j = 0 ∨ j = 1 ∨ j = 3 := by omega
    rcases hc with rfl | rfl | rfl <;> simp [enc, sX, up_s, xarr]
theorem g_aldZ (h : Cx K E cc nL own f n) (t : Nat) (ht : t < 2) (hd : decode cc pc = .ok (.baload, 1)) (kk : GG K E σ (pc + 1) lv (.int (σ.2.2.1.2 2 t) :: rest)) : GG K E σ pc lv (.int (nI t) :: .ref (ad E 9 0 2) :: rest) :=
  g_zald h 9 0 2 ⟨rfl, by decide⟩ (N := 2) (fn := σ.2.2.1.2 2) rfl t ht (by decide) hd kk
theorem g_astZ (h : Cx K E cc nL own f n) (t : Nat) (ht : t < 2) {x : Int32} (hx : narrow .boolean (.int x) = .int x) (hd : decode cc pc = .ok (.bastore, 1)) (kk : ∀ σ', σ' = sX σ (σ.2.2.1.1, va_up σ.2.2.1.2 2 (upd (σ.2.2.1.2 2) t x)) → GG K E σ' (pc + 1) lv rest) : GG K E σ pc lv (.int x :: .int (nI t) :: .ref (ad E 9 0 2) :: rest) := by
  refine g_zast h 9 0 2 ⟨rfl, by decide⟩ (N := 2) (fn := σ.2.2.1.2 2) rfl t ht (by decide) hx (σ' := sX σ (σ.2.2.1.1, va_up σ.2.2.1.2 2 (upd (σ.2.2.1.2 2) t x))) ?_ enc_X_a hd (kk _ rfl)
  simp [enc, sX, up_s, xarr]
theorem g_aldM (h : Cx K E cc nL own f n) (j : Nat) (hj : j < 8) (t : Nat) (ht : t < mlen j) (hd : decode cc pc = .ok (.iaload, 1)) (kk : GG K E σ (pc + 1) lv (.int (σ.2.2.2.2.2.1 j t) :: rest)) : GG K E σ pc lv (.int (nI t) :: .ref (ad E 12 0 j) :: rest) :=
  g_iald h 12 0 j ⟨rfl, hj⟩ rfl t ht (mlen_lt j) hd kk
theorem g_astM (h : Cx K E cc nL own f n) (j : Nat) (hj : j < 8) (t : Nat) (ht : t < mlen j) {x : Int32} (hd : decode cc pc = .ok (.iastore, 1)) (kk : ∀ σ', σ' = sM σ (σ.2.2.2.1, σ.2.2.2.2.1, va_up σ.2.2.2.2.2.1 j (upd (σ.2.2.2.2.2.1 j) t x), σ.2.2.2.2.2.2) → GG K E σ' (pc + 1) lv rest) : GG K E σ pc lv (.int x :: .int (nI t) :: .ref (ad E 12 0 j) :: rest) :=
  g_iast h 12 0 j ⟨rfl, hj⟩ rfl t ht (mlen_lt j) (by simp [enc, sM, up_s]) enc_M_a hd (kk _ rfl)
theorem g_aldO (h : Cx K E cc nL own f n) (t : Nat) (ht : t < 64) (hd : decode cc pc = .ok (.iaload, 1)) (kk : GG K E σ (pc + 1) lv (.int (nI (σ.2.2.2.2.2.2 t)) :: rest)) : GG K E σ pc lv (.int (nI t) :: .ref (ad E 13 0 0) :: rest) :=
  g_iald h 13 0 0 ⟨rfl, rfl⟩ rfl t ht (by decide) hd kk
theorem g_astO (h : Cx K E cc nL own f n) (t : Nat) (ht : t < 64) {m : Nat} (hd : decode cc pc = .ok (.iastore, 1)) (kk : ∀ σ', σ' = sM σ (σ.2.2.2.1, σ.2.2.2.2.1, σ.2.2.2.2.2.1, va_up σ.2.2.2.2.2.2 t m) → GG K E σ' (pc + 1) lv rest) : GG K E σ pc lv (.int (nI m) :: .int (nI t) :: .ref (ad E 13 0 0) :: rest) := by
  refine g_iast h 13 0 0 ⟨rfl, rfl⟩ rfl t ht (by decide) (σ' := sM σ (σ.2.2.2.1, σ.2.2.2.2.1, σ.2.2.2.2.2.1, va_up σ.2.2.2.2.2.2 t m)) ?_ enc_M_o hd (kk _ rfl)
  simp only [enc, sM]
  congr 3
  congr 1
  funext q
  by_cases e : q = t <;> simp [va_up, upd, e]
theorem g_aldG (h : Cx K E cc nL own f n) (t : Nat) (ht : t < 10) (hd : decode cc pc = .ok (.aaload, 1)) (kk : GG K E σ (pc + 1) lv (.ref (ad E 1 (2 + t) 0) :: rest)) : GG K E σ pc lv (.int (nI t) :: .ref (ad E 7 0 0) :: rest) :=
  g_aald h 7 0 0 ⟨rfl, rfl⟩ rfl t ht (by decide) hd kk
theorem g_aldI (h : Cx K E cc nL own f n) (t : Nat) (ht : t < 2) (hd : decode cc pc = .ok (.aaload, 1)) (kk : GG K E σ (pc + 1) lv (.ref (ad E 1 (12 + t) 0) :: rest)) : GG K E σ pc lv (.int (nI t) :: .ref (ad E 10 0 0) :: rest) :=
  g_aald h 10 0 0 ⟨rfl, rfl⟩ rfl t ht (by decide) hd kk
end RM
end
section
theorem ofI_nat (c : Nat) : Int32.ofInt (c : Int) = nI c := by
  first | rfl | exact Int32.ofInt_natCast c | exact Int32.ofInt_eq_ofNat | (apply Int32.toBitVec_inj.mp; simp [nI, Int32.toBitVec_ofInt])
theorem nI_inc (k c : Nat) : nI k + Int32.ofInt (c : Int) = nI (k + c) := by
  have : Int32.ofInt (c : Int) = nI c := ofI_nat c
  rw [this, nI_add]
theorem nI_dec (k c : Nat) (h : c ≤ k) : nI k + Int32.ofInt (-(c : Int)) = nI (k - c) := by
  have e : Int32.ofInt (-(c : Int)) = - nI c := by rw [Int32.ofInt_neg, ofI_nat]
  rw [e, ← Int32.sub_eq_add_neg, pk_sub h]
/-- the ends of methods: an answer and the world behind it -/
def rI (r : Int32) (σ : ST) : Option Value → ST → Prop := fun v σ' => v = some (.int r) ∧ σ' = σ
def rL (r : Int64) (σ : ST) : Option Value → ST → Prop := fun v σ' => v = some (.long r) ∧ σ' = σ
def rV (σ : ST) : Option Value → ST → Prop := fun v σ' => v = none ∧ σ' = σ
def rA (a : Nat) (σ : ST) : Option Value → ST → Prop := fun v σ' => v = some (.ref a) ∧ σ' = σ
def bI (b : Bool) : Int32 := if b then 1 else 0
theorem bI_nar (b : Bool) : narrow .boolean (.int (bI b)) = .int (bI b) := by cases b <;> decide
theorem mv_X0_begin : MV yX0_begin RX0 cX0_begin 2 none 0 := ⟨im_X0_begin, se_X0_begin, ini_X0, co_X0_begin, by decide +kernel⟩
theorem mv_X0_becomes : MV yX0_becomes RX0 cX0_becomes 2 none 1 := ⟨im_X0_becomes, se_X0_becomes, ini_X0, co_X0_becomes, by decide +kernel⟩
theorem mv_X0_addLetter : MV yX0_addLetter RX0 cX0_addLetter 5 (some .int) 3 := ⟨im_X0_addLetter, se_X0_addLetter, ini_X0, co_X0_addLetter, by decide +kernel⟩
theorem mv_X0_letterAt : MV yX0_letterAt RX0 cX0_letterAt 3 (some .int) 1 := ⟨im_X0_letterAt, se_X0_letterAt, ini_X0, co_X0_letterAt, by decide +kernel⟩
theorem mv_X0_queuedLetter : MV yX0_queuedLetter RX0 cX0_queuedLetter 6 (some .int) 2 := ⟨im_X0_queuedLetter, se_X0_queuedLetter, ini_X0, co_X0_queuedLetter, by decide +kernel⟩
theorem mv_X0_countLive : MV yX0_countLive RX0 cX0_countLive 1 (some .int) 0 := ⟨im_X0_countLive, se_X0_countLive, ini_X0, co_X0_countLive, by decide +kernel⟩
theorem mv_X0_moveLetter : MV yX0_moveLetter RX0 cX0_moveLetter 3 none 2 := ⟨im_X0_moveLetter, se_X0_moveLetter, ini_X0, co_X0_moveLetter, by decide +kernel⟩
theorem mv_X0_goesBefore : MV yX0_goesBefore RX0 cX0_goesBefore 4 (some .boolean) 3 := ⟨im_X0_goesBefore, se_X0_goesBefore, ini_X0, co_X0_goesBefore, by decide +kernel⟩
theorem mv_X1_remember : MV yX1_remember RX1 cX1_remember 2 none 1 := ⟨im_X1_remember, se_X1_remember, ini_X1, co_X1_remember, by decide +kernel⟩
theorem mv_X1_giveBack : MV yX1_giveBack RX1 cX1_giveBack 2 none 1 := ⟨im_X1_giveBack, se_X1_giveBack, ini_X1, co_X1_giveBack, by decide +kernel⟩
theorem mv_X2_becomes : MV yX2_becomes RX2 cX2_becomes 2 none 1 := ⟨im_X2_becomes, se_X2_becomes, ini_X2, co_X2_becomes, by decide +kernel⟩
theorem mv_X2_at : MV yX2_at RX2 cX2_at 2 (some .int) 1 := ⟨im_X2_at, se_X2_at, ini_X2, co_X2_at, by decide +kernel⟩
theorem mv_X2_add : MV yX2_add RX2 cX2_add 2 none 1 := ⟨im_X2_add, se_X2_add, ini_X2, co_X2_add, by decide +kernel⟩
theorem mv_X2_addInOrder : MV yX2_addInOrder RX2 cX2_addInOrder 5 none 3 := ⟨im_X2_addInOrder, se_X2_addInOrder, ini_X2, co_X2_addInOrder, by decide +kernel⟩
theorem mv_X3_add : MV yX3_add RX3 cX3_add 3 none 2 := ⟨im_X3_add, se_X3_add, ini_X3, co_X3_add, by decide +kernel⟩
theorem mv_X3_longest : MV yX3_longest RX3 cX3_longest 3 (some .int) 0 := ⟨im_X3_longest, se_X3_longest, ini_X3, co_X3_longest, by decide +kernel⟩
theorem mv_X3_allows : MV yX3_allows RX3 cX3_allows 4 (some .boolean) 2 := ⟨im_X3_allows, se_X3_allows, ini_X3, co_X3_allows, by decide +kernel⟩
theorem mv_X4_sortWaiting : MV yX4_sortWaiting RX4 cX4_sortWaiting 3 (some (.object "LetterFabric$Row")) 1 := ⟨im_X4_sortWaiting, se_X4_sortWaiting, ini_X4, co_X4_sortWaiting, by decide +kernel⟩
theorem mv_X4_sortTurned : MV yX4_sortTurned RX4 cX4_sortTurned 3 (some (.object "LetterFabric$Row")) 1 := ⟨im_X4_sortTurned, se_X4_sortTurned, ini_X4, co_X4_sortTurned, by decide +kernel⟩
theorem mv_X4_passSlot : MV yX4_passSlot RX4 cX4_passSlot 2 none 1 := ⟨im_X4_passSlot, se_X4_passSlot, ini_X4, co_X4_passSlot, by decide +kernel⟩
theorem mv_X4_letWinnersIn : MV yX4_letWinnersIn RX4 cX4_letWinnersIn 6 none 1 := ⟨im_X4_letWinnersIn, se_X4_letWinnersIn, ini_X4, co_X4_letWinnersIn, by decide +kernel⟩
theorem mv_X4_turnBackBeaten : MV yX4_turnBackBeaten RX4 cX4_turnBackBeaten 4 none 1 := ⟨im_X4_turnBackBeaten, se_X4_turnBackBeaten, ini_X4, co_X4_turnBackBeaten, by decide +kernel⟩
theorem mv_X4_letFirstsOut : MV yX4_letFirstsOut RX4 cX4_letFirstsOut 8 none 1 := ⟨im_X4_letFirstsOut, se_X4_letFirstsOut, ini_X4, co_X4_letFirstsOut, by decide +kernel⟩
theorem mv_X4_endLetter : MV yX4_endLetter RX4 cX4_endLetter 4 none 3 := ⟨im_X4_endLetter, se_X4_endLetter, ini_X4, co_X4_endLetter, by decide +kernel⟩
theorem mv_X5_tells : MV yX5_tells RX5 cX5_tells 4 (some .int) 3 := ⟨im_X5_tells, se_X5_tells, ini_X5, co_X5_tells, by decide +kernel⟩
theorem mv_X5_puts : MV yX5_puts RX5 cX5_puts 4 (some .int) 3 := ⟨im_X5_puts, se_X5_puts, ini_X5, co_X5_puts, by decide +kernel⟩
theorem mv_X5_slot : MV yX5_slot RX5 cX5_slot 2 (some .int) 0 := ⟨im_X5_slot, se_X5_slot, ini_X5, co_X5_slot, by decide +kernel⟩
theorem mv_X5_undo : MV yX5_undo RX5 cX5_undo 1 (some .int) 0 := ⟨im_X5_undo, se_X5_undo, ini_X5, co_X5_undo, by decide +kernel⟩
theorem mv_X5_clear : MV yX5_clear RX5 cX5_clear 3 (some .int) 0 := ⟨im_X5_clear, se_X5_clear, ini_X5, co_X5_clear, by decide +kernel⟩
theorem mv_X5_letter : MV yX5_letter RX5 cX5_letter 3 (some .int) 2 := ⟨im_X5_letter, se_X5_letter, ini_X5, co_X5_letter, by decide +kernel⟩
theorem mv_X5_line : MV yX5_line RX5 cX5_line 2 (some .int) 1 := ⟨im_X5_line, se_X5_line, ini_X5, co_X5_line, by decide +kernel⟩
theorem mv_X5_queue : MV yX5_queue RX5 cX5_queue 3 (some .int) 2 := ⟨im_X5_queue, se_X5_queue, ini_X5, co_X5_queue, by decide +kernel⟩
theorem mv_X5_turned : MV yX5_turned RX5 cX5_turned 2 (some .int) 1 := ⟨im_X5_turned, se_X5_turned, ini_X5, co_X5_turned, by decide +kernel⟩
theorem mv_X5_sorted : MV yX5_sorted RX5 cX5_sorted 2 (some .int) 1 := ⟨im_X5_sorted, se_X5_sorted, ini_X5, co_X5_sorted, by decide +kernel⟩
theorem mv_X5_straight : MV yX5_straight RX5 cX5_straight 3 (some .int) 1 := ⟨im_X5_straight, se_X5_straight, ini_X5, co_X5_straight, by decide +kernel⟩
theorem mv_X5_drain : MV yX5_drain RX5 cX5_drain 2 (some .int) 0 := ⟨im_X5_drain, se_X5_drain, ini_X5, co_X5_drain, by decide +kernel⟩
theorem mv_X5_lost : MV yX5_lost RX5 cX5_lost 2 (some .int) 1 := ⟨im_X5_lost, se_X5_lost, ini_X5, co_X5_lost, by decide +kernel⟩
theorem mv_X5_fewest : MV yX5_fewest RX5 cX5_fewest 3 (some .int) 1 := ⟨im_X5_fewest, se_X5_fewest, ini_X5, co_X5_fewest, by decide +kernel⟩
theorem mv_X5_share : MV yX5_share RX5 cX5_share 10 (some .long) 3 := ⟨im_X5_share, se_X5_share, ini_X5, co_X5_share, by decide +kernel⟩
theorem mv_X5_sees : MV yX5_sees RX5 cX5_sees 3 (some .int) 2 := ⟨im_X5_sees, se_X5_sees, ini_X5, co_X5_sees, by decide +kernel⟩
theorem mv_X5_forget : MV yX5_forget RX5 cX5_forget 2 (some .int) 0 := ⟨im_X5_forget, se_X5_forget, ini_X5, co_X5_forget, by decide +kernel⟩
theorem mv_X5_unseen : MV yX5_unseen RX5 cX5_unseen 4 (some .int) 0 := ⟨im_X5_unseen, se_X5_unseen, ini_X5, co_X5_unseen, by decide +kernel⟩
theorem mv_X5_keep : MV yX5_keep RX5 cX5_keep 2 (some .int) 1 := ⟨im_X5_keep, se_X5_keep, ini_X5, co_X5_keep, by decide +kernel⟩
theorem mv_X5_back : MV yX5_back RX5 cX5_back 2 (some .int) 1 := ⟨im_X5_back, se_X5_back, ini_X5, co_X5_back, by decide +kernel⟩
theorem mv_X5_count : MV yX5_count RX5 cX5_count 2 (some .int) 1 := ⟨im_X5_count, se_X5_count, ini_X5, co_X5_count, by decide +kernel⟩
theorem ms_X5_isWithin : MS yX5_isWithin cX5_isWithin 3 (some .boolean) 3 := ⟨sm_X5_isWithin, ini_X5, co_X5_isWithin, by decide +kernel⟩
theorem ms_X5_isLine : MS yX5_isLine cX5_isLine 1 (some .boolean) 1 := ⟨sm_X5_isLine, ini_X5, co_X5_isLine, by decide +kernel⟩
theorem ms_X5_isAddress : MS yX5_isAddress cX5_isAddress 1 (some .boolean) 1 := ⟨sm_X5_isAddress, ini_X5, co_X5_isAddress, by decide +kernel⟩
theorem mv_X5_enterNet : MV yX5_enterNet RX5 cX5_enterNet 2 none 0 := ⟨im_X5_enterNet, se_X5_enterNet, ini_X5, co_X5_enterNet, by decide +kernel⟩
theorem mv_X5_passStage : MV yX5_passStage RX5 cX5_passStage 8 none 1 := ⟨im_X5_passStage, se_X5_passStage, ini_X5, co_X5_passStage, by decide +kernel⟩
theorem mv_X5_trySlot : MV yX5_trySlot RX5 cX5_trySlot 2 (some .boolean) 0 := ⟨im_X5_trySlot, se_X5_trySlot, ini_X5, co_X5_trySlot, by decide +kernel⟩
theorem mv_X5_dropsIn : MV yX5_dropsIn RX5 cX5_dropsIn 5 (some .int) 2 := ⟨im_X5_dropsIn, se_X5_dropsIn, ini_X5, co_X5_dropsIn, by decide +kernel⟩
theorem mv_X5_explainsAllSeen : MV yX5_explainsAllSeen RX5 cX5_explainsAllSeen 5 (some .boolean) 1 := ⟨im_X5_explainsAllSeen, se_X5_explainsAllSeen, ini_X5, co_X5_explainsAllSeen, by decide +kernel⟩
theorem ms_X5_waysNotTaken : MS yX5_waysNotTaken cX5_waysNotTaken 7 (some .long) 2 := ⟨sm_X5_waysNotTaken, ini_X5, co_X5_waysNotTaken, by decide +kernel⟩
theorem ms_X5_power : MS yX5_power cX5_power 6 (some .long) 2 := ⟨sm_X5_power, ini_X5, co_X5_power, by decide +kernel⟩
theorem ms_X5_commonDivisor : MS yX5_commonDivisor cX5_commonDivisor 11 (some .long) 2 := ⟨sm_X5_commonDivisor, ini_X5, co_X5_commonDivisor, by decide +kernel⟩
theorem ms_X6_in : MS yX6_in cX6_in 3 (some .boolean) 3 := ⟨sm_X6_in, ini_X6, co_X6_in, by decide +kernel⟩
theorem mv_X6_writes : MV yX6_writes RX6 cX6_writes 4 none 1 := ⟨im_X6_writes, se_X6_writes, ini_X6, co_X6_writes, by decide +kernel⟩
theorem mv_X6_comesBack : MV yX6_comesBack RX6 cX6_comesBack 4 none 1 := ⟨im_X6_comesBack, se_X6_comesBack, ini_X6, co_X6_comesBack, by decide +kernel⟩
theorem mv_X6_notes : MV yX6_notes RX6 cX6_notes 2 none 0 := ⟨im_X6_notes, se_X6_notes, ini_X6, co_X6_notes, by decide +kernel⟩
theorem mv_X6_of : MV yX6_of RX6 cX6_of 3 (some .int) 2 := ⟨im_X6_of, se_X6_of, ini_X6, co_X6_of, by decide +kernel⟩
theorem mv_X6_sets : MV yX6_sets RX6 cX6_sets 4 none 3 := ⟨im_X6_sets, se_X6_sets, ini_X6, co_X6_sets, by decide +kernel⟩
theorem mv_X6_tells : MV yX6_tells RX6 cX6_tells 4 (some .int) 3 := ⟨im_X6_tells, se_X6_tells, ini_X6, co_X6_tells, by decide +kernel⟩
theorem ms_X6_isLine : MS yX6_isLine cX6_isLine 1 (some .boolean) 1 := ⟨sm_X6_isLine, ini_X6, co_X6_isLine, by decide +kernel⟩
theorem mv_X6_atLine : MV yX6_atLine RX6 cX6_atLine 3 (some .int) 1 := ⟨im_X6_atLine, se_X6_atLine, ini_X6, co_X6_atLine, by decide +kernel⟩
theorem mv_X6_puts : MV yX6_puts RX6 cX6_puts 4 (some .int) 3 := ⟨im_X6_puts, se_X6_puts, ini_X6, co_X6_puts, by decide +kernel⟩
theorem mv_X6_isAhead : MV yX6_isAhead RX6 cX6_isAhead 3 (some .boolean) 2 := ⟨im_X6_isAhead, se_X6_isAhead, ini_X6, co_X6_isAhead, by decide +kernel⟩
theorem mv_X6_manyAt : MV yX6_manyAt RX6 cX6_manyAt 4 (some .int) 1 := ⟨im_X6_manyAt, se_X6_manyAt, ini_X6, co_X6_manyAt, by decide +kernel⟩
theorem mv_X6_isIn : MV yX6_isIn RX6 cX6_isIn 2 (some .boolean) 1 := ⟨im_X6_isIn, se_X6_isIn, ini_X6, co_X6_isIn, by decide +kernel⟩
theorem mv_X6_isSooner : MV yX6_isSooner RX6 cX6_isSooner 3 (some .boolean) 2 := ⟨im_X6_isSooner, se_X6_isSooner, ini_X6, co_X6_isSooner, by decide +kernel⟩
theorem mv_X6_sorts : MV yX6_sorts RX6 cX6_sorts 3 none 0 := ⟨im_X6_sorts, se_X6_sorts, ini_X6, co_X6_sorts, by decide +kernel⟩
theorem mv_X6_wins : MV yX6_wins RX6 cX6_wins 5 none 0 := ⟨im_X6_wins, se_X6_wins, ini_X6, co_X6_wins, by decide +kernel⟩
theorem mv_X6_turns : MV yX6_turns RX6 cX6_turns 7 none 0 := ⟨im_X6_turns, se_X6_turns, ini_X6, co_X6_turns, by decide +kernel⟩
theorem mv_X6_queued : MV yX6_queued RX6 cX6_queued 6 (some .int) 2 := ⟨im_X6_queued, se_X6_queued, ini_X6, co_X6_queued, by decide +kernel⟩
theorem mv_X6_goes : MV yX6_goes RX6 cX6_goes 4 (some .int) 0 := ⟨im_X6_goes, se_X6_goes, ini_X6, co_X6_goes, by decide +kernel⟩
theorem mv_X6_slot : MV yX6_slot RX6 cX6_slot 1 (some .int) 0 := ⟨im_X6_slot, se_X6_slot, ini_X6, co_X6_slot, by decide +kernel⟩
theorem mv_X6_undo : MV yX6_undo RX6 cX6_undo 1 (some .int) 0 := ⟨im_X6_undo, se_X6_undo, ini_X6, co_X6_undo, by decide +kernel⟩
theorem mv_X6_clear : MV yX6_clear RX6 cX6_clear 2 (some .int) 0 := ⟨im_X6_clear, se_X6_clear, ini_X6, co_X6_clear, by decide +kernel⟩
theorem mv_X6_letter : MV yX6_letter RX6 cX6_letter 3 (some .int) 2 := ⟨im_X6_letter, se_X6_letter, ini_X6, co_X6_letter, by decide +kernel⟩
theorem mv_X6_line : MV yX6_line RX6 cX6_line 2 (some .int) 1 := ⟨im_X6_line, se_X6_line, ini_X6, co_X6_line, by decide +kernel⟩
theorem mv_X6_queue : MV yX6_queue RX6 cX6_queue 3 (some .int) 2 := ⟨im_X6_queue, se_X6_queue, ini_X6, co_X6_queue, by decide +kernel⟩
theorem mv_X6_turned : MV yX6_turned RX6 cX6_turned 5 (some .int) 1 := ⟨im_X6_turned, se_X6_turned, ini_X6, co_X6_turned, by decide +kernel⟩
theorem mv_X6_sorted : MV yX6_sorted RX6 cX6_sorted 2 (some .int) 1 := ⟨im_X6_sorted, se_X6_sorted, ini_X6, co_X6_sorted, by decide +kernel⟩
theorem mv_X6_setStraight : MV yX6_setStraight RX6 cX6_setStraight 5 none 0 := ⟨im_X6_setStraight, se_X6_setStraight, ini_X6, co_X6_setStraight, by decide +kernel⟩
theorem mv_X6_straight : MV yX6_straight RX6 cX6_straight 2 (some .int) 1 := ⟨im_X6_straight, se_X6_straight, ini_X6, co_X6_straight, by decide +kernel⟩
theorem mv_X6_isOver : MV yX6_isOver RX6 cX6_isOver 1 (some .boolean) 0 := ⟨im_X6_isOver, se_X6_isOver, ini_X6, co_X6_isOver, by decide +kernel⟩
theorem mv_X6_drain : MV yX6_drain RX6 cX6_drain 3 (some .int) 0 := ⟨im_X6_drain, se_X6_drain, ini_X6, co_X6_drain, by decide +kernel⟩
theorem mv_X6_lostBy : MV yX6_lostBy RX6 cX6_lostBy 5 (some .int) 2 := ⟨im_X6_lostBy, se_X6_lostBy, ini_X6, co_X6_lostBy, by decide +kernel⟩
theorem mv_X6_lost : MV yX6_lost RX6 cX6_lost 2 (some .int) 1 := ⟨im_X6_lost, se_X6_lost, ini_X6, co_X6_lost, by decide +kernel⟩
theorem mv_X6_fewest : MV yX6_fewest RX6 cX6_fewest 3 (some .int) 1 := ⟨im_X6_fewest, se_X6_fewest, ini_X6, co_X6_fewest, by decide +kernel⟩
theorem ms_X6_power : MS yX6_power cX6_power 6 (some .long) 2 := ⟨sm_X6_power, ini_X6, co_X6_power, by decide +kernel⟩
theorem ms_X6_ways : MS yX6_ways cX6_ways 4 (some .long) 1 := ⟨sm_X6_ways, ini_X6, co_X6_ways, by decide +kernel⟩
theorem ms_X6_gcd : MS yX6_gcd cX6_gcd 10 (some .long) 2 := ⟨sm_X6_gcd, ini_X6, co_X6_gcd, by decide +kernel⟩
theorem mv_X6_share : MV yX6_share RX6 cX6_share 10 (some .long) 3 := ⟨im_X6_share, se_X6_share, ini_X6, co_X6_share, by decide +kernel⟩
theorem mv_X6_sees : MV yX6_sees RX6 cX6_sees 3 (some .int) 2 := ⟨im_X6_sees, se_X6_sees, ini_X6, co_X6_sees, by decide +kernel⟩
theorem mv_X6_forget : MV yX6_forget RX6 cX6_forget 2 (some .int) 0 := ⟨im_X6_forget, se_X6_forget, ini_X6, co_X6_forget, by decide +kernel⟩
theorem mv_X6_outWithout : MV yX6_outWithout RX6 cX6_outWithout 5 (some .int) 2 := ⟨im_X6_outWithout, se_X6_outWithout, ini_X6, co_X6_outWithout, by decide +kernel⟩
theorem mv_X6_unseen : MV yX6_unseen RX6 cX6_unseen 6 (some .int) 0 := ⟨im_X6_unseen, se_X6_unseen, ini_X6, co_X6_unseen, by decide +kernel⟩
theorem mv_X6_keep : MV yX6_keep RX6 cX6_keep 2 (some .int) 1 := ⟨im_X6_keep, se_X6_keep, ini_X6, co_X6_keep, by decide +kernel⟩
theorem mv_X6_back : MV yX6_back RX6 cX6_back 2 (some .int) 1 := ⟨im_X6_back, se_X6_back, ini_X6, co_X6_back, by decide +kernel⟩
theorem mv_X6_count : MV yX6_count RX6 cX6_count 2 (some .int) 1 := ⟨im_X6_count, se_X6_count, ini_X6, co_X6_count, by decide +kernel⟩
end
section
/-- the first n from k on, m of them, of which p holds; -9 -/
def findN (p : Nat → Bool) : Nat → Nat → Int32
  | 0, _ => -9
  | m + 1, k => if p k then nI k else findN p m (k + 1)
def pAt (F : FabT) (line : Int32) (k : Nat) : Bool := decide (F.2.2 0 k = 0) && decide (F.2.2 1 k = line)
def fAt (F : FabT) (line : Int32) : Int32 := findN (pAt F line) F.2.1 0
set_option maxHeartbeats 4000000 in
theorem l_X0_letterAt {K : KX} {E : EnvT} (hE : EOK E) (h : Cx K E cX0_letterAt 3 RX0 0 0) {σ : ST} {post : Option Value → ST → Prop} (hR : Rx K E (some .int) post) (i : Nat) (hi : i < 14) (hF : (σ.1 i).2.1 ≤ 64) (line : Int32) : ∀ m k, k + m = (σ.1 i).2.1 → post (some (.int (findN (pAt (σ.1 i) line) m k))) σ → GG K E σ 2 [(0, .ref (ad E 1 i 0)), (1, .int line), (2, .int (nI k))] [] := by
  intro m
  induction m with
  | zero =>
    intro k hk hp
    refine g_iload_n h (q := 2) 2 dX0_letterAt_2 rfl ?_
    refine g_aload_n h (q := 0) 0 dX0_letterAt_3 rfl ?_
    refine g_get h 1 i 0 (ok_F hi) rfl rfl uin_X0 4 (by decide) fl_X0_56 rfl dX0_letterAt_4 ?_
    refine g_ncmp_ge h (a := k) (b := (σ.1 i).2.1) 37 dX0_letterAt_7 (by decide) (by omega) (by omega) (fun c1 => ?_) (fun c1 => ?_)
    · refine g_bipush h (v := (-9)) dX0_letterAt_37 (by decide) ?_
      exact g_iret h hR dX0_letterAt_39 (hp)
    · exfalso; omega
  | succ m ih =>
    intro k hk hp
    refine g_iload_n h (q := 2) 2 dX0_letterAt_2 rfl ?_
    refine g_aload_n h (q := 0) 0 dX0_letterAt_3 rfl ?_
    refine g_get h 1 i 0 (ok_F hi) rfl rfl uin_X0 4 (by decide) fl_X0_56 rfl dX0_letterAt_4 ?_
    refine g_ncmp_ge h (a := k) (b := (σ.1 i).2.1) 37 dX0_letterAt_7 (by decide) (by omega) (by omega) (fun c1 => ?_) (fun c1 => ?_)
    · exfalso; omega
    · refine g_aload_n h (q := 0) 0 dX0_letterAt_10 rfl ?_
      refine g_get h 1 i 0 (ok_F hi) rfl rfl uin_X0 5 (by decide) fl_X0_21 rfl dX0_letterAt_11 ?_
      refine g_iload_n h (q := 2) 2 dX0_letterAt_14 rfl ?_
      refine g_aldF h i 0 hi (by decide) (k) (show k < 64 by omega) dX0_letterAt_15 ?_
      refine g_if_ne h 31 dX0_letterAt_16 (by decide) (fun c2 => ?_) (fun c2 => ?_)
      · refine g_iinc h (q := 2) (v := nI (k + 1)) 2 [(0, .ref (ad E 1 i 0)), (1, .int line), (2, .int (nI (k + 1)))] dX0_letterAt_31 rfl (nI_inc k 1) (by decide) rfl ?_
        refine g_goto h 2 dX0_letterAt_34 (by decide) ?_
        exact ih (k + 1) (by omega) (by have e : pAt (σ.1 i) line k = false := (by simp [pAt, *]); simpa [findN, e] using hp)
      · refine g_aload_n h (q := 0) 0 dX0_letterAt_19 rfl ?_
        refine g_get h 1 i 0 (ok_F hi) rfl rfl uin_X0 6 (by decide) fl_X0_25 rfl dX0_letterAt_20 ?_
        refine g_iload_n h (q := 2) 2 dX0_letterAt_23 rfl ?_
        refine g_aldF h i 1 hi (by decide) (k) (show k < 64 by omega) dX0_letterAt_24 ?_
        refine g_iload_n h (q := 1) 1 dX0_letterAt_25 rfl ?_
        refine g_icmp_ne h 31 dX0_letterAt_26 (by decide) (fun c3 => ?_) (fun c3 => ?_)
        · refine g_iinc h (q := 2) (v := nI (k + 1)) 2 [(0, .ref (ad E 1 i 0)), (1, .int line), (2, .int (nI (k + 1)))] dX0_letterAt_31 rfl (nI_inc k 1) (by decide) rfl ?_
          refine g_goto h 2 dX0_letterAt_34 (by decide) ?_
          exact ih (k + 1) (by omega) (by have e : pAt (σ.1 i) line k = false := (by simp [pAt, *]); simpa [findN, e] using hp)
        · refine g_iload_n h (q := 2) 2 dX0_letterAt_29 rfl ?_
          exact g_iret h hR dX0_letterAt_30 (by
      have e : pAt (σ.1 i) line k = true := by simp [pAt, *]
      simpa [findN, e] using hp)
set_option maxHeartbeats 4000000 in
theorem c_X0_letterAt (l : Launch) {E : EnvT} (hE : EOK E) {σ : ST} (i : Nat) (hi : i < 14) (hF : (σ.1 i).2.1 ≤ 64) (line : Int32) : Con l E yX0_letterAt cX0_letterAt 3 (some .int) 0 0 [.ref (ad E 1 i 0), .int line] σ (rI (fAt (σ.1 i) line) σ) := by
  refine con_intro hE (by decide) (Nat.le_of_ble_eq_true rfl) (fun K hkl h hR => ?_)
  subst hkl
  have h : Cx K E cX0_letterAt 3 RX0 0 0 := h
  show GG K E σ 0 [(0, .ref (ad E 1 i 0)), (1, .int line)] []
  refine g_iconst h (v := 0) dX0_letterAt_0 (by decide) ?_
  refine g_istore_n h (q := 2) [(0, .ref (ad E 1 i 0)), (1, .int line), (2, .int 0)] dX0_letterAt_1 (by decide) rfl ?_
  exact l_X0_letterAt hE h hR i hi hF line _ 0 (Nat.zero_add _) ⟨rfl, rfl⟩
def fLive (F : FabT) : Int32 := F.2.2 7 0 + F.2.2 7 1 + F.2.2 7 2
set_option maxHeartbeats 4000000 in
theorem c_X0_countLive (l : Launch) {E : EnvT} (hE : EOK E) {σ : ST} (i : Nat) (hi : i < 14) : Con l E yX0_countLive cX0_countLive 1 (some .int) 0 0 [.ref (ad E 1 i 0)] σ (rI (fLive (σ.1 i)) σ) := by
  refine con_intro hE (by decide) (Nat.le_of_ble_eq_true rfl) (fun K hkl h hR => ?_)
  subst hkl
  have h : Cx K E cX0_countLive 1 RX0 0 0 := h
  show GG K E σ 0 [(0, .ref (ad E 1 i 0))] []
  refine g_aload_n h (q := 0) 0 dX0_countLive_0 rfl ?_
  refine g_get h 1 i 0 (ok_F hi) rfl rfl uin_X0 12 (by decide) fl_X0_43 rfl dX0_countLive_1 ?_
  refine g_iconst h (v := 0) dX0_countLive_4 (by decide) ?_
  refine g_aldF h i 7 hi (by decide) (0) (show 0 < 5 by omega) dX0_countLive_5 ?_
  refine g_aload_n h (q := 0) 0 dX0_countLive_6 rfl ?_
  refine g_get h 1 i 0 (ok_F hi) rfl rfl uin_X0 12 (by decide) fl_X0_43 rfl dX0_countLive_7 ?_
  refine g_iconst h (v := 1) dX0_countLive_10 (by decide) ?_
  refine g_aldF h i 7 hi (by decide) (1) (show 1 < 5 by omega) dX0_countLive_11 ?_
  refine g_iadd h dX0_countLive_12 ?_
  refine g_aload_n h (q := 0) 0 dX0_countLive_13 rfl ?_
  refine g_get h 1 i 0 (ok_F hi) rfl rfl uin_X0 12 (by decide) fl_X0_43 rfl dX0_countLive_14 ?_
  refine g_iconst h (v := 2) dX0_countLive_17 (by decide) ?_
  refine g_aldF h i 7 hi (by decide) (2) (show 2 < 5 by omega) dX0_countLive_18 ?_
  refine g_iadd h dX0_countLive_19 ?_
  exact g_iret h hR dX0_countLive_20 (⟨rfl, rfl⟩)
def gB (F : FabT) (a b : Nat) (by1 : Bool) : Bool := if by1 = true ∧ F.2.2 2 a ≠ F.2.2 2 b then decide (F.2.2 2 a < F.2.2 2 b) else if F.2.2 3 a ≠ F.2.2 3 b then decide (F.2.2 3 b < F.2.2 3 a) else decide (a < b)
theorem bI_0 {b : Bool} : bI b = 0 ↔ b = false := by cases b <;> decide
theorem bI_1 {b : Bool} : ¬ bI b = 0 ↔ b = true := by cases b <;> decide
theorem i_nlt {x y : Int32} (h : y ≤ x) : ¬ x < y := Int32.not_lt.mpr h
theorem i_lt {x y : Int32} (h : ¬ y ≤ x) : x < y := Int32.not_le.mp h
theorem i_le {x y : Int32} (h : ¬ y < x) : x ≤ y := Int32.not_lt.mp h
set_option maxHeartbeats 4000000 in
theorem c_X0_goesBefore (l : Launch) {E : EnvT} (hE : EOK E) {σ : ST} (i : Nat) (hi : i < 14) (a b : Nat) (ha : a < 64) (hb : b < 64) (by1 : Bool) : Con l E yX0_goesBefore cX0_goesBefore 4 (some .boolean) 0 0 [.ref (ad E 1 i 0), .int (nI (a)), .int (nI (b)), .int (bI by1)] σ (rI (bI (gB (σ.1 i) a b by1)) σ) := by
  refine con_intro hE (by decide) (Nat.le_of_ble_eq_true rfl) (fun K hkl h hR => ?_)
  subst hkl
  have h : Cx K E cX0_goesBefore 4 RX0 0 0 := h
  show GG K E σ 0 [(0, .ref (ad E 1 i 0)), (1, .int (nI (a))), (2, .int (nI (b))), (3, .int (bI by1))] []
  refine g_iload_n h (q := 3) 3 dX0_goesBefore_0 rfl ?_
  refine g_if_eq h 40 dX0_goesBefore_1 (by decide) (fun c1 => ?_) (fun c1 => ?_)
  · refine g_aload_n h (q := 0) 0 dX0_goesBefore_40 rfl ?_
    refine g_get h 1 i 0 (ok_F hi) rfl rfl uin_X0 8 (by decide) fl_X0_31 rfl dX0_goesBefore_41 ?_
    refine g_iload_n h (q := 1) 1 dX0_goesBefore_44 rfl ?_
    refine g_aldF h i 3 hi (by decide) (a) (show a < 64 by omega) dX0_goesBefore_45 ?_
    refine g_aload_n h (q := 0) 0 dX0_goesBefore_46 rfl ?_
    refine g_get h 1 i 0 (ok_F hi) rfl rfl uin_X0 8 (by decide) fl_X0_31 rfl dX0_goesBefore_47 ?_
    refine g_iload_n h (q := 2) 2 dX0_goesBefore_50 rfl ?_
    refine g_aldF h i 3 hi (by decide) (b) (show b < 64 by omega) dX0_goesBefore_51 ?_
    refine g_icmp_eq h 76 dX0_goesBefore_52 (by decide) (fun c2 => ?_) (fun c2 => ?_)
    · refine g_iload_n h (q := 1) 1 dX0_goesBefore_76 rfl ?_
      refine g_iload_n h (q := 2) 2 dX0_goesBefore_77 rfl ?_
      refine g_ncmp_ge h (a := a) (b := b) 85 dX0_goesBefore_78 (by decide) (by omega) (by omega) (fun c3 => ?_) (fun c3 => ?_)
      · refine g_iconst h (v := 0) dX0_goesBefore_85 (by decide) ?_
        exact g_zret h hR dX0_goesBefore_86 (by decide) (show rI _ _ _ _ from ⟨by
    have e : gB (σ.1 i) a b by1 = false := by
      simp only [bI_0, bI_1] at *
      simp [gB, i_nlt, i_lt, Nat.not_lt, *]
    rw [e]; rfl, rfl⟩)
      · refine g_iconst h (v := 1) dX0_goesBefore_81 (by decide) ?_
        refine g_goto h 86 dX0_goesBefore_82 (by decide) ?_
        exact g_zret h hR dX0_goesBefore_86 (by decide) (show rI _ _ _ _ from ⟨by
    have e : gB (σ.1 i) a b by1 = true := by
      simp only [bI_0, bI_1] at *
      simp [gB, i_nlt, i_lt, Nat.not_lt, *]
    rw [e]; rfl, rfl⟩)
    · refine g_aload_n h (q := 0) 0 dX0_goesBefore_55 rfl ?_
      refine g_get h 1 i 0 (ok_F hi) rfl rfl uin_X0 8 (by decide) fl_X0_31 rfl dX0_goesBefore_56 ?_
      refine g_iload_n h (q := 1) 1 dX0_goesBefore_59 rfl ?_
      refine g_aldF h i 3 hi (by decide) (a) (show a < 64 by omega) dX0_goesBefore_60 ?_
      refine g_aload_n h (q := 0) 0 dX0_goesBefore_61 rfl ?_
      refine g_get h 1 i 0 (ok_F hi) rfl rfl uin_X0 8 (by decide) fl_X0_31 rfl dX0_goesBefore_62 ?_
      refine g_iload_n h (q := 2) 2 dX0_goesBefore_65 rfl ?_
      refine g_aldF h i 3 hi (by decide) (b) (show b < 64 by omega) dX0_goesBefore_66 ?_
      refine g_icmp_le h 74 dX0_goesBefore_67 (by decide) (fun c4 => ?_) (fun c4 => ?_)
      · refine g_iconst h (v := 0) dX0_goesBefore_74 (by decide) ?_
        exact g_zret h hR dX0_goesBefore_75 (by decide) (show rI _ _ _ _ from ⟨by
    have e : gB (σ.1 i) a b by1 = false := by
      simp only [bI_0, bI_1] at *
      simp [gB, i_nlt, i_lt, Nat.not_lt, *]
    rw [e]; rfl, rfl⟩)
      · refine g_iconst h (v := 1) dX0_goesBefore_70 (by decide) ?_
        refine g_goto h 75 dX0_goesBefore_71 (by decide) ?_
        exact g_zret h hR dX0_goesBefore_75 (by decide) (show rI _ _ _ _ from ⟨by
    have e : gB (σ.1 i) a b by1 = true := by
      simp only [bI_0, bI_1] at *
      simp [gB, i_nlt, i_lt, Nat.not_lt, *]
    rw [e]; rfl, rfl⟩)
  · refine g_aload_n h (q := 0) 0 dX0_goesBefore_4 rfl ?_
    refine g_get h 1 i 0 (ok_F hi) rfl rfl uin_X0 7 (by decide) fl_X0_28 rfl dX0_goesBefore_5 ?_
    refine g_iload_n h (q := 1) 1 dX0_goesBefore_8 rfl ?_
    refine g_aldF h i 2 hi (by decide) (a) (show a < 64 by omega) dX0_goesBefore_9 ?_
    refine g_aload_n h (q := 0) 0 dX0_goesBefore_10 rfl ?_
    refine g_get h 1 i 0 (ok_F hi) rfl rfl uin_X0 7 (by decide) fl_X0_28 rfl dX0_goesBefore_11 ?_
    refine g_iload_n h (q := 2) 2 dX0_goesBefore_14 rfl ?_
    refine g_aldF h i 2 hi (by decide) (b) (show b < 64 by omega) dX0_goesBefore_15 ?_
    refine g_icmp_eq h 40 dX0_goesBefore_16 (by decide) (fun c5 => ?_) (fun c5 => ?_)
    · refine g_aload_n h (q := 0) 0 dX0_goesBefore_40 rfl ?_
      refine g_get h 1 i 0 (ok_F hi) rfl rfl uin_X0 8 (by decide) fl_X0_31 rfl dX0_goesBefore_41 ?_
      refine g_iload_n h (q := 1) 1 dX0_goesBefore_44 rfl ?_
      refine g_aldF h i 3 hi (by decide) (a) (show a < 64 by omega) dX0_goesBefore_45 ?_
      refine g_aload_n h (q := 0) 0 dX0_goesBefore_46 rfl ?_
      refine g_get h 1 i 0 (ok_F hi) rfl rfl uin_X0 8 (by decide) fl_X0_31 rfl dX0_goesBefore_47 ?_
      refine g_iload_n h (q := 2) 2 dX0_goesBefore_50 rfl ?_
      refine g_aldF h i 3 hi (by decide) (b) (show b < 64 by omega) dX0_goesBefore_51 ?_
      refine g_icmp_eq h 76 dX0_goesBefore_52 (by decide) (fun c6 => ?_) (fun c6 => ?_)
      · refine g_iload_n h (q := 1) 1 dX0_goesBefore_76 rfl ?_
        refine g_iload_n h (q := 2) 2 dX0_goesBefore_77 rfl ?_
        refine g_ncmp_ge h (a := a) (b := b) 85 dX0_goesBefore_78 (by decide) (by omega) (by omega) (fun c7 => ?_) (fun c7 => ?_)
        · refine g_iconst h (v := 0) dX0_goesBefore_85 (by decide) ?_
          exact g_zret h hR dX0_goesBefore_86 (by decide) (show rI _ _ _ _ from ⟨by
    have e : gB (σ.1 i) a b by1 = false := by
      simp only [bI_0, bI_1] at *
      simp [gB, i_nlt, i_lt, Nat.not_lt, *]
    rw [e]; rfl, rfl⟩)
        · refine g_iconst h (v := 1) dX0_goesBefore_81 (by decide) ?_
          refine g_goto h 86 dX0_goesBefore_82 (by decide) ?_
          exact g_zret h hR dX0_goesBefore_86 (by decide) (show rI _ _ _ _ from ⟨by
    have e : gB (σ.1 i) a b by1 = true := by
      simp only [bI_0, bI_1] at *
      simp [gB, i_nlt, i_lt, Nat.not_lt, *]
    rw [e]; rfl, rfl⟩)
      · refine g_aload_n h (q := 0) 0 dX0_goesBefore_55 rfl ?_
        refine g_get h 1 i 0 (ok_F hi) rfl rfl uin_X0 8 (by decide) fl_X0_31 rfl dX0_goesBefore_56 ?_
        refine g_iload_n h (q := 1) 1 dX0_goesBefore_59 rfl ?_
        refine g_aldF h i 3 hi (by decide) (a) (show a < 64 by omega) dX0_goesBefore_60 ?_
        refine g_aload_n h (q := 0) 0 dX0_goesBefore_61 rfl ?_
        refine g_get h 1 i 0 (ok_F hi) rfl rfl uin_X0 8 (by decide) fl_X0_31 rfl dX0_goesBefore_62 ?_
        refine g_iload_n h (q := 2) 2 dX0_goesBefore_65 rfl ?_
        refine g_aldF h i 3 hi (by decide) (b) (show b < 64 by omega) dX0_goesBefore_66 ?_
        refine g_icmp_le h 74 dX0_goesBefore_67 (by decide) (fun c8 => ?_) (fun c8 => ?_)
        · refine g_iconst h (v := 0) dX0_goesBefore_74 (by decide) ?_
          exact g_zret h hR dX0_goesBefore_75 (by decide) (show rI _ _ _ _ from ⟨by
    have e : gB (σ.1 i) a b by1 = false := by
      simp only [bI_0, bI_1] at *
      simp [gB, i_nlt, i_lt, Nat.not_lt, *]
    rw [e]; rfl, rfl⟩)
        · refine g_iconst h (v := 1) dX0_goesBefore_70 (by decide) ?_
          refine g_goto h 75 dX0_goesBefore_71 (by decide) ?_
          exact g_zret h hR dX0_goesBefore_75 (by decide) (show rI _ _ _ _ from ⟨by
    have e : gB (σ.1 i) a b by1 = true := by
      simp only [bI_0, bI_1] at *
      simp [gB, i_nlt, i_lt, Nat.not_lt, *]
    rw [e]; rfl, rfl⟩)
    · refine g_aload_n h (q := 0) 0 dX0_goesBefore_19 rfl ?_
      refine g_get h 1 i 0 (ok_F hi) rfl rfl uin_X0 7 (by decide) fl_X0_28 rfl dX0_goesBefore_20 ?_
      refine g_iload_n h (q := 1) 1 dX0_goesBefore_23 rfl ?_
      refine g_aldF h i 2 hi (by decide) (a) (show a < 64 by omega) dX0_goesBefore_24 ?_
      refine g_aload_n h (q := 0) 0 dX0_goesBefore_25 rfl ?_
      refine g_get h 1 i 0 (ok_F hi) rfl rfl uin_X0 7 (by decide) fl_X0_28 rfl dX0_goesBefore_26 ?_
      refine g_iload_n h (q := 2) 2 dX0_goesBefore_29 rfl ?_
      refine g_aldF h i 2 hi (by decide) (b) (show b < 64 by omega) dX0_goesBefore_30 ?_
      refine g_icmp_ge h 38 dX0_goesBefore_31 (by decide) (fun c9 => ?_) (fun c9 => ?_)
      · refine g_iconst h (v := 0) dX0_goesBefore_38 (by decide) ?_
        exact g_zret h hR dX0_goesBefore_39 (by decide) (show rI _ _ _ _ from ⟨by
    have e : gB (σ.1 i) a b by1 = false := by
      simp only [bI_0, bI_1] at *
      simp [gB, i_nlt, i_lt, Nat.not_lt, *]
    rw [e]; rfl, rfl⟩)
      · refine g_iconst h (v := 1) dX0_goesBefore_34 (by decide) ?_
        refine g_goto h 39 dX0_goesBefore_35 (by decide) ?_
        exact g_zret h hR dX0_goesBefore_39 (by decide) (show rI _ _ _ _ from ⟨by
    have e : gB (σ.1 i) a b by1 = true := by
      simp only [bI_0, bI_1] at *
      simp [gB, i_nlt, i_lt, Nat.not_lt, *]
    rw [e]; rfl, rfl⟩)
end
section
def mvL (F : FabT) (n q : Nat) : FabT :=
  (F.1, F.2.1, va_up (va_up (va_up F.2.2 7 (upd (F.2.2 7) (F.2.2 0 n).toNatClampNeg (F.2.2 7 (F.2.2 0 n).toNatClampNeg - 1))) 0 (upd (F.2.2 0) n (nI q))) 7
    (upd (upd (F.2.2 7) (F.2.2 0 n).toNatClampNeg (F.2.2 7 (F.2.2 0 n).toNatClampNeg - 1)) q (upd (F.2.2 7) (F.2.2 0 n).toNatClampNeg (F.2.2 7 (F.2.2 0 n).toNatClampNeg - 1) q + 1)))
set_option maxHeartbeats 4000000 in
theorem c_X0_moveLetter (l : Launch) {E : EnvT} (hE : EOK E) {σ : ST} (i : Nat) (hi : i < 14) (n q : Nat) (hn : n < 64) (hq : q < 5) (hp : ∃ p, p < 5 ∧ (σ.1 i).2.2 0 n = nI p) : Con l E yX0_moveLetter cX0_moveLetter 3 none 0 0 [.ref (ad E 1 i 0), .int (nI (n)), .int (nI (q))] σ (rV (sF σ i (mvL (σ.1 i) n q))) := by
  refine con_intro hE (by decide) (Nat.le_of_ble_eq_true rfl) (fun K hkl h hR => ?_)
  subst hkl
  have h : Cx K E cX0_moveLetter 3 RX0 0 0 := h
  show GG K E σ 0 [(0, .ref (ad E 1 i 0)), (1, .int (nI (n))), (2, .int (nI (q)))] []
  obtain ⟨p, hp5, hp⟩ := hp
  refine g_aload_n h (q := 0) 0 dX0_moveLetter_0 rfl ?_
  refine g_get h 1 i 0 (ok_F hi) rfl rfl uin_X0 12 (by decide) fl_X0_43 rfl dX0_moveLetter_1 ?_
  refine g_aload_n h (q := 0) 0 dX0_moveLetter_4 rfl ?_
  refine g_get h 1 i 0 (ok_F hi) rfl rfl uin_X0 5 (by decide) fl_X0_21 rfl dX0_moveLetter_5 ?_
  refine g_iload_n h (q := 1) 1 dX0_moveLetter_8 rfl ?_
  refine g_aldF h i 0 hi (by decide) (n) (show n < 64 by omega) dX0_moveLetter_9 ?_
  refine g_is (nI (p)) (hp) ?_
  refine g_dup2 h dX0_moveLetter_10 rfl rfl ?_
  refine g_aldF h i 7 hi (by decide) (p) (show p < 5 by omega) dX0_moveLetter_11 ?_
  refine g_iconst h (v := 1) dX0_moveLetter_12 (by decide) ?_
  refine g_isub h dX0_moveLetter_13 ?_
  refine g_astF h i 7 hi (by decide) (p) (show p < 5 by omega) dX0_moveLetter_14 (fun σ1 hσ1 => ?_)
  refine g_aload_n h (q := 0) 0 dX0_moveLetter_15 rfl ?_
  refine g_get h 1 i 0 (ok_F hi) rfl rfl uin_X0 5 (by decide) fl_X0_21 rfl dX0_moveLetter_16 ?_
  refine g_iload_n h (q := 1) 1 dX0_moveLetter_19 rfl ?_
  refine g_iload_n h (q := 2) 2 dX0_moveLetter_20 rfl ?_
  refine g_astF h i 0 hi (by decide) (n) (show n < 64 by omega) dX0_moveLetter_21 (fun σ2 hσ2 => ?_)
  refine g_aload_n h (q := 0) 0 dX0_moveLetter_22 rfl ?_
  refine g_get h 1 i 0 (ok_F hi) rfl rfl uin_X0 12 (by decide) fl_X0_43 rfl dX0_moveLetter_23 ?_
  refine g_iload_n h (q := 2) 2 dX0_moveLetter_26 rfl ?_
  refine g_dup2 h dX0_moveLetter_27 rfl rfl ?_
  refine g_aldF h i 7 hi (by decide) (q) (show q < 5 by omega) dX0_moveLetter_28 ?_
  refine g_iconst h (v := 1) dX0_moveLetter_29 (by decide) ?_
  refine g_iadd h dX0_moveLetter_30 ?_
  refine g_astF h i 7 hi (by decide) (q) (show q < 5 by omega) dX0_moveLetter_31 (fun σ3 hσ3 => ?_)
  exact g_vret h hR dX0_moveLetter_32 (show rV _ _ _ from ⟨rfl, by
    subst hσ3 hσ2 hσ1
    have hc : (nI p).toNatClampNeg = p := nI_clamp (by omega)
    simp [sF, up_s, bx_uu, mvL, hp, hc, va_up]⟩)
def adL (F : FabT) (line addr prio : Int32) : FabT :=
  (F.1, F.2.1 + 1, va_up (va_up (va_up (va_up (va_up (va_up (va_up (va_up F.2.2 0 (upd (F.2.2 0) F.2.1 0)) 7 (upd (F.2.2 7) 0 (F.2.2 7 0 + 1))) 1 (upd (F.2.2 1) F.2.1 line)) 2 (upd (F.2.2 2) F.2.1 addr)) 3 (upd (F.2.2 3) F.2.1 prio)) 4 (upd (F.2.2 4) F.2.1 (F.1 3))) 5 (upd (F.2.2 5) F.2.1 (-9))) 6 (upd (F.2.2 6) F.2.1 0))
set_option maxHeartbeats 4000000 in
theorem c_X0_addLetter (l : Launch) {E : EnvT} (hE : EOK E) {σ : ST} (i : Nat) (hi : i < 14) (hF : (σ.1 i).2.1 < 64) (line addr prio : Int32) : Con l E yX0_addLetter cX0_addLetter 5 (some .int) 0 0 [.ref (ad E 1 i 0), .int line, .int addr, .int prio] σ (rI (nI (σ.1 i).2.1) (sF σ i (adL (σ.1 i) line addr prio))) := by
  refine con_intro hE (by decide) (Nat.le_of_ble_eq_true rfl) (fun K hkl h hR => ?_)
  subst hkl
  have h : Cx K E cX0_addLetter 5 RX0 0 0 := h
  show GG K E σ 0 [(0, .ref (ad E 1 i 0)), (1, .int line), (2, .int addr), (3, .int prio)] []
  refine g_aload_n h (q := 0) 0 dX0_addLetter_0 rfl ?_
  refine g_get h 1 i 0 (ok_F hi) rfl rfl uin_X0 4 (by decide) fl_X0_56 rfl dX0_addLetter_1 ?_
  refine g_bipush h (v := 64) dX0_addLetter_4 (by decide) ?_
  refine g_ncmp_lt h (a := (σ.1 i).2.1) (b := 64) 12 dX0_addLetter_6 (by decide) (by omega) (by omega) (fun c1 => ?_) (fun c1 => ?_)
  · refine g_aload_n h (q := 0) 0 dX0_addLetter_12 rfl ?_
    refine g_get h 1 i 0 (ok_F hi) rfl rfl uin_X0 4 (by decide) fl_X0_56 rfl dX0_addLetter_13 ?_
    refine g_istore h (q := 4) [(0, .ref (ad E 1 i 0)), (1, .int line), (2, .int addr), (3, .int prio), (4, .int (nI ((σ.1 i).2.1)))] dX0_addLetter_16 (by decide) rfl ?_
    refine g_aload_n h (q := 0) 0 dX0_addLetter_18 rfl ?_
    refine g_dup h dX0_addLetter_19 rfl ?_
    refine g_get h 1 i 0 (ok_F hi) rfl rfl uin_X0 4 (by decide) fl_X0_56 rfl dX0_addLetter_20 ?_
    refine g_iconst h (v := 1) dX0_addLetter_23 (by decide) ?_
    refine g_iadd h dX0_addLetter_24 ?_
    refine g_is (nI (((σ.1 i).2.1) + 1)) (nI_add ((σ.1 i).2.1) 1) ?_
    refine g_putFl h i hi (m := ((σ.1 i).2.1) + 1) fl_X0_56 dX0_addLetter_25 (fun σ2 hσ2 => ?_)
    refine g_aload_n h (q := 0) 0 dX0_addLetter_28 rfl ?_
    refine g_get h 1 i 0 (ok_F hi) rfl rfl uin_X0 5 (by decide) fl_X0_21 rfl dX0_addLetter_29 ?_
    refine g_iload h (q := 4) 4 dX0_addLetter_32 rfl ?_
    refine g_iconst h (v := 0) dX0_addLetter_34 (by decide) ?_
    refine g_astF h i 0 hi (by decide) ((σ.1 i).2.1) (show (σ.1 i).2.1 < 64 by omega) dX0_addLetter_35 (fun σ3 hσ3 => ?_)
    refine g_aload_n h (q := 0) 0 dX0_addLetter_36 rfl ?_
    refine g_get h 1 i 0 (ok_F hi) rfl rfl uin_X0 12 (by decide) fl_X0_43 rfl dX0_addLetter_37 ?_
    refine g_iconst h (v := 0) dX0_addLetter_40 (by decide) ?_
    refine g_dup2 h dX0_addLetter_41 rfl rfl ?_
    refine g_aldF h i 7 hi (by decide) (0) (show 0 < 5 by omega) dX0_addLetter_42 ?_
    refine g_iconst h (v := 1) dX0_addLetter_43 (by decide) ?_
    refine g_iadd h dX0_addLetter_44 ?_
    refine g_astF h i 7 hi (by decide) (0) (show 0 < 5 by omega) dX0_addLetter_45 (fun σ4 hσ4 => ?_)
    refine g_aload_n h (q := 0) 0 dX0_addLetter_46 rfl ?_
    refine g_get h 1 i 0 (ok_F hi) rfl rfl uin_X0 6 (by decide) fl_X0_25 rfl dX0_addLetter_47 ?_
    refine g_iload h (q := 4) 4 dX0_addLetter_50 rfl ?_
    refine g_iload_n h (q := 1) 1 dX0_addLetter_52 rfl ?_
    refine g_astF h i 1 hi (by decide) ((σ.1 i).2.1) (show (σ.1 i).2.1 < 64 by omega) dX0_addLetter_53 (fun σ5 hσ5 => ?_)
    refine g_aload_n h (q := 0) 0 dX0_addLetter_54 rfl ?_
    refine g_get h 1 i 0 (ok_F hi) rfl rfl uin_X0 7 (by decide) fl_X0_28 rfl dX0_addLetter_55 ?_
    refine g_iload h (q := 4) 4 dX0_addLetter_58 rfl ?_
    refine g_iload_n h (q := 2) 2 dX0_addLetter_60 rfl ?_
    refine g_astF h i 2 hi (by decide) ((σ.1 i).2.1) (show (σ.1 i).2.1 < 64 by omega) dX0_addLetter_61 (fun σ6 hσ6 => ?_)
    refine g_aload_n h (q := 0) 0 dX0_addLetter_62 rfl ?_
    refine g_get h 1 i 0 (ok_F hi) rfl rfl uin_X0 8 (by decide) fl_X0_31 rfl dX0_addLetter_63 ?_
    refine g_iload h (q := 4) 4 dX0_addLetter_66 rfl ?_
    refine g_iload_n h (q := 3) 3 dX0_addLetter_68 rfl ?_
    refine g_astF h i 3 hi (by decide) ((σ.1 i).2.1) (show (σ.1 i).2.1 < 64 by omega) dX0_addLetter_69 (fun σ7 hσ7 => ?_)
    refine g_aload_n h (q := 0) 0 dX0_addLetter_70 rfl ?_
    refine g_get h 1 i 0 (ok_F hi) rfl rfl uin_X0 9 (by decide) fl_X0_34 rfl dX0_addLetter_71 ?_
    refine g_iload h (q := 4) 4 dX0_addLetter_74 rfl ?_
    refine g_aload_n h (q := 0) 0 dX0_addLetter_76 rfl ?_
    refine g_get h 1 i 0 (ok_F hi) rfl rfl uin_X0 3 (by decide) fl_X0_53 rfl dX0_addLetter_77 ?_
    refine g_astF h i 4 hi (by decide) ((σ.1 i).2.1) (show (σ.1 i).2.1 < 64 by omega) dX0_addLetter_80 (fun σ8 hσ8 => ?_)
    refine g_aload_n h (q := 0) 0 dX0_addLetter_81 rfl ?_
    refine g_get h 1 i 0 (ok_F hi) rfl rfl uin_X0 10 (by decide) fl_X0_37 rfl dX0_addLetter_82 ?_
    refine g_iload h (q := 4) 4 dX0_addLetter_85 rfl ?_
    refine g_bipush h (v := (-9)) dX0_addLetter_87 (by decide) ?_
    refine g_astF h i 5 hi (by decide) ((σ.1 i).2.1) (show (σ.1 i).2.1 < 64 by omega) dX0_addLetter_89 (fun σ9 hσ9 => ?_)
    refine g_aload_n h (q := 0) 0 dX0_addLetter_90 rfl ?_
    refine g_get h 1 i 0 (ok_F hi) rfl rfl uin_X0 11 (by decide) fl_X0_40 rfl dX0_addLetter_91 ?_
    refine g_iload h (q := 4) 4 dX0_addLetter_94 rfl ?_
    refine g_iconst h (v := 0) dX0_addLetter_96 (by decide) ?_
    refine g_astF h i 6 hi (by decide) ((σ.1 i).2.1) (show (σ.1 i).2.1 < 64 by omega) dX0_addLetter_97 (fun σ10 hσ10 => ?_)
    refine g_iload h (q := 4) 4 dX0_addLetter_98 rfl ?_
    exact g_iret h hR dX0_addLetter_100 (show rI _ _ _ _ from ⟨rfl, by
    subst hσ10 hσ9 hσ8 hσ7 hσ6 hσ5 hσ4 hσ3 hσ2
    simp [sF, up_s, bx_uu, adL, va_up]⟩)
  · exfalso; omega
def qFind (F : FabT) (w : RowT) (addr k : Int32) : Nat → Nat → Nat → Int32
  | 0, _, _ => -9
  | m + 1, t, b => if F.2.2 2 (w.1 t) = addr then (if nI b = k then nI (w.1 t) else qFind F w addr k m (t + 1) (b + 1)) else qFind F w addr k m (t + 1) b
def ROK (b : Nat) (w : RowT) : Prop := w.2 ≤ 64 ∧ ∀ t, t < w.2 → w.1 t < b
set_option maxHeartbeats 4000000 in
theorem l_X0_queuedLetter {K : KX} {E : EnvT} (hE : EOK E) (h : Cx K E cX0_queuedLetter 6 RX0 0 0) {σ : ST} {post : Option Value → ST → Prop} (hR : Rx K E (some .int) post) (i : Nat) (hi : i < 14) (hQ : ROK 64 (σ.2.1 i)) (addr kk : Int32) : ∀ m t b, t + m = (σ.2.1 i).2 → b ≤ t → post (some (.int (qFind (σ.1 i) (σ.2.1 i) addr kk m t b))) σ → GG K E σ 5 [(0, .ref (ad E 1 i 0)), (1, .int addr), (2, .int kk), (3, .int (nI b)), (4, .int (nI t))] [] := by
  have hQ1 := hQ.1
  intro m
  induction m with
  | zero =>
    intro t b hk hbt hp
    refine g_iload h (q := 4) 4 dX0_queuedLetter_5 rfl ?_
    refine g_aload_n h (q := 0) 0 dX0_queuedLetter_7 rfl ?_
    refine g_get h 1 i 0 (ok_F hi) rfl rfl uin_X0 13 (by decide) fl_X0_49 rfl dX0_queuedLetter_8 ?_
    refine g_get h 3 i 0 (ok_R (by omega)) rfl rfl uin_X2 1 (by decide) fl_X0_59 rfl dX0_queuedLetter_11 ?_
    refine g_ncmp_ge h (a := t) (b := (σ.2.1 i).2) 60 dX0_queuedLetter_14 (by decide) (by omega) (by omega) (fun c1 => ?_) (fun c1 => ?_)
    · refine g_bipush h (v := (-9)) dX0_queuedLetter_60 (by decide) ?_
      exact g_iret h hR dX0_queuedLetter_62 (hp)
    · exfalso; omega
  | succ m ih =>
    intro t b hk hbt hp
    have hb1 := hQ.2 t (by omega)
    refine g_iload h (q := 4) 4 dX0_queuedLetter_5 rfl ?_
    refine g_aload_n h (q := 0) 0 dX0_queuedLetter_7 rfl ?_
    refine g_get h 1 i 0 (ok_F hi) rfl rfl uin_X0 13 (by decide) fl_X0_49 rfl dX0_queuedLetter_8 ?_
    refine g_get h 3 i 0 (ok_R (by omega)) rfl rfl uin_X2 1 (by decide) fl_X0_59 rfl dX0_queuedLetter_11 ?_
    refine g_ncmp_ge h (a := t) (b := (σ.2.1 i).2) 60 dX0_queuedLetter_14 (by decide) (by omega) (by omega) (fun c1 => ?_) (fun c1 => ?_)
    · exfalso; omega
    · refine g_aload_n h (q := 0) 0 dX0_queuedLetter_17 rfl ?_
      refine g_get h 1 i 0 (ok_F hi) rfl rfl uin_X0 13 (by decide) fl_X0_49 rfl dX0_queuedLetter_18 ?_
      refine g_get h 3 i 0 (ok_R (by omega)) rfl rfl uin_X2 0 (by decide) fl_X0_72 rfl dX0_queuedLetter_21 ?_
      refine g_iload h (q := 4) 4 dX0_queuedLetter_24 rfl ?_
      refine g_aldR h i (by omega) (t) (by omega) dX0_queuedLetter_26 ?_
      refine g_istore h (q := 5) [(0, .ref (ad E 1 i 0)), (1, .int addr), (2, .int kk), (3, .int (nI (b))), (4, .int (nI (t))), (5, .int (nI ((σ.2.1 i).1 (t))))] dX0_queuedLetter_27 (by decide) rfl ?_
      refine g_aload_n h (q := 0) 0 dX0_queuedLetter_29 rfl ?_
      refine g_get h 1 i 0 (ok_F hi) rfl rfl uin_X0 7 (by decide) fl_X0_28 rfl dX0_queuedLetter_30 ?_
      refine g_iload h (q := 5) 5 dX0_queuedLetter_33 rfl ?_
      refine g_aldF h i 2 hi (by decide) ((σ.2.1 i).1 (t)) (show (σ.2.1 i).1 (t) < 64 by omega) dX0_queuedLetter_35 ?_
      refine g_iload_n h (q := 1) 1 dX0_queuedLetter_36 rfl ?_
      refine g_icmp_eq h 43 dX0_queuedLetter_37 (by decide) (fun c2 => ?_) (fun c2 => ?_)
      · refine g_iload_n h (q := 3) 3 dX0_queuedLetter_43 rfl ?_
        refine g_iload_n h (q := 2) 2 dX0_queuedLetter_44 rfl ?_
        refine g_icmp_ne h 51 dX0_queuedLetter_45 (by decide) (fun c3 => ?_) (fun c3 => ?_)
        · refine g_iinc h (q := 3) (v := nI (b + 1)) 3 [(0, .ref (ad E 1 i 0)), (1, .int addr), (2, .int kk), (3, .int (nI (b + 1))), (4, .int (nI (t))), (5, .int (nI ((σ.2.1 i).1 (t))))] dX0_queuedLetter_51 rfl (nI_inc b 1) (by decide) rfl ?_
          refine g_iinc h (q := 4) (v := nI (t + 1)) 4 [(0, .ref (ad E 1 i 0)), (1, .int addr), (2, .int kk), (3, .int (nI (b + 1))), (4, .int (nI (t + 1))), (5, .int (nI ((σ.2.1 i).1 (t))))] dX0_queuedLetter_54 rfl (nI_inc t 1) (by decide) rfl ?_
          refine g_goto h 5 dX0_queuedLetter_57 (by decide) ?_
          refine g_sub [(0, .ref (ad E 1 i 0)), (1, .int addr), (2, .int kk), (3, .int (nI (b + 1))), (4, .int (nI (t + 1)))] [0, 1, 2, 3, 4] rfl ?_
          exact ih (t + 1) (b + 1) (by omega) (by omega) (by simpa [qFind, *] using hp)
        · refine g_iload h (q := 5) 5 dX0_queuedLetter_48 rfl ?_
          exact g_iret h hR dX0_queuedLetter_50 (by simpa [qFind, *] using hp)
      · refine g_goto h 54 dX0_queuedLetter_40 (by decide) ?_
        refine g_iinc h (q := 4) (v := nI (t + 1)) 4 [(0, .ref (ad E 1 i 0)), (1, .int addr), (2, .int kk), (3, .int (nI (b))), (4, .int (nI (t + 1))), (5, .int (nI ((σ.2.1 i).1 (t))))] dX0_queuedLetter_54 rfl (nI_inc t 1) (by decide) rfl ?_
        refine g_goto h 5 dX0_queuedLetter_57 (by decide) ?_
        refine g_sub [(0, .ref (ad E 1 i 0)), (1, .int addr), (2, .int kk), (3, .int (nI (b))), (4, .int (nI (t + 1)))] [0, 1, 2, 3, 4] rfl ?_
        exact ih (t + 1) (b) (by omega) (by omega) (by simpa [qFind, *] using hp)
set_option maxHeartbeats 4000000 in
theorem c_X0_queuedLetter (l : Launch) {E : EnvT} (hE : EOK E) {σ : ST} (i : Nat) (hi : i < 14) (hQ : ROK 64 (σ.2.1 i)) (addr kk : Int32) : Con l E yX0_queuedLetter cX0_queuedLetter 6 (some .int) 0 0 [.ref (ad E 1 i 0), .int addr, .int kk] σ (rI (qFind (σ.1 i) (σ.2.1 i) addr kk (σ.2.1 i).2 0 0) σ) := by
  refine con_intro hE (by decide) (Nat.le_of_ble_eq_true rfl) (fun K hkl h hR => ?_)
  subst hkl
  have h : Cx K E cX0_queuedLetter 6 RX0 0 0 := h
  show GG K E σ 0 [(0, .ref (ad E 1 i 0)), (1, .int addr), (2, .int kk)] []
  refine g_iconst h (v := 0) dX0_queuedLetter_0 (by decide) ?_
  refine g_istore_n h (q := 3) [(0, .ref (ad E 1 i 0)), (1, .int addr), (2, .int kk), (3, .int 0)] dX0_queuedLetter_1 (by decide) rfl ?_
  refine g_iconst h (v := 0) dX0_queuedLetter_2 (by decide) ?_
  refine g_istore h (q := 4) [(0, .ref (ad E 1 i 0)), (1, .int addr), (2, .int kk), (3, .int 0), (4, .int 0)] dX0_queuedLetter_3 (by decide) rfl ?_
  exact l_X0_queuedLetter hE h hR i hi hQ addr kk _ 0 0 (Nat.zero_add _) (Nat.le_refl _) ⟨rfl, rfl⟩
def rAt (w : RowT) (k : Int32) : Int32 := if 0 ≤ k ∧ k < nI w.2 then nI (w.1 k.toNatClampNeg) else -9
set_option maxHeartbeats 4000000 in
theorem c_X2_at (l : Launch) {E : EnvT} (hE : EOK E) {σ : ST} (r : Nat) (hr : r < 16) (hQ : (σ.2.1 r).2 ≤ 64) (k : Int32) : Con l E yX2_at cX2_at 2 (some .int) 0 0 [.ref (ad E 3 r 0), .int k] σ (rI (rAt (σ.2.1 r) k) σ) := by
  refine con_intro hE (by decide) (Nat.le_of_ble_eq_true rfl) (fun K hkl h hR => ?_)
  subst hkl
  have h : Cx K E cX2_at 2 RX2 0 0 := h
  show GG K E σ 0 [(0, .ref (ad E 3 r 0)), (1, .int k)] []
  refine g_iload_n h (q := 1) 1 dX2_at_0 rfl ?_
  refine g_if_lt h 21 dX2_at_1 (by decide) (fun c1 => ?_) (fun c1 => ?_)
  · refine g_bipush h (v := (-9)) dX2_at_21 (by decide) ?_
    exact g_iret h hR dX2_at_23 (show rI _ _ _ _ from ⟨by rw [rAt, if_neg (fun q => by first | exact absurd q.1 (Int32.not_le.mpr c1) | exact absurd q.2 (Int32.not_lt.mpr c2))], rfl⟩)
  · refine g_iload_n h (q := 1) 1 dX2_at_4 rfl ?_
    refine g_aload_n h (q := 0) 0 dX2_at_5 rfl ?_
    refine g_get h 3 r 0 (ok_R hr) rfl rfl uin_X2 1 (by decide) fl_X2_15 rfl dX2_at_6 ?_
    refine g_icmp_ge h 21 dX2_at_9 (by decide) (fun c2 => ?_) (fun c2 => ?_)
    · refine g_bipush h (v := (-9)) dX2_at_21 (by decide) ?_
      exact g_iret h hR dX2_at_23 (show rI _ _ _ _ from ⟨by rw [rAt, if_neg (fun q => by first | exact absurd q.1 (Int32.not_le.mpr c1) | exact absurd q.2 (Int32.not_lt.mpr c2))], rfl⟩)
    · obtain ⟨j, hj, hkj⟩ : ∃ j : Nat, j < (σ.2.1 r).2 ∧ k = nI j := vp_in_of (vp_in_iff.mpr ⟨by have := Int32.le_iff_toInt_le.mp (i_le c1); simpa using this, by have := Int32.lt_iff_toInt_lt.mp (i_lt c2); rwa [nI_toInt (by omega)] at this⟩) (by omega)
      subst hkj
      refine g_aload_n h (q := 0) 0 dX2_at_12 rfl ?_
      refine g_get h 3 r 0 (ok_R hr) rfl rfl uin_X2 0 (by decide) fl_X2_9 rfl dX2_at_13 ?_
      refine g_iload_n h (q := 1) 1 dX2_at_16 rfl ?_
      refine g_aldR h r hr (j) (by omega) dX2_at_17 ?_
      refine g_goto h 23 dX2_at_18 (by decide) ?_
      exact g_iret h hR dX2_at_23 (show rI _ _ _ _ from ⟨by rw [rAt, if_pos ⟨nI_pos' (by omega), nI_lt hj (by omega)⟩, nI_clamp (by omega)], rfl⟩)
def rAdd (w : RowT) (x : Nat) : RowT := if w.2 < 64 then (va_up w.1 w.2 x, w.2 + 1) else w
set_option maxHeartbeats 4000000 in
theorem c_X2_add (l : Launch) {E : EnvT} (hE : EOK E) {σ : ST} (r : Nat) (hr : r < 16) (hw : (σ.2.1 r).2 ≤ 64) (x : Nat) : Con l E yX2_add cX2_add 2 none 0 0 [.ref (ad E 3 r 0), .int (nI (x))] σ (rV (sR σ r (rAdd (σ.2.1 r) x))) := by
  refine con_intro hE (by decide) (Nat.le_of_ble_eq_true rfl) (fun K hkl h hR => ?_)
  subst hkl
  have h : Cx K E cX2_add 2 RX2 0 0 := h
  show GG K E σ 0 [(0, .ref (ad E 3 r 0)), (1, .int (nI (x)))] []
  refine g_aload_n h (q := 0) 0 dX2_add_0 rfl ?_
  refine g_get h 3 r 0 (ok_R hr) rfl rfl uin_X2 1 (by decide) fl_X2_15 rfl dX2_add_1 ?_
  refine g_bipush h (v := 64) dX2_add_4 (by decide) ?_
  refine g_ncmp_ge h (a := (σ.2.1 r).2) (b := 64) 29 dX2_add_6 (by decide) (by omega) (by omega) (fun c1 => ?_) (fun c1 => ?_)
  · exact g_vret h hR dX2_add_29 (show rV _ _ _ from ⟨rfl, by rw [rAdd, if_neg (by omega)]; simp [sR, up_id]⟩)
  · refine g_aload_n h (q := 0) 0 dX2_add_9 rfl ?_
    refine g_get h 3 r 0 (ok_R hr) rfl rfl uin_X2 0 (by decide) fl_X2_9 rfl dX2_add_10 ?_
    refine g_aload_n h (q := 0) 0 dX2_add_13 rfl ?_
    refine g_get h 3 r 0 (ok_R hr) rfl rfl uin_X2 1 (by decide) fl_X2_15 rfl dX2_add_14 ?_
    refine g_iload_n h (q := 1) 1 dX2_add_17 rfl ?_
    refine g_astR h r hr ((σ.2.1 r).2) (by omega) (m := x) dX2_add_18 (fun σ2 hσ2 => ?_)
    refine g_aload_n h (q := 0) 0 dX2_add_19 rfl ?_
    refine g_dup h dX2_add_20 rfl ?_
    refine g_get h 3 r 0 (ok_R hr) rfl rfl uin_X2 1 (by decide) fl_X2_15 rfl dX2_add_21 ?_
    refine g_is (nI ((σ.2.1 r).2)) (by subst hσ2; simp [sR, up_s]) ?_
    refine g_iconst h (v := 1) dX2_add_24 (by decide) ?_
    refine g_iadd h dX2_add_25 ?_
    refine g_is (nI (((σ.2.1 r).2) + 1)) (nI_add ((σ.2.1 r).2) 1) ?_
    refine g_putRs h r hr (m := ((σ.2.1 r).2) + 1) fl_X2_15 dX2_add_26 (fun σ3 hσ3 => ?_)
    exact g_vret h hR dX2_add_29 (show rV _ _ _ from ⟨rfl, by subst hσ3 hσ2; rw [rAdd, if_pos (by omega)]; simp [sR, up_s, bx_uu]⟩)
end
section
section RN2
variable {K : KX} {E : EnvT} {cc : ByteArray} {nL : Nat} {own : String} {f n : Nat} {σ : ST} {pc : Nat} {lv : List (Nat × Value)} {rest : List Value}
theorem nI_z {a : Nat} (ha : a < 2 ^ 31) : nI a = 0 ↔ a = 0 := by
  have := nI_eq ha (b := 0) (by decide)
  exact this
theorem g_nif_eq (h : Cx K E cc nL own f n) {a : Nat} {off : Int} (tgt : Nat) (hd : decode cc pc = .ok (.ifCond .eq off, 3)) (ht : (pc : Int) + off = (tgt : Int)) (ha : a < 2 ^ 31) (kt : a = 0 → GG K E σ tgt lv rest) (kf : 0 < a → GG K E σ (pc + 3) lv rest) : GG K E σ pc lv (.int (nI a) :: rest) :=
  g_if_eq h tgt hd ht (fun q => kt ((nI_z ha).mp q)) (fun q => kf (Nat.pos_of_ne_zero (fun e => q ((nI_z ha).mpr e))))
theorem g_nif_ne (h : Cx K E cc nL own f n) {a : Nat} {off : Int} (tgt : Nat) (hd : decode cc pc = .ok (.ifCond .ne off, 3)) (ht : (pc : Int) + off = (tgt : Int)) (ha : a < 2 ^ 31) (kt : 0 < a → GG K E σ tgt lv rest) (kf : a = 0 → GG K E σ (pc + 3) lv rest) : GG K E σ pc lv (.int (nI a) :: rest) :=
  g_if_ne h tgt hd ht (fun q => kt (Nat.pos_of_ne_zero (fun e => q ((nI_z ha).mpr e)))) (fun q => kf ((nI_z ha).mp q))
theorem g_nif_le (h : Cx K E cc nL own f n) {a : Nat} {off : Int} (tgt : Nat) (hd : decode cc pc = .ok (.ifCond .le off, 3)) (ht : (pc : Int) + off = (tgt : Int)) (ha : a < 2 ^ 31) (kt : a = 0 → GG K E σ tgt lv rest) (kf : 0 < a → GG K E σ (pc + 3) lv rest) : GG K E σ pc lv (.int (nI a) :: rest) :=
  g_if_le h tgt hd ht (fun q => kt (by rcases Nat.eq_zero_or_pos a with e | e; exact e; exact absurd q (nI_nle e ha))) (fun q => kf (Nat.pos_of_ne_zero (fun e => q (by rw [e, nI_0]; decide))))
theorem g_nif_gt (h : Cx K E cc nL own f n) {a : Nat} {off : Int} (tgt : Nat) (hd : decode cc pc = .ok (.ifCond .gt off, 3)) (ht : (pc : Int) + off = (tgt : Int)) (ha : a < 2 ^ 31) (kt : 0 < a → GG K E σ tgt lv rest) (kf : a = 0 → GG K E σ (pc + 3) lv rest) : GG K E σ pc lv (.int (nI a) :: rest) :=
  g_if_gt h tgt hd ht (fun q => kt (Nat.pos_of_ne_zero (fun e => by rw [e, nI_0] at q; exact absurd q (by decide)))) (fun q => kf (by rcases Nat.eq_zero_or_pos a with e | e; exact e; exact absurd (i_le q) (nI_nle e ha)))
theorem g_nif_lt (h : Cx K E cc nL own f n) {a : Nat} {off : Int} (tgt : Nat) (hd : decode cc pc = .ok (.ifCond .lt off, 3)) (ht : (pc : Int) + off = (tgt : Int)) (ha : a < 2 ^ 31) (kt : False → GG K E σ tgt lv rest) (kf : True → GG K E σ (pc + 3) lv rest) : GG K E σ pc lv (.int (nI a) :: rest) :=
  g_if_lt h tgt hd ht (fun q => kt (nI_pos ha q)) (fun _ => kf trivial)
theorem g_nif_ge (h : Cx K E cc nL own f n) {a : Nat} {off : Int} (tgt : Nat) (hd : decode cc pc = .ok (.ifCond .ge off, 3)) (ht : (pc : Int) + off = (tgt : Int)) (ha : a < 2 ^ 31) (kt : True → GG K E σ tgt lv rest) (kf : False → GG K E σ (pc + 3) lv rest) : GG K E σ pc lv (.int (nI a) :: rest) :=
  g_if_ge h tgt hd ht (fun _ => kt trivial) (fun q => kf (q (nI_pos' ha)))
theorem g_cpyF (h : Cx K E cc nL own f n) (i j w : Nat) (hi : i < 14) (hj : j < 14) (hw : w < 8) (hne : j ≠ i) (t : Nat) (ht : t ≤ flen w) {index : Nat} (hlk : Cond.methodLink own index arraycopyName ∈ gtb) (hfr : 1 ≤ f) (hlo : 40 ≤ n) (hnil : (rest.map fun v => v.category).sum ≤ 8) (hd : decode cc pc = .ok (.invokestatic index, 3)) (kk : ∀ σ', σ' = sF σ i ((σ.1 i).1, (σ.1 i).2.1, va_up (σ.1 i).2.2 w (fun m => if m < t then (σ.1 j).2.2 w m else (σ.1 i).2.2 w m)) → GG K E σ' (pc + 3) lv rest) : GG K E σ pc lv (.int (nI t) :: .int 0 :: .ref (ad E 2 i w) :: .int 0 :: .ref (ad E 2 j w) :: rest) :=
  g_copy h 2 i w 2 j w (ok_A hi hw) (ok_A hj hw) (fun q => hne q.2.1) rfl rfl t ht ht (flen_lt w) hlk hfr hlo hnil (by simp [enc, sF, up_s]) enc_F_a hd (kk _ rfl)
theorem g_cpyR (h : Cx K E cc nL own f n) (r q : Nat) (hr : r < 16) (hq : q < 16) (hne : q ≠ r) (t : Nat) (ht : t ≤ 64) {index : Nat} (hlk : Cond.methodLink own index arraycopyName ∈ gtb) (hfr : 1 ≤ f) (hlo : 40 ≤ n) (hnil : (rest.map fun v => v.category).sum ≤ 8) (hd : decode cc pc = .ok (.invokestatic index, 3)) (kk : ∀ σ', σ' = sR σ r ((fun m => if m < t then (σ.2.1 q).1 m else (σ.2.1 r).1 m), (σ.2.1 r).2) → GG K E σ' (pc + 3) lv rest) : GG K E σ pc lv (.int (nI t) :: .int 0 :: .ref (ad E 4 r 0) :: .int 0 :: .ref (ad E 4 q 0) :: rest) := by
  refine g_copy h 4 r 0 4 q 0 (ok_N hr) (ok_N hq) (fun z => hne z.2.1) rfl rfl t ht ht (by decide) hlk hfr hlo hnil (σ' := sR σ r ((fun m => if m < t then (σ.2.1 q).1 m else (σ.2.1 r).1 m), (σ.2.1 r).2)) ?_ enc_R_n hd (kk _ rfl)
  simp only [enc, sR, up_s]
  congr 3
  congr 1
  funext z
  by_cases e : z < t <;> simp [e]
end RN2
def cpR (A B : RowT) : RowT := ((fun m => if m < B.2 then B.1 m else A.1 m), B.2)
set_option maxHeartbeats 4000000 in
theorem c_X2_becomes (l : Launch) {E : EnvT} (hE : EOK E) {σ : ST} (r q : Nat) (hr : r < 16) (hq : q < 16) (hne : q ≠ r) (hQ : (σ.2.1 q).2 ≤ 64) : Con l E yX2_becomes cX2_becomes 2 none 1 40 [.ref (ad E 3 r 0), .ref (ad E 3 q 0)] σ (rV (sR σ r (cpR (σ.2.1 r) (σ.2.1 q)))) := by
  refine con_intro hE (by decide) (Nat.le_of_ble_eq_true rfl) (fun K hkl h hR => ?_)
  subst hkl
  have h : Cx K E cX2_becomes 2 RX2 1 40 := h
  show GG K E σ 0 [(0, .ref (ad E 3 r 0)), (1, .ref (ad E 3 q 0))] []
  refine g_aload_n h (q := 1) 1 dX2_becomes_0 rfl ?_
  refine g_get h 3 q 0 (ok_R hq) rfl rfl uin_X2 0 (by decide) fl_X2_9 rfl dX2_becomes_1 ?_
  refine g_iconst h (v := 0) dX2_becomes_4 (by decide) ?_
  refine g_aload_n h (q := 0) 0 dX2_becomes_5 rfl ?_
  refine g_get h 3 r 0 (ok_R hr) rfl rfl uin_X2 0 (by decide) fl_X2_9 rfl dX2_becomes_6 ?_
  refine g_iconst h (v := 0) dX2_becomes_9 (by decide) ?_
  refine g_aload_n h (q := 1) 1 dX2_becomes_10 rfl ?_
  refine g_get h 3 q 0 (ok_R hq) rfl rfl uin_X2 1 (by decide) fl_X2_15 rfl dX2_becomes_11 ?_
  refine g_cpyR h r q hr hq hne ((σ.2.1 q).2) (by omega) ml_X2_19 (by decide) (by decide) (by decide) dX2_becomes_14 (fun σ1 hσ1 => ?_)
  refine g_aload_n h (q := 0) 0 dX2_becomes_17 rfl ?_
  refine g_aload_n h (q := 1) 1 dX2_becomes_18 rfl ?_
  refine g_get h 3 q 0 (ok_R hq) rfl rfl uin_X2 1 (by decide) fl_X2_15 rfl dX2_becomes_19 ?_
  refine g_putRs h r hr (m := (σ1.2.1 q).2) fl_X2_15 dX2_becomes_22 (fun σ2 hσ2 => ?_)
  exact g_vret h hR dX2_becomes_25 (show rV _ _ _ from ⟨rfl, by subst hσ2 hσ1; simp [sR, up_s, bx_uu, up_n hne, cpR]⟩)
def cpF (A B : FabT) : FabT := ((fun w => if w < 4 then B.1 w else A.1 w), B.2.1, fun w m => if (w < 7 ∧ m < B.2.1) ∨ (w = 7 ∧ m < 5) then B.2.2 w m else A.2.2 w m)
theorem up_app {α : Type} {g : Nat → α} {i j : Nat} {v : α} : va_up g i v j = if j = i then v else g j := rfl
/-- the first w arrays are B's up to n, the others A's -/
def mixA (A B : Nat → Nat → Int32) (n w : Nat) : Nat → Nat → Int32 := fun v m => if v < w ∧ m < n then B v m else A v m
theorem mix_0 (A B : Nat → Nat → Int32) (n : Nat) : A = mixA A B n 0 := by funext v m; simp [mixA]
theorem mix_s (A B : Nat → Nat → Int32) (n w : Nat) : va_up (mixA A B n w) w (fun m => if m < n then B w m else mixA A B n w w m) = mixA A B n (w + 1) := by
  funext v m
  by_cases h : v = w
  · subst h; simp [va_up, mixA]
  · have e : (v < w + 1) = (v < w) := by apply propext; omega
    simp [va_up, mixA, h, e]
theorem sF_sF {σ : ST} {i : Nat} {A B : FabT} : sF (sF σ i A) i B = sF σ i B := by simp [sF, bx_uu]
theorem sF_at {σ : ST} {i : Nat} {A : FabT} : (sF σ i A).1 i = A := by simp [sF, up_s]
theorem sF_ne {σ : ST} {i j : Nat} {A : FabT} (h : j ≠ i) : (sF σ i A).1 j = σ.1 j := by simp [sF, up_n h]
theorem sR_sR {σ : ST} {i : Nat} {A B : RowT} : sR (sR σ i A) i B = sR σ i B := by simp [sR, bx_uu]
theorem sR_at {σ : ST} {i : Nat} {A : RowT} : (sR σ i A).2.1 i = A := by simp [sR, up_s]
theorem sR_ne {σ : ST} {i j : Nat} {A : RowT} (h : j ≠ i) : (sR σ i A).2.1 j = σ.2.1 j := by simp [sR, up_n h]
set_option maxHeartbeats 4000000 in
theorem c_X0_becomes (l : Launch) {E : EnvT} (hE : EOK E) {σ : ST} (i j : Nat) (hi : i < 14) (hj : j < 14) (hne : j ≠ i) (hF : (σ.1 j).2.1 ≤ 64) (hQ : (σ.2.1 j).2 ≤ 64) : Con l E yX0_becomes cX0_becomes 2 none 2 61 [.ref (ad E 1 i 0), .ref (ad E 1 j 0)] σ (rV (sR (sF σ i (cpF (σ.1 i) (σ.1 j))) i (cpR (σ.2.1 i) (σ.2.1 j)))) := by
  refine con_intro hE (by decide) (Nat.le_of_ble_eq_true rfl) (fun K hkl h hR => ?_)
  subst hkl
  have h : Cx K E cX0_becomes 2 RX0 2 61 := h
  show GG K E σ 0 [(0, .ref (ad E 1 i 0)), (1, .ref (ad E 1 j 0))] []
  refine g_aload_n h (q := 0) 0 dX0_becomes_0 rfl ?_
  refine g_aload_n h (q := 1) 1 dX0_becomes_1 rfl ?_
  refine g_get h 1 j 0 (ok_F hj) rfl rfl uin_X0 0 (by decide) fl_X0_9 rfl dX0_becomes_2 ?_
  refine g_putFc h i hi 0 (by decide) fl_X0_9 dX0_becomes_5 (fun σ1 hσ1 => ?_)
  refine g_aload_n h (q := 0) 0 dX0_becomes_8 rfl ?_
  refine g_aload_n h (q := 1) 1 dX0_becomes_9 rfl ?_
  refine g_get h 1 j 0 (ok_F hj) rfl rfl uin_X0 1 (by decide) fl_X0_15 rfl dX0_becomes_10 ?_
  refine g_putFc h i hi 1 (by decide) fl_X0_15 dX0_becomes_13 (fun σ2 hσ2 => ?_)
  simp only [hσ1, sF_sF, sF_at, sF_ne hne] at hσ2
  refine g_aload_n h (q := 0) 0 dX0_becomes_16 rfl ?_
  refine g_aload_n h (q := 1) 1 dX0_becomes_17 rfl ?_
  refine g_get h 1 j 0 (ok_F hj) rfl rfl uin_X0 2 (by decide) fl_X0_18 rfl dX0_becomes_18 ?_
  refine g_putFc h i hi 2 (by decide) fl_X0_18 dX0_becomes_21 (fun σ3 hσ3 => ?_)
  simp only [hσ2, sF_sF, sF_at, sF_ne hne] at hσ3
  refine g_aload_n h (q := 0) 0 dX0_becomes_24 rfl ?_
  refine g_aload_n h (q := 1) 1 dX0_becomes_25 rfl ?_
  refine g_get h 1 j 0 (ok_F hj) rfl rfl uin_X0 3 (by decide) fl_X0_53 rfl dX0_becomes_26 ?_
  refine g_putFc h i hi 3 (by decide) fl_X0_53 dX0_becomes_29 (fun σ4 hσ4 => ?_)
  simp only [hσ3, sF_sF, sF_at, sF_ne hne] at hσ4
  refine g_aload_n h (q := 0) 0 dX0_becomes_32 rfl ?_
  refine g_aload_n h (q := 1) 1 dX0_becomes_33 rfl ?_
  refine g_get h 1 j 0 (ok_F hj) rfl rfl uin_X0 4 (by decide) fl_X0_56 rfl dX0_becomes_34 ?_
  refine g_putFl h i hi (m := (σ4.1 j).2.1) fl_X0_56 dX0_becomes_37 (fun σ5 hσ5 => ?_)
  simp only [hσ4, sF_sF, sF_at, sF_ne hne] at hσ5
  obtain ⟨C, hC⟩ : ∃ C, C = va_up (va_up (va_up (va_up (σ.1 i).1 0 ((σ.1 j).1 0)) 1 ((σ.1 j).1 1)) 2 ((σ.1 j).1 2)) 3 ((σ.1 j).1 3) := ⟨_, rfl⟩
  have hσ5 : σ5 = sF σ i (C, (σ.1 j).2.1, mixA (σ.1 i).2.2 (σ.1 j).2.2 (σ.1 j).2.1 0) := by rw [hσ5, hC, ← mix_0]
  refine g_aload_n h (q := 1) 1 dX0_becomes_40 rfl ?_
  refine g_get h 1 j 0 (ok_F hj) rfl rfl uin_X0 5 (by decide) fl_X0_21 rfl dX0_becomes_41 ?_
  refine g_iconst h (v := 0) dX0_becomes_44 (by decide) ?_
  refine g_aload_n h (q := 0) 0 dX0_becomes_45 rfl ?_
  refine g_get h 1 i 0 (ok_F hi) rfl rfl uin_X0 5 (by decide) fl_X0_21 rfl dX0_becomes_46 ?_
  refine g_iconst h (v := 0) dX0_becomes_49 (by decide) ?_
  refine g_aload_n h (q := 0) 0 dX0_becomes_50 rfl ?_
  refine g_get h 1 i 0 (ok_F hi) rfl rfl uin_X0 4 (by decide) fl_X0_56 rfl dX0_becomes_51 ?_
  refine g_is (nI ((σ.1 j).2.1)) (by rw [hσ5, sF_at]) ?_
  refine g_cpyF h i j 0 hi hj (by decide) hne ((σ.1 j).2.1) (show (σ.1 j).2.1 ≤ 64 by omega) ml_X0_62 (by decide) (by decide) (by decide) dX0_becomes_54 (fun σ6 hσ6 => ?_)
  have hσ6 : σ6 = sF σ i (C, (σ.1 j).2.1, mixA (σ.1 i).2.2 (σ.1 j).2.2 (σ.1 j).2.1 1) := by
    rw [hσ6, hσ5, sF_sF, sF_at, sF_ne hne]
    exact congrArg (fun a => sF σ i (C, (σ.1 j).2.1, a)) (mix_s _ _ _ 0)
  refine g_aload_n h (q := 1) 1 dX0_becomes_57 rfl ?_
  refine g_get h 1 j 0 (ok_F hj) rfl rfl uin_X0 6 (by decide) fl_X0_25 rfl dX0_becomes_58 ?_
  refine g_iconst h (v := 0) dX0_becomes_61 (by decide) ?_
  refine g_aload_n h (q := 0) 0 dX0_becomes_62 rfl ?_
  refine g_get h 1 i 0 (ok_F hi) rfl rfl uin_X0 6 (by decide) fl_X0_25 rfl dX0_becomes_63 ?_
  refine g_iconst h (v := 0) dX0_becomes_66 (by decide) ?_
  refine g_aload_n h (q := 0) 0 dX0_becomes_67 rfl ?_
  refine g_get h 1 i 0 (ok_F hi) rfl rfl uin_X0 4 (by decide) fl_X0_56 rfl dX0_becomes_68 ?_
  refine g_is (nI ((σ.1 j).2.1)) (by rw [hσ6, sF_at]) ?_
  refine g_cpyF h i j 1 hi hj (by decide) hne ((σ.1 j).2.1) (show (σ.1 j).2.1 ≤ 64 by omega) ml_X0_62 (by decide) (by decide) (by decide) dX0_becomes_71 (fun σ7 hσ7 => ?_)
  have hσ7 : σ7 = sF σ i (C, (σ.1 j).2.1, mixA (σ.1 i).2.2 (σ.1 j).2.2 (σ.1 j).2.1 2) := by
    rw [hσ7, hσ6, sF_sF, sF_at, sF_ne hne]
    exact congrArg (fun a => sF σ i (C, (σ.1 j).2.1, a)) (mix_s _ _ _ 1)
  refine g_aload_n h (q := 1) 1 dX0_becomes_74 rfl ?_
  refine g_get h 1 j 0 (ok_F hj) rfl rfl uin_X0 7 (by decide) fl_X0_28 rfl dX0_becomes_75 ?_
  refine g_iconst h (v := 0) dX0_becomes_78 (by decide) ?_
  refine g_aload_n h (q := 0) 0 dX0_becomes_79 rfl ?_
  refine g_get h 1 i 0 (ok_F hi) rfl rfl uin_X0 7 (by decide) fl_X0_28 rfl dX0_becomes_80 ?_
  refine g_iconst h (v := 0) dX0_becomes_83 (by decide) ?_
  refine g_aload_n h (q := 0) 0 dX0_becomes_84 rfl ?_
  refine g_get h 1 i 0 (ok_F hi) rfl rfl uin_X0 4 (by decide) fl_X0_56 rfl dX0_becomes_85 ?_
  refine g_is (nI ((σ.1 j).2.1)) (by rw [hσ7, sF_at]) ?_
  refine g_cpyF h i j 2 hi hj (by decide) hne ((σ.1 j).2.1) (show (σ.1 j).2.1 ≤ 64 by omega) ml_X0_62 (by decide) (by decide) (by decide) dX0_becomes_88 (fun σ8 hσ8 => ?_)
  have hσ8 : σ8 = sF σ i (C, (σ.1 j).2.1, mixA (σ.1 i).2.2 (σ.1 j).2.2 (σ.1 j).2.1 3) := by
    rw [hσ8, hσ7, sF_sF, sF_at, sF_ne hne]
    exact congrArg (fun a => sF σ i (C, (σ.1 j).2.1, a)) (mix_s _ _ _ 2)
  refine g_aload_n h (q := 1) 1 dX0_becomes_91 rfl ?_
  refine g_get h 1 j 0 (ok_F hj) rfl rfl uin_X0 8 (by decide) fl_X0_31 rfl dX0_becomes_92 ?_
  refine g_iconst h (v := 0) dX0_becomes_95 (by decide) ?_
  refine g_aload_n h (q := 0) 0 dX0_becomes_96 rfl ?_
  refine g_get h 1 i 0 (ok_F hi) rfl rfl uin_X0 8 (by decide) fl_X0_31 rfl dX0_becomes_97 ?_
  refine g_iconst h (v := 0) dX0_becomes_100 (by decide) ?_
  refine g_aload_n h (q := 0) 0 dX0_becomes_101 rfl ?_
  refine g_get h 1 i 0 (ok_F hi) rfl rfl uin_X0 4 (by decide) fl_X0_56 rfl dX0_becomes_102 ?_
  refine g_is (nI ((σ.1 j).2.1)) (by rw [hσ8, sF_at]) ?_
  refine g_cpyF h i j 3 hi hj (by decide) hne ((σ.1 j).2.1) (show (σ.1 j).2.1 ≤ 64 by omega) ml_X0_62 (by decide) (by decide) (by decide) dX0_becomes_105 (fun σ9 hσ9 => ?_)
  have hσ9 : σ9 = sF σ i (C, (σ.1 j).2.1, mixA (σ.1 i).2.2 (σ.1 j).2.2 (σ.1 j).2.1 4) := by
    rw [hσ9, hσ8, sF_sF, sF_at, sF_ne hne]
    exact congrArg (fun a => sF σ i (C, (σ.1 j).2.1, a)) (mix_s _ _ _ 3)
  refine g_aload_n h (q := 1) 1 dX0_becomes_108 rfl ?_
  refine g_get h 1 j 0 (ok_F hj) rfl rfl uin_X0 9 (by decide) fl_X0_34 rfl dX0_becomes_109 ?_
  refine g_iconst h (v := 0) dX0_becomes_112 (by decide) ?_
  refine g_aload_n h (q := 0) 0 dX0_becomes_113 rfl ?_
  refine g_get h 1 i 0 (ok_F hi) rfl rfl uin_X0 9 (by decide) fl_X0_34 rfl dX0_becomes_114 ?_
  refine g_iconst h (v := 0) dX0_becomes_117 (by decide) ?_
  refine g_aload_n h (q := 0) 0 dX0_becomes_118 rfl ?_
  refine g_get h 1 i 0 (ok_F hi) rfl rfl uin_X0 4 (by decide) fl_X0_56 rfl dX0_becomes_119 ?_
  refine g_is (nI ((σ.1 j).2.1)) (by rw [hσ9, sF_at]) ?_
  refine g_cpyF h i j 4 hi hj (by decide) hne ((σ.1 j).2.1) (show (σ.1 j).2.1 ≤ 64 by omega) ml_X0_62 (by decide) (by decide) (by decide) dX0_becomes_122 (fun σ10 hσ10 => ?_)
  have hσ10 : σ10 = sF σ i (C, (σ.1 j).2.1, mixA (σ.1 i).2.2 (σ.1 j).2.2 (σ.1 j).2.1 5) := by
    rw [hσ10, hσ9, sF_sF, sF_at, sF_ne hne]
    exact congrArg (fun a => sF σ i (C, (σ.1 j).2.1, a)) (mix_s _ _ _ 4)
  refine g_aload_n h (q := 1) 1 dX0_becomes_125 rfl ?_
  refine g_get h 1 j 0 (ok_F hj) rfl rfl uin_X0 10 (by decide) fl_X0_37 rfl dX0_becomes_126 ?_
  refine g_iconst h (v := 0) dX0_becomes_129 (by decide) ?_
  refine g_aload_n h (q := 0) 0 dX0_becomes_130 rfl ?_
  refine g_get h 1 i 0 (ok_F hi) rfl rfl uin_X0 10 (by decide) fl_X0_37 rfl dX0_becomes_131 ?_
  refine g_iconst h (v := 0) dX0_becomes_134 (by decide) ?_
  refine g_aload_n h (q := 0) 0 dX0_becomes_135 rfl ?_
  refine g_get h 1 i 0 (ok_F hi) rfl rfl uin_X0 4 (by decide) fl_X0_56 rfl dX0_becomes_136 ?_
  refine g_is (nI ((σ.1 j).2.1)) (by rw [hσ10, sF_at]) ?_
  refine g_cpyF h i j 5 hi hj (by decide) hne ((σ.1 j).2.1) (show (σ.1 j).2.1 ≤ 64 by omega) ml_X0_62 (by decide) (by decide) (by decide) dX0_becomes_139 (fun σ11 hσ11 => ?_)
  have hσ11 : σ11 = sF σ i (C, (σ.1 j).2.1, mixA (σ.1 i).2.2 (σ.1 j).2.2 (σ.1 j).2.1 6) := by
    rw [hσ11, hσ10, sF_sF, sF_at, sF_ne hne]
    exact congrArg (fun a => sF σ i (C, (σ.1 j).2.1, a)) (mix_s _ _ _ 5)
  refine g_aload_n h (q := 1) 1 dX0_becomes_142 rfl ?_
  refine g_get h 1 j 0 (ok_F hj) rfl rfl uin_X0 11 (by decide) fl_X0_40 rfl dX0_becomes_143 ?_
  refine g_iconst h (v := 0) dX0_becomes_146 (by decide) ?_
  refine g_aload_n h (q := 0) 0 dX0_becomes_147 rfl ?_
  refine g_get h 1 i 0 (ok_F hi) rfl rfl uin_X0 11 (by decide) fl_X0_40 rfl dX0_becomes_148 ?_
  refine g_iconst h (v := 0) dX0_becomes_151 (by decide) ?_
  refine g_aload_n h (q := 0) 0 dX0_becomes_152 rfl ?_
  refine g_get h 1 i 0 (ok_F hi) rfl rfl uin_X0 4 (by decide) fl_X0_56 rfl dX0_becomes_153 ?_
  refine g_is (nI ((σ.1 j).2.1)) (by rw [hσ11, sF_at]) ?_
  refine g_cpyF h i j 6 hi hj (by decide) hne ((σ.1 j).2.1) (show (σ.1 j).2.1 ≤ 64 by omega) ml_X0_62 (by decide) (by decide) (by decide) dX0_becomes_156 (fun σ12 hσ12 => ?_)
  have hσ12 : σ12 = sF σ i (C, (σ.1 j).2.1, mixA (σ.1 i).2.2 (σ.1 j).2.2 (σ.1 j).2.1 7) := by
    rw [hσ12, hσ11, sF_sF, sF_at, sF_ne hne]
    exact congrArg (fun a => sF σ i (C, (σ.1 j).2.1, a)) (mix_s _ _ _ 6)
  refine g_aload_n h (q := 1) 1 dX0_becomes_159 rfl ?_
  refine g_get h 1 j 0 (ok_F hj) rfl rfl uin_X0 12 (by decide) fl_X0_43 rfl dX0_becomes_160 ?_
  refine g_iconst h (v := 0) dX0_becomes_163 (by decide) ?_
  refine g_aload_n h (q := 0) 0 dX0_becomes_164 rfl ?_
  refine g_get h 1 i 0 (ok_F hi) rfl rfl uin_X0 12 (by decide) fl_X0_43 rfl dX0_becomes_165 ?_
  refine g_iconst h (v := 0) dX0_becomes_168 (by decide) ?_
  refine g_iconst h (v := 5) dX0_becomes_169 (by decide) ?_
  refine g_cpyF h i j 7 hi hj (by decide) hne (5) (show 5 ≤ 5 by omega) ml_X0_62 (by decide) (by decide) (by decide) dX0_becomes_170 (fun σ13 hσ13 => ?_)
  rw [hσ12, sF_sF, sF_at, sF_ne hne] at hσ13
  refine g_aload_n h (q := 0) 0 dX0_becomes_173 rfl ?_
  refine g_get h 1 i 0 (ok_F hi) rfl rfl uin_X0 13 (by decide) fl_X0_49 rfl dX0_becomes_174 ?_
  refine g_aload_n h (q := 1) 1 dX0_becomes_177 rfl ?_
  refine g_get h 1 j 0 (ok_F hj) rfl rfl uin_X0 13 (by decide) fl_X0_49 rfl dX0_becomes_178 ?_
  refine g_callV h mv_X2_becomes 3 i 0 (ok_R (by omega)) rfl rfl (As := [.ref (ad E 3 j 0)]) (c_X2_becomes (kl K) hE (σ := σ13) i j (by omega) (by omega) hne (by rw [hσ13]; exact hQ)) ml_X0_68 rfl (by decide) (by decide) rfl (Nat.le_of_ble_eq_true rfl) dX0_becomes_181 (fun v σ9 h9 => ?_)
  rw [h9.1, h9.2]; clear h9
  exact g_vret h hR dX0_becomes_184 (show rV _ _ _ from ⟨rfl, by
    rw [hσ13]
    refine congrArg (fun F => sR (sF σ i F) i (cpR (σ.2.1 i) (σ.2.1 j))) (Prod.ext ?_ (Prod.ext rfl ?_))
    · funext w
      rw [hC]
      match w with
      | 0 => rfl
      | 1 => rfl
      | 2 => rfl
      | 3 => rfl
      | w + 4 => simp [va_up, cpF]; omega
    · funext w m
      by_cases e : w = 7
      · subst e; simp [va_up, cpF, mixA]
      · simp [va_up, cpF, mixA, e]⟩)
end
section
def bgA (A : Nat → Nat → Int32) (n : Nat) : Nat → Nat → Int32 := va_up A 7 (fun m => if m < n then 0 else A 7 m)
theorem bgA_s (A : Nat → Nat → Int32) (n : Nat) : va_up (bgA A n) 7 (upd (bgA A n 7) n 0) = bgA A (n + 1) := by
  funext v m
  by_cases h : v = 7
  · subst h
    by_cases e : m = n
    · subst e; simp [bgA, va_up, upd]
    · have e2 : (m < n + 1) = (m < n) := by apply propext; omega
      simp [bgA, va_up, upd, e, e2]
  · simp [bgA, va_up, h]
theorem bgA_0 (A : Nat → Nat → Int32) : A = bgA A 0 := by
  funext v m
  by_cases h : v = 7
  · subst h; simp [bgA, va_up]
  · simp [bgA, va_up, h]
def bgC (c : Nat → Int32) : Nat → Int32 := va_up (va_up (va_up (va_up c 0 1) 1 8) 2 8) 3 0
def bgF (F : FabT) : FabT := (bgC F.1, 0, bgA F.2.2 5)
set_option maxHeartbeats 4000000 in
theorem l_X0_begin {K : KX} {E : EnvT} (hE : EOK E) (h : Cx K E cX0_begin 2 RX0 0 0) {σ : ST} {post : Option Value → ST → Prop} (hR : Rx K E none post) (i : Nat) (hi : i < 14) : ∀ m k τ, k + m = 5 → τ = sR (sF σ i (bgC (σ.1 i).1, 0, bgA (σ.1 i).2.2 k)) i ((σ.2.1 i).1, 0) → post none (sR (sF σ i (bgF (σ.1 i))) i ((σ.2.1 i).1, 0)) → GG K E τ 37 [(0, .ref (ad E 1 i 0)), (1, .int (nI k))] [] := by
  intro m
  induction m with
  | zero =>
    intro k τ hk ht hp
    have hk5 : k = 5 := by omega
    subst hk5
    refine g_iload_n h (q := 1) 1 dX0_begin_37 rfl ?_
    refine g_iconst h (v := 5) dX0_begin_38 (by decide) ?_
    refine g_ncmp_ge h (a := 5) (b := 5) 55 dX0_begin_39 (by decide) (by omega) (by omega) (fun c1 => ?_) (fun c1 => ?_)
    · exact g_vret h hR dX0_begin_55 (by rw [ht]; exact hp)
    · exfalso; omega
  | succ m ih =>
    intro k τ hk ht hp
    refine g_iload_n h (q := 1) 1 dX0_begin_37 rfl ?_
    refine g_iconst h (v := 5) dX0_begin_38 (by decide) ?_
    refine g_ncmp_ge h (a := k) (b := 5) 55 dX0_begin_39 (by decide) (by omega) (by omega) (fun c1 => ?_) (fun c1 => ?_)
    · exfalso; omega
    · refine g_aload_n h (q := 0) 0 dX0_begin_42 rfl ?_
      refine g_get h 1 i 0 (ok_F hi) rfl rfl uin_X0 12 (by decide) fl_X0_43 rfl dX0_begin_43 ?_
      refine g_iload_n h (q := 1) 1 dX0_begin_46 rfl ?_
      refine g_iconst h (v := 0) dX0_begin_47 (by decide) ?_
      refine g_astF h i 7 hi (by decide) (k) (show k < 5 by omega) dX0_begin_48 (fun σ2 hσ2 => ?_)
      refine g_iinc h (q := 1) (v := nI (k + 1)) 1 [(0, .ref (ad E 1 i 0)), (1, .int (nI (k + 1)))] dX0_begin_49 rfl (nI_inc k 1) (by decide) rfl ?_
      refine g_goto h 37 dX0_begin_52 (by decide) ?_
      exact ih (k + 1) σ2 (by omega) (by rw [hσ2, ht]; simp only [sF, sR, up_s, bx_uu]; rw [← bgA_s]) hp
set_option maxHeartbeats 4000000 in
theorem c_X0_begin (l : Launch) {E : EnvT} (hE : EOK E) {σ : ST} (i : Nat) (hi : i < 14) : Con l E yX0_begin cX0_begin 2 none 0 0 [.ref (ad E 1 i 0)] σ (rV (sR (sF σ i (bgF (σ.1 i))) i ((σ.2.1 i).1, 0))) := by
  refine con_intro hE (by decide) (Nat.le_of_ble_eq_true rfl) (fun K hkl h hR => ?_)
  subst hkl
  have h : Cx K E cX0_begin 2 RX0 0 0 := h
  show GG K E σ 0 [(0, .ref (ad E 1 i 0))] []
  refine g_aload_n h (q := 0) 0 dX0_begin_0 rfl ?_
  refine g_iconst h (v := 1) dX0_begin_1 (by decide) ?_
  refine g_putFc h i hi 0 (by decide) fl_X0_9 dX0_begin_2 (fun σ1 hσ1 => ?_)
  refine g_aload_n h (q := 0) 0 dX0_begin_5 rfl ?_
  refine g_bipush h (v := 8) dX0_begin_6 (by decide) ?_
  refine g_putFc h i hi 1 (by decide) fl_X0_15 dX0_begin_8 (fun σ2 hσ2 => ?_)
  refine g_aload_n h (q := 0) 0 dX0_begin_11 rfl ?_
  refine g_bipush h (v := 8) dX0_begin_12 (by decide) ?_
  refine g_putFc h i hi 2 (by decide) fl_X0_18 dX0_begin_14 (fun σ3 hσ3 => ?_)
  refine g_aload_n h (q := 0) 0 dX0_begin_17 rfl ?_
  refine g_iconst h (v := 0) dX0_begin_18 (by decide) ?_
  refine g_putFc h i hi 3 (by decide) fl_X0_53 dX0_begin_19 (fun σ4 hσ4 => ?_)
  refine g_aload_n h (q := 0) 0 dX0_begin_22 rfl ?_
  refine g_iconst h (v := 0) dX0_begin_23 (by decide) ?_
  refine g_putFl h i hi (m := 0) fl_X0_56 dX0_begin_24 (fun σ5 hσ5 => ?_)
  refine g_aload_n h (q := 0) 0 dX0_begin_27 rfl ?_
  refine g_get h 1 i 0 (ok_F hi) rfl rfl uin_X0 13 (by decide) fl_X0_49 rfl dX0_begin_28 ?_
  refine g_iconst h (v := 0) dX0_begin_31 (by decide) ?_
  refine g_putRs h i (by omega) (m := 0) fl_X0_59 dX0_begin_32 (fun σ6 hσ6 => ?_)
  refine g_iconst h (v := 0) dX0_begin_35 (by decide) ?_
  refine g_istore_n h (q := 1) [(0, .ref (ad E 1 i 0)), (1, .int 0)] dX0_begin_36 (by decide) rfl ?_
  exact l_X0_begin hE h hR i hi 5 0 σ6 rfl (by subst hσ6 hσ5 hσ4 hσ3 hσ2 hσ1; rw [← bgA_0]; simp only [sF, sR, up_s, bx_uu, bgC]) ⟨rfl, rfl⟩
def insL (lt : Nat → Bool) : (Nat → Nat) → Nat → (Nat → Nat) × Nat
  | g, 0 => (g, 0)
  | g, k + 1 => if lt (g k) then insL lt (va_up g (k + 1) (g k)) k else (g, k + 1)
def rIns (lt : Nat → Bool) (w : RowT) (x : Nat) : RowT := if w.2 < 64 then (va_up (insL lt w.1 w.2).1 (insL lt w.1 w.2).2 x, w.2 + 1) else w
set_option maxHeartbeats 4000000 in
theorem l_X2_addInOrder {K : KX} {E : EnvT} (hE : EOK E) (h : Cx K E cX2_addInOrder 5 RX2 1 23) {σ : ST} {post : Option Value → ST → Prop} (hR : Rx K E none post) (r i : Nat) (hr : r < 16) (hi : i < 14) (x : Nat) (hx : x < 64) (by1 : Bool) (sz : Nat) (hsz : sz < 64) : ∀ k g τ, τ = sR σ r (g, sz) → k ≤ sz → (∀ t, t < k → g t < 64) → post none (sR σ r (va_up (insL (fun y => gB (σ.1 i) x y by1) g k).1 (insL (fun y => gB (σ.1 i) x y by1) g k).2 x, sz + 1)) → GG K E τ 16 [(0, .ref (ad E 3 r 0)), (1, .int (nI x)), (2, .ref (ad E 1 i 0)), (3, .int (bI by1)), (4, .int (nI k))] [] := by
  intro k
  induction k with
  | zero =>
    intro g τ ht hk hg hp
    refine g_iload h (q := 4) 4 dX2_addInOrder_16 rfl ?_
    refine g_nif_le h (a := 0) 61 dX2_addInOrder_18 (by decide) (by omega) (fun c1 => ?_) (fun c1 => ?_)
    · refine g_aload_n h (q := 0) 0 dX2_addInOrder_61 rfl ?_
      refine g_get h 3 r 0 (ok_R hr) rfl rfl uin_X2 0 (by decide) fl_X2_9 rfl dX2_addInOrder_62 ?_
      refine g_iload h (q := 4) 4 dX2_addInOrder_65 rfl ?_
      refine g_iload_n h (q := 1) 1 dX2_addInOrder_67 rfl ?_
      refine g_astR h r hr (0) (by omega) (m := x) dX2_addInOrder_68 (fun σ2 hσ2 => ?_)
      refine g_aload_n h (q := 0) 0 dX2_addInOrder_69 rfl ?_
      refine g_dup h dX2_addInOrder_70 rfl ?_
      refine g_get h 3 r 0 (ok_R hr) rfl rfl uin_X2 1 (by decide) fl_X2_15 rfl dX2_addInOrder_71 ?_
      refine g_is (nI (sz)) (by simp [hσ2, ht, sR, up_s]) ?_
      refine g_iconst h (v := 1) dX2_addInOrder_74 (by decide) ?_
      refine g_iadd h dX2_addInOrder_75 ?_
      refine g_is (nI (sz + 1)) (nI_add sz 1) ?_
      refine g_putRs h r hr (m := sz + 1) fl_X2_15 dX2_addInOrder_76 (fun σ3 hσ3 => ?_)
      exact g_vret h hR dX2_addInOrder_79 (by simpa [hσ3, hσ2, ht, sR, up_s, bx_uu, insL] using hp)
    · exfalso; omega
  | succ k ih =>
    intro g τ ht hk hg hp
    refine g_iload h (q := 4) 4 dX2_addInOrder_16 rfl ?_
    refine g_nif_le h (a := k + 1) 61 dX2_addInOrder_18 (by decide) (by omega) (fun c1 => ?_) (fun c1 => ?_)
    · exfalso; omega
    · refine g_aload_n h (q := 2) 2 dX2_addInOrder_21 rfl ?_
      refine g_iload_n h (q := 1) 1 dX2_addInOrder_22 rfl ?_
      refine g_aload_n h (q := 0) 0 dX2_addInOrder_23 rfl ?_
      refine g_get h 3 r 0 (ok_R hr) rfl rfl uin_X2 0 (by decide) fl_X2_9 rfl dX2_addInOrder_24 ?_
      refine g_iload h (q := 4) 4 dX2_addInOrder_27 rfl ?_
      refine g_iconst h (v := 1) dX2_addInOrder_29 (by decide) ?_
      refine g_isub h dX2_addInOrder_30 ?_
      refine g_is (nI ((k + 1) - 1)) (pk_sub (a := (k + 1)) (b := 1) (by omega)) ?_
      refine g_aldR h r hr ((k + 1) - 1) (by omega) dX2_addInOrder_31 ?_
      refine g_is (nI (g k)) (by simp [ht, sR, up_s]) ?_
      refine g_iload_n h (q := 3) 3 dX2_addInOrder_32 rfl ?_
      refine g_callV h mv_X0_goesBefore 1 i 0 (ok_F hi) rfl rfl (As := [.int (nI (x)), .int (nI (g k)), .int (bI by1)]) (c_X0_goesBefore (kl K) hE (σ := τ) i hi x (g k) hx (hg k (by omega)) by1) ml_X2_25 rfl (by decide) (by decide) rfl (Nat.le_of_ble_eq_true rfl) dX2_addInOrder_33 (fun v σ9 h9 => ?_)
      rw [h9.1, h9.2]; clear h9
      have ef : τ.1 i = σ.1 i := by rw [ht]; rfl
      rw [ef]
      refine g_if_eq h 61 dX2_addInOrder_36 (by decide) (fun c2 => ?_) (fun c2 => ?_)
      · refine g_aload_n h (q := 0) 0 dX2_addInOrder_61 rfl ?_
        refine g_get h 3 r 0 (ok_R hr) rfl rfl uin_X2 0 (by decide) fl_X2_9 rfl dX2_addInOrder_62 ?_
        refine g_iload h (q := 4) 4 dX2_addInOrder_65 rfl ?_
        refine g_iload_n h (q := 1) 1 dX2_addInOrder_67 rfl ?_
        refine g_astR h r hr (k + 1) (by omega) (m := x) dX2_addInOrder_68 (fun σ3 hσ3 => ?_)
        refine g_aload_n h (q := 0) 0 dX2_addInOrder_69 rfl ?_
        refine g_dup h dX2_addInOrder_70 rfl ?_
        refine g_get h 3 r 0 (ok_R hr) rfl rfl uin_X2 1 (by decide) fl_X2_15 rfl dX2_addInOrder_71 ?_
        refine g_is (nI (sz)) (by simp [hσ3, ht, sR, up_s]) ?_
        refine g_iconst h (v := 1) dX2_addInOrder_74 (by decide) ?_
        refine g_iadd h dX2_addInOrder_75 ?_
        refine g_is (nI (sz + 1)) (nI_add sz 1) ?_
        refine g_putRs h r hr (m := sz + 1) fl_X2_15 dX2_addInOrder_76 (fun σ4 hσ4 => ?_)
        exact g_vret h hR dX2_addInOrder_79 (by simpa [hσ4, hσ3, ht, sR, up_s, bx_uu, insL, bI_0.mp c2] using hp)
      · refine g_aload_n h (q := 0) 0 dX2_addInOrder_39 rfl ?_
        refine g_get h 3 r 0 (ok_R hr) rfl rfl uin_X2 0 (by decide) fl_X2_9 rfl dX2_addInOrder_40 ?_
        refine g_iload h (q := 4) 4 dX2_addInOrder_43 rfl ?_
        refine g_aload_n h (q := 0) 0 dX2_addInOrder_45 rfl ?_
        refine g_get h 3 r 0 (ok_R hr) rfl rfl uin_X2 0 (by decide) fl_X2_9 rfl dX2_addInOrder_46 ?_
        refine g_iload h (q := 4) 4 dX2_addInOrder_49 rfl ?_
        refine g_iconst h (v := 1) dX2_addInOrder_51 (by decide) ?_
        refine g_isub h dX2_addInOrder_52 ?_
        refine g_is (nI ((k + 1) - 1)) (pk_sub (a := (k + 1)) (b := 1) (by omega)) ?_
        refine g_aldR h r hr ((k + 1) - 1) (by omega) dX2_addInOrder_53 ?_
        refine g_is (nI (g k)) (by simp [ht, sR, up_s]) ?_
        refine g_astR h r hr (k + 1) (by omega) (m := g k) dX2_addInOrder_54 (fun σ5 hσ5 => ?_)
        refine g_iinc h (q := 4) (v := nI (k)) 4 [(0, .ref (ad E 3 r 0)), (1, .int (nI (x))), (2, .ref (ad E 1 i 0)), (3, .int (bI by1)), (4, .int (nI (k)))] dX2_addInOrder_55 rfl (nI_dec (k + 1) 1 (by omega)) (by decide) rfl ?_
        refine g_goto h 16 dX2_addInOrder_58 (by decide) ?_
        exact ih (va_up g (k + 1) (g k)) σ5 (by rw [hσ5, ht]; simp only [sR, up_s, bx_uu]) (by omega) (fun t q => by rw [up_n (by omega)]; exact hg t (by omega)) (by simpa [insL, bI_1.mp c2] using hp)
set_option maxHeartbeats 4000000 in
theorem c_X2_addInOrder (l : Launch) {E : EnvT} (hE : EOK E) {σ : ST} (r i : Nat) (hr : r < 16) (hi : i < 14) (x : Nat) (hx : x < 64) (by1 : Bool) (hw : ROK 64 (σ.2.1 r)) : Con l E yX2_addInOrder cX2_addInOrder 5 none 1 23 [.ref (ad E 3 r 0), .int (nI (x)), .ref (ad E 1 i 0), .int (bI by1)] σ (rV (sR σ r (rIns (fun y => gB (σ.1 i) x y by1) (σ.2.1 r) x))) := by
  refine con_intro hE (by decide) (Nat.le_of_ble_eq_true rfl) (fun K hkl h hR => ?_)
  subst hkl
  have h : Cx K E cX2_addInOrder 5 RX2 1 23 := h
  show GG K E σ 0 [(0, .ref (ad E 3 r 0)), (1, .int (nI (x))), (2, .ref (ad E 1 i 0)), (3, .int (bI by1))] []
  have hw1 := hw.1
  refine g_aload_n h (q := 0) 0 dX2_addInOrder_0 rfl ?_
  refine g_get h 3 r 0 (ok_R hr) rfl rfl uin_X2 1 (by decide) fl_X2_15 rfl dX2_addInOrder_1 ?_
  refine g_bipush h (v := 64) dX2_addInOrder_4 (by decide) ?_
  refine g_ncmp_lt h (a := (σ.2.1 r).2) (b := 64) 10 dX2_addInOrder_6 (by decide) (by omega) (by omega) (fun c1 => ?_) (fun c1 => ?_)
  · refine g_aload_n h (q := 0) 0 dX2_addInOrder_10 rfl ?_
    refine g_get h 3 r 0 (ok_R hr) rfl rfl uin_X2 1 (by decide) fl_X2_15 rfl dX2_addInOrder_11 ?_
    refine g_istore h (q := 4) [(0, .ref (ad E 3 r 0)), (1, .int (nI (x))), (2, .ref (ad E 1 i 0)), (3, .int (bI by1)), (4, .int (nI ((σ.2.1 r).2)))] dX2_addInOrder_14 (by decide) rfl ?_
    exact l_X2_addInOrder (σ := σ) hE h hR r i hr hi x hx by1 (σ.2.1 r).2 c1 _ (σ.2.1 r).1 σ (by simp [sR, up_id]) (Nat.le_refl _) hw.2 ⟨rfl, by rw [rIns, if_pos c1]⟩
  · exact g_vret h hR dX2_addInOrder_9 (show rV _ _ _ from ⟨rfl, by rw [rIns, if_neg (by omega)]; simp [sR, up_id]⟩)
end
section
theorem insL_spec (lt : Nat → Bool) : ∀ (k : Nat) (g : Nat → Nat), (insL lt g k).2 ≤ k ∧ (∀ t, t < (insL lt g k).2 → (insL lt g k).1 t = g t) ∧ (∀ t, (insL lt g k).2 < t → t ≤ k → (insL lt g k).1 t = g (t - 1)) ∧ (∀ t, k < t → (insL lt g k).1 t = g t) ∧ (∀ t, (insL lt g k).2 ≤ t → t < k → lt (g t) = true) ∧ (0 < (insL lt g k).2 → lt (g ((insL lt g k).2 - 1)) = false) := by
  intro k
  induction k with
  | zero =>
    intro g
    have e : insL lt g 0 = (g, 0) := by simp [insL]
    rw [e]
    refine ⟨Nat.le_refl _, fun t h => rfl, fun t h1 h2 => by dsimp only at h1; omega, fun t h => rfl, fun t h1 h2 => by omega, fun h => by dsimp only at h; omega⟩
  | succ k ih =>
    intro g
    by_cases h : lt (g k) = true
    · obtain ⟨h1, h2, h3, h4, h5, h6⟩ := ih (va_up g (k + 1) (g k))
      have e : insL lt g (k + 1) = insL lt (va_up g (k + 1) (g k)) k := by simp [insL, h]
      rw [e]
      refine ⟨by omega, fun t ht => by rw [h2 t ht, up_n (by omega)], fun t ht1 ht2 => ?_, fun t ht => by rw [h4 t (by omega), up_n (by omega)], fun t ht1 ht2 => ?_, fun hp => ?_⟩
      · by_cases e2 : t = k + 1
        · subst e2; rw [h4 (k + 1) (by omega), up_s]; rfl
        · rw [h3 t ht1 (by omega), up_n (by omega)]
      · by_cases e2 : t = k
        · subst e2; exact h
        · have := h5 t ht1 (by omega); rwa [up_n (by omega)] at this
      · have := h6 hp; rwa [up_n (by omega)] at this
    · have e : insL lt g (k + 1) = (g, k + 1) := by simp [insL, h]
      rw [e]
      refine ⟨Nat.le_refl _, fun t ht => rfl, fun t ht1 ht2 => by dsimp only at ht1; omega, fun t ht => rfl, fun t ht1 ht2 => by dsimp only at ht1; omega, fun hp => ?_⟩
      simpa using h
theorem rIns_ok {lt : Nat → Bool} {w : RowT} {x b : Nat} (h : ROK b w) (hx : x < b) : ROK b (rIns lt w x) := by
  unfold rIns
  by_cases h64 : w.2 < 64
  · rw [if_pos h64]
    obtain ⟨h1, h2, h3, h4, h5, h6⟩ := insL_spec lt w.2 w.1
    refine ⟨by show w.2 + 1 ≤ 64; omega, fun t ht => ?_⟩
    have ht : t < w.2 + 1 := ht
    show va_up (insL lt w.1 w.2).1 (insL lt w.1 w.2).2 x t < b
    by_cases e : t = (insL lt w.1 w.2).2
    · rw [e, up_s]; exact hx
    · rw [up_n e]
      rcases Nat.lt_or_ge t (insL lt w.1 w.2).2 with q | q
      · rw [h2 t q]; exact h.2 t (by omega)
      · rw [h3 t (by omega) (by omega)]; exact h.2 (t - 1) (by omega)
  · rw [if_neg h64]; exact h
theorem ROK.mono {a b : Nat} {w : RowT} (h : ROK a w) (hab : a ≤ b) : ROK b w := ⟨h.1, fun t ht => Nat.lt_of_lt_of_le (h.2 t ht) hab⟩
def srtL (F : FabT) (sel : Nat → Bool) (by1 : Bool) : Nat → Nat → RowT → RowT
  | 0, _, w => w
  | m + 1, k, w => srtL F sel by1 m (k + 1) (if sel k then rIns (fun y => gB F k y by1) w k else w)
def selW (F : FabT) (k : Nat) : Bool := decide (F.2.2 0 k = 0) || decide (F.2.2 0 k = 1)
def selT (F : FabT) (k : Nat) : Bool := decide (F.2.2 0 k = 1)
def sortW (F : FabT) (w : RowT) : RowT := srtL F (selW F) true F.2.1 0 (w.1, 0)
def sortT (F : FabT) (w : RowT) : RowT := srtL F (selT F) false F.2.1 0 (w.1, 0)
theorem srtL_ok {F : FabT} {sel : Nat → Bool} {by1 : Bool} : ∀ (m k : Nat) (w : RowT), ROK k w → k + m ≤ 64 → ROK (k + m) (srtL F sel by1 m k w) := by
  intro m
  induction m with
  | zero => intro k w h _; exact h
  | succ m ih =>
    intro k w h hk
    have : k + (m + 1) = (k + 1) + m := by omega
    rw [this]
    refine ih (k + 1) _ ?_ (by omega)
    by_cases e : sel k = true
    · rw [if_pos e]; exact rIns_ok (h.mono (by omega)) (by omega)
    · rw [if_neg e]; exact h.mono (by omega)
theorem sortW_ok {F : FabT} {w : RowT} (hF : F.2.1 ≤ 64) : ROK F.2.1 (sortW F w) := by
  have := srtL_ok (F := F) (sel := selW F) (by1 := true) F.2.1 0 (w.1, 0) ⟨Nat.zero_le _, fun t h => absurd h (Nat.not_lt_zero t)⟩ (by omega)
  rwa [Nat.zero_add] at this
theorem sortT_ok {F : FabT} {w : RowT} (hF : F.2.1 ≤ 64) : ROK F.2.1 (sortT F w) := by
  have := srtL_ok (F := F) (sel := selT F) (by1 := false) F.2.1 0 (w.1, 0) ⟨Nat.zero_le _, fun t h => absurd h (Nat.not_lt_zero t)⟩ (by omega)
  rwa [Nat.zero_add] at this
set_option maxHeartbeats 4000000 in
theorem l_X4_sortWaiting {K : KX} {E : EnvT} (hE : EOK E) (h : Cx K E cX4_sortWaiting 3 RX4 2 47) {σ : ST} {post : Option Value → ST → Prop} (hR : Rx K E (some (.object "LetterFabric$Row")) post) (i : Nat) (hi : i < 14) (hF : (σ.1 i).2.1 ≤ 64) : ∀ m k w τ, τ = sR σ 14 w → k + m = (σ.1 i).2.1 → ROK k w → post (some (.ref (ad E 3 14 0))) (sR σ 14 (srtL (σ.1 i) (selW (σ.1 i)) true m k w)) → GG K E τ 10 [(0, .ref (ad E 5 0 0)), (1, .ref (ad E 1 i 0)), (2, .int (nI k))] [] := by
  intro m
  induction m with
  | zero =>
    intro k w τ ht hk hw hp
    have ef : τ.1 i = σ.1 i := by rw [ht]; rfl
    refine g_iload_n h (q := 2) 2 dX4_sortWaiting_10 rfl ?_
    refine g_aload_n h (q := 1) 1 dX4_sortWaiting_11 rfl ?_
    refine g_get h 1 i 0 (ok_F hi) rfl rfl uin_X0 4 (by decide) fl_X4_25 rfl dX4_sortWaiting_12 ?_
    refine g_is (nI ((σ.1 i).2.1)) (by rw [ef]) ?_
    refine g_ncmp_ge h (a := k) (b := (σ.1 i).2.1) 53 dX4_sortWaiting_15 (by decide) (by omega) (by omega) (fun c1 => ?_) (fun c1 => ?_)
    · refine g_aload_n h (q := 0) 0 dX4_sortWaiting_53 rfl ?_
      refine g_get h 5 0 0 ⟨rfl, rfl⟩ rfl rfl uin_X4 0 (by decide) fl_X4_12 rfl dX4_sortWaiting_54 ?_
      exact g_aret h hR dX4_sortWaiting_57 (by rw [ht]; exact hp)
    · exfalso; omega
  | succ m ih =>
    intro k w τ ht hk hw hp
    have ef : τ.1 i = σ.1 i := by rw [ht]; rfl
    have er : τ.2.1 14 = w := by rw [ht]; rfl
    refine g_iload_n h (q := 2) 2 dX4_sortWaiting_10 rfl ?_
    refine g_aload_n h (q := 1) 1 dX4_sortWaiting_11 rfl ?_
    refine g_get h 1 i 0 (ok_F hi) rfl rfl uin_X0 4 (by decide) fl_X4_25 rfl dX4_sortWaiting_12 ?_
    refine g_is (nI ((σ.1 i).2.1)) (by rw [ef]) ?_
    refine g_ncmp_ge h (a := k) (b := (σ.1 i).2.1) 53 dX4_sortWaiting_15 (by decide) (by omega) (by omega) (fun c1 => ?_) (fun c1 => ?_)
    · exfalso; omega
    · refine g_aload_n h (q := 1) 1 dX4_sortWaiting_18 rfl ?_
      refine g_get h 1 i 0 (ok_F hi) rfl rfl uin_X0 5 (by decide) fl_X4_30 rfl dX4_sortWaiting_19 ?_
      refine g_iload_n h (q := 2) 2 dX4_sortWaiting_22 rfl ?_
      refine g_aldF h i 0 hi (by decide) (k) (show k < 64 by omega) dX4_sortWaiting_23 ?_
      refine g_is ((σ.1 i).2.2 0 k) (by rw [ef]) ?_
      refine g_if_eq h 37 dX4_sortWaiting_24 (by decide) (fun c2 => ?_) (fun c2 => ?_)
      · refine g_aload_n h (q := 0) 0 dX4_sortWaiting_37 rfl ?_
        refine g_get h 5 0 0 ⟨rfl, rfl⟩ rfl rfl uin_X4 0 (by decide) fl_X4_12 rfl dX4_sortWaiting_38 ?_
        refine g_iload_n h (q := 2) 2 dX4_sortWaiting_41 rfl ?_
        refine g_aload_n h (q := 1) 1 dX4_sortWaiting_42 rfl ?_
        refine g_iconst h (v := bI true) dX4_sortWaiting_43 (by decide) ?_
        refine g_callV h mv_X2_addInOrder 3 14 0 (ok_R (by decide)) rfl rfl (As := [.int (nI (k)), .ref (ad E 1 i 0), .int (bI true)]) (c_X2_addInOrder (kl K) hE (σ := τ) 14 i (by decide) hi k (by omega) true (by rw [er]; exact hw.mono (by omega))) ml_X4_34 rfl (by decide) (by decide) rfl (Nat.le_of_ble_eq_true rfl) dX4_sortWaiting_44 (fun v σ9 h9 => ?_)
        rw [h9.1, h9.2]; clear h9
        rw [er, ef]
        generalize ht2 : sR τ 14 (rIns (fun y => gB (σ.1 i) k y true) w k) = τ2
        refine g_iinc h (q := 2) (v := nI (k + 1)) 2 [(0, .ref (ad E 5 0 0)), (1, .ref (ad E 1 i 0)), (2, .int (nI (k + 1)))] dX4_sortWaiting_47 rfl (nI_inc k 1) (by decide) rfl ?_
        refine g_goto h 10 dX4_sortWaiting_50 (by decide) ?_
        have hs : selW (σ.1 i) k = true := by simp [selW, *]
        exact ih (k + 1) (rIns (fun y => gB (σ.1 i) k y true) w k) τ2 (by rw [← ht2, ht, sR_sR]) (by omega) (rIns_ok (hw.mono (by omega)) (by omega)) (by simpa [srtL, hs] using hp)
      · refine g_aload_n h (q := 1) 1 dX4_sortWaiting_27 rfl ?_
        refine g_get h 1 i 0 (ok_F hi) rfl rfl uin_X0 5 (by decide) fl_X4_30 rfl dX4_sortWaiting_28 ?_
        refine g_iload_n h (q := 2) 2 dX4_sortWaiting_31 rfl ?_
        refine g_aldF h i 0 hi (by decide) (k) (show k < 64 by omega) dX4_sortWaiting_32 ?_
        refine g_is ((σ.1 i).2.2 0 k) (by rw [ef]) ?_
        refine g_iconst h (v := 1) dX4_sortWaiting_33 (by decide) ?_
        refine g_icmp_ne h 47 dX4_sortWaiting_34 (by decide) (fun c3 => ?_) (fun c3 => ?_)
        · refine g_iinc h (q := 2) (v := nI (k + 1)) 2 [(0, .ref (ad E 5 0 0)), (1, .ref (ad E 1 i 0)), (2, .int (nI (k + 1)))] dX4_sortWaiting_47 rfl (nI_inc k 1) (by decide) rfl ?_
          refine g_goto h 10 dX4_sortWaiting_50 (by decide) ?_
          have hs : selW (σ.1 i) k = false := by simp [selW, *]
          exact ih (k + 1) w τ ht (by omega) (hw.mono (by omega)) (by simpa [srtL, hs] using hp)
        · refine g_aload_n h (q := 0) 0 dX4_sortWaiting_37 rfl ?_
          refine g_get h 5 0 0 ⟨rfl, rfl⟩ rfl rfl uin_X4 0 (by decide) fl_X4_12 rfl dX4_sortWaiting_38 ?_
          refine g_iload_n h (q := 2) 2 dX4_sortWaiting_41 rfl ?_
          refine g_aload_n h (q := 1) 1 dX4_sortWaiting_42 rfl ?_
          refine g_iconst h (v := bI true) dX4_sortWaiting_43 (by decide) ?_
          refine g_callV h mv_X2_addInOrder 3 14 0 (ok_R (by decide)) rfl rfl (As := [.int (nI (k)), .ref (ad E 1 i 0), .int (bI true)]) (c_X2_addInOrder (kl K) hE (σ := τ) 14 i (by decide) hi k (by omega) true (by rw [er]; exact hw.mono (by omega))) ml_X4_34 rfl (by decide) (by decide) rfl (Nat.le_of_ble_eq_true rfl) dX4_sortWaiting_44 (fun v σ9 h9 => ?_)
          rw [h9.1, h9.2]; clear h9
          rw [er, ef]
          generalize ht2 : sR τ 14 (rIns (fun y => gB (σ.1 i) k y true) w k) = τ2
          refine g_iinc h (q := 2) (v := nI (k + 1)) 2 [(0, .ref (ad E 5 0 0)), (1, .ref (ad E 1 i 0)), (2, .int (nI (k + 1)))] dX4_sortWaiting_47 rfl (nI_inc k 1) (by decide) rfl ?_
          refine g_goto h 10 dX4_sortWaiting_50 (by decide) ?_
          have hs : selW (σ.1 i) k = true := by simp [selW, *]
          exact ih (k + 1) (rIns (fun y => gB (σ.1 i) k y true) w k) τ2 (by rw [← ht2, ht, sR_sR]) (by omega) (rIns_ok (hw.mono (by omega)) (by omega)) (by simpa [srtL, hs] using hp)
set_option maxHeartbeats 4000000 in
theorem c_X4_sortWaiting (l : Launch) {E : EnvT} (hE : EOK E) {σ : ST} (i : Nat) (hi : i < 14) (hF : (σ.1 i).2.1 ≤ 64) : Con l E yX4_sortWaiting cX4_sortWaiting 3 (some (.object "LetterFabric$Row")) 2 47 [.ref (ad E 5 0 0), .ref (ad E 1 i 0)] σ (rA (ad E 3 14 0) (sR σ 14 (sortW (σ.1 i) (σ.2.1 14)))) := by
  refine con_intro hE (by decide) (Nat.le_of_ble_eq_true rfl) (fun K hkl h hR => ?_)
  subst hkl
  have h : Cx K E cX4_sortWaiting 3 RX4 2 47 := h
  show GG K E σ 0 [(0, .ref (ad E 5 0 0)), (1, .ref (ad E 1 i 0))] []
  refine g_aload_n h (q := 0) 0 dX4_sortWaiting_0 rfl ?_
  refine g_get h 5 0 0 ⟨rfl, rfl⟩ rfl rfl uin_X4 0 (by decide) fl_X4_12 rfl dX4_sortWaiting_1 ?_
  refine g_iconst h (v := 0) dX4_sortWaiting_4 (by decide) ?_
  refine g_putRs h 14 (by decide) (m := 0) fl_X4_21 dX4_sortWaiting_5 (fun σ1 hσ1 => ?_)
  refine g_iconst h (v := 0) dX4_sortWaiting_8 (by decide) ?_
  refine g_istore_n h (q := 2) [(0, .ref (ad E 5 0 0)), (1, .ref (ad E 1 i 0)), (2, .int 0)] dX4_sortWaiting_9 (by decide) rfl ?_
  exact l_X4_sortWaiting (σ := σ) hE h hR i hi hF _ 0 ((σ.2.1 14).1, 0) σ1 hσ1 (Nat.zero_add _) ⟨Nat.zero_le _, fun t q => absurd q (Nat.not_lt_zero t)⟩ ⟨rfl, rfl⟩
set_option maxHeartbeats 4000000 in
theorem l_X4_sortTurned {K : KX} {E : EnvT} (hE : EOK E) (h : Cx K E cX4_sortTurned 3 RX4 2 47) {σ : ST} {post : Option Value → ST → Prop} (hR : Rx K E (some (.object "LetterFabric$Row")) post) (i : Nat) (hi : i < 14) (hF : (σ.1 i).2.1 ≤ 64) : ∀ m k w τ, τ = sR σ 14 w → k + m = (σ.1 i).2.1 → ROK k w → post (some (.ref (ad E 3 14 0))) (sR σ 14 (srtL (σ.1 i) (selT (σ.1 i)) false m k w)) → GG K E τ 10 [(0, .ref (ad E 5 0 0)), (1, .ref (ad E 1 i 0)), (2, .int (nI k))] [] := by
  intro m
  induction m with
  | zero =>
    intro k w τ ht hk hw hp
    have ef : τ.1 i = σ.1 i := by rw [ht]; rfl
    refine g_iload_n h (q := 2) 2 dX4_sortTurned_10 rfl ?_
    refine g_aload_n h (q := 1) 1 dX4_sortTurned_11 rfl ?_
    refine g_get h 1 i 0 (ok_F hi) rfl rfl uin_X0 4 (by decide) fl_X4_25 rfl dX4_sortTurned_12 ?_
    refine g_is (nI ((σ.1 i).2.1)) (by rw [ef]) ?_
    refine g_ncmp_ge h (a := k) (b := (σ.1 i).2.1) 44 dX4_sortTurned_15 (by decide) (by omega) (by omega) (fun c1 => ?_) (fun c1 => ?_)
    · refine g_aload_n h (q := 0) 0 dX4_sortTurned_44 rfl ?_
      refine g_get h 5 0 0 ⟨rfl, rfl⟩ rfl rfl uin_X4 0 (by decide) fl_X4_12 rfl dX4_sortTurned_45 ?_
      exact g_aret h hR dX4_sortTurned_48 (by rw [ht]; exact hp)
    · exfalso; omega
  | succ m ih =>
    intro k w τ ht hk hw hp
    have ef : τ.1 i = σ.1 i := by rw [ht]; rfl
    have er : τ.2.1 14 = w := by rw [ht]; rfl
    refine g_iload_n h (q := 2) 2 dX4_sortTurned_10 rfl ?_
    refine g_aload_n h (q := 1) 1 dX4_sortTurned_11 rfl ?_
    refine g_get h 1 i 0 (ok_F hi) rfl rfl uin_X0 4 (by decide) fl_X4_25 rfl dX4_sortTurned_12 ?_
    refine g_is (nI ((σ.1 i).2.1)) (by rw [ef]) ?_
    refine g_ncmp_ge h (a := k) (b := (σ.1 i).2.1) 44 dX4_sortTurned_15 (by decide) (by omega) (by omega) (fun c1 => ?_) (fun c1 => ?_)
    · exfalso; omega
    · refine g_aload_n h (q := 1) 1 dX4_sortTurned_18 rfl ?_
      refine g_get h 1 i 0 (ok_F hi) rfl rfl uin_X0 5 (by decide) fl_X4_30 rfl dX4_sortTurned_19 ?_
      refine g_iload_n h (q := 2) 2 dX4_sortTurned_22 rfl ?_
      refine g_aldF h i 0 hi (by decide) (k) (show k < 64 by omega) dX4_sortTurned_23 ?_
      refine g_is ((σ.1 i).2.2 0 k) (by rw [ef]) ?_
      refine g_iconst h (v := 1) dX4_sortTurned_24 (by decide) ?_
      refine g_icmp_ne h 38 dX4_sortTurned_25 (by decide) (fun c2 => ?_) (fun c2 => ?_)
      · refine g_iinc h (q := 2) (v := nI (k + 1)) 2 [(0, .ref (ad E 5 0 0)), (1, .ref (ad E 1 i 0)), (2, .int (nI (k + 1)))] dX4_sortTurned_38 rfl (nI_inc k 1) (by decide) rfl ?_
        refine g_goto h 10 dX4_sortTurned_41 (by decide) ?_
        have hs : selT (σ.1 i) k = false := by simp [selT, *]
        exact ih (k + 1) w τ ht (by omega) (hw.mono (by omega)) (by simpa [srtL, hs] using hp)
      · refine g_aload_n h (q := 0) 0 dX4_sortTurned_28 rfl ?_
        refine g_get h 5 0 0 ⟨rfl, rfl⟩ rfl rfl uin_X4 0 (by decide) fl_X4_12 rfl dX4_sortTurned_29 ?_
        refine g_iload_n h (q := 2) 2 dX4_sortTurned_32 rfl ?_
        refine g_aload_n h (q := 1) 1 dX4_sortTurned_33 rfl ?_
        refine g_iconst h (v := bI false) dX4_sortTurned_34 (by decide) ?_
        refine g_callV h mv_X2_addInOrder 3 14 0 (ok_R (by decide)) rfl rfl (As := [.int (nI (k)), .ref (ad E 1 i 0), .int (bI false)]) (c_X2_addInOrder (kl K) hE (σ := τ) 14 i (by decide) hi k (by omega) false (by rw [er]; exact hw.mono (by omega))) ml_X4_34 rfl (by decide) (by decide) rfl (Nat.le_of_ble_eq_true rfl) dX4_sortTurned_35 (fun v σ9 h9 => ?_)
        rw [h9.1, h9.2]; clear h9
        rw [er, ef]
        generalize ht2 : sR τ 14 (rIns (fun y => gB (σ.1 i) k y false) w k) = τ2
        refine g_iinc h (q := 2) (v := nI (k + 1)) 2 [(0, .ref (ad E 5 0 0)), (1, .ref (ad E 1 i 0)), (2, .int (nI (k + 1)))] dX4_sortTurned_38 rfl (nI_inc k 1) (by decide) rfl ?_
        refine g_goto h 10 dX4_sortTurned_41 (by decide) ?_
        have hs : selT (σ.1 i) k = true := by simp [selT, *]
        exact ih (k + 1) (rIns (fun y => gB (σ.1 i) k y false) w k) τ2 (by rw [← ht2, ht, sR_sR]) (by omega) (rIns_ok (hw.mono (by omega)) (by omega)) (by simpa [srtL, hs] using hp)
set_option maxHeartbeats 4000000 in
theorem c_X4_sortTurned (l : Launch) {E : EnvT} (hE : EOK E) {σ : ST} (i : Nat) (hi : i < 14) (hF : (σ.1 i).2.1 ≤ 64) : Con l E yX4_sortTurned cX4_sortTurned 3 (some (.object "LetterFabric$Row")) 2 47 [.ref (ad E 5 0 0), .ref (ad E 1 i 0)] σ (rA (ad E 3 14 0) (sR σ 14 (sortT (σ.1 i) (σ.2.1 14)))) := by
  refine con_intro hE (by decide) (Nat.le_of_ble_eq_true rfl) (fun K hkl h hR => ?_)
  subst hkl
  have h : Cx K E cX4_sortTurned 3 RX4 2 47 := h
  show GG K E σ 0 [(0, .ref (ad E 5 0 0)), (1, .ref (ad E 1 i 0))] []
  refine g_aload_n h (q := 0) 0 dX4_sortTurned_0 rfl ?_
  refine g_get h 5 0 0 ⟨rfl, rfl⟩ rfl rfl uin_X4 0 (by decide) fl_X4_12 rfl dX4_sortTurned_1 ?_
  refine g_iconst h (v := 0) dX4_sortTurned_4 (by decide) ?_
  refine g_putRs h 14 (by decide) (m := 0) fl_X4_21 dX4_sortTurned_5 (fun σ1 hσ1 => ?_)
  refine g_iconst h (v := 0) dX4_sortTurned_8 (by decide) ?_
  refine g_istore_n h (q := 2) [(0, .ref (ad E 5 0 0)), (1, .ref (ad E 1 i 0)), (2, .int 0)] dX4_sortTurned_9 (by decide) rfl ?_
  exact l_X4_sortTurned (σ := σ) hE h hR i hi hF _ 0 ((σ.2.1 14).1, 0) σ1 hσ1 (Nat.zero_add _) ⟨Nat.zero_le _, fun t q => absurd q (Nat.not_lt_zero t)⟩ ⟨rfl, rfl⟩
end
section
def PK (F : FabT) : Prop := F.2.1 ≤ 64 ∧ ∀ n, n < F.2.1 → ∃ p, p < 5 ∧ F.2.2 0 n = nI p
theorem mvL_0 (F : FabT) (n q m : Nat) : (mvL F n q).2.2 0 m = if m = n then nI q else F.2.2 0 m := by simp [mvL, va_up, upd]
theorem mvL_w (F : FabT) (n q : Nat) {w : Nat} (h0 : w ≠ 0) (h7 : w ≠ 7) : (mvL F n q).2.2 w = F.2.2 w := by simp [mvL, va_up, h0, h7]
theorem mvL_pk {F : FabT} (h : PK F) (n : Nat) {q : Nat} (hq : q < 5) : PK (mvL F n q) := by
  refine ⟨h.1, fun m hm => ?_⟩
  rw [mvL_0]
  by_cases e : m = n
  · rw [if_pos e]; exact ⟨q, hq, rfl⟩
  · rw [if_neg e]; exact h.2 m hm
def enL (F : FabT) (n q : Nat) : FabT := ((mvL F n q).1, (mvL F n q).2.1, va_up (mvL F n q).2.2 5 (upd ((mvL F n q).2.2 5) n ((mvL F n q).1 3)))
def rdL (F : FabT) (n : Nat) : FabT := (F.1, F.2.1, va_up F.2.2 6 (upd (F.2.2 6) n (F.2.2 6 n + 1)))
theorem enL_w (F : FabT) (n q : Nat) {w : Nat} (h5 : w ≠ 5) : (enL F n q).2.2 w = (mvL F n q).2.2 w := by simp [enL, va_up, h5]
theorem rdL_w (F : FabT) (n : Nat) {w : Nat} (h6 : w ≠ 6) : (rdL F n).2.2 w = F.2.2 w := by simp [rdL, va_up, h6]
theorem enL_pk {F : FabT} (h : PK F) (n : Nat) {q : Nat} (hq : q < 5) : PK (enL F n q) := by
  have h2 := mvL_pk h n hq
  exact ⟨h2.1, fun m hm => by rw [enL_w F n q (by decide)]; exact h2.2 m hm⟩
theorem rdL_pk {F : FabT} (h : PK F) (n : Nat) : PK (rdL F n) := ⟨h.1, fun m hm => by rw [rdL_w F n (by decide)]; exact h.2 m hm⟩
def sW (σ : ST) (i : Nat) (F : FabT) (Q B : RowT) : ST := sR (sR (sF σ i F) i Q) 15 B
theorem up_cm {α : Type} {g : Nat → α} {i j : Nat} {a b : α} (h : i ≠ j) : va_up (va_up g i a) j b = va_up (va_up g j b) i a := by
  funext k
  by_cases h1 : k = i
  · subst h1; simp [va_up, h]
  · by_cases h2 : k = j
    · subst h2; simp [va_up, h1]
    · simp [va_up, h1, h2]
theorem sW_F {σ : ST} {i : Nat} {F F' : FabT} {Q B : RowT} : sF (sW σ i F Q B) i F' = sW σ i F' Q B := by simp [sW, sF, sR, bx_uu]
theorem sW_Q {σ : ST} {i : Nat} {F : FabT} {Q Q' B : RowT} (hi : i < 14) : sR (sW σ i F Q B) i Q' = sW σ i F Q' B := by
  simp only [sW, sF, sR]
  rw [up_cm (show i ≠ 15 by omega), up_cm (show 15 ≠ i by omega), up_cm (show i ≠ 15 by omega), bx_uu, up_cm (show i ≠ 15 by omega)]
theorem sW_B {σ : ST} {i : Nat} {F : FabT} {Q B B' : RowT} : sR (sW σ i F Q B) 15 B' = sW σ i F Q B' := by simp [sW, sR, bx_uu]
theorem sW_f {σ : ST} {i : Nat} {F : FabT} {Q B : RowT} : (sW σ i F Q B).1 i = F := by simp [sW, sF, sR, up_s]
theorem sW_q {σ : ST} {i : Nat} {F : FabT} {Q B : RowT} (hi : i < 14) : (sW σ i F Q B).2.1 i = Q := by
  simp only [sW, sR]
  rw [up_n (show i ≠ 15 by omega), up_s]
theorem sW_b {σ : ST} {i : Nat} {F : FabT} {Q B : RowT} : (sW σ i F Q B).2.1 15 = B := by simp [sW, sR, up_s]
theorem sW_w {σ : ST} {i : Nat} {F : FabT} {Q B : RowT} (hi : i < 14) : (sW σ i F Q B).2.1 14 = σ.2.1 14 := by
  simp only [sW, sR]
  rw [up_n (show 14 ≠ 15 by decide), up_n (show 14 ≠ i by omega)]; rfl
theorem rAdd_le {Q : RowT} (h : Q.2 ≤ 64) (x : Nat) : (rAdd Q x).2 ≤ 64 := by
  unfold rAdd
  by_cases e : Q.2 < 64
  · rw [if_pos e]; exact e
  · rw [if_neg e]; exact h
set_option maxHeartbeats 4000000 in
theorem c_X4_endLetter (l : Launch) {E : EnvT} (hE : EOK E) {σ : ST} (i : Nat) (hi : i < 14) (n q : Nat) (hn : n < 64) (hq : q < 5) (hp : ∃ p, p < 5 ∧ (σ.1 i).2.2 0 n = nI p) : Con l E yX4_endLetter cX4_endLetter 4 none 1 22 [.ref (ad E 5 0 0), .ref (ad E 1 i 0), .int (nI (n)), .int (nI (q))] σ (rV (sF σ i (enL (σ.1 i) n q))) := by
  refine con_intro hE (by decide) (Nat.le_of_ble_eq_true rfl) (fun K hkl h hR => ?_)
  subst hkl
  have h : Cx K E cX4_endLetter 4 RX4 1 22 := h
  show GG K E σ 0 [(0, .ref (ad E 5 0 0)), (1, .ref (ad E 1 i 0)), (2, .int (nI (n))), (3, .int (nI (q)))] []
  refine g_aload_n h (q := 1) 1 dX4_endLetter_0 rfl ?_
  refine g_iload_n h (q := 2) 2 dX4_endLetter_1 rfl ?_
  refine g_iload_n h (q := 3) 3 dX4_endLetter_2 rfl ?_
  refine g_callV h mv_X0_moveLetter 1 i 0 (ok_F hi) rfl rfl (As := [.int (nI (n)), .int (nI (q))]) (c_X0_moveLetter (kl K) hE (σ := σ) i hi n q hn hq hp) ml_X4_74 rfl (by decide) (by decide) rfl (Nat.le_of_ble_eq_true rfl) dX4_endLetter_3 (fun v σ9 h9 => ?_)
  rw [h9.1, h9.2]; clear h9
  generalize ht : sF σ i (mvL (σ.1 i) n q) = τ
  refine g_aload_n h (q := 1) 1 dX4_endLetter_6 rfl ?_
  refine g_get h 1 i 0 (ok_F hi) rfl rfl uin_X0 10 (by decide) fl_X4_88 rfl dX4_endLetter_7 ?_
  refine g_iload_n h (q := 2) 2 dX4_endLetter_10 rfl ?_
  refine g_aload_n h (q := 1) 1 dX4_endLetter_11 rfl ?_
  refine g_get h 1 i 0 (ok_F hi) rfl rfl uin_X0 3 (by decide) fl_X4_52 rfl dX4_endLetter_12 ?_
  refine g_astF h i 5 hi (by decide) (n) (show n < 64 by omega) dX4_endLetter_15 (fun σ1 hσ1 => ?_)
  exact g_vret h hR dX4_endLetter_16 (show rV _ _ _ from ⟨rfl, by rw [hσ1, ← ht, sF_sF, sF_at]; rfl⟩)
def lwL (W : RowT) : Nat → Nat → Int32 → Nat → FabT → RowT → RowT → FabT × RowT × RowT
  | 0, _, _, _, F, Q, B => (F, Q, B)
  | m + 1, t, a, s, F, Q, B =>
    if nI (if F.2.2 2 (W.1 t) = a then s + 1 else 0) < F.1 0 ∧ nI Q.2 < F.1 2
    then lwL W m (t + 1) (F.2.2 2 (W.1 t)) (if F.2.2 2 (W.1 t) = a then s + 1 else 0) (mvL F (W.1 t) 2) (rAdd Q (W.1 t)) B
    else lwL W m (t + 1) (F.2.2 2 (W.1 t)) (if F.2.2 2 (W.1 t) = a then s + 1 else 0) F Q (rIns (fun y => gB F (W.1 t) y false) B (W.1 t))
set_option maxHeartbeats 4000000 in
theorem l_X4_letWinnersIn {K : KX} {E : EnvT} (hE : EOK E) (h : Cx K E cX4_letWinnersIn 6 RX4 2 47) {σ : ST} {post : Option Value → ST → Prop} (hR : Rx K E none post) (i : Nat) (hi : i < 14) (hL : (σ.1 i).2.1 ≤ 64) (hW : ROK (σ.1 i).2.1 (σ.2.1 14)) : ∀ m t a s F Q B τ, τ = sW σ i F Q B → t + m = (σ.2.1 14).2 → s ≤ t → PK F → F.2.1 = (σ.1 i).2.1 → Q.2 ≤ 64 → ROK 64 B → post none (sW σ i (lwL (σ.2.1 14) m t a s F Q B).1 (lwL (σ.2.1 14) m t a s F Q B).2.1 (lwL (σ.2.1 14) m t a s F Q B).2.2) → GG K E τ 16 [(0, .ref (ad E 5 0 0)), (1, .ref (ad E 1 i 0)), (2, .int a), (3, .int (nI s)), (4, .int (nI t))] [] := by
  have hW1 := hW.1
  intro m
  induction m with
  | zero =>
    intro t a s F Q B τ ht hm hs hF hFl hQ hB hp
    have eW : τ.2.1 14 = σ.2.1 14 := by rw [ht, sW_w hi]
    refine g_iload h (q := 4) 4 dX4_letWinnersIn_16 rfl ?_
    refine g_aload_n h (q := 0) 0 dX4_letWinnersIn_18 rfl ?_
    refine g_get h 5 0 0 ⟨rfl, rfl⟩ rfl rfl uin_X4 0 (by decide) fl_X4_12 rfl dX4_letWinnersIn_19 ?_
    refine g_get h 3 14 0 (ok_R (by decide)) rfl rfl uin_X2 1 (by decide) fl_X4_21 rfl dX4_letWinnersIn_22 ?_
    refine g_is (nI ((σ.2.1 14).2)) (by rw [eW]) ?_
    refine g_ncmp_ge h (a := t) (b := (σ.2.1 14).2) 125 dX4_letWinnersIn_25 (by decide) (by omega) (by omega) (fun c1 => ?_) (fun c1 => ?_)
    · exact g_vret h hR dX4_letWinnersIn_125 (by rw [ht]; exact hp)
    · exfalso; omega
  | succ m ih =>
    intro t a s F Q B τ ht hm hs hF hFl hQ hB hp
    have eW : τ.2.1 14 = σ.2.1 14 := by rw [ht, sW_w hi]
    have eF : τ.1 i = F := by rw [ht, sW_f]
    have eQ : τ.2.1 i = Q := by rw [ht, sW_q hi]
    have eB : τ.2.1 15 = B := by rw [ht, sW_b]
    have hnL := hW.2 t (by omega)
    obtain ⟨n, hn⟩ : ∃ n, n = (σ.2.1 14).1 t := ⟨_, rfl⟩
    rw [← hn] at hnL
    have hn64 : n < 64 := by omega
    refine g_iload h (q := 4) 4 dX4_letWinnersIn_16 rfl ?_
    refine g_aload_n h (q := 0) 0 dX4_letWinnersIn_18 rfl ?_
    refine g_get h 5 0 0 ⟨rfl, rfl⟩ rfl rfl uin_X4 0 (by decide) fl_X4_12 rfl dX4_letWinnersIn_19 ?_
    refine g_get h 3 14 0 (ok_R (by decide)) rfl rfl uin_X2 1 (by decide) fl_X4_21 rfl dX4_letWinnersIn_22 ?_
    refine g_is (nI ((σ.2.1 14).2)) (by rw [eW]) ?_
    refine g_ncmp_ge h (a := t) (b := (σ.2.1 14).2) 125 dX4_letWinnersIn_25 (by decide) (by omega) (by omega) (fun c1 => ?_) (fun c1 => ?_)
    · exfalso; omega
    · refine g_aload_n h (q := 0) 0 dX4_letWinnersIn_28 rfl ?_
      refine g_get h 5 0 0 ⟨rfl, rfl⟩ rfl rfl uin_X4 0 (by decide) fl_X4_12 rfl dX4_letWinnersIn_29 ?_
      refine g_get h 3 14 0 (ok_R (by decide)) rfl rfl uin_X2 0 (by decide) fl_X4_55 rfl dX4_letWinnersIn_32 ?_
      refine g_iload h (q := 4) 4 dX4_letWinnersIn_35 rfl ?_
      refine g_aldR h 14 (by decide) (t) (by omega) dX4_letWinnersIn_37 ?_
      refine g_is (nI (n)) (by rw [eW, hn]) ?_
      refine g_istore h (q := 5) [(0, .ref (ad E 5 0 0)), (1, .ref (ad E 1 i 0)), (2, .int a), (3, .int (nI (s))), (4, .int (nI (t))), (5, .int (nI (n)))] dX4_letWinnersIn_38 (by decide) rfl ?_
      refine g_aload_n h (q := 1) 1 dX4_letWinnersIn_40 rfl ?_
      refine g_get h 1 i 0 (ok_F hi) rfl rfl uin_X0 7 (by decide) fl_X4_58 rfl dX4_letWinnersIn_41 ?_
      refine g_iload h (q := 5) 5 dX4_letWinnersIn_44 rfl ?_
      refine g_aldF h i 2 hi (by decide) (n) (show n < 64 by omega) dX4_letWinnersIn_46 ?_
      refine g_is (F.2.2 2 n) (by rw [eF]) ?_
      refine g_iload_n h (q := 2) 2 dX4_letWinnersIn_47 rfl ?_
      refine g_icmp_ne h 57 dX4_letWinnersIn_48 (by decide) (fun c2 => ?_) (fun c2 => ?_)
      · refine g_iconst h (v := 0) dX4_letWinnersIn_57 (by decide) ?_
        refine g_istore_n h (q := 3) [(0, .ref (ad E 5 0 0)), (1, .ref (ad E 1 i 0)), (2, .int a), (3, .int 0), (4, .int (nI (t))), (5, .int (nI (n)))] dX4_letWinnersIn_58 (by decide) rfl ?_
        refine g_aload_n h (q := 1) 1 dX4_letWinnersIn_59 rfl ?_
        refine g_get h 1 i 0 (ok_F hi) rfl rfl uin_X0 7 (by decide) fl_X4_58 rfl dX4_letWinnersIn_60 ?_
        refine g_iload h (q := 5) 5 dX4_letWinnersIn_63 rfl ?_
        refine g_aldF h i 2 hi (by decide) (n) (show n < 64 by omega) dX4_letWinnersIn_65 ?_
        refine g_is (F.2.2 2 n) (by rw [eF]) ?_
        refine g_istore_n h (q := 2) [(0, .ref (ad E 5 0 0)), (1, .ref (ad E 1 i 0)), (2, .int (F.2.2 2 n)), (3, .int 0), (4, .int (nI (t))), (5, .int (nI (n)))] dX4_letWinnersIn_66 (by decide) rfl ?_
        refine g_iload_n h (q := 3) 3 dX4_letWinnersIn_67 rfl ?_
        refine g_aload_n h (q := 1) 1 dX4_letWinnersIn_68 rfl ?_
        refine g_get h 1 i 0 (ok_F hi) rfl rfl uin_X0 0 (by decide) fl_X4_61 rfl dX4_letWinnersIn_69 ?_
        refine g_is (F.1 0) (by rw [eF]) ?_
        refine g_icmp_ge h 108 dX4_letWinnersIn_72 (by decide) (fun c3 => ?_) (fun c3 => ?_)
        · refine g_aload_n h (q := 0) 0 dX4_letWinnersIn_108 rfl ?_
          refine g_get h 5 0 0 ⟨rfl, rfl⟩ rfl rfl uin_X4 1 (by decide) fl_X4_18 rfl dX4_letWinnersIn_109 ?_
          refine g_iload h (q := 5) 5 dX4_letWinnersIn_112 rfl ?_
          refine g_aload_n h (q := 1) 1 dX4_letWinnersIn_114 rfl ?_
          refine g_iconst h (v := bI false) dX4_letWinnersIn_115 (by decide) ?_
          refine g_callV h mv_X2_addInOrder 3 15 0 (ok_R (by decide)) rfl rfl (As := [.int (nI (n)), .ref (ad E 1 i 0), .int (bI false)]) (c_X2_addInOrder (kl K) hE (σ := τ) 15 i (by decide) hi n hn64 false (by rw [eB]; exact hB)) ml_X4_34 rfl (by decide) (by decide) rfl (Nat.le_of_ble_eq_true rfl) dX4_letWinnersIn_116 (fun v σ9 h9 => ?_)
          rw [h9.1, h9.2]; clear h9
          rw [eB, eF]
          generalize ht4 : sR τ 15 (rIns (fun y => gB F n y false) B n) = τ4
          refine g_iinc h (q := 4) (v := nI (t + 1)) 4 [(0, .ref (ad E 5 0 0)), (1, .ref (ad E 1 i 0)), (2, .int (F.2.2 2 n)), (3, .int 0), (4, .int (nI (t + 1))), (5, .int (nI (n)))] dX4_letWinnersIn_119 rfl (nI_inc t 1) (by decide) rfl ?_
          refine g_goto h 16 dX4_letWinnersIn_122 (by decide) ?_
          refine g_sub [(0, .ref (ad E 5 0 0)), (1, .ref (ad E 1 i 0)), (2, .int (F.2.2 2 n)), (3, .int (nI (0))), (4, .int (nI (t + 1)))] [0, 1, 2, 3, 4] rfl ?_
          refine ih (t + 1) (F.2.2 2 n) (0) F Q (rIns (fun y => gB F n y false) B n) τ4 (by rw [← ht4, ht, sW_B]) (by omega) (by omega) hF hFl hQ (rIns_ok hB hn64) ?_
          have e : lwL (σ.2.1 14) (m + 1) t a s F Q B = lwL (σ.2.1 14) m (t + 1) (F.2.2 2 n) (0) F Q (rIns (fun y => gB F n y false) B n) := by rw [lwL, ← hn, if_neg c2, if_neg (fun q => by first | exact absurd q.1 (i_nlt c3) | exact absurd q.2 (i_nlt c4))]
          rw [e] at hp
          exact hp
        · refine g_aload_n h (q := 1) 1 dX4_letWinnersIn_75 rfl ?_
          refine g_get h 1 i 0 (ok_F hi) rfl rfl uin_X0 13 (by decide) fl_X4_64 rfl dX4_letWinnersIn_76 ?_
          refine g_get h 3 i 0 (ok_R (by omega)) rfl rfl uin_X2 1 (by decide) fl_X4_21 rfl dX4_letWinnersIn_79 ?_
          refine g_is (nI (Q.2)) (by rw [eQ]) ?_
          refine g_aload_n h (q := 1) 1 dX4_letWinnersIn_82 rfl ?_
          refine g_get h 1 i 0 (ok_F hi) rfl rfl uin_X0 2 (by decide) fl_X4_67 rfl dX4_letWinnersIn_83 ?_
          refine g_is (F.1 2) (by rw [eF]) ?_
          refine g_icmp_ge h 108 dX4_letWinnersIn_86 (by decide) (fun c4 => ?_) (fun c4 => ?_)
          · refine g_aload_n h (q := 0) 0 dX4_letWinnersIn_108 rfl ?_
            refine g_get h 5 0 0 ⟨rfl, rfl⟩ rfl rfl uin_X4 1 (by decide) fl_X4_18 rfl dX4_letWinnersIn_109 ?_
            refine g_iload h (q := 5) 5 dX4_letWinnersIn_112 rfl ?_
            refine g_aload_n h (q := 1) 1 dX4_letWinnersIn_114 rfl ?_
            refine g_iconst h (v := bI false) dX4_letWinnersIn_115 (by decide) ?_
            refine g_callV h mv_X2_addInOrder 3 15 0 (ok_R (by decide)) rfl rfl (As := [.int (nI (n)), .ref (ad E 1 i 0), .int (bI false)]) (c_X2_addInOrder (kl K) hE (σ := τ) 15 i (by decide) hi n hn64 false (by rw [eB]; exact hB)) ml_X4_34 rfl (by decide) (by decide) rfl (Nat.le_of_ble_eq_true rfl) dX4_letWinnersIn_116 (fun v σ9 h9 => ?_)
            rw [h9.1, h9.2]; clear h9
            rw [eB, eF]
            generalize ht4 : sR τ 15 (rIns (fun y => gB F n y false) B n) = τ4
            refine g_iinc h (q := 4) (v := nI (t + 1)) 4 [(0, .ref (ad E 5 0 0)), (1, .ref (ad E 1 i 0)), (2, .int (F.2.2 2 n)), (3, .int 0), (4, .int (nI (t + 1))), (5, .int (nI (n)))] dX4_letWinnersIn_119 rfl (nI_inc t 1) (by decide) rfl ?_
            refine g_goto h 16 dX4_letWinnersIn_122 (by decide) ?_
            refine g_sub [(0, .ref (ad E 5 0 0)), (1, .ref (ad E 1 i 0)), (2, .int (F.2.2 2 n)), (3, .int (nI (0))), (4, .int (nI (t + 1)))] [0, 1, 2, 3, 4] rfl ?_
            refine ih (t + 1) (F.2.2 2 n) (0) F Q (rIns (fun y => gB F n y false) B n) τ4 (by rw [← ht4, ht, sW_B]) (by omega) (by omega) hF hFl hQ (rIns_ok hB hn64) ?_
            have e : lwL (σ.2.1 14) (m + 1) t a s F Q B = lwL (σ.2.1 14) m (t + 1) (F.2.2 2 n) (0) F Q (rIns (fun y => gB F n y false) B n) := by rw [lwL, ← hn, if_neg c2, if_neg (fun q => by first | exact absurd q.1 (i_nlt c3) | exact absurd q.2 (i_nlt c4))]
            rw [e] at hp
            exact hp
          · refine g_aload_n h (q := 1) 1 dX4_letWinnersIn_89 rfl ?_
            refine g_get h 1 i 0 (ok_F hi) rfl rfl uin_X0 13 (by decide) fl_X4_64 rfl dX4_letWinnersIn_90 ?_
            refine g_iload h (q := 5) 5 dX4_letWinnersIn_93 rfl ?_
            refine g_callV h mv_X2_add 3 i 0 (ok_R (by omega)) rfl rfl (As := [.int (nI (n))]) (c_X2_add (kl K) hE (σ := τ) i (by omega) (by rw [eQ]; exact hQ) n) ml_X4_70 rfl (by decide) (by decide) rfl (Nat.le_of_ble_eq_true rfl) dX4_letWinnersIn_95 (fun v σ9 h9 => ?_)
            rw [h9.1, h9.2]; clear h9
            rw [eQ]
            generalize ht2 : sR τ i (rAdd Q n) = τ2
            have eF2 : τ2.1 i = F := by rw [← ht2, ← eF]; rfl
            refine g_aload_n h (q := 1) 1 dX4_letWinnersIn_98 rfl ?_
            refine g_iload h (q := 5) 5 dX4_letWinnersIn_99 rfl ?_
            refine g_iconst h (v := 2) dX4_letWinnersIn_101 (by decide) ?_
            refine g_callV h mv_X0_moveLetter 1 i 0 (ok_F hi) rfl rfl (As := [.int (nI (n)), .int 2]) (c_X0_moveLetter (kl K) hE (σ := τ2) i hi n 2 hn64 (by decide) (by rw [eF2]; exact hF.2 n (by omega))) ml_X4_74 rfl (by decide) (by decide) rfl (Nat.le_of_ble_eq_true rfl) dX4_letWinnersIn_102 (fun v σ9 h9 => ?_)
            rw [h9.1, h9.2]; clear h9
            rw [eF2]
            generalize ht3 : sF τ2 i (mvL F n 2) = τ3
            refine g_goto h 119 dX4_letWinnersIn_105 (by decide) ?_
            refine g_iinc h (q := 4) (v := nI (t + 1)) 4 [(0, .ref (ad E 5 0 0)), (1, .ref (ad E 1 i 0)), (2, .int (F.2.2 2 n)), (3, .int 0), (4, .int (nI (t + 1))), (5, .int (nI (n)))] dX4_letWinnersIn_119 rfl (nI_inc t 1) (by decide) rfl ?_
            refine g_goto h 16 dX4_letWinnersIn_122 (by decide) ?_
            refine g_sub [(0, .ref (ad E 5 0 0)), (1, .ref (ad E 1 i 0)), (2, .int (F.2.2 2 n)), (3, .int (nI (0))), (4, .int (nI (t + 1)))] [0, 1, 2, 3, 4] rfl ?_
            refine ih (t + 1) (F.2.2 2 n) (0) (mvL F n 2) (rAdd Q n) B τ3 (by rw [← ht3, ← ht2, ht, sW_Q hi, sW_F]) (by omega) (by omega) (mvL_pk hF n (by decide)) hFl (rAdd_le hQ n) hB ?_
            have e : lwL (σ.2.1 14) (m + 1) t a s F Q B = lwL (σ.2.1 14) m (t + 1) (F.2.2 2 n) (0) (mvL F n 2) (rAdd Q n) B := by rw [lwL, ← hn, if_neg c2, if_pos ⟨i_lt c3, i_lt c4⟩]
            rw [e] at hp
            exact hp
      · refine g_iload_n h (q := 3) 3 dX4_letWinnersIn_51 rfl ?_
        refine g_iconst h (v := 1) dX4_letWinnersIn_52 (by decide) ?_
        refine g_iadd h dX4_letWinnersIn_53 ?_
        refine g_is (nI (s + 1)) (nI_add s 1) ?_
        refine g_goto h 58 dX4_letWinnersIn_54 (by decide) ?_
        refine g_istore_n h (q := 3) [(0, .ref (ad E 5 0 0)), (1, .ref (ad E 1 i 0)), (2, .int a), (3, .int (nI (s + 1))), (4, .int (nI (t))), (5, .int (nI (n)))] dX4_letWinnersIn_58 (by decide) rfl ?_
        refine g_aload_n h (q := 1) 1 dX4_letWinnersIn_59 rfl ?_
        refine g_get h 1 i 0 (ok_F hi) rfl rfl uin_X0 7 (by decide) fl_X4_58 rfl dX4_letWinnersIn_60 ?_
        refine g_iload h (q := 5) 5 dX4_letWinnersIn_63 rfl ?_
        refine g_aldF h i 2 hi (by decide) (n) (show n < 64 by omega) dX4_letWinnersIn_65 ?_
        refine g_is (F.2.2 2 n) (by rw [eF]) ?_
        refine g_istore_n h (q := 2) [(0, .ref (ad E 5 0 0)), (1, .ref (ad E 1 i 0)), (2, .int (F.2.2 2 n)), (3, .int (nI (s + 1))), (4, .int (nI (t))), (5, .int (nI (n)))] dX4_letWinnersIn_66 (by decide) rfl ?_
        refine g_iload_n h (q := 3) 3 dX4_letWinnersIn_67 rfl ?_
        refine g_aload_n h (q := 1) 1 dX4_letWinnersIn_68 rfl ?_
        refine g_get h 1 i 0 (ok_F hi) rfl rfl uin_X0 0 (by decide) fl_X4_61 rfl dX4_letWinnersIn_69 ?_
        refine g_is (F.1 0) (by rw [eF]) ?_
        refine g_icmp_ge h 108 dX4_letWinnersIn_72 (by decide) (fun c3 => ?_) (fun c3 => ?_)
        · refine g_aload_n h (q := 0) 0 dX4_letWinnersIn_108 rfl ?_
          refine g_get h 5 0 0 ⟨rfl, rfl⟩ rfl rfl uin_X4 1 (by decide) fl_X4_18 rfl dX4_letWinnersIn_109 ?_
          refine g_iload h (q := 5) 5 dX4_letWinnersIn_112 rfl ?_
          refine g_aload_n h (q := 1) 1 dX4_letWinnersIn_114 rfl ?_
          refine g_iconst h (v := bI false) dX4_letWinnersIn_115 (by decide) ?_
          refine g_callV h mv_X2_addInOrder 3 15 0 (ok_R (by decide)) rfl rfl (As := [.int (nI (n)), .ref (ad E 1 i 0), .int (bI false)]) (c_X2_addInOrder (kl K) hE (σ := τ) 15 i (by decide) hi n hn64 false (by rw [eB]; exact hB)) ml_X4_34 rfl (by decide) (by decide) rfl (Nat.le_of_ble_eq_true rfl) dX4_letWinnersIn_116 (fun v σ9 h9 => ?_)
          rw [h9.1, h9.2]; clear h9
          rw [eB, eF]
          generalize ht4 : sR τ 15 (rIns (fun y => gB F n y false) B n) = τ4
          refine g_iinc h (q := 4) (v := nI (t + 1)) 4 [(0, .ref (ad E 5 0 0)), (1, .ref (ad E 1 i 0)), (2, .int (F.2.2 2 n)), (3, .int (nI (s + 1))), (4, .int (nI (t + 1))), (5, .int (nI (n)))] dX4_letWinnersIn_119 rfl (nI_inc t 1) (by decide) rfl ?_
          refine g_goto h 16 dX4_letWinnersIn_122 (by decide) ?_
          refine g_sub [(0, .ref (ad E 5 0 0)), (1, .ref (ad E 1 i 0)), (2, .int (F.2.2 2 n)), (3, .int (nI (s + 1))), (4, .int (nI (t + 1)))] [0, 1, 2, 3, 4] rfl ?_
          refine ih (t + 1) (F.2.2 2 n) (s + 1) F Q (rIns (fun y => gB F n y false) B n) τ4 (by rw [← ht4, ht, sW_B]) (by omega) (by omega) hF hFl hQ (rIns_ok hB hn64) ?_
          have e : lwL (σ.2.1 14) (m + 1) t a s F Q B = lwL (σ.2.1 14) m (t + 1) (F.2.2 2 n) (s + 1) F Q (rIns (fun y => gB F n y false) B n) := by rw [lwL, ← hn, if_pos c2, if_neg (fun q => by first | exact absurd q.1 (i_nlt c3) | exact absurd q.2 (i_nlt c4))]
          rw [e] at hp
          exact hp
        · refine g_aload_n h (q := 1) 1 dX4_letWinnersIn_75 rfl ?_
          refine g_get h 1 i 0 (ok_F hi) rfl rfl uin_X0 13 (by decide) fl_X4_64 rfl dX4_letWinnersIn_76 ?_
          refine g_get h 3 i 0 (ok_R (by omega)) rfl rfl uin_X2 1 (by decide) fl_X4_21 rfl dX4_letWinnersIn_79 ?_
          refine g_is (nI (Q.2)) (by rw [eQ]) ?_
          refine g_aload_n h (q := 1) 1 dX4_letWinnersIn_82 rfl ?_
          refine g_get h 1 i 0 (ok_F hi) rfl rfl uin_X0 2 (by decide) fl_X4_67 rfl dX4_letWinnersIn_83 ?_
          refine g_is (F.1 2) (by rw [eF]) ?_
          refine g_icmp_ge h 108 dX4_letWinnersIn_86 (by decide) (fun c4 => ?_) (fun c4 => ?_)
          · refine g_aload_n h (q := 0) 0 dX4_letWinnersIn_108 rfl ?_
            refine g_get h 5 0 0 ⟨rfl, rfl⟩ rfl rfl uin_X4 1 (by decide) fl_X4_18 rfl dX4_letWinnersIn_109 ?_
            refine g_iload h (q := 5) 5 dX4_letWinnersIn_112 rfl ?_
            refine g_aload_n h (q := 1) 1 dX4_letWinnersIn_114 rfl ?_
            refine g_iconst h (v := bI false) dX4_letWinnersIn_115 (by decide) ?_
            refine g_callV h mv_X2_addInOrder 3 15 0 (ok_R (by decide)) rfl rfl (As := [.int (nI (n)), .ref (ad E 1 i 0), .int (bI false)]) (c_X2_addInOrder (kl K) hE (σ := τ) 15 i (by decide) hi n hn64 false (by rw [eB]; exact hB)) ml_X4_34 rfl (by decide) (by decide) rfl (Nat.le_of_ble_eq_true rfl) dX4_letWinnersIn_116 (fun v σ9 h9 => ?_)
            rw [h9.1, h9.2]; clear h9
            rw [eB, eF]
            generalize ht4 : sR τ 15 (rIns (fun y => gB F n y false) B n) = τ4
            refine g_iinc h (q := 4) (v := nI (t + 1)) 4 [(0, .ref (ad E 5 0 0)), (1, .ref (ad E 1 i 0)), (2, .int (F.2.2 2 n)), (3, .int (nI (s + 1))), (4, .int (nI (t + 1))), (5, .int (nI (n)))] dX4_letWinnersIn_119 rfl (nI_inc t 1) (by decide) rfl ?_
            refine g_goto h 16 dX4_letWinnersIn_122 (by decide) ?_
            refine g_sub [(0, .ref (ad E 5 0 0)), (1, .ref (ad E 1 i 0)), (2, .int (F.2.2 2 n)), (3, .int (nI (s + 1))), (4, .int (nI (t + 1)))] [0, 1, 2, 3, 4] rfl ?_
            refine ih (t + 1) (F.2.2 2 n) (s + 1) F Q (rIns (fun y => gB F n y false) B n) τ4 (by rw [← ht4, ht, sW_B]) (by omega) (by omega) hF hFl hQ (rIns_ok hB hn64) ?_
            have e : lwL (σ.2.1 14) (m + 1) t a s F Q B = lwL (σ.2.1 14) m (t + 1) (F.2.2 2 n) (s + 1) F Q (rIns (fun y => gB F n y false) B n) := by rw [lwL, ← hn, if_pos c2, if_neg (fun q => by first | exact absurd q.1 (i_nlt c3) | exact absurd q.2 (i_nlt c4))]
            rw [e] at hp
            exact hp
          · refine g_aload_n h (q := 1) 1 dX4_letWinnersIn_89 rfl ?_
            refine g_get h 1 i 0 (ok_F hi) rfl rfl uin_X0 13 (by decide) fl_X4_64 rfl dX4_letWinnersIn_90 ?_
            refine g_iload h (q := 5) 5 dX4_letWinnersIn_93 rfl ?_
            refine g_callV h mv_X2_add 3 i 0 (ok_R (by omega)) rfl rfl (As := [.int (nI (n))]) (c_X2_add (kl K) hE (σ := τ) i (by omega) (by rw [eQ]; exact hQ) n) ml_X4_70 rfl (by decide) (by decide) rfl (Nat.le_of_ble_eq_true rfl) dX4_letWinnersIn_95 (fun v σ9 h9 => ?_)
            rw [h9.1, h9.2]; clear h9
            rw [eQ]
            generalize ht2 : sR τ i (rAdd Q n) = τ2
            have eF2 : τ2.1 i = F := by rw [← ht2, ← eF]; rfl
            refine g_aload_n h (q := 1) 1 dX4_letWinnersIn_98 rfl ?_
            refine g_iload h (q := 5) 5 dX4_letWinnersIn_99 rfl ?_
            refine g_iconst h (v := 2) dX4_letWinnersIn_101 (by decide) ?_
            refine g_callV h mv_X0_moveLetter 1 i 0 (ok_F hi) rfl rfl (As := [.int (nI (n)), .int 2]) (c_X0_moveLetter (kl K) hE (σ := τ2) i hi n 2 hn64 (by decide) (by rw [eF2]; exact hF.2 n (by omega))) ml_X4_74 rfl (by decide) (by decide) rfl (Nat.le_of_ble_eq_true rfl) dX4_letWinnersIn_102 (fun v σ9 h9 => ?_)
            rw [h9.1, h9.2]; clear h9
            rw [eF2]
            generalize ht3 : sF τ2 i (mvL F n 2) = τ3
            refine g_goto h 119 dX4_letWinnersIn_105 (by decide) ?_
            refine g_iinc h (q := 4) (v := nI (t + 1)) 4 [(0, .ref (ad E 5 0 0)), (1, .ref (ad E 1 i 0)), (2, .int (F.2.2 2 n)), (3, .int (nI (s + 1))), (4, .int (nI (t + 1))), (5, .int (nI (n)))] dX4_letWinnersIn_119 rfl (nI_inc t 1) (by decide) rfl ?_
            refine g_goto h 16 dX4_letWinnersIn_122 (by decide) ?_
            refine g_sub [(0, .ref (ad E 5 0 0)), (1, .ref (ad E 1 i 0)), (2, .int (F.2.2 2 n)), (3, .int (nI (s + 1))), (4, .int (nI (t + 1)))] [0, 1, 2, 3, 4] rfl ?_
            refine ih (t + 1) (F.2.2 2 n) (s + 1) (mvL F n 2) (rAdd Q n) B τ3 (by rw [← ht3, ← ht2, ht, sW_Q hi, sW_F]) (by omega) (by omega) (mvL_pk hF n (by decide)) hFl (rAdd_le hQ n) hB ?_
            have e : lwL (σ.2.1 14) (m + 1) t a s F Q B = lwL (σ.2.1 14) m (t + 1) (F.2.2 2 n) (s + 1) (mvL F n 2) (rAdd Q n) B := by rw [lwL, ← hn, if_pos c2, if_pos ⟨i_lt c3, i_lt c4⟩]
            rw [e] at hp
            exact hp
set_option maxHeartbeats 4000000 in
theorem c_X4_letWinnersIn (l : Launch) {E : EnvT} (hE : EOK E) {σ : ST} (i : Nat) (hi : i < 14) (hF : PK (σ.1 i)) (hW : ROK (σ.1 i).2.1 (σ.2.1 14)) (hQ : (σ.2.1 i).2 ≤ 64) : Con l E yX4_letWinnersIn cX4_letWinnersIn 6 none 2 47 [.ref (ad E 5 0 0), .ref (ad E 1 i 0)] σ (rV (sW σ i (lwL (σ.2.1 14) (σ.2.1 14).2 0 (-9) 0 (σ.1 i) (σ.2.1 i) ((σ.2.1 15).1, 0)).1 (lwL (σ.2.1 14) (σ.2.1 14).2 0 (-9) 0 (σ.1 i) (σ.2.1 i) ((σ.2.1 15).1, 0)).2.1 (lwL (σ.2.1 14) (σ.2.1 14).2 0 (-9) 0 (σ.1 i) (σ.2.1 i) ((σ.2.1 15).1, 0)).2.2)) := by
  refine con_intro hE (by decide) (Nat.le_of_ble_eq_true rfl) (fun K hkl h hR => ?_)
  subst hkl
  have h : Cx K E cX4_letWinnersIn 6 RX4 2 47 := h
  show GG K E σ 0 [(0, .ref (ad E 5 0 0)), (1, .ref (ad E 1 i 0))] []
  refine g_aload_n h (q := 0) 0 dX4_letWinnersIn_0 rfl ?_
  refine g_get h 5 0 0 ⟨rfl, rfl⟩ rfl rfl uin_X4 1 (by decide) fl_X4_18 rfl dX4_letWinnersIn_1 ?_
  refine g_iconst h (v := 0) dX4_letWinnersIn_4 (by decide) ?_
  refine g_putRs h 15 (by decide) (m := 0) fl_X4_21 dX4_letWinnersIn_5 (fun σ1 hσ1 => ?_)
  refine g_bipush h (v := (-9)) dX4_letWinnersIn_8 (by decide) ?_
  refine g_istore_n h (q := 2) [(0, .ref (ad E 5 0 0)), (1, .ref (ad E 1 i 0)), (2, .int ((-9)))] dX4_letWinnersIn_10 (by decide) rfl ?_
  refine g_iconst h (v := 0) dX4_letWinnersIn_11 (by decide) ?_
  refine g_istore_n h (q := 3) [(0, .ref (ad E 5 0 0)), (1, .ref (ad E 1 i 0)), (2, .int ((-9))), (3, .int 0)] dX4_letWinnersIn_12 (by decide) rfl ?_
  refine g_iconst h (v := 0) dX4_letWinnersIn_13 (by decide) ?_
  refine g_istore h (q := 4) [(0, .ref (ad E 5 0 0)), (1, .ref (ad E 1 i 0)), (2, .int ((-9))), (3, .int 0), (4, .int 0)] dX4_letWinnersIn_14 (by decide) rfl ?_
  exact l_X4_letWinnersIn (σ := σ) hE h hR i hi hF.1 hW _ 0 (-9) 0 (σ.1 i) (σ.2.1 i) ((σ.2.1 15).1, 0) σ1 (by rw [hσ1]; simp only [sW, sF, sR, up_id]) (Nat.zero_add _) (Nat.le_refl _) hF rfl hQ ⟨Nat.zero_le _, fun t q => absurd q (Nat.not_lt_zero t)⟩ ⟨rfl, rfl⟩
end
section
def tbL (B : RowT) : Nat → Nat → FabT → FabT
  | 0, _, F => F
  | m + 1, t, F => if nI t < F.1 1 then tbL B m (t + 1) (rdL (mvL F (B.1 t) 1) (B.1 t)) else tbL B m (t + 1) (enL F (B.1 t) 4)
set_option maxHeartbeats 4000000 in
theorem l_X4_turnBackBeaten {K : KX} {E : EnvT} (hE : EOK E) (h : Cx K E cX4_turnBackBeaten 4 RX4 2 45) {σ : ST} {post : Option Value → ST → Prop} (hR : Rx K E none post) (i : Nat) (hi : i < 14) (hB : ROK (σ.1 i).2.1 (σ.2.1 15)) : ∀ m t F τ, τ = sF σ i F → t + m = (σ.2.1 15).2 → PK F → F.2.1 = (σ.1 i).2.1 → post none (sF σ i (tbL (σ.2.1 15) m t F)) → GG K E τ 2 [(0, .ref (ad E 5 0 0)), (1, .ref (ad E 1 i 0)), (2, .int (nI t))] [] := by
  have hB1 := hB.1
  intro m
  induction m with
  | zero =>
    intro t F τ ht hm hF hFl hp
    have eB : τ.2.1 15 = σ.2.1 15 := by rw [ht]; rfl
    refine g_iload_n h (q := 2) 2 dX4_turnBackBeaten_2 rfl ?_
    refine g_aload_n h (q := 0) 0 dX4_turnBackBeaten_3 rfl ?_
    refine g_get h 5 0 0 ⟨rfl, rfl⟩ rfl rfl uin_X4 1 (by decide) fl_X4_18 rfl dX4_turnBackBeaten_4 ?_
    refine g_get h 3 15 0 (ok_R (by decide)) rfl rfl uin_X2 1 (by decide) fl_X4_21 rfl dX4_turnBackBeaten_7 ?_
    refine g_is (nI ((σ.2.1 15).2)) (by rw [eB]) ?_
    refine g_ncmp_ge h (a := t) (b := (σ.2.1 15).2) 63 dX4_turnBackBeaten_10 (by decide) (by omega) (by omega) (fun c1 => ?_) (fun c1 => ?_)
    · exact g_vret h hR dX4_turnBackBeaten_63 (by rw [ht]; exact hp)
    · exfalso; omega
  | succ m ih =>
    intro t F τ ht hm hF hFl hp
    have eB : τ.2.1 15 = σ.2.1 15 := by rw [ht]; rfl
    have eF : τ.1 i = F := by rw [ht, sF_at]
    have hnL := hB.2 t (by omega)
    have hF1 := hF.1
    obtain ⟨n, hn⟩ : ∃ n, n = (σ.2.1 15).1 t := ⟨_, rfl⟩
    rw [← hn] at hnL
    have hn64 : n < 64 := by omega
    refine g_iload_n h (q := 2) 2 dX4_turnBackBeaten_2 rfl ?_
    refine g_aload_n h (q := 0) 0 dX4_turnBackBeaten_3 rfl ?_
    refine g_get h 5 0 0 ⟨rfl, rfl⟩ rfl rfl uin_X4 1 (by decide) fl_X4_18 rfl dX4_turnBackBeaten_4 ?_
    refine g_get h 3 15 0 (ok_R (by decide)) rfl rfl uin_X2 1 (by decide) fl_X4_21 rfl dX4_turnBackBeaten_7 ?_
    refine g_is (nI ((σ.2.1 15).2)) (by rw [eB]) ?_
    refine g_ncmp_ge h (a := t) (b := (σ.2.1 15).2) 63 dX4_turnBackBeaten_10 (by decide) (by omega) (by omega) (fun c1 => ?_) (fun c1 => ?_)
    · exfalso; omega
    · refine g_aload_n h (q := 0) 0 dX4_turnBackBeaten_13 rfl ?_
      refine g_get h 5 0 0 ⟨rfl, rfl⟩ rfl rfl uin_X4 1 (by decide) fl_X4_18 rfl dX4_turnBackBeaten_14 ?_
      refine g_get h 3 15 0 (ok_R (by decide)) rfl rfl uin_X2 0 (by decide) fl_X4_55 rfl dX4_turnBackBeaten_17 ?_
      refine g_iload_n h (q := 2) 2 dX4_turnBackBeaten_20 rfl ?_
      refine g_aldR h 15 (by decide) (t) (by omega) dX4_turnBackBeaten_21 ?_
      refine g_is (nI (n)) (by rw [eB, hn]) ?_
      refine g_istore_n h (q := 3) [(0, .ref (ad E 5 0 0)), (1, .ref (ad E 1 i 0)), (2, .int (nI (t))), (3, .int (nI (n)))] dX4_turnBackBeaten_22 (by decide) rfl ?_
      refine g_iload_n h (q := 2) 2 dX4_turnBackBeaten_23 rfl ?_
      refine g_aload_n h (q := 1) 1 dX4_turnBackBeaten_24 rfl ?_
      refine g_get h 1 i 0 (ok_F hi) rfl rfl uin_X0 1 (by decide) fl_X4_78 rfl dX4_turnBackBeaten_25 ?_
      refine g_is (F.1 1) (by rw [eF]) ?_
      refine g_icmp_ge h 50 dX4_turnBackBeaten_28 (by decide) (fun c2 => ?_) (fun c2 => ?_)
      · refine g_aload_n h (q := 0) 0 dX4_turnBackBeaten_50 rfl ?_
        refine g_aload_n h (q := 1) 1 dX4_turnBackBeaten_51 rfl ?_
        refine g_iload_n h (q := 3) 3 dX4_turnBackBeaten_52 rfl ?_
        refine g_iconst h (v := 4) dX4_turnBackBeaten_53 (by decide) ?_
        refine g_callV h mv_X4_endLetter 5 0 0 ⟨rfl, rfl⟩ rfl rfl (As := [.ref (ad E 1 i 0), .int (nI (n)), .int 4]) (c_X4_endLetter (kl K) hE (σ := τ) i hi n 4 hn64 (by decide) (by rw [eF]; exact hF.2 n (by omega))) ml_X4_84 rfl (by decide) (by decide) rfl (Nat.le_of_ble_eq_true rfl) dX4_turnBackBeaten_54 (fun v σ9 h9 => ?_)
        rw [h9.1, h9.2]; clear h9
        rw [eF]
        generalize ht3 : sF τ i (enL F n 4) = τ3
        refine g_iinc h (q := 2) (v := nI (t + 1)) 2 [(0, .ref (ad E 5 0 0)), (1, .ref (ad E 1 i 0)), (2, .int (nI (t + 1))), (3, .int (nI (n)))] dX4_turnBackBeaten_57 rfl (nI_inc t 1) (by decide) rfl ?_
        refine g_goto h 2 dX4_turnBackBeaten_60 (by decide) ?_
        refine g_sub [(0, .ref (ad E 5 0 0)), (1, .ref (ad E 1 i 0)), (2, .int (nI (t + 1)))] [0, 1, 2] rfl ?_
        exact ih (t + 1) (enL F n 4) τ3 (by rw [← ht3, ht, sF_sF]) (by omega) (enL_pk hF n (by decide)) hFl (by rw [tbL, ← hn, if_neg (i_nlt c2)] at hp; exact hp)
      · refine g_aload_n h (q := 1) 1 dX4_turnBackBeaten_31 rfl ?_
        refine g_iload_n h (q := 3) 3 dX4_turnBackBeaten_32 rfl ?_
        refine g_iconst h (v := 1) dX4_turnBackBeaten_33 (by decide) ?_
        refine g_callV h mv_X0_moveLetter 1 i 0 (ok_F hi) rfl rfl (As := [.int (nI (n)), .int 1]) (c_X0_moveLetter (kl K) hE (σ := τ) i hi n 1 hn64 (by decide) (by rw [eF]; exact hF.2 n (by omega))) ml_X4_74 rfl (by decide) (by decide) rfl (Nat.le_of_ble_eq_true rfl) dX4_turnBackBeaten_34 (fun v σ9 h9 => ?_)
        rw [h9.1, h9.2]; clear h9
        rw [eF]
        generalize ht2 : sF τ i (mvL F n 1) = τ2
        have eF2 : τ2.1 i = mvL F n 1 := by rw [← ht2, sF_at]
        refine g_aload_n h (q := 1) 1 dX4_turnBackBeaten_37 rfl ?_
        refine g_get h 1 i 0 (ok_F hi) rfl rfl uin_X0 11 (by decide) fl_X4_81 rfl dX4_turnBackBeaten_38 ?_
        refine g_iload_n h (q := 3) 3 dX4_turnBackBeaten_41 rfl ?_
        refine g_dup2 h dX4_turnBackBeaten_42 rfl rfl ?_
        refine g_aldF h i 6 hi (by decide) (n) (show n < 64 by omega) dX4_turnBackBeaten_43 ?_
        refine g_iconst h (v := 1) dX4_turnBackBeaten_44 (by decide) ?_
        refine g_iadd h dX4_turnBackBeaten_45 ?_
        refine g_astF h i 6 hi (by decide) (n) (show n < 64 by omega) dX4_turnBackBeaten_46 (fun σ1 hσ1 => ?_)
        refine g_goto h 57 dX4_turnBackBeaten_47 (by decide) ?_
        refine g_iinc h (q := 2) (v := nI (t + 1)) 2 [(0, .ref (ad E 5 0 0)), (1, .ref (ad E 1 i 0)), (2, .int (nI (t + 1))), (3, .int (nI (n)))] dX4_turnBackBeaten_57 rfl (nI_inc t 1) (by decide) rfl ?_
        refine g_goto h 2 dX4_turnBackBeaten_60 (by decide) ?_
        refine g_sub [(0, .ref (ad E 5 0 0)), (1, .ref (ad E 1 i 0)), (2, .int (nI (t + 1)))] [0, 1, 2] rfl ?_
        exact ih (t + 1) (rdL (mvL F n 1) n) σ1 (by rw [hσ1, eF2, ← ht2, ht, sF_sF, sF_sF]; rfl) (by omega) (rdL_pk (mvL_pk hF n (by decide)) n) hFl (by rw [tbL, ← hn, if_pos (i_lt c2)] at hp; exact hp)
set_option maxHeartbeats 4000000 in
theorem c_X4_turnBackBeaten (l : Launch) {E : EnvT} (hE : EOK E) {σ : ST} (i : Nat) (hi : i < 14) (hF : PK (σ.1 i)) (hB : ROK (σ.1 i).2.1 (σ.2.1 15)) : Con l E yX4_turnBackBeaten cX4_turnBackBeaten 4 none 2 45 [.ref (ad E 5 0 0), .ref (ad E 1 i 0)] σ (rV (sF σ i (tbL (σ.2.1 15) (σ.2.1 15).2 0 (σ.1 i)))) := by
  refine con_intro hE (by decide) (Nat.le_of_ble_eq_true rfl) (fun K hkl h hR => ?_)
  subst hkl
  have h : Cx K E cX4_turnBackBeaten 4 RX4 2 45 := h
  show GG K E σ 0 [(0, .ref (ad E 5 0 0)), (1, .ref (ad E 1 i 0))] []
  refine g_iconst h (v := 0) dX4_turnBackBeaten_0 (by decide) ?_
  refine g_istore_n h (q := 2) [(0, .ref (ad E 5 0 0)), (1, .ref (ad E 1 i 0)), (2, .int 0)] dX4_turnBackBeaten_1 (by decide) rfl ?_
  exact l_X4_turnBackBeaten (σ := σ) hE h hR i hi hB _ 0 (σ.1 i) σ (by simp [sF, up_id]) (Nat.zero_add _) hF rfl ⟨rfl, rfl⟩
def foL : Nat → Nat → Int32 → Nat → FabT → (Nat → Nat) → FabT × (Nat → Nat) × Nat
  | 0, _, _, l, F, g => (F, g, l)
  | m + 1, t, sv, l, F, g =>
    if sv &&& ((1 : Int32) <<< (F.2.2 2 (g t) &&& 31)) = 0 then foL m (t + 1) (sv ||| ((1 : Int32) <<< (F.2.2 2 (g t) &&& 31))) l (enL F (g t) 3) g
    else foL m (t + 1) sv (l + 1) F (va_up g l (g t))
def sQ (σ : ST) (i : Nat) (F : FabT) (Q : RowT) : ST := sR (sF σ i F) i Q
theorem sQ_F {σ : ST} {i : Nat} {F F' : FabT} {Q : RowT} : sF (sQ σ i F Q) i F' = sQ σ i F' Q := by simp [sQ, sF, sR, bx_uu]
theorem sQ_Q {σ : ST} {i : Nat} {F : FabT} {Q Q' : RowT} : sR (sQ σ i F Q) i Q' = sQ σ i F Q' := by simp [sQ, sR, bx_uu]
theorem sQ_f {σ : ST} {i : Nat} {F : FabT} {Q : RowT} : (sQ σ i F Q).1 i = F := by simp [sQ, sF, sR, up_s]
theorem sQ_q {σ : ST} {i : Nat} {F : FabT} {Q : RowT} : (sQ σ i F Q).2.1 i = Q := by simp [sQ, sR, up_s]
set_option maxHeartbeats 4000000 in
theorem l_X4_letFirstsOut {K : KX} {E : EnvT} (hE : EOK E) (h : Cx K E cX4_letFirstsOut 8 RX4 2 45) {σ : ST} {post : Option Value → ST → Prop} (hR : Rx K E none post) (i : Nat) (hi : i < 14) (L z : Nat) (hL : L ≤ 64) (hz : z ≤ 64) : ∀ m t sv l F g τ, τ = sQ σ i F (g, z) → t + m = z → l ≤ t → PK F → F.2.1 = L → (∀ q, t ≤ q → q < z → g q < L) → post none (sQ σ i (foL m t sv l F g).1 (foL m t sv l F g).2) → GG K E τ 13 [(0, .ref (ad E 5 0 0)), (1, .ref (ad E 1 i 0)), (2, .ref (ad E 3 i 0)), (3, .int sv), (4, .int (nI l)), (5, .int (nI t))] [] := by
  intro m
  induction m with
  | zero =>
    intro t sv l F g τ ht hm hlt hF hFl hg hp
    have eQ : τ.2.1 i = (g, z) := by rw [ht, sQ_q]
    refine g_iload h (q := 5) 5 dX4_letFirstsOut_13 rfl ?_
    refine g_aload_n h (q := 2) 2 dX4_letFirstsOut_15 rfl ?_
    refine g_get h 3 i 0 (ok_R (by omega)) rfl rfl uin_X2 1 (by decide) fl_X4_21 rfl dX4_letFirstsOut_16 ?_
    refine g_is (nI (z)) (by rw [eQ]) ?_
    refine g_ncmp_ge h (a := t) (b := z) 83 dX4_letFirstsOut_19 (by decide) (by omega) (by omega) (fun c1 => ?_) (fun c1 => ?_)
    · refine g_aload_n h (q := 2) 2 dX4_letFirstsOut_83 rfl ?_
      refine g_iload h (q := 4) 4 dX4_letFirstsOut_84 rfl ?_
      refine g_putRs h i (by omega) (m := l) fl_X4_21 dX4_letFirstsOut_86 (fun σ2 hσ2 => ?_)
      exact g_vret h hR dX4_letFirstsOut_89 (by rw [hσ2, eQ, ht, sQ_Q]; exact hp)
    · exfalso; omega
  | succ m ih =>
    intro t sv l F g τ ht hm hlt hF hFl hg hp
    have eQ : τ.2.1 i = (g, z) := by rw [ht, sQ_q]
    have eF : τ.1 i = F := by rw [ht, sQ_f]
    have hnL := hg t (Nat.le_refl _) (by omega)
    obtain ⟨n, hn⟩ : ∃ n, n = g t := ⟨_, rfl⟩
    rw [← hn] at hnL
    have hn64 : n < 64 := by omega
    refine g_iload h (q := 5) 5 dX4_letFirstsOut_13 rfl ?_
    refine g_aload_n h (q := 2) 2 dX4_letFirstsOut_15 rfl ?_
    refine g_get h 3 i 0 (ok_R (by omega)) rfl rfl uin_X2 1 (by decide) fl_X4_21 rfl dX4_letFirstsOut_16 ?_
    refine g_is (nI (z)) (by rw [eQ]) ?_
    refine g_ncmp_ge h (a := t) (b := z) 83 dX4_letFirstsOut_19 (by decide) (by omega) (by omega) (fun c1 => ?_) (fun c1 => ?_)
    · exfalso; omega
    · refine g_aload_n h (q := 2) 2 dX4_letFirstsOut_22 rfl ?_
      refine g_get h 3 i 0 (ok_R (by omega)) rfl rfl uin_X2 0 (by decide) fl_X4_55 rfl dX4_letFirstsOut_23 ?_
      refine g_iload h (q := 5) 5 dX4_letFirstsOut_26 rfl ?_
      refine g_aldR h i (by omega) (t) (by omega) dX4_letFirstsOut_28 ?_
      refine g_is (nI (n)) (by rw [eQ, hn]) ?_
      refine g_istore h (q := 6) [(0, .ref (ad E 5 0 0)), (1, .ref (ad E 1 i 0)), (2, .ref (ad E 3 i 0)), (3, .int sv), (4, .int (nI (l))), (5, .int (nI (t))), (6, .int (nI (n)))] dX4_letFirstsOut_29 (by decide) rfl ?_
      refine g_iconst h (v := 1) dX4_letFirstsOut_31 (by decide) ?_
      refine g_aload_n h (q := 1) 1 dX4_letFirstsOut_32 rfl ?_
      refine g_get h 1 i 0 (ok_F hi) rfl rfl uin_X0 7 (by decide) fl_X4_58 rfl dX4_letFirstsOut_33 ?_
      refine g_iload h (q := 6) 6 dX4_letFirstsOut_36 rfl ?_
      refine g_aldF h i 2 hi (by decide) (n) (show n < 64 by omega) dX4_letFirstsOut_38 ?_
      refine g_is (F.2.2 2 n) (by rw [eF]) ?_
      refine g_ishl h dX4_letFirstsOut_39 ?_
      refine g_istore h (q := 7) [(0, .ref (ad E 5 0 0)), (1, .ref (ad E 1 i 0)), (2, .ref (ad E 3 i 0)), (3, .int sv), (4, .int (nI (l))), (5, .int (nI (t))), (6, .int (nI (n))), (7, .int (1 <<< ((F.2.2 2 n) &&& 31)))] dX4_letFirstsOut_40 (by decide) rfl ?_
      refine g_iload_n h (q := 3) 3 dX4_letFirstsOut_42 rfl ?_
      refine g_iload h (q := 7) 7 dX4_letFirstsOut_43 rfl ?_
      refine g_iand h dX4_letFirstsOut_45 ?_
      refine g_if_ne h 65 dX4_letFirstsOut_46 (by decide) (fun c2 => ?_) (fun c2 => ?_)
      · refine g_aload_n h (q := 2) 2 dX4_letFirstsOut_65 rfl ?_
        refine g_get h 3 i 0 (ok_R (by omega)) rfl rfl uin_X2 0 (by decide) fl_X4_55 rfl dX4_letFirstsOut_66 ?_
        refine g_iload h (q := 4) 4 dX4_letFirstsOut_69 rfl ?_
        refine g_iload h (q := 6) 6 dX4_letFirstsOut_71 rfl ?_
        refine g_astR h i (by omega) (l) (by omega) (m := n) dX4_letFirstsOut_73 (fun σ1 hσ1 => ?_)
        refine g_iinc h (q := 4) (v := nI (l + 1)) 4 [(0, .ref (ad E 5 0 0)), (1, .ref (ad E 1 i 0)), (2, .ref (ad E 3 i 0)), (3, .int sv), (4, .int (nI (l + 1))), (5, .int (nI (t))), (6, .int (nI (n))), (7, .int (1 <<< ((F.2.2 2 n) &&& 31)))] dX4_letFirstsOut_74 rfl (nI_inc l 1) (by decide) rfl ?_
        refine g_iinc h (q := 5) (v := nI (t + 1)) 5 [(0, .ref (ad E 5 0 0)), (1, .ref (ad E 1 i 0)), (2, .ref (ad E 3 i 0)), (3, .int sv), (4, .int (nI (l + 1))), (5, .int (nI (t + 1))), (6, .int (nI (n))), (7, .int (1 <<< ((F.2.2 2 n) &&& 31)))] dX4_letFirstsOut_77 rfl (nI_inc t 1) (by decide) rfl ?_
        refine g_goto h 13 dX4_letFirstsOut_80 (by decide) ?_
        refine g_sub [(0, .ref (ad E 5 0 0)), (1, .ref (ad E 1 i 0)), (2, .ref (ad E 3 i 0)), (3, .int sv), (4, .int (nI (l + 1))), (5, .int (nI (t + 1)))] [0, 1, 2, 3, 4, 5] rfl ?_
        exact ih (t + 1) sv (l + 1) F (va_up g l n) σ1 (by rw [hσ1, eQ, ht, sQ_Q]) (by omega) (by omega) hF hFl (fun q h1 h2 => by rw [up_n (by omega)]; exact hg q (by omega) h2) (by rw [foL, ← hn, if_neg c2] at hp; exact hp)
      · refine g_iload_n h (q := 3) 3 dX4_letFirstsOut_49 rfl ?_
        refine g_iload h (q := 7) 7 dX4_letFirstsOut_50 rfl ?_
        refine g_ior h dX4_letFirstsOut_52 ?_
        refine g_istore_n h (q := 3) [(0, .ref (ad E 5 0 0)), (1, .ref (ad E 1 i 0)), (2, .ref (ad E 3 i 0)), (3, .int (sv ||| (1 <<< ((F.2.2 2 n) &&& 31)))), (4, .int (nI (l))), (5, .int (nI (t))), (6, .int (nI (n))), (7, .int (1 <<< ((F.2.2 2 n) &&& 31)))] dX4_letFirstsOut_53 (by decide) rfl ?_
        refine g_aload_n h (q := 0) 0 dX4_letFirstsOut_54 rfl ?_
        refine g_aload_n h (q := 1) 1 dX4_letFirstsOut_55 rfl ?_
        refine g_iload h (q := 6) 6 dX4_letFirstsOut_56 rfl ?_
        refine g_iconst h (v := 3) dX4_letFirstsOut_58 (by decide) ?_
        refine g_callV h mv_X4_endLetter 5 0 0 ⟨rfl, rfl⟩ rfl rfl (As := [.ref (ad E 1 i 0), .int (nI (n)), .int 3]) (c_X4_endLetter (kl K) hE (σ := τ) i hi n 3 hn64 (by decide) (by rw [eF]; exact hF.2 n (by omega))) ml_X4_84 rfl (by decide) (by decide) rfl (Nat.le_of_ble_eq_true rfl) dX4_letFirstsOut_59 (fun v σ9 h9 => ?_)
        rw [h9.1, h9.2]; clear h9
        rw [eF]
        generalize ht2 : sF τ i (enL F n 3) = τ2
        refine g_goto h 77 dX4_letFirstsOut_62 (by decide) ?_
        refine g_iinc h (q := 5) (v := nI (t + 1)) 5 [(0, .ref (ad E 5 0 0)), (1, .ref (ad E 1 i 0)), (2, .ref (ad E 3 i 0)), (3, .int (sv ||| (1 <<< ((F.2.2 2 n) &&& 31)))), (4, .int (nI (l))), (5, .int (nI (t + 1))), (6, .int (nI (n))), (7, .int (1 <<< ((F.2.2 2 n) &&& 31)))] dX4_letFirstsOut_77 rfl (nI_inc t 1) (by decide) rfl ?_
        refine g_goto h 13 dX4_letFirstsOut_80 (by decide) ?_
        refine g_sub [(0, .ref (ad E 5 0 0)), (1, .ref (ad E 1 i 0)), (2, .ref (ad E 3 i 0)), (3, .int (sv ||| (1 <<< ((F.2.2 2 n) &&& 31)))), (4, .int (nI (l))), (5, .int (nI (t + 1)))] [0, 1, 2, 3, 4, 5] rfl ?_
        exact ih (t + 1) _ l (enL F n 3) g τ2 (by rw [← ht2, ht, sQ_F]) (by omega) (by omega) (enL_pk hF n (by decide)) hFl (fun q h1 h2 => hg q (by omega) h2) (by rw [foL, ← hn, if_pos c2] at hp; exact hp)
set_option maxHeartbeats 4000000 in
theorem c_X4_letFirstsOut (l : Launch) {E : EnvT} (hE : EOK E) {σ : ST} (i : Nat) (hi : i < 14) (hF : PK (σ.1 i)) (hQ : ROK (σ.1 i).2.1 (σ.2.1 i)) : Con l E yX4_letFirstsOut cX4_letFirstsOut 8 none 2 45 [.ref (ad E 5 0 0), .ref (ad E 1 i 0)] σ (rV (sQ σ i (foL (σ.2.1 i).2 0 0 0 (σ.1 i) (σ.2.1 i).1).1 (foL (σ.2.1 i).2 0 0 0 (σ.1 i) (σ.2.1 i).1).2)) := by
  refine con_intro hE (by decide) (Nat.le_of_ble_eq_true rfl) (fun K hkl h hR => ?_)
  subst hkl
  have h : Cx K E cX4_letFirstsOut 8 RX4 2 45 := h
  show GG K E σ 0 [(0, .ref (ad E 5 0 0)), (1, .ref (ad E 1 i 0))] []
  refine g_aload_n h (q := 1) 1 dX4_letFirstsOut_0 rfl ?_
  refine g_get h 1 i 0 (ok_F hi) rfl rfl uin_X0 13 (by decide) fl_X4_64 rfl dX4_letFirstsOut_1 ?_
  refine g_astore_n h (q := 2) [(0, .ref (ad E 5 0 0)), (1, .ref (ad E 1 i 0)), (2, .ref (ad E 3 i 0))] dX4_letFirstsOut_4 (by decide) rfl ?_
  refine g_iconst h (v := 0) dX4_letFirstsOut_5 (by decide) ?_
  refine g_istore_n h (q := 3) [(0, .ref (ad E 5 0 0)), (1, .ref (ad E 1 i 0)), (2, .ref (ad E 3 i 0)), (3, .int 0)] dX4_letFirstsOut_6 (by decide) rfl ?_
  refine g_iconst h (v := 0) dX4_letFirstsOut_7 (by decide) ?_
  refine g_istore h (q := 4) [(0, .ref (ad E 5 0 0)), (1, .ref (ad E 1 i 0)), (2, .ref (ad E 3 i 0)), (3, .int 0), (4, .int 0)] dX4_letFirstsOut_8 (by decide) rfl ?_
  refine g_iconst h (v := 0) dX4_letFirstsOut_10 (by decide) ?_
  refine g_istore h (q := 5) [(0, .ref (ad E 5 0 0)), (1, .ref (ad E 1 i 0)), (2, .ref (ad E 3 i 0)), (3, .int 0), (4, .int 0), (5, .int 0)] dX4_letFirstsOut_11 (by decide) rfl ?_
  exact l_X4_letFirstsOut (σ := σ) hE h hR i hi (σ.1 i).2.1 (σ.2.1 i).2 hF.1 hQ.1 _ 0 0 0 (σ.1 i) (σ.2.1 i).1 σ (by simp [sQ, sF, sR, up_id]) (Nat.zero_add _) (Nat.le_refl _) hF rfl (fun q _ h2 => hQ.2 q h2) ⟨rfl, rfl⟩
theorem rAdd_ok {b : Nat} {Q : RowT} (h : ROK b Q) {x : Nat} (hx : x < b) : ROK b (rAdd Q x) := by
  unfold rAdd
  by_cases e : Q.2 < 64
  · rw [if_pos e]
    refine ⟨e, fun t ht => ?_⟩
    have ht : t < Q.2 + 1 := ht
    show va_up Q.1 Q.2 x t < b
    by_cases e2 : t = Q.2
    · rw [e2, up_s]; exact hx
    · rw [up_n e2]; exact h.2 t (by omega)
  · rw [if_neg e]; exact h
theorem lwL_ok (W : RowT) (L : Nat) (hW : ROK L W) (hL : L ≤ 64) : ∀ (m t : Nat) (a : Int32) (s : Nat) (F : FabT) (Q B : RowT), t + m = W.2 → PK F → F.2.1 = L → ROK L Q → ROK L B → PK (lwL W m t a s F Q B).1 ∧ (lwL W m t a s F Q B).1.2.1 = L ∧ ROK L (lwL W m t a s F Q B).2.1 ∧ ROK L (lwL W m t a s F Q B).2.2 := by
  intro m
  induction m with
  | zero => intro t a s F Q B _ hF hFl hQ hB; exact ⟨hF, hFl, hQ, hB⟩
  | succ m ih =>
    intro t a s F Q B ht hF hFl hQ hB
    have hn := hW.2 t (by omega)
    by_cases hc : nI (if F.2.2 2 (W.1 t) = a then s + 1 else 0) < F.1 0 ∧ nI Q.2 < F.1 2
    · rw [lwL, if_pos hc]
      exact ih (t + 1) _ _ (mvL F (W.1 t) 2) _ _ (by omega) (mvL_pk hF _ (by decide)) hFl (rAdd_ok hQ hn) hB
    · rw [lwL, if_neg hc]
      exact ih (t + 1) _ _ _ _ _ (by omega) hF hFl hQ (rIns_ok hB hn)
theorem tbL_ok (B : RowT) : ∀ (m t : Nat) (F : FabT), PK F → PK (tbL B m t F) ∧ (tbL B m t F).2.1 = F.2.1 := by
  intro m
  induction m with
  | zero => intro t F hF; exact ⟨hF, rfl⟩
  | succ m ih =>
    intro t F hF
    rw [tbL]
    split
    · exact ih (t + 1) _ (rdL_pk (mvL_pk hF _ (by decide)) _)
    · exact ih (t + 1) _ (enL_pk hF _ (by decide))
/-- a slot of the class: the fabric, its queue, the rows waiting and beaten behind it -/
def slW (F : FabT) (W : RowT) : RowT := sortW F W
def slL (F : FabT) (Q W B : RowT) : FabT × RowT × RowT := lwL (sortW F W) (sortW F W).2 0 (-9) 0 F Q (B.1, 0)
def slT (F : FabT) (Q W B : RowT) : FabT := tbL (slL F Q W B).2.2 (slL F Q W B).2.2.2 0 (slL F Q W B).1
def slO (F : FabT) (Q W B : RowT) : FabT × (Nat → Nat) × Nat := foL (slL F Q W B).2.1.2 0 0 0 (slT F Q W B) (slL F Q W B).2.1.1
def slF (F : FabT) (Q W B : RowT) : FabT := (va_up (slO F Q W B).1.1 3 ((slO F Q W B).1.1 3 + 1), (slO F Q W B).1.2)
def slS (σ : ST) (i : Nat) : ST := sR (sR (sQ σ i (slF (σ.1 i) (σ.2.1 i) (σ.2.1 14) (σ.2.1 15)) (slO (σ.1 i) (σ.2.1 i) (σ.2.1 14) (σ.2.1 15)).2) 14 (slW (σ.1 i) (σ.2.1 14))) 15 (slL (σ.1 i) (σ.2.1 i) (σ.2.1 14) (σ.2.1 15)).2.2
set_option maxHeartbeats 4000000 in
theorem c_X4_passSlot (l : Launch) {E : EnvT} (hE : EOK E) {σ : ST} (i : Nat) (hi : i < 14) (hF : PK (σ.1 i)) (hQ : ROK (σ.1 i).2.1 (σ.2.1 i)) : Con l E yX4_passSlot cX4_passSlot 2 none 3 72 [.ref (ad E 5 0 0), .ref (ad E 1 i 0)] σ (rV (slS σ i)) := by
  refine con_intro hE (by decide) (Nat.le_of_ble_eq_true rfl) (fun K hkl h hR => ?_)
  subst hkl
  have h : Cx K E cX4_passSlot 2 RX4 3 72 := h
  show GG K E σ 0 [(0, .ref (ad E 5 0 0)), (1, .ref (ad E 1 i 0))] []
  have hW := sortW_ok (F := σ.1 i) (w := σ.2.1 14) hF.1
  have hK1 := lwL_ok (sortW (σ.1 i) (σ.2.1 14)) (σ.1 i).2.1 hW hF.1 (sortW (σ.1 i) (σ.2.1 14)).2 0 (-9) 0 (σ.1 i) (σ.2.1 i) ((σ.2.1 15).1, 0) (Nat.zero_add _) hF rfl hQ ⟨Nat.zero_le _, fun t q => absurd q (Nat.not_lt_zero t)⟩
  have hK2 := tbL_ok (slL (σ.1 i) (σ.2.1 i) (σ.2.1 14) (σ.2.1 15)).2.2 (slL (σ.1 i) (σ.2.1 i) (σ.2.1 14) (σ.2.1 15)).2.2.2 0 (slL (σ.1 i) (σ.2.1 i) (σ.2.1 14) (σ.2.1 15)).1 hK1.1
  have h14 : (sR σ 14 (sortW (σ.1 i) (σ.2.1 14))).2.1 14 = sortW (σ.1 i) (σ.2.1 14) := sR_at
  have h15 : (sR σ 14 (sortW (σ.1 i) (σ.2.1 14))).2.1 15 = σ.2.1 15 := sR_ne (by decide)
  have h1i : (sR σ 14 (sortW (σ.1 i) (σ.2.1 14))).2.1 i = σ.2.1 i := sR_ne (by omega)
  have h1f : (sR σ 14 (sortW (σ.1 i) (σ.2.1 14))).1 i = σ.1 i := rfl
  refine g_aload_n h (q := 0) 0 dX4_passSlot_0 rfl ?_
  refine g_aload_n h (q := 1) 1 dX4_passSlot_1 rfl ?_
  refine g_callV h mv_X4_sortWaiting 5 0 0 ⟨rfl, rfl⟩ rfl rfl (As := [.ref (ad E 1 i 0)]) (c_X4_sortWaiting (kl K) hE (σ := σ) i hi hF.1) ml_X4_38 rfl (by decide) (by decide) rfl (Nat.le_of_ble_eq_true rfl) dX4_passSlot_2 (fun v σ9 h9 => ?_)
  rw [h9.1, h9.2]; clear h9
  generalize ht1 : sR σ 14 (sortW (σ.1 i) (σ.2.1 14)) = τ1 at h14 h15 h1i h1f ⊢
  refine g_pop h dX4_passSlot_5 rfl ?_
  refine g_aload_n h (q := 0) 0 dX4_passSlot_6 rfl ?_
  refine g_aload_n h (q := 1) 1 dX4_passSlot_7 rfl ?_
  refine g_callV h mv_X4_letWinnersIn 5 0 0 ⟨rfl, rfl⟩ rfl rfl (As := [.ref (ad E 1 i 0)]) (c_X4_letWinnersIn (kl K) hE (σ := τ1) i hi (by rw [h1f]; exact hF) (by rw [h1f, h14]; exact hW) (by rw [h1i]; exact hQ.1)) ml_X4_42 rfl (by decide) (by decide) rfl (Nat.le_of_ble_eq_true rfl) dX4_passSlot_8 (fun v σ9 h9 => ?_)
  rw [h9.1, h9.2]; clear h9
  rw [h14, h15, h1i, h1f]
  rw [show lwL (sortW (σ.1 i) (σ.2.1 14)) (sortW (σ.1 i) (σ.2.1 14)).2 0 (-9) 0 (σ.1 i) (σ.2.1 i) ((σ.2.1 15).1, 0) = slL (σ.1 i) (σ.2.1 i) (σ.2.1 14) (σ.2.1 15) from rfl]
  obtain ⟨D, hD⟩ : ∃ D, D = slL (σ.1 i) (σ.2.1 i) (σ.2.1 14) (σ.2.1 15) := ⟨_, rfl⟩
  rw [← hD]
  have hK1 : PK D.1 ∧ D.1.2.1 = (σ.1 i).2.1 ∧ ROK (σ.1 i).2.1 D.2.1 ∧ ROK (σ.1 i).2.1 D.2.2 := by rw [hD]; exact hK1
  rw [← hD] at hK2
  generalize ht2 : sW τ1 i D.1 D.2.1 D.2.2 = τ2
  have h2f : τ2.1 i = D.1 := by rw [← ht2, sW_f]
  have h2b : τ2.2.1 15 = D.2.2 := by rw [← ht2, sW_b]
  have h2q : τ2.2.1 i = D.2.1 := by rw [← ht2, sW_q hi]
  refine g_aload_n h (q := 0) 0 dX4_passSlot_11 rfl ?_
  refine g_aload_n h (q := 1) 1 dX4_passSlot_12 rfl ?_
  refine g_callV h mv_X4_turnBackBeaten 5 0 0 ⟨rfl, rfl⟩ rfl rfl (As := [.ref (ad E 1 i 0)]) (c_X4_turnBackBeaten (kl K) hE (σ := τ2) i hi (by rw [h2f]; exact hK1.1) (by rw [h2f, h2b, hK1.2.1]; exact hK1.2.2.2)) ml_X4_46 rfl (by decide) (by decide) rfl (Nat.le_of_ble_eq_true rfl) dX4_passSlot_13 (fun v σ9 h9 => ?_)
  rw [h9.1, h9.2]; clear h9
  rw [h2f, h2b]
  generalize ht3 : sF τ2 i (tbL D.2.2 D.2.2.2 0 D.1) = τ3
  have h3f : τ3.1 i = tbL D.2.2 D.2.2.2 0 D.1 := by rw [← ht3, sF_at]
  have h3q : τ3.2.1 i = D.2.1 := by rw [← ht3, ← h2q]; rfl
  refine g_aload_n h (q := 0) 0 dX4_passSlot_16 rfl ?_
  refine g_aload_n h (q := 1) 1 dX4_passSlot_17 rfl ?_
  refine g_callV h mv_X4_letFirstsOut 5 0 0 ⟨rfl, rfl⟩ rfl rfl (As := [.ref (ad E 1 i 0)]) (c_X4_letFirstsOut (kl K) hE (σ := τ3) i hi (by rw [h3f]; exact hK2.1) (by rw [h3f, h3q, hK2.2, hK1.2.1]; exact hK1.2.2.1)) ml_X4_49 rfl (by decide) (by decide) rfl (Nat.le_of_ble_eq_true rfl) dX4_passSlot_18 (fun v σ9 h9 => ?_)
  rw [h9.1, h9.2]; clear h9
  rw [h3f, h3q]
  obtain ⟨O, hO⟩ : ∃ O, O = foL D.2.1.2 0 0 0 (tbL D.2.2 D.2.2.2 0 D.1) D.2.1.1 := ⟨_, rfl⟩
  rw [← hO]
  generalize ht4 : sQ τ3 i O.1 O.2 = τ4
  have h4f : τ4.1 i = O.1 := by rw [← ht4, sQ_f]
  refine g_aload_n h (q := 1) 1 dX4_passSlot_21 rfl ?_
  refine g_dup h dX4_passSlot_22 rfl ?_
  refine g_get h 1 i 0 (ok_F hi) rfl rfl uin_X0 3 (by decide) fl_X4_52 rfl dX4_passSlot_23 ?_
  refine g_is (O.1.1 3) (by rw [h4f]) ?_
  refine g_iconst h (v := 1) dX4_passSlot_26 (by decide) ?_
  refine g_iadd h dX4_passSlot_27 ?_
  refine g_putFc h i hi 3 (by decide) fl_X4_52 dX4_passSlot_28 (fun σ1 hσ1 => ?_)
  exact g_vret h hR dX4_passSlot_31 (show rV _ _ _ from ⟨rfl, by
    have eO : slO (σ.1 i) (σ.2.1 i) (σ.2.1 14) (σ.2.1 15) = O := by rw [hO, hD]; rfl
    have eF : slF (σ.1 i) (σ.2.1 i) (σ.2.1 14) (σ.2.1 15) = (va_up O.1.1 3 (O.1.1 3 + 1), O.1.2) := by rw [slF, eO]
    rw [slS, eO, eF, ← hD, hσ1, h4f, ← ht4, sQ_F, ← ht3, ← ht2, ← ht1]
    simp only [sQ, sF, sR, sW, slW, bx_uu]
    have e1 : ∀ (R : Nat → RowT) (a b c d : RowT), va_up (va_up (va_up (va_up R 14 a) i b) 15 c) i d = va_up (va_up (va_up R i d) 14 a) 15 c := by
      intro R a b c d
      rw [up_cm (show 15 ≠ i by omega), bx_uu, up_cm (show 14 ≠ i by omega)]
    rw [e1]⟩)
end
section
def rP (p : Int32 × ST) : Option Value → ST → Prop := fun v σ' => v = some (.int p.1) ∧ σ' = p.2
theorem rP_of {p q : Int32 × ST} (h : p = q) : rP p (some (.int q.1)) q.2 := by subst h; exact ⟨rfl, rfl⟩
def wi (x lo hi : Int32) : Bool := decide (lo ≤ x) && decide (x ≤ hi)
set_option maxHeartbeats 4000000 in
theorem c_X5_isWithin (l : Launch) {E : EnvT} (hE : EOK E) {σ : ST} (x lo hi : Int32) : Con l E yX5_isWithin cX5_isWithin 3 (some .boolean) 0 0 [.int x, .int lo, .int hi] σ (rI (bI (wi x lo hi)) σ) := by
  refine con_intro hE (by decide) (Nat.le_of_ble_eq_true rfl) (fun K hkl h hR => ?_)
  subst hkl
  have h : Cx K E cX5_isWithin 3 RX5 0 0 := h
  show GG K E σ 0 [(0, .int x), (1, .int lo), (2, .int hi)] []
  refine g_iload_n h (q := 0) 0 dX5_isWithin_0 rfl ?_
  refine g_iload_n h (q := 1) 1 dX5_isWithin_1 rfl ?_
  refine g_icmp_lt h 14 dX5_isWithin_2 (by decide) (fun c1 => ?_) (fun c1 => ?_)
  · refine g_iconst h (v := 0) dX5_isWithin_14 (by decide) ?_
    exact g_zret h hR dX5_isWithin_15 (by decide) (show rI _ _ _ _ from ⟨by rw [show wi x lo hi = false by simp [wi, Int32.not_le.mpr c1]]; rfl, rfl⟩)
  · refine g_iload_n h (q := 0) 0 dX5_isWithin_5 rfl ?_
    refine g_iload_n h (q := 2) 2 dX5_isWithin_6 rfl ?_
    refine g_icmp_gt h 14 dX5_isWithin_7 (by decide) (fun c2 => ?_) (fun c2 => ?_)
    · refine g_iconst h (v := 0) dX5_isWithin_14 (by decide) ?_
      exact g_zret h hR dX5_isWithin_15 (by decide) (show rI _ _ _ _ from ⟨by rw [show wi x lo hi = false by simp [wi, i_le c1, Int32.not_le.mpr c2]]; rfl, rfl⟩)
    · refine g_iconst h (v := 1) dX5_isWithin_10 (by decide) ?_
      refine g_goto h 15 dX5_isWithin_11 (by decide) ?_
      exact g_zret h hR dX5_isWithin_15 (by decide) (show rI _ _ _ _ from ⟨by rw [show wi x lo hi = true by simp [wi, i_le c1, i_le c2]]; rfl, rfl⟩)
set_option maxHeartbeats 4000000 in
theorem c_X5_isLine (l : Launch) {E : EnvT} (hE : EOK E) {σ : ST} (x : Int32) : Con l E yX5_isLine cX5_isLine 1 (some .boolean) 1 22 [.int x] σ (rI (bI (wi x 0 7)) σ) := by
  refine con_intro hE (by decide) (Nat.le_of_ble_eq_true rfl) (fun K hkl h hR => ?_)
  subst hkl
  have h : Cx K E cX5_isLine 1 RX5 1 22 := h
  show GG K E σ 0 [(0, .int x)] []
  refine g_iload_n h (q := 0) 0 dX5_isLine_0 rfl ?_
  refine g_iconst h (v := 0) dX5_isLine_1 (by decide) ?_
  refine g_bipush h (v := 7) dX5_isLine_2 (by decide) ?_
  refine g_callS h ms_X5_isWithin (As := [.int x, .int 0, .int 7]) (c_X5_isWithin (kl K) hE (σ := σ) x 0 7) ml_X5_52 rfl (by decide) (by decide) rfl (Nat.le_of_ble_eq_true rfl) dX5_isLine_4 (fun v σ9 h9 => ?_)
  rw [h9.1, h9.2]; clear h9
  exact g_zret h hR dX5_isLine_7 (bI_nar _) (⟨rfl, rfl⟩)
set_option maxHeartbeats 4000000 in
theorem c_X5_isAddress (l : Launch) {E : EnvT} (hE : EOK E) {σ : ST} (x : Int32) : Con l E yX5_isAddress cX5_isAddress 1 (some .boolean) 1 22 [.int x] σ (rI (bI (wi x 0 7)) σ) := by
  refine con_intro hE (by decide) (Nat.le_of_ble_eq_true rfl) (fun K hkl h hR => ?_)
  subst hkl
  have h : Cx K E cX5_isAddress 1 RX5 1 22 := h
  show GG K E σ 0 [(0, .int x)] []
  refine g_iload_n h (q := 0) 0 dX5_isAddress_0 rfl ?_
  refine g_iconst h (v := 0) dX5_isAddress_1 (by decide) ?_
  refine g_bipush h (v := 7) dX5_isAddress_2 (by decide) ?_
  refine g_callS h ms_X5_isWithin (As := [.int x, .int 0, .int 7]) (c_X5_isWithin (kl K) hE (σ := σ) x 0 7) ml_X5_52 rfl (by decide) (by decide) rfl (Nat.le_of_ble_eq_true rfl) dX5_isAddress_4 (fun v σ9 h9 => ?_)
  rw [h9.1, h9.2]; clear h9
  exact g_zret h hR dX5_isAddress_7 (bI_nar _) (⟨rfl, rfl⟩)
def cpS (σ : ST) (i j : Nat) : ST := sR (sF σ i (cpF (σ.1 i) (σ.1 j))) i (cpR (σ.2.1 i) (σ.2.1 j))
def nxt (n : Nat) : Nat := if n < 9 then n + 1 else 0
def prv (n : Nat) : Nat := if 0 < n then n - 1 else 9
def remS (σ : ST) : ST := sX (cpS σ (2 + σ.2.2.1.1 0) 0) (va_up (va_up σ.2.2.1.1 0 (nxt (σ.2.2.1.1 0))) 1 (min (σ.2.2.1.1 1 + 1) 10), σ.2.2.1.2)
def givS (σ : ST) : ST := sX (cpS σ 0 (2 + prv (σ.2.2.1.1 0))) (va_up (va_up σ.2.2.1.1 0 (prv (σ.2.2.1.1 0))) 1 (σ.2.2.1.1 1 - 1), σ.2.2.1.2)
theorem sX_sX {σ : ST} {a b : XT} : sX (sX σ a) b = sX σ b := rfl
theorem nI_min (a b : Nat) (ha : a < 2 ^ 31) (hb : b < 2 ^ 31) : (if nI b < nI a then nI b else nI a) = nI (min a b) := by
  rcases Nat.lt_or_ge b a with q | q
  · rw [if_pos (nI_lt q ha), Nat.min_eq_right (by omega)]
  · rw [if_neg (nI_nlt q hb), Nat.min_eq_left q]
set_option maxHeartbeats 4000000 in
theorem c_X1_remember (l : Launch) {E : EnvT} (hE : EOK E) {σ : ST} (hn : σ.2.2.1.1 0 < 10) (hk : σ.2.2.1.1 1 ≤ 10) (hF : (σ.1 0).2.1 ≤ 64) (hQ : (σ.2.1 0).2 ≤ 64) : Con l E yX1_remember cX1_remember 2 none 3 82 [.ref (ad E 6 0 0), .ref (ad E 1 0 0)] σ (rV (remS σ)) := by
  refine con_intro hE (by decide) (Nat.le_of_ble_eq_true rfl) (fun K hkl h hR => ?_)
  subst hkl
  have h : Cx K E cX1_remember 2 RX1 3 82 := h
  show GG K E σ 0 [(0, .ref (ad E 6 0 0)), (1, .ref (ad E 1 0 0))] []
  refine g_aload_n h (q := 0) 0 dX1_remember_0 rfl ?_
  refine g_get h 6 0 0 ⟨rfl, rfl⟩ rfl rfl uin_X1 0 (by decide) fl_X1_11 rfl dX1_remember_1 ?_
  refine g_aload_n h (q := 0) 0 dX1_remember_4 rfl ?_
  refine g_get h 6 0 0 ⟨rfl, rfl⟩ rfl rfl uin_X1 1 (by decide) fl_X1_18 rfl dX1_remember_5 ?_
  refine g_aldG h (σ.2.2.1.1 0) (by omega) dX1_remember_8 ?_
  refine g_aload_n h (q := 1) 1 dX1_remember_9 rfl ?_
  refine g_callV h mv_X0_becomes 1 (2 + (σ.2.2.1.1 0)) 0 (ok_F (by omega)) rfl rfl (As := [.ref (ad E 1 0 0)]) (c_X0_becomes (kl K) hE (σ := σ) (2 + σ.2.2.1.1 0) 0 (by omega) (by decide) (by omega) hF hQ) ml_X1_22 rfl (by decide) (by decide) rfl (Nat.le_of_ble_eq_true rfl) dX1_remember_10 (fun v σ9 h9 => ?_)
  rw [h9.1, h9.2]; clear h9
  rw [show sR (sF σ (2 + σ.2.2.1.1 0) (cpF (σ.1 (2 + σ.2.2.1.1 0)) (σ.1 0))) (2 + σ.2.2.1.1 0) (cpR (σ.2.1 (2 + σ.2.2.1.1 0)) (σ.2.1 0)) = cpS σ (2 + σ.2.2.1.1 0) 0 from rfl]
  have hx0 : (cpS σ (2 + σ.2.2.1.1 0) 0).2.2.1 = σ.2.2.1 := rfl
  generalize ht : cpS σ (2 + σ.2.2.1.1 0) 0 = τ at hx0 ⊢
  refine g_aload_n h (q := 0) 0 dX1_remember_13 rfl ?_
  refine g_aload_n h (q := 0) 0 dX1_remember_14 rfl ?_
  refine g_get h 6 0 0 ⟨rfl, rfl⟩ rfl rfl uin_X1 1 (by decide) fl_X1_18 rfl dX1_remember_15 ?_
  refine g_is (nI (σ.2.2.1.1 0)) (by rw [hx0]) ?_
  refine g_bipush h (v := 9) dX1_remember_18 (by decide) ?_
  refine g_ncmp_ge h (a := σ.2.2.1.1 0) (b := 9) 32 dX1_remember_20 (by decide) (by omega) (by omega) (fun c1 => ?_) (fun c1 => ?_)
  · refine g_iconst h (v := 0) dX1_remember_32 (by decide) ?_
    refine g_putXp h 0 (by decide) (m := 0) fl_X1_18 dX1_remember_33 (fun σ1 hσ1 => ?_)
    refine g_aload_n h (q := 0) 0 dX1_remember_36 rfl ?_
    refine g_aload_n h (q := 0) 0 dX1_remember_37 rfl ?_
    refine g_get h 6 0 0 ⟨rfl, rfl⟩ rfl rfl uin_X1 2 (by decide) fl_X1_26 rfl dX1_remember_38 ?_
    refine g_is (nI (σ.2.2.1.1 1)) (by rw [hσ1]; simp [sX, hx0, va_up]) ?_
    refine g_iconst h (v := 1) dX1_remember_41 (by decide) ?_
    refine g_iadd h dX1_remember_42 ?_
    refine g_is (nI ((σ.2.2.1.1 1) + 1)) (nI_add (σ.2.2.1.1 1) 1) ?_
    refine g_bipush h (v := 10) dX1_remember_43 (by decide) ?_
    refine g_mmin h ml_X1_29 (by decide) (by decide) (Nat.le_of_ble_eq_true rfl) dX1_remember_45 ?_
    refine g_is (nI (min (σ.2.2.1.1 1 + 1) 10)) (nI_min (σ.2.2.1.1 1 + 1) 10 (by omega) (by decide)) ?_
    refine g_putXp h 1 (by decide) (m := min (σ.2.2.1.1 1 + 1) 10) fl_X1_26 dX1_remember_48 (fun σ2 hσ2 => ?_)
    exact g_vret h hR dX1_remember_51 (show rV _ _ _ from ⟨rfl, by rw [hσ2, hσ1, sX_sX, remS, ht]; simp only [sX, hx0, nxt]; rw [if_neg (by omega)]⟩)
  · refine g_aload_n h (q := 0) 0 dX1_remember_23 rfl ?_
    refine g_get h 6 0 0 ⟨rfl, rfl⟩ rfl rfl uin_X1 1 (by decide) fl_X1_18 rfl dX1_remember_24 ?_
    refine g_is (nI (σ.2.2.1.1 0)) (by rw [hx0]) ?_
    refine g_iconst h (v := 1) dX1_remember_27 (by decide) ?_
    refine g_iadd h dX1_remember_28 ?_
    refine g_is (nI ((σ.2.2.1.1 0) + 1)) (nI_add (σ.2.2.1.1 0) 1) ?_
    refine g_goto h 33 dX1_remember_29 (by decide) ?_
    refine g_putXp h 0 (by decide) (m := (σ.2.2.1.1 0) + 1) fl_X1_18 dX1_remember_33 (fun σ3 hσ3 => ?_)
    refine g_aload_n h (q := 0) 0 dX1_remember_36 rfl ?_
    refine g_aload_n h (q := 0) 0 dX1_remember_37 rfl ?_
    refine g_get h 6 0 0 ⟨rfl, rfl⟩ rfl rfl uin_X1 2 (by decide) fl_X1_26 rfl dX1_remember_38 ?_
    refine g_is (nI (σ.2.2.1.1 1)) (by rw [hσ3]; simp [sX, hx0, va_up]) ?_
    refine g_iconst h (v := 1) dX1_remember_41 (by decide) ?_
    refine g_iadd h dX1_remember_42 ?_
    refine g_is (nI ((σ.2.2.1.1 1) + 1)) (nI_add (σ.2.2.1.1 1) 1) ?_
    refine g_bipush h (v := 10) dX1_remember_43 (by decide) ?_
    refine g_mmin h ml_X1_29 (by decide) (by decide) (Nat.le_of_ble_eq_true rfl) dX1_remember_45 ?_
    refine g_is (nI (min (σ.2.2.1.1 1 + 1) 10)) (nI_min (σ.2.2.1.1 1 + 1) 10 (by omega) (by decide)) ?_
    refine g_putXp h 1 (by decide) (m := min (σ.2.2.1.1 1 + 1) 10) fl_X1_26 dX1_remember_48 (fun σ4 hσ4 => ?_)
    exact g_vret h hR dX1_remember_51 (show rV _ _ _ from ⟨rfl, by rw [hσ4, hσ3, sX_sX, remS, ht]; simp only [sX, hx0, nxt]; rw [if_pos (by omega)]⟩)
set_option maxHeartbeats 4000000 in
theorem c_X1_giveBack (l : Launch) {E : EnvT} (hE : EOK E) {σ : ST} (hn : σ.2.2.1.1 0 < 10) (hk1 : 1 ≤ σ.2.2.1.1 1) (hk : σ.2.2.1.1 1 ≤ 10) (hF : (σ.1 (2 + prv (σ.2.2.1.1 0))).2.1 ≤ 64) (hQ : (σ.2.1 (2 + prv (σ.2.2.1.1 0))).2 ≤ 64) : Con l E yX1_giveBack cX1_giveBack 2 none 3 82 [.ref (ad E 6 0 0), .ref (ad E 1 0 0)] σ (rV (givS σ)) := by
  refine con_intro hE (by decide) (Nat.le_of_ble_eq_true rfl) (fun K hkl h hR => ?_)
  subst hkl
  have h : Cx K E cX1_giveBack 2 RX1 3 82 := h
  show GG K E σ 0 [(0, .ref (ad E 6 0 0)), (1, .ref (ad E 1 0 0))] []
  have hpl : prv (σ.2.2.1.1 0) < 10 := by unfold prv; split <;> omega
  obtain ⟨pv, hpv⟩ : ∃ pv, pv = prv (σ.2.2.1.1 0) := ⟨_, rfl⟩
  rw [← hpv] at hpl hF hQ
  refine g_aload_n h (q := 0) 0 dX1_giveBack_0 rfl ?_
  refine g_aload_n h (q := 0) 0 dX1_giveBack_1 rfl ?_
  refine g_get h 6 0 0 ⟨rfl, rfl⟩ rfl rfl uin_X1 1 (by decide) fl_X1_18 rfl dX1_giveBack_2 ?_
  refine g_nif_le h (a := σ.2.2.1.1 0) 17 dX1_giveBack_5 (by decide) (by omega) (fun c1 => ?_) (fun c1 => ?_)
  · refine g_bipush h (v := 9) dX1_giveBack_17 (by decide) ?_
    refine g_is (nI pv) (by rw [hpv, prv, if_neg (by omega)]; try rfl) ?_
    refine g_putXp h 0 (by decide) (m := pv) fl_X1_18 dX1_giveBack_19 (fun σ1 hσ1 => ?_)
    refine g_aload_n h (q := 1) 1 dX1_giveBack_22 rfl ?_
    refine g_aload_n h (q := 0) 0 dX1_giveBack_23 rfl ?_
    refine g_get h 6 0 0 ⟨rfl, rfl⟩ rfl rfl uin_X1 0 (by decide) fl_X1_11 rfl dX1_giveBack_24 ?_
    refine g_aload_n h (q := 0) 0 dX1_giveBack_27 rfl ?_
    refine g_get h 6 0 0 ⟨rfl, rfl⟩ rfl rfl uin_X1 1 (by decide) fl_X1_18 rfl dX1_giveBack_28 ?_
    refine g_is (nI (pv)) (by rw [hσ1]; simp [sX, va_up]) ?_
    refine g_aldG h (pv) (by omega) dX1_giveBack_31 ?_
    refine g_callV h mv_X0_becomes 1 0 0 (ok_F (by decide)) rfl rfl (As := [.ref (ad E 1 (2 + pv) 0)]) (c_X0_becomes (kl K) hE (σ := σ1) 0 (2 + pv) (by decide) (by omega) (by omega) (by rw [hσ1]; exact hF) (by rw [hσ1]; exact hQ)) ml_X1_22 rfl (by decide) (by decide) rfl (Nat.le_of_ble_eq_true rfl) dX1_giveBack_32 (fun v σ9 h9 => ?_)
    rw [h9.1, h9.2]; clear h9
    have hx1 : σ1.2.2.1 = (va_up σ.2.2.1.1 0 pv, σ.2.2.1.2) := by rw [hσ1]; rfl
    rw [show sR (sF σ1 0 (cpF (σ1.1 0) (σ1.1 (2 + pv)))) 0 (cpR (σ1.2.1 0) (σ1.2.1 (2 + pv))) = cpS σ1 0 (2 + pv) from rfl]
    have hx0 : (cpS σ1 0 (2 + pv)).2.2.1 = (va_up σ.2.2.1.1 0 pv, σ.2.2.1.2) := hx1
    generalize ht : cpS σ1 0 (2 + pv) = τ at hx0 ⊢
    refine g_aload_n h (q := 0) 0 dX1_giveBack_35 rfl ?_
    refine g_aload_n h (q := 0) 0 dX1_giveBack_36 rfl ?_
    refine g_get h 6 0 0 ⟨rfl, rfl⟩ rfl rfl uin_X1 2 (by decide) fl_X1_26 rfl dX1_giveBack_37 ?_
    refine g_is (nI (σ.2.2.1.1 1)) (by rw [hx0]; simp [va_up]) ?_
    refine g_iconst h (v := 1) dX1_giveBack_40 (by decide) ?_
    refine g_isub h dX1_giveBack_41 ?_
    refine g_is (nI ((σ.2.2.1.1 1) - 1)) (pk_sub (a := (σ.2.2.1.1 1)) (b := 1) (by omega)) ?_
    refine g_iconst h (v := 0) dX1_giveBack_42 (by decide) ?_
    refine g_mmax h ml_X1_35 (by decide) (by decide) (Nat.le_of_ble_eq_true rfl) dX1_giveBack_43 ?_
    refine g_is (nI (σ.2.2.1.1 1 - 1)) (if_neg (by show ¬ nI _ < nI 0; exact nI_nlt (Nat.zero_le _) (by omega))) ?_
    refine g_putXp h 1 (by decide) (m := σ.2.2.1.1 1 - 1) fl_X1_26 dX1_giveBack_46 (fun σ2 hσ2 => ?_)
    exact g_vret h hR dX1_giveBack_49 (show rV _ _ _ from ⟨rfl, by rw [hσ2, givS, ← hpv, hx0, ← ht, hσ1]; rfl⟩)
  · refine g_aload_n h (q := 0) 0 dX1_giveBack_8 rfl ?_
    refine g_get h 6 0 0 ⟨rfl, rfl⟩ rfl rfl uin_X1 1 (by decide) fl_X1_18 rfl dX1_giveBack_9 ?_
    refine g_iconst h (v := 1) dX1_giveBack_12 (by decide) ?_
    refine g_isub h dX1_giveBack_13 ?_
    refine g_is (nI ((σ.2.2.1.1 0) - 1)) (pk_sub (a := (σ.2.2.1.1 0)) (b := 1) (by omega)) ?_
    refine g_goto h 19 dX1_giveBack_14 (by decide) ?_
    refine g_is (nI pv) (by rw [hpv, prv, if_pos (by omega)]; try rfl) ?_
    refine g_putXp h 0 (by decide) (m := pv) fl_X1_18 dX1_giveBack_19 (fun σ3 hσ3 => ?_)
    refine g_aload_n h (q := 1) 1 dX1_giveBack_22 rfl ?_
    refine g_aload_n h (q := 0) 0 dX1_giveBack_23 rfl ?_
    refine g_get h 6 0 0 ⟨rfl, rfl⟩ rfl rfl uin_X1 0 (by decide) fl_X1_11 rfl dX1_giveBack_24 ?_
    refine g_aload_n h (q := 0) 0 dX1_giveBack_27 rfl ?_
    refine g_get h 6 0 0 ⟨rfl, rfl⟩ rfl rfl uin_X1 1 (by decide) fl_X1_18 rfl dX1_giveBack_28 ?_
    refine g_is (nI (pv)) (by rw [hσ3]; simp [sX, va_up]) ?_
    refine g_aldG h (pv) (by omega) dX1_giveBack_31 ?_
    refine g_callV h mv_X0_becomes 1 0 0 (ok_F (by decide)) rfl rfl (As := [.ref (ad E 1 (2 + pv) 0)]) (c_X0_becomes (kl K) hE (σ := σ3) 0 (2 + pv) (by decide) (by omega) (by omega) (by rw [hσ3]; exact hF) (by rw [hσ3]; exact hQ)) ml_X1_22 rfl (by decide) (by decide) rfl (Nat.le_of_ble_eq_true rfl) dX1_giveBack_32 (fun v σ9 h9 => ?_)
    rw [h9.1, h9.2]; clear h9
    have hx1 : σ3.2.2.1 = (va_up σ.2.2.1.1 0 pv, σ.2.2.1.2) := by rw [hσ3]; rfl
    rw [show sR (sF σ3 0 (cpF (σ3.1 0) (σ3.1 (2 + pv)))) 0 (cpR (σ3.2.1 0) (σ3.2.1 (2 + pv))) = cpS σ3 0 (2 + pv) from rfl]
    have hx0 : (cpS σ3 0 (2 + pv)).2.2.1 = (va_up σ.2.2.1.1 0 pv, σ.2.2.1.2) := hx1
    generalize ht : cpS σ3 0 (2 + pv) = τ at hx0 ⊢
    refine g_aload_n h (q := 0) 0 dX1_giveBack_35 rfl ?_
    refine g_aload_n h (q := 0) 0 dX1_giveBack_36 rfl ?_
    refine g_get h 6 0 0 ⟨rfl, rfl⟩ rfl rfl uin_X1 2 (by decide) fl_X1_26 rfl dX1_giveBack_37 ?_
    refine g_is (nI (σ.2.2.1.1 1)) (by rw [hx0]; simp [va_up]) ?_
    refine g_iconst h (v := 1) dX1_giveBack_40 (by decide) ?_
    refine g_isub h dX1_giveBack_41 ?_
    refine g_is (nI ((σ.2.2.1.1 1) - 1)) (pk_sub (a := (σ.2.2.1.1 1)) (b := 1) (by omega)) ?_
    refine g_iconst h (v := 0) dX1_giveBack_42 (by decide) ?_
    refine g_mmax h ml_X1_35 (by decide) (by decide) (Nat.le_of_ble_eq_true rfl) dX1_giveBack_43 ?_
    refine g_is (nI (σ.2.2.1.1 1 - 1)) (if_neg (by show ¬ nI _ < nI 0; exact nI_nlt (Nat.zero_le _) (by omega))) ?_
    refine g_putXp h 1 (by decide) (m := σ.2.2.1.1 1 - 1) fl_X1_26 dX1_giveBack_46 (fun σ4 hσ4 => ?_)
    exact g_vret h hR dX1_giveBack_49 (show rV _ _ _ from ⟨rfl, by rw [hσ4, givS, ← hpv, hx0, ← ht, hσ3]; rfl⟩)
def seeS (σ : ST) (a b : Int32) : ST := if σ.2.2.1.1 2 < 6 then sX σ (va_up σ.2.2.1.1 2 (σ.2.2.1.1 2 + 1), va_up (va_up σ.2.2.1.2 0 (upd (σ.2.2.1.2 0) (σ.2.2.1.1 2) a)) 1 (upd (σ.2.2.1.2 1) (σ.2.2.1.1 2) b)) else σ
def lgL (s : Nat → Int32) : Nat → Nat → Int32 → Int32
  | 0, _, a => a
  | m + 1, t, a => lgL s m (t + 1) (if a < s t then s t else a)
def alL (s o : Nat → Int32) (a b : Int32) : Nat → Nat → Bool
  | 0, _ => true
  | m + 1, t => if s t = a ∧ o t ≠ b then false else alL s o a b m (t + 1)
set_option maxHeartbeats 4000000 in
theorem c_X3_add (l : Launch) {E : EnvT} (hE : EOK E) {σ : ST} (hs : σ.2.2.1.1 2 ≤ 6) (a b : Int32) : Con l E yX3_add cX3_add 3 none 0 0 [.ref (ad E 8 0 0), .int a, .int b] σ (rV (seeS σ a b)) := by
  refine con_intro hE (by decide) (Nat.le_of_ble_eq_true rfl) (fun K hkl h hR => ?_)
  subst hkl
  have h : Cx K E cX3_add 3 RX3 0 0 := h
  show GG K E σ 0 [(0, .ref (ad E 8 0 0)), (1, .int a), (2, .int b)] []
  refine g_aload_n h (q := 0) 0 dX3_add_0 rfl ?_
  refine g_get h 8 0 0 ⟨rfl, rfl⟩ rfl rfl uin_X3 2 (by decide) fl_X3_18 rfl dX3_add_1 ?_
  refine g_bipush h (v := 6) dX3_add_4 (by decide) ?_
  refine g_ncmp_ge h (a := σ.2.2.1.1 2) (b := 6) 39 dX3_add_6 (by decide) (by omega) (by omega) (fun c1 => ?_) (fun c1 => ?_)
  · exact g_vret h hR dX3_add_39 (show rV _ _ _ from ⟨rfl, by rw [seeS, if_neg (by omega)]⟩)
  · refine g_aload_n h (q := 0) 0 dX3_add_9 rfl ?_
    refine g_get h 8 0 0 ⟨rfl, rfl⟩ rfl rfl uin_X3 0 (by decide) fl_X3_9 rfl dX3_add_10 ?_
    refine g_aload_n h (q := 0) 0 dX3_add_13 rfl ?_
    refine g_get h 8 0 0 ⟨rfl, rfl⟩ rfl rfl uin_X3 2 (by decide) fl_X3_18 rfl dX3_add_14 ?_
    refine g_is (nI (σ.2.2.1.1 2)) (rfl) ?_
    refine g_iload_n h (q := 1) 1 dX3_add_17 rfl ?_
    refine g_astX h 0 (by decide) (by decide) (σ.2.2.1.1 2) (show σ.2.2.1.1 2 < 6 by omega) dX3_add_18 (fun σ1 hσ1 => ?_)
    refine g_aload_n h (q := 0) 0 dX3_add_19 rfl ?_
    refine g_get h 8 0 0 ⟨rfl, rfl⟩ rfl rfl uin_X3 1 (by decide) fl_X3_15 rfl dX3_add_20 ?_
    refine g_aload_n h (q := 0) 0 dX3_add_23 rfl ?_
    refine g_get h 8 0 0 ⟨rfl, rfl⟩ rfl rfl uin_X3 2 (by decide) fl_X3_18 rfl dX3_add_24 ?_
    refine g_is (nI (σ.2.2.1.1 2)) (by simp [hσ1, sX]) ?_
    refine g_iload_n h (q := 2) 2 dX3_add_27 rfl ?_
    refine g_astX h 1 (by decide) (by decide) (σ.2.2.1.1 2) (show σ.2.2.1.1 2 < 6 by omega) dX3_add_28 (fun σ2 hσ2 => ?_)
    refine g_aload_n h (q := 0) 0 dX3_add_29 rfl ?_
    refine g_dup h dX3_add_30 rfl ?_
    refine g_get h 8 0 0 ⟨rfl, rfl⟩ rfl rfl uin_X3 2 (by decide) fl_X3_18 rfl dX3_add_31 ?_
    refine g_is (nI (σ.2.2.1.1 2)) (by simp [hσ2, hσ1, sX]) ?_
    refine g_iconst h (v := 1) dX3_add_34 (by decide) ?_
    refine g_iadd h dX3_add_35 ?_
    refine g_is (nI ((σ.2.2.1.1 2) + 1)) (nI_add (σ.2.2.1.1 2) 1) ?_
    refine g_putXs h (m := (σ.2.2.1.1 2) + 1) fl_X3_18 dX3_add_36 (fun σ3 hσ3 => ?_)
    exact g_vret h hR dX3_add_39 (show rV _ _ _ from ⟨rfl, by rw [seeS, if_pos c1]; subst hσ3 hσ2 hσ1; simp [sX, va_up]⟩)
set_option maxHeartbeats 4000000 in
theorem l_X3_longest {K : KX} {E : EnvT} (hE : EOK E) (h : Cx K E cX3_longest 3 RX3 1 21) {σ : ST} {post : Option Value → ST → Prop} (hR : Rx K E (some .int) post) (hs : σ.2.2.1.1 2 ≤ 6) : ∀ m t a, t + m = σ.2.2.1.1 2 → post (some (.int (lgL (σ.2.2.1.2 0) m t a))) σ → GG K E σ 4 [(0, .ref (ad E 8 0 0)), (1, .int a), (2, .int (nI t))] [] := by
  intro m
  induction m with
  | zero =>
    intro t a hm hp
    refine g_iload_n h (q := 2) 2 dX3_longest_4 rfl ?_
    refine g_aload_n h (q := 0) 0 dX3_longest_5 rfl ?_
    refine g_get h 8 0 0 ⟨rfl, rfl⟩ rfl rfl uin_X3 2 (by decide) fl_X3_18 rfl dX3_longest_6 ?_
    refine g_ncmp_ge h (a := t) (b := σ.2.2.1.1 2) 29 dX3_longest_9 (by decide) (by omega) (by omega) (fun c1 => ?_) (fun c1 => ?_)
    · refine g_iload_n h (q := 1) 1 dX3_longest_29 rfl ?_
      exact g_iret h hR dX3_longest_30 (hp)
    · exfalso; omega
  | succ m ih =>
    intro t a hm hp
    refine g_iload_n h (q := 2) 2 dX3_longest_4 rfl ?_
    refine g_aload_n h (q := 0) 0 dX3_longest_5 rfl ?_
    refine g_get h 8 0 0 ⟨rfl, rfl⟩ rfl rfl uin_X3 2 (by decide) fl_X3_18 rfl dX3_longest_6 ?_
    refine g_ncmp_ge h (a := t) (b := σ.2.2.1.1 2) 29 dX3_longest_9 (by decide) (by omega) (by omega) (fun c1 => ?_) (fun c1 => ?_)
    · exfalso; omega
    · refine g_iload_n h (q := 1) 1 dX3_longest_12 rfl ?_
      refine g_aload_n h (q := 0) 0 dX3_longest_13 rfl ?_
      refine g_get h 8 0 0 ⟨rfl, rfl⟩ rfl rfl uin_X3 0 (by decide) fl_X3_9 rfl dX3_longest_14 ?_
      refine g_iload_n h (q := 2) 2 dX3_longest_17 rfl ?_
      refine g_aldX h 0 (by decide) (by decide) (t) (show t < 6 by omega) dX3_longest_18 ?_
      refine g_mmax h ml_X3_22 (by decide) (by decide) (Nat.le_of_ble_eq_true rfl) dX3_longest_19 ?_
      refine g_istore_n h (q := 1) [(0, .ref (ad E 8 0 0)), (1, .int (if a < (σ.2.2.1.2 0 (t)) then (σ.2.2.1.2 0 (t)) else a)), (2, .int (nI (t)))] dX3_longest_22 (by decide) rfl ?_
      refine g_iinc h (q := 2) (v := nI (t + 1)) 2 [(0, .ref (ad E 8 0 0)), (1, .int (if a < (σ.2.2.1.2 0 (t)) then (σ.2.2.1.2 0 (t)) else a)), (2, .int (nI (t + 1)))] dX3_longest_23 rfl (nI_inc t 1) (by decide) rfl ?_
      refine g_goto h 4 dX3_longest_26 (by decide) ?_
      exact ih (t + 1) _ (by omega) (by rw [lgL] at hp; exact hp)
set_option maxHeartbeats 4000000 in
theorem c_X3_longest (l : Launch) {E : EnvT} (hE : EOK E) {σ : ST} (hs : σ.2.2.1.1 2 ≤ 6) : Con l E yX3_longest cX3_longest 3 (some .int) 1 21 [.ref (ad E 8 0 0)] σ (rI (lgL (σ.2.2.1.2 0) (σ.2.2.1.1 2) 0 0) σ) := by
  refine con_intro hE (by decide) (Nat.le_of_ble_eq_true rfl) (fun K hkl h hR => ?_)
  subst hkl
  have h : Cx K E cX3_longest 3 RX3 1 21 := h
  show GG K E σ 0 [(0, .ref (ad E 8 0 0))] []
  refine g_iconst h (v := 0) dX3_longest_0 (by decide) ?_
  refine g_istore_n h (q := 1) [(0, .ref (ad E 8 0 0)), (1, .int 0)] dX3_longest_1 (by decide) rfl ?_
  refine g_iconst h (v := 0) dX3_longest_2 (by decide) ?_
  refine g_istore_n h (q := 2) [(0, .ref (ad E 8 0 0)), (1, .int 0), (2, .int 0)] dX3_longest_3 (by decide) rfl ?_
  exact l_X3_longest hE h hR hs _ 0 0 (Nat.zero_add _) ⟨rfl, rfl⟩
set_option maxHeartbeats 4000000 in
theorem l_X3_allows {K : KX} {E : EnvT} (hE : EOK E) (h : Cx K E cX3_allows 4 RX3 0 0) {σ : ST} {post : Option Value → ST → Prop} (hR : Rx K E (some .boolean) post) (hs : σ.2.2.1.1 2 ≤ 6) (a b : Int32) : ∀ m t, t + m = σ.2.2.1.1 2 → post (some (.int (bI (alL (σ.2.2.1.2 0) (σ.2.2.1.2 1) a b m t)))) σ → GG K E σ 2 [(0, .ref (ad E 8 0 0)), (1, .int a), (2, .int b), (3, .int (nI t))] [] := by
  intro m
  induction m with
  | zero =>
    intro t hm hp
    refine g_iload_n h (q := 3) 3 dX3_allows_2 rfl ?_
    refine g_aload_n h (q := 0) 0 dX3_allows_3 rfl ?_
    refine g_get h 8 0 0 ⟨rfl, rfl⟩ rfl rfl uin_X3 2 (by decide) fl_X3_18 rfl dX3_allows_4 ?_
    refine g_ncmp_ge h (a := t) (b := σ.2.2.1.1 2) 38 dX3_allows_7 (by decide) (by omega) (by omega) (fun c1 => ?_) (fun c1 => ?_)
    · refine g_iconst h (v := 1) dX3_allows_38 (by decide) ?_
      exact g_zret h hR dX3_allows_39 (by decide) (hp)
    · exfalso; omega
  | succ m ih =>
    intro t hm hp
    refine g_iload_n h (q := 3) 3 dX3_allows_2 rfl ?_
    refine g_aload_n h (q := 0) 0 dX3_allows_3 rfl ?_
    refine g_get h 8 0 0 ⟨rfl, rfl⟩ rfl rfl uin_X3 2 (by decide) fl_X3_18 rfl dX3_allows_4 ?_
    refine g_ncmp_ge h (a := t) (b := σ.2.2.1.1 2) 38 dX3_allows_7 (by decide) (by omega) (by omega) (fun c1 => ?_) (fun c1 => ?_)
    · exfalso; omega
    · refine g_aload_n h (q := 0) 0 dX3_allows_10 rfl ?_
      refine g_get h 8 0 0 ⟨rfl, rfl⟩ rfl rfl uin_X3 0 (by decide) fl_X3_9 rfl dX3_allows_11 ?_
      refine g_iload_n h (q := 3) 3 dX3_allows_14 rfl ?_
      refine g_aldX h 0 (by decide) (by decide) (t) (show t < 6 by omega) dX3_allows_15 ?_
      refine g_iload_n h (q := 1) 1 dX3_allows_16 rfl ?_
      refine g_icmp_ne h 32 dX3_allows_17 (by decide) (fun c2 => ?_) (fun c2 => ?_)
      · refine g_iinc h (q := 3) (v := nI (t + 1)) 3 [(0, .ref (ad E 8 0 0)), (1, .int a), (2, .int b), (3, .int (nI (t + 1)))] dX3_allows_32 rfl (nI_inc t 1) (by decide) rfl ?_
        refine g_goto h 2 dX3_allows_35 (by decide) ?_
        exact ih (t + 1) (by omega) (by rw [alL, if_neg (by simp [c2])] at hp; exact hp)
      · refine g_aload_n h (q := 0) 0 dX3_allows_20 rfl ?_
        refine g_get h 8 0 0 ⟨rfl, rfl⟩ rfl rfl uin_X3 1 (by decide) fl_X3_15 rfl dX3_allows_21 ?_
        refine g_iload_n h (q := 3) 3 dX3_allows_24 rfl ?_
        refine g_aldX h 1 (by decide) (by decide) (t) (show t < 6 by omega) dX3_allows_25 ?_
        refine g_iload_n h (q := 2) 2 dX3_allows_26 rfl ?_
        refine g_icmp_eq h 32 dX3_allows_27 (by decide) (fun c3 => ?_) (fun c3 => ?_)
        · refine g_iinc h (q := 3) (v := nI (t + 1)) 3 [(0, .ref (ad E 8 0 0)), (1, .int a), (2, .int b), (3, .int (nI (t + 1)))] dX3_allows_32 rfl (nI_inc t 1) (by decide) rfl ?_
          refine g_goto h 2 dX3_allows_35 (by decide) ?_
          exact ih (t + 1) (by omega) (by rw [alL, if_neg (by simp [c2, c3])] at hp; exact hp)
        · refine g_iconst h (v := 0) dX3_allows_30 (by decide) ?_
          exact g_zret h hR dX3_allows_31 (by decide) (by rw [alL, if_pos ⟨c2, c3⟩] at hp; exact hp)
set_option maxHeartbeats 4000000 in
theorem c_X3_allows (l : Launch) {E : EnvT} (hE : EOK E) {σ : ST} (hs : σ.2.2.1.1 2 ≤ 6) (a b : Int32) : Con l E yX3_allows cX3_allows 4 (some .boolean) 0 0 [.ref (ad E 8 0 0), .int a, .int b] σ (rI (bI (alL (σ.2.2.1.2 0) (σ.2.2.1.2 1) a b (σ.2.2.1.1 2) 0)) σ) := by
  refine con_intro hE (by decide) (Nat.le_of_ble_eq_true rfl) (fun K hkl h hR => ?_)
  subst hkl
  have h : Cx K E cX3_allows 4 RX3 0 0 := h
  show GG K E σ 0 [(0, .ref (ad E 8 0 0)), (1, .int a), (2, .int b)] []
  refine g_iconst h (v := 0) dX3_allows_0 (by decide) ?_
  refine g_istore_n h (q := 3) [(0, .ref (ad E 8 0 0)), (1, .int a), (2, .int b), (3, .int 0)] dX3_allows_1 (by decide) rfl ?_
  exact l_X3_allows hE h hR hs a b _ 0 (Nat.zero_add _) ⟨rfl, rfl⟩
end
section
/-- what is kept of the class's own numbers between calls -/
def XO (σ : ST) : Prop := PK (σ.1 0) ∧ ROK (σ.1 0).2.1 (σ.2.1 0) ∧ (∀ j, j < 14 → (σ.1 j).2.1 ≤ 64 ∧ (σ.2.1 j).2 ≤ 64) ∧ σ.2.2.1.1 0 < 10 ∧ σ.2.2.1.1 1 ≤ 10 ∧ σ.2.2.1.1 2 ≤ 6 ∧ (∀ t, t < σ.2.2.1.1 2 → ∃ s, s ≤ 40 ∧ σ.2.2.1.2 0 t = nI s)
theorem remS_f {σ : ST} {j : Nat} (h : j ≠ 2 + σ.2.2.1.1 0) : (remS σ).1 j = σ.1 j := by
  show (cpS σ (2 + σ.2.2.1.1 0) 0).1 j = _
  show (sF σ (2 + σ.2.2.1.1 0) _).1 j = _
  exact sF_ne h
theorem remS_q {σ : ST} {j : Nat} (h : j ≠ 2 + σ.2.2.1.1 0) : (remS σ).2.1 j = σ.2.1 j := by
  show (cpS σ (2 + σ.2.2.1.1 0) 0).2.1 j = _
  rw [cpS, sR_ne h]; rfl
def xTells (σ : ST) (a b c : Int32) : Int32 × ST :=
  if wi a 1 3 = true ∧ wi b 0 8 = true ∧ wi c 0 24 = true then
    (if (σ.1 0).1 0 = a ∧ (σ.1 0).1 1 = b ∧ (σ.1 0).1 2 = c then (-2, σ)
     else (1, sF (remS σ) 0 (va_up (va_up (va_up (σ.1 0).1 0 a) 1 b) 2 c, (σ.1 0).2)))
  else (-1, σ)
set_option maxHeartbeats 4000000 in
theorem c_X5_tells (l : Launch) {E : EnvT} (hE : EOK E) {σ : ST} (hX : XO σ) (a b c : Int32) : Con l E yX5_tells cX5_tells 4 (some .int) 4 103 [.ref (ad E 0 0 0), .int a, .int b, .int c] σ (rP (xTells σ a b c)) := by
  refine con_intro hE (by decide) (Nat.le_of_ble_eq_true rfl) (fun K hkl h hR => ?_)
  subst hkl
  have h : Cx K E cX5_tells 4 RX5 4 103 := h
  show GG K E σ 0 [(0, .ref (ad E 0 0 0)), (1, .int a), (2, .int b), (3, .int c)] []
  refine g_iload_n h (q := 1) 1 dX5_tells_0 rfl ?_
  refine g_iconst h (v := 1) dX5_tells_1 (by decide) ?_
  refine g_iconst h (v := 3) dX5_tells_2 (by decide) ?_
  refine g_callS h ms_X5_isWithin (As := [.int a, .int 1, .int 3]) (c_X5_isWithin (kl K) hE (σ := σ) a 1 3) ml_X5_52 rfl (by decide) (by decide) rfl (Nat.le_of_ble_eq_true rfl) dX5_tells_3 (fun v σ9 h9 => ?_)
  rw [h9.1, h9.2]; clear h9
  refine g_if_eq h 29 dX5_tells_6 (by decide) (fun c1 => ?_) (fun c1 => ?_)
  · refine g_iconst h (v := (-1)) dX5_tells_29 (by decide) ?_
    exact g_iret h hR dX5_tells_30 (rP_of (q := ((-1), σ)) (by simp [xTells, bI_0.mp c1]))
  · refine g_iload_n h (q := 2) 2 dX5_tells_9 rfl ?_
    refine g_iconst h (v := 0) dX5_tells_10 (by decide) ?_
    refine g_bipush h (v := 8) dX5_tells_11 (by decide) ?_
    refine g_callS h ms_X5_isWithin (As := [.int b, .int 0, .int 8]) (c_X5_isWithin (kl K) hE (σ := σ) b 0 8) ml_X5_52 rfl (by decide) (by decide) rfl (Nat.le_of_ble_eq_true rfl) dX5_tells_13 (fun v σ9 h9 => ?_)
    rw [h9.1, h9.2]; clear h9
    refine g_if_eq h 29 dX5_tells_16 (by decide) (fun c2 => ?_) (fun c2 => ?_)
    · refine g_iconst h (v := (-1)) dX5_tells_29 (by decide) ?_
      exact g_iret h hR dX5_tells_30 (rP_of (q := ((-1), σ)) (by simp [xTells, bI_1.mp c1, bI_0.mp c2]))
    · refine g_iload_n h (q := 3) 3 dX5_tells_19 rfl ?_
      refine g_iconst h (v := 0) dX5_tells_20 (by decide) ?_
      refine g_bipush h (v := 24) dX5_tells_21 (by decide) ?_
      refine g_callS h ms_X5_isWithin (As := [.int c, .int 0, .int 24]) (c_X5_isWithin (kl K) hE (σ := σ) c 0 24) ml_X5_52 rfl (by decide) (by decide) rfl (Nat.le_of_ble_eq_true rfl) dX5_tells_23 (fun v σ9 h9 => ?_)
      rw [h9.1, h9.2]; clear h9
      refine g_if_ne h 31 dX5_tells_26 (by decide) (fun c3 => ?_) (fun c3 => ?_)
      · refine g_aload_n h (q := 0) 0 dX5_tells_31 rfl ?_
        refine g_get h 0 0 0 ⟨rfl, rfl⟩ rfl rfl uin_X5 0 (by decide) fl_X5_12 rfl dX5_tells_32 ?_
        refine g_get h 1 0 0 (ok_F (by decide)) rfl rfl uin_X0 0 (by decide) fl_X5_56 rfl dX5_tells_35 ?_
        refine g_iload_n h (q := 1) 1 dX5_tells_38 rfl ?_
        refine g_icmp_ne h 67 dX5_tells_39 (by decide) (fun c4 => ?_) (fun c4 => ?_)
        · refine g_aload_n h (q := 0) 0 dX5_tells_67 rfl ?_
          refine g_get h 0 0 0 ⟨rfl, rfl⟩ rfl rfl uin_X5 3 (by decide) fl_X5_29 rfl dX5_tells_68 ?_
          refine g_aload_n h (q := 0) 0 dX5_tells_71 rfl ?_
          refine g_get h 0 0 0 ⟨rfl, rfl⟩ rfl rfl uin_X5 0 (by decide) fl_X5_12 rfl dX5_tells_72 ?_
          refine g_callV h mv_X1_remember 6 0 0 ⟨rfl, rfl⟩ rfl rfl (As := [.ref (ad E 1 0 0)]) (c_X1_remember (kl K) hE (σ := σ) hX.2.2.2.1 hX.2.2.2.2.1 hX.1.1 hX.2.1.1) ml_X5_66 rfl (by decide) (by decide) rfl (Nat.le_of_ble_eq_true rfl) dX5_tells_75 (fun v σ9 h9 => ?_)
          rw [h9.1, h9.2]; clear h9
          have hf0 : (remS σ).1 0 = σ.1 0 := remS_f (by omega)
          have hq0 : (remS σ).2.1 0 = σ.2.1 0 := remS_q (by omega)
          obtain ⟨τ, hτ⟩ : ∃ τ, τ = remS σ := ⟨_, rfl⟩
          rw [← hτ] at hf0 hq0 ⊢
          refine g_aload_n h (q := 0) 0 dX5_tells_78 rfl ?_
          refine g_get h 0 0 0 ⟨rfl, rfl⟩ rfl rfl uin_X5 0 (by decide) fl_X5_12 rfl dX5_tells_79 ?_
          refine g_iload_n h (q := 1) 1 dX5_tells_82 rfl ?_
          refine g_putFc h 0 (by decide) 0 (by decide) fl_X5_56 dX5_tells_83 (fun σ1 hσ1 => ?_)
          refine g_aload_n h (q := 0) 0 dX5_tells_86 rfl ?_
          refine g_get h 0 0 0 ⟨rfl, rfl⟩ rfl rfl uin_X5 0 (by decide) fl_X5_12 rfl dX5_tells_87 ?_
          refine g_iload_n h (q := 2) 2 dX5_tells_90 rfl ?_
          refine g_putFc h 0 (by decide) 1 (by decide) fl_X5_60 dX5_tells_91 (fun σ2 hσ2 => ?_)
          refine g_aload_n h (q := 0) 0 dX5_tells_94 rfl ?_
          refine g_get h 0 0 0 ⟨rfl, rfl⟩ rfl rfl uin_X5 0 (by decide) fl_X5_12 rfl dX5_tells_95 ?_
          refine g_iload_n h (q := 3) 3 dX5_tells_98 rfl ?_
          refine g_putFc h 0 (by decide) 2 (by decide) fl_X5_63 dX5_tells_99 (fun σ3 hσ3 => ?_)
          refine g_iconst h (v := 1) dX5_tells_102 (by decide) ?_
          exact g_iret h hR dX5_tells_103 (rP_of (q := (1, σ3)) (by rw [xTells, if_pos ⟨bI_1.mp c1, bI_1.mp c2, bI_1.mp c3⟩, if_neg (by simp [c4])]; rw [hσ3, hσ2, hσ1, ← hτ]; simp only [sF_sF, sF_at, hf0, sF]; simp [bx_uu, up_s]))
        · refine g_aload_n h (q := 0) 0 dX5_tells_42 rfl ?_
          refine g_get h 0 0 0 ⟨rfl, rfl⟩ rfl rfl uin_X5 0 (by decide) fl_X5_12 rfl dX5_tells_43 ?_
          refine g_get h 1 0 0 (ok_F (by decide)) rfl rfl uin_X0 1 (by decide) fl_X5_60 rfl dX5_tells_46 ?_
          refine g_iload_n h (q := 2) 2 dX5_tells_49 rfl ?_
          refine g_icmp_ne h 67 dX5_tells_50 (by decide) (fun c5 => ?_) (fun c5 => ?_)
          · refine g_aload_n h (q := 0) 0 dX5_tells_67 rfl ?_
            refine g_get h 0 0 0 ⟨rfl, rfl⟩ rfl rfl uin_X5 3 (by decide) fl_X5_29 rfl dX5_tells_68 ?_
            refine g_aload_n h (q := 0) 0 dX5_tells_71 rfl ?_
            refine g_get h 0 0 0 ⟨rfl, rfl⟩ rfl rfl uin_X5 0 (by decide) fl_X5_12 rfl dX5_tells_72 ?_
            refine g_callV h mv_X1_remember 6 0 0 ⟨rfl, rfl⟩ rfl rfl (As := [.ref (ad E 1 0 0)]) (c_X1_remember (kl K) hE (σ := σ) hX.2.2.2.1 hX.2.2.2.2.1 hX.1.1 hX.2.1.1) ml_X5_66 rfl (by decide) (by decide) rfl (Nat.le_of_ble_eq_true rfl) dX5_tells_75 (fun v σ9 h9 => ?_)
            rw [h9.1, h9.2]; clear h9
            have hf0 : (remS σ).1 0 = σ.1 0 := remS_f (by omega)
            have hq0 : (remS σ).2.1 0 = σ.2.1 0 := remS_q (by omega)
            obtain ⟨τ, hτ⟩ : ∃ τ, τ = remS σ := ⟨_, rfl⟩
            rw [← hτ] at hf0 hq0 ⊢
            refine g_aload_n h (q := 0) 0 dX5_tells_78 rfl ?_
            refine g_get h 0 0 0 ⟨rfl, rfl⟩ rfl rfl uin_X5 0 (by decide) fl_X5_12 rfl dX5_tells_79 ?_
            refine g_iload_n h (q := 1) 1 dX5_tells_82 rfl ?_
            refine g_putFc h 0 (by decide) 0 (by decide) fl_X5_56 dX5_tells_83 (fun σ4 hσ4 => ?_)
            refine g_aload_n h (q := 0) 0 dX5_tells_86 rfl ?_
            refine g_get h 0 0 0 ⟨rfl, rfl⟩ rfl rfl uin_X5 0 (by decide) fl_X5_12 rfl dX5_tells_87 ?_
            refine g_iload_n h (q := 2) 2 dX5_tells_90 rfl ?_
            refine g_putFc h 0 (by decide) 1 (by decide) fl_X5_60 dX5_tells_91 (fun σ5 hσ5 => ?_)
            refine g_aload_n h (q := 0) 0 dX5_tells_94 rfl ?_
            refine g_get h 0 0 0 ⟨rfl, rfl⟩ rfl rfl uin_X5 0 (by decide) fl_X5_12 rfl dX5_tells_95 ?_
            refine g_iload_n h (q := 3) 3 dX5_tells_98 rfl ?_
            refine g_putFc h 0 (by decide) 2 (by decide) fl_X5_63 dX5_tells_99 (fun σ6 hσ6 => ?_)
            refine g_iconst h (v := 1) dX5_tells_102 (by decide) ?_
            exact g_iret h hR dX5_tells_103 (rP_of (q := (1, σ6)) (by rw [xTells, if_pos ⟨bI_1.mp c1, bI_1.mp c2, bI_1.mp c3⟩, if_neg (by simp [c4, c5])]; rw [hσ6, hσ5, hσ4, ← hτ]; simp only [sF_sF, sF_at, hf0, sF]; simp [bx_uu, up_s]))
          · refine g_aload_n h (q := 0) 0 dX5_tells_53 rfl ?_
            refine g_get h 0 0 0 ⟨rfl, rfl⟩ rfl rfl uin_X5 0 (by decide) fl_X5_12 rfl dX5_tells_54 ?_
            refine g_get h 1 0 0 (ok_F (by decide)) rfl rfl uin_X0 2 (by decide) fl_X5_63 rfl dX5_tells_57 ?_
            refine g_iload_n h (q := 3) 3 dX5_tells_60 rfl ?_
            refine g_icmp_ne h 67 dX5_tells_61 (by decide) (fun c6 => ?_) (fun c6 => ?_)
            · refine g_aload_n h (q := 0) 0 dX5_tells_67 rfl ?_
              refine g_get h 0 0 0 ⟨rfl, rfl⟩ rfl rfl uin_X5 3 (by decide) fl_X5_29 rfl dX5_tells_68 ?_
              refine g_aload_n h (q := 0) 0 dX5_tells_71 rfl ?_
              refine g_get h 0 0 0 ⟨rfl, rfl⟩ rfl rfl uin_X5 0 (by decide) fl_X5_12 rfl dX5_tells_72 ?_
              refine g_callV h mv_X1_remember 6 0 0 ⟨rfl, rfl⟩ rfl rfl (As := [.ref (ad E 1 0 0)]) (c_X1_remember (kl K) hE (σ := σ) hX.2.2.2.1 hX.2.2.2.2.1 hX.1.1 hX.2.1.1) ml_X5_66 rfl (by decide) (by decide) rfl (Nat.le_of_ble_eq_true rfl) dX5_tells_75 (fun v σ9 h9 => ?_)
              rw [h9.1, h9.2]; clear h9
              have hf0 : (remS σ).1 0 = σ.1 0 := remS_f (by omega)
              have hq0 : (remS σ).2.1 0 = σ.2.1 0 := remS_q (by omega)
              obtain ⟨τ, hτ⟩ : ∃ τ, τ = remS σ := ⟨_, rfl⟩
              rw [← hτ] at hf0 hq0 ⊢
              refine g_aload_n h (q := 0) 0 dX5_tells_78 rfl ?_
              refine g_get h 0 0 0 ⟨rfl, rfl⟩ rfl rfl uin_X5 0 (by decide) fl_X5_12 rfl dX5_tells_79 ?_
              refine g_iload_n h (q := 1) 1 dX5_tells_82 rfl ?_
              refine g_putFc h 0 (by decide) 0 (by decide) fl_X5_56 dX5_tells_83 (fun σ7 hσ7 => ?_)
              refine g_aload_n h (q := 0) 0 dX5_tells_86 rfl ?_
              refine g_get h 0 0 0 ⟨rfl, rfl⟩ rfl rfl uin_X5 0 (by decide) fl_X5_12 rfl dX5_tells_87 ?_
              refine g_iload_n h (q := 2) 2 dX5_tells_90 rfl ?_
              refine g_putFc h 0 (by decide) 1 (by decide) fl_X5_60 dX5_tells_91 (fun σ8 hσ8 => ?_)
              refine g_aload_n h (q := 0) 0 dX5_tells_94 rfl ?_
              refine g_get h 0 0 0 ⟨rfl, rfl⟩ rfl rfl uin_X5 0 (by decide) fl_X5_12 rfl dX5_tells_95 ?_
              refine g_iload_n h (q := 3) 3 dX5_tells_98 rfl ?_
              refine g_putFc h 0 (by decide) 2 (by decide) fl_X5_63 dX5_tells_99 (fun σ9 hσ9 => ?_)
              refine g_iconst h (v := 1) dX5_tells_102 (by decide) ?_
              exact g_iret h hR dX5_tells_103 (rP_of (q := (1, σ9)) (by rw [xTells, if_pos ⟨bI_1.mp c1, bI_1.mp c2, bI_1.mp c3⟩, if_neg (by simp [c4, c5, c6])]; rw [hσ9, hσ8, hσ7, ← hτ]; simp only [sF_sF, sF_at, hf0, sF]; simp [bx_uu, up_s]))
            · refine g_bipush h (v := (-2)) dX5_tells_64 (by decide) ?_
              exact g_iret h hR dX5_tells_66 (rP_of (q := ((-2), σ)) (by simp [xTells, bI_1.mp c1, bI_1.mp c2, bI_1.mp c3, c4, c5, c6]))
      · refine g_iconst h (v := (-1)) dX5_tells_29 (by decide) ?_
        exact g_iret h hR dX5_tells_30 (rP_of (q := ((-1), σ)) (by simp [xTells, bI_1.mp c1, bI_1.mp c2, bI_0.mp c3]))
def xPuts (σ : ST) (a b c : Int32) : Int32 × ST :=
  if wi a 0 7 = true ∧ wi b 0 7 = true ∧ wi c 0 3 = true then
    (if fAt (σ.1 0) a = -9 then (if (σ.1 0).2.1 < 64 then (nI (σ.1 0).2.1, sF (remS σ) 0 (adL (σ.1 0) a b c)) else (-3, σ)) else (-2, σ))
  else (-1, σ)
set_option maxHeartbeats 4000000 in
theorem c_X5_puts (l : Launch) {E : EnvT} (hE : EOK E) {σ : ST} (hX : XO σ) (a b c : Int32) : Con l E yX5_puts cX5_puts 4 (some .int) 4 103 [.ref (ad E 0 0 0), .int a, .int b, .int c] σ (rP (xPuts σ a b c)) := by
  refine con_intro hE (by decide) (Nat.le_of_ble_eq_true rfl) (fun K hkl h hR => ?_)
  subst hkl
  have h : Cx K E cX5_puts 4 RX5 4 103 := h
  show GG K E σ 0 [(0, .ref (ad E 0 0 0)), (1, .int a), (2, .int b), (3, .int c)] []
  have hL := hX.1.1
  refine g_iload_n h (q := 1) 1 dX5_puts_0 rfl ?_
  refine g_callS h ms_X5_isLine (As := [.int a]) (c_X5_isLine (kl K) hE (σ := σ) a) ml_X5_70 rfl (by decide) (by decide) rfl (Nat.le_of_ble_eq_true rfl) dX5_puts_1 (fun v σ9 h9 => ?_)
  rw [h9.1, h9.2]; clear h9
  refine g_if_eq h 23 dX5_puts_4 (by decide) (fun c1 => ?_) (fun c1 => ?_)
  · refine g_iconst h (v := (-1)) dX5_puts_23 (by decide) ?_
    exact g_iret h hR dX5_puts_24 (rP_of (q := ((-1), σ)) (by simp [xPuts, bI_0.mp c1]))
  · refine g_iload_n h (q := 2) 2 dX5_puts_7 rfl ?_
    refine g_callS h ms_X5_isAddress (As := [.int b]) (c_X5_isAddress (kl K) hE (σ := σ) b) ml_X5_74 rfl (by decide) (by decide) rfl (Nat.le_of_ble_eq_true rfl) dX5_puts_8 (fun v σ9 h9 => ?_)
    rw [h9.1, h9.2]; clear h9
    refine g_if_eq h 23 dX5_puts_11 (by decide) (fun c2 => ?_) (fun c2 => ?_)
    · refine g_iconst h (v := (-1)) dX5_puts_23 (by decide) ?_
      exact g_iret h hR dX5_puts_24 (rP_of (q := ((-1), σ)) (by simp [xPuts, bI_1.mp c1, bI_0.mp c2]))
    · refine g_iload_n h (q := 3) 3 dX5_puts_14 rfl ?_
      refine g_iconst h (v := 0) dX5_puts_15 (by decide) ?_
      refine g_iconst h (v := 3) dX5_puts_16 (by decide) ?_
      refine g_callS h ms_X5_isWithin (As := [.int c, .int 0, .int 3]) (c_X5_isWithin (kl K) hE (σ := σ) c 0 3) ml_X5_52 rfl (by decide) (by decide) rfl (Nat.le_of_ble_eq_true rfl) dX5_puts_17 (fun v σ9 h9 => ?_)
      rw [h9.1, h9.2]; clear h9
      refine g_if_ne h 25 dX5_puts_20 (by decide) (fun c3 => ?_) (fun c3 => ?_)
      · refine g_aload_n h (q := 0) 0 dX5_puts_25 rfl ?_
        refine g_get h 0 0 0 ⟨rfl, rfl⟩ rfl rfl uin_X5 0 (by decide) fl_X5_12 rfl dX5_puts_26 ?_
        refine g_iload_n h (q := 1) 1 dX5_puts_29 rfl ?_
        refine g_callV h mv_X0_letterAt 1 0 0 (ok_F (by decide)) rfl rfl (As := [.int a]) (c_X0_letterAt (kl K) hE (σ := σ) 0 (by decide) hX.1.1 a) ml_X5_77 rfl (by decide) (by decide) rfl (Nat.le_of_ble_eq_true rfl) dX5_puts_30 (fun v σ9 h9 => ?_)
        rw [h9.1, h9.2]; clear h9
        refine g_bipush h (v := (-9)) dX5_puts_33 (by decide) ?_
        refine g_icmp_eq h 41 dX5_puts_35 (by decide) (fun c4 => ?_) (fun c4 => ?_)
        · refine g_aload_n h (q := 0) 0 dX5_puts_41 rfl ?_
          refine g_get h 0 0 0 ⟨rfl, rfl⟩ rfl rfl uin_X5 0 (by decide) fl_X5_12 rfl dX5_puts_42 ?_
          refine g_get h 1 0 0 (ok_F (by decide)) rfl rfl uin_X0 4 (by decide) fl_X5_81 rfl dX5_puts_45 ?_
          refine g_bipush h (v := 64) dX5_puts_48 (by decide) ?_
          refine g_ncmp_lt h (a := (σ.1 0).2.1) (b := 64) 56 dX5_puts_50 (by decide) (by omega) (by omega) (fun c5 => ?_) (fun c5 => ?_)
          · refine g_aload_n h (q := 0) 0 dX5_puts_56 rfl ?_
            refine g_get h 0 0 0 ⟨rfl, rfl⟩ rfl rfl uin_X5 3 (by decide) fl_X5_29 rfl dX5_puts_57 ?_
            refine g_aload_n h (q := 0) 0 dX5_puts_60 rfl ?_
            refine g_get h 0 0 0 ⟨rfl, rfl⟩ rfl rfl uin_X5 0 (by decide) fl_X5_12 rfl dX5_puts_61 ?_
            refine g_callV h mv_X1_remember 6 0 0 ⟨rfl, rfl⟩ rfl rfl (As := [.ref (ad E 1 0 0)]) (c_X1_remember (kl K) hE (σ := σ) hX.2.2.2.1 hX.2.2.2.2.1 hX.1.1 hX.2.1.1) ml_X5_66 rfl (by decide) (by decide) rfl (Nat.le_of_ble_eq_true rfl) dX5_puts_64 (fun v σ9 h9 => ?_)
            rw [h9.1, h9.2]; clear h9
            have hf0 : (remS σ).1 0 = σ.1 0 := remS_f (by omega)
            have hq0 : (remS σ).2.1 0 = σ.2.1 0 := remS_q (by omega)
            obtain ⟨τ, hτ⟩ : ∃ τ, τ = remS σ := ⟨_, rfl⟩
            rw [← hτ] at hf0 hq0 ⊢
            refine g_aload_n h (q := 0) 0 dX5_puts_67 rfl ?_
            refine g_get h 0 0 0 ⟨rfl, rfl⟩ rfl rfl uin_X5 0 (by decide) fl_X5_12 rfl dX5_puts_68 ?_
            refine g_iload_n h (q := 1) 1 dX5_puts_71 rfl ?_
            refine g_iload_n h (q := 2) 2 dX5_puts_72 rfl ?_
            refine g_iload_n h (q := 3) 3 dX5_puts_73 rfl ?_
            refine g_callV h mv_X0_addLetter 1 0 0 (ok_F (by decide)) rfl rfl (As := [.int a, .int b, .int c]) (c_X0_addLetter (kl K) hE (σ := τ) 0 (by decide) (by rw [hf0]; omega) a b c) ml_X5_84 rfl (by decide) (by decide) rfl (Nat.le_of_ble_eq_true rfl) dX5_puts_74 (fun v σ9 h9 => ?_)
            rw [h9.1, h9.2]; clear h9
            rw [hf0]
            obtain ⟨τ2, hτ2⟩ : ∃ τ2, τ2 = sF τ 0 (adL (σ.1 0) a b c) := ⟨_, rfl⟩
            rw [← hτ2]
            exact g_iret h hR dX5_puts_77 (rP_of (q := (nI (σ.1 0).2.1, τ2)) (by rw [hτ2, hτ]; simp [xPuts, bI_1.mp c1, bI_1.mp c2, bI_1.mp c3, c4, c5]))
          · refine g_bipush h (v := (-3)) dX5_puts_53 (by decide) ?_
            exact g_iret h hR dX5_puts_55 (rP_of (q := (-3, σ)) (by simp [xPuts, bI_1.mp c1, bI_1.mp c2, bI_1.mp c3, c4, c5, Nat.not_lt.mpr c5]))
        · refine g_bipush h (v := (-2)) dX5_puts_38 (by decide) ?_
          exact g_iret h hR dX5_puts_40 (rP_of (q := ((-2), σ)) (by simp [xPuts, bI_1.mp c1, bI_1.mp c2, bI_1.mp c3, c4]))
      · refine g_iconst h (v := (-1)) dX5_puts_23 (by decide) ?_
        exact g_iret h hR dX5_puts_24 (rP_of (q := ((-1), σ)) (by simp [xPuts, bI_1.mp c1, bI_1.mp c2, bI_0.mp c3]))
def xSlot (σ : ST) : Int32 × ST :=
  if (σ.1 0).1 3 < 99 then (((slS (remS σ) 0).1 0).2.2 7 3 - (σ.1 0).2.2 7 3, slS (remS σ) 0) else (-2, σ)
set_option maxHeartbeats 4000000 in
theorem c_X5_slot (l : Launch) {E : EnvT} (hE : EOK E) {σ : ST} (hX : XO σ) : Con l E yX5_slot cX5_slot 2 (some .int) 4 103 [.ref (ad E 0 0 0)] σ (rP (xSlot σ)) := by
  refine con_intro hE (by decide) (Nat.le_of_ble_eq_true rfl) (fun K hkl h hR => ?_)
  subst hkl
  have h : Cx K E cX5_slot 2 RX5 4 103 := h
  show GG K E σ 0 [(0, .ref (ad E 0 0 0))] []
  refine g_aload_n h (q := 0) 0 dX5_slot_0 rfl ?_
  refine g_get h 0 0 0 ⟨rfl, rfl⟩ rfl rfl uin_X5 0 (by decide) fl_X5_12 rfl dX5_slot_1 ?_
  refine g_get h 1 0 0 (ok_F (by decide)) rfl rfl uin_X0 3 (by decide) fl_X5_88 rfl dX5_slot_4 ?_
  refine g_bipush h (v := 99) dX5_slot_7 (by decide) ?_
  refine g_icmp_lt h 15 dX5_slot_9 (by decide) (fun c1 => ?_) (fun c1 => ?_)
  · refine g_aload_n h (q := 0) 0 dX5_slot_15 rfl ?_
    refine g_get h 0 0 0 ⟨rfl, rfl⟩ rfl rfl uin_X5 3 (by decide) fl_X5_29 rfl dX5_slot_16 ?_
    refine g_aload_n h (q := 0) 0 dX5_slot_19 rfl ?_
    refine g_get h 0 0 0 ⟨rfl, rfl⟩ rfl rfl uin_X5 0 (by decide) fl_X5_12 rfl dX5_slot_20 ?_
    refine g_callV h mv_X1_remember 6 0 0 ⟨rfl, rfl⟩ rfl rfl (As := [.ref (ad E 1 0 0)]) (c_X1_remember (kl K) hE (σ := σ) hX.2.2.2.1 hX.2.2.2.2.1 hX.1.1 hX.2.1.1) ml_X5_66 rfl (by decide) (by decide) rfl (Nat.le_of_ble_eq_true rfl) dX5_slot_23 (fun v σ9 h9 => ?_)
    rw [h9.1, h9.2]; clear h9
    have hf0 : (remS σ).1 0 = σ.1 0 := remS_f (by omega)
    have hq0 : (remS σ).2.1 0 = σ.2.1 0 := remS_q (by omega)
    obtain ⟨τ, hτ⟩ : ∃ τ, τ = remS σ := ⟨_, rfl⟩
    rw [← hτ] at hf0 hq0 ⊢
    refine g_aload_n h (q := 0) 0 dX5_slot_26 rfl ?_
    refine g_get h 0 0 0 ⟨rfl, rfl⟩ rfl rfl uin_X5 0 (by decide) fl_X5_12 rfl dX5_slot_27 ?_
    refine g_get h 1 0 0 (ok_F (by decide)) rfl rfl uin_X0 12 (by decide) fl_X5_91 rfl dX5_slot_30 ?_
    refine g_iconst h (v := 3) dX5_slot_33 (by decide) ?_
    refine g_aldF h 0 7 (by decide) (by decide) (3) (show 3 < 5 by omega) dX5_slot_34 ?_
    refine g_is ((σ.1 0).2.2 7 3) (by rw [hf0]) ?_
    refine g_istore_n h (q := 1) [(0, .ref (ad E 0 0 0)), (1, .int ((σ.1 0).2.2 7 3))] dX5_slot_35 (by decide) rfl ?_
    refine g_aload_n h (q := 0) 0 dX5_slot_36 rfl ?_
    refine g_get h 0 0 0 ⟨rfl, rfl⟩ rfl rfl uin_X5 2 (by decide) fl_X5_22 rfl dX5_slot_37 ?_
    refine g_aload_n h (q := 0) 0 dX5_slot_40 rfl ?_
    refine g_get h 0 0 0 ⟨rfl, rfl⟩ rfl rfl uin_X5 0 (by decide) fl_X5_12 rfl dX5_slot_41 ?_
    refine g_callV h mv_X4_passSlot 5 0 0 ⟨rfl, rfl⟩ rfl rfl (As := [.ref (ad E 1 0 0)]) (c_X4_passSlot (kl K) hE (σ := τ) 0 (by decide) (by rw [hf0]; exact hX.1) (by rw [hf0, hq0]; exact hX.2.1)) ml_X5_94 rfl (by decide) (by decide) rfl (Nat.le_of_ble_eq_true rfl) dX5_slot_44 (fun v σ9 h9 => ?_)
    rw [h9.1, h9.2]; clear h9
    obtain ⟨τ2, hτ2⟩ : ∃ τ2, τ2 = slS τ 0 := ⟨_, rfl⟩
    rw [← hτ2]
    refine g_aload_n h (q := 0) 0 dX5_slot_47 rfl ?_
    refine g_get h 0 0 0 ⟨rfl, rfl⟩ rfl rfl uin_X5 0 (by decide) fl_X5_12 rfl dX5_slot_48 ?_
    refine g_get h 1 0 0 (ok_F (by decide)) rfl rfl uin_X0 12 (by decide) fl_X5_91 rfl dX5_slot_51 ?_
    refine g_iconst h (v := 3) dX5_slot_54 (by decide) ?_
    refine g_aldF h 0 7 (by decide) (by decide) (3) (show 3 < 5 by omega) dX5_slot_55 ?_
    refine g_iload_n h (q := 1) 1 dX5_slot_56 rfl ?_
    refine g_isub h dX5_slot_57 ?_
    exact g_iret h hR dX5_slot_58 (rP_of (q := ((τ2.1 0).2.2 7 3 - (σ.1 0).2.2 7 3, τ2)) (by rw [xSlot, if_pos c1, hτ2, hτ]))
  · refine g_bipush h (v := (-2)) dX5_slot_12 (by decide) ?_
    exact g_iret h hR dX5_slot_14 (rP_of (q := (-2, σ)) (by rw [xSlot, if_neg c1]))
def xUndo (σ : ST) : Int32 × ST := if σ.2.2.1.1 1 = 0 then (-2, σ) else (nI (σ.2.2.1.1 1 - 1), givS σ)
set_option maxHeartbeats 4000000 in
theorem c_X5_undo (l : Launch) {E : EnvT} (hE : EOK E) {σ : ST} (hX : XO σ) : Con l E yX5_undo cX5_undo 1 (some .int) 4 103 [.ref (ad E 0 0 0)] σ (rP (xUndo σ)) := by
  refine con_intro hE (by decide) (Nat.le_of_ble_eq_true rfl) (fun K hkl h hR => ?_)
  subst hkl
  have h : Cx K E cX5_undo 1 RX5 4 103 := h
  show GG K E σ 0 [(0, .ref (ad E 0 0 0))] []
  have hk10 := hX.2.2.2.2.1
  have hpl : prv (σ.2.2.1.1 0) < 10 := by have := hX.2.2.2.1; unfold prv; split <;> omega
  refine g_aload_n h (q := 0) 0 dX5_undo_0 rfl ?_
  refine g_get h 0 0 0 ⟨rfl, rfl⟩ rfl rfl uin_X5 3 (by decide) fl_X5_29 rfl dX5_undo_1 ?_
  refine g_get h 6 0 0 ⟨rfl, rfl⟩ rfl rfl uin_X1 2 (by decide) fl_X5_97 rfl dX5_undo_4 ?_
  refine g_nif_ne h (a := σ.2.2.1.1 1) 13 dX5_undo_7 (by decide) (by omega) (fun c1 => ?_) (fun c1 => ?_)
  · refine g_aload_n h (q := 0) 0 dX5_undo_13 rfl ?_
    refine g_get h 0 0 0 ⟨rfl, rfl⟩ rfl rfl uin_X5 3 (by decide) fl_X5_29 rfl dX5_undo_14 ?_
    refine g_aload_n h (q := 0) 0 dX5_undo_17 rfl ?_
    refine g_get h 0 0 0 ⟨rfl, rfl⟩ rfl rfl uin_X5 0 (by decide) fl_X5_12 rfl dX5_undo_18 ?_
    refine g_callV h mv_X1_giveBack 6 0 0 ⟨rfl, rfl⟩ rfl rfl (As := [.ref (ad E 1 0 0)]) (c_X1_giveBack (kl K) hE (σ := σ) hX.2.2.2.1 (by omega) hX.2.2.2.2.1 (hX.2.2.1 _ (by omega)).1 (hX.2.2.1 _ (by omega)).2) ml_X5_100 rfl (by decide) (by decide) rfl (Nat.le_of_ble_eq_true rfl) dX5_undo_21 (fun v σ9 h9 => ?_)
    rw [h9.1, h9.2]; clear h9
    obtain ⟨τ, hτ⟩ : ∃ τ, τ = givS σ := ⟨_, rfl⟩
    rw [← hτ]
    have hk2 : τ.2.2.1.1 1 = σ.2.2.1.1 1 - 1 := by rw [hτ]; simp [givS, sX, va_up]
    refine g_aload_n h (q := 0) 0 dX5_undo_24 rfl ?_
    refine g_get h 0 0 0 ⟨rfl, rfl⟩ rfl rfl uin_X5 3 (by decide) fl_X5_29 rfl dX5_undo_25 ?_
    refine g_get h 6 0 0 ⟨rfl, rfl⟩ rfl rfl uin_X1 2 (by decide) fl_X5_97 rfl dX5_undo_28 ?_
    refine g_is (nI (σ.2.2.1.1 1 - 1)) (by rw [hk2]) ?_
    exact g_iret h hR dX5_undo_31 (rP_of (q := (nI (σ.2.2.1.1 1 - 1), τ)) (by rw [xUndo, if_neg (by omega), hτ]))
  · refine g_bipush h (v := (-2)) dX5_undo_10 (by decide) ?_
    exact g_iret h hR dX5_undo_12 (rP_of (q := (-2, σ)) (by rw [xUndo, if_pos c1]))
def clrA (f : Nat → Nat → Int32) (n : Nat) : Nat → Nat → Int32 := va_up f 2 (fun m => if m < n then 0 else f 2 m)
theorem clrA_0 (f : Nat → Nat → Int32) : f = clrA f 0 := by
  funext v m
  by_cases h : v = 2
  · subst h; simp [clrA, va_up]
  · simp [clrA, va_up, h]
theorem clrA_s (f : Nat → Nat → Int32) (n : Nat) : va_up (clrA f n) 2 (upd (clrA f n 2) n 0) = clrA f (n + 1) := by
  funext v m
  by_cases h : v = 2
  · subst h
    by_cases e : m = n
    · subst e; simp [clrA, va_up, upd]
    · have e2 : (m < n + 1) = (m < n) := by apply propext; omega
      simp [clrA, va_up, upd, e, e2]
  · simp [clrA, va_up, h]
def clrS (σ : ST) : ST := sX (sR (sF σ 0 (bgF (σ.1 0))) 0 ((σ.2.1 0).1, 0)) (va_up (va_up σ.2.2.1.1 1 0) 2 0, clrA σ.2.2.1.2 2)
def xClear (σ : ST) : Int32 × ST := (nI (σ.1 0).2.1, clrS σ)
set_option maxHeartbeats 4000000 in
theorem c_X5_clear (l : Launch) {E : EnvT} (hE : EOK E) {σ : ST}  : Con l E yX5_clear cX5_clear 3 (some .int) 1 21 [.ref (ad E 0 0 0)] σ (rP (xClear σ)) := by
  refine con_intro hE (by decide) (Nat.le_of_ble_eq_true rfl) (fun K hkl h hR => ?_)
  subst hkl
  have h : Cx K E cX5_clear 3 RX5 1 21 := h
  show GG K E σ 0 [(0, .ref (ad E 0 0 0))] []
  refine g_aload_n h (q := 0) 0 dX5_clear_0 rfl ?_
  refine g_get h 0 0 0 ⟨rfl, rfl⟩ rfl rfl uin_X5 0 (by decide) fl_X5_12 rfl dX5_clear_1 ?_
  refine g_get h 1 0 0 (ok_F (by decide)) rfl rfl uin_X0 4 (by decide) fl_X5_81 rfl dX5_clear_4 ?_
  refine g_istore_n h (q := 1) [(0, .ref (ad E 0 0 0)), (1, .int (nI ((σ.1 0).2.1)))] dX5_clear_7 (by decide) rfl ?_
  refine g_aload_n h (q := 0) 0 dX5_clear_8 rfl ?_
  refine g_get h 0 0 0 ⟨rfl, rfl⟩ rfl rfl uin_X5 0 (by decide) fl_X5_12 rfl dX5_clear_9 ?_
  refine g_callV h mv_X0_begin 1 0 0 (ok_F (by decide)) rfl rfl (As := []) (c_X0_begin (kl K) hE (σ := σ) 0 (by decide)) ml_X5_103 rfl (by decide) (by decide) rfl (Nat.le_of_ble_eq_true rfl) dX5_clear_12 (fun v σ9 h9 => ?_)
  rw [h9.1, h9.2]; clear h9
  obtain ⟨τ, hτ⟩ : ∃ τ, τ = sR (sF σ 0 (bgF (σ.1 0))) 0 ((σ.2.1 0).1, 0) := ⟨_, rfl⟩
  rw [← hτ]
  refine g_aload_n h (q := 0) 0 dX5_clear_15 rfl ?_
  refine g_get h 0 0 0 ⟨rfl, rfl⟩ rfl rfl uin_X5 3 (by decide) fl_X5_29 rfl dX5_clear_16 ?_
  refine g_iconst h (v := 0) dX5_clear_19 (by decide) ?_
  refine g_putXp h 1 (by decide) (m := 0) fl_X5_97 dX5_clear_20 (fun σ1 hσ1 => ?_)
  refine g_aload_n h (q := 0) 0 dX5_clear_23 rfl ?_
  refine g_get h 0 0 0 ⟨rfl, rfl⟩ rfl rfl uin_X5 4 (by decide) fl_X5_36 rfl dX5_clear_24 ?_
  refine g_iconst h (v := 0) dX5_clear_27 (by decide) ?_
  refine g_putXs h (m := 0) fl_X5_106 dX5_clear_28 (fun σ2 hσ2 => ?_)
  refine g_iconst h (v := 0) dX5_clear_31 (by decide) ?_
  refine g_istore_n h (q := 2) [(0, .ref (ad E 0 0 0)), (1, .int (nI ((σ.1 0).2.1))), (2, .int 0)] dX5_clear_32 (by decide) rfl ?_
  refine g_iload_n h (q := 2) 2 dX5_clear_33 rfl ?_
  refine g_iconst h (v := 2) dX5_clear_34 (by decide) ?_
  refine g_ncmp_ge h (a := 0) (b := 2) 51 dX5_clear_35 (by decide) (by decide) (by decide) (fun c => ?_) (fun c => ?_)
  · exfalso; omega
  refine g_aload_n h (q := 0) 0 dX5_clear_38 rfl ?_
  refine g_get h 0 0 0 ⟨rfl, rfl⟩ rfl rfl uin_X5 6 (by decide) fl_X5_44 rfl dX5_clear_39 ?_
  refine g_iload_n h (q := 2) 2 dX5_clear_42 rfl ?_
  refine g_iconst h (v := 0) dX5_clear_43 (by decide) ?_
  refine g_astZ h (0) (by omega) (by decide) dX5_clear_44 (fun σ3 hσ3 => ?_)
  refine g_iinc h (q := 2) (v := nI (0 + 1)) 2 [(0, .ref (ad E 0 0 0)), (1, .int (nI ((σ.1 0).2.1))), (2, .int (nI (0 + 1)))] dX5_clear_45 rfl (nI_inc 0 1) (by decide) rfl ?_
  refine g_goto h 33 dX5_clear_48 (by decide) ?_
  refine g_iload_n h (q := 2) 2 dX5_clear_33 rfl ?_
  refine g_iconst h (v := 2) dX5_clear_34 (by decide) ?_
  refine g_ncmp_ge h (a := 0 + 1) (b := 2) 51 dX5_clear_35 (by decide) (by decide) (by decide) (fun c => ?_) (fun c => ?_)
  · exfalso; omega
  refine g_aload_n h (q := 0) 0 dX5_clear_38 rfl ?_
  refine g_get h 0 0 0 ⟨rfl, rfl⟩ rfl rfl uin_X5 6 (by decide) fl_X5_44 rfl dX5_clear_39 ?_
  refine g_iload_n h (q := 2) 2 dX5_clear_42 rfl ?_
  refine g_iconst h (v := 0) dX5_clear_43 (by decide) ?_
  refine g_astZ h (0 + 1) (by omega) (by decide) dX5_clear_44 (fun σ4 hσ4 => ?_)
  refine g_iinc h (q := 2) (v := nI (0 + 1 + 1)) 2 [(0, .ref (ad E 0 0 0)), (1, .int (nI ((σ.1 0).2.1))), (2, .int (nI (0 + 1 + 1)))] dX5_clear_45 rfl (nI_inc (0 + 1) 1) (by decide) rfl ?_
  refine g_goto h 33 dX5_clear_48 (by decide) ?_
  refine g_iload_n h (q := 2) 2 dX5_clear_33 rfl ?_
  refine g_iconst h (v := 2) dX5_clear_34 (by decide) ?_
  refine g_ncmp_ge h (a := 0 + 1 + 1) (b := 2) 51 dX5_clear_35 (by decide) (by decide) (by decide) (fun c => ?_) (fun c => ?_)
  rotate_left
  · exfalso; omega
  refine g_iload_n h (q := 1) 1 dX5_clear_51 rfl ?_
  exact g_iret h hR dX5_clear_52 (rP_of (q := (nI (σ.1 0).2.1, σ4)) (by rw [xClear, clrS, hσ4, hσ3, hσ2, hσ1, hτ, ← clrA_s, ← clrA_s, ← clrA_0]; rfl))
end
section
theorem tab_cases (x : Int32) (n : Nat) (hn : n < 2 ^ 31) : (∃ k, k < n ∧ x = nI k) ∨ (x.toInt < 0 ∨ (n : Int) ≤ x.toInt) := by
  rcases Int.lt_or_le x.toInt 0 with h | h
  · exact Or.inr (Or.inl h)
  · rcases Int.lt_or_le x.toInt n with h2 | h2
    · obtain ⟨k, hk, e⟩ := vp_in_of (vp_in_iff.mpr ⟨h, h2⟩) hn
      exact Or.inl ⟨k, hk, e⟩
    · exact Or.inr (Or.inr h2)
theorem wi_nat {x : Int32} {n : Nat} (hn : n < 2 ^ 30) (h : wi x 0 (nI n) = true) : ∃ j, j ≤ n ∧ x = nI j := by
  simp only [wi, Bool.and_eq_true, decide_eq_true_eq] at h
  have h1 : (0 : Int32).toInt ≤ x.toInt := Int32.le_iff_toInt_le.mp h.1
  have h2 := Int32.le_iff_toInt_le.mp h.2
  rw [nI_toInt (by omega)] at h2
  obtain ⟨j, hj, e⟩ := vp_in_of (vp_in_iff (x := x) (n := n + 1) |>.mpr ⟨h1, by omega⟩) (by omega)
  exact ⟨j, by omega, e⟩
theorem nI_m1 (n : Nat) : nI (n + 1) - 1 = nI n := nI_pred n
theorem wi_let {x : Int32} {n : Nat} (hn : n ≤ 64) (h : wi x 0 (nI n - 1) = true) : ∃ j, j < n ∧ x = nI j := by
  cases n with
  | zero =>
    simp only [wi, Bool.and_eq_true, decide_eq_true_eq] at h
    have h1 := Int32.le_iff_toInt_le.mp (Int32.le_trans h.1 h.2)
    exact absurd h1 (by decide)
  | succ n =>
    rw [nI_m1] at h
    obtain ⟨j, hj, e⟩ := wi_nat (by omega) h
    exact ⟨j, by omega, e⟩
def xLetter (σ : ST) (n what : Int32) : Int32 × ST :=
  if wi n 0 (nI (σ.1 0).2.1 - 1) = true ∧ wi what 0 6 = true then ((σ.1 0).2.2 what.toNatClampNeg n.toNatClampNeg, σ) else (-1, σ)
theorem wi_out {x : Int32} {m : Int32} {n : Nat} (hm : m.toInt + 1 = n) (h : x.toInt < 0 ∨ (n : Int) ≤ x.toInt) : wi x 0 m = false := by
  simp only [wi, Bool.and_eq_false_iff, decide_eq_false_iff_not, Int32.not_le]
  rcases h with h | h
  · exact Or.inl (Int32.lt_iff_toInt_lt.mpr h)
  · exact Or.inr (Int32.lt_iff_toInt_lt.mpr (by omega))
set_option maxHeartbeats 4000000 in
theorem c_X5_letter (l : Launch) {E : EnvT} (hE : EOK E) {σ : ST} (hX : XO σ) (a b : Int32) : Con l E yX5_letter cX5_letter 3 (some .int) 1 22 [.ref (ad E 0 0 0), .int a, .int b] σ (rP (xLetter σ a b)) := by
  refine con_intro hE (by decide) (Nat.le_of_ble_eq_true rfl) (fun K hkl h hR => ?_)
  subst hkl
  have h : Cx K E cX5_letter 3 RX5 1 22 := h
  show GG K E σ 0 [(0, .ref (ad E 0 0 0)), (1, .int a), (2, .int b)] []
  have hL := hX.1.1
  refine g_iload_n h (q := 1) 1 dX5_letter_0 rfl ?_
  refine g_iconst h (v := 0) dX5_letter_1 (by decide) ?_
  refine g_aload_n h (q := 0) 0 dX5_letter_2 rfl ?_
  refine g_get h 0 0 0 ⟨rfl, rfl⟩ rfl rfl uin_X5 0 (by decide) fl_X5_12 rfl dX5_letter_3 ?_
  refine g_get h 1 0 0 (ok_F (by decide)) rfl rfl uin_X0 4 (by decide) fl_X5_81 rfl dX5_letter_6 ?_
  refine g_iconst h (v := 1) dX5_letter_9 (by decide) ?_
  refine g_isub h dX5_letter_10 ?_
  refine g_callS h ms_X5_isWithin (As := [.int a, .int 0, .int ((nI ((σ.1 0).2.1)) - 1)]) (c_X5_isWithin (kl K) hE (σ := σ) a 0 (nI (σ.1 0).2.1 - 1)) ml_X5_52 rfl (by decide) (by decide) rfl (Nat.le_of_ble_eq_true rfl) dX5_letter_11 (fun v σ9 h9 => ?_)
  rw [h9.1, h9.2]; clear h9
  refine g_if_ne h 19 dX5_letter_14 (by decide) (fun c1 => ?_) (fun c1 => ?_)
  · obtain ⟨j, hj, hje⟩ := wi_let hL (bI_1.mp c1)
    have hw1 := bI_1.mp c1
    subst hje
    refine g_iload_n h (q := 2) 2 dX5_letter_19 rfl ?_
    rcases tab_cases b 7 (by decide) with ⟨kw, hkw, hwe⟩ | hout
    · rcases (show kw = 0 ∨ kw = 1 ∨ kw = 2 ∨ kw = 3 ∨ kw = 4 ∨ kw = 5 ∨ kw = 6 by omega) with rfl | rfl | rfl | rfl | rfl | rfl | rfl
      · subst hwe
        refine g_tabIn h 64 dX5_letter_20 (by decide) (by decide) rfl (by decide) ?_
        refine g_aload_n h (q := 0) 0 dX5_letter_64 rfl ?_
        refine g_get h 0 0 0 ⟨rfl, rfl⟩ rfl rfl uin_X5 0 (by decide) fl_X5_12 rfl dX5_letter_65 ?_
        refine g_get h 1 0 0 (ok_F (by decide)) rfl rfl uin_X0 5 (by decide) fl_X5_109 rfl dX5_letter_68 ?_
        refine g_iload_n h (q := 1) 1 dX5_letter_71 rfl ?_
        refine g_aldF h 0 0 (by decide) (by decide) (j) (show j < 64 by omega) dX5_letter_72 ?_
        exact g_iret h hR dX5_letter_73 (rP_of (q := ((σ.1 0).2.2 0 j, σ)) (by rw [xLetter, if_pos ⟨hw1, by decide⟩, nI_clamp (n := j) (by omega)]; rfl))
      · subst hwe
        refine g_tabIn h 74 dX5_letter_20 (by decide) (by decide) rfl (by decide) ?_
        refine g_aload_n h (q := 0) 0 dX5_letter_74 rfl ?_
        refine g_get h 0 0 0 ⟨rfl, rfl⟩ rfl rfl uin_X5 0 (by decide) fl_X5_12 rfl dX5_letter_75 ?_
        refine g_get h 1 0 0 (ok_F (by decide)) rfl rfl uin_X0 6 (by decide) fl_X5_112 rfl dX5_letter_78 ?_
        refine g_iload_n h (q := 1) 1 dX5_letter_81 rfl ?_
        refine g_aldF h 0 1 (by decide) (by decide) (j) (show j < 64 by omega) dX5_letter_82 ?_
        exact g_iret h hR dX5_letter_83 (rP_of (q := ((σ.1 0).2.2 1 j, σ)) (by rw [xLetter, if_pos ⟨hw1, by decide⟩, nI_clamp (n := j) (by omega)]; rfl))
      · subst hwe
        refine g_tabIn h 84 dX5_letter_20 (by decide) (by decide) rfl (by decide) ?_
        refine g_aload_n h (q := 0) 0 dX5_letter_84 rfl ?_
        refine g_get h 0 0 0 ⟨rfl, rfl⟩ rfl rfl uin_X5 0 (by decide) fl_X5_12 rfl dX5_letter_85 ?_
        refine g_get h 1 0 0 (ok_F (by decide)) rfl rfl uin_X0 7 (by decide) fl_X5_115 rfl dX5_letter_88 ?_
        refine g_iload_n h (q := 1) 1 dX5_letter_91 rfl ?_
        refine g_aldF h 0 2 (by decide) (by decide) (j) (show j < 64 by omega) dX5_letter_92 ?_
        exact g_iret h hR dX5_letter_93 (rP_of (q := ((σ.1 0).2.2 2 j, σ)) (by rw [xLetter, if_pos ⟨hw1, by decide⟩, nI_clamp (n := j) (by omega)]; rfl))
      · subst hwe
        refine g_tabIn h 94 dX5_letter_20 (by decide) (by decide) rfl (by decide) ?_
        refine g_aload_n h (q := 0) 0 dX5_letter_94 rfl ?_
        refine g_get h 0 0 0 ⟨rfl, rfl⟩ rfl rfl uin_X5 0 (by decide) fl_X5_12 rfl dX5_letter_95 ?_
        refine g_get h 1 0 0 (ok_F (by decide)) rfl rfl uin_X0 8 (by decide) fl_X5_118 rfl dX5_letter_98 ?_
        refine g_iload_n h (q := 1) 1 dX5_letter_101 rfl ?_
        refine g_aldF h 0 3 (by decide) (by decide) (j) (show j < 64 by omega) dX5_letter_102 ?_
        exact g_iret h hR dX5_letter_103 (rP_of (q := ((σ.1 0).2.2 3 j, σ)) (by rw [xLetter, if_pos ⟨hw1, by decide⟩, nI_clamp (n := j) (by omega)]; rfl))
      · subst hwe
        refine g_tabIn h 104 dX5_letter_20 (by decide) (by decide) rfl (by decide) ?_
        refine g_aload_n h (q := 0) 0 dX5_letter_104 rfl ?_
        refine g_get h 0 0 0 ⟨rfl, rfl⟩ rfl rfl uin_X5 0 (by decide) fl_X5_12 rfl dX5_letter_105 ?_
        refine g_get h 1 0 0 (ok_F (by decide)) rfl rfl uin_X0 9 (by decide) fl_X5_121 rfl dX5_letter_108 ?_
        refine g_iload_n h (q := 1) 1 dX5_letter_111 rfl ?_
        refine g_aldF h 0 4 (by decide) (by decide) (j) (show j < 64 by omega) dX5_letter_112 ?_
        exact g_iret h hR dX5_letter_113 (rP_of (q := ((σ.1 0).2.2 4 j, σ)) (by rw [xLetter, if_pos ⟨hw1, by decide⟩, nI_clamp (n := j) (by omega)]; rfl))
      · subst hwe
        refine g_tabIn h 114 dX5_letter_20 (by decide) (by decide) rfl (by decide) ?_
        refine g_aload_n h (q := 0) 0 dX5_letter_114 rfl ?_
        refine g_get h 0 0 0 ⟨rfl, rfl⟩ rfl rfl uin_X5 0 (by decide) fl_X5_12 rfl dX5_letter_115 ?_
        refine g_get h 1 0 0 (ok_F (by decide)) rfl rfl uin_X0 10 (by decide) fl_X5_124 rfl dX5_letter_118 ?_
        refine g_iload_n h (q := 1) 1 dX5_letter_121 rfl ?_
        refine g_aldF h 0 5 (by decide) (by decide) (j) (show j < 64 by omega) dX5_letter_122 ?_
        exact g_iret h hR dX5_letter_123 (rP_of (q := ((σ.1 0).2.2 5 j, σ)) (by rw [xLetter, if_pos ⟨hw1, by decide⟩, nI_clamp (n := j) (by omega)]; rfl))
      · subst hwe
        refine g_tabIn h 124 dX5_letter_20 (by decide) (by decide) rfl (by decide) ?_
        refine g_aload_n h (q := 0) 0 dX5_letter_124 rfl ?_
        refine g_get h 0 0 0 ⟨rfl, rfl⟩ rfl rfl uin_X5 0 (by decide) fl_X5_12 rfl dX5_letter_125 ?_
        refine g_get h 1 0 0 (ok_F (by decide)) rfl rfl uin_X0 11 (by decide) fl_X5_127 rfl dX5_letter_128 ?_
        refine g_iload_n h (q := 1) 1 dX5_letter_131 rfl ?_
        refine g_aldF h 0 6 (by decide) (by decide) (j) (show j < 64 by omega) dX5_letter_132 ?_
        exact g_iret h hR dX5_letter_133 (rP_of (q := ((σ.1 0).2.2 6 j, σ)) (by rw [xLetter, if_pos ⟨hw1, by decide⟩, nI_clamp (n := j) (by omega)]; rfl))
    · refine g_tabOut h 134 dX5_letter_20 (by omega) (by decide) ?_
      refine g_iconst h (v := (-1)) dX5_letter_134 (by decide) ?_
      exact g_iret h hR dX5_letter_135 (rP_of (q := (-1, σ)) (by rw [xLetter, if_neg (fun q => by rw [wi_out (n := 7) (by decide) hout] at q; exact absurd q.2 (by decide))]))
  · refine g_iconst h (v := (-1)) dX5_letter_17 (by decide) ?_
    exact g_iret h hR dX5_letter_18 (rP_of (q := (-1, σ)) (by rw [xLetter, if_neg (fun q => by rw [bI_0.mp c1] at q; exact absurd q.1 (by decide))]))
def xLine (σ : ST) (a : Int32) : Int32 × ST := if wi a 0 7 = true then (fAt (σ.1 0) a, σ) else (-1, σ)
def xQueue (σ : ST) (a k : Int32) : Int32 × ST := if wi a 0 7 = true ∧ 0 ≤ k then (qFind (σ.1 0) (σ.2.1 0) a k (σ.2.1 0).2 0 0, σ) else (-1, σ)
set_option maxHeartbeats 4000000 in
theorem c_X5_line (l : Launch) {E : EnvT} (hE : EOK E) {σ : ST} (hX : XO σ) (a : Int32) : Con l E yX5_line cX5_line 2 (some .int) 2 42 [.ref (ad E 0 0 0), .int a] σ (rP (xLine σ a)) := by
  refine con_intro hE (by decide) (Nat.le_of_ble_eq_true rfl) (fun K hkl h hR => ?_)
  subst hkl
  have h : Cx K E cX5_line 2 RX5 2 42 := h
  show GG K E σ 0 [(0, .ref (ad E 0 0 0)), (1, .int a)] []
  refine g_iload_n h (q := 1) 1 dX5_line_0 rfl ?_
  refine g_callS h ms_X5_isLine (As := [.int a]) (c_X5_isLine (kl K) hE (σ := σ) a) ml_X5_70 rfl (by decide) (by decide) rfl (Nat.le_of_ble_eq_true rfl) dX5_line_1 (fun v σ9 h9 => ?_)
  rw [h9.1, h9.2]; clear h9
  refine g_if_eq h 18 dX5_line_4 (by decide) (fun c1 => ?_) (fun c1 => ?_)
  · refine g_iconst h (v := (-1)) dX5_line_18 (by decide) ?_
    exact g_iret h hR dX5_line_19 (rP_of (q := ((-1), σ)) (by simp [xLine, bI_0.mp c1]))
  · refine g_aload_n h (q := 0) 0 dX5_line_7 rfl ?_
    refine g_get h 0 0 0 ⟨rfl, rfl⟩ rfl rfl uin_X5 0 (by decide) fl_X5_12 rfl dX5_line_8 ?_
    refine g_iload_n h (q := 1) 1 dX5_line_11 rfl ?_
    refine g_callV h mv_X0_letterAt 1 0 0 (ok_F (by decide)) rfl rfl (As := [.int a]) (c_X0_letterAt (kl K) hE (σ := σ) 0 (by decide) hX.1.1 a) ml_X5_77 rfl (by decide) (by decide) rfl (Nat.le_of_ble_eq_true rfl) dX5_line_12 (fun v σ9 h9 => ?_)
    rw [h9.1, h9.2]; clear h9
    refine g_goto h 19 dX5_line_15 (by decide) ?_
    exact g_iret h hR dX5_line_19 (rP_of (q := (fAt (σ.1 0) a, σ)) (by simp [xLine, bI_1.mp c1]))
set_option maxHeartbeats 4000000 in
theorem c_X5_queue (l : Launch) {E : EnvT} (hE : EOK E) {σ : ST} (hX : XO σ) (a k : Int32) : Con l E yX5_queue cX5_queue 3 (some .int) 2 42 [.ref (ad E 0 0 0), .int a, .int k] σ (rP (xQueue σ a k)) := by
  refine con_intro hE (by decide) (Nat.le_of_ble_eq_true rfl) (fun K hkl h hR => ?_)
  subst hkl
  have h : Cx K E cX5_queue 3 RX5 2 42 := h
  show GG K E σ 0 [(0, .ref (ad E 0 0 0)), (1, .int a), (2, .int k)] []
  refine g_iload_n h (q := 1) 1 dX5_queue_0 rfl ?_
  refine g_callS h ms_X5_isAddress (As := [.int a]) (c_X5_isAddress (kl K) hE (σ := σ) a) ml_X5_74 rfl (by decide) (by decide) rfl (Nat.le_of_ble_eq_true rfl) dX5_queue_1 (fun v σ9 h9 => ?_)
  rw [h9.1, h9.2]; clear h9
  refine g_if_eq h 11 dX5_queue_4 (by decide) (fun c1 => ?_) (fun c1 => ?_)
  · refine g_iconst h (v := (-1)) dX5_queue_11 (by decide) ?_
    exact g_iret h hR dX5_queue_12 (rP_of (q := ((-1), σ)) (by simp [xQueue, bI_0.mp c1]))
  · refine g_iload_n h (q := 2) 2 dX5_queue_7 rfl ?_
    refine g_if_ge h 13 dX5_queue_8 (by decide) (fun c2 => ?_) (fun c2 => ?_)
    · refine g_aload_n h (q := 0) 0 dX5_queue_13 rfl ?_
      refine g_get h 0 0 0 ⟨rfl, rfl⟩ rfl rfl uin_X5 0 (by decide) fl_X5_12 rfl dX5_queue_14 ?_
      refine g_iload_n h (q := 1) 1 dX5_queue_17 rfl ?_
      refine g_iload_n h (q := 2) 2 dX5_queue_18 rfl ?_
      refine g_callV h mv_X0_queuedLetter 1 0 0 (ok_F (by decide)) rfl rfl (As := [.int a, .int k]) (c_X0_queuedLetter (kl K) hE (σ := σ) 0 (by decide) (hX.2.1.mono hX.1.1) a k) ml_X5_130 rfl (by decide) (by decide) rfl (Nat.le_of_ble_eq_true rfl) dX5_queue_19 (fun v σ9 h9 => ?_)
      rw [h9.1, h9.2]; clear h9
      exact g_iret h hR dX5_queue_22 (rP_of (q := (qFind (σ.1 0) (σ.2.1 0) a k (σ.2.1 0).2 0 0, σ)) (by simp [xQueue, bI_1.mp c1, c2]))
    · refine g_iconst h (v := (-1)) dX5_queue_11 (by decide) ?_
      exact g_iret h hR dX5_queue_12 (rP_of (q := ((-1), σ)) (by simp [xQueue, bI_1.mp c1, c2]))
def xTurned (σ : ST) (k : Int32) : Int32 × ST := if 0 ≤ k then (rAt (sortT (σ.1 0) (σ.2.1 14)) k, sR σ 14 (sortT (σ.1 0) (σ.2.1 14))) else (-1, σ)
def xSorted (σ : ST) (k : Int32) : Int32 × ST := if 0 ≤ k then (rAt (sortW (σ.1 0) (σ.2.1 14)) k, sR σ 14 (sortW (σ.1 0) (σ.2.1 14))) else (-1, σ)
set_option maxHeartbeats 4000000 in
theorem c_X5_turned (l : Launch) {E : EnvT} (hE : EOK E) {σ : ST} (hX : XO σ) (k : Int32) : Con l E yX5_turned cX5_turned 2 (some .int) 3 69 [.ref (ad E 0 0 0), .int k] σ (rP (xTurned σ k)) := by
  refine con_intro hE (by decide) (Nat.le_of_ble_eq_true rfl) (fun K hkl h hR => ?_)
  subst hkl
  have h : Cx K E cX5_turned 2 RX5 3 69 := h
  show GG K E σ 0 [(0, .ref (ad E 0 0 0)), (1, .int k)] []
  refine g_iload_n h (q := 1) 1 dX5_turned_0 rfl ?_
  refine g_if_ge h 6 dX5_turned_1 (by decide) (fun c1 => ?_) (fun c1 => ?_)
  · refine g_aload_n h (q := 0) 0 dX5_turned_6 rfl ?_
    refine g_get h 0 0 0 ⟨rfl, rfl⟩ rfl rfl uin_X5 2 (by decide) fl_X5_22 rfl dX5_turned_7 ?_
    refine g_aload_n h (q := 0) 0 dX5_turned_10 rfl ?_
    refine g_get h 0 0 0 ⟨rfl, rfl⟩ rfl rfl uin_X5 0 (by decide) fl_X5_12 rfl dX5_turned_11 ?_
    refine g_callV h mv_X4_sortTurned 5 0 0 ⟨rfl, rfl⟩ rfl rfl (As := [.ref (ad E 1 0 0)]) (c_X4_sortTurned (kl K) hE (σ := σ) 0 (by decide) hX.1.1) ml_X5_134 rfl (by decide) (by decide) rfl (Nat.le_of_ble_eq_true rfl) dX5_turned_14 (fun v σ9 h9 => ?_)
    rw [h9.1, h9.2]; clear h9
    obtain ⟨τ, hτ⟩ : ∃ τ, τ = sR σ 14 (sortT (σ.1 0) (σ.2.1 14)) := ⟨_, rfl⟩
    rw [← hτ]
    have hr14 : τ.2.1 14 = sortT (σ.1 0) (σ.2.1 14) := by rw [hτ, sR_at]
    refine g_iload_n h (q := 1) 1 dX5_turned_17 rfl ?_
    refine g_callV h mv_X2_at 3 14 0 (ok_R (by decide)) rfl rfl (As := [.int k]) (c_X2_at (kl K) hE (σ := τ) 14 (by decide) (by rw [hr14]; exact (sortT_ok hX.1.1).1) k) ml_X5_138 rfl (by decide) (by decide) rfl (Nat.le_of_ble_eq_true rfl) dX5_turned_18 (fun v σ9 h9 => ?_)
    rw [h9.1, h9.2]; clear h9
    rw [hr14]
    exact g_iret h hR dX5_turned_21 (rP_of (q := (rAt (sortT (σ.1 0) (σ.2.1 14)) k, τ)) (by simp [xTurned, c1, hτ]))
  · refine g_iconst h (v := (-1)) dX5_turned_4 (by decide) ?_
    exact g_iret h hR dX5_turned_5 (rP_of (q := ((-1), σ)) (by simp [xTurned, c1]))
set_option maxHeartbeats 4000000 in
theorem c_X5_sorted (l : Launch) {E : EnvT} (hE : EOK E) {σ : ST} (hX : XO σ) (k : Int32) : Con l E yX5_sorted cX5_sorted 2 (some .int) 3 69 [.ref (ad E 0 0 0), .int k] σ (rP (xSorted σ k)) := by
  refine con_intro hE (by decide) (Nat.le_of_ble_eq_true rfl) (fun K hkl h hR => ?_)
  subst hkl
  have h : Cx K E cX5_sorted 2 RX5 3 69 := h
  show GG K E σ 0 [(0, .ref (ad E 0 0 0)), (1, .int k)] []
  refine g_iload_n h (q := 1) 1 dX5_sorted_0 rfl ?_
  refine g_if_ge h 6 dX5_sorted_1 (by decide) (fun c1 => ?_) (fun c1 => ?_)
  · refine g_aload_n h (q := 0) 0 dX5_sorted_6 rfl ?_
    refine g_get h 0 0 0 ⟨rfl, rfl⟩ rfl rfl uin_X5 2 (by decide) fl_X5_22 rfl dX5_sorted_7 ?_
    refine g_aload_n h (q := 0) 0 dX5_sorted_10 rfl ?_
    refine g_get h 0 0 0 ⟨rfl, rfl⟩ rfl rfl uin_X5 0 (by decide) fl_X5_12 rfl dX5_sorted_11 ?_
    refine g_callV h mv_X4_sortWaiting 5 0 0 ⟨rfl, rfl⟩ rfl rfl (As := [.ref (ad E 1 0 0)]) (c_X4_sortWaiting (kl K) hE (σ := σ) 0 (by decide) hX.1.1) ml_X5_143 rfl (by decide) (by decide) rfl (Nat.le_of_ble_eq_true rfl) dX5_sorted_14 (fun v σ9 h9 => ?_)
    rw [h9.1, h9.2]; clear h9
    obtain ⟨τ, hτ⟩ : ∃ τ, τ = sR σ 14 (sortW (σ.1 0) (σ.2.1 14)) := ⟨_, rfl⟩
    rw [← hτ]
    have hr14 : τ.2.1 14 = sortW (σ.1 0) (σ.2.1 14) := by rw [hτ, sR_at]
    refine g_iload_n h (q := 1) 1 dX5_sorted_17 rfl ?_
    refine g_callV h mv_X2_at 3 14 0 (ok_R (by decide)) rfl rfl (As := [.int k]) (c_X2_at (kl K) hE (σ := τ) 14 (by decide) (by rw [hr14]; exact (sortW_ok hX.1.1).1) k) ml_X5_138 rfl (by decide) (by decide) rfl (Nat.le_of_ble_eq_true rfl) dX5_sorted_18 (fun v σ9 h9 => ?_)
    rw [h9.1, h9.2]; clear h9
    rw [hr14]
    exact g_iret h hR dX5_sorted_21 (rP_of (q := (rAt (sortW (σ.1 0) (σ.2.1 14)) k, τ)) (by simp [xSorted, c1, hτ]))
  · refine g_iconst h (v := (-1)) dX5_sorted_4 (by decide) ?_
    exact g_iret h hR dX5_sorted_5 (rP_of (q := ((-1), σ)) (by simp [xSorted, c1]))
def xSees (σ : ST) (a b : Int32) : Int32 × ST := if wi a 1 40 = true ∧ wi b 0 64 = true then (if σ.2.2.1.1 2 < 6 then (nI (σ.2.2.1.1 2 + 1), seeS σ a b) else (-3, σ)) else (-1, σ)
def xForget (σ : ST) : Int32 × ST := (nI (σ.2.2.1.1 2), sX σ (va_up σ.2.2.1.1 2 0, σ.2.2.1.2))
set_option maxHeartbeats 4000000 in
theorem c_X5_sees (l : Launch) {E : EnvT} (hE : EOK E) {σ : ST} (hX : XO σ) (a b : Int32) : Con l E yX5_sees cX5_sees 3 (some .int) 1 22 [.ref (ad E 0 0 0), .int a, .int b] σ (rP (xSees σ a b)) := by
  refine con_intro hE (by decide) (Nat.le_of_ble_eq_true rfl) (fun K hkl h hR => ?_)
  subst hkl
  have h : Cx K E cX5_sees 3 RX5 1 22 := h
  show GG K E σ 0 [(0, .ref (ad E 0 0 0)), (1, .int a), (2, .int b)] []
  have hs6 := hX.2.2.2.2.2.1
  refine g_iload_n h (q := 1) 1 dX5_sees_0 rfl ?_
  refine g_iconst h (v := 1) dX5_sees_1 (by decide) ?_
  refine g_bipush h (v := 40) dX5_sees_2 (by decide) ?_
  refine g_callS h ms_X5_isWithin (As := [.int a, .int 1, .int 40]) (c_X5_isWithin (kl K) hE (σ := σ) a 1 40) ml_X5_52 rfl (by decide) (by decide) rfl (Nat.le_of_ble_eq_true rfl) dX5_sees_4 (fun v σ9 h9 => ?_)
  rw [h9.1, h9.2]; clear h9
  refine g_if_eq h 20 dX5_sees_7 (by decide) (fun c1 => ?_) (fun c1 => ?_)
  · refine g_iconst h (v := (-1)) dX5_sees_20 (by decide) ?_
    exact g_iret h hR dX5_sees_21 (rP_of (q := ((-1), σ)) (by simp [xSees, bI_0.mp c1]))
  · refine g_iload_n h (q := 2) 2 dX5_sees_10 rfl ?_
    refine g_iconst h (v := 0) dX5_sees_11 (by decide) ?_
    refine g_bipush h (v := 64) dX5_sees_12 (by decide) ?_
    refine g_callS h ms_X5_isWithin (As := [.int b, .int 0, .int 64]) (c_X5_isWithin (kl K) hE (σ := σ) b 0 64) ml_X5_52 rfl (by decide) (by decide) rfl (Nat.le_of_ble_eq_true rfl) dX5_sees_14 (fun v σ9 h9 => ?_)
    rw [h9.1, h9.2]; clear h9
    refine g_if_ne h 22 dX5_sees_17 (by decide) (fun c2 => ?_) (fun c2 => ?_)
    · refine g_aload_n h (q := 0) 0 dX5_sees_22 rfl ?_
      refine g_get h 0 0 0 ⟨rfl, rfl⟩ rfl rfl uin_X5 4 (by decide) fl_X5_36 rfl dX5_sees_23 ?_
      refine g_get h 8 0 0 ⟨rfl, rfl⟩ rfl rfl uin_X3 2 (by decide) fl_X5_106 rfl dX5_sees_26 ?_
      refine g_bipush h (v := 6) dX5_sees_29 (by decide) ?_
      refine g_ncmp_lt h (a := σ.2.2.1.1 2) (b := 6) 37 dX5_sees_31 (by decide) (by omega) (by omega) (fun c3 => ?_) (fun c3 => ?_)
      · refine g_aload_n h (q := 0) 0 dX5_sees_37 rfl ?_
        refine g_get h 0 0 0 ⟨rfl, rfl⟩ rfl rfl uin_X5 4 (by decide) fl_X5_36 rfl dX5_sees_38 ?_
        refine g_iload_n h (q := 1) 1 dX5_sees_41 rfl ?_
        refine g_iload_n h (q := 2) 2 dX5_sees_42 rfl ?_
        refine g_callV h mv_X3_add 8 0 0 ⟨rfl, rfl⟩ rfl rfl (As := [.int a, .int b]) (c_X3_add (kl K) hE (σ := σ) hs6 a b) ml_X5_183 rfl (by decide) (by decide) rfl (Nat.le_of_ble_eq_true rfl) dX5_sees_43 (fun v σ9 h9 => ?_)
        rw [h9.1, h9.2]; clear h9
        obtain ⟨τ, hτ⟩ : ∃ τ, τ = seeS σ a b := ⟨_, rfl⟩
        rw [← hτ]
        have hz : τ.2.2.1.1 2 = σ.2.2.1.1 2 + 1 := by rw [hτ, seeS, if_pos c3]; simp [sX, va_up]
        refine g_aload_n h (q := 0) 0 dX5_sees_46 rfl ?_
        refine g_get h 0 0 0 ⟨rfl, rfl⟩ rfl rfl uin_X5 4 (by decide) fl_X5_36 rfl dX5_sees_47 ?_
        refine g_get h 8 0 0 ⟨rfl, rfl⟩ rfl rfl uin_X3 2 (by decide) fl_X5_106 rfl dX5_sees_50 ?_
        refine g_is (nI (σ.2.2.1.1 2 + 1)) (by rw [hz]) ?_
        exact g_iret h hR dX5_sees_53 (rP_of (q := (nI (σ.2.2.1.1 2 + 1), τ)) (by rw [hτ]; simp [xSees, bI_1.mp c1, bI_1.mp c2, c3]))
      · refine g_bipush h (v := (-3)) dX5_sees_34 (by decide) ?_
        exact g_iret h hR dX5_sees_36 (rP_of (q := (-3, σ)) (by simp [xSees, bI_1.mp c1, bI_1.mp c2, Nat.not_lt.mpr c3]))
    · refine g_iconst h (v := (-1)) dX5_sees_20 (by decide) ?_
      exact g_iret h hR dX5_sees_21 (rP_of (q := ((-1), σ)) (by simp [xSees, bI_1.mp c1, bI_0.mp c2]))
set_option maxHeartbeats 4000000 in
theorem c_X5_forget (l : Launch) {E : EnvT} (hE : EOK E) {σ : ST}  : Con l E yX5_forget cX5_forget 2 (some .int) 0 0 [.ref (ad E 0 0 0)] σ (rP (xForget σ)) := by
  refine con_intro hE (by decide) (Nat.le_of_ble_eq_true rfl) (fun K hkl h hR => ?_)
  subst hkl
  have h : Cx K E cX5_forget 2 RX5 0 0 := h
  show GG K E σ 0 [(0, .ref (ad E 0 0 0))] []
  refine g_aload_n h (q := 0) 0 dX5_forget_0 rfl ?_
  refine g_get h 0 0 0 ⟨rfl, rfl⟩ rfl rfl uin_X5 4 (by decide) fl_X5_36 rfl dX5_forget_1 ?_
  refine g_get h 8 0 0 ⟨rfl, rfl⟩ rfl rfl uin_X3 2 (by decide) fl_X5_106 rfl dX5_forget_4 ?_
  refine g_istore_n h (q := 1) [(0, .ref (ad E 0 0 0)), (1, .int (nI (σ.2.2.1.1 2)))] dX5_forget_7 (by decide) rfl ?_
  refine g_aload_n h (q := 0) 0 dX5_forget_8 rfl ?_
  refine g_get h 0 0 0 ⟨rfl, rfl⟩ rfl rfl uin_X5 4 (by decide) fl_X5_36 rfl dX5_forget_9 ?_
  refine g_iconst h (v := 0) dX5_forget_12 (by decide) ?_
  refine g_putXs h (m := 0) fl_X5_106 dX5_forget_13 (fun σ1 hσ1 => ?_)
  refine g_iload_n h (q := 1) 1 dX5_forget_16 rfl ?_
  exact g_iret h hR dX5_forget_17 (rP_of (q := (nI (σ.2.2.1.1 2), σ1)) (by rw [hσ1]; rfl))
def xKeep (σ : ST) (a : Int32) : Int32 × ST := if wi a 0 1 = true then (nI (σ.1 0).2.1, sX (cpS σ (12 + a.toNatClampNeg) 0) (σ.2.2.1.1, va_up σ.2.2.1.2 2 (upd (σ.2.2.1.2 2) a.toNatClampNeg 1))) else (-1, σ)
def xBack (σ : ST) (a : Int32) : Int32 × ST := if wi a 0 1 = true then (if σ.2.2.1.2 2 a.toNatClampNeg = 0 then (-2, σ) else (nI (σ.1 (12 + a.toNatClampNeg)).2.1, sX (cpS σ 0 (12 + a.toNatClampNeg)) (va_up σ.2.2.1.1 1 0, σ.2.2.1.2))) else (-1, σ)
set_option maxHeartbeats 4000000 in
theorem c_X5_keep (l : Launch) {E : EnvT} (hE : EOK E) {σ : ST} (hX : XO σ) (a : Int32) : Con l E yX5_keep cX5_keep 2 (some .int) 3 82 [.ref (ad E 0 0 0), .int a] σ (rP (xKeep σ a)) := by
  refine con_intro hE (by decide) (Nat.le_of_ble_eq_true rfl) (fun K hkl h hR => ?_)
  subst hkl
  have h : Cx K E cX5_keep 2 RX5 3 82 := h
  show GG K E σ 0 [(0, .ref (ad E 0 0 0)), (1, .int a)] []
  refine g_iload_n h (q := 1) 1 dX5_keep_0 rfl ?_
  refine g_iconst h (v := 0) dX5_keep_1 (by decide) ?_
  refine g_iconst h (v := 1) dX5_keep_2 (by decide) ?_
  refine g_callS h ms_X5_isWithin (As := [.int a, .int 0, .int 1]) (c_X5_isWithin (kl K) hE (σ := σ) a 0 1) ml_X5_52 rfl (by decide) (by decide) rfl (Nat.le_of_ble_eq_true rfl) dX5_keep_3 (fun v σ9 h9 => ?_)
  rw [h9.1, h9.2]; clear h9
  refine g_if_ne h 11 dX5_keep_6 (by decide) (fun c1 => ?_) (fun c1 => ?_)
  · have hw1 := bI_1.mp c1
    obtain ⟨j, hj, hje⟩ := wi_nat (n := 1) (by decide) hw1
    subst hje
    have hjc : (nI j).toNatClampNeg = j := nI_clamp (by omega)
    refine g_aload_n h (q := 0) 0 dX5_keep_11 rfl ?_
    refine g_get h 0 0 0 ⟨rfl, rfl⟩ rfl rfl uin_X5 5 (by decide) fl_X5_40 rfl dX5_keep_12 ?_
    refine g_iload_n h (q := 1) 1 dX5_keep_15 rfl ?_
    refine g_aldI h (j) (by omega) dX5_keep_16 ?_
    refine g_aload_n h (q := 0) 0 dX5_keep_17 rfl ?_
    refine g_get h 0 0 0 ⟨rfl, rfl⟩ rfl rfl uin_X5 0 (by decide) fl_X5_12 rfl dX5_keep_18 ?_
    refine g_callV h mv_X0_becomes 1 (12 + j) 0 (ok_F (by omega)) rfl rfl (As := [.ref (ad E 1 0 0)]) (c_X0_becomes (kl K) hE (σ := σ) (12 + j) 0 (by omega) (by decide) (by omega) hX.1.1 hX.2.1.1) ml_X5_153 rfl (by decide) (by decide) rfl (Nat.le_of_ble_eq_true rfl) dX5_keep_21 (fun v σ9 h9 => ?_)
    rw [h9.1, h9.2]; clear h9
    obtain ⟨τ, hτ⟩ : ∃ τ, τ = cpS σ (12 + j) 0 := ⟨_, rfl⟩
    rw [show sR (sF σ (12 + j) (cpF (σ.1 (12 + j)) (σ.1 0))) (12 + j) (cpR (σ.2.1 (12 + j)) (σ.2.1 0)) = τ from hτ.symm]
    have hf0 : τ.1 0 = σ.1 0 := by rw [hτ]; exact sF_ne (by omega)
    refine g_aload_n h (q := 0) 0 dX5_keep_24 rfl ?_
    refine g_get h 0 0 0 ⟨rfl, rfl⟩ rfl rfl uin_X5 6 (by decide) fl_X5_44 rfl dX5_keep_25 ?_
    refine g_iload_n h (q := 1) 1 dX5_keep_28 rfl ?_
    refine g_iconst h (v := 1) dX5_keep_29 (by decide) ?_
    refine g_astZ h (j) (by omega) (by decide) dX5_keep_30 (fun σ1 hσ1 => ?_)
    refine g_aload_n h (q := 0) 0 dX5_keep_31 rfl ?_
    refine g_get h 0 0 0 ⟨rfl, rfl⟩ rfl rfl uin_X5 0 (by decide) fl_X5_12 rfl dX5_keep_32 ?_
    refine g_get h 1 0 0 (ok_F (by decide)) rfl rfl uin_X0 4 (by decide) fl_X5_81 rfl dX5_keep_35 ?_
    refine g_is (nI ((σ.1 0).2.1)) (by rw [hσ1]; show nI (τ.1 0).2.1 = _; rw [hf0]) ?_
    exact g_iret h hR dX5_keep_38 (rP_of (q := (nI (σ.1 0).2.1, σ1)) (by rw [xKeep, if_pos hw1, hjc, hσ1, hτ]; rfl))
  · refine g_iconst h (v := (-1)) dX5_keep_9 (by decide) ?_
    exact g_iret h hR dX5_keep_10 (rP_of (q := (-1, σ)) (by simp [xKeep, bI_0.mp c1]))
set_option maxHeartbeats 4000000 in
theorem c_X5_back (l : Launch) {E : EnvT} (hE : EOK E) {σ : ST} (hX : XO σ) (a : Int32) : Con l E yX5_back cX5_back 2 (some .int) 3 82 [.ref (ad E 0 0 0), .int a] σ (rP (xBack σ a)) := by
  refine con_intro hE (by decide) (Nat.le_of_ble_eq_true rfl) (fun K hkl h hR => ?_)
  subst hkl
  have h : Cx K E cX5_back 2 RX5 3 82 := h
  show GG K E σ 0 [(0, .ref (ad E 0 0 0)), (1, .int a)] []
  refine g_iload_n h (q := 1) 1 dX5_back_0 rfl ?_
  refine g_iconst h (v := 0) dX5_back_1 (by decide) ?_
  refine g_iconst h (v := 1) dX5_back_2 (by decide) ?_
  refine g_callS h ms_X5_isWithin (As := [.int a, .int 0, .int 1]) (c_X5_isWithin (kl K) hE (σ := σ) a 0 1) ml_X5_52 rfl (by decide) (by decide) rfl (Nat.le_of_ble_eq_true rfl) dX5_back_3 (fun v σ9 h9 => ?_)
  rw [h9.1, h9.2]; clear h9
  refine g_if_ne h 11 dX5_back_6 (by decide) (fun c1 => ?_) (fun c1 => ?_)
  · have hw1 := bI_1.mp c1
    obtain ⟨j, hj, hje⟩ := wi_nat (n := 1) (by decide) hw1
    subst hje
    have hjc : (nI j).toNatClampNeg = j := nI_clamp (by omega)
    refine g_aload_n h (q := 0) 0 dX5_back_11 rfl ?_
    refine g_get h 0 0 0 ⟨rfl, rfl⟩ rfl rfl uin_X5 6 (by decide) fl_X5_44 rfl dX5_back_12 ?_
    refine g_iload_n h (q := 1) 1 dX5_back_15 rfl ?_
    refine g_aldZ h (j) (by omega) dX5_back_16 ?_
    refine g_if_ne h 23 dX5_back_17 (by decide) (fun c2 => ?_) (fun c2 => ?_)
    · refine g_aload_n h (q := 0) 0 dX5_back_23 rfl ?_
      refine g_get h 0 0 0 ⟨rfl, rfl⟩ rfl rfl uin_X5 0 (by decide) fl_X5_12 rfl dX5_back_24 ?_
      refine g_aload_n h (q := 0) 0 dX5_back_27 rfl ?_
      refine g_get h 0 0 0 ⟨rfl, rfl⟩ rfl rfl uin_X5 5 (by decide) fl_X5_40 rfl dX5_back_28 ?_
      refine g_iload_n h (q := 1) 1 dX5_back_31 rfl ?_
      refine g_aldI h (j) (by omega) dX5_back_32 ?_
      refine g_callV h mv_X0_becomes 1 0 0 (ok_F (by decide)) rfl rfl (As := [.ref (ad E 1 (12 + j) 0)]) (c_X0_becomes (kl K) hE (σ := σ) 0 (12 + j) (by decide) (by omega) (by omega) (hX.2.2.1 _ (by omega)).1 (hX.2.2.1 _ (by omega)).2) ml_X5_153 rfl (by decide) (by decide) rfl (Nat.le_of_ble_eq_true rfl) dX5_back_33 (fun v σ9 h9 => ?_)
      rw [h9.1, h9.2]; clear h9
      obtain ⟨τ, hτ⟩ : ∃ τ, τ = cpS σ 0 (12 + j) := ⟨_, rfl⟩
      rw [show sR (sF σ 0 (cpF (σ.1 0) (σ.1 (12 + j)))) 0 (cpR (σ.2.1 0) (σ.2.1 (12 + j))) = τ from hτ.symm]
      have hf0 : (τ.1 0).2.1 = (σ.1 (12 + j)).2.1 := by rw [hτ]; show ((sF σ 0 (cpF (σ.1 0) (σ.1 (12 + j)))).1 0).2.1 = _; rw [sF_at]; rfl
      refine g_aload_n h (q := 0) 0 dX5_back_36 rfl ?_
      refine g_get h 0 0 0 ⟨rfl, rfl⟩ rfl rfl uin_X5 3 (by decide) fl_X5_29 rfl dX5_back_37 ?_
      refine g_iconst h (v := 0) dX5_back_40 (by decide) ?_
      refine g_putXp h 1 (by decide) (m := 0) fl_X5_97 dX5_back_41 (fun σ1 hσ1 => ?_)
      refine g_aload_n h (q := 0) 0 dX5_back_44 rfl ?_
      refine g_get h 0 0 0 ⟨rfl, rfl⟩ rfl rfl uin_X5 0 (by decide) fl_X5_12 rfl dX5_back_45 ?_
      refine g_get h 1 0 0 (ok_F (by decide)) rfl rfl uin_X0 4 (by decide) fl_X5_81 rfl dX5_back_48 ?_
      refine g_is (nI ((σ.1 (12 + j)).2.1)) (by rw [hσ1]; show nI (τ.1 0).2.1 = _; rw [hf0]) ?_
      exact g_iret h hR dX5_back_51 (rP_of (q := (nI (σ.1 (12 + j)).2.1, σ1)) (by rw [xBack, if_pos hw1, hjc, if_neg c2, hσ1, hτ]; rfl))
    · refine g_bipush h (v := (-2)) dX5_back_20 (by decide) ?_
      exact g_iret h hR dX5_back_22 (rP_of (q := (-2, σ)) (by rw [xBack, if_pos hw1, hjc, if_pos c2]))
  · refine g_iconst h (v := (-1)) dX5_back_9 (by decide) ?_
    exact g_iret h hR dX5_back_10 (rP_of (q := (-1, σ)) (by simp [xBack, bI_0.mp c1]))
def cntX (σ : ST) (k : Nat) : Int32 := match k with
  | 0 => (σ.1 0).1 0
  | 1 => (σ.1 0).1 1
  | 2 => (σ.1 0).1 2
  | 3 => (σ.1 0).1 3
  | 4 => nI (σ.1 0).2.1
  | 5 => (σ.1 0).2.2 7 0
  | 6 => (σ.1 0).2.2 7 1
  | 7 => (σ.1 0).2.2 7 2
  | 8 => (σ.1 0).2.2 7 3
  | 9 => (σ.1 0).2.2 7 4
  | 10 => nI (σ.2.2.1.1 2)
  | _ => nI (σ.2.2.1.1 1)
def xCount (σ : ST) (a : Int32) : Int32 × ST := if wi a 0 11 = true then (cntX σ a.toNatClampNeg, σ) else (-1, σ)
set_option maxHeartbeats 4000000 in
theorem c_X5_count (l : Launch) {E : EnvT} (hE : EOK E) {σ : ST} (a : Int32) : Con l E yX5_count cX5_count 2 (some .int) 0 0 [.ref (ad E 0 0 0), .int a] σ (rP (xCount σ a)) := by
  refine con_intro hE (by decide) (Nat.le_of_ble_eq_true rfl) (fun K hkl h hR => ?_)
  subst hkl
  have h : Cx K E cX5_count 2 RX5 0 0 := h
  show GG K E σ 0 [(0, .ref (ad E 0 0 0)), (1, .int a)] []
  refine g_iload_n h (q := 1) 1 dX5_count_0 rfl ?_
  rcases tab_cases a 12 (by decide) with ⟨kw, hkw, hwe⟩ | hout
  · rcases (show kw = 0 ∨ kw = 1 ∨ kw = 2 ∨ kw = 3 ∨ kw = 4 ∨ kw = 5 ∨ kw = 6 ∨ kw = 7 ∨ kw = 8 ∨ kw = 9 ∨ kw = 10 ∨ kw = 11 by omega) with rfl | rfl | rfl | rfl | rfl | rfl | rfl | rfl | rfl | rfl | rfl | rfl
    · subst hwe
      refine g_tabIn h 64 dX5_count_1 (by decide) (by decide) rfl (by decide) ?_
      refine g_aload_n h (q := 0) 0 dX5_count_64 rfl ?_
      refine g_get h 0 0 0 ⟨rfl, rfl⟩ rfl rfl uin_X5 0 (by decide) fl_X5_12 rfl dX5_count_65 ?_
      refine g_get h 1 0 0 (ok_F (by decide)) rfl rfl uin_X0 0 (by decide) fl_X5_56 rfl dX5_count_68 ?_
      exact g_iret h hR dX5_count_71 (rP_of (q := (cntX σ 0, σ)) (by rw [xCount, if_pos (by decide)]; rfl))
    · subst hwe
      refine g_tabIn h 72 dX5_count_1 (by decide) (by decide) rfl (by decide) ?_
      refine g_aload_n h (q := 0) 0 dX5_count_72 rfl ?_
      refine g_get h 0 0 0 ⟨rfl, rfl⟩ rfl rfl uin_X5 0 (by decide) fl_X5_12 rfl dX5_count_73 ?_
      refine g_get h 1 0 0 (ok_F (by decide)) rfl rfl uin_X0 1 (by decide) fl_X5_60 rfl dX5_count_76 ?_
      exact g_iret h hR dX5_count_79 (rP_of (q := (cntX σ 1, σ)) (by rw [xCount, if_pos (by decide)]; rfl))
    · subst hwe
      refine g_tabIn h 80 dX5_count_1 (by decide) (by decide) rfl (by decide) ?_
      refine g_aload_n h (q := 0) 0 dX5_count_80 rfl ?_
      refine g_get h 0 0 0 ⟨rfl, rfl⟩ rfl rfl uin_X5 0 (by decide) fl_X5_12 rfl dX5_count_81 ?_
      refine g_get h 1 0 0 (ok_F (by decide)) rfl rfl uin_X0 2 (by decide) fl_X5_63 rfl dX5_count_84 ?_
      exact g_iret h hR dX5_count_87 (rP_of (q := (cntX σ 2, σ)) (by rw [xCount, if_pos (by decide)]; rfl))
    · subst hwe
      refine g_tabIn h 88 dX5_count_1 (by decide) (by decide) rfl (by decide) ?_
      refine g_aload_n h (q := 0) 0 dX5_count_88 rfl ?_
      refine g_get h 0 0 0 ⟨rfl, rfl⟩ rfl rfl uin_X5 0 (by decide) fl_X5_12 rfl dX5_count_89 ?_
      refine g_get h 1 0 0 (ok_F (by decide)) rfl rfl uin_X0 3 (by decide) fl_X5_88 rfl dX5_count_92 ?_
      exact g_iret h hR dX5_count_95 (rP_of (q := (cntX σ 3, σ)) (by rw [xCount, if_pos (by decide)]; rfl))
    · subst hwe
      refine g_tabIn h 96 dX5_count_1 (by decide) (by decide) rfl (by decide) ?_
      refine g_aload_n h (q := 0) 0 dX5_count_96 rfl ?_
      refine g_get h 0 0 0 ⟨rfl, rfl⟩ rfl rfl uin_X5 0 (by decide) fl_X5_12 rfl dX5_count_97 ?_
      refine g_get h 1 0 0 (ok_F (by decide)) rfl rfl uin_X0 4 (by decide) fl_X5_81 rfl dX5_count_100 ?_
      exact g_iret h hR dX5_count_103 (rP_of (q := (cntX σ 4, σ)) (by rw [xCount, if_pos (by decide)]; rfl))
    · subst hwe
      refine g_tabIn h 104 dX5_count_1 (by decide) (by decide) rfl (by decide) ?_
      refine g_aload_n h (q := 0) 0 dX5_count_104 rfl ?_
      refine g_get h 0 0 0 ⟨rfl, rfl⟩ rfl rfl uin_X5 0 (by decide) fl_X5_12 rfl dX5_count_105 ?_
      refine g_get h 1 0 0 (ok_F (by decide)) rfl rfl uin_X0 12 (by decide) fl_X5_91 rfl dX5_count_108 ?_
      refine g_iconst h (v := 0) dX5_count_111 (by decide) ?_
      refine g_aldF h 0 7 (by decide) (by decide) (0) (show 0 < 5 by omega) dX5_count_112 ?_
      exact g_iret h hR dX5_count_113 (rP_of (q := (cntX σ 5, σ)) (by rw [xCount, if_pos (by decide)]; rfl))
    · subst hwe
      refine g_tabIn h 114 dX5_count_1 (by decide) (by decide) rfl (by decide) ?_
      refine g_aload_n h (q := 0) 0 dX5_count_114 rfl ?_
      refine g_get h 0 0 0 ⟨rfl, rfl⟩ rfl rfl uin_X5 0 (by decide) fl_X5_12 rfl dX5_count_115 ?_
      refine g_get h 1 0 0 (ok_F (by decide)) rfl rfl uin_X0 12 (by decide) fl_X5_91 rfl dX5_count_118 ?_
      refine g_iconst h (v := 1) dX5_count_121 (by decide) ?_
      refine g_aldF h 0 7 (by decide) (by decide) (1) (show 1 < 5 by omega) dX5_count_122 ?_
      exact g_iret h hR dX5_count_123 (rP_of (q := (cntX σ 6, σ)) (by rw [xCount, if_pos (by decide)]; rfl))
    · subst hwe
      refine g_tabIn h 124 dX5_count_1 (by decide) (by decide) rfl (by decide) ?_
      refine g_aload_n h (q := 0) 0 dX5_count_124 rfl ?_
      refine g_get h 0 0 0 ⟨rfl, rfl⟩ rfl rfl uin_X5 0 (by decide) fl_X5_12 rfl dX5_count_125 ?_
      refine g_get h 1 0 0 (ok_F (by decide)) rfl rfl uin_X0 12 (by decide) fl_X5_91 rfl dX5_count_128 ?_
      refine g_iconst h (v := 2) dX5_count_131 (by decide) ?_
      refine g_aldF h 0 7 (by decide) (by decide) (2) (show 2 < 5 by omega) dX5_count_132 ?_
      exact g_iret h hR dX5_count_133 (rP_of (q := (cntX σ 7, σ)) (by rw [xCount, if_pos (by decide)]; rfl))
    · subst hwe
      refine g_tabIn h 134 dX5_count_1 (by decide) (by decide) rfl (by decide) ?_
      refine g_aload_n h (q := 0) 0 dX5_count_134 rfl ?_
      refine g_get h 0 0 0 ⟨rfl, rfl⟩ rfl rfl uin_X5 0 (by decide) fl_X5_12 rfl dX5_count_135 ?_
      refine g_get h 1 0 0 (ok_F (by decide)) rfl rfl uin_X0 12 (by decide) fl_X5_91 rfl dX5_count_138 ?_
      refine g_iconst h (v := 3) dX5_count_141 (by decide) ?_
      refine g_aldF h 0 7 (by decide) (by decide) (3) (show 3 < 5 by omega) dX5_count_142 ?_
      exact g_iret h hR dX5_count_143 (rP_of (q := (cntX σ 8, σ)) (by rw [xCount, if_pos (by decide)]; rfl))
    · subst hwe
      refine g_tabIn h 144 dX5_count_1 (by decide) (by decide) rfl (by decide) ?_
      refine g_aload_n h (q := 0) 0 dX5_count_144 rfl ?_
      refine g_get h 0 0 0 ⟨rfl, rfl⟩ rfl rfl uin_X5 0 (by decide) fl_X5_12 rfl dX5_count_145 ?_
      refine g_get h 1 0 0 (ok_F (by decide)) rfl rfl uin_X0 12 (by decide) fl_X5_91 rfl dX5_count_148 ?_
      refine g_iconst h (v := 4) dX5_count_151 (by decide) ?_
      refine g_aldF h 0 7 (by decide) (by decide) (4) (show 4 < 5 by omega) dX5_count_152 ?_
      exact g_iret h hR dX5_count_153 (rP_of (q := (cntX σ 9, σ)) (by rw [xCount, if_pos (by decide)]; rfl))
    · subst hwe
      refine g_tabIn h 154 dX5_count_1 (by decide) (by decide) rfl (by decide) ?_
      refine g_aload_n h (q := 0) 0 dX5_count_154 rfl ?_
      refine g_get h 0 0 0 ⟨rfl, rfl⟩ rfl rfl uin_X5 4 (by decide) fl_X5_36 rfl dX5_count_155 ?_
      refine g_get h 8 0 0 ⟨rfl, rfl⟩ rfl rfl uin_X3 2 (by decide) fl_X5_106 rfl dX5_count_158 ?_
      exact g_iret h hR dX5_count_161 (rP_of (q := (cntX σ 10, σ)) (by rw [xCount, if_pos (by decide)]; rfl))
    · subst hwe
      refine g_tabIn h 162 dX5_count_1 (by decide) (by decide) rfl (by decide) ?_
      refine g_aload_n h (q := 0) 0 dX5_count_162 rfl ?_
      refine g_get h 0 0 0 ⟨rfl, rfl⟩ rfl rfl uin_X5 3 (by decide) fl_X5_29 rfl dX5_count_163 ?_
      refine g_get h 6 0 0 ⟨rfl, rfl⟩ rfl rfl uin_X1 2 (by decide) fl_X5_97 rfl dX5_count_166 ?_
      exact g_iret h hR dX5_count_169 (rP_of (q := (cntX σ 11, σ)) (by rw [xCount, if_pos (by decide)]; rfl))
  · refine g_tabOut h 170 dX5_count_1 (by omega) (by decide) ?_
    refine g_iconst h (v := (-1)) dX5_count_170 (by decide) ?_
    exact g_iret h hR dX5_count_171 (rP_of (q := (-1, σ)) (by rw [xCount, if_neg (fun q => by rw [wi_out (n := 12) (by decide) hout] at q; exact absurd q (by decide))]))
end
section
theorem findN_cases (p : Nat → Bool) : ∀ (m k : Nat), findN p m k = -9 ∨ ∃ j, k ≤ j ∧ j < k + m ∧ p j = true ∧ findN p m k = nI j := by
  intro m
  induction m with
  | zero => intro k; exact Or.inl rfl
  | succ m ih =>
    intro k
    by_cases h : p k = true
    · exact Or.inr ⟨k, Nat.le_refl _, by omega, h, by simp [findN, h]⟩
    · rcases ih (k + 1) with e | ⟨j, h1, h2, h3, h4⟩
      · exact Or.inl (by simp [findN, h, e])
      · exact Or.inr ⟨j, by omega, by omega, h3, by simp [findN, h, h4]⟩
theorem fAt_nat {F : FabT} {a : Int32} (h : ¬ fAt F a = -9) : ∃ j, j < F.2.1 ∧ fAt F a = nI j := by
  rcases findN_cases (pAt F a) F.2.1 0 with e | ⟨j, _, h2, _, h4⟩
  · exact absurd e h
  · exact ⟨j, by omega, h4⟩
/-- the net: where the letters of the lines are before a stage -/
def enN (F : FabT) (np : Nat → Int32) (n : Nat) : Nat → Int32 := fun t => if t < n then (if fAt F (nI t) = -9 then -9 else nI t) else np t
theorem enN_s (F : FabT) (np : Nat → Int32) (n : Nat) : upd (enN F np n) n (if fAt F (nI n) = -9 then -9 else nI n) = enN F np (n + 1) := by
  funext t
  by_cases e : t = n
  · subst e; simp [enN, upd]
  · have e2 : (t < n + 1) = (t < n) := by apply propext; omega
    simp [enN, upd, e, e2]
def sN (σ : ST) (g : Nat → Int32) : ST := sX σ (σ.2.2.1.1, va_up σ.2.2.1.2 3 g)
theorem sN_sN {σ : ST} {a b : Nat → Int32} : sN (sN σ a) b = sN σ b := by simp [sN, sX, bx_uu]
theorem sN_at {σ : ST} {a : Nat → Int32} : (sN σ a).2.2.1.2 3 = a := by simp [sN, sX, up_s]
theorem sN_id {σ : ST} : sN σ (σ.2.2.1.2 3) = σ := by simp [sN, sX, up_id]
set_option maxHeartbeats 4000000 in
theorem l_X5_enterNet {K : KX} {E : EnvT} (hE : EOK E) (h : Cx K E cX5_enterNet 2 RX5 1 22) {σ : ST} {post : Option Value → ST → Prop} (hR : Rx K E none post) (hL : (σ.1 0).2.1 ≤ 64) : ∀ m t τ, t + m = 8 → τ = sN σ (enN (σ.1 0) (σ.2.2.1.2 3) t) → post none (sN σ (enN (σ.1 0) (σ.2.2.1.2 3) 8)) → GG K E τ 2 [(0, .ref (ad E 0 0 0)), (1, .int (nI t))] [] := by
  intro m
  induction m with
  | zero =>
    intro t τ hm ht hp
    have h8 : t = 8 := by omega
    subst h8
    refine g_iload_n h (q := 1) 1 dX5_enterNet_2 rfl ?_
    refine g_bipush h (v := 8) dX5_enterNet_3 (by decide) ?_
    refine g_ncmp_ge h (a := 8) (b := 8) 39 dX5_enterNet_5 (by decide) (by omega) (by omega) (fun c1 => ?_) (fun c1 => ?_)
    · exact g_vret h hR dX5_enterNet_39 (by rw [ht]; exact hp)
    · exfalso; omega
  | succ m ih =>
    intro t τ hm ht hp
    have ef : τ.1 0 = σ.1 0 := by rw [ht]; rfl
    have en : τ.2.2.1.2 3 = enN (σ.1 0) (σ.2.2.1.2 3) t := by rw [ht, sN_at]
    refine g_iload_n h (q := 1) 1 dX5_enterNet_2 rfl ?_
    refine g_bipush h (v := 8) dX5_enterNet_3 (by decide) ?_
    refine g_ncmp_ge h (a := t) (b := 8) 39 dX5_enterNet_5 (by decide) (by omega) (by omega) (fun c1 => ?_) (fun c1 => ?_)
    · exfalso; omega
    · refine g_aload_n h (q := 0) 0 dX5_enterNet_8 rfl ?_
      refine g_get h 0 0 0 ⟨rfl, rfl⟩ rfl rfl uin_X5 7 (by decide) fl_X5_48 rfl dX5_enterNet_9 ?_
      refine g_iload_n h (q := 1) 1 dX5_enterNet_12 rfl ?_
      refine g_aload_n h (q := 0) 0 dX5_enterNet_13 rfl ?_
      refine g_get h 0 0 0 ⟨rfl, rfl⟩ rfl rfl uin_X5 0 (by decide) fl_X5_12 rfl dX5_enterNet_14 ?_
      refine g_iload_n h (q := 1) 1 dX5_enterNet_17 rfl ?_
      refine g_callV h mv_X0_letterAt 1 0 0 (ok_F (by decide)) rfl rfl (As := [.int (nI (t))]) (c_X0_letterAt (kl K) hE (σ := τ) 0 (by decide) (by rw [ef]; exact hL) (nI t)) ml_X5_77 rfl (by decide) (by decide) rfl (Nat.le_of_ble_eq_true rfl) dX5_enterNet_18 (fun v σ9 h9 => ?_)
      rw [h9.1, h9.2]; clear h9
      rw [ef]
      refine g_bipush h (v := (-9)) dX5_enterNet_21 (by decide) ?_
      refine g_icmp_ne h 31 dX5_enterNet_23 (by decide) (fun c2 => ?_) (fun c2 => ?_)
      · refine g_iload_n h (q := 1) 1 dX5_enterNet_31 rfl ?_
        refine g_astX h 3 (by decide) (by decide) (t) (show t < 8 by omega) dX5_enterNet_32 (fun σ1 hσ1 => ?_)
        refine g_iinc h (q := 1) (v := nI (t + 1)) 1 [(0, .ref (ad E 0 0 0)), (1, .int (nI (t + 1)))] dX5_enterNet_33 rfl (nI_inc t 1) (by decide) rfl ?_
        refine g_goto h 2 dX5_enterNet_36 (by decide) ?_
        exact ih (t + 1) σ1 (by omega) (by rw [hσ1, en, ht]; rw [← enN_s, if_neg c2]; exact sN_sN) hp
      · refine g_bipush h (v := (-9)) dX5_enterNet_26 (by decide) ?_
        refine g_goto h 32 dX5_enterNet_28 (by decide) ?_
        refine g_astX h 3 (by decide) (by decide) (t) (show t < 8 by omega) dX5_enterNet_32 (fun σ2 hσ2 => ?_)
        refine g_iinc h (q := 1) (v := nI (t + 1)) 1 [(0, .ref (ad E 0 0 0)), (1, .int (nI (t + 1)))] dX5_enterNet_33 rfl (nI_inc t 1) (by decide) rfl ?_
        refine g_goto h 2 dX5_enterNet_36 (by decide) ?_
        exact ih (t + 1) σ2 (by omega) (by rw [hσ2, en, ht]; rw [← enN_s, if_pos c2]; exact sN_sN) hp
set_option maxHeartbeats 4000000 in
theorem c_X5_enterNet (l : Launch) {E : EnvT} (hE : EOK E) {σ : ST} (hL : (σ.1 0).2.1 ≤ 64) : Con l E yX5_enterNet cX5_enterNet 2 none 1 22 [.ref (ad E 0 0 0)] σ (rV (sN σ (enN (σ.1 0) (σ.2.2.1.2 3) 8))) := by
  refine con_intro hE (by decide) (Nat.le_of_ble_eq_true rfl) (fun K hkl h hR => ?_)
  subst hkl
  have h : Cx K E cX5_enterNet 2 RX5 1 22 := h
  show GG K E σ 0 [(0, .ref (ad E 0 0 0))] []
  refine g_iconst h (v := 0) dX5_enterNet_0 (by decide) ?_
  refine g_istore_n h (q := 1) [(0, .ref (ad E 0 0 0)), (1, .int 0)] dX5_enterNet_1 (by decide) rfl ?_
  exact l_X5_enterNet (σ := σ) hE h hR hL 8 0 σ rfl (by rw [show enN (σ.1 0) (σ.2.2.1.2 3) 0 = σ.2.2.1.2 3 from by funext q; simp [enN], sN_id]) ⟨rfl, rfl⟩
def plc (F : FabT) (bit : Int32) (np : Nat → Int32) (t : Nat) : Int32 := (np t &&& (bit ^^^ (-1))) ||| (F.2.2 2 (fAt F (nI t)).toNatClampNeg &&& bit)
def psL (F : FabT) (bit : Int32) : Nat → Nat → Int32 → (Nat → Int32) → Nat → Int32
  | 0, _, _, np => np
  | m + 1, t, tk, np =>
    if fAt F (nI t) = -9 ∨ np t = -9 then psL F bit m (t + 1) tk np
    else psL F bit m (t + 1) (tk ||| ((1 : Int32) <<< (plc F bit np t &&& 31))) (upd np t (if tk &&& ((1 : Int32) <<< (plc F bit np t &&& 31)) = 0 then plc F bit np t else -9))
set_option maxHeartbeats 4000000 in
theorem l_X5_passStage {K : KX} {E : EnvT} (hE : EOK E) (h : Cx K E cX5_passStage 8 RX5 1 22) {σ : ST} {post : Option Value → ST → Prop} (hR : Rx K E none post) (hL : (σ.1 0).2.1 ≤ 64) (s : Nat) (bit : Int32) : ∀ m t tk np τ, t + m = 8 → τ = sN σ np → post none (sN σ (psL (σ.1 0) bit m t tk np)) → GG K E τ 11 [(0, .ref (ad E 0 0 0)), (1, .int (nI s)), (2, .int bit), (3, .int tk), (4, .int (nI t))] [] := by
  intro m
  induction m with
  | zero =>
    intro t tk np τ hm ht hp
    refine g_iload h (q := 4) 4 dX5_passStage_11 rfl ?_
    refine g_bipush h (v := 8) dX5_passStage_13 (by decide) ?_
    refine g_ncmp_ge h (a := t) (b := 8) 125 dX5_passStage_15 (by decide) (by omega) (by omega) (fun c1 => ?_) (fun c1 => ?_)
    · exact g_vret h hR dX5_passStage_125 (by rw [ht]; exact hp)
    · exfalso; omega
  | succ m ih =>
    intro t tk np τ hm ht hp
    have ef : τ.1 0 = σ.1 0 := by rw [ht]; rfl
    have en : τ.2.2.1.2 3 = np := by rw [ht, sN_at]
    refine g_iload h (q := 4) 4 dX5_passStage_11 rfl ?_
    refine g_bipush h (v := 8) dX5_passStage_13 (by decide) ?_
    refine g_ncmp_ge h (a := t) (b := 8) 125 dX5_passStage_15 (by decide) (by omega) (by omega) (fun c1 => ?_) (fun c1 => ?_)
    · exfalso; omega
    · refine g_aload_n h (q := 0) 0 dX5_passStage_18 rfl ?_
      refine g_get h 0 0 0 ⟨rfl, rfl⟩ rfl rfl uin_X5 0 (by decide) fl_X5_12 rfl dX5_passStage_19 ?_
      refine g_iload h (q := 4) 4 dX5_passStage_22 rfl ?_
      refine g_callV h mv_X0_letterAt 1 0 0 (ok_F (by decide)) rfl rfl (As := [.int (nI (t))]) (c_X0_letterAt (kl K) hE (σ := τ) 0 (by decide) (by rw [ef]; exact hL) (nI t)) ml_X5_77 rfl (by decide) (by decide) rfl (Nat.le_of_ble_eq_true rfl) dX5_passStage_24 (fun v σ9 h9 => ?_)
      rw [h9.1, h9.2]; clear h9
      rw [ef]
      refine g_istore h (q := 5) [(0, .ref (ad E 0 0 0)), (1, .int (nI (s))), (2, .int bit), (3, .int tk), (4, .int (nI (t))), (5, .int (fAt (σ.1 0) (nI t)))] dX5_passStage_27 (by decide) rfl ?_
      refine g_iload h (q := 5) 5 dX5_passStage_29 rfl ?_
      refine g_bipush h (v := (-9)) dX5_passStage_31 (by decide) ?_
      refine g_icmp_eq h 119 dX5_passStage_33 (by decide) (fun c2 => ?_) (fun c2 => ?_)
      · refine g_iinc h (q := 4) (v := nI (t + 1)) 4 [(0, .ref (ad E 0 0 0)), (1, .int (nI (s))), (2, .int bit), (3, .int tk), (4, .int (nI (t + 1))), (5, .int (fAt (σ.1 0) (nI t)))] dX5_passStage_119 rfl (nI_inc t 1) (by decide) rfl ?_
        refine g_goto h 11 dX5_passStage_122 (by decide) ?_
        refine g_sub [(0, .ref (ad E 0 0 0)), (1, .int (nI (s))), (2, .int bit), (3, .int tk), (4, .int (nI (t + 1)))] [0, 1, 2, 3, 4] rfl ?_
        exact ih (t + 1) tk np τ (by omega) ht (by rw [psL, if_pos (by simp [c2])] at hp; exact hp)
      · refine g_aload_n h (q := 0) 0 dX5_passStage_36 rfl ?_
        refine g_get h 0 0 0 ⟨rfl, rfl⟩ rfl rfl uin_X5 7 (by decide) fl_X5_48 rfl dX5_passStage_37 ?_
        refine g_iload h (q := 4) 4 dX5_passStage_40 rfl ?_
        refine g_aldX h 3 (by decide) (by decide) (t) (show t < 8 by omega) dX5_passStage_42 ?_
        refine g_is (np t) (by rw [en]) ?_
        refine g_bipush h (v := (-9)) dX5_passStage_43 (by decide) ?_
        refine g_icmp_ne h 51 dX5_passStage_45 (by decide) (fun c3 => ?_) (fun c3 => ?_)
        · refine g_aload_n h (q := 0) 0 dX5_passStage_51 rfl ?_
          refine g_get h 0 0 0 ⟨rfl, rfl⟩ rfl rfl uin_X5 7 (by decide) fl_X5_48 rfl dX5_passStage_52 ?_
          refine g_iload h (q := 4) 4 dX5_passStage_55 rfl ?_
          refine g_aldX h 3 (by decide) (by decide) (t) (show t < 8 by omega) dX5_passStage_57 ?_
          refine g_is (np t) (by rw [en]) ?_
          refine g_iload_n h (q := 2) 2 dX5_passStage_58 rfl ?_
          refine g_iconst h (v := (-1)) dX5_passStage_59 (by decide) ?_
          refine g_ixor h dX5_passStage_60 ?_
          refine g_iand h dX5_passStage_61 ?_
          refine g_aload_n h (q := 0) 0 dX5_passStage_62 rfl ?_
          refine g_get h 0 0 0 ⟨rfl, rfl⟩ rfl rfl uin_X5 0 (by decide) fl_X5_12 rfl dX5_passStage_63 ?_
          refine g_get h 1 0 0 (ok_F (by decide)) rfl rfl uin_X0 7 (by decide) fl_X5_115 rfl dX5_passStage_66 ?_
          obtain ⟨j, hj, hje⟩ := fAt_nat c2
          refine g_iload h (q := 5) 5 dX5_passStage_69 rfl ?_
          refine g_is (nI j) hje ?_
          refine g_aldF h 0 2 (by decide) (by decide) (j) (show j < 64 by omega) dX5_passStage_71 ?_
          refine g_is ((σ.1 0).2.2 2 j) (by rw [ef]) ?_
          refine g_iload_n h (q := 2) 2 dX5_passStage_72 rfl ?_
          refine g_iand h dX5_passStage_73 ?_
          refine g_ior h dX5_passStage_74 ?_
          refine g_istore h (q := 6) [(0, .ref (ad E 0 0 0)), (1, .int (nI (s))), (2, .int bit), (3, .int tk), (4, .int (nI (t))), (5, .int (fAt (σ.1 0) (nI t))), (6, .int (((np t) &&& (bit ^^^ ((-1)))) ||| (((σ.1 0).2.2 2 j) &&& bit)))] dX5_passStage_75 (by decide) rfl ?_
          refine g_iload_n h (q := 3) 3 dX5_passStage_77 rfl ?_
          refine g_iconst h (v := 1) dX5_passStage_78 (by decide) ?_
          refine g_iload h (q := 6) 6 dX5_passStage_79 rfl ?_
          refine g_ishl h dX5_passStage_81 ?_
          refine g_iand h dX5_passStage_82 ?_
          refine g_if_eq h 90 dX5_passStage_83 (by decide) (fun c4 => ?_) (fun c4 => ?_)
          · refine g_iconst h (v := 0) dX5_passStage_90 (by decide) ?_
            refine g_istore h (q := 7) [(0, .ref (ad E 0 0 0)), (1, .int (nI (s))), (2, .int bit), (3, .int tk), (4, .int (nI (t))), (5, .int (fAt (σ.1 0) (nI t))), (6, .int (((np t) &&& (bit ^^^ ((-1)))) ||| (((σ.1 0).2.2 2 j) &&& bit))), (7, .int 0)] dX5_passStage_91 (by decide) rfl ?_
            refine g_aload_n h (q := 0) 0 dX5_passStage_93 rfl ?_
            refine g_get h 0 0 0 ⟨rfl, rfl⟩ rfl rfl uin_X5 7 (by decide) fl_X5_48 rfl dX5_passStage_94 ?_
            refine g_iload h (q := 4) 4 dX5_passStage_97 rfl ?_
            refine g_iload h (q := 7) 7 dX5_passStage_99 rfl ?_
            refine g_if_eq h 109 dX5_passStage_101 (by decide) (fun _ => ?_) (fun c => absurd rfl c)
            refine g_iload h (q := 6) 6 dX5_passStage_109 rfl ?_
            refine g_astX h 3 (by decide) (by decide) (t) (show t < 8 by omega) dX5_passStage_111 (fun σ1 hσ1 => ?_)
            refine g_iload_n h (q := 3) 3 dX5_passStage_112 rfl ?_
            refine g_iconst h (v := 1) dX5_passStage_113 (by decide) ?_
            refine g_iload h (q := 6) 6 dX5_passStage_114 rfl ?_
            refine g_ishl h dX5_passStage_116 ?_
            refine g_ior h dX5_passStage_117 ?_
            refine g_istore_n h (q := 3) [(0, .ref (ad E 0 0 0)), (1, .int (nI (s))), (2, .int bit), (3, .int (tk ||| (1 <<< ((((np t) &&& (bit ^^^ ((-1)))) ||| (((σ.1 0).2.2 2 j) &&& bit)) &&& 31)))), (4, .int (nI (t))), (5, .int (fAt (σ.1 0) (nI t))), (6, .int (((np t) &&& (bit ^^^ ((-1)))) ||| (((σ.1 0).2.2 2 j) &&& bit))), (7, .int 0)] dX5_passStage_118 (by decide) rfl ?_
            refine g_iinc h (q := 4) (v := nI (t + 1)) 4 [(0, .ref (ad E 0 0 0)), (1, .int (nI (s))), (2, .int bit), (3, .int (tk ||| (1 <<< ((((np t) &&& (bit ^^^ ((-1)))) ||| (((σ.1 0).2.2 2 j) &&& bit)) &&& 31)))), (4, .int (nI (t + 1))), (5, .int (fAt (σ.1 0) (nI t))), (6, .int (((np t) &&& (bit ^^^ ((-1)))) ||| (((σ.1 0).2.2 2 j) &&& bit))), (7, .int 0)] dX5_passStage_119 rfl (nI_inc t 1) (by decide) rfl ?_
            refine g_goto h 11 dX5_passStage_122 (by decide) ?_
            refine g_sub [(0, .ref (ad E 0 0 0)), (1, .int (nI (s))), (2, .int bit), (3, .int (tk ||| (1 <<< ((((np t) &&& (bit ^^^ ((-1)))) ||| (((σ.1 0).2.2 2 j) &&& bit)) &&& 31)))), (4, .int (nI (t + 1)))] [0, 1, 2, 3, 4] rfl ?_
            have hpl : plc (σ.1 0) bit np t = (np t &&& (bit ^^^ (-1))) ||| ((σ.1 0).2.2 2 j &&& bit) := by rw [plc, hje, nI_clamp (by omega)]
            refine ih (t + 1) _ _ σ1 (by omega) (by rw [hσ1, en, ht]; exact sN_sN) ?_
            rw [psL, if_neg (by rintro (q | q); exact c2 q; exact c3 q), hpl, if_pos c4] at hp
            exact hp
          · refine g_iconst h (v := 1) dX5_passStage_86 (by decide) ?_
            refine g_goto h 91 dX5_passStage_87 (by decide) ?_
            refine g_istore h (q := 7) [(0, .ref (ad E 0 0 0)), (1, .int (nI (s))), (2, .int bit), (3, .int tk), (4, .int (nI (t))), (5, .int (fAt (σ.1 0) (nI t))), (6, .int (((np t) &&& (bit ^^^ ((-1)))) ||| (((σ.1 0).2.2 2 j) &&& bit))), (7, .int 1)] dX5_passStage_91 (by decide) rfl ?_
            refine g_aload_n h (q := 0) 0 dX5_passStage_93 rfl ?_
            refine g_get h 0 0 0 ⟨rfl, rfl⟩ rfl rfl uin_X5 7 (by decide) fl_X5_48 rfl dX5_passStage_94 ?_
            refine g_iload h (q := 4) 4 dX5_passStage_97 rfl ?_
            refine g_iload h (q := 7) 7 dX5_passStage_99 rfl ?_
            refine g_if_eq h 109 dX5_passStage_101 (by decide) (fun c => absurd c (by decide)) (fun _ => ?_)
            refine g_bipush h (v := (-9)) dX5_passStage_104 (by decide) ?_
            refine g_goto h 111 dX5_passStage_106 (by decide) ?_
            refine g_astX h 3 (by decide) (by decide) (t) (show t < 8 by omega) dX5_passStage_111 (fun σ2 hσ2 => ?_)
            refine g_iload_n h (q := 3) 3 dX5_passStage_112 rfl ?_
            refine g_iconst h (v := 1) dX5_passStage_113 (by decide) ?_
            refine g_iload h (q := 6) 6 dX5_passStage_114 rfl ?_
            refine g_ishl h dX5_passStage_116 ?_
            refine g_ior h dX5_passStage_117 ?_
            refine g_istore_n h (q := 3) [(0, .ref (ad E 0 0 0)), (1, .int (nI (s))), (2, .int bit), (3, .int (tk ||| (1 <<< ((((np t) &&& (bit ^^^ ((-1)))) ||| (((σ.1 0).2.2 2 j) &&& bit)) &&& 31)))), (4, .int (nI (t))), (5, .int (fAt (σ.1 0) (nI t))), (6, .int (((np t) &&& (bit ^^^ ((-1)))) ||| (((σ.1 0).2.2 2 j) &&& bit))), (7, .int 1)] dX5_passStage_118 (by decide) rfl ?_
            refine g_iinc h (q := 4) (v := nI (t + 1)) 4 [(0, .ref (ad E 0 0 0)), (1, .int (nI (s))), (2, .int bit), (3, .int (tk ||| (1 <<< ((((np t) &&& (bit ^^^ ((-1)))) ||| (((σ.1 0).2.2 2 j) &&& bit)) &&& 31)))), (4, .int (nI (t + 1))), (5, .int (fAt (σ.1 0) (nI t))), (6, .int (((np t) &&& (bit ^^^ ((-1)))) ||| (((σ.1 0).2.2 2 j) &&& bit))), (7, .int 1)] dX5_passStage_119 rfl (nI_inc t 1) (by decide) rfl ?_
            refine g_goto h 11 dX5_passStage_122 (by decide) ?_
            refine g_sub [(0, .ref (ad E 0 0 0)), (1, .int (nI (s))), (2, .int bit), (3, .int (tk ||| (1 <<< ((((np t) &&& (bit ^^^ ((-1)))) ||| (((σ.1 0).2.2 2 j) &&& bit)) &&& 31)))), (4, .int (nI (t + 1)))] [0, 1, 2, 3, 4] rfl ?_
            have hpl : plc (σ.1 0) bit np t = (np t &&& (bit ^^^ (-1))) ||| ((σ.1 0).2.2 2 j &&& bit) := by rw [plc, hje, nI_clamp (by omega)]
            refine ih (t + 1) _ _ σ2 (by omega) (by rw [hσ2, en, ht]; exact sN_sN) ?_
            rw [psL, if_neg (by rintro (q | q); exact c2 q; exact c3 q), hpl, if_neg c4] at hp
            exact hp
        · refine g_goto h 119 dX5_passStage_48 (by decide) ?_
          refine g_iinc h (q := 4) (v := nI (t + 1)) 4 [(0, .ref (ad E 0 0 0)), (1, .int (nI (s))), (2, .int bit), (3, .int tk), (4, .int (nI (t + 1))), (5, .int (fAt (σ.1 0) (nI t)))] dX5_passStage_119 rfl (nI_inc t 1) (by decide) rfl ?_
          refine g_goto h 11 dX5_passStage_122 (by decide) ?_
          refine g_sub [(0, .ref (ad E 0 0 0)), (1, .int (nI (s))), (2, .int bit), (3, .int tk), (4, .int (nI (t + 1)))] [0, 1, 2, 3, 4] rfl ?_
          exact ih (t + 1) tk np τ (by omega) ht (by rw [psL, if_pos (by simp [c3])] at hp; exact hp)
def bitS (s : Nat) : Int32 := (1 : Int32) <<< (nI (3 - s) &&& 31)
set_option maxHeartbeats 4000000 in
theorem c_X5_passStage (l : Launch) {E : EnvT} (hE : EOK E) {σ : ST} (hL : (σ.1 0).2.1 ≤ 64) (s : Nat) (hs : s ≤ 3) : Con l E yX5_passStage cX5_passStage 8 none 1 22 [.ref (ad E 0 0 0), .int (nI (s))] σ (rV (sN σ (psL (σ.1 0) (bitS s) 8 0 0 (σ.2.2.1.2 3)))) := by
  refine con_intro hE (by decide) (Nat.le_of_ble_eq_true rfl) (fun K hkl h hR => ?_)
  subst hkl
  have h : Cx K E cX5_passStage 8 RX5 1 22 := h
  show GG K E σ 0 [(0, .ref (ad E 0 0 0)), (1, .int (nI (s)))] []
  refine g_iconst h (v := 1) dX5_passStage_0 (by decide) ?_
  refine g_iconst h (v := 3) dX5_passStage_1 (by decide) ?_
  refine g_iload_n h (q := 1) 1 dX5_passStage_2 rfl ?_
  refine g_isub h dX5_passStage_3 ?_
  refine g_is (nI (3 - s)) (pk_sub (a := 3) (b := s) (by omega)) ?_
  refine g_ishl h dX5_passStage_4 ?_
  refine g_istore_n h (q := 2) [(0, .ref (ad E 0 0 0)), (1, .int (nI (s))), (2, .int (1 <<< ((nI (3 - s)) &&& 31)))] dX5_passStage_5 (by decide) rfl ?_
  refine g_iconst h (v := 0) dX5_passStage_6 (by decide) ?_
  refine g_istore_n h (q := 3) [(0, .ref (ad E 0 0 0)), (1, .int (nI (s))), (2, .int (1 <<< ((nI (3 - s)) &&& 31))), (3, .int 0)] dX5_passStage_7 (by decide) rfl ?_
  refine g_iconst h (v := 0) dX5_passStage_8 (by decide) ?_
  refine g_istore h (q := 4) [(0, .ref (ad E 0 0 0)), (1, .int (nI (s))), (2, .int (1 <<< ((nI (3 - s)) &&& 31))), (3, .int 0), (4, .int 0)] dX5_passStage_9 (by decide) rfl ?_
  exact l_X5_passStage (σ := σ) hE h hR hL s (bitS s) 8 0 0 (σ.2.2.1.2 3) σ rfl sN_id.symm ⟨rfl, rfl⟩
def strL (F : FabT) (a : Nat) : Nat → Nat → (Nat → Int32) → Int32 × (Nat → Int32)
  | 0, _, np => (0, np)
  | m + 1, s, np => if psL F (bitS s) 8 0 0 np a = -9 then (nI s, psL F (bitS s) 8 0 0 np) else strL F a m (s + 1) (psL F (bitS s) 8 0 0 np)
def xStraight (σ : ST) (a : Int32) : Int32 × ST :=
  if wi a 0 7 = true then (if fAt (σ.1 0) a = -9 then (-2, σ) else
    ((strL (σ.1 0) a.toNatClampNeg 3 1 (enN (σ.1 0) (σ.2.2.1.2 3) 8)).1, sN σ (strL (σ.1 0) a.toNatClampNeg 3 1 (enN (σ.1 0) (σ.2.2.1.2 3) 8)).2)) else (-1, σ)
set_option maxHeartbeats 4000000 in
theorem l_X5_straight {K : KX} {E : EnvT} (hE : EOK E) (h : Cx K E cX5_straight 3 RX5 2 49) {σ : ST} {post : Option Value → ST → Prop} (hR : Rx K E (some .int) post) (hL : (σ.1 0).2.1 ≤ 64) (a : Nat) (ha : a < 8) : ∀ m s np τ, s + m = 4 → τ = sN σ np → post (some (.int (strL (σ.1 0) a m s np).1)) (sN σ (strL (σ.1 0) a m s np).2) → GG K E τ 31 [(0, .ref (ad E 0 0 0)), (1, .int (nI a)), (2, .int (nI s))] [] := by
  intro m
  induction m with
  | zero =>
    intro s np τ hm ht hp
    refine g_iload_n h (q := 2) 2 dX5_straight_31 rfl ?_
    refine g_iconst h (v := 3) dX5_straight_32 (by decide) ?_
    refine g_ncmp_gt h (a := s) (b := 3) 60 dX5_straight_33 (by decide) (by omega) (by omega) (fun c1 => ?_) (fun c1 => ?_)
    · refine g_iconst h (v := 0) dX5_straight_60 (by decide) ?_
      exact g_iret h hR dX5_straight_61 (by rw [ht]; exact hp)
    · exfalso; omega
  | succ m ih =>
    intro s np τ hm ht hp
    have ef : τ.1 0 = σ.1 0 := by rw [ht]; rfl
    have en : τ.2.2.1.2 3 = np := by rw [ht, sN_at]
    refine g_iload_n h (q := 2) 2 dX5_straight_31 rfl ?_
    refine g_iconst h (v := 3) dX5_straight_32 (by decide) ?_
    refine g_ncmp_gt h (a := s) (b := 3) 60 dX5_straight_33 (by decide) (by omega) (by omega) (fun c1 => ?_) (fun c1 => ?_)
    · exfalso; omega
    · refine g_aload_n h (q := 0) 0 dX5_straight_36 rfl ?_
      refine g_iload_n h (q := 2) 2 dX5_straight_37 rfl ?_
      refine g_callV h mv_X5_passStage 0 0 0 ⟨rfl, rfl⟩ rfl rfl (As := [.int (nI (s))]) (c_X5_passStage (kl K) hE (σ := τ) (by rw [ef]; exact hL) s (by omega)) ml_X5_149 rfl (by decide) (by decide) rfl (Nat.le_of_ble_eq_true rfl) dX5_straight_38 (fun v σ9 h9 => ?_)
      rw [h9.1, h9.2]; clear h9
      rw [ef, en]
      obtain ⟨τ2, hτ2⟩ : ∃ τ2, τ2 = sN τ (psL (σ.1 0) (bitS s) 8 0 0 np) := ⟨_, rfl⟩
      rw [← hτ2]
      have en2 : τ2.2.2.1.2 3 = psL (σ.1 0) (bitS s) 8 0 0 np := by rw [hτ2, sN_at]
      have hτ3 : τ2 = sN σ (psL (σ.1 0) (bitS s) 8 0 0 np) := by rw [hτ2, ht, sN_sN]
      refine g_aload_n h (q := 0) 0 dX5_straight_41 rfl ?_
      refine g_get h 0 0 0 ⟨rfl, rfl⟩ rfl rfl uin_X5 7 (by decide) fl_X5_48 rfl dX5_straight_42 ?_
      refine g_iload_n h (q := 1) 1 dX5_straight_45 rfl ?_
      refine g_aldX h 3 (by decide) (by decide) (a) (show a < 8 by omega) dX5_straight_46 ?_
      refine g_is (psL (σ.1 0) (bitS s) 8 0 0 np a) (by rw [en2]) ?_
      refine g_bipush h (v := (-9)) dX5_straight_47 (by decide) ?_
      refine g_icmp_ne h 54 dX5_straight_49 (by decide) (fun c2 => ?_) (fun c2 => ?_)
      · refine g_iinc h (q := 2) (v := nI (s + 1)) 2 [(0, .ref (ad E 0 0 0)), (1, .int (nI (a))), (2, .int (nI (s + 1)))] dX5_straight_54 rfl (nI_inc s 1) (by decide) rfl ?_
        refine g_goto h 31 dX5_straight_57 (by decide) ?_
        exact ih (s + 1) _ τ2 (by omega) hτ3 (by rw [strL, if_neg c2] at hp; exact hp)
      · refine g_iload_n h (q := 2) 2 dX5_straight_52 rfl ?_
        exact g_iret h hR dX5_straight_53 (by rw [strL, if_pos c2] at hp; rw [hτ3]; exact hp)
set_option maxHeartbeats 4000000 in
theorem c_X5_straight (l : Launch) {E : EnvT} (hE : EOK E) {σ : ST} (hX : XO σ) (a : Int32) : Con l E yX5_straight cX5_straight 3 (some .int) 2 49 [.ref (ad E 0 0 0), .int a] σ (rP (xStraight σ a)) := by
  refine con_intro hE (by decide) (Nat.le_of_ble_eq_true rfl) (fun K hkl h hR => ?_)
  subst hkl
  have h : Cx K E cX5_straight 3 RX5 2 49 := h
  show GG K E σ 0 [(0, .ref (ad E 0 0 0)), (1, .int a)] []
  refine g_iload_n h (q := 1) 1 dX5_straight_0 rfl ?_
  refine g_callS h ms_X5_isLine (As := [.int a]) (c_X5_isLine (kl K) hE (σ := σ) a) ml_X5_70 rfl (by decide) (by decide) rfl (Nat.le_of_ble_eq_true rfl) dX5_straight_1 (fun v σ9 h9 => ?_)
  rw [h9.1, h9.2]; clear h9
  refine g_if_ne h 9 dX5_straight_4 (by decide) (fun c1 => ?_) (fun c1 => ?_)
  · refine g_aload_n h (q := 0) 0 dX5_straight_9 rfl ?_
    refine g_get h 0 0 0 ⟨rfl, rfl⟩ rfl rfl uin_X5 0 (by decide) fl_X5_12 rfl dX5_straight_10 ?_
    refine g_iload_n h (q := 1) 1 dX5_straight_13 rfl ?_
    refine g_callV h mv_X0_letterAt 1 0 0 (ok_F (by decide)) rfl rfl (As := [.int a]) (c_X0_letterAt (kl K) hE (σ := σ) 0 (by decide) hX.1.1 a) ml_X5_77 rfl (by decide) (by decide) rfl (Nat.le_of_ble_eq_true rfl) dX5_straight_14 (fun v σ9 h9 => ?_)
    rw [h9.1, h9.2]; clear h9
    refine g_bipush h (v := (-9)) dX5_straight_17 (by decide) ?_
    refine g_icmp_ne h 25 dX5_straight_19 (by decide) (fun c2 => ?_) (fun c2 => ?_)
    · refine g_aload_n h (q := 0) 0 dX5_straight_25 rfl ?_
      refine g_callV h mv_X5_enterNet 0 0 0 ⟨rfl, rfl⟩ rfl rfl (As := []) (c_X5_enterNet (kl K) hE (σ := σ) hX.1.1) ml_X5_146 rfl (by decide) (by decide) rfl (Nat.le_of_ble_eq_true rfl) dX5_straight_26 (fun v σ9 h9 => ?_)
      rw [h9.1, h9.2]; clear h9
      obtain ⟨τ, hτ⟩ : ∃ τ, τ = sN σ (enN (σ.1 0) (σ.2.2.1.2 3) 8) := ⟨_, rfl⟩
      rw [← hτ]
      refine g_iconst h (v := 1) dX5_straight_29 (by decide) ?_
      refine g_istore_n h (q := 2) [(0, .ref (ad E 0 0 0)), (1, .int a), (2, .int 1)] dX5_straight_30 (by decide) rfl ?_
      obtain ⟨j, hj, hje⟩ := wi_nat (n := 7) (by decide) (bI_1.mp c1)
      have hw1 := bI_1.mp c1
      subst hje
      exact l_X5_straight (σ := σ) hE h hR hX.1.1 j (by omega) 3 1 _ τ rfl hτ (by rw [xStraight, if_pos hw1, if_neg c2, nI_clamp (by omega)]; exact ⟨rfl, rfl⟩)
    · refine g_bipush h (v := (-2)) dX5_straight_22 (by decide) ?_
      exact g_iret h hR dX5_straight_24 (rP_of (q := ((-2), σ)) (by simp [xStraight, bI_1.mp c1, c2]))
  · refine g_iconst h (v := (-1)) dX5_straight_7 (by decide) ?_
    exact g_iret h hR dX5_straight_8 (rP_of (q := ((-1), σ)) (by simp [xStraight, bI_0.mp c1]))
end
section
theorem foL_ok (L z : Nat) : ∀ (m t : Nat) (sv : Int32) (l : Nat) (F : FabT) (g : Nat → Nat), t + m = z → l ≤ t → PK F → (∀ q, q < l → g q < L) → (∀ q, t ≤ q → q < z → g q < L) →
    PK (foL m t sv l F g).1 ∧ (foL m t sv l F g).1.2.1 = F.2.1 ∧ (foL m t sv l F g).2.2 ≤ z ∧ ∀ q, q < (foL m t sv l F g).2.2 → (foL m t sv l F g).2.1 q < L := by
  intro m
  induction m with
  | zero => intro t sv l F g ht hl hF h1 h2; exact ⟨hF, rfl, by show l ≤ z; omega, h1⟩
  | succ m ih =>
    intro t sv l F g ht hl hF h1 h2
    by_cases hc : sv &&& ((1 : Int32) <<< (F.2.2 2 (g t) &&& 31)) = 0
    · rw [foL, if_pos hc]
      exact ih (t + 1) _ l (enL F (g t) 3) g (by omega) (by omega) (enL_pk hF _ (by decide)) h1 (fun q a b => h2 q (by omega) b)
    · rw [foL, if_neg hc]
      refine ih (t + 1) sv (l + 1) F _ (by omega) (by omega) hF (fun q a => ?_) (fun q a b => ?_)
      · by_cases e : q = l
        · rw [e, up_s]; exact h2 t (Nat.le_refl _) (by omega)
        · rw [up_n e]; exact h1 q (by omega)
      · rw [up_n (by omega)]; exact h2 q (by omega) b
theorem slS_f {σ : ST} {i : Nat} : (slS σ i).1 i = slF (σ.1 i) (σ.2.1 i) (σ.2.1 14) (σ.2.1 15) := by
  simp [slS, sQ, sR, sF, up_s]
theorem slS_q {σ : ST} {i : Nat} (hi : i < 14) : (slS σ i).2.1 i = (slO (σ.1 i) (σ.2.1 i) (σ.2.1 14) (σ.2.1 15)).2 := by
  rw [slS, sR_ne (by omega), sR_ne (by omega), sQ_q]
theorem slS_fn {σ : ST} {i j : Nat} (h : j ≠ i) : (slS σ i).1 j = σ.1 j := by
  show (sF σ i _).1 j = _
  exact sF_ne h
theorem slS_qn {σ : ST} {i j : Nat} (h : j ≠ i) (hj : j < 14) : (slS σ i).2.1 j = σ.2.1 j := by
  rw [slS, sR_ne (by omega), sR_ne (by omega), sQ, sR_ne h]; rfl
theorem slS_x {σ : ST} {i : Nat} : (slS σ i).2.2 = σ.2.2 := rfl
theorem slF_ok {F : FabT} {Q W B : RowT} (hF : PK F) (hQ : ROK F.2.1 Q) : PK (slF F Q W B) ∧ (slF F Q W B).2.1 = F.2.1 ∧ ROK F.2.1 (slO F Q W B).2 := by
  have hW := sortW_ok (F := F) (w := W) hF.1
  have hK1 := lwL_ok (sortW F W) F.2.1 hW hF.1 (sortW F W).2 0 (-9) 0 F Q (B.1, 0) (Nat.zero_add _) hF rfl hQ ⟨Nat.zero_le _, fun t q => absurd q (Nat.not_lt_zero t)⟩
  have hK2 := tbL_ok (slL F Q W B).2.2 (slL F Q W B).2.2.2 0 (slL F Q W B).1 hK1.1
  have hK3 := foL_ok F.2.1 (slL F Q W B).2.1.2 (slL F Q W B).2.1.2 0 0 0 (slT F Q W B) (slL F Q W B).2.1.1 (Nat.zero_add _) (Nat.le_refl _) hK2.1 (fun q h => absurd h (Nat.not_lt_zero q)) (fun q _ h => hK1.2.2.1.2 q h)
  have e1 : (slO F Q W B).1.2.1 = F.2.1 := hK3.2.1.trans (hK2.2.trans hK1.2.1)
  exact ⟨hK3.1, e1, Nat.le_trans hK3.2.2.1 hK1.2.2.1.1, hK3.2.2.2⟩
def TO (σ : ST) : Prop := PK (σ.1 1) ∧ ROK (σ.1 1).2.1 (σ.2.1 1)
theorem TO.sl {σ : ST} (h : TO σ) : TO (slS σ 1) := by
  have h2 := slF_ok (W := σ.2.1 14) (B := σ.2.1 15) h.1 h.2
  refine ⟨by rw [slS_f]; exact h2.1, ?_⟩
  rw [slS_f, slS_q (by decide), h2.2.1]
  exact h2.2.2
theorem cpF_pk {A B : FabT} (h : PK B) : PK (cpF A B) := by
  refine ⟨h.1, fun n hn => ?_⟩
  have hn : n < B.2.1 := hn
  have e : (cpF A B).2.2 0 n = B.2.2 0 n := by simp [cpF, hn]
  rw [e]
  exact h.2 n hn
theorem cpR_ok {A B : RowT} {b : Nat} (h : ROK b B) : ROK b (cpR A B) := by
  refine ⟨h.1, fun t ht => ?_⟩
  have ht : t < B.2 := ht
  have e : (cpR A B).1 t = B.1 t := by simp [cpR, ht]
  rw [e]
  exact h.2 t ht
theorem cpS_f {σ : ST} {i j : Nat} : (cpS σ i j).1 i = cpF (σ.1 i) (σ.1 j) := by
  show (sF σ i _).1 i = _
  exact sF_at
theorem cpS_q {σ : ST} {i j : Nat} : (cpS σ i j).2.1 i = cpR (σ.2.1 i) (σ.2.1 j) := sR_at
theorem cpS_fn {σ : ST} {i j k : Nat} (h : k ≠ i) : (cpS σ i j).1 k = σ.1 k := by
  show (sF σ i _).1 k = _
  exact sF_ne h
theorem cpS_qn {σ : ST} {i j k : Nat} (h : k ≠ i) : (cpS σ i j).2.1 k = σ.2.1 k := by rw [cpS, sR_ne h]; rfl
theorem TO.cp {σ : ST} (hX : XO σ) : TO (cpS σ 1 0) := by
  refine ⟨by rw [cpS_f]; exact cpF_pk hX.1, ?_⟩
  rw [cpS_f, cpS_q]
  exact cpR_ok hX.2.1
def tryB (σ : ST) : Bool := decide (fLive ((slS σ 1).1 1) ≠ fLive (σ.1 1))
set_option maxHeartbeats 4000000 in
theorem c_X5_trySlot (l : Launch) {E : EnvT} (hE : EOK E) {σ : ST} (hT : TO σ) : Con l E yX5_trySlot cX5_trySlot 2 (some .boolean) 4 93 [.ref (ad E 0 0 0)] σ (rP (bI (tryB σ), slS σ 1)) := by
  refine con_intro hE (by decide) (Nat.le_of_ble_eq_true rfl) (fun K hkl h hR => ?_)
  subst hkl
  have h : Cx K E cX5_trySlot 2 RX5 4 93 := h
  show GG K E σ 0 [(0, .ref (ad E 0 0 0))] []
  refine g_aload_n h (q := 0) 0 dX5_trySlot_0 rfl ?_
  refine g_get h 0 0 0 ⟨rfl, rfl⟩ rfl rfl uin_X5 1 (by decide) fl_X5_16 rfl dX5_trySlot_1 ?_
  refine g_callV h mv_X0_countLive 1 1 0 (ok_F (by decide)) rfl rfl (As := []) (c_X0_countLive (kl K) hE (σ := σ) 1 (by decide)) ml_X5_156 rfl (by decide) (by decide) rfl (Nat.le_of_ble_eq_true rfl) dX5_trySlot_4 (fun v σ9 h9 => ?_)
  rw [h9.1, h9.2]; clear h9
  refine g_istore_n h (q := 1) [(0, .ref (ad E 0 0 0)), (1, .int (fLive (σ.1 1)))] dX5_trySlot_7 (by decide) rfl ?_
  refine g_aload_n h (q := 0) 0 dX5_trySlot_8 rfl ?_
  refine g_get h 0 0 0 ⟨rfl, rfl⟩ rfl rfl uin_X5 2 (by decide) fl_X5_22 rfl dX5_trySlot_9 ?_
  refine g_aload_n h (q := 0) 0 dX5_trySlot_12 rfl ?_
  refine g_get h 0 0 0 ⟨rfl, rfl⟩ rfl rfl uin_X5 1 (by decide) fl_X5_16 rfl dX5_trySlot_13 ?_
  refine g_callV h mv_X4_passSlot 5 0 0 ⟨rfl, rfl⟩ rfl rfl (As := [.ref (ad E 1 1 0)]) (c_X4_passSlot (kl K) hE (σ := σ) 1 (by decide) hT.1 hT.2) ml_X5_94 rfl (by decide) (by decide) rfl (Nat.le_of_ble_eq_true rfl) dX5_trySlot_16 (fun v σ9 h9 => ?_)
  rw [h9.1, h9.2]; clear h9
  obtain ⟨τ, hτ⟩ : ∃ τ, τ = slS σ 1 := ⟨_, rfl⟩
  rw [← hτ]
  refine g_aload_n h (q := 0) 0 dX5_trySlot_19 rfl ?_
  refine g_get h 0 0 0 ⟨rfl, rfl⟩ rfl rfl uin_X5 1 (by decide) fl_X5_16 rfl dX5_trySlot_20 ?_
  refine g_callV h mv_X0_countLive 1 1 0 (ok_F (by decide)) rfl rfl (As := []) (c_X0_countLive (kl K) hE (σ := τ) 1 (by decide)) ml_X5_156 rfl (by decide) (by decide) rfl (Nat.le_of_ble_eq_true rfl) dX5_trySlot_23 (fun v σ9 h9 => ?_)
  rw [h9.1, h9.2]; clear h9
  refine g_iload_n h (q := 1) 1 dX5_trySlot_26 rfl ?_
  refine g_icmp_eq h 34 dX5_trySlot_27 (by decide) (fun c1 => ?_) (fun c1 => ?_)
  · refine g_iconst h (v := 0) dX5_trySlot_34 (by decide) ?_
    exact g_zret h hR dX5_trySlot_35 (by decide) (rP_of (q := (bI false, τ)) (by rw [show tryB σ = false by rw [tryB, ← hτ]; simp [c1], hτ]))
  · refine g_iconst h (v := 1) dX5_trySlot_30 (by decide) ?_
    refine g_goto h 35 dX5_trySlot_31 (by decide) ?_
    exact g_zret h hR dX5_trySlot_35 (by decide) (rP_of (q := (bI true, τ)) (by rw [show tryB σ = true by rw [tryB, ← hτ]; simp [c1], hτ]))
def drL : Nat → Nat → ST → Int32 × ST
  | 0, _, τ => (-9, τ)
  | m + 1, k, τ => if fLive (τ.1 1) = 0 then (nI k, τ) else if tryB τ = true then drL m (k + 1) (slS τ 1) else (-9, slS τ 1)
def xDrain (σ : ST) : Int32 × ST := drL 100 0 (cpS σ 1 0)
set_option maxHeartbeats 4000000 in
theorem l_X5_drain {K : KX} {E : EnvT} (hE : EOK E) (h : Cx K E cX5_drain 2 RX5 5 114) {σ : ST} {p : Int32 × ST} (hR : Rx K E (some .int) (rP p)) : ∀ m k τ, k + m = 100 → TO τ → p = drL m k τ → GG K E τ 13 [(0, .ref (ad E 0 0 0)), (1, .int (nI k))] [] := by
  intro m
  induction m with
  | zero =>
    intro k τ hm hT hp
    refine g_iload_n h (q := 1) 1 dX5_drain_13 rfl ?_
    refine g_bipush h (v := 99) dX5_drain_14 (by decide) ?_
    refine g_ncmp_gt h (a := k) (b := 99) 47 dX5_drain_16 (by decide) (by omega) (by omega) (fun c1 => ?_) (fun c1 => ?_)
    · refine g_bipush h (v := (-9)) dX5_drain_47 (by decide) ?_
      exact g_iret h hR dX5_drain_49 (rP_of (q := (-9, τ)) hp)
    · exfalso; omega
  | succ m ih =>
    intro k τ hm hT hp
    refine g_iload_n h (q := 1) 1 dX5_drain_13 rfl ?_
    refine g_bipush h (v := 99) dX5_drain_14 (by decide) ?_
    refine g_ncmp_gt h (a := k) (b := 99) 47 dX5_drain_16 (by decide) (by omega) (by omega) (fun c1 => ?_) (fun c1 => ?_)
    · exfalso; omega
    · refine g_aload_n h (q := 0) 0 dX5_drain_19 rfl ?_
      refine g_get h 0 0 0 ⟨rfl, rfl⟩ rfl rfl uin_X5 1 (by decide) fl_X5_16 rfl dX5_drain_20 ?_
      refine g_callV h mv_X0_countLive 1 1 0 (ok_F (by decide)) rfl rfl (As := []) (c_X0_countLive (kl K) hE (σ := τ) 1 (by decide)) ml_X5_156 rfl (by decide) (by decide) rfl (Nat.le_of_ble_eq_true rfl) dX5_drain_23 (fun v σ9 h9 => ?_)
      rw [h9.1, h9.2]; clear h9
      refine g_if_ne h 31 dX5_drain_26 (by decide) (fun c2 => ?_) (fun c2 => ?_)
      · refine g_aload_n h (q := 0) 0 dX5_drain_31 rfl ?_
        refine g_callV h mv_X5_trySlot 0 0 0 ⟨rfl, rfl⟩ rfl rfl (As := []) (c_X5_trySlot (kl K) hE (σ := τ) hT) ml_X5_160 rfl (by decide) (by decide) rfl (Nat.le_of_ble_eq_true rfl) dX5_drain_32 (fun v σ9 h9 => ?_)
        rw [h9.1, h9.2]; clear h9
        obtain ⟨τ2, hτ2⟩ : ∃ τ2, τ2 = slS τ 1 := ⟨_, rfl⟩
        dsimp only
        rw [← hτ2]
        refine g_if_ne h 41 dX5_drain_35 (by decide) (fun c3 => ?_) (fun c3 => ?_)
        · refine g_iinc h (q := 1) (v := nI (k + 1)) 1 [(0, .ref (ad E 0 0 0)), (1, .int (nI (k + 1)))] dX5_drain_41 rfl (nI_inc k 1) (by decide) rfl ?_
          refine g_goto h 13 dX5_drain_44 (by decide) ?_
          exact ih (k + 1) τ2 (by omega) (by rw [hτ2]; exact hT.sl) (by rw [hp, drL, if_neg c2, if_pos (bI_1.mp c3), hτ2])
        · refine g_bipush h (v := (-9)) dX5_drain_38 (by decide) ?_
          exact g_iret h hR dX5_drain_40 (rP_of (q := (-9, τ2)) (by rw [hp, drL, if_neg c2, if_neg (by rw [bI_0.mp c3]; decide), hτ2]))
      · refine g_iload_n h (q := 1) 1 dX5_drain_29 rfl ?_
        exact g_iret h hR dX5_drain_30 (rP_of (q := (nI k, τ)) (by rw [hp, drL, if_pos c2]))
set_option maxHeartbeats 4000000 in
theorem c_X5_drain (l : Launch) {E : EnvT} (hE : EOK E) {σ : ST} (hX : XO σ) : Con l E yX5_drain cX5_drain 2 (some .int) 5 114 [.ref (ad E 0 0 0)] σ (rP (xDrain σ)) := by
  refine con_intro hE (by decide) (Nat.le_of_ble_eq_true rfl) (fun K hkl h hR => ?_)
  subst hkl
  have h : Cx K E cX5_drain 2 RX5 5 114 := h
  show GG K E σ 0 [(0, .ref (ad E 0 0 0))] []
  refine g_aload_n h (q := 0) 0 dX5_drain_0 rfl ?_
  refine g_get h 0 0 0 ⟨rfl, rfl⟩ rfl rfl uin_X5 1 (by decide) fl_X5_16 rfl dX5_drain_1 ?_
  refine g_aload_n h (q := 0) 0 dX5_drain_4 rfl ?_
  refine g_get h 0 0 0 ⟨rfl, rfl⟩ rfl rfl uin_X5 0 (by decide) fl_X5_12 rfl dX5_drain_5 ?_
  refine g_callV h mv_X0_becomes 1 1 0 (ok_F (by decide)) rfl rfl (As := [.ref (ad E 1 0 0)]) (c_X0_becomes (kl K) hE (σ := σ) 1 0 (by decide) (by decide) (by decide) hX.1.1 hX.2.1.1) ml_X5_153 rfl (by decide) (by decide) rfl (Nat.le_of_ble_eq_true rfl) dX5_drain_8 (fun v σ9 h9 => ?_)
  rw [h9.1, h9.2]; clear h9
  obtain ⟨τ0, hτ0⟩ : ∃ τ0, τ0 = cpS σ 1 0 := ⟨_, rfl⟩
  rw [show sR (sF σ 1 (cpF (σ.1 1) (σ.1 0))) 1 (cpR (σ.2.1 1) (σ.2.1 0)) = τ0 from hτ0.symm]
  refine g_iconst h (v := 0) dX5_drain_11 (by decide) ?_
  refine g_istore_n h (q := 1) [(0, .ref (ad E 0 0 0)), (1, .int 0)] dX5_drain_12 (by decide) rfl ?_
  exact l_X5_drain (σ := σ) hE h hR 100 0 τ0 rfl (by rw [hτ0]; exact TO.cp hX) (by rw [xDrain, hτ0])
def dpL : Nat → ST → Bool → ST
  | 0, τ, _ => τ
  | m + 1, τ, go => if go = true then dpL m (slS τ 1) (tryB τ) else τ
def trN (σ : ST) (c : Int32) : ST := sF (cpS σ 1 0) 1 (va_up (cpF (σ.1 1) (σ.1 0)).1 0 c, (cpF (σ.1 1) (σ.1 0)).2)
theorem trN_TO {σ : ST} (hX : XO σ) (c : Int32) : TO (trN σ c) := by
  have hc := TO.cp hX
  rw [TO, cpS_f] at hc
  refine ⟨?_, ?_⟩
  · rw [trN, sF_at]; exact hc.1
  · show ROK ((trN σ c).1 1).2.1 ((cpS σ 1 0).2.1 1)
    rw [trN, sF_at]; exact hc.2
def drp (σ : ST) (n : Nat) (c : Int32) : Int32 × ST := (((dpL n (trN σ c) true).1 1).2.2 7 4 - (σ.1 0).2.2 7 4, dpL n (trN σ c) true)
theorem dpL_f : ∀ (m : Nat) (τ : ST) (go : Bool), (dpL m τ go).1 0 = τ.1 0 := by
  intro m
  induction m with
  | zero => intro τ go; rfl
  | succ m ih =>
    intro τ go
    by_cases h : go = true
    · rw [dpL, if_pos h, ih, slS_fn (by decide)]
    · rw [dpL, if_neg h]
set_option maxHeartbeats 4000000 in
theorem l_X5_dropsIn {K : KX} {E : EnvT} (hE : EOK E) (h : Cx K E cX5_dropsIn 5 RX5 5 114) {σ : ST} {p : Int32 × ST} (hR : Rx K E (some .int) (rP p)) (n : Nat) (hn : n ≤ 40) (c : Int32) (b4 : Int32) : ∀ m k τ go, k + m = n → TO τ → (τ.1 0).2.2 7 4 = b4 → p = (((dpL m τ go).1 1).2.2 7 4 - b4, dpL m τ go) → GG K E τ 24 [(0, .ref (ad E 0 0 0)), (1, .int (nI n)), (2, .int c), (3, .int (bI go)), (4, .int (nI k))] [] := by
  intro m
  induction m with
  | zero =>
    intro k τ go hm hT hb hp
    refine g_iload h (q := 4) 4 dX5_dropsIn_24 rfl ?_
    refine g_iload_n h (q := 1) 1 dX5_dropsIn_26 rfl ?_
    refine g_ncmp_ge h (a := k) (b := n) 45 dX5_dropsIn_27 (by decide) (by omega) (by omega) (fun c1 => ?_) (fun c1 => ?_)
    · refine g_aload_n h (q := 0) 0 dX5_dropsIn_45 rfl ?_
      refine g_get h 0 0 0 ⟨rfl, rfl⟩ rfl rfl uin_X5 1 (by decide) fl_X5_16 rfl dX5_dropsIn_46 ?_
      refine g_get h 1 1 0 (ok_F (by decide)) rfl rfl uin_X0 12 (by decide) fl_X5_91 rfl dX5_dropsIn_49 ?_
      refine g_iconst h (v := 4) dX5_dropsIn_52 (by decide) ?_
      refine g_aldF h 1 7 (by decide) (by decide) (4) (show 4 < 5 by omega) dX5_dropsIn_53 ?_
      refine g_aload_n h (q := 0) 0 dX5_dropsIn_54 rfl ?_
      refine g_get h 0 0 0 ⟨rfl, rfl⟩ rfl rfl uin_X5 0 (by decide) fl_X5_12 rfl dX5_dropsIn_55 ?_
      refine g_get h 1 0 0 (ok_F (by decide)) rfl rfl uin_X0 12 (by decide) fl_X5_91 rfl dX5_dropsIn_58 ?_
      refine g_iconst h (v := 4) dX5_dropsIn_61 (by decide) ?_
      refine g_aldF h 0 7 (by decide) (by decide) (4) (show 4 < 5 by omega) dX5_dropsIn_62 ?_
      refine g_is (b4) (hb) ?_
      refine g_isub h dX5_dropsIn_63 ?_
      exact g_iret h hR dX5_dropsIn_64 (rP_of (q := ((τ.1 1).2.2 7 4 - b4, τ)) (by rw [hp, dpL]))
    · exfalso; omega
  | succ m ih =>
    intro k τ go hm hT hb hp
    refine g_iload h (q := 4) 4 dX5_dropsIn_24 rfl ?_
    refine g_iload_n h (q := 1) 1 dX5_dropsIn_26 rfl ?_
    refine g_ncmp_ge h (a := k) (b := n) 45 dX5_dropsIn_27 (by decide) (by omega) (by omega) (fun c1 => ?_) (fun c1 => ?_)
    · exfalso; omega
    · refine g_iload_n h (q := 3) 3 dX5_dropsIn_30 rfl ?_
      refine g_if_eq h 45 dX5_dropsIn_31 (by decide) (fun c2 => ?_) (fun c2 => ?_)
      · refine g_aload_n h (q := 0) 0 dX5_dropsIn_45 rfl ?_
        refine g_get h 0 0 0 ⟨rfl, rfl⟩ rfl rfl uin_X5 1 (by decide) fl_X5_16 rfl dX5_dropsIn_46 ?_
        refine g_get h 1 1 0 (ok_F (by decide)) rfl rfl uin_X0 12 (by decide) fl_X5_91 rfl dX5_dropsIn_49 ?_
        refine g_iconst h (v := 4) dX5_dropsIn_52 (by decide) ?_
        refine g_aldF h 1 7 (by decide) (by decide) (4) (show 4 < 5 by omega) dX5_dropsIn_53 ?_
        refine g_aload_n h (q := 0) 0 dX5_dropsIn_54 rfl ?_
        refine g_get h 0 0 0 ⟨rfl, rfl⟩ rfl rfl uin_X5 0 (by decide) fl_X5_12 rfl dX5_dropsIn_55 ?_
        refine g_get h 1 0 0 (ok_F (by decide)) rfl rfl uin_X0 12 (by decide) fl_X5_91 rfl dX5_dropsIn_58 ?_
        refine g_iconst h (v := 4) dX5_dropsIn_61 (by decide) ?_
        refine g_aldF h 0 7 (by decide) (by decide) (4) (show 4 < 5 by omega) dX5_dropsIn_62 ?_
        refine g_is (b4) (hb) ?_
        refine g_isub h dX5_dropsIn_63 ?_
        exact g_iret h hR dX5_dropsIn_64 (rP_of (q := ((τ.1 1).2.2 7 4 - b4, τ)) (by rw [hp, dpL, if_neg (by rw [bI_0.mp c2]; decide)]))
      · refine g_aload_n h (q := 0) 0 dX5_dropsIn_34 rfl ?_
        refine g_callV h mv_X5_trySlot 0 0 0 ⟨rfl, rfl⟩ rfl rfl (As := []) (c_X5_trySlot (kl K) hE (σ := τ) hT) ml_X5_160 rfl (by decide) (by decide) rfl (Nat.le_of_ble_eq_true rfl) dX5_dropsIn_35 (fun v σ9 h9 => ?_)
        rw [h9.1, h9.2]; clear h9
        obtain ⟨τ2, hτ2⟩ : ∃ τ2, τ2 = slS τ 1 := ⟨_, rfl⟩
        dsimp only
        rw [← hτ2]
        refine g_istore_n h (q := 3) [(0, .ref (ad E 0 0 0)), (1, .int (nI (n))), (2, .int c), (3, .int (bI (tryB τ))), (4, .int (nI (k)))] dX5_dropsIn_38 (by decide) rfl ?_
        refine g_iinc h (q := 4) (v := nI (k + 1)) 4 [(0, .ref (ad E 0 0 0)), (1, .int (nI (n))), (2, .int c), (3, .int (bI (tryB τ))), (4, .int (nI (k + 1)))] dX5_dropsIn_39 rfl (nI_inc k 1) (by decide) rfl ?_
        refine g_goto h 24 dX5_dropsIn_42 (by decide) ?_
        exact ih (k + 1) τ2 (tryB τ) (by omega) (by rw [hτ2]; exact hT.sl) (by rw [hτ2, slS_fn (by decide)]; exact hb) (by rw [hp, dpL, if_pos (bI_1.mp c2), hτ2])
set_option maxHeartbeats 4000000 in
theorem c_X5_dropsIn (l : Launch) {E : EnvT} (hE : EOK E) {σ : ST} (hX : XO σ) (n : Nat) (hn : n ≤ 40) (c : Int32) : Con l E yX5_dropsIn cX5_dropsIn 5 (some .int) 5 114 [.ref (ad E 0 0 0), .int (nI (n)), .int c] σ (rP (drp σ n c)) := by
  refine con_intro hE (by decide) (Nat.le_of_ble_eq_true rfl) (fun K hkl h hR => ?_)
  subst hkl
  have h : Cx K E cX5_dropsIn 5 RX5 5 114 := h
  show GG K E σ 0 [(0, .ref (ad E 0 0 0)), (1, .int (nI (n))), (2, .int c)] []
  refine g_aload_n h (q := 0) 0 dX5_dropsIn_0 rfl ?_
  refine g_get h 0 0 0 ⟨rfl, rfl⟩ rfl rfl uin_X5 1 (by decide) fl_X5_16 rfl dX5_dropsIn_1 ?_
  refine g_aload_n h (q := 0) 0 dX5_dropsIn_4 rfl ?_
  refine g_get h 0 0 0 ⟨rfl, rfl⟩ rfl rfl uin_X5 0 (by decide) fl_X5_12 rfl dX5_dropsIn_5 ?_
  refine g_callV h mv_X0_becomes 1 1 0 (ok_F (by decide)) rfl rfl (As := [.ref (ad E 1 0 0)]) (c_X0_becomes (kl K) hE (σ := σ) 1 0 (by decide) (by decide) (by decide) hX.1.1 hX.2.1.1) ml_X5_153 rfl (by decide) (by decide) rfl (Nat.le_of_ble_eq_true rfl) dX5_dropsIn_8 (fun v σ9 h9 => ?_)
  rw [h9.1, h9.2]; clear h9
  obtain ⟨τ0, hτ0⟩ : ∃ τ0, τ0 = cpS σ 1 0 := ⟨_, rfl⟩
  rw [show sR (sF σ 1 (cpF (σ.1 1) (σ.1 0))) 1 (cpR (σ.2.1 1) (σ.2.1 0)) = τ0 from hτ0.symm]
  refine g_aload_n h (q := 0) 0 dX5_dropsIn_11 rfl ?_
  refine g_get h 0 0 0 ⟨rfl, rfl⟩ rfl rfl uin_X5 1 (by decide) fl_X5_16 rfl dX5_dropsIn_12 ?_
  refine g_iload_n h (q := 2) 2 dX5_dropsIn_15 rfl ?_
  refine g_putFc h 1 (by decide) 0 (by decide) fl_X5_56 dX5_dropsIn_16 (fun σ1 hσ1 => ?_)
  refine g_iconst h (v := bI true) dX5_dropsIn_19 (by decide) ?_
  refine g_istore_n h (q := 3) [(0, .ref (ad E 0 0 0)), (1, .int (nI (n))), (2, .int c), (3, .int (bI true))] dX5_dropsIn_20 (by decide) rfl ?_
  refine g_iconst h (v := 0) dX5_dropsIn_21 (by decide) ?_
  refine g_istore h (q := 4) [(0, .ref (ad E 0 0 0)), (1, .int (nI (n))), (2, .int c), (3, .int (bI true)), (4, .int 0)] dX5_dropsIn_22 (by decide) rfl ?_
  have ht1 : σ1 = trN σ c := by rw [hσ1, hτ0, trN]; simp only [cpS_f]
  exact l_X5_dropsIn (σ := σ) hE h hR n hn c ((σ.1 0).2.2 7 4) n 0 σ1 true (Nat.zero_add _) (by rw [ht1]; exact trN_TO hX c) (by rw [ht1, trN, sF_ne (by decide), cpS_fn (by decide)]) (by rw [drp, ht1])
def xLost (σ : ST) (a : Int32) : Int32 × ST := if wi a 0 40 = true then drp σ a.toNatClampNeg ((σ.1 0).1 0) else (-1, σ)
def fwL (n : Nat) : Nat → Nat → ST → Int32 × ST
  | 0, _, τ => (-9, τ)
  | m + 1, k, τ => if (drp τ n (nI k)).1 = 0 then (nI k, (drp τ n (nI k)).2) else fwL n m (k + 1) (drp τ n (nI k)).2
def xFewest (σ : ST) (a : Int32) : Int32 × ST := if wi a 0 40 = true then fwL a.toNatClampNeg 3 1 σ else (-1, σ)
theorem dpL_qn : ∀ (m : Nat) (τ : ST) (go : Bool) (j : Nat), j ≠ 1 → j < 14 → (dpL m τ go).2.1 j = τ.2.1 j := by
  intro m
  induction m with
  | zero => intro τ go j h1 h2; rfl
  | succ m ih =>
    intro τ go j h1 h2
    by_cases h : go = true
    · rw [dpL, if_pos h, ih _ _ _ h1 h2, slS_qn h1 h2]
    · rw [dpL, if_neg h]
theorem dpL_fn : ∀ (m : Nat) (τ : ST) (go : Bool) (j : Nat), j ≠ 1 → (dpL m τ go).1 j = τ.1 j := by
  intro m
  induction m with
  | zero => intro τ go j h1; rfl
  | succ m ih =>
    intro τ go j h1
    by_cases h : go = true
    · rw [dpL, if_pos h, ih _ _ _ h1, slS_fn h1]
    · rw [dpL, if_neg h]
theorem dpL_x : ∀ (m : Nat) (τ : ST) (go : Bool), (dpL m τ go).2.2 = τ.2.2 := by
  intro m
  induction m with
  | zero => intro τ go; rfl
  | succ m ih =>
    intro τ go
    by_cases h : go = true
    · rw [dpL, if_pos h, ih]; rfl
    · rw [dpL, if_neg h]
theorem dpL_TO : ∀ (m : Nat) (τ : ST) (go : Bool), TO τ → TO (dpL m τ go) := by
  intro m
  induction m with
  | zero => intro τ go h; exact h
  | succ m ih =>
    intro τ go h
    by_cases hg : go = true
    · rw [dpL, if_pos hg]; exact ih _ _ h.sl
    · rw [dpL, if_neg hg]; exact h
/-- two states that differ in what is tried on alone -/
def Same (σ τ : ST) : Prop := (∀ j, j ≠ 1 → τ.1 j = σ.1 j) ∧ (∀ j, j ≠ 1 → j < 14 → τ.2.1 j = σ.2.1 j) ∧ τ.2.2 = σ.2.2 ∧ (τ.1 1).2.1 ≤ 64 ∧ (τ.2.1 1).2 ≤ 64
theorem Same.XO {σ τ : ST} (h : Same σ τ) (hX : XO σ) : XO τ := by
  obtain ⟨h1, h2, h3, h4, h5⟩ := h
  refine ⟨by rw [h1 0 (by decide)]; exact hX.1, by rw [h1 0 (by decide), h2 0 (by decide) (by decide)]; exact hX.2.1, fun j hj => ?_, by rw [h3]; exact hX.2.2.2.1, by rw [h3]; exact hX.2.2.2.2.1, by rw [h3]; exact hX.2.2.2.2.2.1, by rw [h3]; exact hX.2.2.2.2.2.2⟩
  by_cases e : j = 1
  · rw [e]; exact ⟨h4, h5⟩
  · rw [h1 j e, h2 j e hj]; exact hX.2.2.1 j hj
theorem drp_same {σ : ST} (hX : XO σ) (n : Nat) (c : Int32) : Same σ (drp σ n c).2 := by
  have hT := dpL_TO n (trN σ c) true (trN_TO hX c)
  refine ⟨fun j hj => ?_, fun j hj h14 => ?_, ?_, hT.1.1, hT.2.1⟩
  · show (dpL n (trN σ c) true).1 j = _
    rw [dpL_fn _ _ _ _ hj, trN, sF_ne hj, cpS_fn hj]
  · show (dpL n (trN σ c) true).2.1 j = _
    rw [dpL_qn _ _ _ _ hj h14]
    show (cpS σ 1 0).2.1 j = _
    rw [cpS_qn hj]
  · show (dpL n (trN σ c) true).2.2 = _
    rw [dpL_x]; rfl
set_option maxHeartbeats 4000000 in
theorem c_X5_lost (l : Launch) {E : EnvT} (hE : EOK E) {σ : ST} (hX : XO σ) (a : Int32) : Con l E yX5_lost cX5_lost 2 (some .int) 6 138 [.ref (ad E 0 0 0), .int a] σ (rP (xLost σ a)) := by
  refine con_intro hE (by decide) (Nat.le_of_ble_eq_true rfl) (fun K hkl h hR => ?_)
  subst hkl
  have h : Cx K E cX5_lost 2 RX5 6 138 := h
  show GG K E σ 0 [(0, .ref (ad E 0 0 0)), (1, .int a)] []
  refine g_iload_n h (q := 1) 1 dX5_lost_0 rfl ?_
  refine g_iconst h (v := 0) dX5_lost_1 (by decide) ?_
  refine g_bipush h (v := 40) dX5_lost_2 (by decide) ?_
  refine g_callS h ms_X5_isWithin (As := [.int a, .int 0, .int 40]) (c_X5_isWithin (kl K) hE (σ := σ) a 0 40) ml_X5_52 rfl (by decide) (by decide) rfl (Nat.le_of_ble_eq_true rfl) dX5_lost_4 (fun v σ9 h9 => ?_)
  rw [h9.1, h9.2]; clear h9
  refine g_if_eq h 25 dX5_lost_7 (by decide) (fun c1 => ?_) (fun c1 => ?_)
  · refine g_iconst h (v := (-1)) dX5_lost_25 (by decide) ?_
    exact g_iret h hR dX5_lost_26 (rP_of (q := (-1, σ)) (by simp [xLost, bI_0.mp c1]))
  · have hw1 := bI_1.mp c1
    obtain ⟨j, hj, hje⟩ := wi_nat (n := 40) (by decide) hw1
    subst hje
    have hjc : (nI j).toNatClampNeg = j := nI_clamp (by omega)
    refine g_aload_n h (q := 0) 0 dX5_lost_10 rfl ?_
    refine g_iload_n h (q := 1) 1 dX5_lost_11 rfl ?_
    refine g_aload_n h (q := 0) 0 dX5_lost_12 rfl ?_
    refine g_get h 0 0 0 ⟨rfl, rfl⟩ rfl rfl uin_X5 0 (by decide) fl_X5_12 rfl dX5_lost_13 ?_
    refine g_get h 1 0 0 (ok_F (by decide)) rfl rfl uin_X0 0 (by decide) fl_X5_56 rfl dX5_lost_16 ?_
    refine g_callV h mv_X5_dropsIn 0 0 0 ⟨rfl, rfl⟩ rfl rfl (As := [.int (nI (j)), .int ((σ.1 0).1 0)]) (c_X5_dropsIn (kl K) hE (σ := σ) hX j hj ((σ.1 0).1 0)) ml_X5_164 rfl (by decide) (by decide) rfl (Nat.le_of_ble_eq_true rfl) dX5_lost_19 (fun v σ9 h9 => ?_)
    rw [h9.1, h9.2]; clear h9
    refine g_goto h 26 dX5_lost_22 (by decide) ?_
    exact g_iret h hR dX5_lost_26 (rP_of (q := drp σ j ((σ.1 0).1 0)) (by rw [xLost, if_pos hw1, hjc]))
set_option maxHeartbeats 4000000 in
theorem l_X5_fewest {K : KX} {E : EnvT} (hE : EOK E) (h : Cx K E cX5_fewest 3 RX5 6 138) {σ : ST} {p : Int32 × ST} (hR : Rx K E (some .int) (rP p)) (n : Nat) (hn : n ≤ 40) : ∀ m k τ, k + m = 4 → XO τ → p = fwL n m k τ → GG K E τ 14 [(0, .ref (ad E 0 0 0)), (1, .int (nI n)), (2, .int (nI k))] [] := by
  intro m
  induction m with
  | zero =>
    intro k τ hm hX hp
    refine g_iload_n h (q := 2) 2 dX5_fewest_14 rfl ?_
    refine g_iconst h (v := 3) dX5_fewest_15 (by decide) ?_
    refine g_ncmp_gt h (a := k) (b := 3) 36 dX5_fewest_16 (by decide) (by omega) (by omega) (fun c1 => ?_) (fun c1 => ?_)
    · refine g_bipush h (v := (-9)) dX5_fewest_36 (by decide) ?_
      exact g_iret h hR dX5_fewest_38 (rP_of (q := (-9, τ)) hp)
    · exfalso; omega
  | succ m ih =>
    intro k τ hm hX hp
    refine g_iload_n h (q := 2) 2 dX5_fewest_14 rfl ?_
    refine g_iconst h (v := 3) dX5_fewest_15 (by decide) ?_
    refine g_ncmp_gt h (a := k) (b := 3) 36 dX5_fewest_16 (by decide) (by omega) (by omega) (fun c1 => ?_) (fun c1 => ?_)
    · exfalso; omega
    · refine g_aload_n h (q := 0) 0 dX5_fewest_19 rfl ?_
      refine g_iload_n h (q := 1) 1 dX5_fewest_20 rfl ?_
      refine g_iload_n h (q := 2) 2 dX5_fewest_21 rfl ?_
      refine g_callV h mv_X5_dropsIn 0 0 0 ⟨rfl, rfl⟩ rfl rfl (As := [.int (nI (n)), .int (nI (k))]) (c_X5_dropsIn (kl K) hE (σ := τ) hX n hn (nI k)) ml_X5_164 rfl (by decide) (by decide) rfl (Nat.le_of_ble_eq_true rfl) dX5_fewest_22 (fun v σ9 h9 => ?_)
      rw [h9.1, h9.2]; clear h9
      obtain ⟨τ2, hτ2⟩ : ∃ τ2, τ2 = (drp τ n (nI k)).2 := ⟨_, rfl⟩
      rw [← hτ2]
      refine g_if_ne h 30 dX5_fewest_25 (by decide) (fun c2 => ?_) (fun c2 => ?_)
      · refine g_iinc h (q := 2) (v := nI (k + 1)) 2 [(0, .ref (ad E 0 0 0)), (1, .int (nI (n))), (2, .int (nI (k + 1)))] dX5_fewest_30 rfl (nI_inc k 1) (by decide) rfl ?_
        refine g_goto h 14 dX5_fewest_33 (by decide) ?_
        exact ih (k + 1) τ2 (by omega) (by rw [hτ2]; exact (drp_same hX n (nI k)).XO hX) (by rw [hp, fwL, if_neg c2, hτ2])
      · refine g_iload_n h (q := 2) 2 dX5_fewest_28 rfl ?_
        exact g_iret h hR dX5_fewest_29 (rP_of (q := (nI k, τ2)) (by rw [hp, fwL, if_pos c2, hτ2]))
set_option maxHeartbeats 4000000 in
theorem c_X5_fewest (l : Launch) {E : EnvT} (hE : EOK E) {σ : ST} (hX : XO σ) (a : Int32) : Con l E yX5_fewest cX5_fewest 3 (some .int) 6 138 [.ref (ad E 0 0 0), .int a] σ (rP (xFewest σ a)) := by
  refine con_intro hE (by decide) (Nat.le_of_ble_eq_true rfl) (fun K hkl h hR => ?_)
  subst hkl
  have h : Cx K E cX5_fewest 3 RX5 6 138 := h
  show GG K E σ 0 [(0, .ref (ad E 0 0 0)), (1, .int a)] []
  refine g_iload_n h (q := 1) 1 dX5_fewest_0 rfl ?_
  refine g_iconst h (v := 0) dX5_fewest_1 (by decide) ?_
  refine g_bipush h (v := 40) dX5_fewest_2 (by decide) ?_
  refine g_callS h ms_X5_isWithin (As := [.int a, .int 0, .int 40]) (c_X5_isWithin (kl K) hE (σ := σ) a 0 40) ml_X5_52 rfl (by decide) (by decide) rfl (Nat.le_of_ble_eq_true rfl) dX5_fewest_4 (fun v σ9 h9 => ?_)
  rw [h9.1, h9.2]; clear h9
  refine g_if_ne h 12 dX5_fewest_7 (by decide) (fun c1 => ?_) (fun c1 => ?_)
  · have hw1 := bI_1.mp c1
    obtain ⟨j, hj, hje⟩ := wi_nat (n := 40) (by decide) hw1
    subst hje
    have hjc : (nI j).toNatClampNeg = j := nI_clamp (by omega)
    refine g_iconst h (v := 1) dX5_fewest_12 (by decide) ?_
    refine g_istore_n h (q := 2) [(0, .ref (ad E 0 0 0)), (1, .int (nI (j))), (2, .int 1)] dX5_fewest_13 (by decide) rfl ?_
    exact l_X5_fewest (σ := σ) hE h hR j hj 3 1 σ rfl hX (by rw [xFewest, if_pos hw1, hjc])
  · refine g_iconst h (v := (-1)) dX5_fewest_10 (by decide) ?_
    exact g_iret h hR dX5_fewest_11 (rP_of (q := (-1, σ)) (by simp [xFewest, bI_0.mp c1]))
end
section
theorem lgL_nat {s : Nat → Int32} {z : Nat} (hs : ∀ t, t < z → ∃ q, q ≤ 40 ∧ s t = nI q) : ∀ (m t : Nat) (a : Nat), t + m = z → a ≤ 40 → ∃ S, S ≤ 40 ∧ lgL s m t (nI a) = nI S := by
  intro m
  induction m with
  | zero => intro t a _ ha; exact ⟨a, ha, rfl⟩
  | succ m ih =>
    intro t a ht ha
    obtain ⟨q, hq, e⟩ := hs t (by omega)
    rw [lgL, e]
    by_cases h : nI a < nI q
    · rw [if_pos h]; exact ih (t + 1) q (by omega) hq
    · rw [if_neg h]; exact ih (t + 1) a (by omega) ha
def lgN (σ : ST) : Nat := (lgL (σ.2.2.1.2 0) (σ.2.2.1.1 2) 0 0).toNatClampNeg
theorem lgN_eq {σ : ST} (hX : XO σ) : lgL (σ.2.2.1.2 0) (σ.2.2.1.1 2) 0 0 = nI (lgN σ) ∧ lgN σ ≤ 40 := by
  obtain ⟨S, h1, h2⟩ := lgL_nat hX.2.2.2.2.2.2 (σ.2.2.1.1 2) 0 0 (Nat.zero_add _) (by decide)
  have h2 : lgL (σ.2.2.1.2 0) (σ.2.2.1.1 2) 0 0 = nI S := h2
  rw [lgN, h2, nI_clamp (by omega)]
  exact ⟨rfl, h1⟩
def exL (sl ou : Nat → Int32) (z : Nat) (b3 : Int32) : Nat → Nat → ST → Bool → Bool × ST
  | 0, _, τ, _ => (true, τ)
  | m + 1, k, τ, go =>
    if go = true then (if alL sl ou (nI k) (((slS τ 1).1 1).2.2 7 3 - b3) z 0 = true then exL sl ou z b3 m (k + 1) (slS τ 1) (tryB τ) else (false, slS τ 1))
    else (if alL sl ou (nI k) ((τ.1 1).2.2 7 3 - b3) z 0 = true then exL sl ou z b3 m (k + 1) τ false else (false, τ))
def trD (σ : ST) (d : Nat) : ST := sF (cpS σ 1 0) 1 (mvL (cpF (σ.1 1) (σ.1 0)) d 4)
def xExpl (σ : ST) (d : Nat) : Bool × ST := exL (σ.2.2.1.2 0) (σ.2.2.1.2 1) (σ.2.2.1.1 2) ((σ.1 0).2.2 7 3) (lgN σ) 1 (trD σ d) true
theorem trD_TO {σ : ST} (hX : XO σ) (d : Nat) : TO (trD σ d) := by
  have hc := TO.cp hX
  rw [TO, cpS_f] at hc
  refine ⟨?_, ?_⟩
  · rw [trD, sF_at]; exact mvL_pk hc.1 d (by decide)
  · show ROK ((trD σ d).1 1).2.1 ((cpS σ 1 0).2.1 1)
    rw [trD, sF_at]; exact hc.2
set_option maxHeartbeats 4000000 in
theorem l_X5_explainsAllSeen {K : KX} {E : EnvT} (hE : EOK E) (h : Cx K E cX5_explainsAllSeen 5 RX5 5 114) {σ : ST} {p : Bool × ST} (hR : Rx K E (some .boolean) (rP (bI p.1, p.2))) (d S z : Nat) (hS : S ≤ 40) (hz : z ≤ 6) (b3 : Int32) (sl ou : Nat → Int32) : ∀ m k τ go, k + m = S + 1 → TO τ → (τ.1 0).2.2 7 3 = b3 → τ.2.2.1.1 2 = z → τ.2.2.1.2 0 = sl → τ.2.2.1.2 1 = ou → p = exL sl ou z b3 m k τ go → GG K E τ 33 [(0, .ref (ad E 0 0 0)), (1, .int (nI d)), (2, .int (nI S)), (3, .int (bI go)), (4, .int (nI k))] [] := by
  intro m
  induction m with
  | zero =>
    intro k τ go hm hT hb hz2 hsl hou hp
    refine g_iload h (q := 4) 4 dX5_explainsAllSeen_33 rfl ?_
    refine g_iload_n h (q := 2) 2 dX5_explainsAllSeen_35 rfl ?_
    refine g_ncmp_gt h (a := k) (b := S) 87 dX5_explainsAllSeen_36 (by decide) (by omega) (by omega) (fun c1 => ?_) (fun c1 => ?_)
    · refine g_iconst h (v := 1) dX5_explainsAllSeen_87 (by decide) ?_
      exact g_zret h hR dX5_explainsAllSeen_88 (by decide) (by rw [hp]; exact ⟨rfl, rfl⟩)
    · exfalso; omega
  | succ m ih =>
    intro k τ go hm hT hb hz2 hsl hou hp
    refine g_iload h (q := 4) 4 dX5_explainsAllSeen_33 rfl ?_
    refine g_iload_n h (q := 2) 2 dX5_explainsAllSeen_35 rfl ?_
    refine g_ncmp_gt h (a := k) (b := S) 87 dX5_explainsAllSeen_36 (by decide) (by omega) (by omega) (fun c1 => ?_) (fun c1 => ?_)
    · exfalso; omega
    · refine g_iload_n h (q := 3) 3 dX5_explainsAllSeen_39 rfl ?_
      refine g_if_eq h 48 dX5_explainsAllSeen_40 (by decide) (fun c2 => ?_) (fun c2 => ?_)
      · refine g_aload_n h (q := 0) 0 dX5_explainsAllSeen_48 rfl ?_
        refine g_get h 0 0 0 ⟨rfl, rfl⟩ rfl rfl uin_X5 4 (by decide) fl_X5_36 rfl dX5_explainsAllSeen_49 ?_
        refine g_iload h (q := 4) 4 dX5_explainsAllSeen_52 rfl ?_
        refine g_aload_n h (q := 0) 0 dX5_explainsAllSeen_54 rfl ?_
        refine g_get h 0 0 0 ⟨rfl, rfl⟩ rfl rfl uin_X5 1 (by decide) fl_X5_16 rfl dX5_explainsAllSeen_55 ?_
        refine g_get h 1 1 0 (ok_F (by decide)) rfl rfl uin_X0 12 (by decide) fl_X5_91 rfl dX5_explainsAllSeen_58 ?_
        refine g_iconst h (v := 3) dX5_explainsAllSeen_61 (by decide) ?_
        refine g_aldF h 1 7 (by decide) (by decide) (3) (show 3 < 5 by omega) dX5_explainsAllSeen_62 ?_
        refine g_aload_n h (q := 0) 0 dX5_explainsAllSeen_63 rfl ?_
        refine g_get h 0 0 0 ⟨rfl, rfl⟩ rfl rfl uin_X5 0 (by decide) fl_X5_12 rfl dX5_explainsAllSeen_64 ?_
        refine g_get h 1 0 0 (ok_F (by decide)) rfl rfl uin_X0 12 (by decide) fl_X5_91 rfl dX5_explainsAllSeen_67 ?_
        refine g_iconst h (v := 3) dX5_explainsAllSeen_70 (by decide) ?_
        refine g_aldF h 0 7 (by decide) (by decide) (3) (show 3 < 5 by omega) dX5_explainsAllSeen_71 ?_
        refine g_is (b3) (hb) ?_
        refine g_isub h dX5_explainsAllSeen_72 ?_
        refine g_callV h mv_X3_allows 8 0 0 ⟨rfl, rfl⟩ rfl rfl (As := [.int (nI (k)), .int (((τ.1 1).2.2 7 (3)) - b3)]) (c_X3_allows (kl K) hE (σ := τ) (by rw [hz2]; exact hz) (nI k) (((τ.1 1).2.2 7 (3)) - b3)) ml_X5_196 rfl (by decide) (by decide) rfl (Nat.le_of_ble_eq_true rfl) dX5_explainsAllSeen_73 (fun v σ9 h9 => ?_)
        rw [h9.1, h9.2]; clear h9
        rw [hz2, hsl, hou]
        refine g_if_ne h 81 dX5_explainsAllSeen_76 (by decide) (fun c3 => ?_) (fun c3 => ?_)
        · refine g_iinc h (q := 4) (v := nI (k + 1)) 4 [(0, .ref (ad E 0 0 0)), (1, .int (nI (d))), (2, .int (nI (S))), (3, .int (bI go)), (4, .int (nI (k + 1)))] dX5_explainsAllSeen_81 rfl (nI_inc k 1) (by decide) rfl ?_
          refine g_goto h 33 dX5_explainsAllSeen_84 (by decide) ?_
          have hg : go = false := bI_0.mp c2
          rw [hg]
          exact ih (k + 1) τ false (by omega) hT hb hz2 hsl hou (by rw [hp, exL, if_neg (by rw [hg]; decide), if_pos (bI_1.mp c3)])
        · refine g_iconst h (v := 0) dX5_explainsAllSeen_79 (by decide) ?_
          exact g_zret h hR dX5_explainsAllSeen_80 (by decide) (by rw [hp, exL, if_neg (by rw [bI_0.mp c2]; decide), if_neg (by rw [bI_0.mp c3]; decide)]; exact ⟨rfl, rfl⟩)
      · refine g_aload_n h (q := 0) 0 dX5_explainsAllSeen_43 rfl ?_
        refine g_callV h mv_X5_trySlot 0 0 0 ⟨rfl, rfl⟩ rfl rfl (As := []) (c_X5_trySlot (kl K) hE (σ := τ) hT) ml_X5_160 rfl (by decide) (by decide) rfl (Nat.le_of_ble_eq_true rfl) dX5_explainsAllSeen_44 (fun v σ9 h9 => ?_)
        rw [h9.1, h9.2]; clear h9
        have hT2 := hT.sl
        have hb2 : ((slS τ 1).1 0).2.2 7 3 = b3 := by rw [slS_fn (by decide)]; exact hb
        have hx2 : (slS τ 1).2.2 = τ.2.2 := rfl
        obtain ⟨τ2, hτ2⟩ : ∃ τ2, τ2 = slS τ 1 := ⟨_, rfl⟩
        dsimp only
        rw [← hτ2] at hT2 hb2 hx2 ⊢
        refine g_istore_n h (q := 3) [(0, .ref (ad E 0 0 0)), (1, .int (nI (d))), (2, .int (nI (S))), (3, .int (bI (tryB τ))), (4, .int (nI (k)))] dX5_explainsAllSeen_47 (by decide) rfl ?_
        refine g_aload_n h (q := 0) 0 dX5_explainsAllSeen_48 rfl ?_
        refine g_get h 0 0 0 ⟨rfl, rfl⟩ rfl rfl uin_X5 4 (by decide) fl_X5_36 rfl dX5_explainsAllSeen_49 ?_
        refine g_iload h (q := 4) 4 dX5_explainsAllSeen_52 rfl ?_
        refine g_aload_n h (q := 0) 0 dX5_explainsAllSeen_54 rfl ?_
        refine g_get h 0 0 0 ⟨rfl, rfl⟩ rfl rfl uin_X5 1 (by decide) fl_X5_16 rfl dX5_explainsAllSeen_55 ?_
        refine g_get h 1 1 0 (ok_F (by decide)) rfl rfl uin_X0 12 (by decide) fl_X5_91 rfl dX5_explainsAllSeen_58 ?_
        refine g_iconst h (v := 3) dX5_explainsAllSeen_61 (by decide) ?_
        refine g_aldF h 1 7 (by decide) (by decide) (3) (show 3 < 5 by omega) dX5_explainsAllSeen_62 ?_
        refine g_aload_n h (q := 0) 0 dX5_explainsAllSeen_63 rfl ?_
        refine g_get h 0 0 0 ⟨rfl, rfl⟩ rfl rfl uin_X5 0 (by decide) fl_X5_12 rfl dX5_explainsAllSeen_64 ?_
        refine g_get h 1 0 0 (ok_F (by decide)) rfl rfl uin_X0 12 (by decide) fl_X5_91 rfl dX5_explainsAllSeen_67 ?_
        refine g_iconst h (v := 3) dX5_explainsAllSeen_70 (by decide) ?_
        refine g_aldF h 0 7 (by decide) (by decide) (3) (show 3 < 5 by omega) dX5_explainsAllSeen_71 ?_
        refine g_is (b3) (hb2) ?_
        refine g_isub h dX5_explainsAllSeen_72 ?_
        refine g_callV h mv_X3_allows 8 0 0 ⟨rfl, rfl⟩ rfl rfl (As := [.int (nI (k)), .int (((τ2.1 1).2.2 7 (3)) - b3)]) (c_X3_allows (kl K) hE (σ := τ2) (by rw [hx2, hz2]; exact hz) (nI k) (((τ2.1 1).2.2 7 (3)) - b3)) ml_X5_196 rfl (by decide) (by decide) rfl (Nat.le_of_ble_eq_true rfl) dX5_explainsAllSeen_73 (fun v σ9 h9 => ?_)
        rw [h9.1, h9.2]; clear h9
        rw [hx2, hz2, hsl, hou]
        refine g_if_ne h 81 dX5_explainsAllSeen_76 (by decide) (fun c3 => ?_) (fun c3 => ?_)
        · refine g_iinc h (q := 4) (v := nI (k + 1)) 4 [(0, .ref (ad E 0 0 0)), (1, .int (nI (d))), (2, .int (nI (S))), (3, .int (bI (tryB τ))), (4, .int (nI (k + 1)))] dX5_explainsAllSeen_81 rfl (nI_inc k 1) (by decide) rfl ?_
          refine g_goto h 33 dX5_explainsAllSeen_84 (by decide) ?_
          exact ih (k + 1) τ2 (tryB τ) (by omega) hT2 hb2 (by rw [hx2]; exact hz2) (by rw [hx2]; exact hsl) (by rw [hx2]; exact hou) (by rw [hp, exL, if_pos (bI_1.mp c2), ← hτ2, if_pos (bI_1.mp c3)])
        · refine g_iconst h (v := 0) dX5_explainsAllSeen_79 (by decide) ?_
          exact g_zret h hR dX5_explainsAllSeen_80 (by decide) (by rw [hp, exL, if_pos (bI_1.mp c2), ← hτ2, if_neg (by rw [bI_0.mp c3]; decide)]; exact ⟨rfl, rfl⟩)
set_option maxHeartbeats 4000000 in
theorem c_X5_explainsAllSeen (l : Launch) {E : EnvT} (hE : EOK E) {σ : ST} (hX : XO σ) (d : Nat) (hd : d < (σ.1 0).2.1) : Con l E yX5_explainsAllSeen cX5_explainsAllSeen 5 (some .boolean) 5 114 [.ref (ad E 0 0 0), .int (nI (d))] σ (rP (bI (xExpl σ d).1, (xExpl σ d).2)) := by
  refine con_intro hE (by decide) (Nat.le_of_ble_eq_true rfl) (fun K hkl h hR => ?_)
  subst hkl
  have h : Cx K E cX5_explainsAllSeen 5 RX5 5 114 := h
  show GG K E σ 0 [(0, .ref (ad E 0 0 0)), (1, .int (nI (d)))] []
  have hL := hX.1.1
  obtain ⟨hlg, hlg40⟩ := lgN_eq hX
  refine g_aload_n h (q := 0) 0 dX5_explainsAllSeen_0 rfl ?_
  refine g_get h 0 0 0 ⟨rfl, rfl⟩ rfl rfl uin_X5 1 (by decide) fl_X5_16 rfl dX5_explainsAllSeen_1 ?_
  refine g_aload_n h (q := 0) 0 dX5_explainsAllSeen_4 rfl ?_
  refine g_get h 0 0 0 ⟨rfl, rfl⟩ rfl rfl uin_X5 0 (by decide) fl_X5_12 rfl dX5_explainsAllSeen_5 ?_
  refine g_callV h mv_X0_becomes 1 1 0 (ok_F (by decide)) rfl rfl (As := [.ref (ad E 1 0 0)]) (c_X0_becomes (kl K) hE (σ := σ) 1 0 (by decide) (by decide) (by decide) hX.1.1 hX.2.1.1) ml_X5_153 rfl (by decide) (by decide) rfl (Nat.le_of_ble_eq_true rfl) dX5_explainsAllSeen_8 (fun v σ9 h9 => ?_)
  rw [h9.1, h9.2]; clear h9
  obtain ⟨τ0, hτ0⟩ : ∃ τ0, τ0 = cpS σ 1 0 := ⟨_, rfl⟩
  rw [show sR (sF σ 1 (cpF (σ.1 1) (σ.1 0))) 1 (cpR (σ.2.1 1) (σ.2.1 0)) = τ0 from hτ0.symm]
  refine g_aload_n h (q := 0) 0 dX5_explainsAllSeen_11 rfl ?_
  refine g_get h 0 0 0 ⟨rfl, rfl⟩ rfl rfl uin_X5 1 (by decide) fl_X5_16 rfl dX5_explainsAllSeen_12 ?_
  refine g_iload_n h (q := 1) 1 dX5_explainsAllSeen_15 rfl ?_
  refine g_iconst h (v := 4) dX5_explainsAllSeen_16 (by decide) ?_
  refine g_callV h mv_X0_moveLetter 1 1 0 (ok_F (by decide)) rfl rfl (As := [.int (nI (d)), .int 4]) (c_X0_moveLetter (kl K) hE (σ := τ0) 1 (by decide) d 4 (by omega) (by decide) (by rw [hτ0, cpS_f]; exact (cpF_pk hX.1).2 d hd)) ml_X5_190 rfl (by decide) (by decide) rfl (Nat.le_of_ble_eq_true rfl) dX5_explainsAllSeen_17 (fun v σ9 h9 => ?_)
  rw [h9.1, h9.2]; clear h9
  obtain ⟨τ1, hτ1⟩ : ∃ τ1, τ1 = trD σ d := ⟨_, rfl⟩
  rw [show sF τ0 1 (mvL (τ0.1 1) d 4) = τ1 by rw [hτ1, trD, hτ0, cpS_f]]
  have hx1 : τ1.2.2 = σ.2.2 := by rw [hτ1]; rfl
  refine g_aload_n h (q := 0) 0 dX5_explainsAllSeen_20 rfl ?_
  refine g_get h 0 0 0 ⟨rfl, rfl⟩ rfl rfl uin_X5 4 (by decide) fl_X5_36 rfl dX5_explainsAllSeen_21 ?_
  refine g_callV h mv_X3_longest 8 0 0 ⟨rfl, rfl⟩ rfl rfl (As := []) (c_X3_longest (kl K) hE (σ := τ1) (by rw [hx1]; exact hX.2.2.2.2.2.1)) ml_X5_193 rfl (by decide) (by decide) rfl (Nat.le_of_ble_eq_true rfl) dX5_explainsAllSeen_24 (fun v σ9 h9 => ?_)
  rw [h9.1, h9.2]; clear h9
  rw [hx1]
  refine g_is (nI (lgN σ)) (hlg) ?_
  refine g_istore_n h (q := 2) [(0, .ref (ad E 0 0 0)), (1, .int (nI (d))), (2, .int (nI (lgN σ)))] dX5_explainsAllSeen_27 (by decide) rfl ?_
  refine g_iconst h (v := bI true) dX5_explainsAllSeen_28 (by decide) ?_
  refine g_istore_n h (q := 3) [(0, .ref (ad E 0 0 0)), (1, .int (nI (d))), (2, .int (nI (lgN σ))), (3, .int (bI true))] dX5_explainsAllSeen_29 (by decide) rfl ?_
  refine g_iconst h (v := 1) dX5_explainsAllSeen_30 (by decide) ?_
  refine g_istore h (q := 4) [(0, .ref (ad E 0 0 0)), (1, .int (nI (d))), (2, .int (nI (lgN σ))), (3, .int (bI true)), (4, .int 1)] dX5_explainsAllSeen_31 (by decide) rfl ?_
  exact l_X5_explainsAllSeen (σ := σ) hE h hR d (lgN σ) (σ.2.2.1.1 2) hlg40 hX.2.2.2.2.2.1 ((σ.1 0).2.2 7 3) (σ.2.2.1.2 0) (σ.2.2.1.2 1) (lgN σ) 1 τ1 true (Nat.add_comm _ _) (by rw [hτ1]; exact trD_TO hX d) (by rw [hτ1, trD, sF_ne (by decide), cpS_fn (by decide)]) (by rw [hx1]) (by rw [hx1]) (by rw [hx1]) (by rw [xExpl, hτ1])
theorem exL_same (sl ou : Nat → Int32) (z : Nat) (b3 : Int32) (σ : ST) : ∀ (m k : Nat) (τ : ST) (go : Bool), TO τ → Same σ τ → Same σ (exL sl ou z b3 m k τ go).2 := by
  have step : ∀ τ, TO τ → Same σ τ → Same σ (slS τ 1) := fun τ hT h => ⟨fun j hj => by rw [slS_fn hj]; exact h.1 j hj, fun j hj h14 => by rw [slS_qn hj h14]; exact h.2.1 j hj h14, h.2.2.1, hT.sl.1.1, hT.sl.2.1⟩
  intro m
  induction m with
  | zero => intro k τ go _ h; exact h
  | succ m ih =>
    intro k τ go hT h
    by_cases hg : go = true
    · rw [exL, if_pos hg]
      split
      · exact ih _ _ _ hT.sl (step τ hT h)
      · exact step τ hT h
    · rw [exL, if_neg hg]
      split
      · exact ih _ _ _ hT h
      · exact h
theorem xExpl_same {σ : ST} (hX : XO σ) (d : Nat) : Same σ (xExpl σ d).2 := by
  refine exL_same _ _ _ _ σ _ _ _ _ (trD_TO hX d) ⟨fun j hj => by rw [trD, sF_ne hj, cpS_fn hj], fun j hj h14 => by show (cpS σ 1 0).2.1 j = _; rw [cpS_qn hj], rfl, (trD_TO hX d).1.1, (trD_TO hX d).2.1⟩
def unL : Nat → Nat → Int32 → ST → Int32 × ST
  | 0, _, bits, τ => (bits, τ)
  | m + 1, t, bits, τ =>
    if fAt (τ.1 0) (nI t) = -9 then unL m (t + 1) bits τ
    else if (xExpl τ (fAt (τ.1 0) (nI t)).toNatClampNeg).1 = true then unL m (t + 1) (bits ||| ((1 : Int32) <<< (nI t &&& 31))) (xExpl τ (fAt (τ.1 0) (nI t)).toNatClampNeg).2
    else unL m (t + 1) bits (xExpl τ (fAt (τ.1 0) (nI t)).toNatClampNeg).2
def xUnseen (σ : ST) : Int32 × ST := unL 8 0 0 σ
set_option maxHeartbeats 4000000 in
theorem l_X5_unseen {K : KX} {E : EnvT} (hE : EOK E) (h : Cx K E cX5_unseen 4 RX5 6 138) {σ : ST} {p : Int32 × ST} (hR : Rx K E (some .int) (rP p)) : ∀ m t bits τ, t + m = 8 → XO τ → p = unL m t bits τ → GG K E τ 4 [(0, .ref (ad E 0 0 0)), (1, .int bits), (2, .int (nI t))] [] := by
  intro m
  induction m with
  | zero =>
    intro t bits τ hm hX hp
    refine g_iload_n h (q := 2) 2 dX5_unseen_4 rfl ?_
    refine g_bipush h (v := 8) dX5_unseen_5 (by decide) ?_
    refine g_ncmp_ge h (a := t) (b := 8) 45 dX5_unseen_7 (by decide) (by omega) (by omega) (fun c1 => ?_) (fun c1 => ?_)
    · refine g_iload_n h (q := 1) 1 dX5_unseen_45 rfl ?_
      exact g_iret h hR dX5_unseen_46 (rP_of (q := (bits, τ)) hp)
    · exfalso; omega
  | succ m ih =>
    intro t bits τ hm hX hp
    refine g_iload_n h (q := 2) 2 dX5_unseen_4 rfl ?_
    refine g_bipush h (v := 8) dX5_unseen_5 (by decide) ?_
    refine g_ncmp_ge h (a := t) (b := 8) 45 dX5_unseen_7 (by decide) (by omega) (by omega) (fun c1 => ?_) (fun c1 => ?_)
    · exfalso; omega
    · refine g_aload_n h (q := 0) 0 dX5_unseen_10 rfl ?_
      refine g_get h 0 0 0 ⟨rfl, rfl⟩ rfl rfl uin_X5 0 (by decide) fl_X5_12 rfl dX5_unseen_11 ?_
      refine g_iload_n h (q := 2) 2 dX5_unseen_14 rfl ?_
      refine g_callV h mv_X0_letterAt 1 0 0 (ok_F (by decide)) rfl rfl (As := [.int (nI (t))]) (c_X0_letterAt (kl K) hE (σ := τ) 0 (by decide) hX.1.1 (nI t)) ml_X5_77 rfl (by decide) (by decide) rfl (Nat.le_of_ble_eq_true rfl) dX5_unseen_15 (fun v σ9 h9 => ?_)
      rw [h9.1, h9.2]; clear h9
      refine g_istore_n h (q := 3) [(0, .ref (ad E 0 0 0)), (1, .int bits), (2, .int (nI (t))), (3, .int (fAt (τ.1 0) (nI t)))] dX5_unseen_18 (by decide) rfl ?_
      refine g_iload_n h (q := 3) 3 dX5_unseen_19 rfl ?_
      refine g_bipush h (v := (-9)) dX5_unseen_20 (by decide) ?_
      refine g_icmp_eq h 39 dX5_unseen_22 (by decide) (fun c2 => ?_) (fun c2 => ?_)
      · refine g_iinc h (q := 2) (v := nI (t + 1)) 2 [(0, .ref (ad E 0 0 0)), (1, .int bits), (2, .int (nI (t + 1))), (3, .int (fAt (τ.1 0) (nI t)))] dX5_unseen_39 rfl (nI_inc t 1) (by decide) rfl ?_
        refine g_goto h 4 dX5_unseen_42 (by decide) ?_
        refine g_sub [(0, .ref (ad E 0 0 0)), (1, .int bits), (2, .int (nI (t + 1)))] [0, 1, 2] rfl ?_
        exact ih (t + 1) bits τ (by omega) hX (by rw [hp, unL, if_pos c2])
      · refine g_aload_n h (q := 0) 0 dX5_unseen_25 rfl ?_
        obtain ⟨j, hj, hje⟩ := fAt_nat c2
        refine g_iload_n h (q := 3) 3 dX5_unseen_26 rfl ?_
        refine g_is (nI j) hje ?_
        have hjc : (fAt (τ.1 0) (nI t)).toNatClampNeg = j := by rw [hje, nI_clamp (by have := hX.1.1; omega)]
        refine g_callV h mv_X5_explainsAllSeen 0 0 0 ⟨rfl, rfl⟩ rfl rfl (As := [.int (nI (j))]) (c_X5_explainsAllSeen (kl K) hE (σ := τ) hX j hj) ml_X5_187 rfl (by decide) (by decide) rfl (Nat.le_of_ble_eq_true rfl) dX5_unseen_27 (fun v σ9 h9 => ?_)
        rw [h9.1, h9.2]; clear h9
        obtain ⟨τ2, hτ2⟩ : ∃ τ2, τ2 = (xExpl τ j).2 := ⟨_, rfl⟩
        rw [← hτ2]
        have hX2 : XO τ2 := by rw [hτ2]; exact (xExpl_same hX j).XO hX
        refine g_if_eq h 39 dX5_unseen_30 (by decide) (fun c3 => ?_) (fun c3 => ?_)
        · refine g_iinc h (q := 2) (v := nI (t + 1)) 2 [(0, .ref (ad E 0 0 0)), (1, .int bits), (2, .int (nI (t + 1))), (3, .int (fAt (τ.1 0) (nI t)))] dX5_unseen_39 rfl (nI_inc t 1) (by decide) rfl ?_
          refine g_goto h 4 dX5_unseen_42 (by decide) ?_
          refine g_sub [(0, .ref (ad E 0 0 0)), (1, .int bits), (2, .int (nI (t + 1)))] [0, 1, 2] rfl ?_
          exact ih (t + 1) bits τ2 (by omega) hX2 (by rw [hp, unL, if_neg c2, hjc, if_neg (by rw [bI_0.mp c3]; decide), hτ2])
        · refine g_iload_n h (q := 1) 1 dX5_unseen_33 rfl ?_
          refine g_iconst h (v := 1) dX5_unseen_34 (by decide) ?_
          refine g_iload_n h (q := 2) 2 dX5_unseen_35 rfl ?_
          refine g_ishl h dX5_unseen_36 ?_
          refine g_ior h dX5_unseen_37 ?_
          refine g_istore_n h (q := 1) [(0, .ref (ad E 0 0 0)), (1, .int (bits ||| (1 <<< ((nI (t)) &&& 31)))), (2, .int (nI (t))), (3, .int (fAt (τ.1 0) (nI t)))] dX5_unseen_38 (by decide) rfl ?_
          refine g_iinc h (q := 2) (v := nI (t + 1)) 2 [(0, .ref (ad E 0 0 0)), (1, .int (bits ||| (1 <<< ((nI (t)) &&& 31)))), (2, .int (nI (t + 1))), (3, .int (fAt (τ.1 0) (nI t)))] dX5_unseen_39 rfl (nI_inc t 1) (by decide) rfl ?_
          refine g_goto h 4 dX5_unseen_42 (by decide) ?_
          refine g_sub [(0, .ref (ad E 0 0 0)), (1, .int (bits ||| (1 <<< ((nI (t)) &&& 31)))), (2, .int (nI (t + 1)))] [0, 1, 2] rfl ?_
          exact ih (t + 1) _ τ2 (by omega) hX2 (by rw [hp, unL, if_neg c2, hjc, if_pos (bI_1.mp c3), hτ2])
set_option maxHeartbeats 4000000 in
theorem c_X5_unseen (l : Launch) {E : EnvT} (hE : EOK E) {σ : ST} (hX : XO σ) : Con l E yX5_unseen cX5_unseen 4 (some .int) 6 138 [.ref (ad E 0 0 0)] σ (rP (xUnseen σ)) := by
  refine con_intro hE (by decide) (Nat.le_of_ble_eq_true rfl) (fun K hkl h hR => ?_)
  subst hkl
  have h : Cx K E cX5_unseen 4 RX5 6 138 := h
  show GG K E σ 0 [(0, .ref (ad E 0 0 0))] []
  refine g_iconst h (v := 0) dX5_unseen_0 (by decide) ?_
  refine g_istore_n h (q := 1) [(0, .ref (ad E 0 0 0)), (1, .int 0)] dX5_unseen_1 (by decide) rfl ?_
  refine g_iconst h (v := 0) dX5_unseen_2 (by decide) ?_
  refine g_istore_n h (q := 2) [(0, .ref (ad E 0 0 0)), (1, .int 0), (2, .int 0)] dX5_unseen_3 (by decide) rfl ?_
  exact l_X5_unseen (σ := σ) hE h hR 8 0 0 σ rfl hX rfl
end
section
/-- the static array of the class, that nobody writes -/
def wyF (k : Nat) : Int32 := match k with
  | 0 => 1
  | 1 => 8
  | 2 => 28
  | 3 => 56
  | 4 => 70
  | 5 => 56
  | 6 => 28
  | 7 => 8
  | _ => 1
def SW (E : EnvT) (aw : Nat) (U : State) : Prop := va_Z "LetterFabric" "WAYS_TO_CHOOSE_LINES" "[I" (.ref aw) (AE E) U U.heap ∧ U.heap[aw]? = some (vp_cell (eI E) (9, .inl wyF)) ∧ ¬ AE E aw
def ConW (aw : Nat) (l : Launch) (E : EnvT) (y : MethodName) (cc : ByteArray) (nL : Nat) (ret : Option FieldType) (f n : Nat) (av : List Value) (σ : ST) (post : Option Value → ST → Prop) : Prop :=
  Met l y (Cond.code y cc nL ret :: gtb) { frames := f, cells := 0, slots := 0, locals := n } (va_Pc av (fun U => Wd E σ U ∧ SW E aw U)) (QO E post) 0 0 (AE E)
theorem conW_intro {aw : Nat} {l : Launch} {E : EnvT} {y : MethodName} {cc : ByteArray} {nL : Nat} {ret : Option FieldType} {f n : Nat} {av : List Value} {σ : ST} {post : Option Value → ST → Prop} (hE : EOK E) (hy : plainName y.cls = true) (hn : (lg_sl av).length ≤ nL)
    (walk : ∀ K : KX, kl K = l → Cx K E cc nL y.cls f n → Rx K E ret post → SW E aw (ks K) → GG K E σ 0 (lv_args 0 av) []) : ConW aw l E y cc nL ret f n av σ post := by
  refine Met.ofW (cc := cc) (maxL := nL) (ret := ret) hy rfl ?_
  intro p e s m args below meth c s₁ B hml hv
  obtain ⟨rfl, ⟨hK, hW⟩, hSW⟩ := hv
  have hts := atoms_spec (ws := Cond.code y cc nL ret :: gtb) B.pre
  have hown : s.vm.findClass y.cls = some m.cls := findClass_of_methodNamed B.named
  have hl := lv_entry av (n := nL) hn
  rw [lg_entry_eq]
  exact walk (p, l, e, { frames := f, cells := 0, slots := 0, locals := n }, s, m, av.toArray, below, meth, c, 0, 0, MQ below (QO E post) av.toArray s 0 0 (AE E)) rfl
    ⟨B.exec, B.bytes, hml, hown, fun w h => hts w (List.mem_cons_of_mem _ h), hK, hE, Nat.le_refl _, Nat.le_refl _, Nat.le_refl _, Nat.le_refl _⟩ ⟨B.returns, B.notSynchronized, rfl⟩ hSW s.heap [] _ hW va_S.rf (by show lv_has _ c.maxLocals _; rw [hml]; exact hl)
section RW3
variable {K : KX} {E : EnvT} {cc : ByteArray} {nL : Nat} {own : String} {f n : Nat} {σ : ST} {pc : Nat} {lv : List (Nat × Value)} {rest : List Value} {aw : Nat} {post : Option Value → ST → Prop}
theorem SW.lt {U : State} (h : SW E aw U) : aw < U.heap.size := (Array.getElem?_eq_some_iff.mp h.2.1).1
theorem SW.at {U : State} (h : SW E aw (ks K)) {H : Heap} {locs : List Loc} (hS : va_S (AE E) (ks K).heap H locs) (hU : U.heap = H) (hvm : (ks K).vm.Alike U.vm) : SW E aw U := by
  refine ⟨va_Z.moved hvm (?_ : va_Z _ _ _ _ _ (ks K) U.heap), ?_, h.2.2⟩
  · exact h.1.kept (fun a ha hA => by rw [hU]; exact hS.2.1 a ha hA)
  · rw [hU, hS.2.1 aw h.lt h.2.2]; exact h.2.1
theorem sw_blind {av : List Value} {σ : ST} : FrameBlind (va_Pc av (fun U => Wd E σ U ∧ SW E aw U)) := fun a U g mk q => ⟨q.1, ⟨va_K.moved (u := U) (U := U.calling g mk a) (Vm.Alike.refl U.vm) q.2.1.1, q.2.1.2⟩, va_Z.moved (u := U) (U := U.calling g mk a) (Vm.Alike.refl U.vm) q.2.2.1, q.2.2.2⟩
theorem g_getW (h : Cx K E cc nL RX5 f n) (hw : SW E aw (ks K)) {index : Nat} (hl : Cond.fieldLink RX5 index "LetterFabric" "WAYS_TO_CHOOSE_LINES" "[I" ∈ gtb) (hd : decode cc pc = .ok (.getstatic index, 3)) (k : GG K E σ (pc + 3) lv (.ref aw :: rest)) : GG K E σ pc lv rest := fun H locs ls hW hS hl2 =>
  va_gets h.1 h.2.1 hw.1 hS h.2.2.2.1 (h.2.2.2.2.1 _ hl) (fun _ z => z) hd (k H locs ls hW hS hl2)
theorem g_aldW (h : Cx K E cc nL own f n) (hw : SW E aw (ks K)) (t : Nat) (ht : t < 9) (hd : decode cc pc = .ok (.iaload, 1)) (kk : GG K E σ (pc + 1) lv (.int (wyF t) :: rest)) : GG K E σ pc lv (.int (nI t) :: .ref aw :: rest) := fun H locs ls hW hS hl2 => by
  have hP : va_P (eD E) vwCl [(aw, .inl (eI E, 9, .inl wyF))] H := by
    intro q x hq
    have hz : q < 1 := (List.getElem?_eq_some_iff.mp hq).1
    rw [show q = 0 by omega] at hq
    cases hq
    show H[aw]? = some (vp_cell _ _)
    rw [hS.2.1 aw hw.lt hw.2.2]; exact hw.2.1
  refine va_iald (D := eD E) (cl := vwCl) h.1 h.2.1 h.2.2.2.2.2.1 hP 0 0 rfl rfl (vp_in_nI ht (by decide)) hd ?_
  rw [nI_clamp (by omega)]
  exact kk H locs ls hW hS hl2
theorem g_callSW (h : Cx K E cc nL own f n) (hw : SW E aw (ks K)) {y : MethodName} {c' : ByteArray} {nL' : Nat} {ret' : Option FieldType} {np f' n' : Nat} {As : List Value} {idx : Nat} (hMS : MS y c' nL' ret' np)
    (hM : ConW aw (kl K) E y c' nL' ret' f' n' As σ post) (hlink : Cond.methodLink own idx y ∈ gtb) (hlen : As.length = np) (hf : f' + 1 ≤ f) (hn : 8 + (nL' + 11) + n' ≤ n) {st : List Value} (hst : st = As.reverse ++ rest) (hr : (rest.map fun v => v.category).sum ≤ 8) (hd : decode cc pc = .ok (.invokestatic idx, 3))
    (kk : ∀ (v : Option Value) (σ' : ST), post v σ' → GG K E σ' (pc + 3) lv (v.toList ++ rest)) : GG K E σ pc lv st := by
  intro H locs ls hW hS hl
  obtain ⟨m1, m2, m3, m4⟩ := hMS
  have hG : GoodIn gtb (va_wsS own idx y (Cond.code y c' nL' ret' :: gtb)) := good_gtb (fun w hw => by
    simp only [va_wsS, List.cons_append, List.nil_append, List.mem_cons] at hw
    rcases hw with rfl | rfl | rfl | rfl | hw
    · exact hlink
    · exact m1
    · exact m2
    · exact m3
    · exact hw)
  exact g_after h (va_runS (As := As) (rest := rest) (nL := nL) (Ts := gtb) (own := own) ⟨h.1, h.2.1, h.2.2.1, h.2.2.2.1, h.2.2.2.2.1⟩ hM (va_cwS np h.2.2.2.2.1 hG rfl rfl rfl m4 ⟨Nat.le_trans hf h.2.2.2.2.2.2.2.1, Nat.le_trans hn h.2.2.2.2.2.2.2.2.1⟩)
    ⟨sw_blind, fun U hU hWm => ⟨rfl, ⟨va_K.moved hWm.alike h.2.2.2.2.2.1, by rw [hU]; exact hW⟩, hw.at hS hU hWm.alike⟩⟩ rfl hlen (by rw [← h.2.2.1]; exact hl.1) hst (lv_room hr) hd ⟨h.2.2.2.2.2.2.2.2.2.1, h.2.2.2.2.2.2.2.2.2.2⟩) hS hl kk
theorem g_callVW (h : Cx K E cc nL own f n) (hw : SW E aw (ks K)) {y : MethodName} {C : String} {c' : ByteArray} {nL' : Nat} {ret' : Option FieldType} {np f' n' : Nat} {As : List Value} {idx : Nat} (hMV : MV y C c' nL' ret' np) (k i j : Nat) (hok : okK k i j) {ci : Nat} {fs : List Value} (he : enc E σ k i j = .inr (ci, fs)) {T : u_T} {N : Nat} (hc : vwCl[ci]? = some (C, T, N))
    (hM : ConW aw (kl K) E y c' nL' ret' f' n' (.ref (ad E k i j) :: As) σ post) (hlink : Cond.methodLink own idx y ∈ gtb) (hlen : As.length = np) (hf : f' + 1 ≤ f) (hn : 8 + (nL' + 11) + n' ≤ n) {st : List Value} (hst : st = As.reverse ++ .ref (ad E k i j) :: rest) (hr : (rest.map fun v => v.category).sum ≤ 8) (hd : decode cc pc = .ok (.invokevirtual idx, 3))
    (kk : ∀ (v : Option Value) (σ' : ST), post v σ' → GG K E σ' (pc + 3) lv (v.toList ++ rest)) : GG K E σ pc lv st := by
  intro H locs ls hW hS hl
  obtain ⟨m1, m2, m3, m4, m5⟩ := hMV
  have hG : GoodIn gtb (wsV own idx C y (Cond.code y c' nL' ret' :: gtb)) := good_gtb (fun w hw => by
    simp only [wsV, List.cons_append, List.nil_append, List.mem_cons] at hw
    rcases hw with rfl | rfl | rfl | rfl | rfl | hw
    · exact hlink
    · exact m1
    · exact m2
    · exact m3
    · exact m4
    · exact hw)
  exact g_after h (va_runV (As := As) (rest := rest) (nL := nL) (Ts := gtb) (own := own) ⟨h.1, h.2.1, h.2.2.1, h.2.2.2.1, h.2.2.2.2.1⟩ hM (cwV np h.2.2.2.2.1 hG rfl rfl rfl m5 ⟨Nat.le_trans hf h.2.2.2.2.2.2.2.1, Nat.le_trans hn h.2.2.2.2.2.2.2.2.1⟩)
    ⟨sw_blind, va_recv h.2.2.2.2.2.1 (hW.one hok he) hc (q0 := 0) rfl, fun U hU hWm => ⟨rfl, ⟨va_K.moved hWm.alike h.2.2.2.2.2.1, by rw [hU]; exact hW⟩, hw.at hS hU hWm.alike⟩⟩ rfl hlen (by rw [← h.2.2.1]; exact hl.1) hst (lv_room hr) hd ⟨h.2.2.2.2.2.2.2.2.2.1, h.2.2.2.2.2.2.2.2.2.2⟩) hS hl kk
end RW3
theorem cmp_0 {x y : Int64} : lg_cmp x y = 0 ↔ x = y := by
  unfold lg_cmp
  by_cases h1 : y < x
  · rw [if_pos h1]
    constructor
    · intro h; exact absurd h (by decide)
    · intro h; rw [h] at h1; exact absurd h1 Int64.lt_irrefl
  · rw [if_neg h1]
    by_cases h2 : x = y
    · rw [if_pos h2]; exact ⟨fun _ => h2, fun _ => rfl⟩
    · rw [if_neg h2]
      constructor
      · intro h; exact absurd h (by decide)
      · intro h; exact absurd h h2
def pwL (b : Int64) : Nat → Int64 → Int64
  | 0, a => a
  | m + 1, a => pwL b m (a * b)
def cdL : Nat → Int64 → Int64 → Int64
  | 0, d, _ => d
  | m + 1, d, r => if r = 0 then d else cdL m r (d - d / r * r)
def wyL (x l : Nat) : Nat → Nat → Int64 → Int64
  | 0, _, a => a
  | m + 1, k, a => wyL x l m (k + 1) (a + (nI (k - l)).toInt64 * ((wyF k).toInt64 * pwL (nI x).toInt64 k 1 * pwL (nI (80 - x)).toInt64 (8 - k) 1))
set_option maxHeartbeats 4000000 in
theorem l_X5_power {K : KX} {E : EnvT} (hE : EOK E) (h : Cx K E cX5_power 6 RX5 0 0) {σ : ST} {post : Option Value → ST → Prop} (hR : Rx K E (some .long) post) (b : Int64) (n : Nat) (hn : n < 100) : ∀ m k a, k + m = n → post (some (.long (pwL b m a))) σ → GG K E σ 5 [(0, .long b), (2, .int (nI n)), (3, .long a), (5, .int (nI k))] [] := by
  intro m
  induction m with
  | zero =>
    intro k a hm hp
    refine g_iload h (q := 5) 3 dX5_power_5 rfl ?_
    refine g_iload_n h (q := 2) 1 dX5_power_7 rfl ?_
    refine g_ncmp_ge h (a := k) (b := n) 21 dX5_power_8 (by decide) (by omega) (by omega) (fun c1 => ?_) (fun c1 => ?_)
    · refine g_lload_n h (q := 3) 2 dX5_power_21 rfl ?_
      exact g_lret h hR dX5_power_22 (hp)
    · exfalso; omega
  | succ m ih =>
    intro k a hm hp
    refine g_iload h (q := 5) 3 dX5_power_5 rfl ?_
    refine g_iload_n h (q := 2) 1 dX5_power_7 rfl ?_
    refine g_ncmp_ge h (a := k) (b := n) 21 dX5_power_8 (by decide) (by omega) (by omega) (fun c1 => ?_) (fun c1 => ?_)
    · exfalso; omega
    · refine g_lload_n h (q := 3) 2 dX5_power_11 rfl ?_
      refine g_lload_n h (q := 0) 0 dX5_power_12 rfl ?_
      refine g_lmul h dX5_power_13 ?_
      refine g_lstore_n h (q := 3) [(0, .long b), (2, .int (nI (n))), (3, .long (a * b)), (5, .int (nI (k)))] dX5_power_14 (by decide) rfl ?_
      refine g_iinc h (q := 5) (v := nI (k + 1)) 3 [(0, .long b), (2, .int (nI (n))), (3, .long (a * b)), (5, .int (nI (k + 1)))] dX5_power_15 rfl (nI_inc k 1) (by decide) rfl ?_
      refine g_goto h 5 dX5_power_18 (by decide) ?_
      exact ih (k + 1) _ (by omega) hp
set_option maxHeartbeats 4000000 in
theorem c_X5_power (l : Launch) {E : EnvT} (hE : EOK E) {σ : ST} (b : Int64) (n : Nat) (hn : n < 100) : Con l E yX5_power cX5_power 6 (some .long) 0 0 [.long b, .int (nI (n))] σ (rL (pwL b n 1) σ) := by
  refine con_intro hE (by decide) (Nat.le_of_ble_eq_true rfl) (fun K hkl h hR => ?_)
  subst hkl
  have h : Cx K E cX5_power 6 RX5 0 0 := h
  show GG K E σ 0 [(0, .long b), (2, .int (nI (n)))] []
  refine g_lconst h (v := 1) dX5_power_0 (by decide) ?_
  refine g_lstore_n h (q := 3) [(0, .long b), (2, .int (nI (n))), (3, .long 1)] dX5_power_1 (by decide) rfl ?_
  refine g_iconst h (v := 0) dX5_power_2 (by decide) ?_
  refine g_istore h (q := 5) [(0, .long b), (2, .int (nI (n))), (3, .long 1), (5, .int 0)] dX5_power_3 (by decide) rfl ?_
  exact l_X5_power hE h hR b n hn n 0 1 (Nat.zero_add _) ⟨rfl, rfl⟩
set_option maxHeartbeats 4000000 in
theorem l_X6_power {K : KX} {E : EnvT} (hE : EOK E) (h : Cx K E cX6_power 6 RX6 0 0) {σ : ST} {post : Option Value → ST → Prop} (hR : Rx K E (some .long) post) (b : Int64) (n : Nat) (hn : n < 100) : ∀ m k a, k + m = n → post (some (.long (pwL b m a))) σ → GG K E σ 5 [(0, .long b), (2, .int (nI n)), (3, .long a), (5, .int (nI k))] [] := by
  intro m
  induction m with
  | zero =>
    intro k a hm hp
    refine g_iload h (q := 5) 3 dX6_power_5 rfl ?_
    refine g_iload_n h (q := 2) 1 dX6_power_7 rfl ?_
    refine g_ncmp_ge h (a := k) (b := n) 21 dX6_power_8 (by decide) (by omega) (by omega) (fun c1 => ?_) (fun c1 => ?_)
    · refine g_lload_n h (q := 3) 2 dX6_power_21 rfl ?_
      exact g_lret h hR dX6_power_22 (hp)
    · exfalso; omega
  | succ m ih =>
    intro k a hm hp
    refine g_iload h (q := 5) 3 dX6_power_5 rfl ?_
    refine g_iload_n h (q := 2) 1 dX6_power_7 rfl ?_
    refine g_ncmp_ge h (a := k) (b := n) 21 dX6_power_8 (by decide) (by omega) (by omega) (fun c1 => ?_) (fun c1 => ?_)
    · exfalso; omega
    · refine g_lload_n h (q := 3) 2 dX6_power_11 rfl ?_
      refine g_lload_n h (q := 0) 0 dX6_power_12 rfl ?_
      refine g_lmul h dX6_power_13 ?_
      refine g_lstore_n h (q := 3) [(0, .long b), (2, .int (nI (n))), (3, .long (a * b)), (5, .int (nI (k)))] dX6_power_14 (by decide) rfl ?_
      refine g_iinc h (q := 5) (v := nI (k + 1)) 3 [(0, .long b), (2, .int (nI (n))), (3, .long (a * b)), (5, .int (nI (k + 1)))] dX6_power_15 rfl (nI_inc k 1) (by decide) rfl ?_
      refine g_goto h 5 dX6_power_18 (by decide) ?_
      exact ih (k + 1) _ (by omega) hp
set_option maxHeartbeats 4000000 in
theorem c_X6_power (l : Launch) {E : EnvT} (hE : EOK E) {σ : ST} (b : Int64) (n : Nat) (hn : n < 100) : Con l E yX6_power cX6_power 6 (some .long) 0 0 [.long b, .int (nI (n))] σ (rL (pwL b n 1) σ) := by
  refine con_intro hE (by decide) (Nat.le_of_ble_eq_true rfl) (fun K hkl h hR => ?_)
  subst hkl
  have h : Cx K E cX6_power 6 RX6 0 0 := h
  show GG K E σ 0 [(0, .long b), (2, .int (nI (n)))] []
  refine g_lconst h (v := 1) dX6_power_0 (by decide) ?_
  refine g_lstore_n h (q := 3) [(0, .long b), (2, .int (nI (n))), (3, .long 1)] dX6_power_1 (by decide) rfl ?_
  refine g_iconst h (v := 0) dX6_power_2 (by decide) ?_
  refine g_istore h (q := 5) [(0, .long b), (2, .int (nI (n))), (3, .long 1), (5, .int 0)] dX6_power_3 (by decide) rfl ?_
  exact l_X6_power hE h hR b n hn n 0 1 (Nat.zero_add _) ⟨rfl, rfl⟩
set_option maxHeartbeats 4000000 in
theorem l_X5_commonDivisor {K : KX} {E : EnvT} (hE : EOK E) (h : Cx K E cX5_commonDivisor 11 RX5 0 0) {σ : ST} {post : Option Value → ST → Prop} (hR : Rx K E (some .long) post) (a b : Int64) : ∀ m k d r, k + m = 200 → post (some (.long (cdL m d r))) σ → GG K E σ 9 [(0, .long a), (2, .long b), (4, .long d), (6, .long r), (8, .int (nI k))] [] := by
  intro m
  induction m with
  | zero =>
    intro k d r hm hp
    refine g_iload h (q := 8) 4 dX5_commonDivisor_9 rfl ?_
    refine g_sipush h (v := 200) dX5_commonDivisor_11 (by decide) ?_
    refine g_ncmp_ge h (a := k) (b := 200) 45 dX5_commonDivisor_14 (by decide) (by omega) (by omega) (fun c1 => ?_) (fun c1 => ?_)
    · refine g_lload h (q := 4) 2 dX5_commonDivisor_45 rfl ?_
      exact g_lret h hR dX5_commonDivisor_47 (hp)
    · exfalso; omega
  | succ m ih =>
    intro k d r hm hp
    refine g_iload h (q := 8) 4 dX5_commonDivisor_9 rfl ?_
    refine g_sipush h (v := 200) dX5_commonDivisor_11 (by decide) ?_
    refine g_ncmp_ge h (a := k) (b := 200) 45 dX5_commonDivisor_14 (by decide) (by omega) (by omega) (fun c1 => ?_) (fun c1 => ?_)
    · exfalso; omega
    · refine g_lload h (q := 6) 3 dX5_commonDivisor_17 rfl ?_
      refine g_lconst h (v := 0) dX5_commonDivisor_19 (by decide) ?_
      refine g_lcmp h dX5_commonDivisor_20 ?_
      refine g_if_eq h 45 dX5_commonDivisor_21 (by decide) (fun c2 => ?_) (fun c2 => ?_)
      · refine g_lload h (q := 4) 2 dX5_commonDivisor_45 rfl ?_
        exact g_lret h hR dX5_commonDivisor_47 (by rw [cdL, if_pos (cmp_0.mp c2)] at hp; exact hp)
      · refine g_lload h (q := 4) 2 dX5_commonDivisor_24 rfl ?_
        refine g_lload h (q := 6) 3 dX5_commonDivisor_26 rfl ?_
        refine g_lrem h dX5_commonDivisor_28 (fun e => c2 (cmp_0.mpr e)) ?_
        refine g_lstore h (q := 9) [(0, .long a), (2, .long b), (4, .long d), (6, .long r), (8, .int (nI (k))), (9, .long (d - d / r * r))] dX5_commonDivisor_29 (by decide) rfl ?_
        refine g_lload h (q := 6) 3 dX5_commonDivisor_31 rfl ?_
        refine g_lstore h (q := 4) [(0, .long a), (2, .long b), (4, .long r), (6, .long r), (8, .int (nI (k))), (9, .long (d - d / r * r))] dX5_commonDivisor_33 (by decide) rfl ?_
        refine g_lload h (q := 9) 5 dX5_commonDivisor_35 rfl ?_
        refine g_lstore h (q := 6) [(0, .long a), (2, .long b), (4, .long r), (6, .long (d - d / r * r)), (8, .int (nI (k))), (9, .long (d - d / r * r))] dX5_commonDivisor_37 (by decide) rfl ?_
        refine g_iinc h (q := 8) (v := nI (k + 1)) 4 [(0, .long a), (2, .long b), (4, .long r), (6, .long (d - d / r * r)), (8, .int (nI (k + 1))), (9, .long (d - d / r * r))] dX5_commonDivisor_39 rfl (nI_inc k 1) (by decide) rfl ?_
        refine g_goto h 9 dX5_commonDivisor_42 (by decide) ?_
        refine g_sub [(0, .long a), (2, .long b), (4, .long r), (6, .long (d - d / r * r)), (8, .int (nI (k + 1)))] [0, 1, 2, 3, 4] rfl ?_
        exact ih (k + 1) _ _ (by omega) (by rw [cdL, if_neg (fun e => c2 (cmp_0.mpr e))] at hp; exact hp)
set_option maxHeartbeats 4000000 in
theorem c_X5_commonDivisor (l : Launch) {E : EnvT} (hE : EOK E) {σ : ST} (a b : Int64) : Con l E yX5_commonDivisor cX5_commonDivisor 11 (some .long) 0 0 [.long a, .long b] σ (rL (cdL 200 a b) σ) := by
  refine con_intro hE (by decide) (Nat.le_of_ble_eq_true rfl) (fun K hkl h hR => ?_)
  subst hkl
  have h : Cx K E cX5_commonDivisor 11 RX5 0 0 := h
  show GG K E σ 0 [(0, .long a), (2, .long b)] []
  refine g_lload_n h (q := 0) 0 dX5_commonDivisor_0 rfl ?_
  refine g_lstore h (q := 4) [(0, .long a), (2, .long b), (4, .long a)] dX5_commonDivisor_1 (by decide) rfl ?_
  refine g_lload_n h (q := 2) 1 dX5_commonDivisor_3 rfl ?_
  refine g_lstore h (q := 6) [(0, .long a), (2, .long b), (4, .long a), (6, .long b)] dX5_commonDivisor_4 (by decide) rfl ?_
  refine g_iconst h (v := 0) dX5_commonDivisor_6 (by decide) ?_
  refine g_istore h (q := 8) [(0, .long a), (2, .long b), (4, .long a), (6, .long b), (8, .int 0)] dX5_commonDivisor_7 (by decide) rfl ?_
  exact l_X5_commonDivisor hE h hR a b 200 0 a b rfl ⟨rfl, rfl⟩
set_option maxHeartbeats 4000000 in
theorem l_X5_waysNotTaken {K : KX} {E : EnvT} (hE : EOK E) (h : Cx K E cX5_waysNotTaken 7 RX5 1 25) {σ : ST} {aw : Nat} (hw : SW E aw (ks K)) {post : Option Value → ST → Prop} (hR : Rx K E (some .long) post) (x l : Nat) (hx : x ≤ 10) (hl : l ≤ 8) : ∀ m k a, k + m = 9 → l ≤ k → post (some (.long (wyL x l m k a))) σ → GG K E σ 7 [(0, .int (nI x)), (1, .int (nI l)), (2, .long a), (4, .int (nI k))] [] := by
  intro m
  induction m with
  | zero =>
    intro k a hm hlk hp
    refine g_iload h (q := 4) 3 dX5_waysNotTaken_7 rfl ?_
    refine g_bipush h (v := 8) dX5_waysNotTaken_9 (by decide) ?_
    refine g_ncmp_gt h (a := k) (b := 8) 62 dX5_waysNotTaken_11 (by decide) (by omega) (by omega) (fun c1 => ?_) (fun c1 => ?_)
    · refine g_lload_n h (q := 2) 2 dX5_waysNotTaken_62 rfl ?_
      exact g_lret h hR dX5_waysNotTaken_63 (hp)
    · exfalso; omega
  | succ m ih =>
    intro k a hm hlk hp
    refine g_iload h (q := 4) 3 dX5_waysNotTaken_7 rfl ?_
    refine g_bipush h (v := 8) dX5_waysNotTaken_9 (by decide) ?_
    refine g_ncmp_gt h (a := k) (b := 8) 62 dX5_waysNotTaken_11 (by decide) (by omega) (by omega) (fun c1 => ?_) (fun c1 => ?_)
    · exfalso; omega
    · refine g_getW h hw fl_X5_200 dX5_waysNotTaken_14 ?_
      refine g_iload h (q := 4) 3 dX5_waysNotTaken_17 rfl ?_
      refine g_aldW h hw k (by omega) dX5_waysNotTaken_19 ?_
      refine g_i2l h dX5_waysNotTaken_20 ?_
      refine g_iload_n h (q := 0) 0 dX5_waysNotTaken_21 rfl ?_
      refine g_i2l h dX5_waysNotTaken_22 ?_
      refine g_iload h (q := 4) 3 dX5_waysNotTaken_23 rfl ?_
      refine g_callS h ms_X5_power (As := [.long ((nI (x)).toInt64), .int (nI (k))]) (c_X5_power (kl K) hE (σ := σ) (nI x).toInt64 k (by omega)) ml_X5_175 rfl (by decide) (by decide) rfl (Nat.le_of_ble_eq_true rfl) dX5_waysNotTaken_25 (fun v σ9 h9 => ?_)
      rw [h9.1, h9.2]; clear h9
      refine g_lmul h dX5_waysNotTaken_28 ?_
      refine g_bipush h (v := 80) dX5_waysNotTaken_29 (by decide) ?_
      refine g_iload_n h (q := 0) 0 dX5_waysNotTaken_31 rfl ?_
      refine g_isub h dX5_waysNotTaken_32 ?_
      refine g_is (nI (80 - x)) (pk_sub (a := 80) (b := x) (by omega)) ?_
      refine g_i2l h dX5_waysNotTaken_33 ?_
      refine g_bipush h (v := 8) dX5_waysNotTaken_34 (by decide) ?_
      refine g_iload h (q := 4) 3 dX5_waysNotTaken_36 rfl ?_
      refine g_isub h dX5_waysNotTaken_38 ?_
      refine g_is (nI (8 - k)) (pk_sub (a := 8) (b := k) (by omega)) ?_
      refine g_callS h ms_X5_power (As := [.long ((nI (80 - x)).toInt64), .int (nI (8 - k))]) (c_X5_power (kl K) hE (σ := σ) (nI (80 - x)).toInt64 (8 - k) (by omega)) ml_X5_175 rfl (by decide) (by decide) rfl (Nat.le_of_ble_eq_true rfl) dX5_waysNotTaken_39 (fun v σ9 h9 => ?_)
      rw [h9.1, h9.2]; clear h9
      refine g_lmul h dX5_waysNotTaken_42 ?_
      refine g_lstore h (q := 5) [(0, .int (nI (x))), (1, .int (nI (l))), (2, .long a), (4, .int (nI (k))), (5, .long ((((wyF k).toInt64) * (pwL (nI x).toInt64 k 1)) * (pwL (nI (80 - x)).toInt64 (8 - k) 1)))] dX5_waysNotTaken_43 (by decide) rfl ?_
      refine g_lload_n h (q := 2) 2 dX5_waysNotTaken_45 rfl ?_
      refine g_iload h (q := 4) 3 dX5_waysNotTaken_46 rfl ?_
      refine g_iload_n h (q := 1) 1 dX5_waysNotTaken_48 rfl ?_
      refine g_isub h dX5_waysNotTaken_49 ?_
      refine g_is (nI (k - l)) (pk_sub (a := k) (b := l) (by omega)) ?_
      refine g_i2l h dX5_waysNotTaken_50 ?_
      refine g_lload h (q := 5) 4 dX5_waysNotTaken_51 rfl ?_
      refine g_lmul h dX5_waysNotTaken_53 ?_
      refine g_ladd h dX5_waysNotTaken_54 ?_
      refine g_lstore_n h (q := 2) [(0, .int (nI (x))), (1, .int (nI (l))), (2, .long (a + (((nI (k - l)).toInt64) * ((((wyF k).toInt64) * (pwL (nI x).toInt64 k 1)) * (pwL (nI (80 - x)).toInt64 (8 - k) 1))))), (4, .int (nI (k))), (5, .long ((((wyF k).toInt64) * (pwL (nI x).toInt64 k 1)) * (pwL (nI (80 - x)).toInt64 (8 - k) 1)))] dX5_waysNotTaken_55 (by decide) rfl ?_
      refine g_iinc h (q := 4) (v := nI (k + 1)) 3 [(0, .int (nI (x))), (1, .int (nI (l))), (2, .long (a + (((nI (k - l)).toInt64) * ((((wyF k).toInt64) * (pwL (nI x).toInt64 k 1)) * (pwL (nI (80 - x)).toInt64 (8 - k) 1))))), (4, .int (nI (k + 1))), (5, .long ((((wyF k).toInt64) * (pwL (nI x).toInt64 k 1)) * (pwL (nI (80 - x)).toInt64 (8 - k) 1)))] dX5_waysNotTaken_56 rfl (nI_inc k 1) (by decide) rfl ?_
      refine g_goto h 7 dX5_waysNotTaken_59 (by decide) ?_
      refine g_sub [(0, .int (nI (x))), (1, .int (nI (l))), (2, .long (a + (((nI (k - l)).toInt64) * ((((wyF k).toInt64) * (pwL (nI x).toInt64 k 1)) * (pwL (nI (80 - x)).toInt64 (8 - k) 1))))), (4, .int (nI (k + 1)))] [0, 1, 2, 3] rfl ?_
      exact ih (k + 1) _ (by omega) (by omega) hp
set_option maxHeartbeats 4000000 in
theorem c_X5_waysNotTaken (aw : Nat) (la : Launch) {E : EnvT} (hE : EOK E) {σ : ST} (x l : Nat) (hx : x ≤ 10) (hl : l ≤ 8) : ConW aw la E yX5_waysNotTaken cX5_waysNotTaken 7 (some .long) 1 25 [.int (nI (x)), .int (nI (l))] σ (rL (wyL x l (8 - l) (l + 1) 0) σ) := by
  refine conW_intro hE (by decide) (Nat.le_of_ble_eq_true rfl) (fun K hkl h hR hw => ?_)
  subst hkl
  have h : Cx K E cX5_waysNotTaken 7 RX5 1 25 := h
  show GG K E σ 0 [(0, .int (nI (x))), (1, .int (nI (l)))] []
  refine g_lconst h (v := 0) dX5_waysNotTaken_0 (by decide) ?_
  refine g_lstore_n h (q := 2) [(0, .int (nI (x))), (1, .int (nI (l))), (2, .long 0)] dX5_waysNotTaken_1 (by decide) rfl ?_
  refine g_iload_n h (q := 1) 1 dX5_waysNotTaken_2 rfl ?_
  refine g_iconst h (v := 1) dX5_waysNotTaken_3 (by decide) ?_
  refine g_iadd h dX5_waysNotTaken_4 ?_
  refine g_is (nI (l + 1)) (nI_add l 1) ?_
  refine g_istore h (q := 4) [(0, .int (nI (x))), (1, .int (nI (l))), (2, .long 0), (4, .int (nI (l + 1)))] dX5_waysNotTaken_5 (by decide) rfl ?_
  exact l_X5_waysNotTaken hE h hw hR x l hx hl (8 - l) (l + 1) 0 (by omega) (by omega) ⟨rfl, rfl⟩
def shU (x l : Nat) : Int64 := wyL x l (8 - l) (l + 1) 0
def shD (x l : Nat) : Int64 := cdL 200 (shU x l) (pwL 80 8 1)
def xShare (a b c : Int32) : Int64 :=
  if wi a 0 10 = true ∧ wi b 0 8 = true ∧ wi c 0 1 = true then
    (if shD a.toNatClampNeg b.toNatClampNeg = 0 then -1 else if c = 0 then shU a.toNatClampNeg b.toNatClampNeg / shD a.toNatClampNeg b.toNatClampNeg else pwL 80 8 1 / shD a.toNatClampNeg b.toNatClampNeg)
  else -1
set_option maxHeartbeats 4000000 in
theorem c_X5_share (aw : Nat) (la : Launch) {E : EnvT} (hE : EOK E) {σ : ST} (a b c : Int32) : ConW aw la E yX5_share cX5_share 10 (some .long) 2 51 [.ref (ad E 0 0 0), .int a, .int b, .int c] σ (rL (xShare a b c) σ) := by
  refine conW_intro hE (by decide) (Nat.le_of_ble_eq_true rfl) (fun K hkl h hR hw => ?_)
  subst hkl
  have h : Cx K E cX5_share 10 RX5 2 51 := h
  show GG K E σ 0 [(0, .ref (ad E 0 0 0)), (1, .int a), (2, .int b), (3, .int c)] []
  refine g_iload_n h (q := 1) 1 dX5_share_0 rfl ?_
  refine g_iconst h (v := 0) dX5_share_1 (by decide) ?_
  refine g_bipush h (v := 10) dX5_share_2 (by decide) ?_
  refine g_callS h ms_X5_isWithin (As := [.int a, .int 0, .int 10]) (c_X5_isWithin (kl K) hE (σ := σ) a 0 10) ml_X5_52 rfl (by decide) (by decide) rfl (Nat.le_of_ble_eq_true rfl) dX5_share_4 (fun v σ9 h9 => ?_)
  rw [h9.1, h9.2]; clear h9
  refine g_if_eq h 29 dX5_share_7 (by decide) (fun c1 => ?_) (fun c1 => ?_)
  · refine g_ldc2 h cj_X5_167 dX5_share_29 ?_
    exact g_lret h hR dX5_share_32 (show rL _ _ _ _ from ⟨by rw [xShare, if_neg (by simp [bI_0.mp c1])], rfl⟩)
  · refine g_iload_n h (q := 2) 2 dX5_share_10 rfl ?_
    refine g_iconst h (v := 0) dX5_share_11 (by decide) ?_
    refine g_bipush h (v := 8) dX5_share_12 (by decide) ?_
    refine g_callS h ms_X5_isWithin (As := [.int b, .int 0, .int 8]) (c_X5_isWithin (kl K) hE (σ := σ) b 0 8) ml_X5_52 rfl (by decide) (by decide) rfl (Nat.le_of_ble_eq_true rfl) dX5_share_14 (fun v σ9 h9 => ?_)
    rw [h9.1, h9.2]; clear h9
    refine g_if_eq h 29 dX5_share_17 (by decide) (fun c2 => ?_) (fun c2 => ?_)
    · refine g_ldc2 h cj_X5_167 dX5_share_29 ?_
      exact g_lret h hR dX5_share_32 (show rL _ _ _ _ from ⟨by rw [xShare, if_neg (by simp [bI_1.mp c1, bI_0.mp c2])], rfl⟩)
    · refine g_iload_n h (q := 3) 3 dX5_share_20 rfl ?_
      refine g_iconst h (v := 0) dX5_share_21 (by decide) ?_
      refine g_iconst h (v := 1) dX5_share_22 (by decide) ?_
      refine g_callS h ms_X5_isWithin (As := [.int c, .int 0, .int 1]) (c_X5_isWithin (kl K) hE (σ := σ) c 0 1) ml_X5_52 rfl (by decide) (by decide) rfl (Nat.le_of_ble_eq_true rfl) dX5_share_23 (fun v σ9 h9 => ?_)
      rw [h9.1, h9.2]; clear h9
      refine g_if_ne h 33 dX5_share_26 (by decide) (fun c3 => ?_) (fun c3 => ?_)
      · have hwa := bI_1.mp c1
        obtain ⟨x0, hx0, hex0⟩ := wi_nat (n := 10) (by decide) hwa
        subst hex0
        have hcx0 : (nI x0).toNatClampNeg = x0 := nI_clamp (by omega)
        have hwb := bI_1.mp c2
        obtain ⟨l0, hl0, hel0⟩ := wi_nat (n := 8) (by decide) hwb
        subst hel0
        have hcl0 : (nI l0).toNatClampNeg = l0 := nI_clamp (by omega)
        refine g_iload_n h (q := 1) 1 dX5_share_33 rfl ?_
        refine g_iload_n h (q := 2) 2 dX5_share_34 rfl ?_
        refine g_callSW h hw ms_X5_waysNotTaken (As := [.int (nI x0), .int (nI l0)]) (c_X5_waysNotTaken aw (kl K) hE (σ := σ) x0 l0 hx0 hl0) ml_X5_169 rfl (by decide) (by decide) rfl (Nat.le_of_ble_eq_true rfl) dX5_share_35 (fun v σ9 h9 => ?_)
        rw [h9.1, h9.2]; clear h9
        refine g_lstore h (q := 4) [(0, .ref (ad E 0 0 0)), (1, .int (nI (x0))), (2, .int (nI (l0))), (3, .int c), (4, .long (shU x0 l0))] dX5_share_38 (by decide) rfl ?_
        refine g_ldc2 h cj_X5_173 dX5_share_40 ?_
        refine g_bipush h (v := 8) dX5_share_43 (by decide) ?_
        refine g_callS h ms_X5_power (As := [.long 80, .int 8]) (c_X5_power (kl K) hE (σ := σ) 80 8 (by decide)) ml_X5_175 rfl (by decide) (by decide) rfl (Nat.le_of_ble_eq_true rfl) dX5_share_45 (fun v σ9 h9 => ?_)
        rw [h9.1, h9.2]; clear h9
        refine g_lstore h (q := 6) [(0, .ref (ad E 0 0 0)), (1, .int (nI (x0))), (2, .int (nI (l0))), (3, .int c), (4, .long (shU x0 l0)), (6, .long (pwL 80 8 1))] dX5_share_48 (by decide) rfl ?_
        refine g_lload h (q := 4) 4 dX5_share_50 rfl ?_
        refine g_lload h (q := 6) 5 dX5_share_52 rfl ?_
        refine g_callS h ms_X5_commonDivisor (As := [.long (shU x0 l0), .long (pwL 80 8 1)]) (c_X5_commonDivisor (kl K) hE (σ := σ) (shU x0 l0) (pwL 80 8 1)) ml_X5_179 rfl (by decide) (by decide) rfl (Nat.le_of_ble_eq_true rfl) dX5_share_54 (fun v σ9 h9 => ?_)
        rw [h9.1, h9.2]; clear h9
        refine g_lstore h (q := 8) [(0, .ref (ad E 0 0 0)), (1, .int (nI (x0))), (2, .int (nI (l0))), (3, .int c), (4, .long (shU x0 l0)), (6, .long (pwL 80 8 1)), (8, .long (shD x0 l0))] dX5_share_57 (by decide) rfl ?_
        refine g_lload h (q := 8) 6 dX5_share_59 rfl ?_
        refine g_lconst h (v := 0) dX5_share_61 (by decide) ?_
        refine g_lcmp h dX5_share_62 ?_
        refine g_if_ne h 70 dX5_share_63 (by decide) (fun c4 => ?_) (fun c4 => ?_)
        · refine g_iload_n h (q := 3) 3 dX5_share_70 rfl ?_
          refine g_if_ne h 82 dX5_share_71 (by decide) (fun c5 => ?_) (fun c5 => ?_)
          · refine g_lload h (q := 6) 5 dX5_share_82 rfl ?_
            refine g_lload h (q := 8) 6 dX5_share_84 rfl ?_
            refine g_ldiv h dX5_share_86 (fun e => c4 (cmp_0.mpr e)) ?_
            exact g_lret h hR dX5_share_87 (show rL _ _ _ _ from ⟨by rw [xShare, if_pos ⟨hwa, hwb, bI_1.mp c3⟩, hcx0, hcl0, if_neg (fun e => c4 (cmp_0.mpr e)), if_neg c5], rfl⟩)
          · refine g_lload h (q := 4) 4 dX5_share_74 rfl ?_
            refine g_lload h (q := 8) 6 dX5_share_76 rfl ?_
            refine g_ldiv h dX5_share_78 (fun e => c4 (cmp_0.mpr e)) ?_
            refine g_goto h 87 dX5_share_79 (by decide) ?_
            exact g_lret h hR dX5_share_87 (show rL _ _ _ _ from ⟨by rw [xShare, if_pos ⟨hwa, hwb, bI_1.mp c3⟩, hcx0, hcl0, if_neg (fun e => c4 (cmp_0.mpr e)), if_pos c5], rfl⟩)
        · refine g_ldc2 h cj_X5_167 dX5_share_66 ?_
          exact g_lret h hR dX5_share_69 (show rL _ _ _ _ from ⟨by rw [xShare, if_pos ⟨hwa, hwb, bI_1.mp c3⟩, hcx0, hcl0, if_pos (cmp_0.mp c4)], rfl⟩)
      · refine g_ldc2 h cj_X5_167 dX5_share_29 ?_
        exact g_lret h hR dX5_share_32 (show rL _ _ _ _ from ⟨by rw [xShare, if_neg (by simp [bI_1.mp c1, bI_1.mp c2, bI_0.mp c3])], rfl⟩)
end
section
section RMM
variable {K : KX} {E : EnvT} {cc : ByteArray} {nL : Nat} {own : String} {f n : Nat} {σ : ST} {M : MT} {pc : Nat} {lv : List (Nat × Value)} {rest : List Value}
theorem g_gMc (h : Cx K E cc nL own f n) (w : Nat) (hw : w < 4) {index : Nat} (hl : Cond.fieldLink own index (TX6 w).1 (TX6 w).2.1 (TX6 w).2.2.1 ∈ gtb) (hd : decode cc pc = .ok (.getfield index, 3)) (kk : GG K E (sM σ M) (pc + 3) lv (.int (M.1 w) :: rest)) : GG K E (sM σ M) pc lv (.ref (ad E 11 0 0) :: rest) := by
  have hc : w = 0 ∨ w = 1 ∨ w = 2 ∨ w = 3 := by omega
  refine g_get h 11 0 0 ⟨rfl, rfl⟩ rfl rfl uin_X6 w (by omega) hl ?_ hd kk
  rcases hc with rfl | rfl | rfl | rfl <;> rfl
theorem g_gMn (h : Cx K E cc nL own f n) (w : Nat) (hw : w < 5) {index : Nat} (hl : Cond.fieldLink own index (TX6 (mns w)).1 (TX6 (mns w)).2.1 (TX6 (mns w)).2.2.1 ∈ gtb) (hd : decode cc pc = .ok (.getfield index, 3)) (kk : GG K E (sM σ M) (pc + 3) lv (.int (nI (M.2.1 w)) :: rest)) : GG K E (sM σ M) pc lv (.ref (ad E 11 0 0) :: rest) := by
  have hc : w = 0 ∨ w = 1 ∨ w = 2 ∨ w = 3 ∨ w = 4 := by omega
  refine g_get h 11 0 0 ⟨rfl, rfl⟩ rfl rfl uin_X6 (mns w) ?_ hl ?_ hd kk
  · rcases hc with rfl | rfl | rfl | rfl | rfl <;> decide
  · rcases hc with rfl | rfl | rfl | rfl | rfl <;> rfl
def mas (j : Nat) : Nat := match j with
  | 0 => 6
  | 1 => 7
  | 2 => 8
  | 3 => 12
  | 4 => 13
  | 5 => 14
  | 6 => 16
  | _ => 17
theorem g_gMa (h : Cx K E cc nL own f n) (j : Nat) (hj : j < 8) {index : Nat} (hl : Cond.fieldLink own index (TX6 (mas j)).1 (TX6 (mas j)).2.1 (TX6 (mas j)).2.2.1 ∈ gtb) (hd : decode cc pc = .ok (.getfield index, 3)) (kk : GG K E (sM σ M) (pc + 3) lv (.ref (ad E 12 0 j) :: rest)) : GG K E (sM σ M) pc lv (.ref (ad E 11 0 0) :: rest) := by
  have hc : j = 0 ∨ j = 1 ∨ j = 2 ∨ j = 3 ∨ j = 4 ∨ j = 5 ∨ j = 6 ∨ j = 7 := by omega
  refine g_get h 11 0 0 ⟨rfl, rfl⟩ rfl rfl uin_X6 (mas j) ?_ hl ?_ hd kk
  · rcases hc with rfl | rfl | rfl | rfl | rfl | rfl | rfl | rfl <;> decide
  · rcases hc with rfl | rfl | rfl | rfl | rfl | rfl | rfl | rfl <;> rfl
theorem g_gMo (h : Cx K E cc nL own f n) {index : Nat} (hl : Cond.fieldLink own index (TX6 11).1 (TX6 11).2.1 (TX6 11).2.2.1 ∈ gtb) (hd : decode cc pc = .ok (.getfield index, 3)) (kk : GG K E (sM σ M) (pc + 3) lv (.ref (ad E 13 0 0) :: rest)) : GG K E (sM σ M) pc lv (.ref (ad E 11 0 0) :: rest) :=
  g_get h 11 0 0 ⟨rfl, rfl⟩ rfl rfl uin_X6 11 (by decide) hl rfl hd kk
theorem g_pMc (h : Cx K E cc nL own f n) (w : Nat) (hw : w < 4) {index : Nat} {x : Int32} (hl : Cond.fieldLink own index (TX6 w).1 (TX6 w).2.1 (TX6 w).2.2.1 ∈ gtb) (hd : decode cc pc = .ok (.putfield index, 3)) (kk : ∀ M', M' = (va_up M.1 w x, M.2) → GG K E (sM σ M') (pc + 3) lv rest) : GG K E (sM σ M) pc lv (.int x :: .ref (ad E 11 0 0) :: rest) :=
  g_putMc h w hw hl hd (fun σ' e => by rw [e]; exact kk _ rfl)
theorem g_pMn (h : Cx K E cc nL own f n) (w : Nat) (hw : w < 5) {index m : Nat} (hl : Cond.fieldLink own index (TX6 (mns w)).1 (TX6 (mns w)).2.1 (TX6 (mns w)).2.2.1 ∈ gtb) (hd : decode cc pc = .ok (.putfield index, 3)) (kk : ∀ M', M' = (M.1, va_up M.2.1 w m, M.2.2) → GG K E (sM σ M') (pc + 3) lv rest) : GG K E (sM σ M) pc lv (.int (nI m) :: .ref (ad E 11 0 0) :: rest) :=
  g_putMn h w hw hl hd (fun σ' e => by rw [e]; exact kk _ rfl)
theorem g_lM (h : Cx K E cc nL own f n) (j : Nat) (hj : j < 8) (t : Nat) (ht : t < mlen j) (hd : decode cc pc = .ok (.iaload, 1)) (kk : GG K E (sM σ M) (pc + 1) lv (.int (M.2.2.1 j t) :: rest)) : GG K E (sM σ M) pc lv (.int (nI t) :: .ref (ad E 12 0 j) :: rest) := g_aldM h j hj t ht hd kk
theorem g_lO (h : Cx K E cc nL own f n) (t : Nat) (ht : t < 64) (hd : decode cc pc = .ok (.iaload, 1)) (kk : GG K E (sM σ M) (pc + 1) lv (.int (nI (M.2.2.2 t)) :: rest)) : GG K E (sM σ M) pc lv (.int (nI t) :: .ref (ad E 13 0 0) :: rest) := g_aldO h t ht hd kk
theorem g_sA (h : Cx K E cc nL own f n) (j : Nat) (hj : j < 8) (t : Nat) (ht : t < mlen j) {x : Int32} (hd : decode cc pc = .ok (.iastore, 1)) (kk : ∀ M', M' = (M.1, M.2.1, va_up M.2.2.1 j (upd (M.2.2.1 j) t x), M.2.2.2) → GG K E (sM σ M') (pc + 1) lv rest) : GG K E (sM σ M) pc lv (.int x :: .int (nI t) :: .ref (ad E 12 0 j) :: rest) :=
  g_astM h j hj t ht hd (fun σ' e => by rw [e]; exact kk _ rfl)
theorem g_sO (h : Cx K E cc nL own f n) (t : Nat) (ht : t < 64) {m : Nat} (hd : decode cc pc = .ok (.iastore, 1)) (kk : ∀ M', M' = (M.1, M.2.1, M.2.2.1, va_up M.2.2.2 t m) → GG K E (sM σ M') (pc + 1) lv rest) : GG K E (sM σ M) pc lv (.int (nI m) :: .int (nI t) :: .ref (ad E 13 0 0) :: rest) :=
  g_astO h t ht hd (fun σ' e => by rw [e]; exact kk _ rfl)
end RMM
def mOf (M : MT) (n w : Nat) : Int32 := M.2.2.1 0 (8 * n + w)
def mSet (M : MT) (n w : Nat) (v : Int32) : MT := (M.1, M.2.1, va_up M.2.2.1 0 (upd (M.2.2.1 0) (8 * n + w) v), M.2.2.2)
set_option maxHeartbeats 4000000 in
theorem c_X6_in (l : Launch) {E : EnvT} (hE : EOK E) {σ : ST} {M : MT} (x lo hi : Int32) : Con l E yX6_in cX6_in 3 (some .boolean) 0 0 [.int x, .int lo, .int hi] (sM σ M) (rI (bI (wi x lo hi)) (sM σ M)) := by
  refine con_intro hE (by decide) (Nat.le_of_ble_eq_true rfl) (fun K hkl h hR => ?_)
  subst hkl
  have h : Cx K E cX6_in 3 RX6 0 0 := h
  show GG K E (sM σ M) 0 [(0, .int x), (1, .int lo), (2, .int hi)] []
  refine g_iload_n h (q := 0) 0 dX6_in_0 rfl ?_
  refine g_iload_n h (q := 1) 1 dX6_in_1 rfl ?_
  refine g_icmp_lt h 14 dX6_in_2 (by decide) (fun c1 => ?_) (fun c1 => ?_)
  · refine g_iconst h (v := 0) dX6_in_14 (by decide) ?_
    exact g_zret h hR dX6_in_15 (by decide) (show rI _ _ _ _ from ⟨by rw [show wi x lo hi = false by simp [wi, Int32.not_le.mpr c1]]; rfl, rfl⟩)
  · refine g_iload_n h (q := 0) 0 dX6_in_5 rfl ?_
    refine g_iload_n h (q := 2) 2 dX6_in_6 rfl ?_
    refine g_icmp_gt h 14 dX6_in_7 (by decide) (fun c2 => ?_) (fun c2 => ?_)
    · refine g_iconst h (v := 0) dX6_in_14 (by decide) ?_
      exact g_zret h hR dX6_in_15 (by decide) (show rI _ _ _ _ from ⟨by rw [show wi x lo hi = false by simp [wi, i_le c1, Int32.not_le.mpr c2]]; rfl, rfl⟩)
    · refine g_iconst h (v := 1) dX6_in_10 (by decide) ?_
      refine g_goto h 15 dX6_in_11 (by decide) ?_
      exact g_zret h hR dX6_in_15 (by decide) (show rI _ _ _ _ from ⟨by rw [show wi x lo hi = true by simp [wi, i_le c1, i_le c2]]; rfl, rfl⟩)
set_option maxHeartbeats 4000000 in
theorem c_X6_isLine (l : Launch) {E : EnvT} (hE : EOK E) {σ : ST} {M : MT} (x : Int32) : Con l E yX6_isLine cX6_isLine 1 (some .boolean) 1 22 [.int x] (sM σ M) (rI (bI (wi x 0 7)) (sM σ M)) := by
  refine con_intro hE (by decide) (Nat.le_of_ble_eq_true rfl) (fun K hkl h hR => ?_)
  subst hkl
  have h : Cx K E cX6_isLine 1 RX6 1 22 := h
  show GG K E (sM σ M) 0 [(0, .int x)] []
  refine g_iload_n h (q := 0) 0 dX6_isLine_0 rfl ?_
  refine g_iconst h (v := 0) dX6_isLine_1 (by decide) ?_
  refine g_bipush h (v := 7) dX6_isLine_2 (by decide) ?_
  refine g_callS h ms_X6_in (As := [.int x, .int 0, .int 7]) (c_X6_in (kl K) hE (σ := σ) (M := M) x 0 7) ml_X6_63 rfl (by decide) (by decide) rfl (Nat.le_of_ble_eq_true rfl) dX6_isLine_4 (fun v σ9 h9 => ?_)
  rw [h9.1, h9.2]; clear h9
  exact g_zret h hR dX6_isLine_7 (bI_nar _) (⟨rfl, rfl⟩)
set_option maxHeartbeats 4000000 in
theorem c_X6_of (l : Launch) {E : EnvT} (hE : EOK E) {σ : ST} {M : MT} (n w : Nat) (hn : n < 64) (hw : w < 8) : Con l E yX6_of cX6_of 3 (some .int) 0 0 [.ref (ad E 11 0 0), .int (nI (n)), .int (nI (w))] (sM σ M) (rI (mOf M n w) (sM σ M)) := by
  refine con_intro hE (by decide) (Nat.le_of_ble_eq_true rfl) (fun K hkl h hR => ?_)
  subst hkl
  have h : Cx K E cX6_of 3 RX6 0 0 := h
  show GG K E (sM σ M) 0 [(0, .ref (ad E 11 0 0)), (1, .int (nI (n))), (2, .int (nI (w)))] []
  refine g_aload_n h (q := 0) 0 dX6_of_0 rfl ?_
  refine g_gMa h 0 (by decide) fl_X6_19 dX6_of_1 ?_
  refine g_bipush h (v := 8) dX6_of_4 (by decide) ?_
  refine g_iload_n h (q := 1) 1 dX6_of_6 rfl ?_
  refine g_imul h dX6_of_7 ?_
  refine g_is (nI (8 * n)) (pk_mul 8 n) ?_
  refine g_iload_n h (q := 2) 2 dX6_of_8 rfl ?_
  refine g_iadd h dX6_of_9 ?_
  refine g_is (nI ((8 * n) + w)) (nI_add (8 * n) w) ?_
  refine g_lM h 0 (by decide) ((8 * n) + w) (show (8 * n) + w < 512 by omega) dX6_of_10 ?_
  exact g_iret h hR dX6_of_11 (show rI _ _ _ _ from ⟨rfl, rfl⟩)
set_option maxHeartbeats 4000000 in
theorem c_X6_sets (l : Launch) {E : EnvT} (hE : EOK E) {σ : ST} {M : MT} (n w : Nat) (hn : n < 64) (hw : w < 8) (v : Int32) : Con l E yX6_sets cX6_sets 4 none 0 0 [.ref (ad E 11 0 0), .int (nI (n)), .int (nI (w)), .int v] (sM σ M) (rV (sM σ (mSet M n w v))) := by
  refine con_intro hE (by decide) (Nat.le_of_ble_eq_true rfl) (fun K hkl h hR => ?_)
  subst hkl
  have h : Cx K E cX6_sets 4 RX6 0 0 := h
  show GG K E (sM σ M) 0 [(0, .ref (ad E 11 0 0)), (1, .int (nI (n))), (2, .int (nI (w))), (3, .int v)] []
  refine g_aload_n h (q := 0) 0 dX6_sets_0 rfl ?_
  refine g_gMa h 0 (by decide) fl_X6_19 dX6_sets_1 ?_
  refine g_bipush h (v := 8) dX6_sets_4 (by decide) ?_
  refine g_iload_n h (q := 1) 1 dX6_sets_6 rfl ?_
  refine g_imul h dX6_sets_7 ?_
  refine g_is (nI (8 * n)) (pk_mul 8 n) ?_
  refine g_iload_n h (q := 2) 2 dX6_sets_8 rfl ?_
  refine g_iadd h dX6_sets_9 ?_
  refine g_is (nI ((8 * n) + w)) (nI_add (8 * n) w) ?_
  refine g_iload_n h (q := 3) 3 dX6_sets_10 rfl ?_
  refine g_sA h 0 (by decide) ((8 * n) + w) (show (8 * n) + w < 512 by omega) dX6_sets_11 (fun M1 hM1 => ?_)
  exact g_vret h hR dX6_sets_12 (show rV _ _ _ from ⟨rfl, by rw [hM1]; rfl⟩)
def mAt (M : MT) (line : Int32) (k : Nat) : Bool := decide (mOf M k 0 = 0) && decide (mOf M k 1 = line)
def mAtL (M : MT) (line : Int32) : Int32 := findN (mAt M line) (M.2.1 0) 0
def mAh (M : MT) (a b : Nat) : Bool := if mOf M a 3 ≠ mOf M b 3 then decide (mOf M b 3 < mOf M a 3) else decide (a < b)
def mSo (M : MT) (a b : Nat) : Bool := if mOf M a 2 ≠ mOf M b 2 then decide (mOf M a 2 < mOf M b 2) else mAh M a b
def mIn (M : MT) (n : Nat) : Bool := decide (mOf M n 0 = 0) || decide (mOf M n 0 = 1)
def ctL (p : Nat → Bool) : Nat → Nat → Nat → Nat
  | 0, _, c => c
  | m + 1, k, c => ctL p m (k + 1) (c + (if p k then 1 else 0))
def mCt (M : MT) (a : Int32) : Nat := ctL (fun k => decide (mOf M k 0 = a)) (M.2.1 0) 0 0
set_option maxHeartbeats 4000000 in
theorem l_X6_atLine {K : KX} {E : EnvT} (hE : EOK E) (h : Cx K E cX6_atLine 3 RX6 1 22) {σ : ST} {M : MT} {post : Option Value → ST → Prop} (hR : Rx K E (some .int) post) (hM : M.2.1 0 ≤ 64) (line : Int32) : ∀ m k, k + m = M.2.1 0 → post (some (.int (findN (mAt M line) m k))) (sM σ M) → GG K E (sM σ M) 2 [(0, .ref (ad E 11 0 0)), (1, .int line), (2, .int (nI k))] [] := by
  intro m
  induction m with
  | zero =>
    intro k hk hp
    refine g_iload_n h (q := 2) 2 dX6_atLine_2 rfl ?_
    refine g_aload_n h (q := 0) 0 dX6_atLine_3 rfl ?_
    refine g_gMn h 0 (by decide) fl_X6_50 dX6_atLine_4 ?_
    refine g_ncmp_ge h (a := k) (b := M.2.1 0) 37 dX6_atLine_7 (by decide) (by omega) (by omega) (fun c1 => ?_) (fun c1 => ?_)
    · refine g_bipush h (v := (-9)) dX6_atLine_37 (by decide) ?_
      exact g_iret h hR dX6_atLine_39 (hp)
    · exfalso; omega
  | succ m ih =>
    intro k hk hp
    refine g_iload_n h (q := 2) 2 dX6_atLine_2 rfl ?_
    refine g_aload_n h (q := 0) 0 dX6_atLine_3 rfl ?_
    refine g_gMn h 0 (by decide) fl_X6_50 dX6_atLine_4 ?_
    refine g_ncmp_ge h (a := k) (b := M.2.1 0) 37 dX6_atLine_7 (by decide) (by omega) (by omega) (fun c1 => ?_) (fun c1 => ?_)
    · exfalso; omega
    · refine g_aload_n h (q := 0) 0 dX6_atLine_10 rfl ?_
      refine g_iload_n h (q := 2) 2 dX6_atLine_11 rfl ?_
      refine g_iconst h (v := 0) dX6_atLine_12 (by decide) ?_
      refine g_callV h mv_X6_of 11 0 0 ⟨rfl, rfl⟩ rfl rfl (As := [.int (nI (k)), .int 0]) (c_X6_of (kl K) hE (σ := σ) (M := M) (k) 0 (by omega) (by decide)) ml_X6_70 rfl (by decide) (by decide) rfl (Nat.le_of_ble_eq_true rfl) dX6_atLine_13 (fun v σ9 h9 => ?_)
      rw [h9.1, h9.2]; clear h9
      refine g_if_ne h 31 dX6_atLine_16 (by decide) (fun c2 => ?_) (fun c2 => ?_)
      · refine g_iinc h (q := 2) (v := nI (k + 1)) 2 [(0, .ref (ad E 11 0 0)), (1, .int line), (2, .int (nI (k + 1)))] dX6_atLine_31 rfl (nI_inc k 1) (by decide) rfl ?_
        refine g_goto h 2 dX6_atLine_34 (by decide) ?_
        exact ih (k + 1) (by omega) (by have e : mAt M line k = false := (by simp [mAt, c2]); simpa [findN, e] using hp)
      · refine g_aload_n h (q := 0) 0 dX6_atLine_19 rfl ?_
        refine g_iload_n h (q := 2) 2 dX6_atLine_20 rfl ?_
        refine g_iconst h (v := 1) dX6_atLine_21 (by decide) ?_
        refine g_callV h mv_X6_of 11 0 0 ⟨rfl, rfl⟩ rfl rfl (As := [.int (nI (k)), .int 1]) (c_X6_of (kl K) hE (σ := σ) (M := M) (k) 1 (by omega) (by decide)) ml_X6_70 rfl (by decide) (by decide) rfl (Nat.le_of_ble_eq_true rfl) dX6_atLine_22 (fun v σ9 h9 => ?_)
        rw [h9.1, h9.2]; clear h9
        refine g_iload_n h (q := 1) 1 dX6_atLine_25 rfl ?_
        refine g_icmp_ne h 31 dX6_atLine_26 (by decide) (fun c3 => ?_) (fun c3 => ?_)
        · refine g_iinc h (q := 2) (v := nI (k + 1)) 2 [(0, .ref (ad E 11 0 0)), (1, .int line), (2, .int (nI (k + 1)))] dX6_atLine_31 rfl (nI_inc k 1) (by decide) rfl ?_
          refine g_goto h 2 dX6_atLine_34 (by decide) ?_
          exact ih (k + 1) (by omega) (by have e : mAt M line k = false := (by simp [mAt, c2, c3]); simpa [findN, e] using hp)
        · refine g_iload_n h (q := 2) 2 dX6_atLine_29 rfl ?_
          exact g_iret h hR dX6_atLine_30 (by
      have e : mAt M line k = true := by simp [mAt, c2, c3]
      simpa [findN, e] using hp)
set_option maxHeartbeats 4000000 in
theorem c_X6_atLine (l : Launch) {E : EnvT} (hE : EOK E) {σ : ST} {M : MT} (hM : M.2.1 0 ≤ 64) (line : Int32) : Con l E yX6_atLine cX6_atLine 3 (some .int) 1 22 [.ref (ad E 11 0 0), .int line] (sM σ M) (rI (mAtL M line) (sM σ M)) := by
  refine con_intro hE (by decide) (Nat.le_of_ble_eq_true rfl) (fun K hkl h hR => ?_)
  subst hkl
  have h : Cx K E cX6_atLine 3 RX6 1 22 := h
  show GG K E (sM σ M) 0 [(0, .ref (ad E 11 0 0)), (1, .int line)] []
  refine g_iconst h (v := 0) dX6_atLine_0 (by decide) ?_
  refine g_istore_n h (q := 2) [(0, .ref (ad E 11 0 0)), (1, .int line), (2, .int 0)] dX6_atLine_1 (by decide) rfl ?_
  exact l_X6_atLine hE h hR hM line _ 0 (Nat.zero_add _) ⟨rfl, rfl⟩
set_option maxHeartbeats 4000000 in
theorem c_X6_isAhead (l : Launch) {E : EnvT} (hE : EOK E) {σ : ST} {M : MT} (a b : Nat) (ha : a < 64) (hb : b < 64) : Con l E yX6_isAhead cX6_isAhead 3 (some .boolean) 1 22 [.ref (ad E 11 0 0), .int (nI (a)), .int (nI (b))] (sM σ M) (rI (bI (mAh M a b)) (sM σ M)) := by
  refine con_intro hE (by decide) (Nat.le_of_ble_eq_true rfl) (fun K hkl h hR => ?_)
  subst hkl
  have h : Cx K E cX6_isAhead 3 RX6 1 22 := h
  show GG K E (sM σ M) 0 [(0, .ref (ad E 11 0 0)), (1, .int (nI (a))), (2, .int (nI (b)))] []
  refine g_aload_n h (q := 0) 0 dX6_isAhead_0 rfl ?_
  refine g_iload_n h (q := 1) 1 dX6_isAhead_1 rfl ?_
  refine g_iconst h (v := 3) dX6_isAhead_2 (by decide) ?_
  refine g_callV h mv_X6_of 11 0 0 ⟨rfl, rfl⟩ rfl rfl (As := [.int (nI (a)), .int 3]) (c_X6_of (kl K) hE (σ := σ) (M := M) (a) 3 (ha) (by decide)) ml_X6_70 rfl (by decide) (by decide) rfl (Nat.le_of_ble_eq_true rfl) dX6_isAhead_3 (fun v σ9 h9 => ?_)
  rw [h9.1, h9.2]; clear h9
  refine g_aload_n h (q := 0) 0 dX6_isAhead_6 rfl ?_
  refine g_iload_n h (q := 2) 2 dX6_isAhead_7 rfl ?_
  refine g_iconst h (v := 3) dX6_isAhead_8 (by decide) ?_
  refine g_callV h mv_X6_of 11 0 0 ⟨rfl, rfl⟩ rfl rfl (As := [.int (nI (b)), .int 3]) (c_X6_of (kl K) hE (σ := σ) (M := M) (b) 3 (hb) (by decide)) ml_X6_70 rfl (by decide) (by decide) rfl (Nat.le_of_ble_eq_true rfl) dX6_isAhead_9 (fun v σ9 h9 => ?_)
  rw [h9.1, h9.2]; clear h9
  refine g_icmp_eq h 38 dX6_isAhead_12 (by decide) (fun c1 => ?_) (fun c1 => ?_)
  · refine g_iload_n h (q := 1) 1 dX6_isAhead_38 rfl ?_
    refine g_iload_n h (q := 2) 2 dX6_isAhead_39 rfl ?_
    refine g_ncmp_ge h (a := a) (b := b) 47 dX6_isAhead_40 (by decide) (by omega) (by omega) (fun c2 => ?_) (fun c2 => ?_)
    · refine g_iconst h (v := 0) dX6_isAhead_47 (by decide) ?_
      exact g_zret h hR dX6_isAhead_48 (by decide) (show rI _ _ _ _ from ⟨by rw [show mAh M a b = false by simp [mAh, i_nlt, i_lt, Nat.not_lt, c1, c2]]; rfl, rfl⟩)
    · refine g_iconst h (v := 1) dX6_isAhead_43 (by decide) ?_
      refine g_goto h 48 dX6_isAhead_44 (by decide) ?_
      exact g_zret h hR dX6_isAhead_48 (by decide) (show rI _ _ _ _ from ⟨by rw [show mAh M a b = true by simp [mAh, i_nlt, i_lt, Nat.not_lt, c1, c2]]; rfl, rfl⟩)
  · refine g_aload_n h (q := 0) 0 dX6_isAhead_15 rfl ?_
    refine g_iload_n h (q := 1) 1 dX6_isAhead_16 rfl ?_
    refine g_iconst h (v := 3) dX6_isAhead_17 (by decide) ?_
    refine g_callV h mv_X6_of 11 0 0 ⟨rfl, rfl⟩ rfl rfl (As := [.int (nI (a)), .int 3]) (c_X6_of (kl K) hE (σ := σ) (M := M) (a) 3 (ha) (by decide)) ml_X6_70 rfl (by decide) (by decide) rfl (Nat.le_of_ble_eq_true rfl) dX6_isAhead_18 (fun v σ9 h9 => ?_)
    rw [h9.1, h9.2]; clear h9
    refine g_aload_n h (q := 0) 0 dX6_isAhead_21 rfl ?_
    refine g_iload_n h (q := 2) 2 dX6_isAhead_22 rfl ?_
    refine g_iconst h (v := 3) dX6_isAhead_23 (by decide) ?_
    refine g_callV h mv_X6_of 11 0 0 ⟨rfl, rfl⟩ rfl rfl (As := [.int (nI (b)), .int 3]) (c_X6_of (kl K) hE (σ := σ) (M := M) (b) 3 (hb) (by decide)) ml_X6_70 rfl (by decide) (by decide) rfl (Nat.le_of_ble_eq_true rfl) dX6_isAhead_24 (fun v σ9 h9 => ?_)
    rw [h9.1, h9.2]; clear h9
    refine g_icmp_le h 34 dX6_isAhead_27 (by decide) (fun c3 => ?_) (fun c3 => ?_)
    · refine g_iconst h (v := 0) dX6_isAhead_34 (by decide) ?_
      refine g_goto h 48 dX6_isAhead_35 (by decide) ?_
      exact g_zret h hR dX6_isAhead_48 (by decide) (show rI _ _ _ _ from ⟨by rw [show mAh M a b = false by simp [mAh, i_nlt, i_lt, Nat.not_lt, c1, c3]]; rfl, rfl⟩)
    · refine g_iconst h (v := 1) dX6_isAhead_30 (by decide) ?_
      refine g_goto h 48 dX6_isAhead_31 (by decide) ?_
      exact g_zret h hR dX6_isAhead_48 (by decide) (show rI _ _ _ _ from ⟨by rw [show mAh M a b = true by simp [mAh, i_nlt, i_lt, Nat.not_lt, c1, c3]]; rfl, rfl⟩)
set_option maxHeartbeats 4000000 in
theorem c_X6_isIn (l : Launch) {E : EnvT} (hE : EOK E) {σ : ST} {M : MT} (a : Nat) (ha : a < 64) : Con l E yX6_isIn cX6_isIn 2 (some .boolean) 1 22 [.ref (ad E 11 0 0), .int (nI (a))] (sM σ M) (rI (bI (mIn M a)) (sM σ M)) := by
  refine con_intro hE (by decide) (Nat.le_of_ble_eq_true rfl) (fun K hkl h hR => ?_)
  subst hkl
  have h : Cx K E cX6_isIn 2 RX6 1 22 := h
  show GG K E (sM σ M) 0 [(0, .ref (ad E 11 0 0)), (1, .int (nI (a)))] []
  refine g_aload_n h (q := 0) 0 dX6_isIn_0 rfl ?_
  refine g_iload_n h (q := 1) 1 dX6_isIn_1 rfl ?_
  refine g_iconst h (v := 0) dX6_isIn_2 (by decide) ?_
  refine g_callV h mv_X6_of 11 0 0 ⟨rfl, rfl⟩ rfl rfl (As := [.int (nI (a)), .int 0]) (c_X6_of (kl K) hE (σ := σ) (M := M) (a) 0 (ha) (by decide)) ml_X6_70 rfl (by decide) (by decide) rfl (Nat.le_of_ble_eq_true rfl) dX6_isIn_3 (fun v σ9 h9 => ?_)
  rw [h9.1, h9.2]; clear h9
  refine g_if_eq h 19 dX6_isIn_6 (by decide) (fun c1 => ?_) (fun c1 => ?_)
  · refine g_iconst h (v := 1) dX6_isIn_19 (by decide) ?_
    refine g_goto h 24 dX6_isIn_20 (by decide) ?_
    exact g_zret h hR dX6_isIn_24 (by decide) (show rI _ _ _ _ from ⟨by rw [show mIn M a = true by simp [mIn, i_nlt, i_lt, Nat.not_lt, c1]]; rfl, rfl⟩)
  · refine g_aload_n h (q := 0) 0 dX6_isIn_9 rfl ?_
    refine g_iload_n h (q := 1) 1 dX6_isIn_10 rfl ?_
    refine g_iconst h (v := 0) dX6_isIn_11 (by decide) ?_
    refine g_callV h mv_X6_of 11 0 0 ⟨rfl, rfl⟩ rfl rfl (As := [.int (nI (a)), .int 0]) (c_X6_of (kl K) hE (σ := σ) (M := M) (a) 0 (ha) (by decide)) ml_X6_70 rfl (by decide) (by decide) rfl (Nat.le_of_ble_eq_true rfl) dX6_isIn_12 (fun v σ9 h9 => ?_)
    rw [h9.1, h9.2]; clear h9
    refine g_iconst h (v := 1) dX6_isIn_15 (by decide) ?_
    refine g_icmp_ne h 23 dX6_isIn_16 (by decide) (fun c2 => ?_) (fun c2 => ?_)
    · refine g_iconst h (v := 0) dX6_isIn_23 (by decide) ?_
      exact g_zret h hR dX6_isIn_24 (by decide) (show rI _ _ _ _ from ⟨by rw [show mIn M a = false by simp [mIn, i_nlt, i_lt, Nat.not_lt, c1, c2]]; rfl, rfl⟩)
    · refine g_iconst h (v := 1) dX6_isIn_19 (by decide) ?_
      refine g_goto h 24 dX6_isIn_20 (by decide) ?_
      exact g_zret h hR dX6_isIn_24 (by decide) (show rI _ _ _ _ from ⟨by rw [show mIn M a = true by simp [mIn, i_nlt, i_lt, Nat.not_lt, c1, c2]]; rfl, rfl⟩)
set_option maxHeartbeats 4000000 in
theorem c_X6_isSooner (l : Launch) {E : EnvT} (hE : EOK E) {σ : ST} {M : MT} (a b : Nat) (ha : a < 64) (hb : b < 64) : Con l E yX6_isSooner cX6_isSooner 3 (some .boolean) 2 44 [.ref (ad E 11 0 0), .int (nI (a)), .int (nI (b))] (sM σ M) (rI (bI (mSo M a b)) (sM σ M)) := by
  refine con_intro hE (by decide) (Nat.le_of_ble_eq_true rfl) (fun K hkl h hR => ?_)
  subst hkl
  have h : Cx K E cX6_isSooner 3 RX6 2 44 := h
  show GG K E (sM σ M) 0 [(0, .ref (ad E 11 0 0)), (1, .int (nI (a))), (2, .int (nI (b)))] []
  refine g_aload_n h (q := 0) 0 dX6_isSooner_0 rfl ?_
  refine g_iload_n h (q := 1) 1 dX6_isSooner_1 rfl ?_
  refine g_iconst h (v := 2) dX6_isSooner_2 (by decide) ?_
  refine g_callV h mv_X6_of 11 0 0 ⟨rfl, rfl⟩ rfl rfl (As := [.int (nI (a)), .int 2]) (c_X6_of (kl K) hE (σ := σ) (M := M) (a) 2 (ha) (by decide)) ml_X6_70 rfl (by decide) (by decide) rfl (Nat.le_of_ble_eq_true rfl) dX6_isSooner_3 (fun v σ9 h9 => ?_)
  rw [h9.1, h9.2]; clear h9
  refine g_aload_n h (q := 0) 0 dX6_isSooner_6 rfl ?_
  refine g_iload_n h (q := 2) 2 dX6_isSooner_7 rfl ?_
  refine g_iconst h (v := 2) dX6_isSooner_8 (by decide) ?_
  refine g_callV h mv_X6_of 11 0 0 ⟨rfl, rfl⟩ rfl rfl (As := [.int (nI (b)), .int 2]) (c_X6_of (kl K) hE (σ := σ) (M := M) (b) 2 (hb) (by decide)) ml_X6_70 rfl (by decide) (by decide) rfl (Nat.le_of_ble_eq_true rfl) dX6_isSooner_9 (fun v σ9 h9 => ?_)
  rw [h9.1, h9.2]; clear h9
  refine g_icmp_eq h 38 dX6_isSooner_12 (by decide) (fun c1 => ?_) (fun c1 => ?_)
  · refine g_aload_n h (q := 0) 0 dX6_isSooner_38 rfl ?_
    refine g_iload_n h (q := 1) 1 dX6_isSooner_39 rfl ?_
    refine g_iload_n h (q := 2) 2 dX6_isSooner_40 rfl ?_
    refine g_callV h mv_X6_isAhead 11 0 0 ⟨rfl, rfl⟩ rfl rfl (As := [.int (nI (a)), .int (nI (b))]) (c_X6_isAhead (kl K) hE (σ := σ) (M := M) a b ha hb) ml_X6_86 rfl (by decide) (by decide) rfl (Nat.le_of_ble_eq_true rfl) dX6_isSooner_41 (fun v σ9 h9 => ?_)
    rw [h9.1, h9.2]; clear h9
    exact g_zret h hR dX6_isSooner_44 (by first | exact bI_nar _ | decide) (show rI _ _ _ _ from ⟨by rw [show mSo M a b = mAh M a b by simp [mSo, c1]], rfl⟩)
  · refine g_aload_n h (q := 0) 0 dX6_isSooner_15 rfl ?_
    refine g_iload_n h (q := 1) 1 dX6_isSooner_16 rfl ?_
    refine g_iconst h (v := 2) dX6_isSooner_17 (by decide) ?_
    refine g_callV h mv_X6_of 11 0 0 ⟨rfl, rfl⟩ rfl rfl (As := [.int (nI (a)), .int 2]) (c_X6_of (kl K) hE (σ := σ) (M := M) (a) 2 (ha) (by decide)) ml_X6_70 rfl (by decide) (by decide) rfl (Nat.le_of_ble_eq_true rfl) dX6_isSooner_18 (fun v σ9 h9 => ?_)
    rw [h9.1, h9.2]; clear h9
    refine g_aload_n h (q := 0) 0 dX6_isSooner_21 rfl ?_
    refine g_iload_n h (q := 2) 2 dX6_isSooner_22 rfl ?_
    refine g_iconst h (v := 2) dX6_isSooner_23 (by decide) ?_
    refine g_callV h mv_X6_of 11 0 0 ⟨rfl, rfl⟩ rfl rfl (As := [.int (nI (b)), .int 2]) (c_X6_of (kl K) hE (σ := σ) (M := M) (b) 2 (hb) (by decide)) ml_X6_70 rfl (by decide) (by decide) rfl (Nat.le_of_ble_eq_true rfl) dX6_isSooner_24 (fun v σ9 h9 => ?_)
    rw [h9.1, h9.2]; clear h9
    refine g_icmp_ge h 34 dX6_isSooner_27 (by decide) (fun c2 => ?_) (fun c2 => ?_)
    · refine g_iconst h (v := 0) dX6_isSooner_34 (by decide) ?_
      refine g_goto h 44 dX6_isSooner_35 (by decide) ?_
      exact g_zret h hR dX6_isSooner_44 (by first | exact bI_nar _ | decide) (show rI _ _ _ _ from ⟨by rw [show mSo M a b = false by simp [mSo, i_nlt, i_lt, Nat.not_lt, c1, c2]]; rfl, rfl⟩)
    · refine g_iconst h (v := 1) dX6_isSooner_30 (by decide) ?_
      refine g_goto h 44 dX6_isSooner_31 (by decide) ?_
      exact g_zret h hR dX6_isSooner_44 (by first | exact bI_nar _ | decide) (show rI _ _ _ _ from ⟨by rw [show mSo M a b = true by simp [mSo, i_nlt, i_lt, Nat.not_lt, c1, c2]]; rfl, rfl⟩)
set_option maxHeartbeats 4000000 in
theorem l_X6_manyAt {K : KX} {E : EnvT} (hE : EOK E) (h : Cx K E cX6_manyAt 4 RX6 1 22) {σ : ST} {M : MT} {post : Option Value → ST → Prop} (hR : Rx K E (some .int) post) (hM : M.2.1 0 ≤ 64) (a : Int32) : ∀ m k c, k + m = M.2.1 0 → c ≤ k → post (some (.int (nI (ctL (fun k => decide (mOf M k 0 = a)) m k c)))) (sM σ M) → GG K E (sM σ M) 4 [(0, .ref (ad E 11 0 0)), (1, .int a), (2, .int (nI c)), (3, .int (nI k))] [] := by
  intro m
  induction m with
  | zero =>
    intro k c hk hc hp
    refine g_iload_n h (q := 3) 3 dX6_manyAt_4 rfl ?_
    refine g_aload_n h (q := 0) 0 dX6_manyAt_5 rfl ?_
    refine g_gMn h 0 (by decide) fl_X6_50 dX6_manyAt_6 ?_
    refine g_ncmp_ge h (a := k) (b := M.2.1 0) 36 dX6_manyAt_9 (by decide) (by omega) (by omega) (fun c1 => ?_) (fun c1 => ?_)
    · refine g_iload_n h (q := 2) 2 dX6_manyAt_36 rfl ?_
      exact g_iret h hR dX6_manyAt_37 (hp)
    · exfalso; omega
  | succ m ih =>
    intro k c hk hc hp
    refine g_iload_n h (q := 3) 3 dX6_manyAt_4 rfl ?_
    refine g_aload_n h (q := 0) 0 dX6_manyAt_5 rfl ?_
    refine g_gMn h 0 (by decide) fl_X6_50 dX6_manyAt_6 ?_
    refine g_ncmp_ge h (a := k) (b := M.2.1 0) 36 dX6_manyAt_9 (by decide) (by omega) (by omega) (fun c1 => ?_) (fun c1 => ?_)
    · exfalso; omega
    · refine g_iload_n h (q := 2) 2 dX6_manyAt_12 rfl ?_
      refine g_aload_n h (q := 0) 0 dX6_manyAt_13 rfl ?_
      refine g_iload_n h (q := 3) 3 dX6_manyAt_14 rfl ?_
      refine g_iconst h (v := 0) dX6_manyAt_15 (by decide) ?_
      refine g_callV h mv_X6_of 11 0 0 ⟨rfl, rfl⟩ rfl rfl (As := [.int (nI (k)), .int 0]) (c_X6_of (kl K) hE (σ := σ) (M := M) (k) 0 (by omega) (by decide)) ml_X6_70 rfl (by decide) (by decide) rfl (Nat.le_of_ble_eq_true rfl) dX6_manyAt_16 (fun v σ9 h9 => ?_)
      rw [h9.1, h9.2]; clear h9
      refine g_iload_n h (q := 1) 1 dX6_manyAt_19 rfl ?_
      refine g_icmp_ne h 27 dX6_manyAt_20 (by decide) (fun c2 => ?_) (fun c2 => ?_)
      · refine g_iconst h (v := 0) dX6_manyAt_27 (by decide) ?_
        refine g_iadd h dX6_manyAt_28 ?_
        refine g_is (nI (c + 0)) (nI_add c 0) ?_
        refine g_istore_n h (q := 2) [(0, .ref (ad E 11 0 0)), (1, .int a), (2, .int (nI (c + 0))), (3, .int (nI (k)))] dX6_manyAt_29 (by decide) rfl ?_
        refine g_iinc h (q := 3) (v := nI (k + 1)) 3 [(0, .ref (ad E 11 0 0)), (1, .int a), (2, .int (nI (c + 0))), (3, .int (nI (k + 1)))] dX6_manyAt_30 rfl (nI_inc k 1) (by decide) rfl ?_
        refine g_goto h 4 dX6_manyAt_33 (by decide) ?_
        exact ih (k + 1) _ (by omega) (by omega) (by simpa [ctL, c2] using hp)
      · refine g_iconst h (v := 1) dX6_manyAt_23 (by decide) ?_
        refine g_goto h 28 dX6_manyAt_24 (by decide) ?_
        refine g_iadd h dX6_manyAt_28 ?_
        refine g_is (nI (c + 1)) (nI_add c 1) ?_
        refine g_istore_n h (q := 2) [(0, .ref (ad E 11 0 0)), (1, .int a), (2, .int (nI (c + 1))), (3, .int (nI (k)))] dX6_manyAt_29 (by decide) rfl ?_
        refine g_iinc h (q := 3) (v := nI (k + 1)) 3 [(0, .ref (ad E 11 0 0)), (1, .int a), (2, .int (nI (c + 1))), (3, .int (nI (k + 1)))] dX6_manyAt_30 rfl (nI_inc k 1) (by decide) rfl ?_
        refine g_goto h 4 dX6_manyAt_33 (by decide) ?_
        exact ih (k + 1) _ (by omega) (by omega) (by simpa [ctL, c2] using hp)
set_option maxHeartbeats 4000000 in
theorem c_X6_manyAt (l : Launch) {E : EnvT} (hE : EOK E) {σ : ST} {M : MT} (hM : M.2.1 0 ≤ 64) (a : Int32) : Con l E yX6_manyAt cX6_manyAt 4 (some .int) 1 22 [.ref (ad E 11 0 0), .int a] (sM σ M) (rI (nI (mCt M a)) (sM σ M)) := by
  refine con_intro hE (by decide) (Nat.le_of_ble_eq_true rfl) (fun K hkl h hR => ?_)
  subst hkl
  have h : Cx K E cX6_manyAt 4 RX6 1 22 := h
  show GG K E (sM σ M) 0 [(0, .ref (ad E 11 0 0)), (1, .int a)] []
  refine g_iconst h (v := 0) dX6_manyAt_0 (by decide) ?_
  refine g_istore_n h (q := 2) [(0, .ref (ad E 11 0 0)), (1, .int a), (2, .int 0)] dX6_manyAt_1 (by decide) rfl ?_
  refine g_iconst h (v := 0) dX6_manyAt_2 (by decide) ?_
  refine g_istore_n h (q := 3) [(0, .ref (ad E 11 0 0)), (1, .int a), (2, .int 0), (3, .int 0)] dX6_manyAt_3 (by decide) rfl ?_
  exact l_X6_manyAt hE h hR hM a _ 0 0 (Nat.zero_add _) (Nat.le_refl _) ⟨rfl, rfl⟩
end
section
def msL (M : MT) : Nat → Nat → RowT → RowT
  | 0, _, w => w
  | m + 1, k, w => msL M m (k + 1) (if mIn M k then rIns (fun y => mSo M k y) w k else w)
/-- order and sorted as a row -/
def mR (M : MT) (w : RowT) : MT := (M.1, va_up M.2.1 3 w.2, M.2.2.1, w.1)
def mSort (M : MT) : RowT := msL M (M.2.1 0) 0 (M.2.2.2, 0)
theorem rIns_sz (lt : Nat → Bool) (w : RowT) (x : Nat) : (rIns lt w x).2 ≤ w.2 + 1 := by
  unfold rIns
  by_cases h : w.2 < 64
  · rw [if_pos h]; exact Nat.le_refl _
  · rw [if_neg h]; exact Nat.le_succ _
theorem msL_ok {M : MT} : ∀ (m k : Nat) (w : RowT), ROK k w → k + m ≤ 64 → ROK (k + m) (msL M m k w) := by
  intro m
  induction m with
  | zero => intro k w h _; exact h
  | succ m ih =>
    intro k w h hk
    have : k + (m + 1) = (k + 1) + m := by omega
    rw [this]
    refine ih (k + 1) _ ?_ (by omega)
    by_cases e : mIn M k = true
    · rw [if_pos e]; exact rIns_ok (h.mono (by omega)) (by omega)
    · rw [if_neg e]; exact h.mono (by omega)
theorem mSort_ok {M : MT} (hM : M.2.1 0 ≤ 64) : ROK (M.2.1 0) (mSort M) := by
  have := msL_ok (M := M) (M.2.1 0) 0 (M.2.2.2, 0) ⟨Nat.zero_le _, fun t h => absurd h (Nat.not_lt_zero t)⟩ (by omega)
  rwa [Nat.zero_add] at this
theorem mOf_mR (M : MT) (w : RowT) (n k : Nat) : mOf (mR M w) n k = mOf M n k := rfl
theorem mR_mR (M : MT) (w v : RowT) : mR (mR M w) v = mR M v := by simp [mR, bx_uu]
theorem mR_0 (M : MT) (w : RowT) : (mR M w).2.1 0 = M.2.1 0 := by simp [mR, va_up]
theorem mR_3 (M : MT) (w : RowT) : (mR M w).2.1 3 = w.2 := by simp [mR, va_up]
theorem mR_o (M : MT) (w : RowT) : (mR M w).2.2.2 = w.1 := rfl
set_option maxHeartbeats 4000000 in
theorem i_X6_sorts {K : KX} {E : EnvT} (hE : EOK E) (h : Cx K E cX6_sorts 3 RX6 3 66) {σ : ST} (M : MT) (n : Nat) (hn : n < 64) (sz : Nat) (hsz : sz < 64) : ∀ k g, k ≤ sz → (∀ t, t < k → g t < 64) → (∀ at1, at1 < 65 → GG K E (sM σ (mR M (va_up (insL (fun y => mSo M n y) g k).1 (insL (fun y => mSo M n y) g k).2 n, sz + 1))) 85 [(0, .ref (ad E 11 0 0)), (1, .int (nI n)), (2, .int (nI at1))] []) → GG K E (sM σ (mR M (g, sz))) 28 [(0, .ref (ad E 11 0 0)), (1, .int (nI n)), (2, .int (nI k))] [] := by
  intro k
  induction k with
  | zero =>
    intro g hk hg hp
    refine g_iload_n h (q := 2) 2 dX6_sorts_28 rfl ?_
    refine g_nif_le h (a := 0) 68 dX6_sorts_29 (by decide) (by omega) (fun c1 => ?_) (fun c1 => ?_)
    · refine g_aload_n h (q := 0) 0 dX6_sorts_68 rfl ?_
      refine g_gMo h fl_X6_29 dX6_sorts_69 ?_
      refine g_iload_n h (q := 2) 2 dX6_sorts_72 rfl ?_
      refine g_iload_n h (q := 1) 1 dX6_sorts_73 rfl ?_
      refine g_sO h (0) (by omega) (m := n) dX6_sorts_74 (fun M2 hM2 => ?_)
      refine g_aload_n h (q := 0) 0 dX6_sorts_75 rfl ?_
      refine g_dup h dX6_sorts_76 rfl ?_
      refine g_gMn h 3 (by decide) fl_X6_90 dX6_sorts_77 ?_
      refine g_is (nI (sz)) (by rw [hM2]; simp [mR, va_up]) ?_
      refine g_iconst h (v := 1) dX6_sorts_80 (by decide) ?_
      refine g_iadd h dX6_sorts_81 ?_
      refine g_is (nI (sz + 1)) (nI_add sz 1) ?_
      refine g_pMn h 3 (by decide) (m := sz + 1) fl_X6_90 dX6_sorts_82 (fun M3 hM3 => ?_)
      rw [show M3 = mR M (va_up g (0) n, sz + 1) by rw [hM3, hM2]; simp [mR, bx_uu]]
      have e : insL (fun y => mSo M n y) g 0 = (g, 0) := by simp [insL]
      rw [e] at hp
      exact hp _ (by omega)
    · exfalso; omega
  | succ k ih =>
    intro g hk hg hp
    refine g_iload_n h (q := 2) 2 dX6_sorts_28 rfl ?_
    refine g_nif_le h (a := k + 1) 68 dX6_sorts_29 (by decide) (by omega) (fun c1 => ?_) (fun c1 => ?_)
    · exfalso; omega
    · refine g_aload_n h (q := 0) 0 dX6_sorts_32 rfl ?_
      refine g_iload_n h (q := 1) 1 dX6_sorts_33 rfl ?_
      refine g_aload_n h (q := 0) 0 dX6_sorts_34 rfl ?_
      refine g_gMo h fl_X6_29 dX6_sorts_35 ?_
      refine g_iload_n h (q := 2) 2 dX6_sorts_38 rfl ?_
      refine g_iconst h (v := 1) dX6_sorts_39 (by decide) ?_
      refine g_isub h dX6_sorts_40 ?_
      refine g_is (nI ((k + 1) - 1)) (pk_sub (a := (k + 1)) (b := 1) (by omega)) ?_
      refine g_lO h ((k + 1) - 1) (by omega) dX6_sorts_41 ?_
      refine g_is (nI (g k)) (rfl) ?_
      refine g_callV h mv_X6_isSooner 11 0 0 ⟨rfl, rfl⟩ rfl rfl (As := [.int (nI (n)), .int (nI (g k))]) (c_X6_isSooner (kl K) hE (σ := σ) (M := (mR M (g, sz))) n (g k) hn (hg k (by omega))) ml_X6_96 rfl (by decide) (by decide) rfl (Nat.le_of_ble_eq_true rfl) dX6_sorts_42 (fun v σ9 h9 => ?_)
      rw [h9.1, h9.2]; clear h9
      rw [show mSo (mR M (g, sz)) n (g k) = mSo M n (g k) from rfl]
      refine g_if_eq h 68 dX6_sorts_45 (by decide) (fun c2 => ?_) (fun c2 => ?_)
      · refine g_aload_n h (q := 0) 0 dX6_sorts_68 rfl ?_
        refine g_gMo h fl_X6_29 dX6_sorts_69 ?_
        refine g_iload_n h (q := 2) 2 dX6_sorts_72 rfl ?_
        refine g_iload_n h (q := 1) 1 dX6_sorts_73 rfl ?_
        refine g_sO h (k + 1) (by omega) (m := n) dX6_sorts_74 (fun M1 hM1 => ?_)
        refine g_aload_n h (q := 0) 0 dX6_sorts_75 rfl ?_
        refine g_dup h dX6_sorts_76 rfl ?_
        refine g_gMn h 3 (by decide) fl_X6_90 dX6_sorts_77 ?_
        refine g_is (nI (sz)) (by rw [hM1]; simp [mR, va_up]) ?_
        refine g_iconst h (v := 1) dX6_sorts_80 (by decide) ?_
        refine g_iadd h dX6_sorts_81 ?_
        refine g_is (nI (sz + 1)) (nI_add sz 1) ?_
        refine g_pMn h 3 (by decide) (m := sz + 1) fl_X6_90 dX6_sorts_82 (fun M2 hM2 => ?_)
        rw [show M2 = mR M (va_up g (k + 1) n, sz + 1) by rw [hM2, hM1]; simp [mR, bx_uu]]
        have e : insL (fun y => mSo M n y) g ((k + 1)) = (g, k + 1) := by simp [insL, bI_0.mp c2]
        rw [e] at hp
        exact hp _ (by omega)
      · refine g_aload_n h (q := 0) 0 dX6_sorts_48 rfl ?_
        refine g_gMo h fl_X6_29 dX6_sorts_49 ?_
        refine g_iload_n h (q := 2) 2 dX6_sorts_52 rfl ?_
        refine g_aload_n h (q := 0) 0 dX6_sorts_53 rfl ?_
        refine g_gMo h fl_X6_29 dX6_sorts_54 ?_
        refine g_iload_n h (q := 2) 2 dX6_sorts_57 rfl ?_
        refine g_iconst h (v := 1) dX6_sorts_58 (by decide) ?_
        refine g_isub h dX6_sorts_59 ?_
        refine g_is (nI ((k + 1) - 1)) (pk_sub (a := (k + 1)) (b := 1) (by omega)) ?_
        refine g_lO h ((k + 1) - 1) (by omega) dX6_sorts_60 ?_
        refine g_is (nI (g k)) (rfl) ?_
        refine g_sO h (k + 1) (by omega) (m := g k) dX6_sorts_61 (fun M3 hM3 => ?_)
        refine g_iinc h (q := 2) (v := nI (k)) 2 [(0, .ref (ad E 11 0 0)), (1, .int (nI (n))), (2, .int (nI (k)))] dX6_sorts_62 rfl (nI_dec (k + 1) 1 (by omega)) (by decide) rfl ?_
        refine g_goto h 28 dX6_sorts_65 (by decide) ?_
        rw [show M3 = mR M (va_up g (k + 1) (g k), sz) by rw [hM3]; simp [mR]]
        refine ih _ (by omega) (fun t q => by rw [up_n (by omega)]; exact hg t (by omega)) ?_
        have e : insL (fun y => mSo M n y) g (k + 1) = insL (fun y => mSo M n y) (va_up g (k + 1) (g k)) k := by simp [insL, bI_1.mp c2]
        rw [e] at hp
        exact hp
set_option maxHeartbeats 4000000 in
theorem l_X6_sorts {K : KX} {E : EnvT} (hE : EOK E) (h : Cx K E cX6_sorts 3 RX6 3 66) {σ : ST} {post : Option Value → ST → Prop} (hR : Rx K E none post) (M : MT) (hM : M.2.1 0 ≤ 64) : ∀ m k w, k + m = M.2.1 0 → w.2 ≤ k → ROK k w → post none (sM σ (mR M (msL M m k w))) → GG K E (sM σ (mR M w)) 7 [(0, .ref (ad E 11 0 0)), (1, .int (nI k))] [] := by
  intro m
  induction m with
  | zero =>
    intro k w hk hs hw hp
    refine g_iload_n h (q := 1) 1 dX6_sorts_7 rfl ?_
    refine g_aload_n h (q := 0) 0 dX6_sorts_8 rfl ?_
    refine g_gMn h 0 (by decide) fl_X6_50 dX6_sorts_9 ?_
    refine g_is (nI (M.2.1 0)) (by rw [mR_0]) ?_
    refine g_ncmp_ge h (a := k) (b := M.2.1 0) 91 dX6_sorts_12 (by decide) (by omega) (by omega) (fun c1 => ?_) (fun c1 => ?_)
    · exact g_vret h hR dX6_sorts_91 (hp)
    · exfalso; omega
  | succ m ih =>
    intro k w hk hs hw hp
    have hw1 := hw.1
    refine g_iload_n h (q := 1) 1 dX6_sorts_7 rfl ?_
    refine g_aload_n h (q := 0) 0 dX6_sorts_8 rfl ?_
    refine g_gMn h 0 (by decide) fl_X6_50 dX6_sorts_9 ?_
    refine g_is (nI (M.2.1 0)) (by rw [mR_0]) ?_
    refine g_ncmp_ge h (a := k) (b := M.2.1 0) 91 dX6_sorts_12 (by decide) (by omega) (by omega) (fun c1 => ?_) (fun c1 => ?_)
    · exfalso; omega
    · refine g_aload_n h (q := 0) 0 dX6_sorts_15 rfl ?_
      refine g_iload_n h (q := 1) 1 dX6_sorts_16 rfl ?_
      refine g_callV h mv_X6_isIn 11 0 0 ⟨rfl, rfl⟩ rfl rfl (As := [.int (nI (k))]) (c_X6_isIn (kl K) hE (σ := σ) (M := (mR M w)) k (by omega)) ml_X6_93 rfl (by decide) (by decide) rfl (Nat.le_of_ble_eq_true rfl) dX6_sorts_17 (fun v σ9 h9 => ?_)
      rw [h9.1, h9.2]; clear h9
      rw [show mIn (mR M w) k = mIn M k from rfl]
      refine g_if_eq h 85 dX6_sorts_20 (by decide) (fun c2 => ?_) (fun c2 => ?_)
      · refine g_iinc h (q := 1) (v := nI (k + 1)) 1 [(0, .ref (ad E 11 0 0)), (1, .int (nI (k + 1)))] dX6_sorts_85 rfl (nI_inc k 1) (by decide) rfl ?_
        refine g_goto h 7 dX6_sorts_88 (by decide) ?_
        exact ih (k + 1) w (by omega) (by omega) (hw.mono (by omega)) (by rw [msL, if_neg (by rw [bI_0.mp c2]; decide)] at hp; exact hp)
      · refine g_aload_n h (q := 0) 0 dX6_sorts_23 rfl ?_
        refine g_gMn h 3 (by decide) fl_X6_90 dX6_sorts_24 ?_
        refine g_is (nI (w.2)) (by rw [mR_3]) ?_
        refine g_istore_n h (q := 2) [(0, .ref (ad E 11 0 0)), (1, .int (nI (k))), (2, .int (nI (w.2)))] dX6_sorts_27 (by decide) rfl ?_
        refine i_X6_sorts hE h M k (by omega) w.2 (by omega) w.2 w.1 (Nat.le_refl _) (fun t q => Nat.lt_of_lt_of_le (hw.2 t q) (by omega)) (fun at1 hat => ?_)
        rw [show (va_up (insL (fun y => mSo M k y) w.1 w.2).1 (insL (fun y => mSo M k y) w.1 w.2).2 k, w.2 + 1) = rIns (fun y => mSo M k y) w k by rw [rIns, if_pos (by omega)]]
        refine g_iinc h (q := 1) (v := nI (k + 1)) 1 [(0, .ref (ad E 11 0 0)), (1, .int (nI (k + 1))), (2, .int (nI (at1)))] dX6_sorts_85 rfl (nI_inc k 1) (by decide) rfl ?_
        refine g_goto h 7 dX6_sorts_88 (by decide) ?_
        refine g_sub [(0, .ref (ad E 11 0 0)), (1, .int (nI (k + 1)))] [0, 1] rfl ?_
        exact ih (k + 1) _ (by omega) (Nat.le_trans (rIns_sz _ _ _) (by omega)) (rIns_ok (hw.mono (by omega)) (by omega)) (by rw [msL, if_pos (bI_1.mp c2)] at hp; exact hp)
set_option maxHeartbeats 4000000 in
theorem c_X6_sorts (l : Launch) {E : EnvT} (hE : EOK E) {σ : ST} {M : MT} (hM : M.2.1 0 ≤ 64) : Con l E yX6_sorts cX6_sorts 3 none 3 66 [.ref (ad E 11 0 0)] (sM σ M) (rV (sM σ (mR M (mSort M)))) := by
  refine con_intro hE (by decide) (Nat.le_of_ble_eq_true rfl) (fun K hkl h hR => ?_)
  subst hkl
  have h : Cx K E cX6_sorts 3 RX6 3 66 := h
  show GG K E (sM σ M) 0 [(0, .ref (ad E 11 0 0))] []
  refine g_aload_n h (q := 0) 0 dX6_sorts_0 rfl ?_
  refine g_iconst h (v := 0) dX6_sorts_1 (by decide) ?_
  refine g_pMn h 3 (by decide) (m := 0) fl_X6_90 dX6_sorts_2 (fun M1 hM1 => ?_)
  refine g_iconst h (v := 0) dX6_sorts_5 (by decide) ?_
  refine g_istore_n h (q := 1) [(0, .ref (ad E 11 0 0)), (1, .int 0)] dX6_sorts_6 (by decide) rfl ?_
  rw [show M1 = mR M (M.2.2.2, 0) from hM1]
  exact l_X6_sorts hE h hR M hM _ 0 (M.2.2.2, 0) (Nat.zero_add _) (Nat.le_refl _) ⟨Nat.zero_le _, fun t q => absurd q (Nat.not_lt_zero t)⟩ ⟨rfl, rfl⟩
end
section
def mWin (M : MT) (n : Nat) : MT := ((mSet (mSet M n 0 2) n 7 (nI (M.2.1 1))).1, va_up M.2.1 1 (M.2.1 1 + 1), (mSet (mSet M n 0 2) n 7 (nI (M.2.1 1))).2.2)
def mwL (o : Nat → Nat) : Nat → Nat → Nat → Nat → MT → MT
  | 0, _, _, _, M => M
  | m + 1, k, q, s, M =>
    if nI (if 0 < k ∧ mOf M (o (k - 1)) 2 = mOf M (o k) 2 then s + 1 else 0) < M.1 0 ∧ nI q < M.1 2
    then mwL o m (k + 1) (q + 1) (if 0 < k ∧ mOf M (o (k - 1)) 2 = mOf M (o k) 2 then s + 1 else 0) (mWin M (o k))
    else mwL o m (k + 1) q (if 0 < k ∧ mOf M (o (k - 1)) 2 = mOf M (o k) 2 then s + 1 else 0) M
def mWins (M : MT) : MT := mwL M.2.2.2 (M.2.1 3) 0 (mCt M 2) 0 M
set_option maxHeartbeats 4000000 in
theorem l_X6_wins {K : KX} {E : EnvT} (hE : EOK E) (h : Cx K E cX6_wins 5 RX6 2 45) {σ : ST} {post : Option Value → ST → Prop} (hR : Rx K E none post) (o : Nat → Nat) (z : Nat) (hz : z ≤ 64) (ho : ∀ t, t < z → o t < 64) : ∀ m k q s M, k + m = z → s ≤ k → M.2.2.2 = o → M.2.1 3 = z → post none (sM σ (mwL o m k q s M)) → GG K E (sM σ M) 10 [(0, .ref (ad E 11 0 0)), (1, .int (nI q)), (2, .int (nI s)), (3, .int (nI k))] [] := by
  intro m
  induction m with
  | zero =>
    intro k q s M hk hs hMo hMz hp
    refine g_iload_n h (q := 3) 3 dX6_wins_10 rfl ?_
    refine g_aload_n h (q := 0) 0 dX6_wins_11 rfl ?_
    refine g_gMn h 3 (by decide) fl_X6_90 dX6_wins_12 ?_
    refine g_is (nI (z)) (by rw [hMz]) ?_
    refine g_ncmp_ge h (a := k) (b := z) 116 dX6_wins_15 (by decide) (by omega) (by omega) (fun c1 => ?_) (fun c1 => ?_)
    · exact g_vret h hR dX6_wins_116 (hp)
    · exfalso; omega
  | succ m ih =>
    intro k q s M hk hs hMo hMz hp
    have hn64 := ho k (by omega)
    obtain ⟨n, hn⟩ : ∃ n, n = o k := ⟨_, rfl⟩
    rw [← hn] at hn64
    refine g_iload_n h (q := 3) 3 dX6_wins_10 rfl ?_
    refine g_aload_n h (q := 0) 0 dX6_wins_11 rfl ?_
    refine g_gMn h 3 (by decide) fl_X6_90 dX6_wins_12 ?_
    refine g_is (nI (z)) (by rw [hMz]) ?_
    refine g_ncmp_ge h (a := k) (b := z) 116 dX6_wins_15 (by decide) (by omega) (by omega) (fun c1 => ?_) (fun c1 => ?_)
    · exfalso; omega
    · refine g_aload_n h (q := 0) 0 dX6_wins_18 rfl ?_
      refine g_gMo h fl_X6_29 dX6_wins_19 ?_
      refine g_iload_n h (q := 3) 3 dX6_wins_22 rfl ?_
      refine g_lO h (k) (by omega) dX6_wins_23 ?_
      refine g_is (nI (n)) (by rw [hMo, hn]) ?_
      refine g_istore h (q := 4) [(0, .ref (ad E 11 0 0)), (1, .int (nI (q))), (2, .int (nI (s))), (3, .int (nI (k))), (4, .int (nI (n)))] dX6_wins_24 (by decide) rfl ?_
      refine g_iload_n h (q := 3) 3 dX6_wins_26 rfl ?_
      refine g_nif_le h (a := k) 59 dX6_wins_27 (by decide) (by omega) (fun c2 => ?_) (fun c2 => ?_)
      · refine g_iconst h (v := 0) dX6_wins_59 (by decide) ?_
        refine g_istore_n h (q := 2) [(0, .ref (ad E 11 0 0)), (1, .int (nI (q))), (2, .int 0), (3, .int (nI (k))), (4, .int (nI (n)))] dX6_wins_60 (by decide) rfl ?_
        refine g_iload_n h (q := 2) 2 dX6_wins_61 rfl ?_
        refine g_aload_n h (q := 0) 0 dX6_wins_62 rfl ?_
        refine g_gMc h 0 (by decide) fl_X6_7 dX6_wins_63 ?_
        refine g_icmp_ge h 110 dX6_wins_66 (by decide) (fun c4 => ?_) (fun c4 => ?_)
        · refine g_iinc h (q := 3) (v := nI (k + 1)) 3 [(0, .ref (ad E 11 0 0)), (1, .int (nI (q))), (2, .int 0), (3, .int (nI (k + 1))), (4, .int (nI (n)))] dX6_wins_110 rfl (nI_inc k 1) (by decide) rfl ?_
          refine g_goto h 10 dX6_wins_113 (by decide) ?_
          refine g_sub [(0, .ref (ad E 11 0 0)), (1, .int (nI (q))), (2, .int (nI (0))), (3, .int (nI (k + 1)))] [0, 1, 2, 3] rfl ?_
          have hs9 : (if 0 < k ∧ mOf M (o (k - 1)) 2 = mOf M n 2 then s + 1 else 0) = 0 := by rw [if_neg (fun q => absurd q.1 (by omega))]
          have e : mwL o (m + 1) k q s M = mwL o m (k + 1) q (0) M := by rw [mwL, ← hn, hs9, if_neg (fun q => absurd q.1 (i_nlt c4))]
          rw [e] at hp
          exact ih (k + 1) q (0) M (by omega) (by omega) hMo hMz hp
        · refine g_iload_n h (q := 1) 1 dX6_wins_69 rfl ?_
          refine g_aload_n h (q := 0) 0 dX6_wins_70 rfl ?_
          refine g_gMc h 2 (by decide) fl_X6_16 dX6_wins_71 ?_
          refine g_icmp_ge h 110 dX6_wins_74 (by decide) (fun c5 => ?_) (fun c5 => ?_)
          · refine g_iinc h (q := 3) (v := nI (k + 1)) 3 [(0, .ref (ad E 11 0 0)), (1, .int (nI (q))), (2, .int 0), (3, .int (nI (k + 1))), (4, .int (nI (n)))] dX6_wins_110 rfl (nI_inc k 1) (by decide) rfl ?_
            refine g_goto h 10 dX6_wins_113 (by decide) ?_
            refine g_sub [(0, .ref (ad E 11 0 0)), (1, .int (nI (q))), (2, .int (nI (0))), (3, .int (nI (k + 1)))] [0, 1, 2, 3] rfl ?_
            have hs9 : (if 0 < k ∧ mOf M (o (k - 1)) 2 = mOf M n 2 then s + 1 else 0) = 0 := by rw [if_neg (fun q => absurd q.1 (by omega))]
            have e : mwL o (m + 1) k q s M = mwL o m (k + 1) q (0) M := by rw [mwL, ← hn, hs9, if_neg (fun q => absurd q.2 (i_nlt c5))]
            rw [e] at hp
            exact ih (k + 1) q (0) M (by omega) (by omega) hMo hMz hp
          · refine g_aload_n h (q := 0) 0 dX6_wins_77 rfl ?_
            refine g_iload h (q := 4) 4 dX6_wins_78 rfl ?_
            refine g_iconst h (v := 0) dX6_wins_80 (by decide) ?_
            refine g_iconst h (v := 2) dX6_wins_81 (by decide) ?_
            refine g_callV h mv_X6_sets 11 0 0 ⟨rfl, rfl⟩ rfl rfl (As := [.int (nI (n)), .int 0, .int 2]) (c_X6_sets (kl K) hE (σ := σ) (M := M) n 0 hn64 (by decide) (2)) ml_X6_82 rfl (by decide) (by decide) rfl (Nat.le_of_ble_eq_true rfl) dX6_wins_82 (fun v σ9 h9 => ?_)
            rw [h9.1, h9.2]; clear h9
            obtain ⟨Ma, hMa⟩ : ∃ X, X = mSet M n 0 (2) := ⟨_, rfl⟩
            rw [← hMa]
            refine g_aload_n h (q := 0) 0 dX6_wins_85 rfl ?_
            refine g_iload h (q := 4) 4 dX6_wins_86 rfl ?_
            refine g_bipush h (v := 7) dX6_wins_88 (by decide) ?_
            refine g_aload_n h (q := 0) 0 dX6_wins_90 rfl ?_
            refine g_gMn h 1 (by decide) fl_X6_53 dX6_wins_91 ?_
            refine g_is (nI (M.2.1 1)) (by rw [hMa]; rfl) ?_
            refine g_callV h mv_X6_sets 11 0 0 ⟨rfl, rfl⟩ rfl rfl (As := [.int (nI (n)), .int 7, .int (nI (M.2.1 1))]) (c_X6_sets (kl K) hE (σ := σ) (M := Ma) n 7 hn64 (by decide) (nI (M.2.1 1))) ml_X6_82 rfl (by decide) (by decide) rfl (Nat.le_of_ble_eq_true rfl) dX6_wins_94 (fun v σ9 h9 => ?_)
            rw [h9.1, h9.2]; clear h9
            obtain ⟨Mb, hMb⟩ : ∃ X, X = mSet Ma n 7 (nI (M.2.1 1)) := ⟨_, rfl⟩
            rw [← hMb]
            refine g_aload_n h (q := 0) 0 dX6_wins_97 rfl ?_
            refine g_dup h dX6_wins_98 rfl ?_
            refine g_gMn h 1 (by decide) fl_X6_53 dX6_wins_99 ?_
            refine g_is (nI (M.2.1 1)) (by rw [hMb, hMa]; rfl) ?_
            refine g_iconst h (v := 1) dX6_wins_102 (by decide) ?_
            refine g_iadd h dX6_wins_103 ?_
            refine g_is (nI ((M.2.1 1) + 1)) (nI_add (M.2.1 1) 1) ?_
            refine g_pMn h 1 (by decide) (m := (M.2.1 1) + 1) fl_X6_53 dX6_wins_104 (fun M1 hM1 => ?_)
            refine g_iinc h (q := 1) (v := nI (q + 1)) 1 [(0, .ref (ad E 11 0 0)), (1, .int (nI (q + 1))), (2, .int 0), (3, .int (nI (k))), (4, .int (nI (n)))] dX6_wins_107 rfl (nI_inc q 1) (by decide) rfl ?_
            refine g_iinc h (q := 3) (v := nI (k + 1)) 3 [(0, .ref (ad E 11 0 0)), (1, .int (nI (q + 1))), (2, .int 0), (3, .int (nI (k + 1))), (4, .int (nI (n)))] dX6_wins_110 rfl (nI_inc k 1) (by decide) rfl ?_
            refine g_goto h 10 dX6_wins_113 (by decide) ?_
            refine g_sub [(0, .ref (ad E 11 0 0)), (1, .int (nI (q + 1))), (2, .int (nI (0))), (3, .int (nI (k + 1)))] [0, 1, 2, 3] rfl ?_
            have hs9 : (if 0 < k ∧ mOf M (o (k - 1)) 2 = mOf M n 2 then s + 1 else 0) = 0 := by rw [if_neg (fun q => absurd q.1 (by omega))]
            have e2 : M1 = mWin M n := by rw [hM1, hMb, hMa]; rfl
            rw [e2]
            have e : mwL o (m + 1) k q s M = mwL o m (k + 1) (q + 1) (0) (mWin M n) := by rw [mwL, ← hn, hs9, if_pos ⟨i_lt c4, i_lt c5⟩]
            rw [e] at hp
            exact ih (k + 1) (q + 1) (0) (mWin M n) (by omega) (by omega) hMo (by rw [← hMz]; simp [mWin, va_up]) hp
      · refine g_aload_n h (q := 0) 0 dX6_wins_30 rfl ?_
        refine g_aload_n h (q := 0) 0 dX6_wins_31 rfl ?_
        refine g_gMo h fl_X6_29 dX6_wins_32 ?_
        refine g_iload_n h (q := 3) 3 dX6_wins_35 rfl ?_
        refine g_iconst h (v := 1) dX6_wins_36 (by decide) ?_
        refine g_isub h dX6_wins_37 ?_
        refine g_is (nI (k - 1)) (pk_sub (a := k) (b := 1) (by omega)) ?_
        refine g_lO h (k - 1) (by omega) dX6_wins_38 ?_
        refine g_is (nI (o (k - 1))) (by rw [hMo]) ?_
        refine g_iconst h (v := 2) dX6_wins_39 (by decide) ?_
        refine g_callV h mv_X6_of 11 0 0 ⟨rfl, rfl⟩ rfl rfl (As := [.int (nI (o (k - 1))), .int 2]) (c_X6_of (kl K) hE (σ := σ) (M := M) (o (k - 1)) 2 (ho _ (by omega)) (by decide)) ml_X6_70 rfl (by decide) (by decide) rfl (Nat.le_of_ble_eq_true rfl) dX6_wins_40 (fun v σ9 h9 => ?_)
        rw [h9.1, h9.2]; clear h9
        refine g_aload_n h (q := 0) 0 dX6_wins_43 rfl ?_
        refine g_iload h (q := 4) 4 dX6_wins_44 rfl ?_
        refine g_iconst h (v := 2) dX6_wins_46 (by decide) ?_
        refine g_callV h mv_X6_of 11 0 0 ⟨rfl, rfl⟩ rfl rfl (As := [.int (nI (n)), .int 2]) (c_X6_of (kl K) hE (σ := σ) (M := M) (n) 2 (hn64) (by decide)) ml_X6_70 rfl (by decide) (by decide) rfl (Nat.le_of_ble_eq_true rfl) dX6_wins_47 (fun v σ9 h9 => ?_)
        rw [h9.1, h9.2]; clear h9
        refine g_icmp_ne h 59 dX6_wins_50 (by decide) (fun c3 => ?_) (fun c3 => ?_)
        · refine g_iconst h (v := 0) dX6_wins_59 (by decide) ?_
          refine g_istore_n h (q := 2) [(0, .ref (ad E 11 0 0)), (1, .int (nI (q))), (2, .int 0), (3, .int (nI (k))), (4, .int (nI (n)))] dX6_wins_60 (by decide) rfl ?_
          refine g_iload_n h (q := 2) 2 dX6_wins_61 rfl ?_
          refine g_aload_n h (q := 0) 0 dX6_wins_62 rfl ?_
          refine g_gMc h 0 (by decide) fl_X6_7 dX6_wins_63 ?_
          refine g_icmp_ge h 110 dX6_wins_66 (by decide) (fun c4 => ?_) (fun c4 => ?_)
          · refine g_iinc h (q := 3) (v := nI (k + 1)) 3 [(0, .ref (ad E 11 0 0)), (1, .int (nI (q))), (2, .int 0), (3, .int (nI (k + 1))), (4, .int (nI (n)))] dX6_wins_110 rfl (nI_inc k 1) (by decide) rfl ?_
            refine g_goto h 10 dX6_wins_113 (by decide) ?_
            refine g_sub [(0, .ref (ad E 11 0 0)), (1, .int (nI (q))), (2, .int (nI (0))), (3, .int (nI (k + 1)))] [0, 1, 2, 3] rfl ?_
            have hs9 : (if 0 < k ∧ mOf M (o (k - 1)) 2 = mOf M n 2 then s + 1 else 0) = 0 := by rw [if_neg (fun q => c3 q.2)]
            have e : mwL o (m + 1) k q s M = mwL o m (k + 1) q (0) M := by rw [mwL, ← hn, hs9, if_neg (fun q => absurd q.1 (i_nlt c4))]
            rw [e] at hp
            exact ih (k + 1) q (0) M (by omega) (by omega) hMo hMz hp
          · refine g_iload_n h (q := 1) 1 dX6_wins_69 rfl ?_
            refine g_aload_n h (q := 0) 0 dX6_wins_70 rfl ?_
            refine g_gMc h 2 (by decide) fl_X6_16 dX6_wins_71 ?_
            refine g_icmp_ge h 110 dX6_wins_74 (by decide) (fun c5 => ?_) (fun c5 => ?_)
            · refine g_iinc h (q := 3) (v := nI (k + 1)) 3 [(0, .ref (ad E 11 0 0)), (1, .int (nI (q))), (2, .int 0), (3, .int (nI (k + 1))), (4, .int (nI (n)))] dX6_wins_110 rfl (nI_inc k 1) (by decide) rfl ?_
              refine g_goto h 10 dX6_wins_113 (by decide) ?_
              refine g_sub [(0, .ref (ad E 11 0 0)), (1, .int (nI (q))), (2, .int (nI (0))), (3, .int (nI (k + 1)))] [0, 1, 2, 3] rfl ?_
              have hs9 : (if 0 < k ∧ mOf M (o (k - 1)) 2 = mOf M n 2 then s + 1 else 0) = 0 := by rw [if_neg (fun q => c3 q.2)]
              have e : mwL o (m + 1) k q s M = mwL o m (k + 1) q (0) M := by rw [mwL, ← hn, hs9, if_neg (fun q => absurd q.2 (i_nlt c5))]
              rw [e] at hp
              exact ih (k + 1) q (0) M (by omega) (by omega) hMo hMz hp
            · refine g_aload_n h (q := 0) 0 dX6_wins_77 rfl ?_
              refine g_iload h (q := 4) 4 dX6_wins_78 rfl ?_
              refine g_iconst h (v := 0) dX6_wins_80 (by decide) ?_
              refine g_iconst h (v := 2) dX6_wins_81 (by decide) ?_
              refine g_callV h mv_X6_sets 11 0 0 ⟨rfl, rfl⟩ rfl rfl (As := [.int (nI (n)), .int 0, .int 2]) (c_X6_sets (kl K) hE (σ := σ) (M := M) n 0 hn64 (by decide) (2)) ml_X6_82 rfl (by decide) (by decide) rfl (Nat.le_of_ble_eq_true rfl) dX6_wins_82 (fun v σ9 h9 => ?_)
              rw [h9.1, h9.2]; clear h9
              obtain ⟨Ma, hMa⟩ : ∃ X, X = mSet M n 0 (2) := ⟨_, rfl⟩
              rw [← hMa]
              refine g_aload_n h (q := 0) 0 dX6_wins_85 rfl ?_
              refine g_iload h (q := 4) 4 dX6_wins_86 rfl ?_
              refine g_bipush h (v := 7) dX6_wins_88 (by decide) ?_
              refine g_aload_n h (q := 0) 0 dX6_wins_90 rfl ?_
              refine g_gMn h 1 (by decide) fl_X6_53 dX6_wins_91 ?_
              refine g_is (nI (M.2.1 1)) (by rw [hMa]; rfl) ?_
              refine g_callV h mv_X6_sets 11 0 0 ⟨rfl, rfl⟩ rfl rfl (As := [.int (nI (n)), .int 7, .int (nI (M.2.1 1))]) (c_X6_sets (kl K) hE (σ := σ) (M := Ma) n 7 hn64 (by decide) (nI (M.2.1 1))) ml_X6_82 rfl (by decide) (by decide) rfl (Nat.le_of_ble_eq_true rfl) dX6_wins_94 (fun v σ9 h9 => ?_)
              rw [h9.1, h9.2]; clear h9
              obtain ⟨Mb, hMb⟩ : ∃ X, X = mSet Ma n 7 (nI (M.2.1 1)) := ⟨_, rfl⟩
              rw [← hMb]
              refine g_aload_n h (q := 0) 0 dX6_wins_97 rfl ?_
              refine g_dup h dX6_wins_98 rfl ?_
              refine g_gMn h 1 (by decide) fl_X6_53 dX6_wins_99 ?_
              refine g_is (nI (M.2.1 1)) (by rw [hMb, hMa]; rfl) ?_
              refine g_iconst h (v := 1) dX6_wins_102 (by decide) ?_
              refine g_iadd h dX6_wins_103 ?_
              refine g_is (nI ((M.2.1 1) + 1)) (nI_add (M.2.1 1) 1) ?_
              refine g_pMn h 1 (by decide) (m := (M.2.1 1) + 1) fl_X6_53 dX6_wins_104 (fun M2 hM2 => ?_)
              refine g_iinc h (q := 1) (v := nI (q + 1)) 1 [(0, .ref (ad E 11 0 0)), (1, .int (nI (q + 1))), (2, .int 0), (3, .int (nI (k))), (4, .int (nI (n)))] dX6_wins_107 rfl (nI_inc q 1) (by decide) rfl ?_
              refine g_iinc h (q := 3) (v := nI (k + 1)) 3 [(0, .ref (ad E 11 0 0)), (1, .int (nI (q + 1))), (2, .int 0), (3, .int (nI (k + 1))), (4, .int (nI (n)))] dX6_wins_110 rfl (nI_inc k 1) (by decide) rfl ?_
              refine g_goto h 10 dX6_wins_113 (by decide) ?_
              refine g_sub [(0, .ref (ad E 11 0 0)), (1, .int (nI (q + 1))), (2, .int (nI (0))), (3, .int (nI (k + 1)))] [0, 1, 2, 3] rfl ?_
              have hs9 : (if 0 < k ∧ mOf M (o (k - 1)) 2 = mOf M n 2 then s + 1 else 0) = 0 := by rw [if_neg (fun q => c3 q.2)]
              have e2 : M2 = mWin M n := by rw [hM2, hMb, hMa]; rfl
              rw [e2]
              have e : mwL o (m + 1) k q s M = mwL o m (k + 1) (q + 1) (0) (mWin M n) := by rw [mwL, ← hn, hs9, if_pos ⟨i_lt c4, i_lt c5⟩]
              rw [e] at hp
              exact ih (k + 1) (q + 1) (0) (mWin M n) (by omega) (by omega) hMo (by rw [← hMz]; simp [mWin, va_up]) hp
        · refine g_iload_n h (q := 2) 2 dX6_wins_53 rfl ?_
          refine g_iconst h (v := 1) dX6_wins_54 (by decide) ?_
          refine g_iadd h dX6_wins_55 ?_
          refine g_is (nI (s + 1)) (nI_add s 1) ?_
          refine g_goto h 60 dX6_wins_56 (by decide) ?_
          refine g_istore_n h (q := 2) [(0, .ref (ad E 11 0 0)), (1, .int (nI (q))), (2, .int (nI (s + 1))), (3, .int (nI (k))), (4, .int (nI (n)))] dX6_wins_60 (by decide) rfl ?_
          refine g_iload_n h (q := 2) 2 dX6_wins_61 rfl ?_
          refine g_aload_n h (q := 0) 0 dX6_wins_62 rfl ?_
          refine g_gMc h 0 (by decide) fl_X6_7 dX6_wins_63 ?_
          refine g_icmp_ge h 110 dX6_wins_66 (by decide) (fun c4 => ?_) (fun c4 => ?_)
          · refine g_iinc h (q := 3) (v := nI (k + 1)) 3 [(0, .ref (ad E 11 0 0)), (1, .int (nI (q))), (2, .int (nI (s + 1))), (3, .int (nI (k + 1))), (4, .int (nI (n)))] dX6_wins_110 rfl (nI_inc k 1) (by decide) rfl ?_
            refine g_goto h 10 dX6_wins_113 (by decide) ?_
            refine g_sub [(0, .ref (ad E 11 0 0)), (1, .int (nI (q))), (2, .int (nI (s + 1))), (3, .int (nI (k + 1)))] [0, 1, 2, 3] rfl ?_
            have hs9 : (if 0 < k ∧ mOf M (o (k - 1)) 2 = mOf M n 2 then s + 1 else 0) = s + 1 := by rw [if_pos ⟨c2, c3⟩]
            have e : mwL o (m + 1) k q s M = mwL o m (k + 1) q (s + 1) M := by rw [mwL, ← hn, hs9, if_neg (fun q => absurd q.1 (i_nlt c4))]
            rw [e] at hp
            exact ih (k + 1) q (s + 1) M (by omega) (by omega) hMo hMz hp
          · refine g_iload_n h (q := 1) 1 dX6_wins_69 rfl ?_
            refine g_aload_n h (q := 0) 0 dX6_wins_70 rfl ?_
            refine g_gMc h 2 (by decide) fl_X6_16 dX6_wins_71 ?_
            refine g_icmp_ge h 110 dX6_wins_74 (by decide) (fun c5 => ?_) (fun c5 => ?_)
            · refine g_iinc h (q := 3) (v := nI (k + 1)) 3 [(0, .ref (ad E 11 0 0)), (1, .int (nI (q))), (2, .int (nI (s + 1))), (3, .int (nI (k + 1))), (4, .int (nI (n)))] dX6_wins_110 rfl (nI_inc k 1) (by decide) rfl ?_
              refine g_goto h 10 dX6_wins_113 (by decide) ?_
              refine g_sub [(0, .ref (ad E 11 0 0)), (1, .int (nI (q))), (2, .int (nI (s + 1))), (3, .int (nI (k + 1)))] [0, 1, 2, 3] rfl ?_
              have hs9 : (if 0 < k ∧ mOf M (o (k - 1)) 2 = mOf M n 2 then s + 1 else 0) = s + 1 := by rw [if_pos ⟨c2, c3⟩]
              have e : mwL o (m + 1) k q s M = mwL o m (k + 1) q (s + 1) M := by rw [mwL, ← hn, hs9, if_neg (fun q => absurd q.2 (i_nlt c5))]
              rw [e] at hp
              exact ih (k + 1) q (s + 1) M (by omega) (by omega) hMo hMz hp
            · refine g_aload_n h (q := 0) 0 dX6_wins_77 rfl ?_
              refine g_iload h (q := 4) 4 dX6_wins_78 rfl ?_
              refine g_iconst h (v := 0) dX6_wins_80 (by decide) ?_
              refine g_iconst h (v := 2) dX6_wins_81 (by decide) ?_
              refine g_callV h mv_X6_sets 11 0 0 ⟨rfl, rfl⟩ rfl rfl (As := [.int (nI (n)), .int 0, .int 2]) (c_X6_sets (kl K) hE (σ := σ) (M := M) n 0 hn64 (by decide) (2)) ml_X6_82 rfl (by decide) (by decide) rfl (Nat.le_of_ble_eq_true rfl) dX6_wins_82 (fun v σ9 h9 => ?_)
              rw [h9.1, h9.2]; clear h9
              obtain ⟨Ma, hMa⟩ : ∃ X, X = mSet M n 0 (2) := ⟨_, rfl⟩
              rw [← hMa]
              refine g_aload_n h (q := 0) 0 dX6_wins_85 rfl ?_
              refine g_iload h (q := 4) 4 dX6_wins_86 rfl ?_
              refine g_bipush h (v := 7) dX6_wins_88 (by decide) ?_
              refine g_aload_n h (q := 0) 0 dX6_wins_90 rfl ?_
              refine g_gMn h 1 (by decide) fl_X6_53 dX6_wins_91 ?_
              refine g_is (nI (M.2.1 1)) (by rw [hMa]; rfl) ?_
              refine g_callV h mv_X6_sets 11 0 0 ⟨rfl, rfl⟩ rfl rfl (As := [.int (nI (n)), .int 7, .int (nI (M.2.1 1))]) (c_X6_sets (kl K) hE (σ := σ) (M := Ma) n 7 hn64 (by decide) (nI (M.2.1 1))) ml_X6_82 rfl (by decide) (by decide) rfl (Nat.le_of_ble_eq_true rfl) dX6_wins_94 (fun v σ9 h9 => ?_)
              rw [h9.1, h9.2]; clear h9
              obtain ⟨Mb, hMb⟩ : ∃ X, X = mSet Ma n 7 (nI (M.2.1 1)) := ⟨_, rfl⟩
              rw [← hMb]
              refine g_aload_n h (q := 0) 0 dX6_wins_97 rfl ?_
              refine g_dup h dX6_wins_98 rfl ?_
              refine g_gMn h 1 (by decide) fl_X6_53 dX6_wins_99 ?_
              refine g_is (nI (M.2.1 1)) (by rw [hMb, hMa]; rfl) ?_
              refine g_iconst h (v := 1) dX6_wins_102 (by decide) ?_
              refine g_iadd h dX6_wins_103 ?_
              refine g_is (nI ((M.2.1 1) + 1)) (nI_add (M.2.1 1) 1) ?_
              refine g_pMn h 1 (by decide) (m := (M.2.1 1) + 1) fl_X6_53 dX6_wins_104 (fun M3 hM3 => ?_)
              refine g_iinc h (q := 1) (v := nI (q + 1)) 1 [(0, .ref (ad E 11 0 0)), (1, .int (nI (q + 1))), (2, .int (nI (s + 1))), (3, .int (nI (k))), (4, .int (nI (n)))] dX6_wins_107 rfl (nI_inc q 1) (by decide) rfl ?_
              refine g_iinc h (q := 3) (v := nI (k + 1)) 3 [(0, .ref (ad E 11 0 0)), (1, .int (nI (q + 1))), (2, .int (nI (s + 1))), (3, .int (nI (k + 1))), (4, .int (nI (n)))] dX6_wins_110 rfl (nI_inc k 1) (by decide) rfl ?_
              refine g_goto h 10 dX6_wins_113 (by decide) ?_
              refine g_sub [(0, .ref (ad E 11 0 0)), (1, .int (nI (q + 1))), (2, .int (nI (s + 1))), (3, .int (nI (k + 1)))] [0, 1, 2, 3] rfl ?_
              have hs9 : (if 0 < k ∧ mOf M (o (k - 1)) 2 = mOf M n 2 then s + 1 else 0) = s + 1 := by rw [if_pos ⟨c2, c3⟩]
              have e2 : M3 = mWin M n := by rw [hM3, hMb, hMa]; rfl
              rw [e2]
              have e : mwL o (m + 1) k q s M = mwL o m (k + 1) (q + 1) (s + 1) (mWin M n) := by rw [mwL, ← hn, hs9, if_pos ⟨i_lt c4, i_lt c5⟩]
              rw [e] at hp
              exact ih (k + 1) (q + 1) (s + 1) (mWin M n) (by omega) (by omega) hMo (by rw [← hMz]; simp [mWin, va_up]) hp
set_option maxHeartbeats 4000000 in
theorem c_X6_wins (l : Launch) {E : EnvT} (hE : EOK E) {σ : ST} {M : MT} (hM : M.2.1 0 ≤ 64) (hz : M.2.1 3 ≤ 64) (ho : ∀ t, t < M.2.1 3 → M.2.2.2 t < 64) : Con l E yX6_wins cX6_wins 5 none 2 45 [.ref (ad E 11 0 0)] (sM σ M) (rV (sM σ (mWins M))) := by
  refine con_intro hE (by decide) (Nat.le_of_ble_eq_true rfl) (fun K hkl h hR => ?_)
  subst hkl
  have h : Cx K E cX6_wins 5 RX6 2 45 := h
  show GG K E (sM σ M) 0 [(0, .ref (ad E 11 0 0))] []
  refine g_aload_n h (q := 0) 0 dX6_wins_0 rfl ?_
  refine g_iconst h (v := 2) dX6_wins_1 (by decide) ?_
  refine g_callV h mv_X6_manyAt 11 0 0 ⟨rfl, rfl⟩ rfl rfl (As := [.int 2]) (c_X6_manyAt (kl K) hE (σ := σ) (M := M) hM 2) ml_X6_99 rfl (by decide) (by decide) rfl (Nat.le_of_ble_eq_true rfl) dX6_wins_2 (fun v σ9 h9 => ?_)
  rw [h9.1, h9.2]; clear h9
  refine g_istore_n h (q := 1) [(0, .ref (ad E 11 0 0)), (1, .int (nI (mCt M 2)))] dX6_wins_5 (by decide) rfl ?_
  refine g_iconst h (v := 0) dX6_wins_6 (by decide) ?_
  refine g_istore_n h (q := 2) [(0, .ref (ad E 11 0 0)), (1, .int (nI (mCt M 2))), (2, .int 0)] dX6_wins_7 (by decide) rfl ?_
  refine g_iconst h (v := 0) dX6_wins_8 (by decide) ?_
  refine g_istore_n h (q := 3) [(0, .ref (ad E 11 0 0)), (1, .int (nI (mCt M 2))), (2, .int 0), (3, .int 0)] dX6_wins_9 (by decide) rfl ?_
  exact l_X6_wins hE h hR M.2.2.2 (M.2.1 3) hz ho _ 0 (mCt M 2) 0 M (Nat.zero_add _) (Nat.le_refl _) rfl rfl ⟨rfl, rfl⟩
def ahL (M : MT) (o : Nat → Nat) (n : Nat) : Nat → Nat → Nat → Nat
  | 0, _, c => c
  | m + 1, j, c => ahL M o n m (j + 1) (c + (if o j ≠ n ∧ mOf M (o j) 0 ≠ 2 ∧ mAh M (o j) n = true then 1 else 0))
def mAhd (M : MT) (o : Nat → Nat) (z n : Nat) : Nat := if mIn M n then ahL M o n z 0 0 else 0
def mTv (M : MT) (o : Nat → Nat) (z n : Nat) : Int32 := if mOf M n 0 = 2 then 2 else if nI (mAhd M o z n) < M.1 1 then 1 else 4
/-- the row turn is g -/
def mTn (M : MT) (g : Nat → Int32) : MT := (M.1, M.2.1, va_up M.2.2.1 3 g, M.2.2.2)
theorem mOf_mTn (M : MT) (g : Nat → Int32) (n w : Nat) : mOf (mTn M g) n w = mOf M n w := by simp [mOf, mTn, va_up]
theorem mIn_mTn (M : MT) (g : Nat → Int32) (n : Nat) : mIn (mTn M g) n = mIn M n := by simp [mIn, mOf_mTn]
theorem mAh_mTn (M : MT) (g : Nat → Int32) (a b : Nat) : mAh (mTn M g) a b = mAh M a b := by simp [mAh, mOf_mTn]
def tnG (M : MT) (o : Nat → Nat) (z : Nat) (g : Nat → Int32) (k : Nat) : Nat → Int32 := fun t => if t < k then mTv M o z (o t) else g t
theorem tnG_s (M : MT) (o : Nat → Nat) (z : Nat) (g : Nat → Int32) (k : Nat) : upd (tnG M o z g k) k (mTv M o z (o k)) = tnG M o z g (k + 1) := by
  funext t
  by_cases e : t = k
  · subst e; simp [tnG, upd]
  · have e2 : (t < k + 1) = (t < k) := by apply propext; omega
    simp [tnG, upd, e, e2]
def mT2 (M : MT) (n : Nat) (t : Int32) : MT := mSet (mSet (mSet M n 0 t) n 6 (mOf (mSet M n 0 t) n 6 + (if t = 1 then 1 else 0))) n 5 (if t = 4 then M.1 3 else mOf (mSet (mSet M n 0 t) n 6 (mOf (mSet M n 0 t) n 6 + (if t = 1 then 1 else 0))) n 5)
def t2L (o : Nat → Nat) (g : Nat → Int32) : Nat → Nat → MT → MT
  | 0, _, M => M
  | m + 1, k, M => t2L o g m (k + 1) (mT2 M (o k) (g k))
def mTurns (M : MT) : MT := t2L M.2.2.2 (tnG M M.2.2.2 (M.2.1 3) (M.2.2.1 3) (M.2.1 3)) (M.2.1 3) 0 (mTn M (tnG M M.2.2.2 (M.2.1 3) (M.2.2.1 3) (M.2.1 3)))
set_option maxHeartbeats 4000000 in
theorem i_X6_turns {K : KX} {E : EnvT} (hE : EOK E) (h : Cx K E cX6_turns 7 RX6 2 44) {σ : ST} (M : MT) (g : Nat → Int32) (o : Nat → Nat) (z : Nat) (hz : z ≤ 64) (ho : ∀ t, t < z → o t < 64) (hMo : M.2.2.2 = o) (hMz : M.2.1 3 = z) (k n : Nat) (hn : n < 64) (hin : mIn M n = true) : ∀ m j c, j + m = z → c ≤ j → (∀ lv5, GG K E (sM σ (mTn M g)) 101 ([(0, .ref (ad E 11 0 0)), (1, .int (nI k)), (2, .int (nI n)), (3, .int (nI (ahL M o n m j c)))] ++ lv5) []) → ∀ lv5, GG K E (sM σ (mTn M g)) 22 ([(0, .ref (ad E 11 0 0)), (1, .int (nI k)), (2, .int (nI n)), (3, .int (nI c)), (4, .int (nI j))] ++ lv5) [] := by
  intro m
  induction m with
  | zero =>
    intro j c hj hc hp lv5
    refine g_sub [(0, .ref (ad E 11 0 0)), (1, .int (nI k)), (2, .int (nI n)), (3, .int (nI c)), (4, .int (nI j))] [0, 1, 2, 3, 4] rfl ?_
    refine g_iload h (q := 4) 4 dX6_turns_22 rfl ?_
    refine g_aload_n h (q := 0) 0 dX6_turns_24 rfl ?_
    refine g_gMn h 3 (by decide) fl_X6_90 dX6_turns_25 ?_
    refine g_is (nI (z)) (by rw [← hMz]; rfl) ?_
    refine g_ncmp_ge h (a := j) (b := z) 101 dX6_turns_28 (by decide) (by omega) (by omega) (fun c1 => ?_) (fun c1 => ?_)
    · exact hp [(4, .int (nI j))]
    · exfalso; omega
  | succ m ih =>
    intro j c hj hc hp lv5
    refine g_sub [(0, .ref (ad E 11 0 0)), (1, .int (nI k)), (2, .int (nI n)), (3, .int (nI c)), (4, .int (nI j))] [0, 1, 2, 3, 4] rfl ?_
    have hi64 := ho j (by omega)
    obtain ⟨i, hi⟩ : ∃ i, i = o j := ⟨_, rfl⟩
    rw [← hi] at hi64
    refine g_iload h (q := 4) 4 dX6_turns_22 rfl ?_
    refine g_aload_n h (q := 0) 0 dX6_turns_24 rfl ?_
    refine g_gMn h 3 (by decide) fl_X6_90 dX6_turns_25 ?_
    refine g_is (nI (z)) (by rw [← hMz]; rfl) ?_
    refine g_ncmp_ge h (a := j) (b := z) 101 dX6_turns_28 (by decide) (by omega) (by omega) (fun c1 => ?_) (fun c1 => ?_)
    · exfalso; omega
    · refine g_aload_n h (q := 0) 0 dX6_turns_31 rfl ?_
      refine g_iload_n h (q := 2) 2 dX6_turns_32 rfl ?_
      refine g_callV h mv_X6_isIn 11 0 0 ⟨rfl, rfl⟩ rfl rfl (As := [.int (nI (n))]) (c_X6_isIn (kl K) hE (σ := σ) (M := (mTn M g)) n hn) ml_X6_93 rfl (by decide) (by decide) rfl (Nat.le_of_ble_eq_true rfl) dX6_turns_33 (fun v σ9 h9 => ?_)
      rw [h9.1, h9.2]; clear h9
      rw [mIn_mTn]
      refine g_if_eq h 101 dX6_turns_36 (by decide) (fun c2 => ?_) (fun c2 => ?_)
      · exact absurd (bI_0.mp c2) (by rw [hin]; decide)
      · refine g_aload_n h (q := 0) 0 dX6_turns_39 rfl ?_
        refine g_gMo h fl_X6_29 dX6_turns_40 ?_
        refine g_iload h (q := 4) 4 dX6_turns_43 rfl ?_
        refine g_lO h (j) (by omega) dX6_turns_45 ?_
        refine g_is (nI (i)) (by rw [hi, ← hMo]; rfl) ?_
        refine g_istore h (q := 5) [(0, .ref (ad E 11 0 0)), (1, .int (nI (k))), (2, .int (nI (n))), (3, .int (nI (c))), (4, .int (nI (j))), (5, .int (nI (i)))] dX6_turns_46 (by decide) rfl ?_
        refine g_iload h (q := 5) 5 dX6_turns_48 rfl ?_
        refine g_iload_n h (q := 2) 2 dX6_turns_50 rfl ?_
        refine g_ncmp_eq h (a := i) (b := n) 69 dX6_turns_51 (by decide) (by omega) (by omega) (fun c3 => ?_) (fun c3 => ?_)
        · refine g_iconst h (v := 0) dX6_turns_69 (by decide) ?_
          refine g_istore h (q := 6) [(0, .ref (ad E 11 0 0)), (1, .int (nI (k))), (2, .int (nI (n))), (3, .int (nI (c))), (4, .int (nI (j))), (5, .int (nI (i))), (6, .int 0)] dX6_turns_70 (by decide) rfl ?_
          refine g_iload_n h (q := 3) 3 dX6_turns_72 rfl ?_
          refine g_iload h (q := 6) 6 dX6_turns_73 rfl ?_
          refine g_if_eq h 92 dX6_turns_75 (by decide) (fun _ => ?_) (fun c => absurd rfl c)
          refine g_iconst h (v := 0) dX6_turns_92 (by decide) ?_
          refine g_iadd h dX6_turns_93 ?_
          refine g_is (nI (c + 0)) (nI_add c 0) ?_
          refine g_istore_n h (q := 3) [(0, .ref (ad E 11 0 0)), (1, .int (nI (k))), (2, .int (nI (n))), (3, .int (nI (c + 0))), (4, .int (nI (j))), (5, .int (nI (i))), (6, .int 0)] dX6_turns_94 (by decide) rfl ?_
          refine g_iinc h (q := 4) (v := nI (j + 1)) 4 [(0, .ref (ad E 11 0 0)), (1, .int (nI (k))), (2, .int (nI (n))), (3, .int (nI (c + 0))), (4, .int (nI (j + 1))), (5, .int (nI (i))), (6, .int 0)] dX6_turns_95 rfl (nI_inc j 1) (by decide) rfl ?_
          refine g_goto h 22 dX6_turns_98 (by decide) ?_
          refine ih (j + 1) (c + 0) (by omega) (by omega) (fun lv6 => ?_) _
          have e : ahL M o n (m + 1) j c = ahL M o n m (j + 1) (c + 0) := by
            rw [ahL, ← hi, if_neg (fun q => q.1 c3)]
          rw [← e]
          exact hp lv6
        · refine g_aload_n h (q := 0) 0 dX6_turns_54 rfl ?_
          refine g_iload h (q := 5) 5 dX6_turns_55 rfl ?_
          refine g_iconst h (v := 0) dX6_turns_57 (by decide) ?_
          refine g_callV h mv_X6_of 11 0 0 ⟨rfl, rfl⟩ rfl rfl (As := [.int (nI (i)), .int 0]) (c_X6_of (kl K) hE (σ := σ) (M := (mTn M g)) i 0 hi64 (by decide)) ml_X6_70 rfl (by decide) (by decide) rfl (Nat.le_of_ble_eq_true rfl) dX6_turns_58 (fun v σ9 h9 => ?_)
          rw [h9.1, h9.2]; clear h9
          rw [mOf_mTn]
          refine g_iconst h (v := 2) dX6_turns_61 (by decide) ?_
          refine g_icmp_eq h 69 dX6_turns_62 (by decide) (fun c4 => ?_) (fun c4 => ?_)
          · refine g_iconst h (v := 0) dX6_turns_69 (by decide) ?_
            refine g_istore h (q := 6) [(0, .ref (ad E 11 0 0)), (1, .int (nI (k))), (2, .int (nI (n))), (3, .int (nI (c))), (4, .int (nI (j))), (5, .int (nI (i))), (6, .int 0)] dX6_turns_70 (by decide) rfl ?_
            refine g_iload_n h (q := 3) 3 dX6_turns_72 rfl ?_
            refine g_iload h (q := 6) 6 dX6_turns_73 rfl ?_
            refine g_if_eq h 92 dX6_turns_75 (by decide) (fun _ => ?_) (fun c => absurd rfl c)
            refine g_iconst h (v := 0) dX6_turns_92 (by decide) ?_
            refine g_iadd h dX6_turns_93 ?_
            refine g_is (nI (c + 0)) (nI_add c 0) ?_
            refine g_istore_n h (q := 3) [(0, .ref (ad E 11 0 0)), (1, .int (nI (k))), (2, .int (nI (n))), (3, .int (nI (c + 0))), (4, .int (nI (j))), (5, .int (nI (i))), (6, .int 0)] dX6_turns_94 (by decide) rfl ?_
            refine g_iinc h (q := 4) (v := nI (j + 1)) 4 [(0, .ref (ad E 11 0 0)), (1, .int (nI (k))), (2, .int (nI (n))), (3, .int (nI (c + 0))), (4, .int (nI (j + 1))), (5, .int (nI (i))), (6, .int 0)] dX6_turns_95 rfl (nI_inc j 1) (by decide) rfl ?_
            refine g_goto h 22 dX6_turns_98 (by decide) ?_
            refine ih (j + 1) (c + 0) (by omega) (by omega) (fun lv6 => ?_) _
            have e : ahL M o n (m + 1) j c = ahL M o n m (j + 1) (c + 0) := by
              rw [ahL, ← hi, if_neg (fun q => q.2.1 c4)]
            rw [← e]
            exact hp lv6
          · refine g_iconst h (v := 1) dX6_turns_65 (by decide) ?_
            refine g_goto h 70 dX6_turns_66 (by decide) ?_
            refine g_istore h (q := 6) [(0, .ref (ad E 11 0 0)), (1, .int (nI (k))), (2, .int (nI (n))), (3, .int (nI (c))), (4, .int (nI (j))), (5, .int (nI (i))), (6, .int 1)] dX6_turns_70 (by decide) rfl ?_
            refine g_iload_n h (q := 3) 3 dX6_turns_72 rfl ?_
            refine g_iload h (q := 6) 6 dX6_turns_73 rfl ?_
            refine g_if_eq h 92 dX6_turns_75 (by decide) (fun c => absurd c (by decide)) (fun _ => ?_)
            refine g_aload_n h (q := 0) 0 dX6_turns_78 rfl ?_
            refine g_iload h (q := 5) 5 dX6_turns_79 rfl ?_
            refine g_iload_n h (q := 2) 2 dX6_turns_81 rfl ?_
            refine g_callV h mv_X6_isAhead 11 0 0 ⟨rfl, rfl⟩ rfl rfl (As := [.int (nI (i)), .int (nI (n))]) (c_X6_isAhead (kl K) hE (σ := σ) (M := (mTn M g)) i n hi64 hn) ml_X6_86 rfl (by decide) (by decide) rfl (Nat.le_of_ble_eq_true rfl) dX6_turns_82 (fun v σ9 h9 => ?_)
            rw [h9.1, h9.2]; clear h9
            rw [mAh_mTn]
            refine g_if_eq h 92 dX6_turns_85 (by decide) (fun c6 => ?_) (fun c6 => ?_)
            · refine g_iconst h (v := 0) dX6_turns_92 (by decide) ?_
              refine g_iadd h dX6_turns_93 ?_
              refine g_is (nI (c + 0)) (nI_add c 0) ?_
              refine g_istore_n h (q := 3) [(0, .ref (ad E 11 0 0)), (1, .int (nI (k))), (2, .int (nI (n))), (3, .int (nI (c + 0))), (4, .int (nI (j))), (5, .int (nI (i))), (6, .int 1)] dX6_turns_94 (by decide) rfl ?_
              refine g_iinc h (q := 4) (v := nI (j + 1)) 4 [(0, .ref (ad E 11 0 0)), (1, .int (nI (k))), (2, .int (nI (n))), (3, .int (nI (c + 0))), (4, .int (nI (j + 1))), (5, .int (nI (i))), (6, .int 1)] dX6_turns_95 rfl (nI_inc j 1) (by decide) rfl ?_
              refine g_goto h 22 dX6_turns_98 (by decide) ?_
              refine ih (j + 1) (c + 0) (by omega) (by omega) (fun lv6 => ?_) _
              have e : ahL M o n (m + 1) j c = ahL M o n m (j + 1) (c + 0) := by
                rw [ahL, ← hi, if_neg (fun q => by rw [bI_0.mp c6] at q; exact absurd q.2.2 (by decide))]
              rw [← e]
              exact hp lv6
            · refine g_iconst h (v := 1) dX6_turns_88 (by decide) ?_
              refine g_goto h 93 dX6_turns_89 (by decide) ?_
              refine g_iadd h dX6_turns_93 ?_
              refine g_is (nI (c + 1)) (nI_add c 1) ?_
              refine g_istore_n h (q := 3) [(0, .ref (ad E 11 0 0)), (1, .int (nI (k))), (2, .int (nI (n))), (3, .int (nI (c + 1))), (4, .int (nI (j))), (5, .int (nI (i))), (6, .int 1)] dX6_turns_94 (by decide) rfl ?_
              refine g_iinc h (q := 4) (v := nI (j + 1)) 4 [(0, .ref (ad E 11 0 0)), (1, .int (nI (k))), (2, .int (nI (n))), (3, .int (nI (c + 1))), (4, .int (nI (j + 1))), (5, .int (nI (i))), (6, .int 1)] dX6_turns_95 rfl (nI_inc j 1) (by decide) rfl ?_
              refine g_goto h 22 dX6_turns_98 (by decide) ?_
              refine ih (j + 1) (c + 1) (by omega) (by omega) (fun lv6 => ?_) _
              have e : ahL M o n (m + 1) j c = ahL M o n m (j + 1) (c + 1) := by
                rw [ahL, ← hi, if_pos ⟨c3, c4, bI_1.mp c6⟩]
              rw [← e]
              exact hp lv6
set_option maxHeartbeats 4000000 in
theorem k_X6_turns {K : KX} {E : EnvT} (hE : EOK E) (h : Cx K E cX6_turns 7 RX6 2 44) {σ : ST} (M : MT) (g : Nat → Int32) (o : Nat → Nat) (z : Nat) (hz : z ≤ 64) (ho : ∀ t, t < z → o t < 64) (hMo : M.2.2.2 = o) (hMz : M.2.1 3 = z) (hp : ∀ lv5, GG K E (sM σ (mTn M (tnG M o z g z))) 140 ([(0, .ref (ad E 11 0 0))] ++ lv5) []) : ∀ m k, k + m = z → ∀ lv5, GG K E (sM σ (mTn M (tnG M o z g k))) 2 ([(0, .ref (ad E 11 0 0)), (1, .int (nI k))] ++ lv5) [] := by
  intro m
  induction m with
  | zero =>
    intro k hk lv5
    have hkz : k = z := by omega
    subst hkz
    refine g_sub [(0, .ref (ad E 11 0 0)), (1, .int (nI k))] [0, 1] rfl ?_
    refine g_iload_n h (q := 1) 1 dX6_turns_2 rfl ?_
    refine g_aload_n h (q := 0) 0 dX6_turns_3 rfl ?_
    refine g_gMn h 3 (by decide) fl_X6_90 dX6_turns_4 ?_
    refine g_is (nI (k)) (by rw [← hMz]; rfl) ?_
    refine g_ncmp_ge h (a := k) (b := k) 140 dX6_turns_7 (by decide) (by omega) (by omega) (fun c1 => ?_) (fun c1 => ?_)
    · exact hp [(1, .int (nI k))]
    · exfalso; omega
  | succ m ih =>
    intro k hk lv5
    refine g_sub [(0, .ref (ad E 11 0 0)), (1, .int (nI k))] [0, 1] rfl ?_
    have hn64 := ho k (by omega)
    obtain ⟨n, hn⟩ : ∃ n, n = o k := ⟨_, rfl⟩
    rw [← hn] at hn64
    have fin : ∀ c, c = mAhd M o z n → ∀ lv5, GG K E (sM σ (mTn M (tnG M o z g k))) 101 ([(0, .ref (ad E 11 0 0)), (1, .int (nI k)), (2, .int (nI n)), (3, .int (nI c))] ++ lv5) [] := by
      intro c hc lv5
      refine g_sub [(0, .ref (ad E 11 0 0)), (1, .int (nI k)), (2, .int (nI n)), (3, .int (nI c))] [0, 1, 2, 3] rfl ?_
      refine g_aload_n h (q := 0) 0 dX6_turns_101 rfl ?_
      refine g_gMa h 3 (by decide) fl_X6_32 dX6_turns_102 ?_
      refine g_iload_n h (q := 1) 1 dX6_turns_105 rfl ?_
      refine g_aload_n h (q := 0) 0 dX6_turns_106 rfl ?_
      refine g_iload_n h (q := 2) 2 dX6_turns_107 rfl ?_
      refine g_iconst h (v := 0) dX6_turns_108 (by decide) ?_
      refine g_callV h mv_X6_of 11 0 0 ⟨rfl, rfl⟩ rfl rfl (As := [.int (nI (n)), .int 0]) (c_X6_of (kl K) hE (σ := σ) (M := (mTn M (tnG M o z g k))) n 0 hn64 (by decide)) ml_X6_70 rfl (by decide) (by decide) rfl (Nat.le_of_ble_eq_true rfl) dX6_turns_109 (fun v σ9 h9 => ?_)
      rw [h9.1, h9.2]; clear h9
      rw [mOf_mTn]
      refine g_iconst h (v := 2) dX6_turns_112 (by decide) ?_
      refine g_icmp_ne h 120 dX6_turns_113 (by decide) (fun c2 => ?_) (fun c2 => ?_)
      · refine g_iload_n h (q := 3) 3 dX6_turns_120 rfl ?_
        refine g_aload_n h (q := 0) 0 dX6_turns_121 rfl ?_
        refine g_gMc h 1 (by decide) fl_X6_13 dX6_turns_122 ?_
        refine g_is (M.1 1) (rfl) ?_
        refine g_icmp_ge h 132 dX6_turns_125 (by decide) (fun c3 => ?_) (fun c3 => ?_)
        · refine g_iconst h (v := 4) dX6_turns_132 (by decide) ?_
          refine g_sA h 3 (by decide) (k) (show k < 64 by omega) dX6_turns_133 (fun M1 hM1 => ?_)
          refine g_iinc h (q := 1) (v := nI (k + 1)) 1 [(0, .ref (ad E 11 0 0)), (1, .int (nI (k + 1))), (2, .int (nI (n))), (3, .int (nI (c)))] dX6_turns_134 rfl (nI_inc k 1) (by decide) rfl ?_
          refine g_goto h 2 dX6_turns_137 (by decide) ?_
          have e : mTv M o z n = 4 := by rw [mTv, if_neg c2, ← hc, if_neg (i_nlt c3)]
          rw [show M1 = mTn M (tnG M o z g (k + 1)) by rw [hM1, ← tnG_s, ← hn, e]; simp [mTn, bx_uu, up_s]]
          exact ih (k + 1) (by omega) [(2, .int (nI n)), (3, .int (nI c))]
        · refine g_iconst h (v := 1) dX6_turns_128 (by decide) ?_
          refine g_goto h 133 dX6_turns_129 (by decide) ?_
          refine g_sA h 3 (by decide) (k) (show k < 64 by omega) dX6_turns_133 (fun M2 hM2 => ?_)
          refine g_iinc h (q := 1) (v := nI (k + 1)) 1 [(0, .ref (ad E 11 0 0)), (1, .int (nI (k + 1))), (2, .int (nI (n))), (3, .int (nI (c)))] dX6_turns_134 rfl (nI_inc k 1) (by decide) rfl ?_
          refine g_goto h 2 dX6_turns_137 (by decide) ?_
          have e : mTv M o z n = 1 := by rw [mTv, if_neg c2, ← hc, if_pos (i_lt c3)]
          rw [show M2 = mTn M (tnG M o z g (k + 1)) by rw [hM2, ← tnG_s, ← hn, e]; simp [mTn, bx_uu, up_s]]
          exact ih (k + 1) (by omega) [(2, .int (nI n)), (3, .int (nI c))]
      · refine g_iconst h (v := 2) dX6_turns_116 (by decide) ?_
        refine g_goto h 133 dX6_turns_117 (by decide) ?_
        refine g_sA h 3 (by decide) (k) (show k < 64 by omega) dX6_turns_133 (fun M3 hM3 => ?_)
        refine g_iinc h (q := 1) (v := nI (k + 1)) 1 [(0, .ref (ad E 11 0 0)), (1, .int (nI (k + 1))), (2, .int (nI (n))), (3, .int (nI (c)))] dX6_turns_134 rfl (nI_inc k 1) (by decide) rfl ?_
        refine g_goto h 2 dX6_turns_137 (by decide) ?_
        have e : mTv M o z n = 2 := by rw [mTv, if_pos c2]
        rw [show M3 = mTn M (tnG M o z g (k + 1)) by rw [hM3, ← tnG_s, ← hn, e]; simp [mTn, bx_uu, up_s]]
        exact ih (k + 1) (by omega) [(2, .int (nI n)), (3, .int (nI c))]
    refine g_iload_n h (q := 1) 1 dX6_turns_2 rfl ?_
    refine g_aload_n h (q := 0) 0 dX6_turns_3 rfl ?_
    refine g_gMn h 3 (by decide) fl_X6_90 dX6_turns_4 ?_
    refine g_is (nI (z)) (by rw [← hMz]; rfl) ?_
    refine g_ncmp_ge h (a := k) (b := z) 140 dX6_turns_7 (by decide) (by omega) (by omega) (fun c1 => ?_) (fun c1 => ?_)
    · exfalso; omega
    · refine g_aload_n h (q := 0) 0 dX6_turns_10 rfl ?_
      refine g_gMo h fl_X6_29 dX6_turns_11 ?_
      refine g_iload_n h (q := 1) 1 dX6_turns_14 rfl ?_
      refine g_lO h (k) (by omega) dX6_turns_15 ?_
      refine g_is (nI (n)) (by rw [hn, ← hMo]; rfl) ?_
      refine g_istore_n h (q := 2) [(0, .ref (ad E 11 0 0)), (1, .int (nI (k))), (2, .int (nI (n)))] dX6_turns_16 (by decide) rfl ?_
      refine g_iconst h (v := 0) dX6_turns_17 (by decide) ?_
      refine g_istore_n h (q := 3) [(0, .ref (ad E 11 0 0)), (1, .int (nI (k))), (2, .int (nI (n))), (3, .int 0)] dX6_turns_18 (by decide) rfl ?_
      refine g_iconst h (v := 0) dX6_turns_19 (by decide) ?_
      refine g_istore h (q := 4) [(0, .ref (ad E 11 0 0)), (1, .int (nI (k))), (2, .int (nI (n))), (3, .int 0), (4, .int 0)] dX6_turns_20 (by decide) rfl ?_
      by_cases hin : mIn M n = true
      · exact i_X6_turns hE h M (tnG M o z g k) o z hz ho hMo hMz k n hn64 hin z 0 0 (Nat.zero_add _) (Nat.le_refl _) (fun lv6 => fin _ (by rw [mAhd, if_pos hin]) lv6) []
      · refine g_iload h (q := 4) 4 dX6_turns_22 rfl ?_
        refine g_aload_n h (q := 0) 0 dX6_turns_24 rfl ?_
        refine g_gMn h 3 (by decide) fl_X6_90 dX6_turns_25 ?_
        refine g_is (nI (z)) (by rw [← hMz]; rfl) ?_
        refine g_ncmp_ge h (a := 0) (b := z) 101 dX6_turns_28 (by decide) (by omega) (by omega) (fun c4 => ?_) (fun c4 => ?_)
        · exact fin 0 (by rw [mAhd, if_neg hin]) [(4, .int (nI 0))]
        · refine g_aload_n h (q := 0) 0 dX6_turns_31 rfl ?_
          refine g_iload_n h (q := 2) 2 dX6_turns_32 rfl ?_
          refine g_callV h mv_X6_isIn 11 0 0 ⟨rfl, rfl⟩ rfl rfl (As := [.int (nI (n))]) (c_X6_isIn (kl K) hE (σ := σ) (M := (mTn M (tnG M o z g k))) n hn64) ml_X6_93 rfl (by decide) (by decide) rfl (Nat.le_of_ble_eq_true rfl) dX6_turns_33 (fun v σ9 h9 => ?_)
          rw [h9.1, h9.2]; clear h9
          rw [mIn_mTn]
          refine g_if_eq h 101 dX6_turns_36 (by decide) (fun c5 => ?_) (fun c5 => ?_)
          · exact fin 0 (by rw [mAhd, if_neg hin]) [(4, .int (nI 0))]
          · exact absurd (bI_1.mp c5) hin
set_option maxHeartbeats 4000000 in
theorem l_X6_turns {K : KX} {E : EnvT} (hE : EOK E) (h : Cx K E cX6_turns 7 RX6 2 44) {σ : ST} {post : Option Value → ST → Prop} (hR : Rx K E none post) (o : Nat → Nat) (g : Nat → Int32) (z : Nat) (hz : z ≤ 64) (ho : ∀ t, t < z → o t < 64) : ∀ m k M, k + m = z → M.2.2.2 = o → M.2.1 3 = z → M.2.2.1 3 = g → post none (sM σ (t2L o g m k M)) → GG K E (sM σ M) 142 [(0, .ref (ad E 11 0 0)), (1, .int (nI k))] [] := by
  intro m
  induction m with
  | zero =>
    intro k M hk hMo hMz hMg hp
    refine g_iload_n h (q := 1) 1 dX6_turns_142 rfl ?_
    refine g_aload_n h (q := 0) 0 dX6_turns_143 rfl ?_
    refine g_gMn h 3 (by decide) fl_X6_90 dX6_turns_144 ?_
    refine g_is (nI (z)) (by rw [hMz]) ?_
    refine g_ncmp_ge h (a := k) (b := z) 234 dX6_turns_147 (by decide) (by omega) (by omega) (fun c1 => ?_) (fun c1 => ?_)
    · exact g_vret h hR dX6_turns_234 (hp)
    · exfalso; omega
  | succ m ih =>
    intro k M hk hMo hMz hMg hp
    have hn64 := ho k (by omega)
    obtain ⟨n, hn⟩ : ∃ n, n = o k := ⟨_, rfl⟩
    rw [← hn] at hn64
    obtain ⟨t, ht⟩ : ∃ t, t = g k := ⟨_, rfl⟩
    refine g_iload_n h (q := 1) 1 dX6_turns_142 rfl ?_
    refine g_aload_n h (q := 0) 0 dX6_turns_143 rfl ?_
    refine g_gMn h 3 (by decide) fl_X6_90 dX6_turns_144 ?_
    refine g_is (nI (z)) (by rw [hMz]) ?_
    refine g_ncmp_ge h (a := k) (b := z) 234 dX6_turns_147 (by decide) (by omega) (by omega) (fun c1 => ?_) (fun c1 => ?_)
    · exfalso; omega
    · refine g_aload_n h (q := 0) 0 dX6_turns_150 rfl ?_
      refine g_gMo h fl_X6_29 dX6_turns_151 ?_
      refine g_iload_n h (q := 1) 1 dX6_turns_154 rfl ?_
      refine g_lO h (k) (by omega) dX6_turns_155 ?_
      refine g_is (nI (n)) (by rw [hMo, hn]) ?_
      refine g_istore_n h (q := 2) [(0, .ref (ad E 11 0 0)), (1, .int (nI (k))), (2, .int (nI (n)))] dX6_turns_156 (by decide) rfl ?_
      refine g_aload_n h (q := 0) 0 dX6_turns_157 rfl ?_
      refine g_iload_n h (q := 2) 2 dX6_turns_158 rfl ?_
      refine g_iconst h (v := 0) dX6_turns_159 (by decide) ?_
      refine g_aload_n h (q := 0) 0 dX6_turns_160 rfl ?_
      refine g_gMa h 3 (by decide) fl_X6_32 dX6_turns_161 ?_
      refine g_iload_n h (q := 1) 1 dX6_turns_164 rfl ?_
      refine g_lM h 3 (by decide) (k) (show k < 64 by omega) dX6_turns_165 ?_
      refine g_is (t) (by rw [hMg, ht]) ?_
      refine g_callV h mv_X6_sets 11 0 0 ⟨rfl, rfl⟩ rfl rfl (As := [.int (nI (n)), .int 0, .int t]) (c_X6_sets (kl K) hE (σ := σ) (M := M) n 0 hn64 (by decide) (t)) ml_X6_82 rfl (by decide) (by decide) rfl (Nat.le_of_ble_eq_true rfl) dX6_turns_166 (fun v σ9 h9 => ?_)
      rw [h9.1, h9.2]; clear h9
      obtain ⟨Ma, hMa⟩ : ∃ X, X = mSet M n 0 (t) := ⟨_, rfl⟩
      rw [← hMa]
      refine g_aload_n h (q := 0) 0 dX6_turns_169 rfl ?_
      refine g_iload_n h (q := 2) 2 dX6_turns_170 rfl ?_
      refine g_bipush h (v := 6) dX6_turns_171 (by decide) ?_
      refine g_aload_n h (q := 0) 0 dX6_turns_173 rfl ?_
      refine g_iload_n h (q := 2) 2 dX6_turns_174 rfl ?_
      refine g_bipush h (v := 6) dX6_turns_175 (by decide) ?_
      refine g_callV h mv_X6_of 11 0 0 ⟨rfl, rfl⟩ rfl rfl (As := [.int (nI (n)), .int 6]) (c_X6_of (kl K) hE (σ := σ) (M := Ma) n 6 hn64 (by decide)) ml_X6_70 rfl (by decide) (by decide) rfl (Nat.le_of_ble_eq_true rfl) dX6_turns_177 (fun v σ9 h9 => ?_)
      rw [h9.1, h9.2]; clear h9
      refine g_aload_n h (q := 0) 0 dX6_turns_180 rfl ?_
      refine g_gMa h 3 (by decide) fl_X6_32 dX6_turns_181 ?_
      refine g_iload_n h (q := 1) 1 dX6_turns_184 rfl ?_
      refine g_lM h 3 (by decide) (k) (show k < 64 by omega) dX6_turns_185 ?_
      refine g_is (t) (by rw [hMa]; simp [mSet, va_up, hMg, ht]) ?_
      refine g_iconst h (v := 1) dX6_turns_186 (by decide) ?_
      refine g_icmp_ne h 194 dX6_turns_187 (by decide) (fun c2 => ?_) (fun c2 => ?_)
      · refine g_iconst h (v := 0) dX6_turns_194 (by decide) ?_
        refine g_iadd h dX6_turns_195 ?_
        refine g_callV h mv_X6_sets 11 0 0 ⟨rfl, rfl⟩ rfl rfl (As := [.int (nI (n)), .int 6, .int ((mOf Ma n 6) + 0)]) (c_X6_sets (kl K) hE (σ := σ) (M := Ma) n 6 hn64 (by decide) (mOf Ma n 6 + 0)) ml_X6_82 rfl (by decide) (by decide) rfl (Nat.le_of_ble_eq_true rfl) dX6_turns_196 (fun v σ9 h9 => ?_)
        rw [h9.1, h9.2]; clear h9
        obtain ⟨Mb, hMb⟩ : ∃ X, X = mSet Ma n 6 (mOf Ma n 6 + 0) := ⟨_, rfl⟩
        rw [← hMb]
        refine g_aload_n h (q := 0) 0 dX6_turns_199 rfl ?_
        refine g_iload_n h (q := 2) 2 dX6_turns_200 rfl ?_
        refine g_iconst h (v := 5) dX6_turns_201 (by decide) ?_
        refine g_aload_n h (q := 0) 0 dX6_turns_202 rfl ?_
        refine g_gMa h 3 (by decide) fl_X6_32 dX6_turns_203 ?_
        refine g_iload_n h (q := 1) 1 dX6_turns_206 rfl ?_
        refine g_lM h 3 (by decide) (k) (show k < 64 by omega) dX6_turns_207 ?_
        refine g_is (t) (by rw [hMb, hMa]; simp [mSet, va_up, hMg, ht]) ?_
        refine g_iconst h (v := 4) dX6_turns_208 (by decide) ?_
        refine g_icmp_ne h 219 dX6_turns_209 (by decide) (fun c3 => ?_) (fun c3 => ?_)
        · refine g_aload_n h (q := 0) 0 dX6_turns_219 rfl ?_
          refine g_iload_n h (q := 2) 2 dX6_turns_220 rfl ?_
          refine g_iconst h (v := 5) dX6_turns_221 (by decide) ?_
          refine g_callV h mv_X6_of 11 0 0 ⟨rfl, rfl⟩ rfl rfl (As := [.int (nI (n)), .int 5]) (c_X6_of (kl K) hE (σ := σ) (M := Mb) n 5 hn64 (by decide)) ml_X6_70 rfl (by decide) (by decide) rfl (Nat.le_of_ble_eq_true rfl) dX6_turns_222 (fun v σ9 h9 => ?_)
          rw [h9.1, h9.2]; clear h9
          refine g_callV h mv_X6_sets 11 0 0 ⟨rfl, rfl⟩ rfl rfl (As := [.int (nI (n)), .int 5, .int (mOf Mb n 5)]) (c_X6_sets (kl K) hE (σ := σ) (M := Mb) n 5 hn64 (by decide) (mOf Mb n 5)) ml_X6_82 rfl (by decide) (by decide) rfl (Nat.le_of_ble_eq_true rfl) dX6_turns_225 (fun v σ9 h9 => ?_)
          rw [h9.1, h9.2]; clear h9
          obtain ⟨Mc, hMc⟩ : ∃ X, X = mSet Mb n 5 (mOf Mb n 5) := ⟨_, rfl⟩
          rw [← hMc]
          refine g_iinc h (q := 1) (v := nI (k + 1)) 1 [(0, .ref (ad E 11 0 0)), (1, .int (nI (k + 1))), (2, .int (nI (n)))] dX6_turns_228 rfl (nI_inc k 1) (by decide) rfl ?_
          refine g_goto h 142 dX6_turns_231 (by decide) ?_
          refine g_sub [(0, .ref (ad E 11 0 0)), (1, .int (nI (k + 1)))] [0, 1] rfl ?_
          have e2 : Mc = mT2 M n t := by rw [mT2, if_neg c2, if_neg c3, hMc, hMb, hMa]
          rw [e2]
          rw [t2L, ← hn, ← ht] at hp
          exact ih (k + 1) (mT2 M n t) (by omega) hMo hMz (by rw [← hMg]; simp [mT2, mSet, va_up]) hp
        · refine g_aload_n h (q := 0) 0 dX6_turns_212 rfl ?_
          refine g_gMc h 3 (by decide) fl_X6_47 dX6_turns_213 ?_
          refine g_is (M.1 3) (by rw [hMb, hMa]; rfl) ?_
          refine g_goto h 225 dX6_turns_216 (by decide) ?_
          refine g_callV h mv_X6_sets 11 0 0 ⟨rfl, rfl⟩ rfl rfl (As := [.int (nI (n)), .int 5, .int (M.1 3)]) (c_X6_sets (kl K) hE (σ := σ) (M := Mb) n 5 hn64 (by decide) (M.1 3)) ml_X6_82 rfl (by decide) (by decide) rfl (Nat.le_of_ble_eq_true rfl) dX6_turns_225 (fun v σ9 h9 => ?_)
          rw [h9.1, h9.2]; clear h9
          obtain ⟨Mc, hMc⟩ : ∃ X, X = mSet Mb n 5 (M.1 3) := ⟨_, rfl⟩
          rw [← hMc]
          refine g_iinc h (q := 1) (v := nI (k + 1)) 1 [(0, .ref (ad E 11 0 0)), (1, .int (nI (k + 1))), (2, .int (nI (n)))] dX6_turns_228 rfl (nI_inc k 1) (by decide) rfl ?_
          refine g_goto h 142 dX6_turns_231 (by decide) ?_
          refine g_sub [(0, .ref (ad E 11 0 0)), (1, .int (nI (k + 1)))] [0, 1] rfl ?_
          have e2 : Mc = mT2 M n t := by rw [mT2, if_neg c2, if_pos c3, hMc, hMb, hMa]
          rw [e2]
          rw [t2L, ← hn, ← ht] at hp
          exact ih (k + 1) (mT2 M n t) (by omega) hMo hMz (by rw [← hMg]; simp [mT2, mSet, va_up]) hp
      · refine g_iconst h (v := 1) dX6_turns_190 (by decide) ?_
        refine g_goto h 195 dX6_turns_191 (by decide) ?_
        refine g_iadd h dX6_turns_195 ?_
        refine g_callV h mv_X6_sets 11 0 0 ⟨rfl, rfl⟩ rfl rfl (As := [.int (nI (n)), .int 6, .int ((mOf Ma n 6) + 1)]) (c_X6_sets (kl K) hE (σ := σ) (M := Ma) n 6 hn64 (by decide) (mOf Ma n 6 + 1)) ml_X6_82 rfl (by decide) (by decide) rfl (Nat.le_of_ble_eq_true rfl) dX6_turns_196 (fun v σ9 h9 => ?_)
        rw [h9.1, h9.2]; clear h9
        obtain ⟨Mb, hMb⟩ : ∃ X, X = mSet Ma n 6 (mOf Ma n 6 + 1) := ⟨_, rfl⟩
        rw [← hMb]
        refine g_aload_n h (q := 0) 0 dX6_turns_199 rfl ?_
        refine g_iload_n h (q := 2) 2 dX6_turns_200 rfl ?_
        refine g_iconst h (v := 5) dX6_turns_201 (by decide) ?_
        refine g_aload_n h (q := 0) 0 dX6_turns_202 rfl ?_
        refine g_gMa h 3 (by decide) fl_X6_32 dX6_turns_203 ?_
        refine g_iload_n h (q := 1) 1 dX6_turns_206 rfl ?_
        refine g_lM h 3 (by decide) (k) (show k < 64 by omega) dX6_turns_207 ?_
        refine g_is (t) (by rw [hMb, hMa]; simp [mSet, va_up, hMg, ht]) ?_
        refine g_iconst h (v := 4) dX6_turns_208 (by decide) ?_
        refine g_icmp_ne h 219 dX6_turns_209 (by decide) (fun c3 => ?_) (fun c3 => ?_)
        · refine g_aload_n h (q := 0) 0 dX6_turns_219 rfl ?_
          refine g_iload_n h (q := 2) 2 dX6_turns_220 rfl ?_
          refine g_iconst h (v := 5) dX6_turns_221 (by decide) ?_
          refine g_callV h mv_X6_of 11 0 0 ⟨rfl, rfl⟩ rfl rfl (As := [.int (nI (n)), .int 5]) (c_X6_of (kl K) hE (σ := σ) (M := Mb) n 5 hn64 (by decide)) ml_X6_70 rfl (by decide) (by decide) rfl (Nat.le_of_ble_eq_true rfl) dX6_turns_222 (fun v σ9 h9 => ?_)
          rw [h9.1, h9.2]; clear h9
          refine g_callV h mv_X6_sets 11 0 0 ⟨rfl, rfl⟩ rfl rfl (As := [.int (nI (n)), .int 5, .int (mOf Mb n 5)]) (c_X6_sets (kl K) hE (σ := σ) (M := Mb) n 5 hn64 (by decide) (mOf Mb n 5)) ml_X6_82 rfl (by decide) (by decide) rfl (Nat.le_of_ble_eq_true rfl) dX6_turns_225 (fun v σ9 h9 => ?_)
          rw [h9.1, h9.2]; clear h9
          obtain ⟨Mc, hMc⟩ : ∃ X, X = mSet Mb n 5 (mOf Mb n 5) := ⟨_, rfl⟩
          rw [← hMc]
          refine g_iinc h (q := 1) (v := nI (k + 1)) 1 [(0, .ref (ad E 11 0 0)), (1, .int (nI (k + 1))), (2, .int (nI (n)))] dX6_turns_228 rfl (nI_inc k 1) (by decide) rfl ?_
          refine g_goto h 142 dX6_turns_231 (by decide) ?_
          refine g_sub [(0, .ref (ad E 11 0 0)), (1, .int (nI (k + 1)))] [0, 1] rfl ?_
          have e2 : Mc = mT2 M n t := by rw [mT2, if_pos c2, if_neg c3, hMc, hMb, hMa]
          rw [e2]
          rw [t2L, ← hn, ← ht] at hp
          exact ih (k + 1) (mT2 M n t) (by omega) hMo hMz (by rw [← hMg]; simp [mT2, mSet, va_up]) hp
        · refine g_aload_n h (q := 0) 0 dX6_turns_212 rfl ?_
          refine g_gMc h 3 (by decide) fl_X6_47 dX6_turns_213 ?_
          refine g_is (M.1 3) (by rw [hMb, hMa]; rfl) ?_
          refine g_goto h 225 dX6_turns_216 (by decide) ?_
          refine g_callV h mv_X6_sets 11 0 0 ⟨rfl, rfl⟩ rfl rfl (As := [.int (nI (n)), .int 5, .int (M.1 3)]) (c_X6_sets (kl K) hE (σ := σ) (M := Mb) n 5 hn64 (by decide) (M.1 3)) ml_X6_82 rfl (by decide) (by decide) rfl (Nat.le_of_ble_eq_true rfl) dX6_turns_225 (fun v σ9 h9 => ?_)
          rw [h9.1, h9.2]; clear h9
          obtain ⟨Mc, hMc⟩ : ∃ X, X = mSet Mb n 5 (M.1 3) := ⟨_, rfl⟩
          rw [← hMc]
          refine g_iinc h (q := 1) (v := nI (k + 1)) 1 [(0, .ref (ad E 11 0 0)), (1, .int (nI (k + 1))), (2, .int (nI (n)))] dX6_turns_228 rfl (nI_inc k 1) (by decide) rfl ?_
          refine g_goto h 142 dX6_turns_231 (by decide) ?_
          refine g_sub [(0, .ref (ad E 11 0 0)), (1, .int (nI (k + 1)))] [0, 1] rfl ?_
          have e2 : Mc = mT2 M n t := by rw [mT2, if_pos c2, if_pos c3, hMc, hMb, hMa]
          rw [e2]
          rw [t2L, ← hn, ← ht] at hp
          exact ih (k + 1) (mT2 M n t) (by omega) hMo hMz (by rw [← hMg]; simp [mT2, mSet, va_up]) hp
set_option maxHeartbeats 4000000 in
theorem c_X6_turns (l : Launch) {E : EnvT} (hE : EOK E) {σ : ST} {M : MT} (hz : M.2.1 3 ≤ 64) (ho : ∀ t, t < M.2.1 3 → M.2.2.2 t < 64) : Con l E yX6_turns cX6_turns 7 none 2 44 [.ref (ad E 11 0 0)] (sM σ M) (rV (sM σ (mTurns M))) := by
  refine con_intro hE (by decide) (Nat.le_of_ble_eq_true rfl) (fun K hkl h hR => ?_)
  subst hkl
  have h : Cx K E cX6_turns 7 RX6 2 44 := h
  show GG K E (sM σ M) 0 [(0, .ref (ad E 11 0 0))] []
  refine g_iconst h (v := 0) dX6_turns_0 (by decide) ?_
  refine g_istore_n h (q := 1) [(0, .ref (ad E 11 0 0)), (1, .int 0)] dX6_turns_1 (by decide) rfl ?_
  have e0 : M = mTn M (tnG M M.2.2.2 (M.2.1 3) (M.2.2.1 3) 0) := by
    have e1 : tnG M M.2.2.2 (M.2.1 3) (M.2.2.1 3) 0 = M.2.2.1 3 := by funext t; simp [tnG]
    rw [e1]; simp [mTn, up_id]
  rw [show GG K E (sM σ M) = GG K E (sM σ (mTn M (tnG M M.2.2.2 (M.2.1 3) (M.2.2.1 3) 0))) from congrArg (fun X => GG K E (sM σ X)) e0]
  refine k_X6_turns hE h M (M.2.2.1 3) M.2.2.2 (M.2.1 3) hz ho rfl rfl (fun lv5 => ?_) (M.2.1 3) 0 (Nat.zero_add _) []
  refine g_sub [(0, .ref (ad E 11 0 0))] [0] rfl ?_
  refine g_iconst h (v := 0) dX6_turns_140 (by decide) ?_
  refine g_istore_n h (q := 1) [(0, .ref (ad E 11 0 0)), (1, .int 0)] dX6_turns_141 (by decide) rfl ?_
  exact l_X6_turns hE h hR M.2.2.2 _ (M.2.1 3) hz ho (M.2.1 3) 0 _ (Nat.zero_add _) rfl rfl (by simp [mTn, up_s]) ⟨rfl, rfl⟩
end
