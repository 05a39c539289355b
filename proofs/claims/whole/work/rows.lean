section
-- ===== PART A: goes FIRST, ahead of the names: the tables' words, and 'selects' of the private methods out of them =====
/-- a private method of a class that the tables say can be made, by its rows of tables_1 -/
def lw_okq (q : MethodName × Nat) : Prop := (q.1.cls ≠ "java/lang/invoke/MethodHandle" ∧ q.1.cls ≠ "java/lang/invoke/VarHandle") ∧ Cond.instantiable q.1.cls q.2 ∈ tables_1 ∧ Cond.privateMethod q.1 ∈ tables_1 ∧ Cond.instanceMethod q.1 ∈ tables_1
theorem lw_p0 : lw_okq (⟨"TentYard", "goTogether", "(I)Z"⟩, 8) := ⟨⟨by decide +kernel, by decide +kernel⟩, List.mem_of_getElem? (i := 14) (by decide +kernel), List.mem_of_getElem? (i := 261) (by decide +kernel), List.mem_of_getElem? (i := 262) (by decide +kernel)⟩
theorem lw_p1 : lw_okq (⟨"TentYard", "countAnew", "(I)V"⟩, 8) := ⟨⟨by decide +kernel, by decide +kernel⟩, List.mem_of_getElem? (i := 14) (by decide +kernel), List.mem_of_getElem? (i := 265) (by decide +kernel), List.mem_of_getElem? (i := 266) (by decide +kernel)⟩
theorem lw_p2 : lw_okq (⟨"TentYard", "countOn", "(I)V"⟩, 8) := ⟨⟨by decide +kernel, by decide +kernel⟩, List.mem_of_getElem? (i := 14) (by decide +kernel), List.mem_of_getElem? (i := 274) (by decide +kernel), List.mem_of_getElem? (i := 275) (by decide +kernel)⟩
theorem lw_p3 : lw_okq (⟨"TentYard", "enter", "(II)V"⟩, 8) := ⟨⟨by decide +kernel, by decide +kernel⟩, List.mem_of_getElem? (i := 14) (by decide +kernel), List.mem_of_getElem? (i := 278) (by decide +kernel), List.mem_of_getElem? (i := 279) (by decide +kernel)⟩
theorem lw_p4 : lw_okq (⟨"TentYard", "stands", "(II)Z"⟩, 8) := ⟨⟨by decide +kernel, by decide +kernel⟩, List.mem_of_getElem? (i := 14) (by decide +kernel), List.mem_of_getElem? (i := 418) (by decide +kernel), List.mem_of_getElem? (i := 419) (by decide +kernel)⟩
theorem lw_p5 : lw_okq (⟨"TentYard", "sendCrews", "(II)V"⟩, 8) := ⟨⟨by decide +kernel, by decide +kernel⟩, List.mem_of_getElem? (i := 14) (by decide +kernel), List.mem_of_getElem? (i := 430) (by decide +kernel), List.mem_of_getElem? (i := 431) (by decide +kernel)⟩
theorem lw_p6 : lw_okq (⟨"TentYard$Crews", "startWithOne", "()V"⟩, 7) := ⟨⟨by decide +kernel, by decide +kernel⟩, List.mem_of_getElem? (i := 160) (by decide +kernel), List.mem_of_getElem? (i := 450) (by decide +kernel), List.mem_of_getElem? (i := 451) (by decide +kernel)⟩
theorem lw_p7 : lw_okq (⟨"TentYard$Crews", "nextWay", "(I)V"⟩, 7) := ⟨⟨by decide +kernel, by decide +kernel⟩, List.mem_of_getElem? (i := 160) (by decide +kernel), List.mem_of_getElem? (i := 455) (by decide +kernel), List.mem_of_getElem? (i := 456) (by decide +kernel)⟩
theorem lw_p8 : lw_okq (⟨"TentYard$Crews", "greatestSum", "()I"⟩, 7) := ⟨⟨by decide +kernel, by decide +kernel⟩, List.mem_of_getElem? (i := 160) (by decide +kernel), List.mem_of_getElem? (i := 459) (by decide +kernel), List.mem_of_getElem? (i := 460) (by decide +kernel)⟩
theorem lw_p9 : lw_okq (⟨"TentYard", "weightOf", "(I)I"⟩, 8) := ⟨⟨by decide +kernel, by decide +kernel⟩, List.mem_of_getElem? (i := 14) (by decide +kernel), List.mem_of_getElem? (i := 479) (by decide +kernel), List.mem_of_getElem? (i := 480) (by decide +kernel)⟩
theorem lw_p10 : lw_okq (⟨"TentYard", "total", "(I)I"⟩, 8) := ⟨⟨by decide +kernel, by decide +kernel⟩, List.mem_of_getElem? (i := 14) (by decide +kernel), List.mem_of_getElem? (i := 487) (by decide +kernel), List.mem_of_getElem? (i := 488) (by decide +kernel)⟩
theorem lw_p11 : lw_okq (⟨"TentYardModel", "isField", "(I)Z"⟩, 28) := ⟨⟨by decide +kernel, by decide +kernel⟩, List.mem_of_getElem? (i := 501) (by decide +kernel), List.mem_of_getElem? (i := 614) (by decide +kernel), List.mem_of_getElem? (i := 615) (by decide +kernel)⟩
theorem lw_p12 : lw_okq (⟨"TentYardModel", "findUses", "()V"⟩, 28) := ⟨⟨by decide +kernel, by decide +kernel⟩, List.mem_of_getElem? (i := 501) (by decide +kernel), List.mem_of_getElem? (i := 626) (by decide +kernel), List.mem_of_getElem? (i := 627) (by decide +kernel)⟩
theorem lw_p13 : lw_okq (⟨"TentYardModel", "all", "(I)I"⟩, 28) := ⟨⟨by decide +kernel, by decide +kernel⟩, List.mem_of_getElem? (i := 501) (by decide +kernel), List.mem_of_getElem? (i := 630) (by decide +kernel), List.mem_of_getElem? (i := 631) (by decide +kernel)⟩
theorem lw_p14 : lw_okq (⟨"TentYardModel", "isFit", "(I)Z"⟩, 28) := ⟨⟨by decide +kernel, by decide +kernel⟩, List.mem_of_getElem? (i := 501) (by decide +kernel), List.mem_of_getElem? (i := 634) (by decide +kernel), List.mem_of_getElem? (i := 635) (by decide +kernel)⟩
theorem lw_p15 : lw_okq (⟨"TentYardModel", "lackOf", "(III)I"⟩, 28) := ⟨⟨by decide +kernel, by decide +kernel⟩, List.mem_of_getElem? (i := 501) (by decide +kernel), List.mem_of_getElem? (i := 638) (by decide +kernel), List.mem_of_getElem? (i := 639) (by decide +kernel)⟩
def lw_privs_1 : List (MethodName × Nat) := [(⟨"TentYard", "goTogether", "(I)Z"⟩, 8), (⟨"TentYard", "countAnew", "(I)V"⟩, 8), (⟨"TentYard", "countOn", "(I)V"⟩, 8), (⟨"TentYard", "enter", "(II)V"⟩, 8), (⟨"TentYard", "stands", "(II)Z"⟩, 8), (⟨"TentYard", "sendCrews", "(II)V"⟩, 8), (⟨"TentYard$Crews", "startWithOne", "()V"⟩, 7), (⟨"TentYard$Crews", "nextWay", "(I)V"⟩, 7), (⟨"TentYard$Crews", "greatestSum", "()I"⟩, 7), (⟨"TentYard", "weightOf", "(I)I"⟩, 8), (⟨"TentYard", "total", "(I)I"⟩, 8), (⟨"TentYardModel", "isField", "(I)Z"⟩, 28), (⟨"TentYardModel", "findUses", "()V"⟩, 28), (⟨"TentYardModel", "all", "(I)I"⟩, 28), (⟨"TentYardModel", "isFit", "(I)Z"⟩, 28), (⟨"TentYardModel", "lackOf", "(III)I"⟩, 28)]
theorem lw_r1 : ∀ q ∈ lw_privs_1, lw_okq q := List.forall_mem_cons.mpr ⟨lw_p0, List.forall_mem_cons.mpr ⟨lw_p1, List.forall_mem_cons.mpr ⟨lw_p2, List.forall_mem_cons.mpr ⟨lw_p3, List.forall_mem_cons.mpr ⟨lw_p4, List.forall_mem_cons.mpr ⟨lw_p5, List.forall_mem_cons.mpr ⟨lw_p6, List.forall_mem_cons.mpr ⟨lw_p7, List.forall_mem_cons.mpr ⟨lw_p8, List.forall_mem_cons.mpr ⟨lw_p9, List.forall_mem_cons.mpr ⟨lw_p10, List.forall_mem_cons.mpr ⟨lw_p11, List.forall_mem_cons.mpr ⟨lw_p12, List.forall_mem_cons.mpr ⟨lw_p13, List.forall_mem_cons.mpr ⟨lw_p14, List.forall_mem_cons.mpr ⟨lw_p15, fun _ h => absurd h List.not_mem_nil⟩⟩⟩⟩⟩⟩⟩⟩⟩⟩⟩⟩⟩⟩⟩⟩
theorem lw_p16 : lw_okq (⟨"TentYardModel", "hiredFor", "(I)J"⟩, 28) := ⟨⟨by decide +kernel, by decide +kernel⟩, List.mem_of_getElem? (i := 501) (by decide +kernel), List.mem_of_getElem? (i := 646) (by decide +kernel), List.mem_of_getElem? (i := 647) (by decide +kernel)⟩
theorem lw_p17 : lw_okq (⟨"TentYardModel", "aboutOf", "(II)I"⟩, 28) := ⟨⟨by decide +kernel, by decide +kernel⟩, List.mem_of_getElem? (i := 501) (by decide +kernel), List.mem_of_getElem? (i := 674) (by decide +kernel), List.mem_of_getElem? (i := 675) (by decide +kernel)⟩
theorem lw_p18 : lw_okq (⟨"TentYardModel", "isSet", "(I)Z"⟩, 28) := ⟨⟨by decide +kernel, by decide +kernel⟩, List.mem_of_getElem? (i := 501) (by decide +kernel), List.mem_of_getElem? (i := 686) (by decide +kernel), List.mem_of_getElem? (i := 687) (by decide +kernel)⟩
theorem lw_p19 : lw_okq (⟨"TentYardModel", "prices", "(I)I"⟩, 28) := ⟨⟨by decide +kernel, by decide +kernel⟩, List.mem_of_getElem? (i := 501) (by decide +kernel), List.mem_of_getElem? (i := 694) (by decide +kernel), List.mem_of_getElem? (i := 695) (by decide +kernel)⟩
theorem lw_p20 : lw_okq (⟨"TentYardModel", "doorsFor", "(I)I"⟩, 28) := ⟨⟨by decide +kernel, by decide +kernel⟩, List.mem_of_getElem? (i := 501) (by decide +kernel), List.mem_of_getElem? (i := 733) (by decide +kernel), List.mem_of_getElem? (i := 734) (by decide +kernel)⟩
theorem lw_p21 : lw_okq (⟨"TentYardModel", "doesBear", "(II)Z"⟩, 28) := ⟨⟨by decide +kernel, by decide +kernel⟩, List.mem_of_getElem? (i := 501) (by decide +kernel), List.mem_of_getElem? (i := 753) (by decide +kernel), List.mem_of_getElem? (i := 754) (by decide +kernel)⟩
theorem lw_p22 : lw_okq (⟨"TentYardModel", "deals", "(II)I"⟩, 28) := ⟨⟨by decide +kernel, by decide +kernel⟩, List.mem_of_getElem? (i := 501) (by decide +kernel), List.mem_of_getElem? (i := 765) (by decide +kernel), List.mem_of_getElem? (i := 766) (by decide +kernel)⟩
theorem lw_p23 : lw_okq (⟨"TentYardModel", "isOfDay", "(II)Z"⟩, 28) := ⟨⟨by decide +kernel, by decide +kernel⟩, List.mem_of_getElem? (i := 501) (by decide +kernel), List.mem_of_getElem? (i := 769) (by decide +kernel), List.mem_of_getElem? (i := 770) (by decide +kernel)⟩
theorem lw_p24 : lw_okq (⟨"TentYardModel", "greatest", "(II)I"⟩, 28) := ⟨⟨by decide +kernel, by decide +kernel⟩, List.mem_of_getElem? (i := 501) (by decide +kernel), List.mem_of_getElem? (i := 773) (by decide +kernel), List.mem_of_getElem? (i := 774) (by decide +kernel)⟩
def lw_privs_2 : List (MethodName × Nat) := [(⟨"TentYardModel", "hiredFor", "(I)J"⟩, 28), (⟨"TentYardModel", "aboutOf", "(II)I"⟩, 28), (⟨"TentYardModel", "isSet", "(I)Z"⟩, 28), (⟨"TentYardModel", "prices", "(I)I"⟩, 28), (⟨"TentYardModel", "doorsFor", "(I)I"⟩, 28), (⟨"TentYardModel", "doesBear", "(II)Z"⟩, 28), (⟨"TentYardModel", "deals", "(II)I"⟩, 28), (⟨"TentYardModel", "isOfDay", "(II)Z"⟩, 28), (⟨"TentYardModel", "greatest", "(II)I"⟩, 28)]
theorem lw_r2 : ∀ q ∈ lw_privs_2, lw_okq q := List.forall_mem_cons.mpr ⟨lw_p16, List.forall_mem_cons.mpr ⟨lw_p17, List.forall_mem_cons.mpr ⟨lw_p18, List.forall_mem_cons.mpr ⟨lw_p19, List.forall_mem_cons.mpr ⟨lw_p20, List.forall_mem_cons.mpr ⟨lw_p21, List.forall_mem_cons.mpr ⟨lw_p22, List.forall_mem_cons.mpr ⟨lw_p23, List.forall_mem_cons.mpr ⟨lw_p24, fun _ h => absurd h List.not_mem_nil⟩⟩⟩⟩⟩⟩⟩⟩⟩
def lw_privs : List (MethodName × Nat) := lw_privs_1 ++ (lw_privs_2)
def lw_tbl : List Cond := k2_sels lw_privs ++ tables_1
theorem lw_privs_ok : ∀ q ∈ lw_privs, lw_okq q := by
  show ∀ q ∈ lw_privs_1 ++ (lw_privs_2), lw_okq q
  exact List.forall_mem_append.mpr ⟨lw_r1, lw_r2⟩
-- ===== end of PART A; then your names; then what follows =====
def RX0 : String := "TentYard$Crews"
def TX0 : u_T := fun k => match k with
  | 0 => ("TentYard$Crews", "field", "[I", true)
  | 1 => ("TentYard$Crews", "work", "[I", true)
  | 2 => ("TentYard$Crews", "way", "[I", true)
  | 3 => ("TentYard$Crews", "bestWay", "[I", true)
  | 4 => ("TentYard$Crews", "sums", "[I", true)
  | 5 => ("TentYard$Crews", "size", "I", false)
  | _ => ("TentYard$Crews", "least", "I", false)
def tyX0 : Nat → FieldType := fun k => match k with
  | 0 => .array .int
  | 1 => .array .int
  | 2 => .array .int
  | 3 => .array .int
  | 4 => .array .int
  | 5 => .int
  | _ => .int
theorem nmX0 : ∀ a, a < 7 → ∀ b, b < 7 → a ≠ b → (TX0 a).2.1 ≠ (TX0 b).2.1 := by decide +kernel
theorem tyX0_ok : ∀ k, k < 7 → parseFieldDescriptor (TX0 k).2.2.1 = some (tyX0 k) := by decide +kernel
abbrev cX0_init : ByteArray := prog_2_method_1_code
def yX0_init : MethodName := ⟨RX0, "<init>", "()V"⟩
abbrev cX0_clear : ByteArray := prog_2_method_2_code
def yX0_clear : MethodName := ⟨RX0, "clear", "()V"⟩
abbrev cX0_add : ByteArray := prog_2_method_3_code
def yX0_add : MethodName := ⟨RX0, "add", "(II)V"⟩
abbrev cX0_share : ByteArray := prog_2_method_4_code
def yX0_share : MethodName := ⟨RX0, "share", "(I)V"⟩
abbrev cX0_startWithOne : ByteArray := prog_2_method_5_code
def yX0_startWithOne : MethodName := ⟨RX0, "startWithOne", "()V"⟩
abbrev cX0_nextWay : ByteArray := prog_2_method_6_code
def yX0_nextWay : MethodName := ⟨RX0, "nextWay", "(I)V"⟩
abbrev cX0_greatestSum : ByteArray := prog_2_method_7_code
def yX0_greatestSum : MethodName := ⟨RX0, "greatestSum", "()I"⟩
abbrev cX0_crewOf : ByteArray := prog_2_method_8_code
def yX0_crewOf : MethodName := ⟨RX0, "crewOf", "(I)I"⟩
def RX1 : String := "TentYard$Fields"
def TX1 : u_T := fun k => match k with
  | 0 => ("TentYard$Fields", "first", "[I", true)
  | 1 => ("TentYard$Fields", "last", "[I", true)
  | 2 => ("TentYard$Fields", "price", "[I", true)
  | 3 => ("TentYard$Fields", "state", "[I", true)
  | 4 => ("TentYard$Fields", "soil", "[I", true)
  | 5 => ("TentYard$Fields", "bays", "[I", true)
  | 6 => ("TentYard$Fields", "stakes", "[I", true)
  | 7 => ("TentYard$Fields", "needs", "[I", true)
  | 8 => ("TentYard$Fields", "told", "[Z", true)
  | _ => ("TentYard$Fields", "size", "I", false)
def tyX1 : Nat → FieldType := fun k => match k with
  | 0 => .array .int
  | 1 => .array .int
  | 2 => .array .int
  | 3 => .array .int
  | 4 => .array .int
  | 5 => .array .int
  | 6 => .array .int
  | 7 => .array .int
  | 8 => .array .boolean
  | _ => .int
theorem nmX1 : ∀ a, a < 10 → ∀ b, b < 10 → a ≠ b → (TX1 a).2.1 ≠ (TX1 b).2.1 := by decide +kernel
theorem tyX1_ok : ∀ k, k < 10 → parseFieldDescriptor (TX1 k).2.2.1 = some (tyX1 k) := by decide +kernel
abbrev cX1_init : ByteArray := prog_3_method_1_code
def yX1_init : MethodName := ⟨RX1, "<init>", "()V"⟩
abbrev cX1_has : ByteArray := prog_3_method_2_code
def yX1_has : MethodName := ⟨RX1, "has", "(I)Z"⟩
abbrev cX1_hasAll : ByteArray := prog_3_method_3_code
def yX1_hasAll : MethodName := ⟨RX1, "hasAll", "(I)Z"⟩
abbrev cX1_ask : ByteArray := prog_3_method_4_code
def yX1_ask : MethodName := ⟨RX1, "ask", "(III)I"⟩
abbrev cX1_setOf : ByteArray := prog_3_method_5_code
def yX1_setOf : MethodName := ⟨RX1, "setOf", "(I)I"⟩
abbrev cX1_priceOf : ByteArray := prog_3_method_6_code
def yX1_priceOf : MethodName := ⟨RX1, "priceOf", "(I)I"⟩
abbrev cX1_worksOn : ByteArray := prog_3_method_7_code
def yX1_worksOn : MethodName := ⟨RX1, "worksOn", "(II)Z"⟩
abbrev cX1_tell : ByteArray := prog_3_method_8_code
def yX1_tell : MethodName := ⟨RX1, "tell", "(II)I"⟩
def RX2 : String := "TentYard$Law"
def TX2 : u_T := fun k => match k with
  | 0 => ("TentYard$Law", "from", "[I", true)
  | 1 => ("TentYard$Law", "doors", "[I", true)
  | _ => ("TentYard$Law", "size", "I", false)
def tyX2 : Nat → FieldType := fun k => match k with
  | 0 => .array .int
  | 1 => .array .int
  | _ => .int
theorem nmX2 : ∀ a, a < 3 → ∀ b, b < 3 → a ≠ b → (TX2 a).2.1 ≠ (TX2 b).2.1 := by decide +kernel
theorem tyX2_ok : ∀ k, k < 3 → parseFieldDescriptor (TX2 k).2.2.1 = some (tyX2 k) := by decide +kernel
abbrev cX2_init : ByteArray := prog_4_method_1_code
def yX2_init : MethodName := ⟨RX2, "<init>", "()V"⟩
abbrev cX2_write : ByteArray := prog_4_method_2_code
def yX2_write : MethodName := ⟨RX2, "write", "(II)I"⟩
abbrev cX2_doorsFor : ByteArray := prog_4_method_3_code
def yX2_doorsFor : MethodName := ⟨RX2, "doorsFor", "(I)I"⟩
def RX3 : String := "TentYard$Ledger"
def TX3 : u_T := fun k => match k with
  | 0 => ("TentYard$Ledger", "used", "[I", true)
  | 1 => ("TentYard$Ledger", "set", "I", false)
  | 2 => ("TentYard$Ledger", "lacking", "I", false)
  | _ => ("TentYard$Ledger", "hireSum", "J", false)
def tyX3 : Nat → FieldType := fun k => match k with
  | 0 => .array .int
  | 1 => .int
  | 2 => .int
  | _ => .long
theorem nmX3 : ∀ a, a < 4 → ∀ b, b < 4 → a ≠ b → (TX3 a).2.1 ≠ (TX3 b).2.1 := by decide +kernel
theorem tyX3_ok : ∀ k, k < 4 → parseFieldDescriptor (TX3 k).2.2.1 = some (tyX3 k) := by decide +kernel
abbrev cX3_init : ByteArray := prog_5_method_1_code
def yX3_init : MethodName := ⟨RX3, "<init>", "()V"⟩
abbrev cX3_clear : ByteArray := prog_5_method_2_code
def yX3_clear : MethodName := ⟨RX3, "clear", "()V"⟩
abbrev cX3_enter : ByteArray := prog_5_method_3_code
def yX3_enter : MethodName := ⟨RX3, "enter", "(IIIIII)V"⟩
def RX4 : String := "TentYard$Rain"
def TX4 : u_T := fun k => match k with
  | 0 => ("TentYard$Rain", "falls", "[Z", true)
  | _ => ("TentYard$Rain", "days", "I", false)
def tyX4 : Nat → FieldType := fun k => match k with
  | 0 => .array .boolean
  | _ => .int
theorem nmX4 : ∀ a, a < 2 → ∀ b, b < 2 → a ≠ b → (TX4 a).2.1 ≠ (TX4 b).2.1 := by decide +kernel
theorem tyX4_ok : ∀ k, k < 2 → parseFieldDescriptor (TX4 k).2.2.1 = some (tyX4 k) := by decide +kernel
abbrev cX4_init : ByteArray := prog_6_method_1_code
def yX4_init : MethodName := ⟨RX4, "<init>", "()V"⟩
abbrev cX4_on : ByteArray := prog_6_method_2_code
def yX4_on : MethodName := ⟨RX4, "on", "(I)Z"⟩
abbrev cX4_tell : ByteArray := prog_6_method_3_code
def yX4_tell : MethodName := ⟨RX4, "tell", "(IZ)V"⟩
def RX5 : String := "TentYard$Things"
def TX5 : u_T := fun k => match k with
  | 0 => ("TentYard$Things", "own", "[I", true)
  | 1 => ("TentYard$Things", "drying", "[I", true)
  | 2 => ("TentYard$Things", "weight", "[I", true)
  | 3 => ("TentYard$Things", "hire", "[I", true)
  | 4 => ("TentYard$Things", "cost", "[I", true)
  | _ => ("TentYard$Things", "gone", "[I", true)
def tyX5 : Nat → FieldType := fun k => match k with
  | 0 => .array .int
  | 1 => .array .int
  | 2 => .array .int
  | 3 => .array .int
  | 4 => .array .int
  | _ => .array .int
theorem nmX5 : ∀ a, a < 6 → ∀ b, b < 6 → a ≠ b → (TX5 a).2.1 ≠ (TX5 b).2.1 := by decide +kernel
theorem tyX5_ok : ∀ k, k < 6 → parseFieldDescriptor (TX5 k).2.2.1 = some (tyX5 k) := by decide +kernel
abbrev cX5_init : ByteArray := prog_7_method_1_code
def yX5_init : MethodName := ⟨RX5, "<init>", "()V"⟩
abbrev cX5_have : ByteArray := prog_7_method_2_code
def yX5_have : MethodName := ⟨RX5, "have", "(I)I"⟩
abbrev cX5_allGone : ByteArray := prog_7_method_3_code
def yX5_allGone : MethodName := ⟨RX5, "allGone", "()I"⟩
def RX6 : String := "TentYard"
def TX6 : u_T := fun k => match k with
  | 0 => ("TentYard", "things", "LTentYard$Things;", true)
  | 1 => ("TentYard", "fields", "LTentYard$Fields;", true)
  | 2 => ("TentYard", "rain", "LTentYard$Rain;", true)
  | 3 => ("TentYard", "ledger", "LTentYard$Ledger;", true)
  | 4 => ("TentYard", "law", "LTentYard$Law;", true)
  | 5 => ("TentYard", "crews", "LTentYard$Crews;", true)
  | 6 => ("TentYard", "holds", "[I", true)
  | _ => ("TentYard", "bills", "I", false)
def tyX6 : Nat → FieldType := fun k => match k with
  | 0 => .object "TentYard$Things"
  | 1 => .object "TentYard$Fields"
  | 2 => .object "TentYard$Rain"
  | 3 => .object "TentYard$Ledger"
  | 4 => .object "TentYard$Law"
  | 5 => .object "TentYard$Crews"
  | 6 => .array .int
  | _ => .int
theorem nmX6 : ∀ a, a < 8 → ∀ b, b < 8 → a ≠ b → (TX6 a).2.1 ≠ (TX6 b).2.1 := by decide +kernel
theorem tyX6_ok : ∀ k, k < 8 → parseFieldDescriptor (TX6 k).2.2.1 = some (tyX6 k) := by decide +kernel
abbrev cX6_init : ByteArray := prog_1_method_1_code
def yX6_init : MethodName := ⟨RX6, "<init>", "()V"⟩
abbrev cX6_thing : ByteArray := prog_1_method_2_code
def yX6_thing : MethodName := ⟨RX6, "thing", "(IIIIII)I"⟩
abbrev cX6_field : ByteArray := prog_1_method_3_code
def yX6_field : MethodName := ⟨RX6, "field", "(III)I"⟩
abbrev cX6_need : ByteArray := prog_1_method_4_code
def yX6_need : MethodName := ⟨RX6, "need", "(III)I"⟩
abbrev cX6_rain : ByteArray := prog_1_method_5_code
def yX6_rain : MethodName := ⟨RX6, "rain", "(IZ)I"⟩
abbrev cX6_take : ByteArray := prog_1_method_6_code
def yX6_take : MethodName := ⟨RX6, "take", "(I)I"⟩
abbrev cX6_hire : ByteArray := prog_1_method_7_code
def yX6_hire : MethodName := ⟨RX6, "hire", "(I)I"⟩
abbrev cX6_giveUp : ByteArray := prog_1_method_8_code
def yX6_giveUp : MethodName := ⟨RX6, "giveUp", "(I)I"⟩
abbrev cX6_change : ByteArray := prog_1_method_9_code
def yX6_change : MethodName := ⟨RX6, "change", "(III)I"⟩
abbrev cX6_back : ByteArray := prog_1_method_10_code
def yX6_back : MethodName := ⟨RX6, "back", "(I)I"⟩
abbrev cX6_missing : ByteArray := prog_1_method_11_code
def yX6_missing : MethodName := ⟨RX6, "missing", "(III)I"⟩
abbrev cX6_mend : ByteArray := prog_1_method_12_code
def yX6_mend : MethodName := ⟨RX6, "mend", "(II)I"⟩
abbrev cX6_about : ByteArray := prog_1_method_13_code
def yX6_about : MethodName := ⟨RX6, "about", "(II)I"⟩
abbrev cX6_lack : ByteArray := prog_1_method_14_code
def yX6_lack : MethodName := ⟨RX6, "lack", "(II)I"⟩
abbrev cX6_fits : ByteArray := prog_1_method_15_code
def yX6_fits : MethodName := ⟨RX6, "fits", "(I)I"⟩
abbrev cX6_best : ByteArray := prog_1_method_16_code
def yX6_best : MethodName := ⟨RX6, "best", "()I"⟩
abbrev cX6_dearest : ByteArray := prog_1_method_17_code
def yX6_dearest : MethodName := ⟨RX6, "dearest", "()I"⟩
abbrev cX6_hired : ByteArray := prog_1_method_18_code
def yX6_hired : MethodName := ⟨RX6, "hired", "(I)J"⟩
abbrev cX6_fewest : ByteArray := prog_1_method_19_code
def yX6_fewest : MethodName := ⟨RX6, "fewest", "()I"⟩
abbrev cX6_bays : ByteArray := prog_1_method_20_code
def yX6_bays : MethodName := ⟨RX6, "bays", "(II)I"⟩
abbrev cX6_law : ByteArray := prog_1_method_21_code
def yX6_law : MethodName := ⟨RX6, "law", "(II)I"⟩
abbrev cX6_unlaw : ByteArray := prog_1_method_22_code
def yX6_unlaw : MethodName := ⟨RX6, "unlaw", "()I"⟩
abbrev cX6_doors : ByteArray := prog_1_method_23_code
def yX6_doors : MethodName := ⟨RX6, "doors", "(I)I"⟩
abbrev cX6_keeps : ByteArray := prog_1_method_24_code
def yX6_keeps : MethodName := ⟨RX6, "keeps", "(II)I"⟩
abbrev cX6_soil : ByteArray := prog_1_method_25_code
def yX6_soil : MethodName := ⟨RX6, "soil", "(II)I"⟩
abbrev cX6_pitch : ByteArray := prog_1_method_26_code
def yX6_pitch : MethodName := ⟨RX6, "pitch", "(IIII)I"⟩
abbrev cX6_bears : ByteArray := prog_1_method_27_code
def yX6_bears : MethodName := ⟨RX6, "bears", "(I)I"⟩
abbrev cX6_gust : ByteArray := prog_1_method_28_code
def yX6_gust : MethodName := ⟨RX6, "gust", "(II)I"⟩
abbrev cX6_hours : ByteArray := prog_1_method_29_code
def yX6_hours : MethodName := ⟨RX6, "hours", "(II)I"⟩
abbrev cX6_crew : ByteArray := prog_1_method_30_code
def yX6_crew : MethodName := ⟨RX6, "crew", "(III)I"⟩
abbrev cX6_loads : ByteArray := prog_1_method_31_code
def yX6_loads : MethodName := ⟨RX6, "loads", "(II)I"⟩
abbrev cX6_count : ByteArray := prog_1_method_32_code
def yX6_count : MethodName := ⟨RX6, "count", "(I)I"⟩
abbrev cX6_digest : ByteArray := prog_1_method_33_code
def yX6_digest : MethodName := ⟨RX6, "digest", "()J"⟩
abbrev cX6_outside : ByteArray := prog_1_method_34_code
def yX6_outside : MethodName := ⟨RX6, "outside", "(III)Z"⟩
abbrev cX6_isThing : ByteArray := prog_1_method_35_code
def yX6_isThing : MethodName := ⟨RX6, "isThing", "(I)Z"⟩
abbrev cX6_bit : ByteArray := prog_1_method_36_code
def yX6_bit : MethodName := ⟨RX6, "bit", "(Z)I"⟩
abbrev cX6_cell : ByteArray := prog_1_method_37_code
def yX6_cell : MethodName := ⟨RX6, "cell", "(II)I"⟩
abbrev cX6_cutUp : ByteArray := prog_1_method_38_code
def yX6_cutUp : MethodName := ⟨RX6, "cutUp", "(II)I"⟩
abbrev cX6_goTogether : ByteArray := prog_1_method_39_code
def yX6_goTogether : MethodName := ⟨RX6, "goTogether", "(I)Z"⟩
abbrev cX6_countAnew : ByteArray := prog_1_method_40_code
def yX6_countAnew : MethodName := ⟨RX6, "countAnew", "(I)V"⟩
abbrev cX6_countOn : ByteArray := prog_1_method_41_code
def yX6_countOn : MethodName := ⟨RX6, "countOn", "(I)V"⟩
abbrev cX6_enter : ByteArray := prog_1_method_42_code
def yX6_enter : MethodName := ⟨RX6, "enter", "(II)V"⟩
abbrev cX6_stands : ByteArray := prog_1_method_43_code
def yX6_stands : MethodName := ⟨RX6, "stands", "(II)Z"⟩
abbrev cX6_sendCrews : ByteArray := prog_1_method_44_code
def yX6_sendCrews : MethodName := ⟨RX6, "sendCrews", "(II)V"⟩
abbrev cX6_weightOf : ByteArray := prog_1_method_45_code
def yX6_weightOf : MethodName := ⟨RX6, "weightOf", "(I)I"⟩
abbrev cX6_total : ByteArray := prog_1_method_46_code
def yX6_total : MethodName := ⟨RX6, "total", "(I)I"⟩
def RX7 : String := "TentYardModel"
def TX7 : u_T := fun k => match k with
  | 0 => ("TentYardModel", "own", "[I", true)
  | 1 => ("TentYardModel", "drying", "[I", true)
  | 2 => ("TentYardModel", "weight", "[I", true)
  | 3 => ("TentYardModel", "price", "[I", true)
  | 4 => ("TentYardModel", "cost", "[I", true)
  | 5 => ("TentYardModel", "gone", "[I", true)
  | 6 => ("TentYardModel", "fields", "I", false)
  | 7 => ("TentYardModel", "first", "[I", true)
  | 8 => ("TentYardModel", "last", "[I", true)
  | 9 => ("TentYardModel", "paid", "[I", true)
  | 10 => ("TentYardModel", "stands", "[I", true)
  | 11 => ("TentYardModel", "need", "[I", true)
  | 12 => ("TentYardModel", "isTold", "[Z", true)
  | 13 => ("TentYardModel", "soilOf", "[I", true)
  | 14 => ("TentYardModel", "baysOf", "[I", true)
  | 15 => ("TentYardModel", "stakes", "[I", true)
  | 16 => ("TentYardModel", "isRain", "[Z", true)
  | 17 => ("TentYardModel", "bills", "I", false)
  | 18 => ("TentYardModel", "lines", "I", false)
  | 19 => ("TentYardModel", "lineFrom", "[I", true)
  | 20 => ("TentYardModel", "lineDoors", "[I", true)
  | 21 => ("TentYardModel", "holds", "[I", true)
  | 22 => ("TentYardModel", "uses", "[I", true)
  | 23 => ("TentYardModel", "working", "I", false)
  | 24 => ("TentYardModel", "worker", "[I", true)
  | 25 => ("TentYardModel", "crewOf", "[I", true)
  | 26 => ("TentYardModel", "bestCrew", "[I", true)
  | _ => ("TentYardModel", "sum", "[I", true)
def tyX7 : Nat → FieldType := fun k => match k with
  | 0 => .array .int
  | 1 => .array .int
  | 2 => .array .int
  | 3 => .array .int
  | 4 => .array .int
  | 5 => .array .int
  | 6 => .int
  | 7 => .array .int
  | 8 => .array .int
  | 9 => .array .int
  | 10 => .array .int
  | 11 => .array .int
  | 12 => .array .boolean
  | 13 => .array .int
  | 14 => .array .int
  | 15 => .array .int
  | 16 => .array .boolean
  | 17 => .int
  | 18 => .int
  | 19 => .array .int
  | 20 => .array .int
  | 21 => .array .int
  | 22 => .array .int
  | 23 => .int
  | 24 => .array .int
  | 25 => .array .int
  | 26 => .array .int
  | _ => .array .int
theorem nmX7 : ∀ a, a < 28 → ∀ b, b < 28 → a ≠ b → (TX7 a).2.1 ≠ (TX7 b).2.1 := by decide +kernel
theorem tyX7_ok : ∀ k, k < 28 → parseFieldDescriptor (TX7 k).2.2.1 = some (tyX7 k) := by decide +kernel
abbrev cX7_init : ByteArray := prog_9_method_1_code
def yX7_init : MethodName := ⟨RX7, "<init>", "()V"⟩
abbrev cX7_in : ByteArray := prog_9_method_3_code
def yX7_in : MethodName := ⟨RX7, "in", "(III)Z"⟩
abbrev cX7_isThing : ByteArray := prog_9_method_4_code
def yX7_isThing : MethodName := ⟨RX7, "isThing", "(I)Z"⟩
abbrev cX7_isField : ByteArray := prog_9_method_5_code
def yX7_isField : MethodName := ⟨RX7, "isField", "(I)Z"⟩
abbrev cX7_isDay : ByteArray := prog_9_method_6_code
def yX7_isDay : MethodName := ⟨RX7, "isDay", "(I)Z"⟩
abbrev cX7_thing : ByteArray := prog_9_method_7_code
def yX7_thing : MethodName := ⟨RX7, "thing", "(IIIIII)I"⟩
abbrev cX7_field : ByteArray := prog_9_method_8_code
def yX7_field : MethodName := ⟨RX7, "field", "(III)I"⟩
abbrev cX7_need : ByteArray := prog_9_method_9_code
def yX7_need : MethodName := ⟨RX7, "need", "(III)I"⟩
abbrev cX7_rain : ByteArray := prog_9_method_10_code
def yX7_rain : MethodName := ⟨RX7, "rain", "(IZ)I"⟩
abbrev cX7_findUses : ByteArray := prog_9_method_11_code
def yX7_findUses : MethodName := ⟨RX7, "findUses", "()V"⟩
abbrev cX7_lackOf : ByteArray := prog_9_method_12_code
def yX7_lackOf : MethodName := ⟨RX7, "lackOf", "(III)I"⟩
abbrev cX7_isFit : ByteArray := prog_9_method_13_code
def yX7_isFit : MethodName := ⟨RX7, "isFit", "(I)Z"⟩
abbrev cX7_hiredFor : ByteArray := prog_9_method_14_code
def yX7_hiredFor : MethodName := ⟨RX7, "hiredFor", "(I)J"⟩
abbrev cX7_all : ByteArray := prog_9_method_15_code
def yX7_all : MethodName := ⟨RX7, "all", "(I)I"⟩
abbrev cX7_isSet : ByteArray := prog_9_method_16_code
def yX7_isSet : MethodName := ⟨RX7, "isSet", "(I)Z"⟩
abbrev cX7_prices : ByteArray := prog_9_method_17_code
def yX7_prices : MethodName := ⟨RX7, "prices", "(I)I"⟩
abbrev cX7_many : ByteArray := prog_9_method_18_code
def yX7_many : MethodName := ⟨RX7, "many", "(I)I"⟩
abbrev cX7_take : ByteArray := prog_9_method_19_code
def yX7_take : MethodName := ⟨RX7, "take", "(I)I"⟩
abbrev cX7_hire : ByteArray := prog_9_method_20_code
def yX7_hire : MethodName := ⟨RX7, "hire", "(I)I"⟩
abbrev cX7_giveUp : ByteArray := prog_9_method_21_code
def yX7_giveUp : MethodName := ⟨RX7, "giveUp", "(I)I"⟩
abbrev cX7_change : ByteArray := prog_9_method_22_code
def yX7_change : MethodName := ⟨RX7, "change", "(III)I"⟩
abbrev cX7_back : ByteArray := prog_9_method_23_code
def yX7_back : MethodName := ⟨RX7, "back", "(I)I"⟩
abbrev cX7_missing : ByteArray := prog_9_method_24_code
def yX7_missing : MethodName := ⟨RX7, "missing", "(III)I"⟩
abbrev cX7_mend : ByteArray := prog_9_method_25_code
def yX7_mend : MethodName := ⟨RX7, "mend", "(II)I"⟩
abbrev cX7_aboutOf : ByteArray := prog_9_method_26_code
def yX7_aboutOf : MethodName := ⟨RX7, "aboutOf", "(II)I"⟩
abbrev cX7_about : ByteArray := prog_9_method_27_code
def yX7_about : MethodName := ⟨RX7, "about", "(II)I"⟩
abbrev cX7_lack : ByteArray := prog_9_method_28_code
def yX7_lack : MethodName := ⟨RX7, "lack", "(II)I"⟩
abbrev cX7_fits : ByteArray := prog_9_method_29_code
def yX7_fits : MethodName := ⟨RX7, "fits", "(I)I"⟩
abbrev cX7_best : ByteArray := prog_9_method_30_code
def yX7_best : MethodName := ⟨RX7, "best", "()I"⟩
abbrev cX7_dearest : ByteArray := prog_9_method_31_code
def yX7_dearest : MethodName := ⟨RX7, "dearest", "()I"⟩
abbrev cX7_hired : ByteArray := prog_9_method_32_code
def yX7_hired : MethodName := ⟨RX7, "hired", "(I)J"⟩
abbrev cX7_fewest : ByteArray := prog_9_method_33_code
def yX7_fewest : MethodName := ⟨RX7, "fewest", "()I"⟩
abbrev cX7_isGuests : ByteArray := prog_9_method_34_code
def yX7_isGuests : MethodName := ⟨RX7, "isGuests", "(I)Z"⟩
abbrev cX7_bays : ByteArray := prog_9_method_35_code
def yX7_bays : MethodName := ⟨RX7, "bays", "(II)I"⟩
abbrev cX7_law : ByteArray := prog_9_method_36_code
def yX7_law : MethodName := ⟨RX7, "law", "(II)I"⟩
abbrev cX7_unlaw : ByteArray := prog_9_method_37_code
def yX7_unlaw : MethodName := ⟨RX7, "unlaw", "()I"⟩
abbrev cX7_doorsFor : ByteArray := prog_9_method_38_code
def yX7_doorsFor : MethodName := ⟨RX7, "doorsFor", "(I)I"⟩
abbrev cX7_doors : ByteArray := prog_9_method_39_code
def yX7_doors : MethodName := ⟨RX7, "doors", "(I)I"⟩
abbrev cX7_keeps : ByteArray := prog_9_method_40_code
def yX7_keeps : MethodName := ⟨RX7, "keeps", "(II)I"⟩
abbrev cX7_soil : ByteArray := prog_9_method_41_code
def yX7_soil : MethodName := ⟨RX7, "soil", "(II)I"⟩
abbrev cX7_pitch : ByteArray := prog_9_method_42_code
def yX7_pitch : MethodName := ⟨RX7, "pitch", "(IIII)I"⟩
abbrev cX7_doesBear : ByteArray := prog_9_method_43_code
def yX7_doesBear : MethodName := ⟨RX7, "doesBear", "(II)Z"⟩
abbrev cX7_bears : ByteArray := prog_9_method_44_code
def yX7_bears : MethodName := ⟨RX7, "bears", "(I)I"⟩
abbrev cX7_gust : ByteArray := prog_9_method_45_code
def yX7_gust : MethodName := ⟨RX7, "gust", "(II)I"⟩
abbrev cX7_isOfDay : ByteArray := prog_9_method_46_code
def yX7_isOfDay : MethodName := ⟨RX7, "isOfDay", "(II)Z"⟩
abbrev cX7_greatest : ByteArray := prog_9_method_47_code
def yX7_greatest : MethodName := ⟨RX7, "greatest", "(II)I"⟩
abbrev cX7_deals : ByteArray := prog_9_method_48_code
def yX7_deals : MethodName := ⟨RX7, "deals", "(II)I"⟩
abbrev cX7_hours : ByteArray := prog_9_method_49_code
def yX7_hours : MethodName := ⟨RX7, "hours", "(II)I"⟩
abbrev cX7_crew : ByteArray := prog_9_method_50_code
def yX7_crew : MethodName := ⟨RX7, "crew", "(III)I"⟩
abbrev cX7_loads : ByteArray := prog_9_method_51_code
def yX7_loads : MethodName := ⟨RX7, "loads", "(II)I"⟩
abbrev cX7_count : ByteArray := prog_9_method_52_code
def yX7_count : MethodName := ⟨RX7, "count", "(I)I"⟩
abbrev cX7_digest : ByteArray := prog_9_method_53_code
def yX7_digest : MethodName := ⟨RX7, "digest", "()J"⟩
def RJ6 : String := "java/lang/Integer"
def TJ6 : u_T := fun k => match k with
  | _ => ("", "", "", false)
def tyJ6 : Nat → FieldType := fun k => match k with
  | _ => .int
theorem nmJ6 : ∀ a, a < 0 → ∀ b, b < 0 → a ≠ b → (TJ6 a).2.1 ≠ (TJ6 b).2.1 := by decide +kernel
theorem tyJ6_ok : ∀ k, k < 0 → parseFieldDescriptor (TJ6 k).2.2.1 = some (tyJ6 k) := by decide +kernel
abbrev cJ6_bitCount_0f7a4 : ByteArray := prog_10_method_49_code
def yJ6_bitCount_0f7a4 : MethodName := ⟨RJ6, "bitCount", "(I)I"⟩
def RJ9 : String := "java/lang/Math"
def TJ9 : u_T := fun k => match k with
  | _ => ("", "", "", false)
def tyJ9 : Nat → FieldType := fun k => match k with
  | _ => .int
theorem nmJ9 : ∀ a, a < 0 → ∀ b, b < 0 → a ≠ b → (TJ9 a).2.1 ≠ (TJ9 b).2.1 := by decide +kernel
theorem tyJ9_ok : ∀ k, k < 0 → parseFieldDescriptor (TJ9 k).2.2.1 = some (tyJ9 k) := by decide +kernel
abbrev cJ9_max_7cf53 : ByteArray := prog_11_method_65_code
def yJ9_max_7cf53 : MethodName := ⟨RJ9, "max", "(II)I"⟩
def RJ10 : String := "java/lang/System"
def TJ10 : u_T := fun k => match k with
  | _ => ("", "", "", false)
def tyJ10 : Nat → FieldType := fun k => match k with
  | _ => .int
theorem nmJ10 : ∀ a, a < 0 → ∀ b, b < 0 → a ≠ b → (TJ10 a).2.1 ≠ (TJ10 b).2.1 := by decide +kernel
theorem tyJ10_ok : ∀ k, k < 0 → parseFieldDescriptor (TJ10 k).2.2.1 = some (tyJ10 k) := by decide +kernel
def RJ7 : String := "java/util/Arrays"
def TJ7 : u_T := fun k => match k with
  | _ => ("", "", "", false)
def tyJ7 : Nat → FieldType := fun k => match k with
  | _ => .int
theorem nmJ7 : ∀ a, a < 0 → ∀ b, b < 0 → a ≠ b → (TJ7 a).2.1 ≠ (TJ7 b).2.1 := by decide +kernel
theorem tyJ7_ok : ∀ k, k < 0 → parseFieldDescriptor (TJ7 k).2.2.1 = some (tyJ7 k) := by decide +kernel
abbrev cJ7_fill_53178 : ByteArray := prog_13_method_103_code
def yJ7_fill_53178 : MethodName := ⟨RJ7, "fill", "([II)V"⟩
def RL : String := "TentYardLaw"
abbrev cL_law : ByteArray := code
def yL_law : MethodName := ⟨RL, "law", "([I)Z"⟩
abbrev vwCl : List vw_C := [(RX0, TX0, 7), (RX1, TX1, 10), (RX2, TX2, 3), (RX3, TX3, 4), (RX4, TX4, 2), (RX5, TX5, 6), (RX6, TX6, 8), (RX7, TX7, 28)]
end
section
theorem dX0_init_0 : decode cX0_init 0 = .ok (.aload_n 0, 1) := by decide +kernel
theorem dX0_init_1 : decode cX0_init 1 = .ok (.invokespecial 3, 3) := by decide +kernel
theorem dX0_init_4 : decode cX0_init 4 = .ok (.aload_n 0, 1) := by decide +kernel
theorem dX0_init_5 : decode cX0_init 5 = .ok (.bipush 10, 2) := by decide +kernel
theorem dX0_init_7 : decode cX0_init 7 = .ok (.newarray .int, 2) := by decide +kernel
theorem dX0_init_9 : decode cX0_init 9 = .ok (.putfield 9, 3) := by decide +kernel
theorem dX0_init_12 : decode cX0_init 12 = .ok (.aload_n 0, 1) := by decide +kernel
theorem dX0_init_13 : decode cX0_init 13 = .ok (.bipush 10, 2) := by decide +kernel
theorem dX0_init_15 : decode cX0_init 15 = .ok (.newarray .int, 2) := by decide +kernel
theorem dX0_init_17 : decode cX0_init 17 = .ok (.putfield 15, 3) := by decide +kernel
theorem dX0_init_20 : decode cX0_init 20 = .ok (.aload_n 0, 1) := by decide +kernel
theorem dX0_init_21 : decode cX0_init 21 = .ok (.bipush 10, 2) := by decide +kernel
theorem dX0_init_23 : decode cX0_init 23 = .ok (.newarray .int, 2) := by decide +kernel
theorem dX0_init_25 : decode cX0_init 25 = .ok (.putfield 18, 3) := by decide +kernel
theorem dX0_init_28 : decode cX0_init 28 = .ok (.aload_n 0, 1) := by decide +kernel
theorem dX0_init_29 : decode cX0_init 29 = .ok (.bipush 10, 2) := by decide +kernel
theorem dX0_init_31 : decode cX0_init 31 = .ok (.newarray .int, 2) := by decide +kernel
theorem dX0_init_33 : decode cX0_init 33 = .ok (.putfield 21, 3) := by decide +kernel
theorem dX0_init_36 : decode cX0_init 36 = .ok (.aload_n 0, 1) := by decide +kernel
theorem dX0_init_37 : decode cX0_init 37 = .ok (.iconst 3, 1) := by decide +kernel
theorem dX0_init_38 : decode cX0_init 38 = .ok (.newarray .int, 2) := by decide +kernel
theorem dX0_init_40 : decode cX0_init 40 = .ok (.putfield 24, 3) := by decide +kernel
theorem dX0_init_43 : decode cX0_init 43 = .ok (.aload_n 0, 1) := by decide +kernel
theorem dX0_init_44 : decode cX0_init 44 = .ok (.iconst 0, 1) := by decide +kernel
theorem dX0_init_45 : decode cX0_init 45 = .ok (.putfield 27, 3) := by decide +kernel
theorem dX0_init_48 : decode cX0_init 48 = .ok (.aload_n 0, 1) := by decide +kernel
theorem dX0_init_49 : decode cX0_init 49 = .ok (.iconst 0, 1) := by decide +kernel
theorem dX0_init_50 : decode cX0_init 50 = .ok (.putfield 31, 3) := by decide +kernel
theorem dX0_init_53 : decode cX0_init 53 = .ok (.return_, 1) := by decide +kernel
theorem dX0_clear_0 : decode cX0_clear 0 = .ok (.aload_n 0, 1) := by decide +kernel
theorem dX0_clear_1 : decode cX0_clear 1 = .ok (.iconst 0, 1) := by decide +kernel
theorem dX0_clear_2 : decode cX0_clear 2 = .ok (.putfield 27, 3) := by decide +kernel
theorem dX0_clear_5 : decode cX0_clear 5 = .ok (.aload_n 0, 1) := by decide +kernel
theorem dX0_clear_6 : decode cX0_clear 6 = .ok (.iconst 0, 1) := by decide +kernel
theorem dX0_clear_7 : decode cX0_clear 7 = .ok (.putfield 31, 3) := by decide +kernel
theorem dX0_clear_10 : decode cX0_clear 10 = .ok (.return_, 1) := by decide +kernel
theorem dX0_add_0 : decode cX0_add 0 = .ok (.aload_n 0, 1) := by decide +kernel
theorem dX0_add_1 : decode cX0_add 1 = .ok (.getfield 27, 3) := by decide +kernel
theorem dX0_add_4 : decode cX0_add 4 = .ok (.bipush 10, 2) := by decide +kernel
theorem dX0_add_6 : decode cX0_add 6 = .ok (.if_icmp .ge 33, 3) := by decide +kernel
theorem dX0_add_9 : decode cX0_add 9 = .ok (.aload_n 0, 1) := by decide +kernel
theorem dX0_add_10 : decode cX0_add 10 = .ok (.getfield 9, 3) := by decide +kernel
theorem dX0_add_13 : decode cX0_add 13 = .ok (.aload_n 0, 1) := by decide +kernel
theorem dX0_add_14 : decode cX0_add 14 = .ok (.getfield 27, 3) := by decide +kernel
theorem dX0_add_17 : decode cX0_add 17 = .ok (.iload_n 1, 1) := by decide +kernel
theorem dX0_add_18 : decode cX0_add 18 = .ok (.iastore, 1) := by decide +kernel
theorem dX0_add_19 : decode cX0_add 19 = .ok (.aload_n 0, 1) := by decide +kernel
theorem dX0_add_20 : decode cX0_add 20 = .ok (.getfield 15, 3) := by decide +kernel
theorem dX0_add_23 : decode cX0_add 23 = .ok (.aload_n 0, 1) := by decide +kernel
theorem dX0_add_24 : decode cX0_add 24 = .ok (.getfield 27, 3) := by decide +kernel
theorem dX0_add_27 : decode cX0_add 27 = .ok (.iload_n 2, 1) := by decide +kernel
theorem dX0_add_28 : decode cX0_add 28 = .ok (.iastore, 1) := by decide +kernel
theorem dX0_add_29 : decode cX0_add 29 = .ok (.aload_n 0, 1) := by decide +kernel
theorem dX0_add_30 : decode cX0_add 30 = .ok (.dup, 1) := by decide +kernel
theorem dX0_add_31 : decode cX0_add 31 = .ok (.getfield 27, 3) := by decide +kernel
theorem dX0_add_34 : decode cX0_add 34 = .ok (.iconst 1, 1) := by decide +kernel
theorem dX0_add_35 : decode cX0_add 35 = .ok (.iadd, 1) := by decide +kernel
theorem dX0_add_36 : decode cX0_add 36 = .ok (.putfield 27, 3) := by decide +kernel
theorem dX0_add_39 : decode cX0_add 39 = .ok (.return_, 1) := by decide +kernel
theorem dX0_share_0 : decode cX0_share 0 = .ok (.iload_n 1, 1) := by decide +kernel
theorem dX0_share_1 : decode cX0_share 1 = .ok (.iconst 1, 1) := by decide +kernel
theorem dX0_share_2 : decode cX0_share 2 = .ok (.if_icmp .lt 15, 3) := by decide +kernel
theorem dX0_share_5 : decode cX0_share 5 = .ok (.iload_n 1, 1) := by decide +kernel
theorem dX0_share_6 : decode cX0_share 6 = .ok (.iconst 3, 1) := by decide +kernel
theorem dX0_share_7 : decode cX0_share 7 = .ok (.if_icmp .gt 10, 3) := by decide +kernel
theorem dX0_share_10 : decode cX0_share 10 = .ok (.aload_n 0, 1) := by decide +kernel
theorem dX0_share_11 : decode cX0_share 11 = .ok (.getfield 27, 3) := by decide +kernel
theorem dX0_share_14 : decode cX0_share 14 = .ok (.ifCond .ne 4, 3) := by decide +kernel
theorem dX0_share_17 : decode cX0_share 17 = .ok (.return_, 1) := by decide +kernel
theorem dX0_share_18 : decode cX0_share 18 = .ok (.aload_n 0, 1) := by decide +kernel
theorem dX0_share_19 : decode cX0_share 19 = .ok (.invokevirtual 34, 3) := by decide +kernel
theorem dX0_share_22 : decode cX0_share 22 = .ok (.iconst 1, 1) := by decide +kernel
theorem dX0_share_23 : decode cX0_share 23 = .ok (.istore_n 2, 1) := by decide +kernel
theorem dX0_share_24 : decode cX0_share 24 = .ok (.iconst 1, 1) := by decide +kernel
theorem dX0_share_25 : decode cX0_share 25 = .ok (.istore_n 3, 1) := by decide +kernel
theorem dX0_share_26 : decode cX0_share 26 = .ok (.iload_n 3, 1) := by decide +kernel
theorem dX0_share_27 : decode cX0_share 27 = .ok (.aload_n 0, 1) := by decide +kernel
theorem dX0_share_28 : decode cX0_share 28 = .ok (.getfield 27, 3) := by decide +kernel
theorem dX0_share_31 : decode cX0_share 31 = .ok (.if_icmp .ge 13, 3) := by decide +kernel
theorem dX0_share_34 : decode cX0_share 34 = .ok (.iload_n 2, 1) := by decide +kernel
theorem dX0_share_35 : decode cX0_share 35 = .ok (.iload_n 1, 1) := by decide +kernel
theorem dX0_share_36 : decode cX0_share 36 = .ok (.imul, 1) := by decide +kernel
theorem dX0_share_37 : decode cX0_share 37 = .ok (.istore_n 2, 1) := by decide +kernel
theorem dX0_share_38 : decode cX0_share 38 = .ok (.iinc 3 1, 3) := by decide +kernel
theorem dX0_share_41 : decode cX0_share 41 = .ok (.goto (-15), 3) := by decide +kernel
theorem dX0_share_44 : decode cX0_share 44 = .ok (.iconst 1, 1) := by decide +kernel
theorem dX0_share_45 : decode cX0_share 45 = .ok (.istore_n 3, 1) := by decide +kernel
theorem dX0_share_46 : decode cX0_share 46 = .ok (.iload_n 3, 1) := by decide +kernel
theorem dX0_share_47 : decode cX0_share 47 = .ok (.iload_n 2, 1) := by decide +kernel
theorem dX0_share_48 : decode cX0_share 48 = .ok (.if_icmp .ge 52, 3) := by decide +kernel
theorem dX0_share_51 : decode cX0_share 51 = .ok (.aload_n 0, 1) := by decide +kernel
theorem dX0_share_52 : decode cX0_share 52 = .ok (.iload_n 1, 1) := by decide +kernel
theorem dX0_share_53 : decode cX0_share 53 = .ok (.invokevirtual 37, 3) := by decide +kernel
theorem dX0_share_56 : decode cX0_share 56 = .ok (.aload_n 0, 1) := by decide +kernel
theorem dX0_share_57 : decode cX0_share 57 = .ok (.invokevirtual 41, 3) := by decide +kernel
theorem dX0_share_60 : decode cX0_share 60 = .ok (.istore 4, 2) := by decide +kernel
theorem dX0_share_62 : decode cX0_share 62 = .ok (.iload 4, 2) := by decide +kernel
theorem dX0_share_64 : decode cX0_share 64 = .ok (.aload_n 0, 1) := by decide +kernel
theorem dX0_share_65 : decode cX0_share 65 = .ok (.getfield 31, 3) := by decide +kernel
theorem dX0_share_68 : decode cX0_share 68 = .ok (.if_icmp .ge 26, 3) := by decide +kernel
theorem dX0_share_71 : decode cX0_share 71 = .ok (.aload_n 0, 1) := by decide +kernel
theorem dX0_share_72 : decode cX0_share 72 = .ok (.iload 4, 2) := by decide +kernel
theorem dX0_share_74 : decode cX0_share 74 = .ok (.putfield 31, 3) := by decide +kernel
theorem dX0_share_77 : decode cX0_share 77 = .ok (.aload_n 0, 1) := by decide +kernel
theorem dX0_share_78 : decode cX0_share 78 = .ok (.getfield 18, 3) := by decide +kernel
theorem dX0_share_81 : decode cX0_share 81 = .ok (.iconst 0, 1) := by decide +kernel
theorem dX0_share_82 : decode cX0_share 82 = .ok (.aload_n 0, 1) := by decide +kernel
theorem dX0_share_83 : decode cX0_share 83 = .ok (.getfield 21, 3) := by decide +kernel
theorem dX0_share_86 : decode cX0_share 86 = .ok (.iconst 0, 1) := by decide +kernel
theorem dX0_share_87 : decode cX0_share 87 = .ok (.aload_n 0, 1) := by decide +kernel
theorem dX0_share_88 : decode cX0_share 88 = .ok (.getfield 27, 3) := by decide +kernel
theorem dX0_share_91 : decode cX0_share 91 = .ok (.invokestatic 45, 3) := by decide +kernel
theorem dX0_share_94 : decode cX0_share 94 = .ok (.iinc 3 1, 3) := by decide +kernel
theorem dX0_share_97 : decode cX0_share 97 = .ok (.goto (-51), 3) := by decide +kernel
theorem dX0_share_100 : decode cX0_share 100 = .ok (.return_, 1) := by decide +kernel
theorem dX0_startWithOne_0 : decode cX0_startWithOne 0 = .ok (.aload_n 0, 1) := by decide +kernel
theorem dX0_startWithOne_1 : decode cX0_startWithOne 1 = .ok (.getfield 18, 3) := by decide +kernel
theorem dX0_startWithOne_4 : decode cX0_startWithOne 4 = .ok (.iconst 0, 1) := by decide +kernel
theorem dX0_startWithOne_5 : decode cX0_startWithOne 5 = .ok (.invokestatic 51, 3) := by decide +kernel
theorem dX0_startWithOne_8 : decode cX0_startWithOne 8 = .ok (.aload_n 0, 1) := by decide +kernel
theorem dX0_startWithOne_9 : decode cX0_startWithOne 9 = .ok (.getfield 21, 3) := by decide +kernel
theorem dX0_startWithOne_12 : decode cX0_startWithOne 12 = .ok (.iconst 0, 1) := by decide +kernel
theorem dX0_startWithOne_13 : decode cX0_startWithOne 13 = .ok (.invokestatic 51, 3) := by decide +kernel
theorem dX0_startWithOne_16 : decode cX0_startWithOne 16 = .ok (.aload_n 0, 1) := by decide +kernel
theorem dX0_startWithOne_17 : decode cX0_startWithOne 17 = .ok (.getfield 24, 3) := by decide +kernel
theorem dX0_startWithOne_20 : decode cX0_startWithOne 20 = .ok (.iconst 0, 1) := by decide +kernel
theorem dX0_startWithOne_21 : decode cX0_startWithOne 21 = .ok (.invokestatic 51, 3) := by decide +kernel
theorem dX0_startWithOne_24 : decode cX0_startWithOne 24 = .ok (.iconst 0, 1) := by decide +kernel
theorem dX0_startWithOne_25 : decode cX0_startWithOne 25 = .ok (.istore_n 1, 1) := by decide +kernel
theorem dX0_startWithOne_26 : decode cX0_startWithOne 26 = .ok (.iload_n 1, 1) := by decide +kernel
theorem dX0_startWithOne_27 : decode cX0_startWithOne 27 = .ok (.aload_n 0, 1) := by decide +kernel
theorem dX0_startWithOne_28 : decode cX0_startWithOne 28 = .ok (.getfield 27, 3) := by decide +kernel
theorem dX0_startWithOne_31 : decode cX0_startWithOne 31 = .ok (.if_icmp .ge 24, 3) := by decide +kernel
theorem dX0_startWithOne_34 : decode cX0_startWithOne 34 = .ok (.aload_n 0, 1) := by decide +kernel
theorem dX0_startWithOne_35 : decode cX0_startWithOne 35 = .ok (.getfield 24, 3) := by decide +kernel
theorem dX0_startWithOne_38 : decode cX0_startWithOne 38 = .ok (.iconst 0, 1) := by decide +kernel
theorem dX0_startWithOne_39 : decode cX0_startWithOne 39 = .ok (.dup2, 1) := by decide +kernel
theorem dX0_startWithOne_40 : decode cX0_startWithOne 40 = .ok (.iaload, 1) := by decide +kernel
theorem dX0_startWithOne_41 : decode cX0_startWithOne 41 = .ok (.aload_n 0, 1) := by decide +kernel
theorem dX0_startWithOne_42 : decode cX0_startWithOne 42 = .ok (.getfield 15, 3) := by decide +kernel
theorem dX0_startWithOne_45 : decode cX0_startWithOne 45 = .ok (.iload_n 1, 1) := by decide +kernel
theorem dX0_startWithOne_46 : decode cX0_startWithOne 46 = .ok (.iaload, 1) := by decide +kernel
theorem dX0_startWithOne_47 : decode cX0_startWithOne 47 = .ok (.iadd, 1) := by decide +kernel
theorem dX0_startWithOne_48 : decode cX0_startWithOne 48 = .ok (.iastore, 1) := by decide +kernel
theorem dX0_startWithOne_49 : decode cX0_startWithOne 49 = .ok (.iinc 1 1, 3) := by decide +kernel
theorem dX0_startWithOne_52 : decode cX0_startWithOne 52 = .ok (.goto (-26), 3) := by decide +kernel
theorem dX0_startWithOne_55 : decode cX0_startWithOne 55 = .ok (.aload_n 0, 1) := by decide +kernel
theorem dX0_startWithOne_56 : decode cX0_startWithOne 56 = .ok (.aload_n 0, 1) := by decide +kernel
theorem dX0_startWithOne_57 : decode cX0_startWithOne 57 = .ok (.getfield 24, 3) := by decide +kernel
theorem dX0_startWithOne_60 : decode cX0_startWithOne 60 = .ok (.iconst 0, 1) := by decide +kernel
theorem dX0_startWithOne_61 : decode cX0_startWithOne 61 = .ok (.iaload, 1) := by decide +kernel
theorem dX0_startWithOne_62 : decode cX0_startWithOne 62 = .ok (.putfield 31, 3) := by decide +kernel
theorem dX0_startWithOne_65 : decode cX0_startWithOne 65 = .ok (.return_, 1) := by decide +kernel
theorem dX0_nextWay_0 : decode cX0_nextWay 0 = .ok (.iconst 1, 1) := by decide +kernel
theorem dX0_nextWay_1 : decode cX0_nextWay 1 = .ok (.istore_n 2, 1) := by decide +kernel
theorem dX0_nextWay_2 : decode cX0_nextWay 2 = .ok (.aload_n 0, 1) := by decide +kernel
theorem dX0_nextWay_3 : decode cX0_nextWay 3 = .ok (.getfield 27, 3) := by decide +kernel
theorem dX0_nextWay_6 : decode cX0_nextWay 6 = .ok (.iconst 1, 1) := by decide +kernel
theorem dX0_nextWay_7 : decode cX0_nextWay 7 = .ok (.isub, 1) := by decide +kernel
theorem dX0_nextWay_8 : decode cX0_nextWay 8 = .ok (.istore_n 3, 1) := by decide +kernel
theorem dX0_nextWay_9 : decode cX0_nextWay 9 = .ok (.iload_n 3, 1) := by decide +kernel
theorem dX0_nextWay_10 : decode cX0_nextWay 10 = .ok (.ifCond .le 90, 3) := by decide +kernel
theorem dX0_nextWay_13 : decode cX0_nextWay 13 = .ok (.iload_n 2, 1) := by decide +kernel
theorem dX0_nextWay_14 : decode cX0_nextWay 14 = .ok (.ifCond .eq 86, 3) := by decide +kernel
theorem dX0_nextWay_17 : decode cX0_nextWay 17 = .ok (.aload_n 0, 1) := by decide +kernel
theorem dX0_nextWay_18 : decode cX0_nextWay 18 = .ok (.getfield 24, 3) := by decide +kernel
theorem dX0_nextWay_21 : decode cX0_nextWay 21 = .ok (.aload_n 0, 1) := by decide +kernel
theorem dX0_nextWay_22 : decode cX0_nextWay 22 = .ok (.getfield 18, 3) := by decide +kernel
theorem dX0_nextWay_25 : decode cX0_nextWay 25 = .ok (.iload_n 3, 1) := by decide +kernel
theorem dX0_nextWay_26 : decode cX0_nextWay 26 = .ok (.iaload, 1) := by decide +kernel
theorem dX0_nextWay_27 : decode cX0_nextWay 27 = .ok (.dup2, 1) := by decide +kernel
theorem dX0_nextWay_28 : decode cX0_nextWay 28 = .ok (.iaload, 1) := by decide +kernel
theorem dX0_nextWay_29 : decode cX0_nextWay 29 = .ok (.aload_n 0, 1) := by decide +kernel
theorem dX0_nextWay_30 : decode cX0_nextWay 30 = .ok (.getfield 15, 3) := by decide +kernel
theorem dX0_nextWay_33 : decode cX0_nextWay 33 = .ok (.iload_n 3, 1) := by decide +kernel
theorem dX0_nextWay_34 : decode cX0_nextWay 34 = .ok (.iaload, 1) := by decide +kernel
theorem dX0_nextWay_35 : decode cX0_nextWay 35 = .ok (.isub, 1) := by decide +kernel
theorem dX0_nextWay_36 : decode cX0_nextWay 36 = .ok (.iastore, 1) := by decide +kernel
theorem dX0_nextWay_37 : decode cX0_nextWay 37 = .ok (.aload_n 0, 1) := by decide +kernel
theorem dX0_nextWay_38 : decode cX0_nextWay 38 = .ok (.getfield 18, 3) := by decide +kernel
theorem dX0_nextWay_41 : decode cX0_nextWay 41 = .ok (.iload_n 3, 1) := by decide +kernel
theorem dX0_nextWay_42 : decode cX0_nextWay 42 = .ok (.dup2, 1) := by decide +kernel
theorem dX0_nextWay_43 : decode cX0_nextWay 43 = .ok (.iaload, 1) := by decide +kernel
theorem dX0_nextWay_44 : decode cX0_nextWay 44 = .ok (.iconst 1, 1) := by decide +kernel
theorem dX0_nextWay_45 : decode cX0_nextWay 45 = .ok (.iadd, 1) := by decide +kernel
theorem dX0_nextWay_46 : decode cX0_nextWay 46 = .ok (.iastore, 1) := by decide +kernel
theorem dX0_nextWay_47 : decode cX0_nextWay 47 = .ok (.aload_n 0, 1) := by decide +kernel
theorem dX0_nextWay_48 : decode cX0_nextWay 48 = .ok (.getfield 18, 3) := by decide +kernel
theorem dX0_nextWay_51 : decode cX0_nextWay 51 = .ok (.iload_n 3, 1) := by decide +kernel
theorem dX0_nextWay_52 : decode cX0_nextWay 52 = .ok (.iaload, 1) := by decide +kernel
theorem dX0_nextWay_53 : decode cX0_nextWay 53 = .ok (.iload_n 1, 1) := by decide +kernel
theorem dX0_nextWay_54 : decode cX0_nextWay 54 = .ok (.if_icmp .ne 7, 3) := by decide +kernel
theorem dX0_nextWay_57 : decode cX0_nextWay 57 = .ok (.iconst 1, 1) := by decide +kernel
theorem dX0_nextWay_58 : decode cX0_nextWay 58 = .ok (.goto 4, 3) := by decide +kernel
theorem dX0_nextWay_61 : decode cX0_nextWay 61 = .ok (.iconst 0, 1) := by decide +kernel
theorem dX0_nextWay_62 : decode cX0_nextWay 62 = .ok (.istore_n 2, 1) := by decide +kernel
theorem dX0_nextWay_63 : decode cX0_nextWay 63 = .ok (.iload_n 2, 1) := by decide +kernel
theorem dX0_nextWay_64 : decode cX0_nextWay 64 = .ok (.ifCond .eq 10, 3) := by decide +kernel
theorem dX0_nextWay_67 : decode cX0_nextWay 67 = .ok (.aload_n 0, 1) := by decide +kernel
theorem dX0_nextWay_68 : decode cX0_nextWay 68 = .ok (.getfield 18, 3) := by decide +kernel
theorem dX0_nextWay_71 : decode cX0_nextWay 71 = .ok (.iload_n 3, 1) := by decide +kernel
theorem dX0_nextWay_72 : decode cX0_nextWay 72 = .ok (.iconst 0, 1) := by decide +kernel
theorem dX0_nextWay_73 : decode cX0_nextWay 73 = .ok (.iastore, 1) := by decide +kernel
theorem dX0_nextWay_74 : decode cX0_nextWay 74 = .ok (.aload_n 0, 1) := by decide +kernel
theorem dX0_nextWay_75 : decode cX0_nextWay 75 = .ok (.getfield 24, 3) := by decide +kernel
theorem dX0_nextWay_78 : decode cX0_nextWay 78 = .ok (.aload_n 0, 1) := by decide +kernel
theorem dX0_nextWay_79 : decode cX0_nextWay 79 = .ok (.getfield 18, 3) := by decide +kernel
theorem dX0_nextWay_82 : decode cX0_nextWay 82 = .ok (.iload_n 3, 1) := by decide +kernel
theorem dX0_nextWay_83 : decode cX0_nextWay 83 = .ok (.iaload, 1) := by decide +kernel
theorem dX0_nextWay_84 : decode cX0_nextWay 84 = .ok (.dup2, 1) := by decide +kernel
theorem dX0_nextWay_85 : decode cX0_nextWay 85 = .ok (.iaload, 1) := by decide +kernel
theorem dX0_nextWay_86 : decode cX0_nextWay 86 = .ok (.aload_n 0, 1) := by decide +kernel
theorem dX0_nextWay_87 : decode cX0_nextWay 87 = .ok (.getfield 15, 3) := by decide +kernel
theorem dX0_nextWay_90 : decode cX0_nextWay 90 = .ok (.iload_n 3, 1) := by decide +kernel
theorem dX0_nextWay_91 : decode cX0_nextWay 91 = .ok (.iaload, 1) := by decide +kernel
theorem dX0_nextWay_92 : decode cX0_nextWay 92 = .ok (.iadd, 1) := by decide +kernel
theorem dX0_nextWay_93 : decode cX0_nextWay 93 = .ok (.iastore, 1) := by decide +kernel
theorem dX0_nextWay_94 : decode cX0_nextWay 94 = .ok (.iinc 3 (-1), 3) := by decide +kernel
theorem dX0_nextWay_97 : decode cX0_nextWay 97 = .ok (.goto (-88), 3) := by decide +kernel
theorem dX0_nextWay_100 : decode cX0_nextWay 100 = .ok (.return_, 1) := by decide +kernel
theorem dX0_greatestSum_0 : decode cX0_greatestSum 0 = .ok (.iconst 0, 1) := by decide +kernel
theorem dX0_greatestSum_1 : decode cX0_greatestSum 1 = .ok (.istore_n 1, 1) := by decide +kernel
theorem dX0_greatestSum_2 : decode cX0_greatestSum 2 = .ok (.iconst 0, 1) := by decide +kernel
theorem dX0_greatestSum_3 : decode cX0_greatestSum 3 = .ok (.istore_n 2, 1) := by decide +kernel
theorem dX0_greatestSum_4 : decode cX0_greatestSum 4 = .ok (.iload_n 2, 1) := by decide +kernel
theorem dX0_greatestSum_5 : decode cX0_greatestSum 5 = .ok (.iconst 3, 1) := by decide +kernel
theorem dX0_greatestSum_6 : decode cX0_greatestSum 6 = .ok (.if_icmp .ge 20, 3) := by decide +kernel
theorem dX0_greatestSum_9 : decode cX0_greatestSum 9 = .ok (.iload_n 1, 1) := by decide +kernel
theorem dX0_greatestSum_10 : decode cX0_greatestSum 10 = .ok (.aload_n 0, 1) := by decide +kernel
theorem dX0_greatestSum_11 : decode cX0_greatestSum 11 = .ok (.getfield 24, 3) := by decide +kernel
theorem dX0_greatestSum_14 : decode cX0_greatestSum 14 = .ok (.iload_n 2, 1) := by decide +kernel
theorem dX0_greatestSum_15 : decode cX0_greatestSum 15 = .ok (.iaload, 1) := by decide +kernel
theorem dX0_greatestSum_16 : decode cX0_greatestSum 16 = .ok (.invokestatic 57, 3) := by decide +kernel
theorem dX0_greatestSum_19 : decode cX0_greatestSum 19 = .ok (.istore_n 1, 1) := by decide +kernel
theorem dX0_greatestSum_20 : decode cX0_greatestSum 20 = .ok (.iinc 2 1, 3) := by decide +kernel
theorem dX0_greatestSum_23 : decode cX0_greatestSum 23 = .ok (.goto (-19), 3) := by decide +kernel
theorem dX0_greatestSum_26 : decode cX0_greatestSum 26 = .ok (.iload_n 1, 1) := by decide +kernel
theorem dX0_greatestSum_27 : decode cX0_greatestSum 27 = .ok (.ireturn, 1) := by decide +kernel
theorem dX0_crewOf_0 : decode cX0_crewOf 0 = .ok (.iconst 0, 1) := by decide +kernel
theorem dX0_crewOf_1 : decode cX0_crewOf 1 = .ok (.istore_n 2, 1) := by decide +kernel
theorem dX0_crewOf_2 : decode cX0_crewOf 2 = .ok (.iload_n 2, 1) := by decide +kernel
theorem dX0_crewOf_3 : decode cX0_crewOf 3 = .ok (.aload_n 0, 1) := by decide +kernel
theorem dX0_crewOf_4 : decode cX0_crewOf 4 = .ok (.getfield 27, 3) := by decide +kernel
theorem dX0_crewOf_7 : decode cX0_crewOf 7 = .ok (.if_icmp .ge 26, 3) := by decide +kernel
theorem dX0_crewOf_10 : decode cX0_crewOf 10 = .ok (.aload_n 0, 1) := by decide +kernel
theorem dX0_crewOf_11 : decode cX0_crewOf 11 = .ok (.getfield 9, 3) := by decide +kernel
theorem dX0_crewOf_14 : decode cX0_crewOf 14 = .ok (.iload_n 2, 1) := by decide +kernel
theorem dX0_crewOf_15 : decode cX0_crewOf 15 = .ok (.iaload, 1) := by decide +kernel
theorem dX0_crewOf_16 : decode cX0_crewOf 16 = .ok (.iload_n 1, 1) := by decide +kernel
theorem dX0_crewOf_17 : decode cX0_crewOf 17 = .ok (.if_icmp .ne 10, 3) := by decide +kernel
theorem dX0_crewOf_20 : decode cX0_crewOf 20 = .ok (.aload_n 0, 1) := by decide +kernel
theorem dX0_crewOf_21 : decode cX0_crewOf 21 = .ok (.getfield 21, 3) := by decide +kernel
theorem dX0_crewOf_24 : decode cX0_crewOf 24 = .ok (.iload_n 2, 1) := by decide +kernel
theorem dX0_crewOf_25 : decode cX0_crewOf 25 = .ok (.iaload, 1) := by decide +kernel
theorem dX0_crewOf_26 : decode cX0_crewOf 26 = .ok (.ireturn, 1) := by decide +kernel
theorem dX0_crewOf_27 : decode cX0_crewOf 27 = .ok (.iinc 2 1, 3) := by decide +kernel
theorem dX0_crewOf_30 : decode cX0_crewOf 30 = .ok (.goto (-28), 3) := by decide +kernel
theorem dX0_crewOf_33 : decode cX0_crewOf 33 = .ok (.iconst (-1), 1) := by decide +kernel
theorem dX0_crewOf_34 : decode cX0_crewOf 34 = .ok (.ireturn, 1) := by decide +kernel
theorem dX1_init_0 : decode cX1_init 0 = .ok (.aload_n 0, 1) := by decide +kernel
theorem dX1_init_1 : decode cX1_init 1 = .ok (.invokespecial 3, 3) := by decide +kernel
theorem dX1_init_4 : decode cX1_init 4 = .ok (.aload_n 0, 1) := by decide +kernel
theorem dX1_init_5 : decode cX1_init 5 = .ok (.bipush 10, 2) := by decide +kernel
theorem dX1_init_7 : decode cX1_init 7 = .ok (.newarray .int, 2) := by decide +kernel
theorem dX1_init_9 : decode cX1_init 9 = .ok (.putfield 9, 3) := by decide +kernel
theorem dX1_init_12 : decode cX1_init 12 = .ok (.aload_n 0, 1) := by decide +kernel
theorem dX1_init_13 : decode cX1_init 13 = .ok (.bipush 10, 2) := by decide +kernel
theorem dX1_init_15 : decode cX1_init 15 = .ok (.newarray .int, 2) := by decide +kernel
theorem dX1_init_17 : decode cX1_init 17 = .ok (.putfield 15, 3) := by decide +kernel
theorem dX1_init_20 : decode cX1_init 20 = .ok (.aload_n 0, 1) := by decide +kernel
theorem dX1_init_21 : decode cX1_init 21 = .ok (.bipush 10, 2) := by decide +kernel
theorem dX1_init_23 : decode cX1_init 23 = .ok (.newarray .int, 2) := by decide +kernel
theorem dX1_init_25 : decode cX1_init 25 = .ok (.putfield 18, 3) := by decide +kernel
theorem dX1_init_28 : decode cX1_init 28 = .ok (.aload_n 0, 1) := by decide +kernel
theorem dX1_init_29 : decode cX1_init 29 = .ok (.bipush 10, 2) := by decide +kernel
theorem dX1_init_31 : decode cX1_init 31 = .ok (.newarray .int, 2) := by decide +kernel
theorem dX1_init_33 : decode cX1_init 33 = .ok (.putfield 21, 3) := by decide +kernel
theorem dX1_init_36 : decode cX1_init 36 = .ok (.aload_n 0, 1) := by decide +kernel
theorem dX1_init_37 : decode cX1_init 37 = .ok (.bipush 10, 2) := by decide +kernel
theorem dX1_init_39 : decode cX1_init 39 = .ok (.newarray .int, 2) := by decide +kernel
theorem dX1_init_41 : decode cX1_init 41 = .ok (.putfield 24, 3) := by decide +kernel
theorem dX1_init_44 : decode cX1_init 44 = .ok (.aload_n 0, 1) := by decide +kernel
theorem dX1_init_45 : decode cX1_init 45 = .ok (.bipush 10, 2) := by decide +kernel
theorem dX1_init_47 : decode cX1_init 47 = .ok (.newarray .int, 2) := by decide +kernel
theorem dX1_init_49 : decode cX1_init 49 = .ok (.putfield 27, 3) := by decide +kernel
theorem dX1_init_52 : decode cX1_init 52 = .ok (.aload_n 0, 1) := by decide +kernel
theorem dX1_init_53 : decode cX1_init 53 = .ok (.bipush 10, 2) := by decide +kernel
theorem dX1_init_55 : decode cX1_init 55 = .ok (.newarray .int, 2) := by decide +kernel
theorem dX1_init_57 : decode cX1_init 57 = .ok (.putfield 30, 3) := by decide +kernel
theorem dX1_init_60 : decode cX1_init 60 = .ok (.aload_n 0, 1) := by decide +kernel
theorem dX1_init_61 : decode cX1_init 61 = .ok (.bipush 60, 2) := by decide +kernel
theorem dX1_init_63 : decode cX1_init 63 = .ok (.newarray .int, 2) := by decide +kernel
theorem dX1_init_65 : decode cX1_init 65 = .ok (.putfield 33, 3) := by decide +kernel
theorem dX1_init_68 : decode cX1_init 68 = .ok (.aload_n 0, 1) := by decide +kernel
theorem dX1_init_69 : decode cX1_init 69 = .ok (.bipush 60, 2) := by decide +kernel
theorem dX1_init_71 : decode cX1_init 71 = .ok (.newarray .boolean, 2) := by decide +kernel
theorem dX1_init_73 : decode cX1_init 73 = .ok (.putfield 36, 3) := by decide +kernel
theorem dX1_init_76 : decode cX1_init 76 = .ok (.aload_n 0, 1) := by decide +kernel
theorem dX1_init_77 : decode cX1_init 77 = .ok (.iconst 0, 1) := by decide +kernel
theorem dX1_init_78 : decode cX1_init 78 = .ok (.putfield 40, 3) := by decide +kernel
theorem dX1_init_81 : decode cX1_init 81 = .ok (.return_, 1) := by decide +kernel
theorem dX1_has_0 : decode cX1_has 0 = .ok (.iload_n 1, 1) := by decide +kernel
theorem dX1_has_1 : decode cX1_has 1 = .ok (.ifCond .lt 15, 3) := by decide +kernel
theorem dX1_has_4 : decode cX1_has 4 = .ok (.iload_n 1, 1) := by decide +kernel
theorem dX1_has_5 : decode cX1_has 5 = .ok (.aload_n 0, 1) := by decide +kernel
theorem dX1_has_6 : decode cX1_has 6 = .ok (.getfield 40, 3) := by decide +kernel
theorem dX1_has_9 : decode cX1_has 9 = .ok (.if_icmp .ge 7, 3) := by decide +kernel
theorem dX1_has_12 : decode cX1_has 12 = .ok (.iconst 1, 1) := by decide +kernel
theorem dX1_has_13 : decode cX1_has 13 = .ok (.goto 4, 3) := by decide +kernel
theorem dX1_has_16 : decode cX1_has 16 = .ok (.iconst 0, 1) := by decide +kernel
theorem dX1_has_17 : decode cX1_has 17 = .ok (.ireturn, 1) := by decide +kernel
theorem dX1_hasAll_0 : decode cX1_hasAll 0 = .ok (.iload_n 1, 1) := by decide +kernel
theorem dX1_hasAll_1 : decode cX1_hasAll 1 = .ok (.ifCond .lt 17, 3) := by decide +kernel
theorem dX1_hasAll_4 : decode cX1_hasAll 4 = .ok (.iload_n 1, 1) := by decide +kernel
theorem dX1_hasAll_5 : decode cX1_hasAll 5 = .ok (.iconst 1, 1) := by decide +kernel
theorem dX1_hasAll_6 : decode cX1_hasAll 6 = .ok (.aload_n 0, 1) := by decide +kernel
theorem dX1_hasAll_7 : decode cX1_hasAll 7 = .ok (.getfield 40, 3) := by decide +kernel
theorem dX1_hasAll_10 : decode cX1_hasAll 10 = .ok (.ishl, 1) := by decide +kernel
theorem dX1_hasAll_11 : decode cX1_hasAll 11 = .ok (.if_icmp .ge 7, 3) := by decide +kernel
theorem dX1_hasAll_14 : decode cX1_hasAll 14 = .ok (.iconst 1, 1) := by decide +kernel
theorem dX1_hasAll_15 : decode cX1_hasAll 15 = .ok (.goto 4, 3) := by decide +kernel
theorem dX1_hasAll_18 : decode cX1_hasAll 18 = .ok (.iconst 0, 1) := by decide +kernel
theorem dX1_hasAll_19 : decode cX1_hasAll 19 = .ok (.ireturn, 1) := by decide +kernel
theorem dX1_ask_0 : decode cX1_ask 0 = .ok (.aload_n 0, 1) := by decide +kernel
theorem dX1_ask_1 : decode cX1_ask 1 = .ok (.getfield 40, 3) := by decide +kernel
theorem dX1_ask_4 : decode cX1_ask 4 = .ok (.bipush 10, 2) := by decide +kernel
theorem dX1_ask_6 : decode cX1_ask 6 = .ok (.if_icmp .lt 6, 3) := by decide +kernel
theorem dX1_ask_9 : decode cX1_ask 9 = .ok (.bipush (-4), 2) := by decide +kernel
theorem dX1_ask_11 : decode cX1_ask 11 = .ok (.ireturn, 1) := by decide +kernel
theorem dX1_ask_12 : decode cX1_ask 12 = .ok (.aload_n 0, 1) := by decide +kernel
theorem dX1_ask_13 : decode cX1_ask 13 = .ok (.getfield 9, 3) := by decide +kernel
theorem dX1_ask_16 : decode cX1_ask 16 = .ok (.aload_n 0, 1) := by decide +kernel
theorem dX1_ask_17 : decode cX1_ask 17 = .ok (.getfield 40, 3) := by decide +kernel
theorem dX1_ask_20 : decode cX1_ask 20 = .ok (.iload_n 1, 1) := by decide +kernel
theorem dX1_ask_21 : decode cX1_ask 21 = .ok (.iastore, 1) := by decide +kernel
theorem dX1_ask_22 : decode cX1_ask 22 = .ok (.aload_n 0, 1) := by decide +kernel
theorem dX1_ask_23 : decode cX1_ask 23 = .ok (.getfield 15, 3) := by decide +kernel
theorem dX1_ask_26 : decode cX1_ask 26 = .ok (.aload_n 0, 1) := by decide +kernel
theorem dX1_ask_27 : decode cX1_ask 27 = .ok (.getfield 40, 3) := by decide +kernel
theorem dX1_ask_30 : decode cX1_ask 30 = .ok (.iload_n 2, 1) := by decide +kernel
theorem dX1_ask_31 : decode cX1_ask 31 = .ok (.iastore, 1) := by decide +kernel
theorem dX1_ask_32 : decode cX1_ask 32 = .ok (.aload_n 0, 1) := by decide +kernel
theorem dX1_ask_33 : decode cX1_ask 33 = .ok (.getfield 18, 3) := by decide +kernel
theorem dX1_ask_36 : decode cX1_ask 36 = .ok (.aload_n 0, 1) := by decide +kernel
theorem dX1_ask_37 : decode cX1_ask 37 = .ok (.getfield 40, 3) := by decide +kernel
theorem dX1_ask_40 : decode cX1_ask 40 = .ok (.iload_n 3, 1) := by decide +kernel
theorem dX1_ask_41 : decode cX1_ask 41 = .ok (.iastore, 1) := by decide +kernel
theorem dX1_ask_42 : decode cX1_ask 42 = .ok (.aload_n 0, 1) := by decide +kernel
theorem dX1_ask_43 : decode cX1_ask 43 = .ok (.dup, 1) := by decide +kernel
theorem dX1_ask_44 : decode cX1_ask 44 = .ok (.getfield 40, 3) := by decide +kernel
theorem dX1_ask_47 : decode cX1_ask 47 = .ok (.iconst 1, 1) := by decide +kernel
theorem dX1_ask_48 : decode cX1_ask 48 = .ok (.iadd, 1) := by decide +kernel
theorem dX1_ask_49 : decode cX1_ask 49 = .ok (.putfield 40, 3) := by decide +kernel
theorem dX1_ask_52 : decode cX1_ask 52 = .ok (.aload_n 0, 1) := by decide +kernel
theorem dX1_ask_53 : decode cX1_ask 53 = .ok (.getfield 40, 3) := by decide +kernel
theorem dX1_ask_56 : decode cX1_ask 56 = .ok (.iconst 1, 1) := by decide +kernel
theorem dX1_ask_57 : decode cX1_ask 57 = .ok (.isub, 1) := by decide +kernel
theorem dX1_ask_58 : decode cX1_ask 58 = .ok (.ireturn, 1) := by decide +kernel
theorem dX1_setOf_0 : decode cX1_setOf 0 = .ok (.iconst 0, 1) := by decide +kernel
theorem dX1_setOf_1 : decode cX1_setOf 1 = .ok (.istore_n 2, 1) := by decide +kernel
theorem dX1_setOf_2 : decode cX1_setOf 2 = .ok (.iconst 0, 1) := by decide +kernel
theorem dX1_setOf_3 : decode cX1_setOf 3 = .ok (.istore_n 3, 1) := by decide +kernel
theorem dX1_setOf_4 : decode cX1_setOf 4 = .ok (.iload_n 3, 1) := by decide +kernel
theorem dX1_setOf_5 : decode cX1_setOf 5 = .ok (.aload_n 0, 1) := by decide +kernel
theorem dX1_setOf_6 : decode cX1_setOf 6 = .ok (.getfield 40, 3) := by decide +kernel
theorem dX1_setOf_9 : decode cX1_setOf 9 = .ok (.if_icmp .ge 25, 3) := by decide +kernel
theorem dX1_setOf_12 : decode cX1_setOf 12 = .ok (.aload_n 0, 1) := by decide +kernel
theorem dX1_setOf_13 : decode cX1_setOf 13 = .ok (.getfield 21, 3) := by decide +kernel
theorem dX1_setOf_16 : decode cX1_setOf 16 = .ok (.iload_n 3, 1) := by decide +kernel
theorem dX1_setOf_17 : decode cX1_setOf 17 = .ok (.iaload, 1) := by decide +kernel
theorem dX1_setOf_18 : decode cX1_setOf 18 = .ok (.iload_n 1, 1) := by decide +kernel
theorem dX1_setOf_19 : decode cX1_setOf 19 = .ok (.if_icmp .ne 9, 3) := by decide +kernel
theorem dX1_setOf_22 : decode cX1_setOf 22 = .ok (.iload_n 2, 1) := by decide +kernel
theorem dX1_setOf_23 : decode cX1_setOf 23 = .ok (.iconst 1, 1) := by decide +kernel
theorem dX1_setOf_24 : decode cX1_setOf 24 = .ok (.iload_n 3, 1) := by decide +kernel
theorem dX1_setOf_25 : decode cX1_setOf 25 = .ok (.ishl, 1) := by decide +kernel
theorem dX1_setOf_26 : decode cX1_setOf 26 = .ok (.ior, 1) := by decide +kernel
theorem dX1_setOf_27 : decode cX1_setOf 27 = .ok (.istore_n 2, 1) := by decide +kernel
theorem dX1_setOf_28 : decode cX1_setOf 28 = .ok (.iinc 3 1, 3) := by decide +kernel
theorem dX1_setOf_31 : decode cX1_setOf 31 = .ok (.goto (-27), 3) := by decide +kernel
theorem dX1_setOf_34 : decode cX1_setOf 34 = .ok (.iload_n 2, 1) := by decide +kernel
theorem dX1_setOf_35 : decode cX1_setOf 35 = .ok (.ireturn, 1) := by decide +kernel
theorem dX1_priceOf_0 : decode cX1_priceOf 0 = .ok (.iconst 0, 1) := by decide +kernel
theorem dX1_priceOf_1 : decode cX1_priceOf 1 = .ok (.istore_n 2, 1) := by decide +kernel
theorem dX1_priceOf_2 : decode cX1_priceOf 2 = .ok (.iconst 0, 1) := by decide +kernel
theorem dX1_priceOf_3 : decode cX1_priceOf 3 = .ok (.istore_n 3, 1) := by decide +kernel
theorem dX1_priceOf_4 : decode cX1_priceOf 4 = .ok (.iload_n 3, 1) := by decide +kernel
theorem dX1_priceOf_5 : decode cX1_priceOf 5 = .ok (.aload_n 0, 1) := by decide +kernel
theorem dX1_priceOf_6 : decode cX1_priceOf 6 = .ok (.getfield 40, 3) := by decide +kernel
theorem dX1_priceOf_9 : decode cX1_priceOf 9 = .ok (.if_icmp .ge 27, 3) := by decide +kernel
theorem dX1_priceOf_12 : decode cX1_priceOf 12 = .ok (.iload_n 1, 1) := by decide +kernel
theorem dX1_priceOf_13 : decode cX1_priceOf 13 = .ok (.iload_n 3, 1) := by decide +kernel
theorem dX1_priceOf_14 : decode cX1_priceOf 14 = .ok (.ishr, 1) := by decide +kernel
theorem dX1_priceOf_15 : decode cX1_priceOf 15 = .ok (.iconst 1, 1) := by decide +kernel
theorem dX1_priceOf_16 : decode cX1_priceOf 16 = .ok (.iand, 1) := by decide +kernel
theorem dX1_priceOf_17 : decode cX1_priceOf 17 = .ok (.iconst 1, 1) := by decide +kernel
theorem dX1_priceOf_18 : decode cX1_priceOf 18 = .ok (.if_icmp .ne 12, 3) := by decide +kernel
theorem dX1_priceOf_21 : decode cX1_priceOf 21 = .ok (.iload_n 2, 1) := by decide +kernel
theorem dX1_priceOf_22 : decode cX1_priceOf 22 = .ok (.aload_n 0, 1) := by decide +kernel
theorem dX1_priceOf_23 : decode cX1_priceOf 23 = .ok (.getfield 18, 3) := by decide +kernel
theorem dX1_priceOf_26 : decode cX1_priceOf 26 = .ok (.iload_n 3, 1) := by decide +kernel
theorem dX1_priceOf_27 : decode cX1_priceOf 27 = .ok (.iaload, 1) := by decide +kernel
theorem dX1_priceOf_28 : decode cX1_priceOf 28 = .ok (.iadd, 1) := by decide +kernel
theorem dX1_priceOf_29 : decode cX1_priceOf 29 = .ok (.istore_n 2, 1) := by decide +kernel
theorem dX1_priceOf_30 : decode cX1_priceOf 30 = .ok (.iinc 3 1, 3) := by decide +kernel
theorem dX1_priceOf_33 : decode cX1_priceOf 33 = .ok (.goto (-29), 3) := by decide +kernel
theorem dX1_priceOf_36 : decode cX1_priceOf 36 = .ok (.iload_n 2, 1) := by decide +kernel
theorem dX1_priceOf_37 : decode cX1_priceOf 37 = .ok (.ireturn, 1) := by decide +kernel
theorem dX1_worksOn_0 : decode cX1_worksOn 0 = .ok (.aload_n 0, 1) := by decide +kernel
theorem dX1_worksOn_1 : decode cX1_worksOn 1 = .ok (.getfield 21, 3) := by decide +kernel
theorem dX1_worksOn_4 : decode cX1_worksOn 4 = .ok (.iload_n 1, 1) := by decide +kernel
theorem dX1_worksOn_5 : decode cX1_worksOn 5 = .ok (.iaload, 1) := by decide +kernel
theorem dX1_worksOn_6 : decode cX1_worksOn 6 = .ok (.iconst 1, 1) := by decide +kernel
theorem dX1_worksOn_7 : decode cX1_worksOn 7 = .ok (.if_icmp .ne 27, 3) := by decide +kernel
theorem dX1_worksOn_10 : decode cX1_worksOn 10 = .ok (.aload_n 0, 1) := by decide +kernel
theorem dX1_worksOn_11 : decode cX1_worksOn 11 = .ok (.getfield 9, 3) := by decide +kernel
theorem dX1_worksOn_14 : decode cX1_worksOn 14 = .ok (.iload_n 1, 1) := by decide +kernel
theorem dX1_worksOn_15 : decode cX1_worksOn 15 = .ok (.iaload, 1) := by decide +kernel
theorem dX1_worksOn_16 : decode cX1_worksOn 16 = .ok (.iload_n 2, 1) := by decide +kernel
theorem dX1_worksOn_17 : decode cX1_worksOn 17 = .ok (.if_icmp .eq 13, 3) := by decide +kernel
theorem dX1_worksOn_20 : decode cX1_worksOn 20 = .ok (.aload_n 0, 1) := by decide +kernel
theorem dX1_worksOn_21 : decode cX1_worksOn 21 = .ok (.getfield 15, 3) := by decide +kernel
theorem dX1_worksOn_24 : decode cX1_worksOn 24 = .ok (.iload_n 1, 1) := by decide +kernel
theorem dX1_worksOn_25 : decode cX1_worksOn 25 = .ok (.iaload, 1) := by decide +kernel
theorem dX1_worksOn_26 : decode cX1_worksOn 26 = .ok (.iload_n 2, 1) := by decide +kernel
theorem dX1_worksOn_27 : decode cX1_worksOn 27 = .ok (.if_icmp .ne 7, 3) := by decide +kernel
theorem dX1_worksOn_30 : decode cX1_worksOn 30 = .ok (.iconst 1, 1) := by decide +kernel
theorem dX1_worksOn_31 : decode cX1_worksOn 31 = .ok (.goto 4, 3) := by decide +kernel
theorem dX1_worksOn_34 : decode cX1_worksOn 34 = .ok (.iconst 0, 1) := by decide +kernel
theorem dX1_worksOn_35 : decode cX1_worksOn 35 = .ok (.ireturn, 1) := by decide +kernel
theorem dX1_tell_0 : decode cX1_tell 0 = .ok (.iload_n 2, 1) := by decide +kernel
theorem dX1_tell_1 : decode cX1_tell 1 = .ok (.tableswitch 81 0 5 #[39, 46, 53, 60, 67, 74], 39) := by decide +kernel
theorem dX1_tell_40 : decode cX1_tell 40 = .ok (.aload_n 0, 1) := by decide +kernel
theorem dX1_tell_41 : decode cX1_tell 41 = .ok (.getfield 21, 3) := by decide +kernel
theorem dX1_tell_44 : decode cX1_tell 44 = .ok (.iload_n 1, 1) := by decide +kernel
theorem dX1_tell_45 : decode cX1_tell 45 = .ok (.iaload, 1) := by decide +kernel
theorem dX1_tell_46 : decode cX1_tell 46 = .ok (.ireturn, 1) := by decide +kernel
theorem dX1_tell_47 : decode cX1_tell 47 = .ok (.aload_n 0, 1) := by decide +kernel
theorem dX1_tell_48 : decode cX1_tell 48 = .ok (.getfield 9, 3) := by decide +kernel
theorem dX1_tell_51 : decode cX1_tell 51 = .ok (.iload_n 1, 1) := by decide +kernel
theorem dX1_tell_52 : decode cX1_tell 52 = .ok (.iaload, 1) := by decide +kernel
theorem dX1_tell_53 : decode cX1_tell 53 = .ok (.ireturn, 1) := by decide +kernel
theorem dX1_tell_54 : decode cX1_tell 54 = .ok (.aload_n 0, 1) := by decide +kernel
theorem dX1_tell_55 : decode cX1_tell 55 = .ok (.getfield 15, 3) := by decide +kernel
theorem dX1_tell_58 : decode cX1_tell 58 = .ok (.iload_n 1, 1) := by decide +kernel
theorem dX1_tell_59 : decode cX1_tell 59 = .ok (.iaload, 1) := by decide +kernel
theorem dX1_tell_60 : decode cX1_tell 60 = .ok (.ireturn, 1) := by decide +kernel
theorem dX1_tell_61 : decode cX1_tell 61 = .ok (.aload_n 0, 1) := by decide +kernel
theorem dX1_tell_62 : decode cX1_tell 62 = .ok (.getfield 18, 3) := by decide +kernel
theorem dX1_tell_65 : decode cX1_tell 65 = .ok (.iload_n 1, 1) := by decide +kernel
theorem dX1_tell_66 : decode cX1_tell 66 = .ok (.iaload, 1) := by decide +kernel
theorem dX1_tell_67 : decode cX1_tell 67 = .ok (.ireturn, 1) := by decide +kernel
theorem dX1_tell_68 : decode cX1_tell 68 = .ok (.aload_n 0, 1) := by decide +kernel
theorem dX1_tell_69 : decode cX1_tell 69 = .ok (.getfield 24, 3) := by decide +kernel
theorem dX1_tell_72 : decode cX1_tell 72 = .ok (.iload_n 1, 1) := by decide +kernel
theorem dX1_tell_73 : decode cX1_tell 73 = .ok (.iaload, 1) := by decide +kernel
theorem dX1_tell_74 : decode cX1_tell 74 = .ok (.ireturn, 1) := by decide +kernel
theorem dX1_tell_75 : decode cX1_tell 75 = .ok (.aload_n 0, 1) := by decide +kernel
theorem dX1_tell_76 : decode cX1_tell 76 = .ok (.getfield 27, 3) := by decide +kernel
theorem dX1_tell_79 : decode cX1_tell 79 = .ok (.iload_n 1, 1) := by decide +kernel
theorem dX1_tell_80 : decode cX1_tell 80 = .ok (.iaload, 1) := by decide +kernel
theorem dX1_tell_81 : decode cX1_tell 81 = .ok (.ireturn, 1) := by decide +kernel
theorem dX1_tell_82 : decode cX1_tell 82 = .ok (.aload_n 0, 1) := by decide +kernel
theorem dX1_tell_83 : decode cX1_tell 83 = .ok (.getfield 30, 3) := by decide +kernel
theorem dX1_tell_86 : decode cX1_tell 86 = .ok (.iload_n 1, 1) := by decide +kernel
theorem dX1_tell_87 : decode cX1_tell 87 = .ok (.iaload, 1) := by decide +kernel
theorem dX1_tell_88 : decode cX1_tell 88 = .ok (.ireturn, 1) := by decide +kernel
theorem dX2_init_0 : decode cX2_init 0 = .ok (.aload_n 0, 1) := by decide +kernel
theorem dX2_init_1 : decode cX2_init 1 = .ok (.invokespecial 3, 3) := by decide +kernel
theorem dX2_init_4 : decode cX2_init 4 = .ok (.aload_n 0, 1) := by decide +kernel
theorem dX2_init_5 : decode cX2_init 5 = .ok (.bipush 6, 2) := by decide +kernel
theorem dX2_init_7 : decode cX2_init 7 = .ok (.newarray .int, 2) := by decide +kernel
theorem dX2_init_9 : decode cX2_init 9 = .ok (.putfield 9, 3) := by decide +kernel
theorem dX2_init_12 : decode cX2_init 12 = .ok (.aload_n 0, 1) := by decide +kernel
theorem dX2_init_13 : decode cX2_init 13 = .ok (.bipush 6, 2) := by decide +kernel
theorem dX2_init_15 : decode cX2_init 15 = .ok (.newarray .int, 2) := by decide +kernel
theorem dX2_init_17 : decode cX2_init 17 = .ok (.putfield 15, 3) := by decide +kernel
theorem dX2_init_20 : decode cX2_init 20 = .ok (.aload_n 0, 1) := by decide +kernel
theorem dX2_init_21 : decode cX2_init 21 = .ok (.iconst 0, 1) := by decide +kernel
theorem dX2_init_22 : decode cX2_init 22 = .ok (.putfield 18, 3) := by decide +kernel
theorem dX2_init_25 : decode cX2_init 25 = .ok (.return_, 1) := by decide +kernel
theorem dX2_write_0 : decode cX2_write 0 = .ok (.aload_n 0, 1) := by decide +kernel
theorem dX2_write_1 : decode cX2_write 1 = .ok (.getfield 18, 3) := by decide +kernel
theorem dX2_write_4 : decode cX2_write 4 = .ok (.ifCond .le 36, 3) := by decide +kernel
theorem dX2_write_7 : decode cX2_write 7 = .ok (.iload_n 1, 1) := by decide +kernel
theorem dX2_write_8 : decode cX2_write 8 = .ok (.aload_n 0, 1) := by decide +kernel
theorem dX2_write_9 : decode cX2_write 9 = .ok (.getfield 9, 3) := by decide +kernel
theorem dX2_write_12 : decode cX2_write 12 = .ok (.aload_n 0, 1) := by decide +kernel
theorem dX2_write_13 : decode cX2_write 13 = .ok (.getfield 18, 3) := by decide +kernel
theorem dX2_write_16 : decode cX2_write 16 = .ok (.iconst 1, 1) := by decide +kernel
theorem dX2_write_17 : decode cX2_write 17 = .ok (.isub, 1) := by decide +kernel
theorem dX2_write_18 : decode cX2_write 18 = .ok (.iaload, 1) := by decide +kernel
theorem dX2_write_19 : decode cX2_write 19 = .ok (.if_icmp .le 18, 3) := by decide +kernel
theorem dX2_write_22 : decode cX2_write 22 = .ok (.iload_n 2, 1) := by decide +kernel
theorem dX2_write_23 : decode cX2_write 23 = .ok (.aload_n 0, 1) := by decide +kernel
theorem dX2_write_24 : decode cX2_write 24 = .ok (.getfield 15, 3) := by decide +kernel
theorem dX2_write_27 : decode cX2_write 27 = .ok (.aload_n 0, 1) := by decide +kernel
theorem dX2_write_28 : decode cX2_write 28 = .ok (.getfield 18, 3) := by decide +kernel
theorem dX2_write_31 : decode cX2_write 31 = .ok (.iconst 1, 1) := by decide +kernel
theorem dX2_write_32 : decode cX2_write 32 = .ok (.isub, 1) := by decide +kernel
theorem dX2_write_33 : decode cX2_write 33 = .ok (.iaload, 1) := by decide +kernel
theorem dX2_write_34 : decode cX2_write 34 = .ok (.if_icmp .gt 6, 3) := by decide +kernel
theorem dX2_write_37 : decode cX2_write 37 = .ok (.bipush (-3), 2) := by decide +kernel
theorem dX2_write_39 : decode cX2_write 39 = .ok (.ireturn, 1) := by decide +kernel
theorem dX2_write_40 : decode cX2_write 40 = .ok (.aload_n 0, 1) := by decide +kernel
theorem dX2_write_41 : decode cX2_write 41 = .ok (.getfield 18, 3) := by decide +kernel
theorem dX2_write_44 : decode cX2_write 44 = .ok (.bipush 6, 2) := by decide +kernel
theorem dX2_write_46 : decode cX2_write 46 = .ok (.if_icmp .lt 6, 3) := by decide +kernel
theorem dX2_write_49 : decode cX2_write 49 = .ok (.bipush (-4), 2) := by decide +kernel
theorem dX2_write_51 : decode cX2_write 51 = .ok (.ireturn, 1) := by decide +kernel
theorem dX2_write_52 : decode cX2_write 52 = .ok (.aload_n 0, 1) := by decide +kernel
theorem dX2_write_53 : decode cX2_write 53 = .ok (.getfield 9, 3) := by decide +kernel
theorem dX2_write_56 : decode cX2_write 56 = .ok (.aload_n 0, 1) := by decide +kernel
theorem dX2_write_57 : decode cX2_write 57 = .ok (.getfield 18, 3) := by decide +kernel
theorem dX2_write_60 : decode cX2_write 60 = .ok (.iload_n 1, 1) := by decide +kernel
theorem dX2_write_61 : decode cX2_write 61 = .ok (.iastore, 1) := by decide +kernel
theorem dX2_write_62 : decode cX2_write 62 = .ok (.aload_n 0, 1) := by decide +kernel
theorem dX2_write_63 : decode cX2_write 63 = .ok (.getfield 15, 3) := by decide +kernel
theorem dX2_write_66 : decode cX2_write 66 = .ok (.aload_n 0, 1) := by decide +kernel
theorem dX2_write_67 : decode cX2_write 67 = .ok (.getfield 18, 3) := by decide +kernel
theorem dX2_write_70 : decode cX2_write 70 = .ok (.iload_n 2, 1) := by decide +kernel
theorem dX2_write_71 : decode cX2_write 71 = .ok (.iastore, 1) := by decide +kernel
theorem dX2_write_72 : decode cX2_write 72 = .ok (.aload_n 0, 1) := by decide +kernel
theorem dX2_write_73 : decode cX2_write 73 = .ok (.dup, 1) := by decide +kernel
theorem dX2_write_74 : decode cX2_write 74 = .ok (.getfield 18, 3) := by decide +kernel
theorem dX2_write_77 : decode cX2_write 77 = .ok (.iconst 1, 1) := by decide +kernel
theorem dX2_write_78 : decode cX2_write 78 = .ok (.iadd, 1) := by decide +kernel
theorem dX2_write_79 : decode cX2_write 79 = .ok (.putfield 18, 3) := by decide +kernel
theorem dX2_write_82 : decode cX2_write 82 = .ok (.aload_n 0, 1) := by decide +kernel
theorem dX2_write_83 : decode cX2_write 83 = .ok (.getfield 18, 3) := by decide +kernel
theorem dX2_write_86 : decode cX2_write 86 = .ok (.ireturn, 1) := by decide +kernel
theorem dX2_doorsFor_0 : decode cX2_doorsFor 0 = .ok (.iconst 1, 1) := by decide +kernel
theorem dX2_doorsFor_1 : decode cX2_doorsFor 1 = .ok (.istore_n 2, 1) := by decide +kernel
theorem dX2_doorsFor_2 : decode cX2_doorsFor 2 = .ok (.iconst 0, 1) := by decide +kernel
theorem dX2_doorsFor_3 : decode cX2_doorsFor 3 = .ok (.istore_n 3, 1) := by decide +kernel
theorem dX2_doorsFor_4 : decode cX2_doorsFor 4 = .ok (.iload_n 3, 1) := by decide +kernel
theorem dX2_doorsFor_5 : decode cX2_doorsFor 5 = .ok (.aload_n 0, 1) := by decide +kernel
theorem dX2_doorsFor_6 : decode cX2_doorsFor 6 = .ok (.getfield 18, 3) := by decide +kernel
theorem dX2_doorsFor_9 : decode cX2_doorsFor 9 = .ok (.if_icmp .ge 26, 3) := by decide +kernel
theorem dX2_doorsFor_12 : decode cX2_doorsFor 12 = .ok (.iload_n 1, 1) := by decide +kernel
theorem dX2_doorsFor_13 : decode cX2_doorsFor 13 = .ok (.aload_n 0, 1) := by decide +kernel
theorem dX2_doorsFor_14 : decode cX2_doorsFor 14 = .ok (.getfield 9, 3) := by decide +kernel
theorem dX2_doorsFor_17 : decode cX2_doorsFor 17 = .ok (.iload_n 3, 1) := by decide +kernel
theorem dX2_doorsFor_18 : decode cX2_doorsFor 18 = .ok (.iaload, 1) := by decide +kernel
theorem dX2_doorsFor_19 : decode cX2_doorsFor 19 = .ok (.if_icmp .lt 10, 3) := by decide +kernel
theorem dX2_doorsFor_22 : decode cX2_doorsFor 22 = .ok (.aload_n 0, 1) := by decide +kernel
theorem dX2_doorsFor_23 : decode cX2_doorsFor 23 = .ok (.getfield 15, 3) := by decide +kernel
theorem dX2_doorsFor_26 : decode cX2_doorsFor 26 = .ok (.iload_n 3, 1) := by decide +kernel
theorem dX2_doorsFor_27 : decode cX2_doorsFor 27 = .ok (.iaload, 1) := by decide +kernel
theorem dX2_doorsFor_28 : decode cX2_doorsFor 28 = .ok (.istore_n 2, 1) := by decide +kernel
theorem dX2_doorsFor_29 : decode cX2_doorsFor 29 = .ok (.iinc 3 1, 3) := by decide +kernel
theorem dX2_doorsFor_32 : decode cX2_doorsFor 32 = .ok (.goto (-28), 3) := by decide +kernel
theorem dX2_doorsFor_35 : decode cX2_doorsFor 35 = .ok (.iload_n 2, 1) := by decide +kernel
theorem dX2_doorsFor_36 : decode cX2_doorsFor 36 = .ok (.ireturn, 1) := by decide +kernel
theorem dX3_init_0 : decode cX3_init 0 = .ok (.aload_n 0, 1) := by decide +kernel
theorem dX3_init_1 : decode cX3_init 1 = .ok (.invokespecial 3, 3) := by decide +kernel
theorem dX3_init_4 : decode cX3_init 4 = .ok (.aload_n 0, 1) := by decide +kernel
theorem dX3_init_5 : decode cX3_init 5 = .ok (.sipush 396, 3) := by decide +kernel
theorem dX3_init_8 : decode cX3_init 8 = .ok (.newarray .int, 2) := by decide +kernel
theorem dX3_init_10 : decode cX3_init 10 = .ok (.putfield 9, 3) := by decide +kernel
theorem dX3_init_13 : decode cX3_init 13 = .ok (.aload_n 0, 1) := by decide +kernel
theorem dX3_init_14 : decode cX3_init 14 = .ok (.iconst 0, 1) := by decide +kernel
theorem dX3_init_15 : decode cX3_init 15 = .ok (.putfield 15, 3) := by decide +kernel
theorem dX3_init_18 : decode cX3_init 18 = .ok (.aload_n 0, 1) := by decide +kernel
theorem dX3_init_19 : decode cX3_init 19 = .ok (.iconst 0, 1) := by decide +kernel
theorem dX3_init_20 : decode cX3_init 20 = .ok (.putfield 19, 3) := by decide +kernel
theorem dX3_init_23 : decode cX3_init 23 = .ok (.aload_n 0, 1) := by decide +kernel
theorem dX3_init_24 : decode cX3_init 24 = .ok (.lconst 0, 1) := by decide +kernel
theorem dX3_init_25 : decode cX3_init 25 = .ok (.putfield 22, 3) := by decide +kernel
theorem dX3_init_28 : decode cX3_init 28 = .ok (.return_, 1) := by decide +kernel
theorem dX3_clear_0 : decode cX3_clear 0 = .ok (.aload_n 0, 1) := by decide +kernel
theorem dX3_clear_1 : decode cX3_clear 1 = .ok (.getfield 9, 3) := by decide +kernel
theorem dX3_clear_4 : decode cX3_clear 4 = .ok (.iconst 0, 1) := by decide +kernel
theorem dX3_clear_5 : decode cX3_clear 5 = .ok (.invokestatic 26, 3) := by decide +kernel
theorem dX3_clear_8 : decode cX3_clear 8 = .ok (.aload_n 0, 1) := by decide +kernel
theorem dX3_clear_9 : decode cX3_clear 9 = .ok (.iconst 0, 1) := by decide +kernel
theorem dX3_clear_10 : decode cX3_clear 10 = .ok (.putfield 15, 3) := by decide +kernel
theorem dX3_clear_13 : decode cX3_clear 13 = .ok (.aload_n 0, 1) := by decide +kernel
theorem dX3_clear_14 : decode cX3_clear 14 = .ok (.iconst 0, 1) := by decide +kernel
theorem dX3_clear_15 : decode cX3_clear 15 = .ok (.putfield 19, 3) := by decide +kernel
theorem dX3_clear_18 : decode cX3_clear 18 = .ok (.aload_n 0, 1) := by decide +kernel
theorem dX3_clear_19 : decode cX3_clear 19 = .ok (.lconst 0, 1) := by decide +kernel
theorem dX3_clear_20 : decode cX3_clear 20 = .ok (.putfield 22, 3) := by decide +kernel
theorem dX3_clear_23 : decode cX3_clear 23 = .ok (.return_, 1) := by decide +kernel
theorem dX3_enter_0 : decode cX3_enter 0 = .ok (.iload_n 1, 1) := by decide +kernel
theorem dX3_enter_1 : decode cX3_enter 1 = .ok (.invokestatic 32, 3) := by decide +kernel
theorem dX3_enter_4 : decode cX3_enter 4 = .ok (.ifCond .eq 13, 3) := by decide +kernel
theorem dX3_enter_7 : decode cX3_enter 7 = .ok (.iload_n 2, 1) := by decide +kernel
theorem dX3_enter_8 : decode cX3_enter 8 = .ok (.ifCond .lt 9, 3) := by decide +kernel
theorem dX3_enter_11 : decode cX3_enter 11 = .ok (.iload_n 3, 1) := by decide +kernel
theorem dX3_enter_12 : decode cX3_enter 12 = .ok (.bipush 66, 2) := by decide +kernel
theorem dX3_enter_14 : decode cX3_enter 14 = .ok (.if_icmp .lt 4, 3) := by decide +kernel
theorem dX3_enter_17 : decode cX3_enter 17 = .ok (.return_, 1) := by decide +kernel
theorem dX3_enter_18 : decode cX3_enter 18 = .ok (.iload_n 1, 1) := by decide +kernel
theorem dX3_enter_19 : decode cX3_enter 19 = .ok (.bipush 66, 2) := by decide +kernel
theorem dX3_enter_21 : decode cX3_enter 21 = .ok (.imul, 1) := by decide +kernel
theorem dX3_enter_22 : decode cX3_enter 22 = .ok (.istore 7, 2) := by decide +kernel
theorem dX3_enter_24 : decode cX3_enter 24 = .ok (.iload_n 2, 1) := by decide +kernel
theorem dX3_enter_25 : decode cX3_enter 25 = .ok (.istore 8, 2) := by decide +kernel
theorem dX3_enter_27 : decode cX3_enter 27 = .ok (.iload 8, 2) := by decide +kernel
theorem dX3_enter_29 : decode cX3_enter 29 = .ok (.iload_n 3, 1) := by decide +kernel
theorem dX3_enter_30 : decode cX3_enter 30 = .ok (.if_icmp .gt 122, 3) := by decide +kernel
theorem dX3_enter_33 : decode cX3_enter 33 = .ok (.aload_n 0, 1) := by decide +kernel
theorem dX3_enter_34 : decode cX3_enter 34 = .ok (.getfield 9, 3) := by decide +kernel
theorem dX3_enter_37 : decode cX3_enter 37 = .ok (.iload 7, 2) := by decide +kernel
theorem dX3_enter_39 : decode cX3_enter 39 = .ok (.iload 8, 2) := by decide +kernel
theorem dX3_enter_41 : decode cX3_enter 41 = .ok (.iadd, 1) := by decide +kernel
theorem dX3_enter_42 : decode cX3_enter 42 = .ok (.iaload, 1) := by decide +kernel
theorem dX3_enter_43 : decode cX3_enter 43 = .ok (.iload 5, 2) := by decide +kernel
theorem dX3_enter_45 : decode cX3_enter 45 = .ok (.isub, 1) := by decide +kernel
theorem dX3_enter_46 : decode cX3_enter 46 = .ok (.istore 9, 2) := by decide +kernel
theorem dX3_enter_48 : decode cX3_enter 48 = .ok (.iload 9, 2) := by decide +kernel
theorem dX3_enter_50 : decode cX3_enter 50 = .ok (.iload 4, 2) := by decide +kernel
theorem dX3_enter_52 : decode cX3_enter 52 = .ok (.iadd, 1) := by decide +kernel
theorem dX3_enter_53 : decode cX3_enter 53 = .ok (.istore 10, 2) := by decide +kernel
theorem dX3_enter_55 : decode cX3_enter 55 = .ok (.aload_n 0, 1) := by decide +kernel
theorem dX3_enter_56 : decode cX3_enter 56 = .ok (.getfield 9, 3) := by decide +kernel
theorem dX3_enter_59 : decode cX3_enter 59 = .ok (.iload 7, 2) := by decide +kernel
theorem dX3_enter_61 : decode cX3_enter 61 = .ok (.iload 8, 2) := by decide +kernel
theorem dX3_enter_63 : decode cX3_enter 63 = .ok (.iadd, 1) := by decide +kernel
theorem dX3_enter_64 : decode cX3_enter 64 = .ok (.dup2, 1) := by decide +kernel
theorem dX3_enter_65 : decode cX3_enter 65 = .ok (.iaload, 1) := by decide +kernel
theorem dX3_enter_66 : decode cX3_enter 66 = .ok (.iload 4, 2) := by decide +kernel
theorem dX3_enter_68 : decode cX3_enter 68 = .ok (.iadd, 1) := by decide +kernel
theorem dX3_enter_69 : decode cX3_enter 69 = .ok (.iastore, 1) := by decide +kernel
theorem dX3_enter_70 : decode cX3_enter 70 = .ok (.iload 9, 2) := by decide +kernel
theorem dX3_enter_72 : decode cX3_enter 72 = .ok (.ifCond .gt 11, 3) := by decide +kernel
theorem dX3_enter_75 : decode cX3_enter 75 = .ok (.iload 10, 2) := by decide +kernel
theorem dX3_enter_77 : decode cX3_enter 77 = .ok (.ifCond .gt 6, 3) := by decide +kernel
theorem dX3_enter_80 : decode cX3_enter 80 = .ok (.goto 66, 3) := by decide +kernel
theorem dX3_enter_83 : decode cX3_enter 83 = .ok (.aload_n 0, 1) := by decide +kernel
theorem dX3_enter_84 : decode cX3_enter 84 = .ok (.dup, 1) := by decide +kernel
theorem dX3_enter_85 : decode cX3_enter 85 = .ok (.getfield 22, 3) := by decide +kernel
theorem dX3_enter_88 : decode cX3_enter 88 = .ok (.iload 6, 2) := by decide +kernel
theorem dX3_enter_90 : decode cX3_enter 90 = .ok (.i2l, 1) := by decide +kernel
theorem dX3_enter_91 : decode cX3_enter 91 = .ok (.iconst 0, 1) := by decide +kernel
theorem dX3_enter_92 : decode cX3_enter 92 = .ok (.iload 10, 2) := by decide +kernel
theorem dX3_enter_94 : decode cX3_enter 94 = .ok (.invokestatic 36, 3) := by decide +kernel
theorem dX3_enter_97 : decode cX3_enter 97 = .ok (.iconst 0, 1) := by decide +kernel
theorem dX3_enter_98 : decode cX3_enter 98 = .ok (.iload 9, 2) := by decide +kernel
theorem dX3_enter_100 : decode cX3_enter 100 = .ok (.invokestatic 36, 3) := by decide +kernel
theorem dX3_enter_103 : decode cX3_enter 103 = .ok (.isub, 1) := by decide +kernel
theorem dX3_enter_104 : decode cX3_enter 104 = .ok (.i2l, 1) := by decide +kernel
theorem dX3_enter_105 : decode cX3_enter 105 = .ok (.lmul, 1) := by decide +kernel
theorem dX3_enter_106 : decode cX3_enter 106 = .ok (.ladd, 1) := by decide +kernel
theorem dX3_enter_107 : decode cX3_enter 107 = .ok (.putfield 22, 3) := by decide +kernel
theorem dX3_enter_110 : decode cX3_enter 110 = .ok (.aload_n 0, 1) := by decide +kernel
theorem dX3_enter_111 : decode cX3_enter 111 = .ok (.dup, 1) := by decide +kernel
theorem dX3_enter_112 : decode cX3_enter 112 = .ok (.getfield 19, 3) := by decide +kernel
theorem dX3_enter_115 : decode cX3_enter 115 = .ok (.iload 10, 2) := by decide +kernel
theorem dX3_enter_117 : decode cX3_enter 117 = .ok (.ifCond .le 7, 3) := by decide +kernel
theorem dX3_enter_120 : decode cX3_enter 120 = .ok (.iconst 1, 1) := by decide +kernel
theorem dX3_enter_121 : decode cX3_enter 121 = .ok (.goto 4, 3) := by decide +kernel
theorem dX3_enter_124 : decode cX3_enter 124 = .ok (.iconst 0, 1) := by decide +kernel
theorem dX3_enter_125 : decode cX3_enter 125 = .ok (.invokestatic 42, 3) := by decide +kernel
theorem dX3_enter_128 : decode cX3_enter 128 = .ok (.iload 9, 2) := by decide +kernel
theorem dX3_enter_130 : decode cX3_enter 130 = .ok (.ifCond .le 7, 3) := by decide +kernel
theorem dX3_enter_133 : decode cX3_enter 133 = .ok (.iconst 1, 1) := by decide +kernel
theorem dX3_enter_134 : decode cX3_enter 134 = .ok (.goto 4, 3) := by decide +kernel
theorem dX3_enter_137 : decode cX3_enter 137 = .ok (.iconst 0, 1) := by decide +kernel
theorem dX3_enter_138 : decode cX3_enter 138 = .ok (.invokestatic 42, 3) := by decide +kernel
theorem dX3_enter_141 : decode cX3_enter 141 = .ok (.isub, 1) := by decide +kernel
theorem dX3_enter_142 : decode cX3_enter 142 = .ok (.iadd, 1) := by decide +kernel
theorem dX3_enter_143 : decode cX3_enter 143 = .ok (.putfield 19, 3) := by decide +kernel
theorem dX3_enter_146 : decode cX3_enter 146 = .ok (.iinc 8 1, 3) := by decide +kernel
theorem dX3_enter_149 : decode cX3_enter 149 = .ok (.goto (-122), 3) := by decide +kernel
theorem dX3_enter_152 : decode cX3_enter 152 = .ok (.return_, 1) := by decide +kernel
theorem dX4_init_0 : decode cX4_init 0 = .ok (.aload_n 0, 1) := by decide +kernel
theorem dX4_init_1 : decode cX4_init 1 = .ok (.invokespecial 3, 3) := by decide +kernel
theorem dX4_init_4 : decode cX4_init 4 = .ok (.aload_n 0, 1) := by decide +kernel
theorem dX4_init_5 : decode cX4_init 5 = .ok (.bipush 61, 2) := by decide +kernel
theorem dX4_init_7 : decode cX4_init 7 = .ok (.newarray .boolean, 2) := by decide +kernel
theorem dX4_init_9 : decode cX4_init 9 = .ok (.putfield 9, 3) := by decide +kernel
theorem dX4_init_12 : decode cX4_init 12 = .ok (.aload_n 0, 1) := by decide +kernel
theorem dX4_init_13 : decode cX4_init 13 = .ok (.iconst 0, 1) := by decide +kernel
theorem dX4_init_14 : decode cX4_init 14 = .ok (.putfield 15, 3) := by decide +kernel
theorem dX4_init_17 : decode cX4_init 17 = .ok (.return_, 1) := by decide +kernel
theorem dX4_on_0 : decode cX4_on 0 = .ok (.iload_n 1, 1) := by decide +kernel
theorem dX4_on_1 : decode cX4_on 1 = .ok (.ifCond .lt 22, 3) := by decide +kernel
theorem dX4_on_4 : decode cX4_on 4 = .ok (.iload_n 1, 1) := by decide +kernel
theorem dX4_on_5 : decode cX4_on 5 = .ok (.bipush 60, 2) := by decide +kernel
theorem dX4_on_7 : decode cX4_on 7 = .ok (.if_icmp .gt 16, 3) := by decide +kernel
theorem dX4_on_10 : decode cX4_on 10 = .ok (.aload_n 0, 1) := by decide +kernel
theorem dX4_on_11 : decode cX4_on 11 = .ok (.getfield 9, 3) := by decide +kernel
theorem dX4_on_14 : decode cX4_on 14 = .ok (.iload_n 1, 1) := by decide +kernel
theorem dX4_on_15 : decode cX4_on 15 = .ok (.baload, 1) := by decide +kernel
theorem dX4_on_16 : decode cX4_on 16 = .ok (.ifCond .eq 7, 3) := by decide +kernel
theorem dX4_on_19 : decode cX4_on 19 = .ok (.iconst 1, 1) := by decide +kernel
theorem dX4_on_20 : decode cX4_on 20 = .ok (.goto 4, 3) := by decide +kernel
theorem dX4_on_23 : decode cX4_on 23 = .ok (.iconst 0, 1) := by decide +kernel
theorem dX4_on_24 : decode cX4_on 24 = .ok (.ireturn, 1) := by decide +kernel
theorem dX4_tell_0 : decode cX4_tell 0 = .ok (.iload_n 1, 1) := by decide +kernel
theorem dX4_tell_1 : decode cX4_tell 1 = .ok (.ifCond .lt 19, 3) := by decide +kernel
theorem dX4_tell_4 : decode cX4_tell 4 = .ok (.iload_n 1, 1) := by decide +kernel
theorem dX4_tell_5 : decode cX4_tell 5 = .ok (.bipush 60, 2) := by decide +kernel
theorem dX4_tell_7 : decode cX4_tell 7 = .ok (.if_icmp .gt 13, 3) := by decide +kernel
theorem dX4_tell_10 : decode cX4_tell 10 = .ok (.aload_n 0, 1) := by decide +kernel
theorem dX4_tell_11 : decode cX4_tell 11 = .ok (.getfield 9, 3) := by decide +kernel
theorem dX4_tell_14 : decode cX4_tell 14 = .ok (.iload_n 1, 1) := by decide +kernel
theorem dX4_tell_15 : decode cX4_tell 15 = .ok (.baload, 1) := by decide +kernel
theorem dX4_tell_16 : decode cX4_tell 16 = .ok (.iload_n 2, 1) := by decide +kernel
theorem dX4_tell_17 : decode cX4_tell 17 = .ok (.if_icmp .ne 4, 3) := by decide +kernel
theorem dX4_tell_20 : decode cX4_tell 20 = .ok (.return_, 1) := by decide +kernel
theorem dX4_tell_21 : decode cX4_tell 21 = .ok (.aload_n 0, 1) := by decide +kernel
theorem dX4_tell_22 : decode cX4_tell 22 = .ok (.getfield 9, 3) := by decide +kernel
theorem dX4_tell_25 : decode cX4_tell 25 = .ok (.iload_n 1, 1) := by decide +kernel
theorem dX4_tell_26 : decode cX4_tell 26 = .ok (.iload_n 2, 1) := by decide +kernel
theorem dX4_tell_27 : decode cX4_tell 27 = .ok (.bastore, 1) := by decide +kernel
theorem dX4_tell_28 : decode cX4_tell 28 = .ok (.aload_n 0, 1) := by decide +kernel
theorem dX4_tell_29 : decode cX4_tell 29 = .ok (.dup, 1) := by decide +kernel
theorem dX4_tell_30 : decode cX4_tell 30 = .ok (.getfield 15, 3) := by decide +kernel
theorem dX4_tell_33 : decode cX4_tell 33 = .ok (.iload_n 2, 1) := by decide +kernel
theorem dX4_tell_34 : decode cX4_tell 34 = .ok (.ifCond .eq 7, 3) := by decide +kernel
theorem dX4_tell_37 : decode cX4_tell 37 = .ok (.iconst 1, 1) := by decide +kernel
theorem dX4_tell_38 : decode cX4_tell 38 = .ok (.goto 4, 3) := by decide +kernel
theorem dX4_tell_41 : decode cX4_tell 41 = .ok (.iconst (-1), 1) := by decide +kernel
theorem dX4_tell_42 : decode cX4_tell 42 = .ok (.iadd, 1) := by decide +kernel
theorem dX4_tell_43 : decode cX4_tell 43 = .ok (.putfield 15, 3) := by decide +kernel
theorem dX4_tell_46 : decode cX4_tell 46 = .ok (.return_, 1) := by decide +kernel
theorem dX5_init_0 : decode cX5_init 0 = .ok (.aload_n 0, 1) := by decide +kernel
theorem dX5_init_1 : decode cX5_init 1 = .ok (.invokespecial 3, 3) := by decide +kernel
theorem dX5_init_4 : decode cX5_init 4 = .ok (.aload_n 0, 1) := by decide +kernel
theorem dX5_init_5 : decode cX5_init 5 = .ok (.bipush 6, 2) := by decide +kernel
theorem dX5_init_7 : decode cX5_init 7 = .ok (.newarray .int, 2) := by decide +kernel
theorem dX5_init_9 : decode cX5_init 9 = .ok (.putfield 9, 3) := by decide +kernel
theorem dX5_init_12 : decode cX5_init 12 = .ok (.aload_n 0, 1) := by decide +kernel
theorem dX5_init_13 : decode cX5_init 13 = .ok (.bipush 6, 2) := by decide +kernel
theorem dX5_init_15 : decode cX5_init 15 = .ok (.newarray .int, 2) := by decide +kernel
theorem dX5_init_17 : decode cX5_init 17 = .ok (.putfield 15, 3) := by decide +kernel
theorem dX5_init_20 : decode cX5_init 20 = .ok (.aload_n 0, 1) := by decide +kernel
theorem dX5_init_21 : decode cX5_init 21 = .ok (.bipush 6, 2) := by decide +kernel
theorem dX5_init_23 : decode cX5_init 23 = .ok (.newarray .int, 2) := by decide +kernel
theorem dX5_init_25 : decode cX5_init 25 = .ok (.putfield 18, 3) := by decide +kernel
theorem dX5_init_28 : decode cX5_init 28 = .ok (.aload_n 0, 1) := by decide +kernel
theorem dX5_init_29 : decode cX5_init 29 = .ok (.bipush 6, 2) := by decide +kernel
theorem dX5_init_31 : decode cX5_init 31 = .ok (.newarray .int, 2) := by decide +kernel
theorem dX5_init_33 : decode cX5_init 33 = .ok (.putfield 21, 3) := by decide +kernel
theorem dX5_init_36 : decode cX5_init 36 = .ok (.aload_n 0, 1) := by decide +kernel
theorem dX5_init_37 : decode cX5_init 37 = .ok (.bipush 6, 2) := by decide +kernel
theorem dX5_init_39 : decode cX5_init 39 = .ok (.newarray .int, 2) := by decide +kernel
theorem dX5_init_41 : decode cX5_init 41 = .ok (.putfield 24, 3) := by decide +kernel
theorem dX5_init_44 : decode cX5_init 44 = .ok (.aload_n 0, 1) := by decide +kernel
theorem dX5_init_45 : decode cX5_init 45 = .ok (.bipush 6, 2) := by decide +kernel
theorem dX5_init_47 : decode cX5_init 47 = .ok (.newarray .int, 2) := by decide +kernel
theorem dX5_init_49 : decode cX5_init 49 = .ok (.putfield 27, 3) := by decide +kernel
theorem dX5_init_52 : decode cX5_init 52 = .ok (.aload_n 0, 1) := by decide +kernel
theorem dX5_init_53 : decode cX5_init 53 = .ok (.getfield 18, 3) := by decide +kernel
theorem dX5_init_56 : decode cX5_init 56 = .ok (.iconst 1, 1) := by decide +kernel
theorem dX5_init_57 : decode cX5_init 57 = .ok (.invokestatic 30, 3) := by decide +kernel
theorem dX5_init_60 : decode cX5_init 60 = .ok (.return_, 1) := by decide +kernel
theorem dX5_have_0 : decode cX5_have 0 = .ok (.iconst 0, 1) := by decide +kernel
theorem dX5_have_1 : decode cX5_have 1 = .ok (.aload_n 0, 1) := by decide +kernel
theorem dX5_have_2 : decode cX5_have 2 = .ok (.getfield 9, 3) := by decide +kernel
theorem dX5_have_5 : decode cX5_have 5 = .ok (.iload_n 1, 1) := by decide +kernel
theorem dX5_have_6 : decode cX5_have 6 = .ok (.iaload, 1) := by decide +kernel
theorem dX5_have_7 : decode cX5_have 7 = .ok (.aload_n 0, 1) := by decide +kernel
theorem dX5_have_8 : decode cX5_have 8 = .ok (.getfield 27, 3) := by decide +kernel
theorem dX5_have_11 : decode cX5_have 11 = .ok (.iload_n 1, 1) := by decide +kernel
theorem dX5_have_12 : decode cX5_have 12 = .ok (.iaload, 1) := by decide +kernel
theorem dX5_have_13 : decode cX5_have 13 = .ok (.isub, 1) := by decide +kernel
theorem dX5_have_14 : decode cX5_have 14 = .ok (.invokestatic 36, 3) := by decide +kernel
theorem dX5_have_17 : decode cX5_have 17 = .ok (.ireturn, 1) := by decide +kernel
theorem dX5_allGone_0 : decode cX5_allGone 0 = .ok (.iconst 0, 1) := by decide +kernel
theorem dX5_allGone_1 : decode cX5_allGone 1 = .ok (.istore_n 1, 1) := by decide +kernel
theorem dX5_allGone_2 : decode cX5_allGone 2 = .ok (.iconst 0, 1) := by decide +kernel
theorem dX5_allGone_3 : decode cX5_allGone 3 = .ok (.istore_n 2, 1) := by decide +kernel
theorem dX5_allGone_4 : decode cX5_allGone 4 = .ok (.iload_n 2, 1) := by decide +kernel
theorem dX5_allGone_5 : decode cX5_allGone 5 = .ok (.bipush 6, 2) := by decide +kernel
theorem dX5_allGone_7 : decode cX5_allGone 7 = .ok (.if_icmp .ge 18, 3) := by decide +kernel
theorem dX5_allGone_10 : decode cX5_allGone 10 = .ok (.iload_n 1, 1) := by decide +kernel
theorem dX5_allGone_11 : decode cX5_allGone 11 = .ok (.aload_n 0, 1) := by decide +kernel
theorem dX5_allGone_12 : decode cX5_allGone 12 = .ok (.getfield 27, 3) := by decide +kernel
theorem dX5_allGone_15 : decode cX5_allGone 15 = .ok (.iload_n 2, 1) := by decide +kernel
theorem dX5_allGone_16 : decode cX5_allGone 16 = .ok (.iaload, 1) := by decide +kernel
theorem dX5_allGone_17 : decode cX5_allGone 17 = .ok (.iadd, 1) := by decide +kernel
theorem dX5_allGone_18 : decode cX5_allGone 18 = .ok (.istore_n 1, 1) := by decide +kernel
theorem dX5_allGone_19 : decode cX5_allGone 19 = .ok (.iinc 2 1, 3) := by decide +kernel
theorem dX5_allGone_22 : decode cX5_allGone 22 = .ok (.goto (-18), 3) := by decide +kernel
theorem dX5_allGone_25 : decode cX5_allGone 25 = .ok (.iload_n 1, 1) := by decide +kernel
theorem dX5_allGone_26 : decode cX5_allGone 26 = .ok (.ireturn, 1) := by decide +kernel
theorem dX6_init_0 : decode cX6_init 0 = .ok (.aload_n 0, 1) := by decide +kernel
theorem dX6_init_1 : decode cX6_init 1 = .ok (.invokespecial 3, 3) := by decide +kernel
theorem dX6_init_4 : decode cX6_init 4 = .ok (.aload_n 0, 1) := by decide +kernel
theorem dX6_init_5 : decode cX6_init 5 = .ok (.new 9, 3) := by decide +kernel
theorem dX6_init_8 : decode cX6_init 8 = .ok (.dup, 1) := by decide +kernel
theorem dX6_init_9 : decode cX6_init 9 = .ok (.invokespecial 11, 3) := by decide +kernel
theorem dX6_init_12 : decode cX6_init 12 = .ok (.putfield 12, 3) := by decide +kernel
theorem dX6_init_15 : decode cX6_init 15 = .ok (.aload_n 0, 1) := by decide +kernel
theorem dX6_init_16 : decode cX6_init 16 = .ok (.new 16, 3) := by decide +kernel
theorem dX6_init_19 : decode cX6_init 19 = .ok (.dup, 1) := by decide +kernel
theorem dX6_init_20 : decode cX6_init 20 = .ok (.invokespecial 18, 3) := by decide +kernel
theorem dX6_init_23 : decode cX6_init 23 = .ok (.putfield 19, 3) := by decide +kernel
theorem dX6_init_26 : decode cX6_init 26 = .ok (.aload_n 0, 1) := by decide +kernel
theorem dX6_init_27 : decode cX6_init 27 = .ok (.new 23, 3) := by decide +kernel
theorem dX6_init_30 : decode cX6_init 30 = .ok (.dup, 1) := by decide +kernel
theorem dX6_init_31 : decode cX6_init 31 = .ok (.invokespecial 25, 3) := by decide +kernel
theorem dX6_init_34 : decode cX6_init 34 = .ok (.putfield 26, 3) := by decide +kernel
theorem dX6_init_37 : decode cX6_init 37 = .ok (.aload_n 0, 1) := by decide +kernel
theorem dX6_init_38 : decode cX6_init 38 = .ok (.new 30, 3) := by decide +kernel
theorem dX6_init_41 : decode cX6_init 41 = .ok (.dup, 1) := by decide +kernel
theorem dX6_init_42 : decode cX6_init 42 = .ok (.invokespecial 32, 3) := by decide +kernel
theorem dX6_init_45 : decode cX6_init 45 = .ok (.putfield 33, 3) := by decide +kernel
theorem dX6_init_48 : decode cX6_init 48 = .ok (.aload_n 0, 1) := by decide +kernel
theorem dX6_init_49 : decode cX6_init 49 = .ok (.new 37, 3) := by decide +kernel
theorem dX6_init_52 : decode cX6_init 52 = .ok (.dup, 1) := by decide +kernel
theorem dX6_init_53 : decode cX6_init 53 = .ok (.invokespecial 39, 3) := by decide +kernel
theorem dX6_init_56 : decode cX6_init 56 = .ok (.putfield 40, 3) := by decide +kernel
theorem dX6_init_59 : decode cX6_init 59 = .ok (.aload_n 0, 1) := by decide +kernel
theorem dX6_init_60 : decode cX6_init 60 = .ok (.new 44, 3) := by decide +kernel
theorem dX6_init_63 : decode cX6_init 63 = .ok (.dup, 1) := by decide +kernel
theorem dX6_init_64 : decode cX6_init 64 = .ok (.invokespecial 46, 3) := by decide +kernel
theorem dX6_init_67 : decode cX6_init 67 = .ok (.putfield 47, 3) := by decide +kernel
theorem dX6_init_70 : decode cX6_init 70 = .ok (.aload_n 0, 1) := by decide +kernel
theorem dX6_init_71 : decode cX6_init 71 = .ok (.iconst 4, 1) := by decide +kernel
theorem dX6_init_72 : decode cX6_init 72 = .ok (.newarray .int, 2) := by decide +kernel
theorem dX6_init_74 : decode cX6_init 74 = .ok (.putfield 51, 3) := by decide +kernel
theorem dX6_init_77 : decode cX6_init 77 = .ok (.aload_n 0, 1) := by decide +kernel
theorem dX6_init_78 : decode cX6_init 78 = .ok (.getfield 51, 3) := by decide +kernel
theorem dX6_init_81 : decode cX6_init 81 = .ok (.bipush 100, 2) := by decide +kernel
theorem dX6_init_83 : decode cX6_init 83 = .ok (.invokestatic 55, 3) := by decide +kernel
theorem dX6_init_86 : decode cX6_init 86 = .ok (.aload_n 0, 1) := by decide +kernel
theorem dX6_init_87 : decode cX6_init 87 = .ok (.iconst 0, 1) := by decide +kernel
theorem dX6_init_88 : decode cX6_init 88 = .ok (.putfield 61, 3) := by decide +kernel
theorem dX6_init_91 : decode cX6_init 91 = .ok (.return_, 1) := by decide +kernel
theorem dX6_thing_0 : decode cX6_thing 0 = .ok (.iload_n 1, 1) := by decide +kernel
theorem dX6_thing_1 : decode cX6_thing 1 = .ok (.invokestatic 65, 3) := by decide +kernel
theorem dX6_thing_4 : decode cX6_thing 4 = .ok (.ifCond .eq 23, 3) := by decide +kernel
theorem dX6_thing_7 : decode cX6_thing 7 = .ok (.iload_n 2, 1) := by decide +kernel
theorem dX6_thing_8 : decode cX6_thing 8 = .ok (.iconst 0, 1) := by decide +kernel
theorem dX6_thing_9 : decode cX6_thing 9 = .ok (.sipush 1000, 3) := by decide +kernel
theorem dX6_thing_12 : decode cX6_thing 12 = .ok (.invokestatic 69, 3) := by decide +kernel
theorem dX6_thing_15 : decode cX6_thing 15 = .ok (.ifCond .ne 12, 3) := by decide +kernel
theorem dX6_thing_18 : decode cX6_thing 18 = .ok (.iload_n 3, 1) := by decide +kernel
theorem dX6_thing_19 : decode cX6_thing 19 = .ok (.iconst 0, 1) := by decide +kernel
theorem dX6_thing_20 : decode cX6_thing 20 = .ok (.iconst 5, 1) := by decide +kernel
theorem dX6_thing_21 : decode cX6_thing 21 = .ok (.invokestatic 69, 3) := by decide +kernel
theorem dX6_thing_24 : decode cX6_thing 24 = .ok (.ifCond .eq 6, 3) := by decide +kernel
theorem dX6_thing_27 : decode cX6_thing 27 = .ok (.bipush (-2), 2) := by decide +kernel
theorem dX6_thing_29 : decode cX6_thing 29 = .ok (.ireturn, 1) := by decide +kernel
theorem dX6_thing_30 : decode cX6_thing 30 = .ok (.iload 4, 2) := by decide +kernel
theorem dX6_thing_32 : decode cX6_thing 32 = .ok (.iconst 1, 1) := by decide +kernel
theorem dX6_thing_33 : decode cX6_thing 33 = .ok (.bipush 100, 2) := by decide +kernel
theorem dX6_thing_35 : decode cX6_thing 35 = .ok (.invokestatic 69, 3) := by decide +kernel
theorem dX6_thing_38 : decode cX6_thing 38 = .ok (.ifCond .ne 27, 3) := by decide +kernel
theorem dX6_thing_41 : decode cX6_thing 41 = .ok (.iload 5, 2) := by decide +kernel
theorem dX6_thing_43 : decode cX6_thing 43 = .ok (.iconst 0, 1) := by decide +kernel
theorem dX6_thing_44 : decode cX6_thing 44 = .ok (.sipush 1000, 3) := by decide +kernel
theorem dX6_thing_47 : decode cX6_thing 47 = .ok (.invokestatic 69, 3) := by decide +kernel
theorem dX6_thing_50 : decode cX6_thing 50 = .ok (.ifCond .ne 15, 3) := by decide +kernel
theorem dX6_thing_53 : decode cX6_thing 53 = .ok (.iload 6, 2) := by decide +kernel
theorem dX6_thing_55 : decode cX6_thing 55 = .ok (.iconst 0, 1) := by decide +kernel
theorem dX6_thing_56 : decode cX6_thing 56 = .ok (.sipush 10000, 3) := by decide +kernel
theorem dX6_thing_59 : decode cX6_thing 59 = .ok (.invokestatic 69, 3) := by decide +kernel
theorem dX6_thing_62 : decode cX6_thing 62 = .ok (.ifCond .eq 6, 3) := by decide +kernel
theorem dX6_thing_65 : decode cX6_thing 65 = .ok (.bipush (-2), 2) := by decide +kernel
theorem dX6_thing_67 : decode cX6_thing 67 = .ok (.ireturn, 1) := by decide +kernel
theorem dX6_thing_68 : decode cX6_thing 68 = .ok (.aload_n 0, 1) := by decide +kernel
theorem dX6_thing_69 : decode cX6_thing 69 = .ok (.getfield 12, 3) := by decide +kernel
theorem dX6_thing_72 : decode cX6_thing 72 = .ok (.getfield 73, 3) := by decide +kernel
theorem dX6_thing_75 : decode cX6_thing 75 = .ok (.iload_n 1, 1) := by decide +kernel
theorem dX6_thing_76 : decode cX6_thing 76 = .ok (.iload_n 2, 1) := by decide +kernel
theorem dX6_thing_77 : decode cX6_thing 77 = .ok (.iastore, 1) := by decide +kernel
theorem dX6_thing_78 : decode cX6_thing 78 = .ok (.aload_n 0, 1) := by decide +kernel
theorem dX6_thing_79 : decode cX6_thing 79 = .ok (.getfield 12, 3) := by decide +kernel
theorem dX6_thing_82 : decode cX6_thing 82 = .ok (.getfield 76, 3) := by decide +kernel
theorem dX6_thing_85 : decode cX6_thing 85 = .ok (.iload_n 1, 1) := by decide +kernel
theorem dX6_thing_86 : decode cX6_thing 86 = .ok (.iload_n 3, 1) := by decide +kernel
theorem dX6_thing_87 : decode cX6_thing 87 = .ok (.iastore, 1) := by decide +kernel
theorem dX6_thing_88 : decode cX6_thing 88 = .ok (.aload_n 0, 1) := by decide +kernel
theorem dX6_thing_89 : decode cX6_thing 89 = .ok (.getfield 12, 3) := by decide +kernel
theorem dX6_thing_92 : decode cX6_thing 92 = .ok (.getfield 79, 3) := by decide +kernel
theorem dX6_thing_95 : decode cX6_thing 95 = .ok (.iload_n 1, 1) := by decide +kernel
theorem dX6_thing_96 : decode cX6_thing 96 = .ok (.iload 4, 2) := by decide +kernel
theorem dX6_thing_98 : decode cX6_thing 98 = .ok (.iastore, 1) := by decide +kernel
theorem dX6_thing_99 : decode cX6_thing 99 = .ok (.aload_n 0, 1) := by decide +kernel
theorem dX6_thing_100 : decode cX6_thing 100 = .ok (.getfield 12, 3) := by decide +kernel
theorem dX6_thing_103 : decode cX6_thing 103 = .ok (.getfield 82, 3) := by decide +kernel
theorem dX6_thing_106 : decode cX6_thing 106 = .ok (.iload_n 1, 1) := by decide +kernel
theorem dX6_thing_107 : decode cX6_thing 107 = .ok (.iload 5, 2) := by decide +kernel
theorem dX6_thing_109 : decode cX6_thing 109 = .ok (.iastore, 1) := by decide +kernel
theorem dX6_thing_110 : decode cX6_thing 110 = .ok (.aload_n 0, 1) := by decide +kernel
theorem dX6_thing_111 : decode cX6_thing 111 = .ok (.getfield 12, 3) := by decide +kernel
theorem dX6_thing_114 : decode cX6_thing 114 = .ok (.getfield 85, 3) := by decide +kernel
theorem dX6_thing_117 : decode cX6_thing 117 = .ok (.iload_n 1, 1) := by decide +kernel
theorem dX6_thing_118 : decode cX6_thing 118 = .ok (.iload 6, 2) := by decide +kernel
theorem dX6_thing_120 : decode cX6_thing 120 = .ok (.iastore, 1) := by decide +kernel
theorem dX6_thing_121 : decode cX6_thing 121 = .ok (.iconst 1, 1) := by decide +kernel
theorem dX6_thing_122 : decode cX6_thing 122 = .ok (.ireturn, 1) := by decide +kernel
theorem dX6_field_0 : decode cX6_field 0 = .ok (.iload_n 1, 1) := by decide +kernel
theorem dX6_field_1 : decode cX6_field 1 = .ok (.iconst 0, 1) := by decide +kernel
theorem dX6_field_2 : decode cX6_field 2 = .ok (.bipush 60, 2) := by decide +kernel
theorem dX6_field_4 : decode cX6_field 4 = .ok (.invokestatic 69, 3) := by decide +kernel
theorem dX6_field_7 : decode cX6_field 7 = .ok (.ifCond .ne 23, 3) := by decide +kernel
theorem dX6_field_10 : decode cX6_field 10 = .ok (.iload_n 2, 1) := by decide +kernel
theorem dX6_field_11 : decode cX6_field 11 = .ok (.iload_n 1, 1) := by decide +kernel
theorem dX6_field_12 : decode cX6_field 12 = .ok (.bipush 60, 2) := by decide +kernel
theorem dX6_field_14 : decode cX6_field 14 = .ok (.invokestatic 69, 3) := by decide +kernel
theorem dX6_field_17 : decode cX6_field 17 = .ok (.ifCond .ne 13, 3) := by decide +kernel
theorem dX6_field_20 : decode cX6_field 20 = .ok (.iload_n 3, 1) := by decide +kernel
theorem dX6_field_21 : decode cX6_field 21 = .ok (.iconst 0, 1) := by decide +kernel
theorem dX6_field_22 : decode cX6_field 22 = .ok (.ldc 88, 2) := by decide +kernel
theorem dX6_field_24 : decode cX6_field 24 = .ok (.invokestatic 69, 3) := by decide +kernel
theorem dX6_field_27 : decode cX6_field 27 = .ok (.ifCond .eq 6, 3) := by decide +kernel
theorem dX6_field_30 : decode cX6_field 30 = .ok (.bipush (-2), 2) := by decide +kernel
theorem dX6_field_32 : decode cX6_field 32 = .ok (.ireturn, 1) := by decide +kernel
theorem dX6_field_33 : decode cX6_field 33 = .ok (.aload_n 0, 1) := by decide +kernel
theorem dX6_field_34 : decode cX6_field 34 = .ok (.getfield 19, 3) := by decide +kernel
theorem dX6_field_37 : decode cX6_field 37 = .ok (.iload_n 1, 1) := by decide +kernel
theorem dX6_field_38 : decode cX6_field 38 = .ok (.iload_n 2, 1) := by decide +kernel
theorem dX6_field_39 : decode cX6_field 39 = .ok (.iload_n 3, 1) := by decide +kernel
theorem dX6_field_40 : decode cX6_field 40 = .ok (.invokevirtual 89, 3) := by decide +kernel
theorem dX6_field_43 : decode cX6_field 43 = .ok (.ireturn, 1) := by decide +kernel
theorem dX6_need_0 : decode cX6_need 0 = .ok (.aload_n 0, 1) := by decide +kernel
theorem dX6_need_1 : decode cX6_need 1 = .ok (.getfield 19, 3) := by decide +kernel
theorem dX6_need_4 : decode cX6_need 4 = .ok (.iload_n 1, 1) := by decide +kernel
theorem dX6_need_5 : decode cX6_need 5 = .ok (.invokevirtual 93, 3) := by decide +kernel
theorem dX6_need_8 : decode cX6_need 8 = .ok (.ifCond .eq 21, 3) := by decide +kernel
theorem dX6_need_11 : decode cX6_need 11 = .ok (.iload_n 2, 1) := by decide +kernel
theorem dX6_need_12 : decode cX6_need 12 = .ok (.invokestatic 65, 3) := by decide +kernel
theorem dX6_need_15 : decode cX6_need 15 = .ok (.ifCond .eq 14, 3) := by decide +kernel
theorem dX6_need_18 : decode cX6_need 18 = .ok (.iload_n 3, 1) := by decide +kernel
theorem dX6_need_19 : decode cX6_need 19 = .ok (.iconst 0, 1) := by decide +kernel
theorem dX6_need_20 : decode cX6_need 20 = .ok (.sipush 500, 3) := by decide +kernel
theorem dX6_need_23 : decode cX6_need 23 = .ok (.invokestatic 69, 3) := by decide +kernel
theorem dX6_need_26 : decode cX6_need 26 = .ok (.ifCond .eq 6, 3) := by decide +kernel
theorem dX6_need_29 : decode cX6_need 29 = .ok (.bipush (-2), 2) := by decide +kernel
theorem dX6_need_31 : decode cX6_need 31 = .ok (.ireturn, 1) := by decide +kernel
theorem dX6_need_32 : decode cX6_need 32 = .ok (.aload_n 0, 1) := by decide +kernel
theorem dX6_need_33 : decode cX6_need 33 = .ok (.getfield 19, 3) := by decide +kernel
theorem dX6_need_36 : decode cX6_need 36 = .ok (.getfield 96, 3) := by decide +kernel
theorem dX6_need_39 : decode cX6_need 39 = .ok (.iload_n 1, 1) := by decide +kernel
theorem dX6_need_40 : decode cX6_need 40 = .ok (.iaload, 1) := by decide +kernel
theorem dX6_need_41 : decode cX6_need 41 = .ok (.ifCond .eq 6, 3) := by decide +kernel
theorem dX6_need_44 : decode cX6_need 44 = .ok (.bipush (-3), 2) := by decide +kernel
theorem dX6_need_46 : decode cX6_need 46 = .ok (.ireturn, 1) := by decide +kernel
theorem dX6_need_47 : decode cX6_need 47 = .ok (.aload_n 0, 1) := by decide +kernel
theorem dX6_need_48 : decode cX6_need 48 = .ok (.getfield 19, 3) := by decide +kernel
theorem dX6_need_51 : decode cX6_need 51 = .ok (.getfield 99, 3) := by decide +kernel
theorem dX6_need_54 : decode cX6_need 54 = .ok (.iload_n 1, 1) := by decide +kernel
theorem dX6_need_55 : decode cX6_need 55 = .ok (.iload_n 2, 1) := by decide +kernel
theorem dX6_need_56 : decode cX6_need 56 = .ok (.invokestatic 102, 3) := by decide +kernel
theorem dX6_need_59 : decode cX6_need 59 = .ok (.iaload, 1) := by decide +kernel
theorem dX6_need_60 : decode cX6_need 60 = .ok (.istore 4, 2) := by decide +kernel
theorem dX6_need_62 : decode cX6_need 62 = .ok (.aload_n 0, 1) := by decide +kernel
theorem dX6_need_63 : decode cX6_need 63 = .ok (.getfield 19, 3) := by decide +kernel
theorem dX6_need_66 : decode cX6_need 66 = .ok (.getfield 99, 3) := by decide +kernel
theorem dX6_need_69 : decode cX6_need 69 = .ok (.iload_n 1, 1) := by decide +kernel
theorem dX6_need_70 : decode cX6_need 70 = .ok (.iload_n 2, 1) := by decide +kernel
theorem dX6_need_71 : decode cX6_need 71 = .ok (.invokestatic 102, 3) := by decide +kernel
theorem dX6_need_74 : decode cX6_need 74 = .ok (.iload_n 3, 1) := by decide +kernel
theorem dX6_need_75 : decode cX6_need 75 = .ok (.iastore, 1) := by decide +kernel
theorem dX6_need_76 : decode cX6_need 76 = .ok (.iload 4, 2) := by decide +kernel
theorem dX6_need_78 : decode cX6_need 78 = .ok (.ireturn, 1) := by decide +kernel
theorem dX6_rain_0 : decode cX6_rain 0 = .ok (.iload_n 1, 1) := by decide +kernel
theorem dX6_rain_1 : decode cX6_rain 1 = .ok (.iconst 0, 1) := by decide +kernel
theorem dX6_rain_2 : decode cX6_rain 2 = .ok (.bipush 60, 2) := by decide +kernel
theorem dX6_rain_4 : decode cX6_rain 4 = .ok (.invokestatic 69, 3) := by decide +kernel
theorem dX6_rain_7 : decode cX6_rain 7 = .ok (.ifCond .eq 6, 3) := by decide +kernel
theorem dX6_rain_10 : decode cX6_rain 10 = .ok (.bipush (-2), 2) := by decide +kernel
theorem dX6_rain_12 : decode cX6_rain 12 = .ok (.ireturn, 1) := by decide +kernel
theorem dX6_rain_13 : decode cX6_rain 13 = .ok (.aload_n 0, 1) := by decide +kernel
theorem dX6_rain_14 : decode cX6_rain 14 = .ok (.getfield 26, 3) := by decide +kernel
theorem dX6_rain_17 : decode cX6_rain 17 = .ok (.iload_n 1, 1) := by decide +kernel
theorem dX6_rain_18 : decode cX6_rain 18 = .ok (.iload_n 2, 1) := by decide +kernel
theorem dX6_rain_19 : decode cX6_rain 19 = .ok (.invokevirtual 106, 3) := by decide +kernel
theorem dX6_rain_22 : decode cX6_rain 22 = .ok (.iconst 1, 1) := by decide +kernel
theorem dX6_rain_23 : decode cX6_rain 23 = .ok (.ireturn, 1) := by decide +kernel
theorem dX6_take_0 : decode cX6_take 0 = .ok (.aload_n 0, 1) := by decide +kernel
theorem dX6_take_1 : decode cX6_take 1 = .ok (.getfield 19, 3) := by decide +kernel
theorem dX6_take_4 : decode cX6_take 4 = .ok (.iload_n 1, 1) := by decide +kernel
theorem dX6_take_5 : decode cX6_take 5 = .ok (.invokevirtual 93, 3) := by decide +kernel
theorem dX6_take_8 : decode cX6_take 8 = .ok (.ifCond .ne 6, 3) := by decide +kernel
theorem dX6_take_11 : decode cX6_take 11 = .ok (.bipush (-2), 2) := by decide +kernel
theorem dX6_take_13 : decode cX6_take 13 = .ok (.ireturn, 1) := by decide +kernel
theorem dX6_take_14 : decode cX6_take 14 = .ok (.aload_n 0, 1) := by decide +kernel
theorem dX6_take_15 : decode cX6_take 15 = .ok (.getfield 19, 3) := by decide +kernel
theorem dX6_take_18 : decode cX6_take 18 = .ok (.getfield 96, 3) := by decide +kernel
theorem dX6_take_21 : decode cX6_take 21 = .ok (.iload_n 1, 1) := by decide +kernel
theorem dX6_take_22 : decode cX6_take 22 = .ok (.iaload, 1) := by decide +kernel
theorem dX6_take_23 : decode cX6_take 23 = .ok (.ifCond .ne 22, 3) := by decide +kernel
theorem dX6_take_26 : decode cX6_take 26 = .ok (.aload_n 0, 1) := by decide +kernel
theorem dX6_take_27 : decode cX6_take 27 = .ok (.aload_n 0, 1) := by decide +kernel
theorem dX6_take_28 : decode cX6_take 28 = .ok (.getfield 19, 3) := by decide +kernel
theorem dX6_take_31 : decode cX6_take 31 = .ok (.iconst 1, 1) := by decide +kernel
theorem dX6_take_32 : decode cX6_take 32 = .ok (.invokevirtual 110, 3) := by decide +kernel
theorem dX6_take_35 : decode cX6_take 35 = .ok (.iconst 1, 1) := by decide +kernel
theorem dX6_take_36 : decode cX6_take 36 = .ok (.iload_n 1, 1) := by decide +kernel
theorem dX6_take_37 : decode cX6_take 37 = .ok (.ishl, 1) := by decide +kernel
theorem dX6_take_38 : decode cX6_take 38 = .ok (.ior, 1) := by decide +kernel
theorem dX6_take_39 : decode cX6_take 39 = .ok (.invokevirtual 114, 3) := by decide +kernel
theorem dX6_take_42 : decode cX6_take 42 = .ok (.ifCond .ne 6, 3) := by decide +kernel
theorem dX6_take_45 : decode cX6_take 45 = .ok (.bipush (-3), 2) := by decide +kernel
theorem dX6_take_47 : decode cX6_take 47 = .ok (.ireturn, 1) := by decide +kernel
theorem dX6_take_48 : decode cX6_take 48 = .ok (.aload_n 0, 1) := by decide +kernel
theorem dX6_take_49 : decode cX6_take 49 = .ok (.getfield 19, 3) := by decide +kernel
theorem dX6_take_52 : decode cX6_take 52 = .ok (.getfield 96, 3) := by decide +kernel
theorem dX6_take_55 : decode cX6_take 55 = .ok (.iload_n 1, 1) := by decide +kernel
theorem dX6_take_56 : decode cX6_take 56 = .ok (.iconst 1, 1) := by decide +kernel
theorem dX6_take_57 : decode cX6_take 57 = .ok (.iastore, 1) := by decide +kernel
theorem dX6_take_58 : decode cX6_take 58 = .ok (.iconst 1, 1) := by decide +kernel
theorem dX6_take_59 : decode cX6_take 59 = .ok (.ireturn, 1) := by decide +kernel
theorem dX6_hire_0 : decode cX6_hire 0 = .ok (.aload_n 0, 1) := by decide +kernel
theorem dX6_hire_1 : decode cX6_hire 1 = .ok (.getfield 19, 3) := by decide +kernel
theorem dX6_hire_4 : decode cX6_hire 4 = .ok (.iload_n 1, 1) := by decide +kernel
theorem dX6_hire_5 : decode cX6_hire 5 = .ok (.invokevirtual 93, 3) := by decide +kernel
theorem dX6_hire_8 : decode cX6_hire 8 = .ok (.ifCond .ne 6, 3) := by decide +kernel
theorem dX6_hire_11 : decode cX6_hire 11 = .ok (.bipush (-2), 2) := by decide +kernel
theorem dX6_hire_13 : decode cX6_hire 13 = .ok (.ireturn, 1) := by decide +kernel
theorem dX6_hire_14 : decode cX6_hire 14 = .ok (.aload_n 0, 1) := by decide +kernel
theorem dX6_hire_15 : decode cX6_hire 15 = .ok (.getfield 19, 3) := by decide +kernel
theorem dX6_hire_18 : decode cX6_hire 18 = .ok (.getfield 96, 3) := by decide +kernel
theorem dX6_hire_21 : decode cX6_hire 21 = .ok (.iload_n 1, 1) := by decide +kernel
theorem dX6_hire_22 : decode cX6_hire 22 = .ok (.iaload, 1) := by decide +kernel
theorem dX6_hire_23 : decode cX6_hire 23 = .ok (.ifCond .eq 6, 3) := by decide +kernel
theorem dX6_hire_26 : decode cX6_hire 26 = .ok (.bipush (-3), 2) := by decide +kernel
theorem dX6_hire_28 : decode cX6_hire 28 = .ok (.ireturn, 1) := by decide +kernel
theorem dX6_hire_29 : decode cX6_hire 29 = .ok (.aload_n 0, 1) := by decide +kernel
theorem dX6_hire_30 : decode cX6_hire 30 = .ok (.getfield 19, 3) := by decide +kernel
theorem dX6_hire_33 : decode cX6_hire 33 = .ok (.getfield 96, 3) := by decide +kernel
theorem dX6_hire_36 : decode cX6_hire 36 = .ok (.iload_n 1, 1) := by decide +kernel
theorem dX6_hire_37 : decode cX6_hire 37 = .ok (.iconst 1, 1) := by decide +kernel
theorem dX6_hire_38 : decode cX6_hire 38 = .ok (.iastore, 1) := by decide +kernel
theorem dX6_hire_39 : decode cX6_hire 39 = .ok (.aload_n 0, 1) := by decide +kernel
theorem dX6_hire_40 : decode cX6_hire 40 = .ok (.aload_n 0, 1) := by decide +kernel
theorem dX6_hire_41 : decode cX6_hire 41 = .ok (.getfield 19, 3) := by decide +kernel
theorem dX6_hire_44 : decode cX6_hire 44 = .ok (.iconst 1, 1) := by decide +kernel
theorem dX6_hire_45 : decode cX6_hire 45 = .ok (.invokevirtual 110, 3) := by decide +kernel
theorem dX6_hire_48 : decode cX6_hire 48 = .ok (.invokevirtual 117, 3) := by decide +kernel
theorem dX6_hire_51 : decode cX6_hire 51 = .ok (.aload_n 0, 1) := by decide +kernel
theorem dX6_hire_52 : decode cX6_hire 52 = .ok (.getfield 33, 3) := by decide +kernel
theorem dX6_hire_55 : decode cX6_hire 55 = .ok (.getfield 121, 3) := by decide +kernel
theorem dX6_hire_58 : decode cX6_hire 58 = .ok (.l2i, 1) := by decide +kernel
theorem dX6_hire_59 : decode cX6_hire 59 = .ok (.ireturn, 1) := by decide +kernel
theorem dX6_giveUp_0 : decode cX6_giveUp 0 = .ok (.aload_n 0, 1) := by decide +kernel
theorem dX6_giveUp_1 : decode cX6_giveUp 1 = .ok (.getfield 19, 3) := by decide +kernel
theorem dX6_giveUp_4 : decode cX6_giveUp 4 = .ok (.iload_n 1, 1) := by decide +kernel
theorem dX6_giveUp_5 : decode cX6_giveUp 5 = .ok (.invokevirtual 93, 3) := by decide +kernel
theorem dX6_giveUp_8 : decode cX6_giveUp 8 = .ok (.ifCond .ne 6, 3) := by decide +kernel
theorem dX6_giveUp_11 : decode cX6_giveUp 11 = .ok (.bipush (-2), 2) := by decide +kernel
theorem dX6_giveUp_13 : decode cX6_giveUp 13 = .ok (.ireturn, 1) := by decide +kernel
theorem dX6_giveUp_14 : decode cX6_giveUp 14 = .ok (.aload_n 0, 1) := by decide +kernel
theorem dX6_giveUp_15 : decode cX6_giveUp 15 = .ok (.getfield 19, 3) := by decide +kernel
theorem dX6_giveUp_18 : decode cX6_giveUp 18 = .ok (.getfield 96, 3) := by decide +kernel
theorem dX6_giveUp_21 : decode cX6_giveUp 21 = .ok (.iload_n 1, 1) := by decide +kernel
theorem dX6_giveUp_22 : decode cX6_giveUp 22 = .ok (.iaload, 1) := by decide +kernel
theorem dX6_giveUp_23 : decode cX6_giveUp 23 = .ok (.ifCond .eq 19, 3) := by decide +kernel
theorem dX6_giveUp_26 : decode cX6_giveUp 26 = .ok (.aload_n 0, 1) := by decide +kernel
theorem dX6_giveUp_27 : decode cX6_giveUp 27 = .ok (.getfield 19, 3) := by decide +kernel
theorem dX6_giveUp_30 : decode cX6_giveUp 30 = .ok (.getfield 96, 3) := by decide +kernel
theorem dX6_giveUp_33 : decode cX6_giveUp 33 = .ok (.iload_n 1, 1) := by decide +kernel
theorem dX6_giveUp_34 : decode cX6_giveUp 34 = .ok (.iaload, 1) := by decide +kernel
theorem dX6_giveUp_35 : decode cX6_giveUp 35 = .ok (.iconst 1, 1) := by decide +kernel
theorem dX6_giveUp_36 : decode cX6_giveUp 36 = .ok (.if_icmp .eq 6, 3) := by decide +kernel
theorem dX6_giveUp_39 : decode cX6_giveUp 39 = .ok (.bipush (-3), 2) := by decide +kernel
theorem dX6_giveUp_41 : decode cX6_giveUp 41 = .ok (.ireturn, 1) := by decide +kernel
theorem dX6_giveUp_42 : decode cX6_giveUp 42 = .ok (.aload_n 0, 1) := by decide +kernel
theorem dX6_giveUp_43 : decode cX6_giveUp 43 = .ok (.getfield 19, 3) := by decide +kernel
theorem dX6_giveUp_46 : decode cX6_giveUp 46 = .ok (.getfield 96, 3) := by decide +kernel
theorem dX6_giveUp_49 : decode cX6_giveUp 49 = .ok (.iload_n 1, 1) := by decide +kernel
theorem dX6_giveUp_50 : decode cX6_giveUp 50 = .ok (.iconst 2, 1) := by decide +kernel
theorem dX6_giveUp_51 : decode cX6_giveUp 51 = .ok (.iastore, 1) := by decide +kernel
theorem dX6_giveUp_52 : decode cX6_giveUp 52 = .ok (.iconst 1, 1) := by decide +kernel
theorem dX6_giveUp_53 : decode cX6_giveUp 53 = .ok (.ireturn, 1) := by decide +kernel
theorem dX6_change_0 : decode cX6_change 0 = .ok (.aload_n 0, 1) := by decide +kernel
theorem dX6_change_1 : decode cX6_change 1 = .ok (.getfield 19, 3) := by decide +kernel
theorem dX6_change_4 : decode cX6_change 4 = .ok (.iload_n 1, 1) := by decide +kernel
theorem dX6_change_5 : decode cX6_change 5 = .ok (.invokevirtual 93, 3) := by decide +kernel
theorem dX6_change_8 : decode cX6_change 8 = .ok (.ifCond .eq 21, 3) := by decide +kernel
theorem dX6_change_11 : decode cX6_change 11 = .ok (.iload_n 2, 1) := by decide +kernel
theorem dX6_change_12 : decode cX6_change 12 = .ok (.invokestatic 65, 3) := by decide +kernel
theorem dX6_change_15 : decode cX6_change 15 = .ok (.ifCond .eq 14, 3) := by decide +kernel
theorem dX6_change_18 : decode cX6_change 18 = .ok (.iload_n 3, 1) := by decide +kernel
theorem dX6_change_19 : decode cX6_change 19 = .ok (.iconst 0, 1) := by decide +kernel
theorem dX6_change_20 : decode cX6_change 20 = .ok (.sipush 500, 3) := by decide +kernel
theorem dX6_change_23 : decode cX6_change 23 = .ok (.invokestatic 69, 3) := by decide +kernel
theorem dX6_change_26 : decode cX6_change 26 = .ok (.ifCond .eq 6, 3) := by decide +kernel
theorem dX6_change_29 : decode cX6_change 29 = .ok (.bipush (-2), 2) := by decide +kernel
theorem dX6_change_31 : decode cX6_change 31 = .ok (.ireturn, 1) := by decide +kernel
theorem dX6_change_32 : decode cX6_change 32 = .ok (.aload_n 0, 1) := by decide +kernel
theorem dX6_change_33 : decode cX6_change 33 = .ok (.getfield 19, 3) := by decide +kernel
theorem dX6_change_36 : decode cX6_change 36 = .ok (.getfield 96, 3) := by decide +kernel
theorem dX6_change_39 : decode cX6_change 39 = .ok (.iload_n 1, 1) := by decide +kernel
theorem dX6_change_40 : decode cX6_change 40 = .ok (.iaload, 1) := by decide +kernel
theorem dX6_change_41 : decode cX6_change 41 = .ok (.iconst 1, 1) := by decide +kernel
theorem dX6_change_42 : decode cX6_change 42 = .ok (.if_icmp .eq 6, 3) := by decide +kernel
theorem dX6_change_45 : decode cX6_change 45 = .ok (.bipush (-3), 2) := by decide +kernel
theorem dX6_change_47 : decode cX6_change 47 = .ok (.ireturn, 1) := by decide +kernel
theorem dX6_change_48 : decode cX6_change 48 = .ok (.aload_n 0, 1) := by decide +kernel
theorem dX6_change_49 : decode cX6_change 49 = .ok (.getfield 19, 3) := by decide +kernel
theorem dX6_change_52 : decode cX6_change 52 = .ok (.getfield 99, 3) := by decide +kernel
theorem dX6_change_55 : decode cX6_change 55 = .ok (.iload_n 1, 1) := by decide +kernel
theorem dX6_change_56 : decode cX6_change 56 = .ok (.iload_n 2, 1) := by decide +kernel
theorem dX6_change_57 : decode cX6_change 57 = .ok (.invokestatic 102, 3) := by decide +kernel
theorem dX6_change_60 : decode cX6_change 60 = .ok (.iload_n 3, 1) := by decide +kernel
theorem dX6_change_61 : decode cX6_change 61 = .ok (.iastore, 1) := by decide +kernel
theorem dX6_change_62 : decode cX6_change 62 = .ok (.aload_n 0, 1) := by decide +kernel
theorem dX6_change_63 : decode cX6_change 63 = .ok (.aload_n 0, 1) := by decide +kernel
theorem dX6_change_64 : decode cX6_change 64 = .ok (.getfield 19, 3) := by decide +kernel
theorem dX6_change_67 : decode cX6_change 67 = .ok (.iconst 1, 1) := by decide +kernel
theorem dX6_change_68 : decode cX6_change 68 = .ok (.invokevirtual 110, 3) := by decide +kernel
theorem dX6_change_71 : decode cX6_change 71 = .ok (.invokevirtual 114, 3) := by decide +kernel
theorem dX6_change_74 : decode cX6_change 74 = .ok (.invokestatic 125, 3) := by decide +kernel
theorem dX6_change_77 : decode cX6_change 77 = .ok (.ireturn, 1) := by decide +kernel
theorem dX6_back_0 : decode cX6_back 0 = .ok (.aload_n 0, 1) := by decide +kernel
theorem dX6_back_1 : decode cX6_back 1 = .ok (.getfield 19, 3) := by decide +kernel
theorem dX6_back_4 : decode cX6_back 4 = .ok (.iload_n 1, 1) := by decide +kernel
theorem dX6_back_5 : decode cX6_back 5 = .ok (.invokevirtual 93, 3) := by decide +kernel
theorem dX6_back_8 : decode cX6_back 8 = .ok (.ifCond .ne 6, 3) := by decide +kernel
theorem dX6_back_11 : decode cX6_back 11 = .ok (.bipush (-2), 2) := by decide +kernel
theorem dX6_back_13 : decode cX6_back 13 = .ok (.ireturn, 1) := by decide +kernel
theorem dX6_back_14 : decode cX6_back 14 = .ok (.aload_n 0, 1) := by decide +kernel
theorem dX6_back_15 : decode cX6_back 15 = .ok (.getfield 19, 3) := by decide +kernel
theorem dX6_back_18 : decode cX6_back 18 = .ok (.getfield 96, 3) := by decide +kernel
theorem dX6_back_21 : decode cX6_back 21 = .ok (.iload_n 1, 1) := by decide +kernel
theorem dX6_back_22 : decode cX6_back 22 = .ok (.iaload, 1) := by decide +kernel
theorem dX6_back_23 : decode cX6_back 23 = .ok (.iconst 1, 1) := by decide +kernel
theorem dX6_back_24 : decode cX6_back 24 = .ok (.if_icmp .eq 6, 3) := by decide +kernel
theorem dX6_back_27 : decode cX6_back 27 = .ok (.bipush (-3), 2) := by decide +kernel
theorem dX6_back_29 : decode cX6_back 29 = .ok (.ireturn, 1) := by decide +kernel
theorem dX6_back_30 : decode cX6_back 30 = .ok (.aload_n 0, 1) := by decide +kernel
theorem dX6_back_31 : decode cX6_back 31 = .ok (.getfield 19, 3) := by decide +kernel
theorem dX6_back_34 : decode cX6_back 34 = .ok (.getfield 96, 3) := by decide +kernel
theorem dX6_back_37 : decode cX6_back 37 = .ok (.iload_n 1, 1) := by decide +kernel
theorem dX6_back_38 : decode cX6_back 38 = .ok (.iconst 3, 1) := by decide +kernel
theorem dX6_back_39 : decode cX6_back 39 = .ok (.iastore, 1) := by decide +kernel
theorem dX6_back_40 : decode cX6_back 40 = .ok (.iconst 1, 1) := by decide +kernel
theorem dX6_back_41 : decode cX6_back 41 = .ok (.ireturn, 1) := by decide +kernel
theorem dX6_missing_0 : decode cX6_missing 0 = .ok (.aload_n 0, 1) := by decide +kernel
theorem dX6_missing_1 : decode cX6_missing 1 = .ok (.getfield 19, 3) := by decide +kernel
theorem dX6_missing_4 : decode cX6_missing 4 = .ok (.iload_n 1, 1) := by decide +kernel
theorem dX6_missing_5 : decode cX6_missing 5 = .ok (.invokevirtual 93, 3) := by decide +kernel
theorem dX6_missing_8 : decode cX6_missing 8 = .ok (.ifCond .eq 31, 3) := by decide +kernel
theorem dX6_missing_11 : decode cX6_missing 11 = .ok (.iload_n 2, 1) := by decide +kernel
theorem dX6_missing_12 : decode cX6_missing 12 = .ok (.invokestatic 65, 3) := by decide +kernel
theorem dX6_missing_15 : decode cX6_missing 15 = .ok (.ifCond .eq 24, 3) := by decide +kernel
theorem dX6_missing_18 : decode cX6_missing 18 = .ok (.iload_n 3, 1) := by decide +kernel
theorem dX6_missing_19 : decode cX6_missing 19 = .ok (.iconst 0, 1) := by decide +kernel
theorem dX6_missing_20 : decode cX6_missing 20 = .ok (.aload_n 0, 1) := by decide +kernel
theorem dX6_missing_21 : decode cX6_missing 21 = .ok (.getfield 19, 3) := by decide +kernel
theorem dX6_missing_24 : decode cX6_missing 24 = .ok (.getfield 99, 3) := by decide +kernel
theorem dX6_missing_27 : decode cX6_missing 27 = .ok (.iload_n 1, 1) := by decide +kernel
theorem dX6_missing_28 : decode cX6_missing 28 = .ok (.iload_n 2, 1) := by decide +kernel
theorem dX6_missing_29 : decode cX6_missing 29 = .ok (.invokestatic 102, 3) := by decide +kernel
theorem dX6_missing_32 : decode cX6_missing 32 = .ok (.iaload, 1) := by decide +kernel
theorem dX6_missing_33 : decode cX6_missing 33 = .ok (.invokestatic 69, 3) := by decide +kernel
theorem dX6_missing_36 : decode cX6_missing 36 = .ok (.ifCond .eq 6, 3) := by decide +kernel
theorem dX6_missing_39 : decode cX6_missing 39 = .ok (.bipush (-2), 2) := by decide +kernel
theorem dX6_missing_41 : decode cX6_missing 41 = .ok (.ireturn, 1) := by decide +kernel
theorem dX6_missing_42 : decode cX6_missing 42 = .ok (.aload_n 0, 1) := by decide +kernel
theorem dX6_missing_43 : decode cX6_missing 43 = .ok (.getfield 19, 3) := by decide +kernel
theorem dX6_missing_46 : decode cX6_missing 46 = .ok (.getfield 96, 3) := by decide +kernel
theorem dX6_missing_49 : decode cX6_missing 49 = .ok (.iload_n 1, 1) := by decide +kernel
theorem dX6_missing_50 : decode cX6_missing 50 = .ok (.iaload, 1) := by decide +kernel
theorem dX6_missing_51 : decode cX6_missing 51 = .ok (.iconst 3, 1) := by decide +kernel
theorem dX6_missing_52 : decode cX6_missing 52 = .ok (.if_icmp .ne 19, 3) := by decide +kernel
theorem dX6_missing_55 : decode cX6_missing 55 = .ok (.aload_n 0, 1) := by decide +kernel
theorem dX6_missing_56 : decode cX6_missing 56 = .ok (.getfield 19, 3) := by decide +kernel
theorem dX6_missing_59 : decode cX6_missing 59 = .ok (.getfield 129, 3) := by decide +kernel
theorem dX6_missing_62 : decode cX6_missing 62 = .ok (.iload_n 1, 1) := by decide +kernel
theorem dX6_missing_63 : decode cX6_missing 63 = .ok (.iload_n 2, 1) := by decide +kernel
theorem dX6_missing_64 : decode cX6_missing 64 = .ok (.invokestatic 102, 3) := by decide +kernel
theorem dX6_missing_67 : decode cX6_missing 67 = .ok (.baload, 1) := by decide +kernel
theorem dX6_missing_68 : decode cX6_missing 68 = .ok (.ifCond .eq 6, 3) := by decide +kernel
theorem dX6_missing_71 : decode cX6_missing 71 = .ok (.bipush (-3), 2) := by decide +kernel
theorem dX6_missing_73 : decode cX6_missing 73 = .ok (.ireturn, 1) := by decide +kernel
theorem dX6_missing_74 : decode cX6_missing 74 = .ok (.aload_n 0, 1) := by decide +kernel
theorem dX6_missing_75 : decode cX6_missing 75 = .ok (.getfield 12, 3) := by decide +kernel
theorem dX6_missing_78 : decode cX6_missing 78 = .ok (.getfield 85, 3) := by decide +kernel
theorem dX6_missing_81 : decode cX6_missing 81 = .ok (.iload_n 2, 1) := by decide +kernel
theorem dX6_missing_82 : decode cX6_missing 82 = .ok (.iaload, 1) := by decide +kernel
theorem dX6_missing_83 : decode cX6_missing 83 = .ok (.iload_n 3, 1) := by decide +kernel
theorem dX6_missing_84 : decode cX6_missing 84 = .ok (.imul, 1) := by decide +kernel
theorem dX6_missing_85 : decode cX6_missing 85 = .ok (.istore 4, 2) := by decide +kernel
theorem dX6_missing_87 : decode cX6_missing 87 = .ok (.aload_n 0, 1) := by decide +kernel
theorem dX6_missing_88 : decode cX6_missing 88 = .ok (.getfield 19, 3) := by decide +kernel
theorem dX6_missing_91 : decode cX6_missing 91 = .ok (.getfield 129, 3) := by decide +kernel
theorem dX6_missing_94 : decode cX6_missing 94 = .ok (.iload_n 1, 1) := by decide +kernel
theorem dX6_missing_95 : decode cX6_missing 95 = .ok (.iload_n 2, 1) := by decide +kernel
theorem dX6_missing_96 : decode cX6_missing 96 = .ok (.invokestatic 102, 3) := by decide +kernel
theorem dX6_missing_99 : decode cX6_missing 99 = .ok (.iconst 1, 1) := by decide +kernel
theorem dX6_missing_100 : decode cX6_missing 100 = .ok (.bastore, 1) := by decide +kernel
theorem dX6_missing_101 : decode cX6_missing 101 = .ok (.aload_n 0, 1) := by decide +kernel
theorem dX6_missing_102 : decode cX6_missing 102 = .ok (.getfield 12, 3) := by decide +kernel
theorem dX6_missing_105 : decode cX6_missing 105 = .ok (.getfield 133, 3) := by decide +kernel
theorem dX6_missing_108 : decode cX6_missing 108 = .ok (.iload_n 2, 1) := by decide +kernel
theorem dX6_missing_109 : decode cX6_missing 109 = .ok (.dup2, 1) := by decide +kernel
theorem dX6_missing_110 : decode cX6_missing 110 = .ok (.iaload, 1) := by decide +kernel
theorem dX6_missing_111 : decode cX6_missing 111 = .ok (.iload_n 3, 1) := by decide +kernel
theorem dX6_missing_112 : decode cX6_missing 112 = .ok (.iadd, 1) := by decide +kernel
theorem dX6_missing_113 : decode cX6_missing 113 = .ok (.iastore, 1) := by decide +kernel
theorem dX6_missing_114 : decode cX6_missing 114 = .ok (.aload_n 0, 1) := by decide +kernel
theorem dX6_missing_115 : decode cX6_missing 115 = .ok (.dup, 1) := by decide +kernel
theorem dX6_missing_116 : decode cX6_missing 116 = .ok (.getfield 61, 3) := by decide +kernel
theorem dX6_missing_119 : decode cX6_missing 119 = .ok (.iload 4, 2) := by decide +kernel
theorem dX6_missing_121 : decode cX6_missing 121 = .ok (.iadd, 1) := by decide +kernel
theorem dX6_missing_122 : decode cX6_missing 122 = .ok (.putfield 61, 3) := by decide +kernel
theorem dX6_missing_125 : decode cX6_missing 125 = .ok (.iload 4, 2) := by decide +kernel
theorem dX6_missing_127 : decode cX6_missing 127 = .ok (.ireturn, 1) := by decide +kernel
theorem dX6_mend_0 : decode cX6_mend 0 = .ok (.iload_n 1, 1) := by decide +kernel
theorem dX6_mend_1 : decode cX6_mend 1 = .ok (.invokestatic 65, 3) := by decide +kernel
theorem dX6_mend_4 : decode cX6_mend 4 = .ok (.ifCond .eq 14, 3) := by decide +kernel
theorem dX6_mend_7 : decode cX6_mend 7 = .ok (.iload_n 2, 1) := by decide +kernel
theorem dX6_mend_8 : decode cX6_mend 8 = .ok (.iconst 0, 1) := by decide +kernel
theorem dX6_mend_9 : decode cX6_mend 9 = .ok (.sipush 1000, 3) := by decide +kernel
theorem dX6_mend_12 : decode cX6_mend 12 = .ok (.invokestatic 69, 3) := by decide +kernel
theorem dX6_mend_15 : decode cX6_mend 15 = .ok (.ifCond .eq 6, 3) := by decide +kernel
theorem dX6_mend_18 : decode cX6_mend 18 = .ok (.bipush (-2), 2) := by decide +kernel
theorem dX6_mend_20 : decode cX6_mend 20 = .ok (.ireturn, 1) := by decide +kernel
theorem dX6_mend_21 : decode cX6_mend 21 = .ok (.iload_n 2, 1) := by decide +kernel
theorem dX6_mend_22 : decode cX6_mend 22 = .ok (.aload_n 0, 1) := by decide +kernel
theorem dX6_mend_23 : decode cX6_mend 23 = .ok (.getfield 12, 3) := by decide +kernel
theorem dX6_mend_26 : decode cX6_mend 26 = .ok (.getfield 133, 3) := by decide +kernel
theorem dX6_mend_29 : decode cX6_mend 29 = .ok (.iload_n 1, 1) := by decide +kernel
theorem dX6_mend_30 : decode cX6_mend 30 = .ok (.iaload, 1) := by decide +kernel
theorem dX6_mend_31 : decode cX6_mend 31 = .ok (.if_icmp .le 6, 3) := by decide +kernel
theorem dX6_mend_34 : decode cX6_mend 34 = .ok (.bipush (-3), 2) := by decide +kernel
theorem dX6_mend_36 : decode cX6_mend 36 = .ok (.ireturn, 1) := by decide +kernel
theorem dX6_mend_37 : decode cX6_mend 37 = .ok (.aload_n 0, 1) := by decide +kernel
theorem dX6_mend_38 : decode cX6_mend 38 = .ok (.getfield 12, 3) := by decide +kernel
theorem dX6_mend_41 : decode cX6_mend 41 = .ok (.getfield 133, 3) := by decide +kernel
theorem dX6_mend_44 : decode cX6_mend 44 = .ok (.iload_n 1, 1) := by decide +kernel
theorem dX6_mend_45 : decode cX6_mend 45 = .ok (.dup2, 1) := by decide +kernel
theorem dX6_mend_46 : decode cX6_mend 46 = .ok (.iaload, 1) := by decide +kernel
theorem dX6_mend_47 : decode cX6_mend 47 = .ok (.iload_n 2, 1) := by decide +kernel
theorem dX6_mend_48 : decode cX6_mend 48 = .ok (.isub, 1) := by decide +kernel
theorem dX6_mend_49 : decode cX6_mend 49 = .ok (.iastore, 1) := by decide +kernel
theorem dX6_mend_50 : decode cX6_mend 50 = .ok (.aload_n 0, 1) := by decide +kernel
theorem dX6_mend_51 : decode cX6_mend 51 = .ok (.getfield 12, 3) := by decide +kernel
theorem dX6_mend_54 : decode cX6_mend 54 = .ok (.getfield 133, 3) := by decide +kernel
theorem dX6_mend_57 : decode cX6_mend 57 = .ok (.iload_n 1, 1) := by decide +kernel
theorem dX6_mend_58 : decode cX6_mend 58 = .ok (.iaload, 1) := by decide +kernel
theorem dX6_mend_59 : decode cX6_mend 59 = .ok (.ireturn, 1) := by decide +kernel
theorem dX6_about_0 : decode cX6_about 0 = .ok (.aload_n 0, 1) := by decide +kernel
theorem dX6_about_1 : decode cX6_about 1 = .ok (.getfield 19, 3) := by decide +kernel
theorem dX6_about_4 : decode cX6_about 4 = .ok (.iload_n 1, 1) := by decide +kernel
theorem dX6_about_5 : decode cX6_about 5 = .ok (.invokevirtual 93, 3) := by decide +kernel
theorem dX6_about_8 : decode cX6_about 8 = .ok (.ifCond .eq 13, 3) := by decide +kernel
theorem dX6_about_11 : decode cX6_about 11 = .ok (.iload_n 2, 1) := by decide +kernel
theorem dX6_about_12 : decode cX6_about 12 = .ok (.iconst 0, 1) := by decide +kernel
theorem dX6_about_13 : decode cX6_about 13 = .ok (.bipush 6, 2) := by decide +kernel
theorem dX6_about_15 : decode cX6_about 15 = .ok (.invokestatic 69, 3) := by decide +kernel
theorem dX6_about_18 : decode cX6_about 18 = .ok (.ifCond .eq 6, 3) := by decide +kernel
theorem dX6_about_21 : decode cX6_about 21 = .ok (.bipush (-2), 2) := by decide +kernel
theorem dX6_about_23 : decode cX6_about 23 = .ok (.ireturn, 1) := by decide +kernel
theorem dX6_about_24 : decode cX6_about 24 = .ok (.aload_n 0, 1) := by decide +kernel
theorem dX6_about_25 : decode cX6_about 25 = .ok (.getfield 19, 3) := by decide +kernel
theorem dX6_about_28 : decode cX6_about 28 = .ok (.iload_n 1, 1) := by decide +kernel
theorem dX6_about_29 : decode cX6_about 29 = .ok (.iload_n 2, 1) := by decide +kernel
theorem dX6_about_30 : decode cX6_about 30 = .ok (.invokevirtual 136, 3) := by decide +kernel
theorem dX6_about_33 : decode cX6_about 33 = .ok (.ireturn, 1) := by decide +kernel
theorem dX6_lack_0 : decode cX6_lack 0 = .ok (.iload_n 1, 1) := by decide +kernel
theorem dX6_lack_1 : decode cX6_lack 1 = .ok (.invokestatic 65, 3) := by decide +kernel
theorem dX6_lack_4 : decode cX6_lack 4 = .ok (.ifCond .eq 13, 3) := by decide +kernel
theorem dX6_lack_7 : decode cX6_lack 7 = .ok (.iload_n 2, 1) := by decide +kernel
theorem dX6_lack_8 : decode cX6_lack 8 = .ok (.iconst 0, 1) := by decide +kernel
theorem dX6_lack_9 : decode cX6_lack 9 = .ok (.bipush 65, 2) := by decide +kernel
theorem dX6_lack_11 : decode cX6_lack 11 = .ok (.invokestatic 69, 3) := by decide +kernel
theorem dX6_lack_14 : decode cX6_lack 14 = .ok (.ifCond .eq 6, 3) := by decide +kernel
theorem dX6_lack_17 : decode cX6_lack 17 = .ok (.bipush (-2), 2) := by decide +kernel
theorem dX6_lack_19 : decode cX6_lack 19 = .ok (.ireturn, 1) := by decide +kernel
theorem dX6_lack_20 : decode cX6_lack 20 = .ok (.aload_n 0, 1) := by decide +kernel
theorem dX6_lack_21 : decode cX6_lack 21 = .ok (.aload_n 0, 1) := by decide +kernel
theorem dX6_lack_22 : decode cX6_lack 22 = .ok (.getfield 19, 3) := by decide +kernel
theorem dX6_lack_25 : decode cX6_lack 25 = .ok (.iconst 1, 1) := by decide +kernel
theorem dX6_lack_26 : decode cX6_lack 26 = .ok (.invokevirtual 110, 3) := by decide +kernel
theorem dX6_lack_29 : decode cX6_lack 29 = .ok (.invokevirtual 117, 3) := by decide +kernel
theorem dX6_lack_32 : decode cX6_lack 32 = .ok (.iconst 0, 1) := by decide +kernel
theorem dX6_lack_33 : decode cX6_lack 33 = .ok (.aload_n 0, 1) := by decide +kernel
theorem dX6_lack_34 : decode cX6_lack 34 = .ok (.getfield 33, 3) := by decide +kernel
theorem dX6_lack_37 : decode cX6_lack 37 = .ok (.getfield 138, 3) := by decide +kernel
theorem dX6_lack_40 : decode cX6_lack 40 = .ok (.iload_n 1, 1) := by decide +kernel
theorem dX6_lack_41 : decode cX6_lack 41 = .ok (.bipush 66, 2) := by decide +kernel
theorem dX6_lack_43 : decode cX6_lack 43 = .ok (.imul, 1) := by decide +kernel
theorem dX6_lack_44 : decode cX6_lack 44 = .ok (.iload_n 2, 1) := by decide +kernel
theorem dX6_lack_45 : decode cX6_lack 45 = .ok (.iadd, 1) := by decide +kernel
theorem dX6_lack_46 : decode cX6_lack 46 = .ok (.iaload, 1) := by decide +kernel
theorem dX6_lack_47 : decode cX6_lack 47 = .ok (.aload_n 0, 1) := by decide +kernel
theorem dX6_lack_48 : decode cX6_lack 48 = .ok (.getfield 12, 3) := by decide +kernel
theorem dX6_lack_51 : decode cX6_lack 51 = .ok (.iload_n 1, 1) := by decide +kernel
theorem dX6_lack_52 : decode cX6_lack 52 = .ok (.invokevirtual 141, 3) := by decide +kernel
theorem dX6_lack_55 : decode cX6_lack 55 = .ok (.isub, 1) := by decide +kernel
theorem dX6_lack_56 : decode cX6_lack 56 = .ok (.invokestatic 144, 3) := by decide +kernel
theorem dX6_lack_59 : decode cX6_lack 59 = .ok (.ireturn, 1) := by decide +kernel
theorem dX6_fits_0 : decode cX6_fits 0 = .ok (.aload_n 0, 1) := by decide +kernel
theorem dX6_fits_1 : decode cX6_fits 1 = .ok (.getfield 19, 3) := by decide +kernel
theorem dX6_fits_4 : decode cX6_fits 4 = .ok (.iload_n 1, 1) := by decide +kernel
theorem dX6_fits_5 : decode cX6_fits 5 = .ok (.invokevirtual 149, 3) := by decide +kernel
theorem dX6_fits_8 : decode cX6_fits 8 = .ok (.ifCond .eq 14, 3) := by decide +kernel
theorem dX6_fits_11 : decode cX6_fits 11 = .ok (.aload_n 0, 1) := by decide +kernel
theorem dX6_fits_12 : decode cX6_fits 12 = .ok (.iload_n 1, 1) := by decide +kernel
theorem dX6_fits_13 : decode cX6_fits 13 = .ok (.invokevirtual 114, 3) := by decide +kernel
theorem dX6_fits_16 : decode cX6_fits 16 = .ok (.invokestatic 125, 3) := by decide +kernel
theorem dX6_fits_19 : decode cX6_fits 19 = .ok (.goto 5, 3) := by decide +kernel
theorem dX6_fits_22 : decode cX6_fits 22 = .ok (.bipush (-2), 2) := by decide +kernel
theorem dX6_fits_24 : decode cX6_fits 24 = .ok (.ireturn, 1) := by decide +kernel
theorem dX6_best_0 : decode cX6_best 0 = .ok (.aload_n 0, 1) := by decide +kernel
theorem dX6_best_1 : decode cX6_best 1 = .ok (.getfield 19, 3) := by decide +kernel
theorem dX6_best_4 : decode cX6_best 4 = .ok (.iconst 1, 1) := by decide +kernel
theorem dX6_best_5 : decode cX6_best 5 = .ok (.invokevirtual 110, 3) := by decide +kernel
theorem dX6_best_8 : decode cX6_best 8 = .ok (.istore_n 1, 1) := by decide +kernel
theorem dX6_best_9 : decode cX6_best 9 = .ok (.aload_n 0, 1) := by decide +kernel
theorem dX6_best_10 : decode cX6_best 10 = .ok (.getfield 19, 3) := by decide +kernel
theorem dX6_best_13 : decode cX6_best 13 = .ok (.iconst 0, 1) := by decide +kernel
theorem dX6_best_14 : decode cX6_best 14 = .ok (.invokevirtual 110, 3) := by decide +kernel
theorem dX6_best_17 : decode cX6_best 17 = .ok (.istore_n 2, 1) := by decide +kernel
theorem dX6_best_18 : decode cX6_best 18 = .ok (.aload_n 0, 1) := by decide +kernel
theorem dX6_best_19 : decode cX6_best 19 = .ok (.iload_n 1, 1) := by decide +kernel
theorem dX6_best_20 : decode cX6_best 20 = .ok (.invokevirtual 114, 3) := by decide +kernel
theorem dX6_best_23 : decode cX6_best 23 = .ok (.ifCond .ne 6, 3) := by decide +kernel
theorem dX6_best_26 : decode cX6_best 26 = .ok (.bipush (-3), 2) := by decide +kernel
theorem dX6_best_28 : decode cX6_best 28 = .ok (.ireturn, 1) := by decide +kernel
theorem dX6_best_29 : decode cX6_best 29 = .ok (.iconst 0, 1) := by decide +kernel
theorem dX6_best_30 : decode cX6_best 30 = .ok (.istore_n 3, 1) := by decide +kernel
theorem dX6_best_31 : decode cX6_best 31 = .ok (.iconst 0, 1) := by decide +kernel
theorem dX6_best_32 : decode cX6_best 32 = .ok (.istore 4, 2) := by decide +kernel
theorem dX6_best_34 : decode cX6_best 34 = .ok (.iconst 1, 1) := by decide +kernel
theorem dX6_best_35 : decode cX6_best 35 = .ok (.istore 5, 2) := by decide +kernel
theorem dX6_best_37 : decode cX6_best 37 = .ok (.iload 5, 2) := by decide +kernel
theorem dX6_best_39 : decode cX6_best 39 = .ok (.iload_n 2, 1) := by decide +kernel
theorem dX6_best_40 : decode cX6_best 40 = .ok (.if_icmp .gt 64, 3) := by decide +kernel
theorem dX6_best_43 : decode cX6_best 43 = .ok (.aload_n 0, 1) := by decide +kernel
theorem dX6_best_44 : decode cX6_best 44 = .ok (.getfield 19, 3) := by decide +kernel
theorem dX6_best_47 : decode cX6_best 47 = .ok (.iload 5, 2) := by decide +kernel
theorem dX6_best_49 : decode cX6_best 49 = .ok (.invokevirtual 152, 3) := by decide +kernel
theorem dX6_best_52 : decode cX6_best 52 = .ok (.istore 6, 2) := by decide +kernel
theorem dX6_best_54 : decode cX6_best 54 = .ok (.iload 5, 2) := by decide +kernel
theorem dX6_best_56 : decode cX6_best 56 = .ok (.iload_n 2, 1) := by decide +kernel
theorem dX6_best_57 : decode cX6_best 57 = .ok (.iconst (-1), 1) := by decide +kernel
theorem dX6_best_58 : decode cX6_best 58 = .ok (.ixor, 1) := by decide +kernel
theorem dX6_best_59 : decode cX6_best 59 = .ok (.iand, 1) := by decide +kernel
theorem dX6_best_60 : decode cX6_best 60 = .ok (.ifCond .ne 38, 3) := by decide +kernel
theorem dX6_best_63 : decode cX6_best 63 = .ok (.iload 6, 2) := by decide +kernel
theorem dX6_best_65 : decode cX6_best 65 = .ok (.iload 4, 2) := by decide +kernel
theorem dX6_best_67 : decode cX6_best 67 = .ok (.if_icmp .gt 6, 3) := by decide +kernel
theorem dX6_best_70 : decode cX6_best 70 = .ok (.goto 28, 3) := by decide +kernel
theorem dX6_best_73 : decode cX6_best 73 = .ok (.aload_n 0, 1) := by decide +kernel
theorem dX6_best_74 : decode cX6_best 74 = .ok (.iload_n 1, 1) := by decide +kernel
theorem dX6_best_75 : decode cX6_best 75 = .ok (.iload 5, 2) := by decide +kernel
theorem dX6_best_77 : decode cX6_best 77 = .ok (.ior, 1) := by decide +kernel
theorem dX6_best_78 : decode cX6_best 78 = .ok (.invokevirtual 155, 3) := by decide +kernel
theorem dX6_best_81 : decode cX6_best 81 = .ok (.aload_n 0, 1) := by decide +kernel
theorem dX6_best_82 : decode cX6_best 82 = .ok (.getfield 33, 3) := by decide +kernel
theorem dX6_best_85 : decode cX6_best 85 = .ok (.getfield 158, 3) := by decide +kernel
theorem dX6_best_88 : decode cX6_best 88 = .ok (.ifCond .ne 10, 3) := by decide +kernel
theorem dX6_best_91 : decode cX6_best 91 = .ok (.iload 5, 2) := by decide +kernel
theorem dX6_best_93 : decode cX6_best 93 = .ok (.istore_n 3, 1) := by decide +kernel
theorem dX6_best_94 : decode cX6_best 94 = .ok (.iload 6, 2) := by decide +kernel
theorem dX6_best_96 : decode cX6_best 96 = .ok (.istore 4, 2) := by decide +kernel
theorem dX6_best_98 : decode cX6_best 98 = .ok (.iinc 5 1, 3) := by decide +kernel
theorem dX6_best_101 : decode cX6_best 101 = .ok (.goto (-64), 3) := by decide +kernel
theorem dX6_best_104 : decode cX6_best 104 = .ok (.iload_n 3, 1) := by decide +kernel
theorem dX6_best_105 : decode cX6_best 105 = .ok (.ireturn, 1) := by decide +kernel
theorem dX6_dearest_0 : decode cX6_dearest 0 = .ok (.aload_n 0, 1) := by decide +kernel
theorem dX6_dearest_1 : decode cX6_dearest 1 = .ok (.getfield 19, 3) := by decide +kernel
theorem dX6_dearest_4 : decode cX6_dearest 4 = .ok (.iconst 1, 1) := by decide +kernel
theorem dX6_dearest_5 : decode cX6_dearest 5 = .ok (.invokevirtual 110, 3) := by decide +kernel
theorem dX6_dearest_8 : decode cX6_dearest 8 = .ok (.istore_n 1, 1) := by decide +kernel
theorem dX6_dearest_9 : decode cX6_dearest 9 = .ok (.aload_n 0, 1) := by decide +kernel
theorem dX6_dearest_10 : decode cX6_dearest 10 = .ok (.getfield 19, 3) := by decide +kernel
theorem dX6_dearest_13 : decode cX6_dearest 13 = .ok (.iconst 0, 1) := by decide +kernel
theorem dX6_dearest_14 : decode cX6_dearest 14 = .ok (.invokevirtual 110, 3) := by decide +kernel
theorem dX6_dearest_17 : decode cX6_dearest 17 = .ok (.istore_n 2, 1) := by decide +kernel
theorem dX6_dearest_18 : decode cX6_dearest 18 = .ok (.aload_n 0, 1) := by decide +kernel
theorem dX6_dearest_19 : decode cX6_dearest 19 = .ok (.iload_n 1, 1) := by decide +kernel
theorem dX6_dearest_20 : decode cX6_dearest 20 = .ok (.invokevirtual 117, 3) := by decide +kernel
theorem dX6_dearest_23 : decode cX6_dearest 23 = .ok (.aload_n 0, 1) := by decide +kernel
theorem dX6_dearest_24 : decode cX6_dearest 24 = .ok (.getfield 33, 3) := by decide +kernel
theorem dX6_dearest_27 : decode cX6_dearest 27 = .ok (.getfield 121, 3) := by decide +kernel
theorem dX6_dearest_30 : decode cX6_dearest 30 = .ok (.lstore_n 3, 1) := by decide +kernel
theorem dX6_dearest_31 : decode cX6_dearest 31 = .ok (.lconst 0, 1) := by decide +kernel
theorem dX6_dearest_32 : decode cX6_dearest 32 = .ok (.lstore 5, 2) := by decide +kernel
theorem dX6_dearest_34 : decode cX6_dearest 34 = .ok (.iconst 0, 1) := by decide +kernel
theorem dX6_dearest_35 : decode cX6_dearest 35 = .ok (.istore 7, 2) := by decide +kernel
theorem dX6_dearest_37 : decode cX6_dearest 37 = .ok (.iconst 1, 1) := by decide +kernel
theorem dX6_dearest_38 : decode cX6_dearest 38 = .ok (.istore 8, 2) := by decide +kernel
theorem dX6_dearest_40 : decode cX6_dearest 40 = .ok (.iload 8, 2) := by decide +kernel
theorem dX6_dearest_42 : decode cX6_dearest 42 = .ok (.iload_n 2, 1) := by decide +kernel
theorem dX6_dearest_43 : decode cX6_dearest 43 = .ok (.if_icmp .gt 80, 3) := by decide +kernel
theorem dX6_dearest_46 : decode cX6_dearest 46 = .ok (.aload_n 0, 1) := by decide +kernel
theorem dX6_dearest_47 : decode cX6_dearest 47 = .ok (.getfield 19, 3) := by decide +kernel
theorem dX6_dearest_50 : decode cX6_dearest 50 = .ok (.iload 8, 2) := by decide +kernel
theorem dX6_dearest_52 : decode cX6_dearest 52 = .ok (.invokevirtual 152, 3) := by decide +kernel
theorem dX6_dearest_55 : decode cX6_dearest 55 = .ok (.istore 9, 2) := by decide +kernel
theorem dX6_dearest_57 : decode cX6_dearest 57 = .ok (.iload 8, 2) := by decide +kernel
theorem dX6_dearest_59 : decode cX6_dearest 59 = .ok (.iload_n 2, 1) := by decide +kernel
theorem dX6_dearest_60 : decode cX6_dearest 60 = .ok (.iconst (-1), 1) := by decide +kernel
theorem dX6_dearest_61 : decode cX6_dearest 61 = .ok (.ixor, 1) := by decide +kernel
theorem dX6_dearest_62 : decode cX6_dearest 62 = .ok (.iand, 1) := by decide +kernel
theorem dX6_dearest_63 : decode cX6_dearest 63 = .ok (.ifCond .ne 54, 3) := by decide +kernel
theorem dX6_dearest_66 : decode cX6_dearest 66 = .ok (.iload 9, 2) := by decide +kernel
theorem dX6_dearest_68 : decode cX6_dearest 68 = .ok (.i2l, 1) := by decide +kernel
theorem dX6_dearest_69 : decode cX6_dearest 69 = .ok (.lload 5, 2) := by decide +kernel
theorem dX6_dearest_71 : decode cX6_dearest 71 = .ok (.lcmp, 1) := by decide +kernel
theorem dX6_dearest_72 : decode cX6_dearest 72 = .ok (.ifCond .gt 6, 3) := by decide +kernel
theorem dX6_dearest_75 : decode cX6_dearest 75 = .ok (.goto 42, 3) := by decide +kernel
theorem dX6_dearest_78 : decode cX6_dearest 78 = .ok (.aload_n 0, 1) := by decide +kernel
theorem dX6_dearest_79 : decode cX6_dearest 79 = .ok (.iload_n 1, 1) := by decide +kernel
theorem dX6_dearest_80 : decode cX6_dearest 80 = .ok (.iload 8, 2) := by decide +kernel
theorem dX6_dearest_82 : decode cX6_dearest 82 = .ok (.ior, 1) := by decide +kernel
theorem dX6_dearest_83 : decode cX6_dearest 83 = .ok (.invokevirtual 155, 3) := by decide +kernel
theorem dX6_dearest_86 : decode cX6_dearest 86 = .ok (.iload 9, 2) := by decide +kernel
theorem dX6_dearest_88 : decode cX6_dearest 88 = .ok (.i2l, 1) := by decide +kernel
theorem dX6_dearest_89 : decode cX6_dearest 89 = .ok (.aload_n 0, 1) := by decide +kernel
theorem dX6_dearest_90 : decode cX6_dearest 90 = .ok (.getfield 33, 3) := by decide +kernel
theorem dX6_dearest_93 : decode cX6_dearest 93 = .ok (.getfield 121, 3) := by decide +kernel
theorem dX6_dearest_96 : decode cX6_dearest 96 = .ok (.lload_n 3, 1) := by decide +kernel
theorem dX6_dearest_97 : decode cX6_dearest 97 = .ok (.lsub, 1) := by decide +kernel
theorem dX6_dearest_98 : decode cX6_dearest 98 = .ok (.lsub, 1) := by decide +kernel
theorem dX6_dearest_99 : decode cX6_dearest 99 = .ok (.lstore 10, 2) := by decide +kernel
theorem dX6_dearest_101 : decode cX6_dearest 101 = .ok (.lload 10, 2) := by decide +kernel
theorem dX6_dearest_103 : decode cX6_dearest 103 = .ok (.lload 5, 2) := by decide +kernel
theorem dX6_dearest_105 : decode cX6_dearest 105 = .ok (.lcmp, 1) := by decide +kernel
theorem dX6_dearest_106 : decode cX6_dearest 106 = .ok (.ifCond .le 11, 3) := by decide +kernel
theorem dX6_dearest_109 : decode cX6_dearest 109 = .ok (.iload 8, 2) := by decide +kernel
theorem dX6_dearest_111 : decode cX6_dearest 111 = .ok (.istore 7, 2) := by decide +kernel
theorem dX6_dearest_113 : decode cX6_dearest 113 = .ok (.lload 10, 2) := by decide +kernel
theorem dX6_dearest_115 : decode cX6_dearest 115 = .ok (.lstore 5, 2) := by decide +kernel
theorem dX6_dearest_117 : decode cX6_dearest 117 = .ok (.iinc 8 1, 3) := by decide +kernel
theorem dX6_dearest_120 : decode cX6_dearest 120 = .ok (.goto (-80), 3) := by decide +kernel
theorem dX6_dearest_123 : decode cX6_dearest 123 = .ok (.iload 7, 2) := by decide +kernel
theorem dX6_dearest_125 : decode cX6_dearest 125 = .ok (.ireturn, 1) := by decide +kernel
theorem dX6_hired_0 : decode cX6_hired 0 = .ok (.aload_n 0, 1) := by decide +kernel
theorem dX6_hired_1 : decode cX6_hired 1 = .ok (.getfield 19, 3) := by decide +kernel
theorem dX6_hired_4 : decode cX6_hired 4 = .ok (.iload_n 1, 1) := by decide +kernel
theorem dX6_hired_5 : decode cX6_hired 5 = .ok (.invokevirtual 149, 3) := by decide +kernel
theorem dX6_hired_8 : decode cX6_hired 8 = .ok (.ifCond .ne 7, 3) := by decide +kernel
theorem dX6_hired_11 : decode cX6_hired 11 = .ok (.ldc2_w 161, 3) := by decide +kernel
theorem dX6_hired_14 : decode cX6_hired 14 = .ok (.lreturn, 1) := by decide +kernel
theorem dX6_hired_15 : decode cX6_hired 15 = .ok (.aload_n 0, 1) := by decide +kernel
theorem dX6_hired_16 : decode cX6_hired 16 = .ok (.iload_n 1, 1) := by decide +kernel
theorem dX6_hired_17 : decode cX6_hired 17 = .ok (.invokevirtual 117, 3) := by decide +kernel
theorem dX6_hired_20 : decode cX6_hired 20 = .ok (.aload_n 0, 1) := by decide +kernel
theorem dX6_hired_21 : decode cX6_hired 21 = .ok (.getfield 33, 3) := by decide +kernel
theorem dX6_hired_24 : decode cX6_hired 24 = .ok (.getfield 121, 3) := by decide +kernel
theorem dX6_hired_27 : decode cX6_hired 27 = .ok (.lreturn, 1) := by decide +kernel
theorem dX6_fewest_0 : decode cX6_fewest 0 = .ok (.aload_n 0, 1) := by decide +kernel
theorem dX6_fewest_1 : decode cX6_fewest 1 = .ok (.getfield 19, 3) := by decide +kernel
theorem dX6_fewest_4 : decode cX6_fewest 4 = .ok (.iconst 1, 1) := by decide +kernel
theorem dX6_fewest_5 : decode cX6_fewest 5 = .ok (.invokevirtual 110, 3) := by decide +kernel
theorem dX6_fewest_8 : decode cX6_fewest 8 = .ok (.istore_n 1, 1) := by decide +kernel
theorem dX6_fewest_9 : decode cX6_fewest 9 = .ok (.aload_n 0, 1) := by decide +kernel
theorem dX6_fewest_10 : decode cX6_fewest 10 = .ok (.iload_n 1, 1) := by decide +kernel
theorem dX6_fewest_11 : decode cX6_fewest 11 = .ok (.invokevirtual 114, 3) := by decide +kernel
theorem dX6_fewest_14 : decode cX6_fewest 14 = .ok (.ifCond .eq 5, 3) := by decide +kernel
theorem dX6_fewest_17 : decode cX6_fewest 17 = .ok (.iconst 0, 1) := by decide +kernel
theorem dX6_fewest_18 : decode cX6_fewest 18 = .ok (.ireturn, 1) := by decide +kernel
theorem dX6_fewest_19 : decode cX6_fewest 19 = .ok (.iload_n 1, 1) := by decide +kernel
theorem dX6_fewest_20 : decode cX6_fewest 20 = .ok (.istore_n 2, 1) := by decide +kernel
theorem dX6_fewest_21 : decode cX6_fewest 21 = .ok (.iload_n 1, 1) := by decide +kernel
theorem dX6_fewest_22 : decode cX6_fewest 22 = .ok (.invokestatic 163, 3) := by decide +kernel
theorem dX6_fewest_25 : decode cX6_fewest 25 = .ok (.istore_n 3, 1) := by decide +kernel
theorem dX6_fewest_26 : decode cX6_fewest 26 = .ok (.aload_n 0, 1) := by decide +kernel
theorem dX6_fewest_27 : decode cX6_fewest 27 = .ok (.getfield 19, 3) := by decide +kernel
theorem dX6_fewest_30 : decode cX6_fewest 30 = .ok (.iload_n 1, 1) := by decide +kernel
theorem dX6_fewest_31 : decode cX6_fewest 31 = .ok (.invokevirtual 152, 3) := by decide +kernel
theorem dX6_fewest_34 : decode cX6_fewest 34 = .ok (.istore 4, 2) := by decide +kernel
theorem dX6_fewest_36 : decode cX6_fewest 36 = .ok (.iconst 1, 1) := by decide +kernel
theorem dX6_fewest_37 : decode cX6_fewest 37 = .ok (.istore 5, 2) := by decide +kernel
theorem dX6_fewest_39 : decode cX6_fewest 39 = .ok (.iload 5, 2) := by decide +kernel
theorem dX6_fewest_41 : decode cX6_fewest 41 = .ok (.iload_n 1, 1) := by decide +kernel
theorem dX6_fewest_42 : decode cX6_fewest 42 = .ok (.if_icmp .ge 88, 3) := by decide +kernel
theorem dX6_fewest_45 : decode cX6_fewest 45 = .ok (.iload 5, 2) := by decide +kernel
theorem dX6_fewest_47 : decode cX6_fewest 47 = .ok (.invokestatic 163, 3) := by decide +kernel
theorem dX6_fewest_50 : decode cX6_fewest 50 = .ok (.istore 6, 2) := by decide +kernel
theorem dX6_fewest_52 : decode cX6_fewest 52 = .ok (.aload_n 0, 1) := by decide +kernel
theorem dX6_fewest_53 : decode cX6_fewest 53 = .ok (.getfield 19, 3) := by decide +kernel
theorem dX6_fewest_56 : decode cX6_fewest 56 = .ok (.iload 5, 2) := by decide +kernel
theorem dX6_fewest_58 : decode cX6_fewest 58 = .ok (.invokevirtual 152, 3) := by decide +kernel
theorem dX6_fewest_61 : decode cX6_fewest 61 = .ok (.istore 7, 2) := by decide +kernel
theorem dX6_fewest_63 : decode cX6_fewest 63 = .ok (.iload 5, 2) := by decide +kernel
theorem dX6_fewest_65 : decode cX6_fewest 65 = .ok (.iload_n 1, 1) := by decide +kernel
theorem dX6_fewest_66 : decode cX6_fewest 66 = .ok (.iconst (-1), 1) := by decide +kernel
theorem dX6_fewest_67 : decode cX6_fewest 67 = .ok (.ixor, 1) := by decide +kernel
theorem dX6_fewest_68 : decode cX6_fewest 68 = .ok (.iand, 1) := by decide +kernel
theorem dX6_fewest_69 : decode cX6_fewest 69 = .ok (.ifCond .ne 55, 3) := by decide +kernel
theorem dX6_fewest_72 : decode cX6_fewest 72 = .ok (.iload 6, 2) := by decide +kernel
theorem dX6_fewest_74 : decode cX6_fewest 74 = .ok (.iload_n 3, 1) := by decide +kernel
theorem dX6_fewest_75 : decode cX6_fewest 75 = .ok (.if_icmp .gt 49, 3) := by decide +kernel
theorem dX6_fewest_78 : decode cX6_fewest 78 = .ok (.iload 6, 2) := by decide +kernel
theorem dX6_fewest_80 : decode cX6_fewest 80 = .ok (.iload_n 3, 1) := by decide +kernel
theorem dX6_fewest_81 : decode cX6_fewest 81 = .ok (.if_icmp .ne 13, 3) := by decide +kernel
theorem dX6_fewest_84 : decode cX6_fewest 84 = .ok (.iload 7, 2) := by decide +kernel
theorem dX6_fewest_86 : decode cX6_fewest 86 = .ok (.iload 4, 2) := by decide +kernel
theorem dX6_fewest_88 : decode cX6_fewest 88 = .ok (.if_icmp .lt 6, 3) := by decide +kernel
theorem dX6_fewest_91 : decode cX6_fewest 91 = .ok (.goto 33, 3) := by decide +kernel
theorem dX6_fewest_94 : decode cX6_fewest 94 = .ok (.aload_n 0, 1) := by decide +kernel
theorem dX6_fewest_95 : decode cX6_fewest 95 = .ok (.iload_n 1, 1) := by decide +kernel
theorem dX6_fewest_96 : decode cX6_fewest 96 = .ok (.iload 5, 2) := by decide +kernel
theorem dX6_fewest_98 : decode cX6_fewest 98 = .ok (.iconst (-1), 1) := by decide +kernel
theorem dX6_fewest_99 : decode cX6_fewest 99 = .ok (.ixor, 1) := by decide +kernel
theorem dX6_fewest_100 : decode cX6_fewest 100 = .ok (.iand, 1) := by decide +kernel
theorem dX6_fewest_101 : decode cX6_fewest 101 = .ok (.invokevirtual 155, 3) := by decide +kernel
theorem dX6_fewest_104 : decode cX6_fewest 104 = .ok (.aload_n 0, 1) := by decide +kernel
theorem dX6_fewest_105 : decode cX6_fewest 105 = .ok (.getfield 33, 3) := by decide +kernel
theorem dX6_fewest_108 : decode cX6_fewest 108 = .ok (.getfield 158, 3) := by decide +kernel
theorem dX6_fewest_111 : decode cX6_fewest 111 = .ok (.ifCond .ne 13, 3) := by decide +kernel
theorem dX6_fewest_114 : decode cX6_fewest 114 = .ok (.iload 5, 2) := by decide +kernel
theorem dX6_fewest_116 : decode cX6_fewest 116 = .ok (.istore_n 2, 1) := by decide +kernel
theorem dX6_fewest_117 : decode cX6_fewest 117 = .ok (.iload 6, 2) := by decide +kernel
theorem dX6_fewest_119 : decode cX6_fewest 119 = .ok (.istore_n 3, 1) := by decide +kernel
theorem dX6_fewest_120 : decode cX6_fewest 120 = .ok (.iload 7, 2) := by decide +kernel
theorem dX6_fewest_122 : decode cX6_fewest 122 = .ok (.istore 4, 2) := by decide +kernel
theorem dX6_fewest_124 : decode cX6_fewest 124 = .ok (.iinc 5 1, 3) := by decide +kernel
theorem dX6_fewest_127 : decode cX6_fewest 127 = .ok (.goto (-88), 3) := by decide +kernel
theorem dX6_fewest_130 : decode cX6_fewest 130 = .ok (.iload_n 2, 1) := by decide +kernel
theorem dX6_fewest_131 : decode cX6_fewest 131 = .ok (.ireturn, 1) := by decide +kernel
theorem dX6_bays_0 : decode cX6_bays 0 = .ok (.iload_n 1, 1) := by decide +kernel
theorem dX6_bays_1 : decode cX6_bays 1 = .ok (.iconst 1, 1) := by decide +kernel
theorem dX6_bays_2 : decode cX6_bays 2 = .ok (.sipush 5000, 3) := by decide +kernel
theorem dX6_bays_5 : decode cX6_bays 5 = .ok (.invokestatic 69, 3) := by decide +kernel
theorem dX6_bays_8 : decode cX6_bays 8 = .ok (.ifCond .ne 13, 3) := by decide +kernel
theorem dX6_bays_11 : decode cX6_bays 11 = .ok (.iload_n 2, 1) := by decide +kernel
theorem dX6_bays_12 : decode cX6_bays 12 = .ok (.iconst 4, 1) := by decide +kernel
theorem dX6_bays_13 : decode cX6_bays 13 = .ok (.bipush 60, 2) := by decide +kernel
theorem dX6_bays_15 : decode cX6_bays 15 = .ok (.invokestatic 69, 3) := by decide +kernel
theorem dX6_bays_18 : decode cX6_bays 18 = .ok (.ifCond .eq 6, 3) := by decide +kernel
theorem dX6_bays_21 : decode cX6_bays 21 = .ok (.bipush (-2), 2) := by decide +kernel
theorem dX6_bays_23 : decode cX6_bays 23 = .ok (.ireturn, 1) := by decide +kernel
theorem dX6_bays_24 : decode cX6_bays 24 = .ok (.iload_n 1, 1) := by decide +kernel
theorem dX6_bays_25 : decode cX6_bays 25 = .ok (.iload_n 2, 1) := by decide +kernel
theorem dX6_bays_26 : decode cX6_bays 26 = .ok (.invokestatic 168, 3) := by decide +kernel
theorem dX6_bays_29 : decode cX6_bays 29 = .ok (.ireturn, 1) := by decide +kernel
theorem dX6_law_0 : decode cX6_law 0 = .ok (.iload_n 1, 1) := by decide +kernel
theorem dX6_law_1 : decode cX6_law 1 = .ok (.iconst 1, 1) := by decide +kernel
theorem dX6_law_2 : decode cX6_law 2 = .ok (.sipush 5000, 3) := by decide +kernel
theorem dX6_law_5 : decode cX6_law 5 = .ok (.invokestatic 69, 3) := by decide +kernel
theorem dX6_law_8 : decode cX6_law 8 = .ok (.ifCond .ne 14, 3) := by decide +kernel
theorem dX6_law_11 : decode cX6_law 11 = .ok (.iload_n 2, 1) := by decide +kernel
theorem dX6_law_12 : decode cX6_law 12 = .ok (.iconst 1, 1) := by decide +kernel
theorem dX6_law_13 : decode cX6_law 13 = .ok (.sipush 200, 3) := by decide +kernel
theorem dX6_law_16 : decode cX6_law 16 = .ok (.invokestatic 69, 3) := by decide +kernel
theorem dX6_law_19 : decode cX6_law 19 = .ok (.ifCond .eq 6, 3) := by decide +kernel
theorem dX6_law_22 : decode cX6_law 22 = .ok (.bipush (-2), 2) := by decide +kernel
theorem dX6_law_24 : decode cX6_law 24 = .ok (.ireturn, 1) := by decide +kernel
theorem dX6_law_25 : decode cX6_law 25 = .ok (.aload_n 0, 1) := by decide +kernel
theorem dX6_law_26 : decode cX6_law 26 = .ok (.getfield 40, 3) := by decide +kernel
theorem dX6_law_29 : decode cX6_law 29 = .ok (.iload_n 1, 1) := by decide +kernel
theorem dX6_law_30 : decode cX6_law 30 = .ok (.iload_n 2, 1) := by decide +kernel
theorem dX6_law_31 : decode cX6_law 31 = .ok (.invokevirtual 171, 3) := by decide +kernel
theorem dX6_law_34 : decode cX6_law 34 = .ok (.ireturn, 1) := by decide +kernel
theorem dX6_unlaw_0 : decode cX6_unlaw 0 = .ok (.aload_n 0, 1) := by decide +kernel
theorem dX6_unlaw_1 : decode cX6_unlaw 1 = .ok (.getfield 40, 3) := by decide +kernel
theorem dX6_unlaw_4 : decode cX6_unlaw 4 = .ok (.getfield 174, 3) := by decide +kernel
theorem dX6_unlaw_7 : decode cX6_unlaw 7 = .ok (.istore_n 1, 1) := by decide +kernel
theorem dX6_unlaw_8 : decode cX6_unlaw 8 = .ok (.aload_n 0, 1) := by decide +kernel
theorem dX6_unlaw_9 : decode cX6_unlaw 9 = .ok (.getfield 40, 3) := by decide +kernel
theorem dX6_unlaw_12 : decode cX6_unlaw 12 = .ok (.iconst 0, 1) := by decide +kernel
theorem dX6_unlaw_13 : decode cX6_unlaw 13 = .ok (.putfield 174, 3) := by decide +kernel
theorem dX6_unlaw_16 : decode cX6_unlaw 16 = .ok (.iload_n 1, 1) := by decide +kernel
theorem dX6_unlaw_17 : decode cX6_unlaw 17 = .ok (.ireturn, 1) := by decide +kernel
theorem dX6_doors_0 : decode cX6_doors 0 = .ok (.iload_n 1, 1) := by decide +kernel
theorem dX6_doors_1 : decode cX6_doors 1 = .ok (.iconst 1, 1) := by decide +kernel
theorem dX6_doors_2 : decode cX6_doors 2 = .ok (.sipush 5000, 3) := by decide +kernel
theorem dX6_doors_5 : decode cX6_doors 5 = .ok (.invokestatic 69, 3) := by decide +kernel
theorem dX6_doors_8 : decode cX6_doors 8 = .ok (.ifCond .eq 8, 3) := by decide +kernel
theorem dX6_doors_11 : decode cX6_doors 11 = .ok (.bipush (-2), 2) := by decide +kernel
theorem dX6_doors_13 : decode cX6_doors 13 = .ok (.goto 11, 3) := by decide +kernel
theorem dX6_doors_16 : decode cX6_doors 16 = .ok (.aload_n 0, 1) := by decide +kernel
theorem dX6_doors_17 : decode cX6_doors 17 = .ok (.getfield 40, 3) := by decide +kernel
theorem dX6_doors_20 : decode cX6_doors 20 = .ok (.iload_n 1, 1) := by decide +kernel
theorem dX6_doors_21 : decode cX6_doors 21 = .ok (.invokevirtual 177, 3) := by decide +kernel
theorem dX6_doors_24 : decode cX6_doors 24 = .ok (.ireturn, 1) := by decide +kernel
theorem dX6_keeps_0 : decode cX6_keeps 0 = .ok (.iload_n 1, 1) := by decide +kernel
theorem dX6_keeps_1 : decode cX6_keeps 1 = .ok (.iconst 1, 1) := by decide +kernel
theorem dX6_keeps_2 : decode cX6_keeps 2 = .ok (.sipush 5000, 3) := by decide +kernel
theorem dX6_keeps_5 : decode cX6_keeps 5 = .ok (.invokestatic 69, 3) := by decide +kernel
theorem dX6_keeps_8 : decode cX6_keeps 8 = .ok (.ifCond .ne 14, 3) := by decide +kernel
theorem dX6_keeps_11 : decode cX6_keeps 11 = .ok (.iload_n 2, 1) := by decide +kernel
theorem dX6_keeps_12 : decode cX6_keeps 12 = .ok (.iconst 1, 1) := by decide +kernel
theorem dX6_keeps_13 : decode cX6_keeps 13 = .ok (.sipush 2000, 3) := by decide +kernel
theorem dX6_keeps_16 : decode cX6_keeps 16 = .ok (.invokestatic 69, 3) := by decide +kernel
theorem dX6_keeps_19 : decode cX6_keeps 19 = .ok (.ifCond .eq 6, 3) := by decide +kernel
theorem dX6_keeps_22 : decode cX6_keeps 22 = .ok (.bipush (-2), 2) := by decide +kernel
theorem dX6_keeps_24 : decode cX6_keeps 24 = .ok (.ireturn, 1) := by decide +kernel
theorem dX6_keeps_25 : decode cX6_keeps 25 = .ok (.aload_n 0, 1) := by decide +kernel
theorem dX6_keeps_26 : decode cX6_keeps 26 = .ok (.getfield 40, 3) := by decide +kernel
theorem dX6_keeps_29 : decode cX6_keeps 29 = .ok (.iload_n 1, 1) := by decide +kernel
theorem dX6_keeps_30 : decode cX6_keeps 30 = .ok (.invokevirtual 177, 3) := by decide +kernel
theorem dX6_keeps_33 : decode cX6_keeps 33 = .ok (.iconst 2, 1) := by decide +kernel
theorem dX6_keeps_34 : decode cX6_keeps 34 = .ok (.iload_n 2, 1) := by decide +kernel
theorem dX6_keeps_35 : decode cX6_keeps 35 = .ok (.imul, 1) := by decide +kernel
theorem dX6_keeps_36 : decode cX6_keeps 36 = .ok (.iconst 2, 1) := by decide +kernel
theorem dX6_keeps_37 : decode cX6_keeps 37 = .ok (.iadd, 1) := by decide +kernel
theorem dX6_keeps_38 : decode cX6_keeps 38 = .ok (.if_icmp .gt 7, 3) := by decide +kernel
theorem dX6_keeps_41 : decode cX6_keeps 41 = .ok (.iconst 1, 1) := by decide +kernel
theorem dX6_keeps_42 : decode cX6_keeps 42 = .ok (.goto 4, 3) := by decide +kernel
theorem dX6_keeps_45 : decode cX6_keeps 45 = .ok (.iconst 0, 1) := by decide +kernel
theorem dX6_keeps_46 : decode cX6_keeps 46 = .ok (.invokestatic 125, 3) := by decide +kernel
theorem dX6_keeps_49 : decode cX6_keeps 49 = .ok (.ireturn, 1) := by decide +kernel
theorem dX6_soil_0 : decode cX6_soil 0 = .ok (.iload_n 1, 1) := by decide +kernel
theorem dX6_soil_1 : decode cX6_soil 1 = .ok (.iconst 0, 1) := by decide +kernel
theorem dX6_soil_2 : decode cX6_soil 2 = .ok (.iconst 3, 1) := by decide +kernel
theorem dX6_soil_3 : decode cX6_soil 3 = .ok (.invokestatic 69, 3) := by decide +kernel
theorem dX6_soil_6 : decode cX6_soil 6 = .ok (.ifCond .ne 14, 3) := by decide +kernel
theorem dX6_soil_9 : decode cX6_soil 9 = .ok (.iload_n 2, 1) := by decide +kernel
theorem dX6_soil_10 : decode cX6_soil 10 = .ok (.iconst 1, 1) := by decide +kernel
theorem dX6_soil_11 : decode cX6_soil 11 = .ok (.sipush 1000, 3) := by decide +kernel
theorem dX6_soil_14 : decode cX6_soil 14 = .ok (.invokestatic 69, 3) := by decide +kernel
theorem dX6_soil_17 : decode cX6_soil 17 = .ok (.ifCond .eq 6, 3) := by decide +kernel
theorem dX6_soil_20 : decode cX6_soil 20 = .ok (.bipush (-2), 2) := by decide +kernel
theorem dX6_soil_22 : decode cX6_soil 22 = .ok (.ireturn, 1) := by decide +kernel
theorem dX6_soil_23 : decode cX6_soil 23 = .ok (.aload_n 0, 1) := by decide +kernel
theorem dX6_soil_24 : decode cX6_soil 24 = .ok (.getfield 51, 3) := by decide +kernel
theorem dX6_soil_27 : decode cX6_soil 27 = .ok (.iload_n 1, 1) := by decide +kernel
theorem dX6_soil_28 : decode cX6_soil 28 = .ok (.iaload, 1) := by decide +kernel
theorem dX6_soil_29 : decode cX6_soil 29 = .ok (.istore_n 3, 1) := by decide +kernel
theorem dX6_soil_30 : decode cX6_soil 30 = .ok (.aload_n 0, 1) := by decide +kernel
theorem dX6_soil_31 : decode cX6_soil 31 = .ok (.getfield 51, 3) := by decide +kernel
theorem dX6_soil_34 : decode cX6_soil 34 = .ok (.iload_n 1, 1) := by decide +kernel
theorem dX6_soil_35 : decode cX6_soil 35 = .ok (.iload_n 2, 1) := by decide +kernel
theorem dX6_soil_36 : decode cX6_soil 36 = .ok (.iastore, 1) := by decide +kernel
theorem dX6_soil_37 : decode cX6_soil 37 = .ok (.iload_n 3, 1) := by decide +kernel
theorem dX6_soil_38 : decode cX6_soil 38 = .ok (.ireturn, 1) := by decide +kernel
theorem dX6_pitch_0 : decode cX6_pitch 0 = .ok (.aload_n 0, 1) := by decide +kernel
theorem dX6_pitch_1 : decode cX6_pitch 1 = .ok (.getfield 19, 3) := by decide +kernel
theorem dX6_pitch_4 : decode cX6_pitch 4 = .ok (.iload_n 1, 1) := by decide +kernel
theorem dX6_pitch_5 : decode cX6_pitch 5 = .ok (.invokevirtual 93, 3) := by decide +kernel
theorem dX6_pitch_8 : decode cX6_pitch 8 = .ok (.ifCond .eq 12, 3) := by decide +kernel
theorem dX6_pitch_11 : decode cX6_pitch 11 = .ok (.iload_n 2, 1) := by decide +kernel
theorem dX6_pitch_12 : decode cX6_pitch 12 = .ok (.iconst 0, 1) := by decide +kernel
theorem dX6_pitch_13 : decode cX6_pitch 13 = .ok (.iconst 3, 1) := by decide +kernel
theorem dX6_pitch_14 : decode cX6_pitch 14 = .ok (.invokestatic 69, 3) := by decide +kernel
theorem dX6_pitch_17 : decode cX6_pitch 17 = .ok (.ifCond .eq 6, 3) := by decide +kernel
theorem dX6_pitch_20 : decode cX6_pitch 20 = .ok (.bipush (-2), 2) := by decide +kernel
theorem dX6_pitch_22 : decode cX6_pitch 22 = .ok (.ireturn, 1) := by decide +kernel
theorem dX6_pitch_23 : decode cX6_pitch 23 = .ok (.iload_n 3, 1) := by decide +kernel
theorem dX6_pitch_24 : decode cX6_pitch 24 = .ok (.iconst 0, 1) := by decide +kernel
theorem dX6_pitch_25 : decode cX6_pitch 25 = .ok (.bipush 99, 2) := by decide +kernel
theorem dX6_pitch_27 : decode cX6_pitch 27 = .ok (.invokestatic 69, 3) := by decide +kernel
theorem dX6_pitch_30 : decode cX6_pitch 30 = .ok (.ifCond .ne 15, 3) := by decide +kernel
theorem dX6_pitch_33 : decode cX6_pitch 33 = .ok (.iload 4, 2) := by decide +kernel
theorem dX6_pitch_35 : decode cX6_pitch 35 = .ok (.iconst 0, 1) := by decide +kernel
theorem dX6_pitch_36 : decode cX6_pitch 36 = .ok (.sipush 999, 3) := by decide +kernel
theorem dX6_pitch_39 : decode cX6_pitch 39 = .ok (.invokestatic 69, 3) := by decide +kernel
theorem dX6_pitch_42 : decode cX6_pitch 42 = .ok (.ifCond .eq 6, 3) := by decide +kernel
theorem dX6_pitch_45 : decode cX6_pitch 45 = .ok (.bipush (-2), 2) := by decide +kernel
theorem dX6_pitch_47 : decode cX6_pitch 47 = .ok (.ireturn, 1) := by decide +kernel
theorem dX6_pitch_48 : decode cX6_pitch 48 = .ok (.aload_n 0, 1) := by decide +kernel
theorem dX6_pitch_49 : decode cX6_pitch 49 = .ok (.getfield 19, 3) := by decide +kernel
theorem dX6_pitch_52 : decode cX6_pitch 52 = .ok (.getfield 180, 3) := by decide +kernel
theorem dX6_pitch_55 : decode cX6_pitch 55 = .ok (.iload_n 1, 1) := by decide +kernel
theorem dX6_pitch_56 : decode cX6_pitch 56 = .ok (.iload_n 2, 1) := by decide +kernel
theorem dX6_pitch_57 : decode cX6_pitch 57 = .ok (.iastore, 1) := by decide +kernel
theorem dX6_pitch_58 : decode cX6_pitch 58 = .ok (.aload_n 0, 1) := by decide +kernel
theorem dX6_pitch_59 : decode cX6_pitch 59 = .ok (.getfield 19, 3) := by decide +kernel
theorem dX6_pitch_62 : decode cX6_pitch 62 = .ok (.getfield 183, 3) := by decide +kernel
theorem dX6_pitch_65 : decode cX6_pitch 65 = .ok (.iload_n 1, 1) := by decide +kernel
theorem dX6_pitch_66 : decode cX6_pitch 66 = .ok (.iload_n 3, 1) := by decide +kernel
theorem dX6_pitch_67 : decode cX6_pitch 67 = .ok (.iastore, 1) := by decide +kernel
theorem dX6_pitch_68 : decode cX6_pitch 68 = .ok (.aload_n 0, 1) := by decide +kernel
theorem dX6_pitch_69 : decode cX6_pitch 69 = .ok (.getfield 19, 3) := by decide +kernel
theorem dX6_pitch_72 : decode cX6_pitch 72 = .ok (.getfield 186, 3) := by decide +kernel
theorem dX6_pitch_75 : decode cX6_pitch 75 = .ok (.iload_n 1, 1) := by decide +kernel
theorem dX6_pitch_76 : decode cX6_pitch 76 = .ok (.iload 4, 2) := by decide +kernel
theorem dX6_pitch_78 : decode cX6_pitch 78 = .ok (.iastore, 1) := by decide +kernel
theorem dX6_pitch_79 : decode cX6_pitch 79 = .ok (.iconst 1, 1) := by decide +kernel
theorem dX6_pitch_80 : decode cX6_pitch 80 = .ok (.ireturn, 1) := by decide +kernel
theorem dX6_bears_0 : decode cX6_bears 0 = .ok (.aload_n 0, 1) := by decide +kernel
theorem dX6_bears_1 : decode cX6_bears 1 = .ok (.getfield 19, 3) := by decide +kernel
theorem dX6_bears_4 : decode cX6_bears 4 = .ok (.iload_n 1, 1) := by decide +kernel
theorem dX6_bears_5 : decode cX6_bears 5 = .ok (.invokevirtual 93, 3) := by decide +kernel
theorem dX6_bears_8 : decode cX6_bears 8 = .ok (.ifCond .ne 6, 3) := by decide +kernel
theorem dX6_bears_11 : decode cX6_bears 11 = .ok (.bipush (-2), 2) := by decide +kernel
theorem dX6_bears_13 : decode cX6_bears 13 = .ok (.ireturn, 1) := by decide +kernel
theorem dX6_bears_14 : decode cX6_bears 14 = .ok (.bipush 60, 2) := by decide +kernel
theorem dX6_bears_16 : decode cX6_bears 16 = .ok (.istore_n 2, 1) := by decide +kernel
theorem dX6_bears_17 : decode cX6_bears 17 = .ok (.iload_n 2, 1) := by decide +kernel
theorem dX6_bears_18 : decode cX6_bears 18 = .ok (.ifCond .le 18, 3) := by decide +kernel
theorem dX6_bears_21 : decode cX6_bears 21 = .ok (.aload_n 0, 1) := by decide +kernel
theorem dX6_bears_22 : decode cX6_bears 22 = .ok (.iload_n 1, 1) := by decide +kernel
theorem dX6_bears_23 : decode cX6_bears 23 = .ok (.iload_n 2, 1) := by decide +kernel
theorem dX6_bears_24 : decode cX6_bears 24 = .ok (.invokevirtual 189, 3) := by decide +kernel
theorem dX6_bears_27 : decode cX6_bears 27 = .ok (.ifCond .ne 9, 3) := by decide +kernel
theorem dX6_bears_30 : decode cX6_bears 30 = .ok (.iinc 2 (-1), 3) := by decide +kernel
theorem dX6_bears_33 : decode cX6_bears 33 = .ok (.goto (-16), 3) := by decide +kernel
theorem dX6_bears_36 : decode cX6_bears 36 = .ok (.iload_n 2, 1) := by decide +kernel
theorem dX6_bears_37 : decode cX6_bears 37 = .ok (.ireturn, 1) := by decide +kernel
theorem dX6_gust_0 : decode cX6_gust 0 = .ok (.iload_n 1, 1) := by decide +kernel
theorem dX6_gust_1 : decode cX6_gust 1 = .ok (.iconst 0, 1) := by decide +kernel
theorem dX6_gust_2 : decode cX6_gust 2 = .ok (.bipush 60, 2) := by decide +kernel
theorem dX6_gust_4 : decode cX6_gust 4 = .ok (.invokestatic 69, 3) := by decide +kernel
theorem dX6_gust_7 : decode cX6_gust 7 = .ok (.ifCond .ne 13, 3) := by decide +kernel
theorem dX6_gust_10 : decode cX6_gust 10 = .ok (.iload_n 2, 1) := by decide +kernel
theorem dX6_gust_11 : decode cX6_gust 11 = .ok (.iconst 0, 1) := by decide +kernel
theorem dX6_gust_12 : decode cX6_gust 12 = .ok (.bipush 60, 2) := by decide +kernel
theorem dX6_gust_14 : decode cX6_gust 14 = .ok (.invokestatic 69, 3) := by decide +kernel
theorem dX6_gust_17 : decode cX6_gust 17 = .ok (.ifCond .eq 6, 3) := by decide +kernel
theorem dX6_gust_20 : decode cX6_gust 20 = .ok (.bipush (-2), 2) := by decide +kernel
theorem dX6_gust_22 : decode cX6_gust 22 = .ok (.ireturn, 1) := by decide +kernel
theorem dX6_gust_23 : decode cX6_gust 23 = .ok (.iconst 0, 1) := by decide +kernel
theorem dX6_gust_24 : decode cX6_gust 24 = .ok (.istore_n 3, 1) := by decide +kernel
theorem dX6_gust_25 : decode cX6_gust 25 = .ok (.iconst 0, 1) := by decide +kernel
theorem dX6_gust_26 : decode cX6_gust 26 = .ok (.istore 4, 2) := by decide +kernel
theorem dX6_gust_28 : decode cX6_gust 28 = .ok (.iload 4, 2) := by decide +kernel
theorem dX6_gust_30 : decode cX6_gust 30 = .ok (.aload_n 0, 1) := by decide +kernel
theorem dX6_gust_31 : decode cX6_gust 31 = .ok (.getfield 19, 3) := by decide +kernel
theorem dX6_gust_34 : decode cX6_gust 34 = .ok (.getfield 193, 3) := by decide +kernel
theorem dX6_gust_37 : decode cX6_gust 37 = .ok (.if_icmp .ge 80, 3) := by decide +kernel
theorem dX6_gust_40 : decode cX6_gust 40 = .ok (.aload_n 0, 1) := by decide +kernel
theorem dX6_gust_41 : decode cX6_gust 41 = .ok (.getfield 19, 3) := by decide +kernel
theorem dX6_gust_44 : decode cX6_gust 44 = .ok (.getfield 96, 3) := by decide +kernel
theorem dX6_gust_47 : decode cX6_gust 47 = .ok (.iload 4, 2) := by decide +kernel
theorem dX6_gust_49 : decode cX6_gust 49 = .ok (.iaload, 1) := by decide +kernel
theorem dX6_gust_50 : decode cX6_gust 50 = .ok (.iconst 1, 1) := by decide +kernel
theorem dX6_gust_51 : decode cX6_gust 51 = .ok (.if_icmp .ne 35, 3) := by decide +kernel
theorem dX6_gust_54 : decode cX6_gust 54 = .ok (.aload_n 0, 1) := by decide +kernel
theorem dX6_gust_55 : decode cX6_gust 55 = .ok (.getfield 19, 3) := by decide +kernel
theorem dX6_gust_58 : decode cX6_gust 58 = .ok (.getfield 194, 3) := by decide +kernel
theorem dX6_gust_61 : decode cX6_gust 61 = .ok (.iload 4, 2) := by decide +kernel
theorem dX6_gust_63 : decode cX6_gust 63 = .ok (.iaload, 1) := by decide +kernel
theorem dX6_gust_64 : decode cX6_gust 64 = .ok (.iload_n 1, 1) := by decide +kernel
theorem dX6_gust_65 : decode cX6_gust 65 = .ok (.if_icmp .gt 21, 3) := by decide +kernel
theorem dX6_gust_68 : decode cX6_gust 68 = .ok (.iload_n 1, 1) := by decide +kernel
theorem dX6_gust_69 : decode cX6_gust 69 = .ok (.aload_n 0, 1) := by decide +kernel
theorem dX6_gust_70 : decode cX6_gust 70 = .ok (.getfield 19, 3) := by decide +kernel
theorem dX6_gust_73 : decode cX6_gust 73 = .ok (.getfield 197, 3) := by decide +kernel
theorem dX6_gust_76 : decode cX6_gust 76 = .ok (.iload 4, 2) := by decide +kernel
theorem dX6_gust_78 : decode cX6_gust 78 = .ok (.iaload, 1) := by decide +kernel
theorem dX6_gust_79 : decode cX6_gust 79 = .ok (.if_icmp .gt 7, 3) := by decide +kernel
theorem dX6_gust_82 : decode cX6_gust 82 = .ok (.iconst 1, 1) := by decide +kernel
theorem dX6_gust_83 : decode cX6_gust 83 = .ok (.goto 4, 3) := by decide +kernel
theorem dX6_gust_86 : decode cX6_gust 86 = .ok (.iconst 0, 1) := by decide +kernel
theorem dX6_gust_87 : decode cX6_gust 87 = .ok (.istore 5, 2) := by decide +kernel
theorem dX6_gust_89 : decode cX6_gust 89 = .ok (.iload 5, 2) := by decide +kernel
theorem dX6_gust_91 : decode cX6_gust 91 = .ok (.ifCond .eq 20, 3) := by decide +kernel
theorem dX6_gust_94 : decode cX6_gust 94 = .ok (.aload_n 0, 1) := by decide +kernel
theorem dX6_gust_95 : decode cX6_gust 95 = .ok (.iload 4, 2) := by decide +kernel
theorem dX6_gust_97 : decode cX6_gust 97 = .ok (.iload_n 2, 1) := by decide +kernel
theorem dX6_gust_98 : decode cX6_gust 98 = .ok (.invokevirtual 189, 3) := by decide +kernel
theorem dX6_gust_101 : decode cX6_gust 101 = .ok (.ifCond .ne 10, 3) := by decide +kernel
theorem dX6_gust_104 : decode cX6_gust 104 = .ok (.iload_n 3, 1) := by decide +kernel
theorem dX6_gust_105 : decode cX6_gust 105 = .ok (.iconst 1, 1) := by decide +kernel
theorem dX6_gust_106 : decode cX6_gust 106 = .ok (.iload 4, 2) := by decide +kernel
theorem dX6_gust_108 : decode cX6_gust 108 = .ok (.ishl, 1) := by decide +kernel
theorem dX6_gust_109 : decode cX6_gust 109 = .ok (.ior, 1) := by decide +kernel
theorem dX6_gust_110 : decode cX6_gust 110 = .ok (.istore_n 3, 1) := by decide +kernel
theorem dX6_gust_111 : decode cX6_gust 111 = .ok (.iinc 4 1, 3) := by decide +kernel
theorem dX6_gust_114 : decode cX6_gust 114 = .ok (.goto (-86), 3) := by decide +kernel
theorem dX6_gust_117 : decode cX6_gust 117 = .ok (.iload_n 3, 1) := by decide +kernel
theorem dX6_gust_118 : decode cX6_gust 118 = .ok (.ireturn, 1) := by decide +kernel
theorem dX6_hours_0 : decode cX6_hours 0 = .ok (.iload_n 1, 1) := by decide +kernel
theorem dX6_hours_1 : decode cX6_hours 1 = .ok (.iconst 0, 1) := by decide +kernel
theorem dX6_hours_2 : decode cX6_hours 2 = .ok (.bipush 60, 2) := by decide +kernel
theorem dX6_hours_4 : decode cX6_hours 4 = .ok (.invokestatic 69, 3) := by decide +kernel
theorem dX6_hours_7 : decode cX6_hours 7 = .ok (.ifCond .ne 12, 3) := by decide +kernel
theorem dX6_hours_10 : decode cX6_hours 10 = .ok (.iload_n 2, 1) := by decide +kernel
theorem dX6_hours_11 : decode cX6_hours 11 = .ok (.iconst 1, 1) := by decide +kernel
theorem dX6_hours_12 : decode cX6_hours 12 = .ok (.iconst 3, 1) := by decide +kernel
theorem dX6_hours_13 : decode cX6_hours 13 = .ok (.invokestatic 69, 3) := by decide +kernel
theorem dX6_hours_16 : decode cX6_hours 16 = .ok (.ifCond .eq 6, 3) := by decide +kernel
theorem dX6_hours_19 : decode cX6_hours 19 = .ok (.bipush (-2), 2) := by decide +kernel
theorem dX6_hours_21 : decode cX6_hours 21 = .ok (.ireturn, 1) := by decide +kernel
theorem dX6_hours_22 : decode cX6_hours 22 = .ok (.aload_n 0, 1) := by decide +kernel
theorem dX6_hours_23 : decode cX6_hours 23 = .ok (.iload_n 1, 1) := by decide +kernel
theorem dX6_hours_24 : decode cX6_hours 24 = .ok (.iload_n 2, 1) := by decide +kernel
theorem dX6_hours_25 : decode cX6_hours 25 = .ok (.invokevirtual 200, 3) := by decide +kernel
theorem dX6_hours_28 : decode cX6_hours 28 = .ok (.aload_n 0, 1) := by decide +kernel
theorem dX6_hours_29 : decode cX6_hours 29 = .ok (.getfield 47, 3) := by decide +kernel
theorem dX6_hours_32 : decode cX6_hours 32 = .ok (.getfield 204, 3) := by decide +kernel
theorem dX6_hours_35 : decode cX6_hours 35 = .ok (.ireturn, 1) := by decide +kernel
theorem dX6_crew_0 : decode cX6_crew 0 = .ok (.iload_n 1, 1) := by decide +kernel
theorem dX6_crew_1 : decode cX6_crew 1 = .ok (.iconst 0, 1) := by decide +kernel
theorem dX6_crew_2 : decode cX6_crew 2 = .ok (.bipush 60, 2) := by decide +kernel
theorem dX6_crew_4 : decode cX6_crew 4 = .ok (.invokestatic 69, 3) := by decide +kernel
theorem dX6_crew_7 : decode cX6_crew 7 = .ok (.ifCond .ne 23, 3) := by decide +kernel
theorem dX6_crew_10 : decode cX6_crew 10 = .ok (.iload_n 2, 1) := by decide +kernel
theorem dX6_crew_11 : decode cX6_crew 11 = .ok (.iconst 1, 1) := by decide +kernel
theorem dX6_crew_12 : decode cX6_crew 12 = .ok (.iconst 3, 1) := by decide +kernel
theorem dX6_crew_13 : decode cX6_crew 13 = .ok (.invokestatic 69, 3) := by decide +kernel
theorem dX6_crew_16 : decode cX6_crew 16 = .ok (.ifCond .ne 14, 3) := by decide +kernel
theorem dX6_crew_19 : decode cX6_crew 19 = .ok (.aload_n 0, 1) := by decide +kernel
theorem dX6_crew_20 : decode cX6_crew 20 = .ok (.getfield 19, 3) := by decide +kernel
theorem dX6_crew_23 : decode cX6_crew 23 = .ok (.iload_n 3, 1) := by decide +kernel
theorem dX6_crew_24 : decode cX6_crew 24 = .ok (.invokevirtual 93, 3) := by decide +kernel
theorem dX6_crew_27 : decode cX6_crew 27 = .ok (.ifCond .ne 6, 3) := by decide +kernel
theorem dX6_crew_30 : decode cX6_crew 30 = .ok (.bipush (-2), 2) := by decide +kernel
theorem dX6_crew_32 : decode cX6_crew 32 = .ok (.ireturn, 1) := by decide +kernel
theorem dX6_crew_33 : decode cX6_crew 33 = .ok (.aload_n 0, 1) := by decide +kernel
theorem dX6_crew_34 : decode cX6_crew 34 = .ok (.iload_n 1, 1) := by decide +kernel
theorem dX6_crew_35 : decode cX6_crew 35 = .ok (.iload_n 2, 1) := by decide +kernel
theorem dX6_crew_36 : decode cX6_crew 36 = .ok (.invokevirtual 200, 3) := by decide +kernel
theorem dX6_crew_39 : decode cX6_crew 39 = .ok (.aload_n 0, 1) := by decide +kernel
theorem dX6_crew_40 : decode cX6_crew 40 = .ok (.getfield 47, 3) := by decide +kernel
theorem dX6_crew_43 : decode cX6_crew 43 = .ok (.iload_n 3, 1) := by decide +kernel
theorem dX6_crew_44 : decode cX6_crew 44 = .ok (.invokevirtual 207, 3) := by decide +kernel
theorem dX6_crew_47 : decode cX6_crew 47 = .ok (.ireturn, 1) := by decide +kernel
theorem dX6_loads_0 : decode cX6_loads 0 = .ok (.iload_n 1, 1) := by decide +kernel
theorem dX6_loads_1 : decode cX6_loads 1 = .ok (.iconst 0, 1) := by decide +kernel
theorem dX6_loads_2 : decode cX6_loads 2 = .ok (.bipush 60, 2) := by decide +kernel
theorem dX6_loads_4 : decode cX6_loads 4 = .ok (.invokestatic 69, 3) := by decide +kernel
theorem dX6_loads_7 : decode cX6_loads 7 = .ok (.ifCond .ne 13, 3) := by decide +kernel
theorem dX6_loads_10 : decode cX6_loads 10 = .ok (.iload_n 2, 1) := by decide +kernel
theorem dX6_loads_11 : decode cX6_loads 11 = .ok (.iconst 1, 1) := by decide +kernel
theorem dX6_loads_12 : decode cX6_loads 12 = .ok (.ldc 88, 2) := by decide +kernel
theorem dX6_loads_14 : decode cX6_loads 14 = .ok (.invokestatic 69, 3) := by decide +kernel
theorem dX6_loads_17 : decode cX6_loads 17 = .ok (.ifCond .eq 6, 3) := by decide +kernel
theorem dX6_loads_20 : decode cX6_loads 20 = .ok (.bipush (-2), 2) := by decide +kernel
theorem dX6_loads_22 : decode cX6_loads 22 = .ok (.ireturn, 1) := by decide +kernel
theorem dX6_loads_23 : decode cX6_loads 23 = .ok (.iconst 0, 1) := by decide +kernel
theorem dX6_loads_24 : decode cX6_loads 24 = .ok (.istore_n 3, 1) := by decide +kernel
theorem dX6_loads_25 : decode cX6_loads 25 = .ok (.iconst 0, 1) := by decide +kernel
theorem dX6_loads_26 : decode cX6_loads 26 = .ok (.istore 4, 2) := by decide +kernel
theorem dX6_loads_28 : decode cX6_loads 28 = .ok (.iload 4, 2) := by decide +kernel
theorem dX6_loads_30 : decode cX6_loads 30 = .ok (.aload_n 0, 1) := by decide +kernel
theorem dX6_loads_31 : decode cX6_loads 31 = .ok (.getfield 19, 3) := by decide +kernel
theorem dX6_loads_34 : decode cX6_loads 34 = .ok (.getfield 193, 3) := by decide +kernel
theorem dX6_loads_37 : decode cX6_loads 37 = .ok (.if_icmp .ge 31, 3) := by decide +kernel
theorem dX6_loads_40 : decode cX6_loads 40 = .ok (.aload_n 0, 1) := by decide +kernel
theorem dX6_loads_41 : decode cX6_loads 41 = .ok (.getfield 19, 3) := by decide +kernel
theorem dX6_loads_44 : decode cX6_loads 44 = .ok (.iload 4, 2) := by decide +kernel
theorem dX6_loads_46 : decode cX6_loads 46 = .ok (.iload_n 1, 1) := by decide +kernel
theorem dX6_loads_47 : decode cX6_loads 47 = .ok (.invokevirtual 210, 3) := by decide +kernel
theorem dX6_loads_50 : decode cX6_loads 50 = .ok (.ifCond .eq 12, 3) := by decide +kernel
theorem dX6_loads_53 : decode cX6_loads 53 = .ok (.iload_n 3, 1) := by decide +kernel
theorem dX6_loads_54 : decode cX6_loads 54 = .ok (.aload_n 0, 1) := by decide +kernel
theorem dX6_loads_55 : decode cX6_loads 55 = .ok (.iload 4, 2) := by decide +kernel
theorem dX6_loads_57 : decode cX6_loads 57 = .ok (.invokevirtual 213, 3) := by decide +kernel
theorem dX6_loads_60 : decode cX6_loads 60 = .ok (.iadd, 1) := by decide +kernel
theorem dX6_loads_61 : decode cX6_loads 61 = .ok (.istore_n 3, 1) := by decide +kernel
theorem dX6_loads_62 : decode cX6_loads 62 = .ok (.iinc 4 1, 3) := by decide +kernel
theorem dX6_loads_65 : decode cX6_loads 65 = .ok (.goto (-37), 3) := by decide +kernel
theorem dX6_loads_68 : decode cX6_loads 68 = .ok (.iload_n 3, 1) := by decide +kernel
theorem dX6_loads_69 : decode cX6_loads 69 = .ok (.iload_n 2, 1) := by decide +kernel
theorem dX6_loads_70 : decode cX6_loads 70 = .ok (.invokestatic 168, 3) := by decide +kernel
theorem dX6_loads_73 : decode cX6_loads 73 = .ok (.ireturn, 1) := by decide +kernel
theorem dX6_count_0 : decode cX6_count 0 = .ok (.iload_n 1, 1) := by decide +kernel
theorem dX6_count_1 : decode cX6_count 1 = .ok (.iconst 0, 1) := by decide +kernel
theorem dX6_count_2 : decode cX6_count 2 = .ok (.iconst 5, 1) := by decide +kernel
theorem dX6_count_3 : decode cX6_count 3 = .ok (.invokestatic 69, 3) := by decide +kernel
theorem dX6_count_6 : decode cX6_count 6 = .ok (.ifCond .eq 8, 3) := by decide +kernel
theorem dX6_count_9 : decode cX6_count 9 = .ok (.bipush (-2), 2) := by decide +kernel
theorem dX6_count_11 : decode cX6_count 11 = .ok (.goto 8, 3) := by decide +kernel
theorem dX6_count_14 : decode cX6_count 14 = .ok (.aload_n 0, 1) := by decide +kernel
theorem dX6_count_15 : decode cX6_count 15 = .ok (.iload_n 1, 1) := by decide +kernel
theorem dX6_count_16 : decode cX6_count 16 = .ok (.invokevirtual 216, 3) := by decide +kernel
theorem dX6_count_19 : decode cX6_count 19 = .ok (.ireturn, 1) := by decide +kernel
theorem dX6_digest_0 : decode cX6_digest 0 = .ok (.ldc2_w 219, 3) := by decide +kernel
theorem dX6_digest_3 : decode cX6_digest 3 = .ok (.lstore_n 1, 1) := by decide +kernel
theorem dX6_digest_4 : decode cX6_digest 4 = .ok (.iconst 0, 1) := by decide +kernel
theorem dX6_digest_5 : decode cX6_digest 5 = .ok (.istore_n 3, 1) := by decide +kernel
theorem dX6_digest_6 : decode cX6_digest 6 = .ok (.iload_n 3, 1) := by decide +kernel
theorem dX6_digest_7 : decode cX6_digest 7 = .ok (.iconst 5, 1) := by decide +kernel
theorem dX6_digest_8 : decode cX6_digest 8 = .ok (.if_icmp .gt 22, 3) := by decide +kernel
theorem dX6_digest_11 : decode cX6_digest 11 = .ok (.ldc2_w 221, 3) := by decide +kernel
theorem dX6_digest_14 : decode cX6_digest 14 = .ok (.lload_n 1, 1) := by decide +kernel
theorem dX6_digest_15 : decode cX6_digest 15 = .ok (.lmul, 1) := by decide +kernel
theorem dX6_digest_16 : decode cX6_digest 16 = .ok (.aload_n 0, 1) := by decide +kernel
theorem dX6_digest_17 : decode cX6_digest 17 = .ok (.iload_n 3, 1) := by decide +kernel
theorem dX6_digest_18 : decode cX6_digest 18 = .ok (.invokevirtual 216, 3) := by decide +kernel
theorem dX6_digest_21 : decode cX6_digest 21 = .ok (.i2l, 1) := by decide +kernel
theorem dX6_digest_22 : decode cX6_digest 22 = .ok (.ladd, 1) := by decide +kernel
theorem dX6_digest_23 : decode cX6_digest 23 = .ok (.lstore_n 1, 1) := by decide +kernel
theorem dX6_digest_24 : decode cX6_digest 24 = .ok (.iinc 3 1, 3) := by decide +kernel
theorem dX6_digest_27 : decode cX6_digest 27 = .ok (.goto (-21), 3) := by decide +kernel
theorem dX6_digest_30 : decode cX6_digest 30 = .ok (.iconst 0, 1) := by decide +kernel
theorem dX6_digest_31 : decode cX6_digest 31 = .ok (.istore_n 3, 1) := by decide +kernel
theorem dX6_digest_32 : decode cX6_digest 32 = .ok (.iload_n 3, 1) := by decide +kernel
theorem dX6_digest_33 : decode cX6_digest 33 = .ok (.aload_n 0, 1) := by decide +kernel
theorem dX6_digest_34 : decode cX6_digest 34 = .ok (.getfield 19, 3) := by decide +kernel
theorem dX6_digest_37 : decode cX6_digest 37 = .ok (.getfield 193, 3) := by decide +kernel
theorem dX6_digest_40 : decode cX6_digest 40 = .ok (.if_icmp .ge 81, 3) := by decide +kernel
theorem dX6_digest_43 : decode cX6_digest 43 = .ok (.iconst 0, 1) := by decide +kernel
theorem dX6_digest_44 : decode cX6_digest 44 = .ok (.istore 4, 2) := by decide +kernel
theorem dX6_digest_46 : decode cX6_digest 46 = .ok (.iload 4, 2) := by decide +kernel
theorem dX6_digest_48 : decode cX6_digest 48 = .ok (.bipush 6, 2) := by decide +kernel
theorem dX6_digest_50 : decode cX6_digest 50 = .ok (.if_icmp .gt 27, 3) := by decide +kernel
theorem dX6_digest_53 : decode cX6_digest 53 = .ok (.ldc2_w 221, 3) := by decide +kernel
theorem dX6_digest_56 : decode cX6_digest 56 = .ok (.lload_n 1, 1) := by decide +kernel
theorem dX6_digest_57 : decode cX6_digest 57 = .ok (.lmul, 1) := by decide +kernel
theorem dX6_digest_58 : decode cX6_digest 58 = .ok (.aload_n 0, 1) := by decide +kernel
theorem dX6_digest_59 : decode cX6_digest 59 = .ok (.getfield 19, 3) := by decide +kernel
theorem dX6_digest_62 : decode cX6_digest 62 = .ok (.iload_n 3, 1) := by decide +kernel
theorem dX6_digest_63 : decode cX6_digest 63 = .ok (.iload 4, 2) := by decide +kernel
theorem dX6_digest_65 : decode cX6_digest 65 = .ok (.invokevirtual 136, 3) := by decide +kernel
theorem dX6_digest_68 : decode cX6_digest 68 = .ok (.i2l, 1) := by decide +kernel
theorem dX6_digest_69 : decode cX6_digest 69 = .ok (.ladd, 1) := by decide +kernel
theorem dX6_digest_70 : decode cX6_digest 70 = .ok (.lstore_n 1, 1) := by decide +kernel
theorem dX6_digest_71 : decode cX6_digest 71 = .ok (.iinc 4 1, 3) := by decide +kernel
theorem dX6_digest_74 : decode cX6_digest 74 = .ok (.goto (-28), 3) := by decide +kernel
theorem dX6_digest_77 : decode cX6_digest 77 = .ok (.iconst 0, 1) := by decide +kernel
theorem dX6_digest_78 : decode cX6_digest 78 = .ok (.istore 4, 2) := by decide +kernel
theorem dX6_digest_80 : decode cX6_digest 80 = .ok (.iload 4, 2) := by decide +kernel
theorem dX6_digest_82 : decode cX6_digest 82 = .ok (.bipush 6, 2) := by decide +kernel
theorem dX6_digest_84 : decode cX6_digest 84 = .ok (.if_icmp .ge 31, 3) := by decide +kernel
theorem dX6_digest_87 : decode cX6_digest 87 = .ok (.ldc2_w 221, 3) := by decide +kernel
theorem dX6_digest_90 : decode cX6_digest 90 = .ok (.lload_n 1, 1) := by decide +kernel
theorem dX6_digest_91 : decode cX6_digest 91 = .ok (.lmul, 1) := by decide +kernel
theorem dX6_digest_92 : decode cX6_digest 92 = .ok (.aload_n 0, 1) := by decide +kernel
theorem dX6_digest_93 : decode cX6_digest 93 = .ok (.getfield 19, 3) := by decide +kernel
theorem dX6_digest_96 : decode cX6_digest 96 = .ok (.getfield 99, 3) := by decide +kernel
theorem dX6_digest_99 : decode cX6_digest 99 = .ok (.iload_n 3, 1) := by decide +kernel
theorem dX6_digest_100 : decode cX6_digest 100 = .ok (.iload 4, 2) := by decide +kernel
theorem dX6_digest_102 : decode cX6_digest 102 = .ok (.invokestatic 102, 3) := by decide +kernel
theorem dX6_digest_105 : decode cX6_digest 105 = .ok (.iaload, 1) := by decide +kernel
theorem dX6_digest_106 : decode cX6_digest 106 = .ok (.i2l, 1) := by decide +kernel
theorem dX6_digest_107 : decode cX6_digest 107 = .ok (.ladd, 1) := by decide +kernel
theorem dX6_digest_108 : decode cX6_digest 108 = .ok (.lstore_n 1, 1) := by decide +kernel
theorem dX6_digest_109 : decode cX6_digest 109 = .ok (.iinc 4 1, 3) := by decide +kernel
theorem dX6_digest_112 : decode cX6_digest 112 = .ok (.goto (-32), 3) := by decide +kernel
theorem dX6_digest_115 : decode cX6_digest 115 = .ok (.iinc 3 1, 3) := by decide +kernel
theorem dX6_digest_118 : decode cX6_digest 118 = .ok (.goto (-86), 3) := by decide +kernel
theorem dX6_digest_121 : decode cX6_digest 121 = .ok (.iconst 0, 1) := by decide +kernel
theorem dX6_digest_122 : decode cX6_digest 122 = .ok (.istore_n 3, 1) := by decide +kernel
theorem dX6_digest_123 : decode cX6_digest 123 = .ok (.iload_n 3, 1) := by decide +kernel
theorem dX6_digest_124 : decode cX6_digest 124 = .ok (.bipush 6, 2) := by decide +kernel
theorem dX6_digest_126 : decode cX6_digest 126 = .ok (.if_icmp .ge 41, 3) := by decide +kernel
theorem dX6_digest_129 : decode cX6_digest 129 = .ok (.ldc2_w 221, 3) := by decide +kernel
theorem dX6_digest_132 : decode cX6_digest 132 = .ok (.ldc2_w 221, 3) := by decide +kernel
theorem dX6_digest_135 : decode cX6_digest 135 = .ok (.lload_n 1, 1) := by decide +kernel
theorem dX6_digest_136 : decode cX6_digest 136 = .ok (.lmul, 1) := by decide +kernel
theorem dX6_digest_137 : decode cX6_digest 137 = .ok (.aload_n 0, 1) := by decide +kernel
theorem dX6_digest_138 : decode cX6_digest 138 = .ok (.getfield 12, 3) := by decide +kernel
theorem dX6_digest_141 : decode cX6_digest 141 = .ok (.getfield 73, 3) := by decide +kernel
theorem dX6_digest_144 : decode cX6_digest 144 = .ok (.iload_n 3, 1) := by decide +kernel
theorem dX6_digest_145 : decode cX6_digest 145 = .ok (.iaload, 1) := by decide +kernel
theorem dX6_digest_146 : decode cX6_digest 146 = .ok (.i2l, 1) := by decide +kernel
theorem dX6_digest_147 : decode cX6_digest 147 = .ok (.ladd, 1) := by decide +kernel
theorem dX6_digest_148 : decode cX6_digest 148 = .ok (.lmul, 1) := by decide +kernel
theorem dX6_digest_149 : decode cX6_digest 149 = .ok (.aload_n 0, 1) := by decide +kernel
theorem dX6_digest_150 : decode cX6_digest 150 = .ok (.getfield 12, 3) := by decide +kernel
theorem dX6_digest_153 : decode cX6_digest 153 = .ok (.getfield 133, 3) := by decide +kernel
theorem dX6_digest_156 : decode cX6_digest 156 = .ok (.iload_n 3, 1) := by decide +kernel
theorem dX6_digest_157 : decode cX6_digest 157 = .ok (.iaload, 1) := by decide +kernel
theorem dX6_digest_158 : decode cX6_digest 158 = .ok (.i2l, 1) := by decide +kernel
theorem dX6_digest_159 : decode cX6_digest 159 = .ok (.ladd, 1) := by decide +kernel
theorem dX6_digest_160 : decode cX6_digest 160 = .ok (.lstore_n 1, 1) := by decide +kernel
theorem dX6_digest_161 : decode cX6_digest 161 = .ok (.iinc 3 1, 3) := by decide +kernel
theorem dX6_digest_164 : decode cX6_digest 164 = .ok (.goto (-41), 3) := by decide +kernel
theorem dX6_digest_167 : decode cX6_digest 167 = .ok (.iconst 0, 1) := by decide +kernel
theorem dX6_digest_168 : decode cX6_digest 168 = .ok (.istore_n 3, 1) := by decide +kernel
theorem dX6_digest_169 : decode cX6_digest 169 = .ok (.iload_n 3, 1) := by decide +kernel
theorem dX6_digest_170 : decode cX6_digest 170 = .ok (.aload_n 0, 1) := by decide +kernel
theorem dX6_digest_171 : decode cX6_digest 171 = .ok (.getfield 40, 3) := by decide +kernel
theorem dX6_digest_174 : decode cX6_digest 174 = .ok (.getfield 174, 3) := by decide +kernel
theorem dX6_digest_177 : decode cX6_digest 177 = .ok (.if_icmp .ge 41, 3) := by decide +kernel
theorem dX6_digest_180 : decode cX6_digest 180 = .ok (.ldc2_w 221, 3) := by decide +kernel
theorem dX6_digest_183 : decode cX6_digest 183 = .ok (.ldc2_w 221, 3) := by decide +kernel
theorem dX6_digest_186 : decode cX6_digest 186 = .ok (.lload_n 1, 1) := by decide +kernel
theorem dX6_digest_187 : decode cX6_digest 187 = .ok (.lmul, 1) := by decide +kernel
theorem dX6_digest_188 : decode cX6_digest 188 = .ok (.aload_n 0, 1) := by decide +kernel
theorem dX6_digest_189 : decode cX6_digest 189 = .ok (.getfield 40, 3) := by decide +kernel
theorem dX6_digest_192 : decode cX6_digest 192 = .ok (.getfield 223, 3) := by decide +kernel
theorem dX6_digest_195 : decode cX6_digest 195 = .ok (.iload_n 3, 1) := by decide +kernel
theorem dX6_digest_196 : decode cX6_digest 196 = .ok (.iaload, 1) := by decide +kernel
theorem dX6_digest_197 : decode cX6_digest 197 = .ok (.i2l, 1) := by decide +kernel
theorem dX6_digest_198 : decode cX6_digest 198 = .ok (.ladd, 1) := by decide +kernel
theorem dX6_digest_199 : decode cX6_digest 199 = .ok (.lmul, 1) := by decide +kernel
theorem dX6_digest_200 : decode cX6_digest 200 = .ok (.aload_n 0, 1) := by decide +kernel
theorem dX6_digest_201 : decode cX6_digest 201 = .ok (.getfield 40, 3) := by decide +kernel
theorem dX6_digest_204 : decode cX6_digest 204 = .ok (.getfield 226, 3) := by decide +kernel
theorem dX6_digest_207 : decode cX6_digest 207 = .ok (.iload_n 3, 1) := by decide +kernel
theorem dX6_digest_208 : decode cX6_digest 208 = .ok (.iaload, 1) := by decide +kernel
theorem dX6_digest_209 : decode cX6_digest 209 = .ok (.i2l, 1) := by decide +kernel
theorem dX6_digest_210 : decode cX6_digest 210 = .ok (.ladd, 1) := by decide +kernel
theorem dX6_digest_211 : decode cX6_digest 211 = .ok (.lstore_n 1, 1) := by decide +kernel
theorem dX6_digest_212 : decode cX6_digest 212 = .ok (.iinc 3 1, 3) := by decide +kernel
theorem dX6_digest_215 : decode cX6_digest 215 = .ok (.goto (-46), 3) := by decide +kernel
theorem dX6_digest_218 : decode cX6_digest 218 = .ok (.iconst 0, 1) := by decide +kernel
theorem dX6_digest_219 : decode cX6_digest 219 = .ok (.istore_n 3, 1) := by decide +kernel
theorem dX6_digest_220 : decode cX6_digest 220 = .ok (.iload_n 3, 1) := by decide +kernel
theorem dX6_digest_221 : decode cX6_digest 221 = .ok (.iconst 4, 1) := by decide +kernel
theorem dX6_digest_222 : decode cX6_digest 222 = .ok (.if_icmp .ge 23, 3) := by decide +kernel
theorem dX6_digest_225 : decode cX6_digest 225 = .ok (.ldc2_w 221, 3) := by decide +kernel
theorem dX6_digest_228 : decode cX6_digest 228 = .ok (.lload_n 1, 1) := by decide +kernel
theorem dX6_digest_229 : decode cX6_digest 229 = .ok (.lmul, 1) := by decide +kernel
theorem dX6_digest_230 : decode cX6_digest 230 = .ok (.aload_n 0, 1) := by decide +kernel
theorem dX6_digest_231 : decode cX6_digest 231 = .ok (.getfield 51, 3) := by decide +kernel
theorem dX6_digest_234 : decode cX6_digest 234 = .ok (.iload_n 3, 1) := by decide +kernel
theorem dX6_digest_235 : decode cX6_digest 235 = .ok (.iaload, 1) := by decide +kernel
theorem dX6_digest_236 : decode cX6_digest 236 = .ok (.i2l, 1) := by decide +kernel
theorem dX6_digest_237 : decode cX6_digest 237 = .ok (.ladd, 1) := by decide +kernel
theorem dX6_digest_238 : decode cX6_digest 238 = .ok (.lstore_n 1, 1) := by decide +kernel
theorem dX6_digest_239 : decode cX6_digest 239 = .ok (.iinc 3 1, 3) := by decide +kernel
theorem dX6_digest_242 : decode cX6_digest 242 = .ok (.goto (-22), 3) := by decide +kernel
theorem dX6_digest_245 : decode cX6_digest 245 = .ok (.lload_n 1, 1) := by decide +kernel
theorem dX6_digest_246 : decode cX6_digest 246 = .ok (.lreturn, 1) := by decide +kernel
theorem dX6_outside_0 : decode cX6_outside 0 = .ok (.iload_n 0, 1) := by decide +kernel
theorem dX6_outside_1 : decode cX6_outside 1 = .ok (.iload_n 1, 1) := by decide +kernel
theorem dX6_outside_2 : decode cX6_outside 2 = .ok (.if_icmp .lt 8, 3) := by decide +kernel
theorem dX6_outside_5 : decode cX6_outside 5 = .ok (.iload_n 0, 1) := by decide +kernel
theorem dX6_outside_6 : decode cX6_outside 6 = .ok (.iload_n 2, 1) := by decide +kernel
theorem dX6_outside_7 : decode cX6_outside 7 = .ok (.if_icmp .le 7, 3) := by decide +kernel
theorem dX6_outside_10 : decode cX6_outside 10 = .ok (.iconst 1, 1) := by decide +kernel
theorem dX6_outside_11 : decode cX6_outside 11 = .ok (.goto 4, 3) := by decide +kernel
theorem dX6_outside_14 : decode cX6_outside 14 = .ok (.iconst 0, 1) := by decide +kernel
theorem dX6_outside_15 : decode cX6_outside 15 = .ok (.ireturn, 1) := by decide +kernel
theorem dX6_isThing_0 : decode cX6_isThing 0 = .ok (.iload_n 0, 1) := by decide +kernel
theorem dX6_isThing_1 : decode cX6_isThing 1 = .ok (.ifCond .lt 13, 3) := by decide +kernel
theorem dX6_isThing_4 : decode cX6_isThing 4 = .ok (.iload_n 0, 1) := by decide +kernel
theorem dX6_isThing_5 : decode cX6_isThing 5 = .ok (.bipush 6, 2) := by decide +kernel
theorem dX6_isThing_7 : decode cX6_isThing 7 = .ok (.if_icmp .ge 7, 3) := by decide +kernel
theorem dX6_isThing_10 : decode cX6_isThing 10 = .ok (.iconst 1, 1) := by decide +kernel
theorem dX6_isThing_11 : decode cX6_isThing 11 = .ok (.goto 4, 3) := by decide +kernel
theorem dX6_isThing_14 : decode cX6_isThing 14 = .ok (.iconst 0, 1) := by decide +kernel
theorem dX6_isThing_15 : decode cX6_isThing 15 = .ok (.ireturn, 1) := by decide +kernel
theorem dX6_bit_0 : decode cX6_bit 0 = .ok (.iload_n 0, 1) := by decide +kernel
theorem dX6_bit_1 : decode cX6_bit 1 = .ok (.ifCond .eq 7, 3) := by decide +kernel
theorem dX6_bit_4 : decode cX6_bit 4 = .ok (.iconst 1, 1) := by decide +kernel
theorem dX6_bit_5 : decode cX6_bit 5 = .ok (.goto 4, 3) := by decide +kernel
theorem dX6_bit_8 : decode cX6_bit 8 = .ok (.iconst 0, 1) := by decide +kernel
theorem dX6_bit_9 : decode cX6_bit 9 = .ok (.ireturn, 1) := by decide +kernel
theorem dX6_cell_0 : decode cX6_cell 0 = .ok (.iload_n 0, 1) := by decide +kernel
theorem dX6_cell_1 : decode cX6_cell 1 = .ok (.bipush 6, 2) := by decide +kernel
theorem dX6_cell_3 : decode cX6_cell 3 = .ok (.imul, 1) := by decide +kernel
theorem dX6_cell_4 : decode cX6_cell 4 = .ok (.iload_n 1, 1) := by decide +kernel
theorem dX6_cell_5 : decode cX6_cell 5 = .ok (.iadd, 1) := by decide +kernel
theorem dX6_cell_6 : decode cX6_cell 6 = .ok (.ireturn, 1) := by decide +kernel
theorem dX6_cutUp_0 : decode cX6_cutUp 0 = .ok (.iload_n 1, 1) := by decide +kernel
theorem dX6_cutUp_1 : decode cX6_cutUp 1 = .ok (.iconst 1, 1) := by decide +kernel
theorem dX6_cutUp_2 : decode cX6_cutUp 2 = .ok (.if_icmp .ge 7, 3) := by decide +kernel
theorem dX6_cutUp_5 : decode cX6_cutUp 5 = .ok (.iconst 0, 1) := by decide +kernel
theorem dX6_cutUp_6 : decode cX6_cutUp 6 = .ok (.goto 10, 3) := by decide +kernel
theorem dX6_cutUp_9 : decode cX6_cutUp 9 = .ok (.iload_n 0, 1) := by decide +kernel
theorem dX6_cutUp_10 : decode cX6_cutUp 10 = .ok (.iload_n 1, 1) := by decide +kernel
theorem dX6_cutUp_11 : decode cX6_cutUp 11 = .ok (.iadd, 1) := by decide +kernel
theorem dX6_cutUp_12 : decode cX6_cutUp 12 = .ok (.iconst 1, 1) := by decide +kernel
theorem dX6_cutUp_13 : decode cX6_cutUp 13 = .ok (.isub, 1) := by decide +kernel
theorem dX6_cutUp_14 : decode cX6_cutUp 14 = .ok (.iload_n 1, 1) := by decide +kernel
theorem dX6_cutUp_15 : decode cX6_cutUp 15 = .ok (.idiv, 1) := by decide +kernel
theorem dX6_cutUp_16 : decode cX6_cutUp 16 = .ok (.ireturn, 1) := by decide +kernel
theorem dX6_goTogether_0 : decode cX6_goTogether 0 = .ok (.aload_n 0, 1) := by decide +kernel
theorem dX6_goTogether_1 : decode cX6_goTogether 1 = .ok (.iload_n 1, 1) := by decide +kernel
theorem dX6_goTogether_2 : decode cX6_goTogether 2 = .ok (.invokevirtual 117, 3) := by decide +kernel
theorem dX6_goTogether_5 : decode cX6_goTogether 5 = .ok (.aload_n 0, 1) := by decide +kernel
theorem dX6_goTogether_6 : decode cX6_goTogether 6 = .ok (.getfield 33, 3) := by decide +kernel
theorem dX6_goTogether_9 : decode cX6_goTogether 9 = .ok (.getfield 158, 3) := by decide +kernel
theorem dX6_goTogether_12 : decode cX6_goTogether 12 = .ok (.ifCond .ne 7, 3) := by decide +kernel
theorem dX6_goTogether_15 : decode cX6_goTogether 15 = .ok (.iconst 1, 1) := by decide +kernel
theorem dX6_goTogether_16 : decode cX6_goTogether 16 = .ok (.goto 4, 3) := by decide +kernel
theorem dX6_goTogether_19 : decode cX6_goTogether 19 = .ok (.iconst 0, 1) := by decide +kernel
theorem dX6_goTogether_20 : decode cX6_goTogether 20 = .ok (.ireturn, 1) := by decide +kernel
theorem dX6_countAnew_0 : decode cX6_countAnew 0 = .ok (.aload_n 0, 1) := by decide +kernel
theorem dX6_countAnew_1 : decode cX6_countAnew 1 = .ok (.getfield 33, 3) := by decide +kernel
theorem dX6_countAnew_4 : decode cX6_countAnew 4 = .ok (.invokevirtual 229, 3) := by decide +kernel
theorem dX6_countAnew_7 : decode cX6_countAnew 7 = .ok (.aload_n 0, 1) := by decide +kernel
theorem dX6_countAnew_8 : decode cX6_countAnew 8 = .ok (.iload_n 1, 1) := by decide +kernel
theorem dX6_countAnew_9 : decode cX6_countAnew 9 = .ok (.invokevirtual 155, 3) := by decide +kernel
theorem dX6_countAnew_12 : decode cX6_countAnew 12 = .ok (.return_, 1) := by decide +kernel
theorem dX6_countOn_0 : decode cX6_countOn 0 = .ok (.iload_n 1, 1) := by decide +kernel
theorem dX6_countOn_1 : decode cX6_countOn 1 = .ok (.aload_n 0, 1) := by decide +kernel
theorem dX6_countOn_2 : decode cX6_countOn 2 = .ok (.getfield 33, 3) := by decide +kernel
theorem dX6_countOn_5 : decode cX6_countOn 5 = .ok (.getfield 232, 3) := by decide +kernel
theorem dX6_countOn_8 : decode cX6_countOn 8 = .ok (.ixor, 1) := by decide +kernel
theorem dX6_countOn_9 : decode cX6_countOn 9 = .ok (.istore_n 2, 1) := by decide +kernel
theorem dX6_countOn_10 : decode cX6_countOn 10 = .ok (.iconst 0, 1) := by decide +kernel
theorem dX6_countOn_11 : decode cX6_countOn 11 = .ok (.istore_n 3, 1) := by decide +kernel
theorem dX6_countOn_12 : decode cX6_countOn 12 = .ok (.iload_n 3, 1) := by decide +kernel
theorem dX6_countOn_13 : decode cX6_countOn 13 = .ok (.aload_n 0, 1) := by decide +kernel
theorem dX6_countOn_14 : decode cX6_countOn 14 = .ok (.getfield 19, 3) := by decide +kernel
theorem dX6_countOn_17 : decode cX6_countOn 17 = .ok (.getfield 193, 3) := by decide +kernel
theorem dX6_countOn_20 : decode cX6_countOn 20 = .ok (.if_icmp .ge 37, 3) := by decide +kernel
theorem dX6_countOn_23 : decode cX6_countOn 23 = .ok (.iload_n 2, 1) := by decide +kernel
theorem dX6_countOn_24 : decode cX6_countOn 24 = .ok (.iload_n 3, 1) := by decide +kernel
theorem dX6_countOn_25 : decode cX6_countOn 25 = .ok (.ishr, 1) := by decide +kernel
theorem dX6_countOn_26 : decode cX6_countOn 26 = .ok (.iconst 1, 1) := by decide +kernel
theorem dX6_countOn_27 : decode cX6_countOn 27 = .ok (.iand, 1) := by decide +kernel
theorem dX6_countOn_28 : decode cX6_countOn 28 = .ok (.iconst 1, 1) := by decide +kernel
theorem dX6_countOn_29 : decode cX6_countOn 29 = .ok (.if_icmp .ne 22, 3) := by decide +kernel
theorem dX6_countOn_32 : decode cX6_countOn 32 = .ok (.aload_n 0, 1) := by decide +kernel
theorem dX6_countOn_33 : decode cX6_countOn 33 = .ok (.iload_n 3, 1) := by decide +kernel
theorem dX6_countOn_34 : decode cX6_countOn 34 = .ok (.iload_n 1, 1) := by decide +kernel
theorem dX6_countOn_35 : decode cX6_countOn 35 = .ok (.iload_n 3, 1) := by decide +kernel
theorem dX6_countOn_36 : decode cX6_countOn 36 = .ok (.ishr, 1) := by decide +kernel
theorem dX6_countOn_37 : decode cX6_countOn 37 = .ok (.iconst 1, 1) := by decide +kernel
theorem dX6_countOn_38 : decode cX6_countOn 38 = .ok (.iand, 1) := by decide +kernel
theorem dX6_countOn_39 : decode cX6_countOn 39 = .ok (.iconst 1, 1) := by decide +kernel
theorem dX6_countOn_40 : decode cX6_countOn 40 = .ok (.if_icmp .ne 7, 3) := by decide +kernel
theorem dX6_countOn_43 : decode cX6_countOn 43 = .ok (.iconst 1, 1) := by decide +kernel
theorem dX6_countOn_44 : decode cX6_countOn 44 = .ok (.goto 4, 3) := by decide +kernel
theorem dX6_countOn_47 : decode cX6_countOn 47 = .ok (.iconst (-1), 1) := by decide +kernel
theorem dX6_countOn_48 : decode cX6_countOn 48 = .ok (.invokevirtual 235, 3) := by decide +kernel
theorem dX6_countOn_51 : decode cX6_countOn 51 = .ok (.iinc 3 1, 3) := by decide +kernel
theorem dX6_countOn_54 : decode cX6_countOn 54 = .ok (.goto (-42), 3) := by decide +kernel
theorem dX6_countOn_57 : decode cX6_countOn 57 = .ok (.aload_n 0, 1) := by decide +kernel
theorem dX6_countOn_58 : decode cX6_countOn 58 = .ok (.getfield 33, 3) := by decide +kernel
theorem dX6_countOn_61 : decode cX6_countOn 61 = .ok (.iload_n 1, 1) := by decide +kernel
theorem dX6_countOn_62 : decode cX6_countOn 62 = .ok (.putfield 232, 3) := by decide +kernel
theorem dX6_countOn_65 : decode cX6_countOn 65 = .ok (.return_, 1) := by decide +kernel
theorem dX6_enter_0 : decode cX6_enter 0 = .ok (.aload_n 0, 1) := by decide +kernel
theorem dX6_enter_1 : decode cX6_enter 1 = .ok (.getfield 26, 3) := by decide +kernel
theorem dX6_enter_4 : decode cX6_enter 4 = .ok (.aload_n 0, 1) := by decide +kernel
theorem dX6_enter_5 : decode cX6_enter 5 = .ok (.getfield 19, 3) := by decide +kernel
theorem dX6_enter_8 : decode cX6_enter 8 = .ok (.getfield 197, 3) := by decide +kernel
theorem dX6_enter_11 : decode cX6_enter 11 = .ok (.iload_n 1, 1) := by decide +kernel
theorem dX6_enter_12 : decode cX6_enter 12 = .ok (.iaload, 1) := by decide +kernel
theorem dX6_enter_13 : decode cX6_enter 13 = .ok (.invokevirtual 238, 3) := by decide +kernel
theorem dX6_enter_16 : decode cX6_enter 16 = .ok (.istore_n 3, 1) := by decide +kernel
theorem dX6_enter_17 : decode cX6_enter 17 = .ok (.iconst 0, 1) := by decide +kernel
theorem dX6_enter_18 : decode cX6_enter 18 = .ok (.istore 4, 2) := by decide +kernel
theorem dX6_enter_20 : decode cX6_enter 20 = .ok (.iload 4, 2) := by decide +kernel
theorem dX6_enter_22 : decode cX6_enter 22 = .ok (.bipush 6, 2) := by decide +kernel
theorem dX6_enter_24 : decode cX6_enter 24 = .ok (.if_icmp .ge 103, 3) := by decide +kernel
theorem dX6_enter_27 : decode cX6_enter 27 = .ok (.aload_n 0, 1) := by decide +kernel
theorem dX6_enter_28 : decode cX6_enter 28 = .ok (.getfield 19, 3) := by decide +kernel
theorem dX6_enter_31 : decode cX6_enter 31 = .ok (.getfield 99, 3) := by decide +kernel
theorem dX6_enter_34 : decode cX6_enter 34 = .ok (.iload_n 1, 1) := by decide +kernel
theorem dX6_enter_35 : decode cX6_enter 35 = .ok (.iload 4, 2) := by decide +kernel
theorem dX6_enter_37 : decode cX6_enter 37 = .ok (.invokestatic 102, 3) := by decide +kernel
theorem dX6_enter_40 : decode cX6_enter 40 = .ok (.iaload, 1) := by decide +kernel
theorem dX6_enter_41 : decode cX6_enter 41 = .ok (.istore 5, 2) := by decide +kernel
theorem dX6_enter_43 : decode cX6_enter 43 = .ok (.aload_n 0, 1) := by decide +kernel
theorem dX6_enter_44 : decode cX6_enter 44 = .ok (.getfield 19, 3) := by decide +kernel
theorem dX6_enter_47 : decode cX6_enter 47 = .ok (.getfield 197, 3) := by decide +kernel
theorem dX6_enter_50 : decode cX6_enter 50 = .ok (.iload_n 1, 1) := by decide +kernel
theorem dX6_enter_51 : decode cX6_enter 51 = .ok (.iaload, 1) := by decide +kernel
theorem dX6_enter_52 : decode cX6_enter 52 = .ok (.iload_n 3, 1) := by decide +kernel
theorem dX6_enter_53 : decode cX6_enter 53 = .ok (.ifCond .eq 16, 3) := by decide +kernel
theorem dX6_enter_56 : decode cX6_enter 56 = .ok (.aload_n 0, 1) := by decide +kernel
theorem dX6_enter_57 : decode cX6_enter 57 = .ok (.getfield 12, 3) := by decide +kernel
theorem dX6_enter_60 : decode cX6_enter 60 = .ok (.getfield 76, 3) := by decide +kernel
theorem dX6_enter_63 : decode cX6_enter 63 = .ok (.iload 4, 2) := by decide +kernel
theorem dX6_enter_65 : decode cX6_enter 65 = .ok (.iaload, 1) := by decide +kernel
theorem dX6_enter_66 : decode cX6_enter 66 = .ok (.goto 4, 3) := by decide +kernel
theorem dX6_enter_69 : decode cX6_enter 69 = .ok (.iconst 0, 1) := by decide +kernel
theorem dX6_enter_70 : decode cX6_enter 70 = .ok (.iadd, 1) := by decide +kernel
theorem dX6_enter_71 : decode cX6_enter 71 = .ok (.istore 6, 2) := by decide +kernel
theorem dX6_enter_73 : decode cX6_enter 73 = .ok (.iload 5, 2) := by decide +kernel
theorem dX6_enter_75 : decode cX6_enter 75 = .ok (.ifCond .le 46, 3) := by decide +kernel
theorem dX6_enter_78 : decode cX6_enter 78 = .ok (.aload_n 0, 1) := by decide +kernel
theorem dX6_enter_79 : decode cX6_enter 79 = .ok (.getfield 33, 3) := by decide +kernel
theorem dX6_enter_82 : decode cX6_enter 82 = .ok (.iload 4, 2) := by decide +kernel
theorem dX6_enter_84 : decode cX6_enter 84 = .ok (.aload_n 0, 1) := by decide +kernel
theorem dX6_enter_85 : decode cX6_enter 85 = .ok (.getfield 19, 3) := by decide +kernel
theorem dX6_enter_88 : decode cX6_enter 88 = .ok (.getfield 194, 3) := by decide +kernel
theorem dX6_enter_91 : decode cX6_enter 91 = .ok (.iload_n 1, 1) := by decide +kernel
theorem dX6_enter_92 : decode cX6_enter 92 = .ok (.iaload, 1) := by decide +kernel
theorem dX6_enter_93 : decode cX6_enter 93 = .ok (.iload 6, 2) := by decide +kernel
theorem dX6_enter_95 : decode cX6_enter 95 = .ok (.iload_n 2, 1) := by decide +kernel
theorem dX6_enter_96 : decode cX6_enter 96 = .ok (.iload 5, 2) := by decide +kernel
theorem dX6_enter_98 : decode cX6_enter 98 = .ok (.imul, 1) := by decide +kernel
theorem dX6_enter_99 : decode cX6_enter 99 = .ok (.aload_n 0, 1) := by decide +kernel
theorem dX6_enter_100 : decode cX6_enter 100 = .ok (.getfield 12, 3) := by decide +kernel
theorem dX6_enter_103 : decode cX6_enter 103 = .ok (.iload 4, 2) := by decide +kernel
theorem dX6_enter_105 : decode cX6_enter 105 = .ok (.invokevirtual 141, 3) := by decide +kernel
theorem dX6_enter_108 : decode cX6_enter 108 = .ok (.aload_n 0, 1) := by decide +kernel
theorem dX6_enter_109 : decode cX6_enter 109 = .ok (.getfield 12, 3) := by decide +kernel
theorem dX6_enter_112 : decode cX6_enter 112 = .ok (.getfield 82, 3) := by decide +kernel
theorem dX6_enter_115 : decode cX6_enter 115 = .ok (.iload 4, 2) := by decide +kernel
theorem dX6_enter_117 : decode cX6_enter 117 = .ok (.iaload, 1) := by decide +kernel
theorem dX6_enter_118 : decode cX6_enter 118 = .ok (.invokevirtual 241, 3) := by decide +kernel
theorem dX6_enter_121 : decode cX6_enter 121 = .ok (.iinc 4 1, 3) := by decide +kernel
theorem dX6_enter_124 : decode cX6_enter 124 = .ok (.goto (-104), 3) := by decide +kernel
theorem dX6_enter_127 : decode cX6_enter 127 = .ok (.return_, 1) := by decide +kernel
theorem dX6_stands_0 : decode cX6_stands 0 = .ok (.iload_n 2, 1) := by decide +kernel
theorem dX6_stands_1 : decode cX6_stands 1 = .ok (.iload_n 2, 1) := by decide +kernel
theorem dX6_stands_2 : decode cX6_stands 2 = .ok (.imul, 1) := by decide +kernel
theorem dX6_stands_3 : decode cX6_stands 3 = .ok (.aload_n 0, 1) := by decide +kernel
theorem dX6_stands_4 : decode cX6_stands 4 = .ok (.getfield 19, 3) := by decide +kernel
theorem dX6_stands_7 : decode cX6_stands 7 = .ok (.getfield 183, 3) := by decide +kernel
theorem dX6_stands_10 : decode cX6_stands 10 = .ok (.iload_n 1, 1) := by decide +kernel
theorem dX6_stands_11 : decode cX6_stands 11 = .ok (.iaload, 1) := by decide +kernel
theorem dX6_stands_12 : decode cX6_stands 12 = .ok (.imul, 1) := by decide +kernel
theorem dX6_stands_13 : decode cX6_stands 13 = .ok (.aload_n 0, 1) := by decide +kernel
theorem dX6_stands_14 : decode cX6_stands 14 = .ok (.getfield 51, 3) := by decide +kernel
theorem dX6_stands_17 : decode cX6_stands 17 = .ok (.aload_n 0, 1) := by decide +kernel
theorem dX6_stands_18 : decode cX6_stands 18 = .ok (.getfield 19, 3) := by decide +kernel
theorem dX6_stands_21 : decode cX6_stands 21 = .ok (.getfield 180, 3) := by decide +kernel
theorem dX6_stands_24 : decode cX6_stands 24 = .ok (.iload_n 1, 1) := by decide +kernel
theorem dX6_stands_25 : decode cX6_stands 25 = .ok (.iaload, 1) := by decide +kernel
theorem dX6_stands_26 : decode cX6_stands 26 = .ok (.iaload, 1) := by decide +kernel
theorem dX6_stands_27 : decode cX6_stands 27 = .ok (.aload_n 0, 1) := by decide +kernel
theorem dX6_stands_28 : decode cX6_stands 28 = .ok (.getfield 19, 3) := by decide +kernel
theorem dX6_stands_31 : decode cX6_stands 31 = .ok (.getfield 186, 3) := by decide +kernel
theorem dX6_stands_34 : decode cX6_stands 34 = .ok (.iload_n 1, 1) := by decide +kernel
theorem dX6_stands_35 : decode cX6_stands 35 = .ok (.iaload, 1) := by decide +kernel
theorem dX6_stands_36 : decode cX6_stands 36 = .ok (.imul, 1) := by decide +kernel
theorem dX6_stands_37 : decode cX6_stands 37 = .ok (.if_icmp .gt 7, 3) := by decide +kernel
theorem dX6_stands_40 : decode cX6_stands 40 = .ok (.iconst 1, 1) := by decide +kernel
theorem dX6_stands_41 : decode cX6_stands 41 = .ok (.goto 4, 3) := by decide +kernel
theorem dX6_stands_44 : decode cX6_stands 44 = .ok (.iconst 0, 1) := by decide +kernel
theorem dX6_stands_45 : decode cX6_stands 45 = .ok (.ireturn, 1) := by decide +kernel
theorem dX6_sendCrews_0 : decode cX6_sendCrews 0 = .ok (.aload_n 0, 1) := by decide +kernel
theorem dX6_sendCrews_1 : decode cX6_sendCrews 1 = .ok (.getfield 47, 3) := by decide +kernel
theorem dX6_sendCrews_4 : decode cX6_sendCrews 4 = .ok (.invokevirtual 244, 3) := by decide +kernel
theorem dX6_sendCrews_7 : decode cX6_sendCrews 7 = .ok (.iconst 0, 1) := by decide +kernel
theorem dX6_sendCrews_8 : decode cX6_sendCrews 8 = .ok (.istore_n 3, 1) := by decide +kernel
theorem dX6_sendCrews_9 : decode cX6_sendCrews 9 = .ok (.iload_n 3, 1) := by decide +kernel
theorem dX6_sendCrews_10 : decode cX6_sendCrews 10 = .ok (.aload_n 0, 1) := by decide +kernel
theorem dX6_sendCrews_11 : decode cX6_sendCrews 11 = .ok (.getfield 19, 3) := by decide +kernel
theorem dX6_sendCrews_14 : decode cX6_sendCrews 14 = .ok (.getfield 193, 3) := by decide +kernel
theorem dX6_sendCrews_17 : decode cX6_sendCrews 17 = .ok (.if_icmp .ge 42, 3) := by decide +kernel
theorem dX6_sendCrews_20 : decode cX6_sendCrews 20 = .ok (.aload_n 0, 1) := by decide +kernel
theorem dX6_sendCrews_21 : decode cX6_sendCrews 21 = .ok (.getfield 19, 3) := by decide +kernel
theorem dX6_sendCrews_24 : decode cX6_sendCrews 24 = .ok (.iload_n 3, 1) := by decide +kernel
theorem dX6_sendCrews_25 : decode cX6_sendCrews 25 = .ok (.iload_n 1, 1) := by decide +kernel
theorem dX6_sendCrews_26 : decode cX6_sendCrews 26 = .ok (.invokevirtual 210, 3) := by decide +kernel
theorem dX6_sendCrews_29 : decode cX6_sendCrews 29 = .ok (.ifCond .eq 24, 3) := by decide +kernel
theorem dX6_sendCrews_32 : decode cX6_sendCrews 32 = .ok (.aload_n 0, 1) := by decide +kernel
theorem dX6_sendCrews_33 : decode cX6_sendCrews 33 = .ok (.getfield 47, 3) := by decide +kernel
theorem dX6_sendCrews_36 : decode cX6_sendCrews 36 = .ok (.iload_n 3, 1) := by decide +kernel
theorem dX6_sendCrews_37 : decode cX6_sendCrews 37 = .ok (.aload_n 0, 1) := by decide +kernel
theorem dX6_sendCrews_38 : decode cX6_sendCrews 38 = .ok (.getfield 19, 3) := by decide +kernel
theorem dX6_sendCrews_41 : decode cX6_sendCrews 41 = .ok (.getfield 183, 3) := by decide +kernel
theorem dX6_sendCrews_44 : decode cX6_sendCrews 44 = .ok (.iload_n 3, 1) := by decide +kernel
theorem dX6_sendCrews_45 : decode cX6_sendCrews 45 = .ok (.iaload, 1) := by decide +kernel
theorem dX6_sendCrews_46 : decode cX6_sendCrews 46 = .ok (.iconst 2, 1) := by decide +kernel
theorem dX6_sendCrews_47 : decode cX6_sendCrews 47 = .ok (.imul, 1) := by decide +kernel
theorem dX6_sendCrews_48 : decode cX6_sendCrews 48 = .ok (.iconst 1, 1) := by decide +kernel
theorem dX6_sendCrews_49 : decode cX6_sendCrews 49 = .ok (.iadd, 1) := by decide +kernel
theorem dX6_sendCrews_50 : decode cX6_sendCrews 50 = .ok (.invokevirtual 245, 3) := by decide +kernel
theorem dX6_sendCrews_53 : decode cX6_sendCrews 53 = .ok (.iinc 3 1, 3) := by decide +kernel
theorem dX6_sendCrews_56 : decode cX6_sendCrews 56 = .ok (.goto (-47), 3) := by decide +kernel
theorem dX6_sendCrews_59 : decode cX6_sendCrews 59 = .ok (.aload_n 0, 1) := by decide +kernel
theorem dX6_sendCrews_60 : decode cX6_sendCrews 60 = .ok (.getfield 47, 3) := by decide +kernel
theorem dX6_sendCrews_63 : decode cX6_sendCrews 63 = .ok (.iload_n 2, 1) := by decide +kernel
theorem dX6_sendCrews_64 : decode cX6_sendCrews 64 = .ok (.invokevirtual 248, 3) := by decide +kernel
theorem dX6_sendCrews_67 : decode cX6_sendCrews 67 = .ok (.return_, 1) := by decide +kernel
theorem dX6_weightOf_0 : decode cX6_weightOf 0 = .ok (.iconst 0, 1) := by decide +kernel
theorem dX6_weightOf_1 : decode cX6_weightOf 1 = .ok (.istore_n 2, 1) := by decide +kernel
theorem dX6_weightOf_2 : decode cX6_weightOf 2 = .ok (.iconst 0, 1) := by decide +kernel
theorem dX6_weightOf_3 : decode cX6_weightOf 3 = .ok (.istore_n 3, 1) := by decide +kernel
theorem dX6_weightOf_4 : decode cX6_weightOf 4 = .ok (.iload_n 3, 1) := by decide +kernel
theorem dX6_weightOf_5 : decode cX6_weightOf 5 = .ok (.bipush 6, 2) := by decide +kernel
theorem dX6_weightOf_7 : decode cX6_weightOf 7 = .ok (.if_icmp .ge 35, 3) := by decide +kernel
theorem dX6_weightOf_10 : decode cX6_weightOf 10 = .ok (.iload_n 2, 1) := by decide +kernel
theorem dX6_weightOf_11 : decode cX6_weightOf 11 = .ok (.aload_n 0, 1) := by decide +kernel
theorem dX6_weightOf_12 : decode cX6_weightOf 12 = .ok (.getfield 19, 3) := by decide +kernel
theorem dX6_weightOf_15 : decode cX6_weightOf 15 = .ok (.getfield 99, 3) := by decide +kernel
theorem dX6_weightOf_18 : decode cX6_weightOf 18 = .ok (.iload_n 1, 1) := by decide +kernel
theorem dX6_weightOf_19 : decode cX6_weightOf 19 = .ok (.iload_n 3, 1) := by decide +kernel
theorem dX6_weightOf_20 : decode cX6_weightOf 20 = .ok (.invokestatic 102, 3) := by decide +kernel
theorem dX6_weightOf_23 : decode cX6_weightOf 23 = .ok (.iaload, 1) := by decide +kernel
theorem dX6_weightOf_24 : decode cX6_weightOf 24 = .ok (.aload_n 0, 1) := by decide +kernel
theorem dX6_weightOf_25 : decode cX6_weightOf 25 = .ok (.getfield 12, 3) := by decide +kernel
theorem dX6_weightOf_28 : decode cX6_weightOf 28 = .ok (.getfield 79, 3) := by decide +kernel
theorem dX6_weightOf_31 : decode cX6_weightOf 31 = .ok (.iload_n 3, 1) := by decide +kernel
theorem dX6_weightOf_32 : decode cX6_weightOf 32 = .ok (.iaload, 1) := by decide +kernel
theorem dX6_weightOf_33 : decode cX6_weightOf 33 = .ok (.imul, 1) := by decide +kernel
theorem dX6_weightOf_34 : decode cX6_weightOf 34 = .ok (.iadd, 1) := by decide +kernel
theorem dX6_weightOf_35 : decode cX6_weightOf 35 = .ok (.istore_n 2, 1) := by decide +kernel
theorem dX6_weightOf_36 : decode cX6_weightOf 36 = .ok (.iinc 3 1, 3) := by decide +kernel
theorem dX6_weightOf_39 : decode cX6_weightOf 39 = .ok (.goto (-35), 3) := by decide +kernel
theorem dX6_weightOf_42 : decode cX6_weightOf 42 = .ok (.iload_n 2, 1) := by decide +kernel
theorem dX6_weightOf_43 : decode cX6_weightOf 43 = .ok (.ireturn, 1) := by decide +kernel
theorem dX6_total_0 : decode cX6_total 0 = .ok (.iload_n 1, 1) := by decide +kernel
theorem dX6_total_1 : decode cX6_total 1 = .ok (.tableswitch 79 0 4 #[35, 43, 55, 63, 71], 35) := by decide +kernel
theorem dX6_total_36 : decode cX6_total 36 = .ok (.aload_n 0, 1) := by decide +kernel
theorem dX6_total_37 : decode cX6_total 37 = .ok (.getfield 19, 3) := by decide +kernel
theorem dX6_total_40 : decode cX6_total 40 = .ok (.getfield 193, 3) := by decide +kernel
theorem dX6_total_43 : decode cX6_total 43 = .ok (.ireturn, 1) := by decide +kernel
theorem dX6_total_44 : decode cX6_total 44 = .ok (.aload_n 0, 1) := by decide +kernel
theorem dX6_total_45 : decode cX6_total 45 = .ok (.getfield 19, 3) := by decide +kernel
theorem dX6_total_48 : decode cX6_total 48 = .ok (.iconst 1, 1) := by decide +kernel
theorem dX6_total_49 : decode cX6_total 49 = .ok (.invokevirtual 110, 3) := by decide +kernel
theorem dX6_total_52 : decode cX6_total 52 = .ok (.invokestatic 163, 3) := by decide +kernel
theorem dX6_total_55 : decode cX6_total 55 = .ok (.ireturn, 1) := by decide +kernel
theorem dX6_total_56 : decode cX6_total 56 = .ok (.aload_n 0, 1) := by decide +kernel
theorem dX6_total_57 : decode cX6_total 57 = .ok (.getfield 40, 3) := by decide +kernel
theorem dX6_total_60 : decode cX6_total 60 = .ok (.getfield 174, 3) := by decide +kernel
theorem dX6_total_63 : decode cX6_total 63 = .ok (.ireturn, 1) := by decide +kernel
theorem dX6_total_64 : decode cX6_total 64 = .ok (.aload_n 0, 1) := by decide +kernel
theorem dX6_total_65 : decode cX6_total 65 = .ok (.getfield 26, 3) := by decide +kernel
theorem dX6_total_68 : decode cX6_total 68 = .ok (.getfield 251, 3) := by decide +kernel
theorem dX6_total_71 : decode cX6_total 71 = .ok (.ireturn, 1) := by decide +kernel
theorem dX6_total_72 : decode cX6_total 72 = .ok (.aload_n 0, 1) := by decide +kernel
theorem dX6_total_73 : decode cX6_total 73 = .ok (.getfield 12, 3) := by decide +kernel
theorem dX6_total_76 : decode cX6_total 76 = .ok (.invokevirtual 254, 3) := by decide +kernel
theorem dX6_total_79 : decode cX6_total 79 = .ok (.ireturn, 1) := by decide +kernel
theorem dX6_total_80 : decode cX6_total 80 = .ok (.aload_n 0, 1) := by decide +kernel
theorem dX6_total_81 : decode cX6_total 81 = .ok (.getfield 61, 3) := by decide +kernel
theorem dX6_total_84 : decode cX6_total 84 = .ok (.ireturn, 1) := by decide +kernel
theorem dJ6_bitCount_0f7a4_0 : decode cJ6_bitCount_0f7a4 0 = .ok (.iload_n 0, 1) := by decide +kernel
theorem dJ6_bitCount_0f7a4_1 : decode cJ6_bitCount_0f7a4 1 = .ok (.iload_n 0, 1) := by decide +kernel
theorem dJ6_bitCount_0f7a4_2 : decode cJ6_bitCount_0f7a4 2 = .ok (.iconst 1, 1) := by decide +kernel
theorem dJ6_bitCount_0f7a4_3 : decode cJ6_bitCount_0f7a4 3 = .ok (.iushr, 1) := by decide +kernel
theorem dJ6_bitCount_0f7a4_4 : decode cJ6_bitCount_0f7a4 4 = .ok (.ldc_w 265, 3) := by decide +kernel
theorem dJ6_bitCount_0f7a4_7 : decode cJ6_bitCount_0f7a4 7 = .ok (.iand, 1) := by decide +kernel
theorem dJ6_bitCount_0f7a4_8 : decode cJ6_bitCount_0f7a4 8 = .ok (.isub, 1) := by decide +kernel
theorem dJ6_bitCount_0f7a4_9 : decode cJ6_bitCount_0f7a4 9 = .ok (.istore_n 0, 1) := by decide +kernel
theorem dJ6_bitCount_0f7a4_10 : decode cJ6_bitCount_0f7a4 10 = .ok (.iload_n 0, 1) := by decide +kernel
theorem dJ6_bitCount_0f7a4_11 : decode cJ6_bitCount_0f7a4 11 = .ok (.ldc_w 266, 3) := by decide +kernel
theorem dJ6_bitCount_0f7a4_14 : decode cJ6_bitCount_0f7a4 14 = .ok (.iand, 1) := by decide +kernel
theorem dJ6_bitCount_0f7a4_15 : decode cJ6_bitCount_0f7a4 15 = .ok (.iload_n 0, 1) := by decide +kernel
theorem dJ6_bitCount_0f7a4_16 : decode cJ6_bitCount_0f7a4 16 = .ok (.iconst 2, 1) := by decide +kernel
theorem dJ6_bitCount_0f7a4_17 : decode cJ6_bitCount_0f7a4 17 = .ok (.iushr, 1) := by decide +kernel
theorem dJ6_bitCount_0f7a4_18 : decode cJ6_bitCount_0f7a4 18 = .ok (.ldc_w 266, 3) := by decide +kernel
theorem dJ6_bitCount_0f7a4_21 : decode cJ6_bitCount_0f7a4 21 = .ok (.iand, 1) := by decide +kernel
theorem dJ6_bitCount_0f7a4_22 : decode cJ6_bitCount_0f7a4 22 = .ok (.iadd, 1) := by decide +kernel
theorem dJ6_bitCount_0f7a4_23 : decode cJ6_bitCount_0f7a4 23 = .ok (.istore_n 0, 1) := by decide +kernel
theorem dJ6_bitCount_0f7a4_24 : decode cJ6_bitCount_0f7a4 24 = .ok (.iload_n 0, 1) := by decide +kernel
theorem dJ6_bitCount_0f7a4_25 : decode cJ6_bitCount_0f7a4 25 = .ok (.iload_n 0, 1) := by decide +kernel
theorem dJ6_bitCount_0f7a4_26 : decode cJ6_bitCount_0f7a4 26 = .ok (.iconst 4, 1) := by decide +kernel
theorem dJ6_bitCount_0f7a4_27 : decode cJ6_bitCount_0f7a4 27 = .ok (.iushr, 1) := by decide +kernel
theorem dJ6_bitCount_0f7a4_28 : decode cJ6_bitCount_0f7a4 28 = .ok (.iadd, 1) := by decide +kernel
theorem dJ6_bitCount_0f7a4_29 : decode cJ6_bitCount_0f7a4 29 = .ok (.ldc_w 267, 3) := by decide +kernel
theorem dJ6_bitCount_0f7a4_32 : decode cJ6_bitCount_0f7a4 32 = .ok (.iand, 1) := by decide +kernel
theorem dJ6_bitCount_0f7a4_33 : decode cJ6_bitCount_0f7a4 33 = .ok (.istore_n 0, 1) := by decide +kernel
theorem dJ6_bitCount_0f7a4_34 : decode cJ6_bitCount_0f7a4 34 = .ok (.iload_n 0, 1) := by decide +kernel
theorem dJ6_bitCount_0f7a4_35 : decode cJ6_bitCount_0f7a4 35 = .ok (.iload_n 0, 1) := by decide +kernel
theorem dJ6_bitCount_0f7a4_36 : decode cJ6_bitCount_0f7a4 36 = .ok (.bipush 8, 2) := by decide +kernel
theorem dJ6_bitCount_0f7a4_38 : decode cJ6_bitCount_0f7a4 38 = .ok (.iushr, 1) := by decide +kernel
theorem dJ6_bitCount_0f7a4_39 : decode cJ6_bitCount_0f7a4 39 = .ok (.iadd, 1) := by decide +kernel
theorem dJ6_bitCount_0f7a4_40 : decode cJ6_bitCount_0f7a4 40 = .ok (.istore_n 0, 1) := by decide +kernel
theorem dJ6_bitCount_0f7a4_41 : decode cJ6_bitCount_0f7a4 41 = .ok (.iload_n 0, 1) := by decide +kernel
theorem dJ6_bitCount_0f7a4_42 : decode cJ6_bitCount_0f7a4 42 = .ok (.iload_n 0, 1) := by decide +kernel
theorem dJ6_bitCount_0f7a4_43 : decode cJ6_bitCount_0f7a4 43 = .ok (.bipush 16, 2) := by decide +kernel
theorem dJ6_bitCount_0f7a4_45 : decode cJ6_bitCount_0f7a4 45 = .ok (.iushr, 1) := by decide +kernel
theorem dJ6_bitCount_0f7a4_46 : decode cJ6_bitCount_0f7a4 46 = .ok (.iadd, 1) := by decide +kernel
theorem dJ6_bitCount_0f7a4_47 : decode cJ6_bitCount_0f7a4 47 = .ok (.istore_n 0, 1) := by decide +kernel
theorem dJ6_bitCount_0f7a4_48 : decode cJ6_bitCount_0f7a4 48 = .ok (.iload_n 0, 1) := by decide +kernel
theorem dJ6_bitCount_0f7a4_49 : decode cJ6_bitCount_0f7a4 49 = .ok (.bipush 63, 2) := by decide +kernel
theorem dJ6_bitCount_0f7a4_51 : decode cJ6_bitCount_0f7a4 51 = .ok (.iand, 1) := by decide +kernel
theorem dJ6_bitCount_0f7a4_52 : decode cJ6_bitCount_0f7a4 52 = .ok (.ireturn, 1) := by decide +kernel
theorem dJ9_max_7cf53_0 : decode cJ9_max_7cf53 0 = .ok (.iload_n 0, 1) := by decide +kernel
theorem dJ9_max_7cf53_1 : decode cJ9_max_7cf53 1 = .ok (.iload_n 1, 1) := by decide +kernel
theorem dJ9_max_7cf53_2 : decode cJ9_max_7cf53 2 = .ok (.if_icmp .lt 7, 3) := by decide +kernel
theorem dJ9_max_7cf53_5 : decode cJ9_max_7cf53 5 = .ok (.iload_n 0, 1) := by decide +kernel
theorem dJ9_max_7cf53_6 : decode cJ9_max_7cf53 6 = .ok (.goto 4, 3) := by decide +kernel
theorem dJ9_max_7cf53_9 : decode cJ9_max_7cf53 9 = .ok (.iload_n 1, 1) := by decide +kernel
theorem dJ9_max_7cf53_10 : decode cJ9_max_7cf53 10 = .ok (.ireturn, 1) := by decide +kernel
theorem dJ7_fill_53178_0 : decode cJ7_fill_53178 0 = .ok (.iconst 0, 1) := by decide +kernel
theorem dJ7_fill_53178_1 : decode cJ7_fill_53178 1 = .ok (.istore_n 2, 1) := by decide +kernel
theorem dJ7_fill_53178_2 : decode cJ7_fill_53178 2 = .ok (.aload_n 0, 1) := by decide +kernel
theorem dJ7_fill_53178_3 : decode cJ7_fill_53178 3 = .ok (.arraylength, 1) := by decide +kernel
theorem dJ7_fill_53178_4 : decode cJ7_fill_53178 4 = .ok (.istore_n 3, 1) := by decide +kernel
theorem dJ7_fill_53178_5 : decode cJ7_fill_53178 5 = .ok (.iload_n 2, 1) := by decide +kernel
theorem dJ7_fill_53178_6 : decode cJ7_fill_53178 6 = .ok (.iload_n 3, 1) := by decide +kernel
theorem dJ7_fill_53178_7 : decode cJ7_fill_53178 7 = .ok (.if_icmp .ge 13, 3) := by decide +kernel
theorem dJ7_fill_53178_10 : decode cJ7_fill_53178 10 = .ok (.aload_n 0, 1) := by decide +kernel
theorem dJ7_fill_53178_11 : decode cJ7_fill_53178 11 = .ok (.iload_n 2, 1) := by decide +kernel
theorem dJ7_fill_53178_12 : decode cJ7_fill_53178 12 = .ok (.iload_n 1, 1) := by decide +kernel
theorem dJ7_fill_53178_13 : decode cJ7_fill_53178 13 = .ok (.iastore, 1) := by decide +kernel
theorem dJ7_fill_53178_14 : decode cJ7_fill_53178 14 = .ok (.iinc 2 1, 3) := by decide +kernel
theorem dJ7_fill_53178_17 : decode cJ7_fill_53178 17 = .ok (.goto (-12), 3) := by decide +kernel
theorem dJ7_fill_53178_20 : decode cJ7_fill_53178 20 = .ok (.return_, 1) := by decide +kernel
end
section
theorem dX7_init_0 : decode cX7_init 0 = .ok (.aload_n 0, 1) := by decide +kernel
theorem dX7_init_1 : decode cX7_init 1 = .ok (.invokespecial 1, 3) := by decide +kernel
theorem dX7_init_4 : decode cX7_init 4 = .ok (.aload_n 0, 1) := by decide +kernel
theorem dX7_init_5 : decode cX7_init 5 = .ok (.bipush 6, 2) := by decide +kernel
theorem dX7_init_7 : decode cX7_init 7 = .ok (.newarray .int, 2) := by decide +kernel
theorem dX7_init_9 : decode cX7_init 9 = .ok (.putfield 7, 3) := by decide +kernel
theorem dX7_init_12 : decode cX7_init 12 = .ok (.aload_n 0, 1) := by decide +kernel
theorem dX7_init_13 : decode cX7_init 13 = .ok (.bipush 6, 2) := by decide +kernel
theorem dX7_init_15 : decode cX7_init 15 = .ok (.newarray .int, 2) := by decide +kernel
theorem dX7_init_17 : decode cX7_init 17 = .ok (.putfield 13, 3) := by decide +kernel
theorem dX7_init_20 : decode cX7_init 20 = .ok (.aload_n 0, 1) := by decide +kernel
theorem dX7_init_21 : decode cX7_init 21 = .ok (.bipush 6, 2) := by decide +kernel
theorem dX7_init_23 : decode cX7_init 23 = .ok (.newarray .int, 2) := by decide +kernel
theorem dX7_init_25 : decode cX7_init 25 = .ok (.dup, 1) := by decide +kernel
theorem dX7_init_26 : decode cX7_init 26 = .ok (.iconst 0, 1) := by decide +kernel
theorem dX7_init_27 : decode cX7_init 27 = .ok (.iconst 1, 1) := by decide +kernel
theorem dX7_init_28 : decode cX7_init 28 = .ok (.iastore, 1) := by decide +kernel
theorem dX7_init_29 : decode cX7_init 29 = .ok (.dup, 1) := by decide +kernel
theorem dX7_init_30 : decode cX7_init 30 = .ok (.iconst 1, 1) := by decide +kernel
theorem dX7_init_31 : decode cX7_init 31 = .ok (.iconst 1, 1) := by decide +kernel
theorem dX7_init_32 : decode cX7_init 32 = .ok (.iastore, 1) := by decide +kernel
theorem dX7_init_33 : decode cX7_init 33 = .ok (.dup, 1) := by decide +kernel
theorem dX7_init_34 : decode cX7_init 34 = .ok (.iconst 2, 1) := by decide +kernel
theorem dX7_init_35 : decode cX7_init 35 = .ok (.iconst 1, 1) := by decide +kernel
theorem dX7_init_36 : decode cX7_init 36 = .ok (.iastore, 1) := by decide +kernel
theorem dX7_init_37 : decode cX7_init 37 = .ok (.dup, 1) := by decide +kernel
theorem dX7_init_38 : decode cX7_init 38 = .ok (.iconst 3, 1) := by decide +kernel
theorem dX7_init_39 : decode cX7_init 39 = .ok (.iconst 1, 1) := by decide +kernel
theorem dX7_init_40 : decode cX7_init 40 = .ok (.iastore, 1) := by decide +kernel
theorem dX7_init_41 : decode cX7_init 41 = .ok (.dup, 1) := by decide +kernel
theorem dX7_init_42 : decode cX7_init 42 = .ok (.iconst 4, 1) := by decide +kernel
theorem dX7_init_43 : decode cX7_init 43 = .ok (.iconst 1, 1) := by decide +kernel
theorem dX7_init_44 : decode cX7_init 44 = .ok (.iastore, 1) := by decide +kernel
theorem dX7_init_45 : decode cX7_init 45 = .ok (.dup, 1) := by decide +kernel
theorem dX7_init_46 : decode cX7_init 46 = .ok (.iconst 5, 1) := by decide +kernel
theorem dX7_init_47 : decode cX7_init 47 = .ok (.iconst 1, 1) := by decide +kernel
theorem dX7_init_48 : decode cX7_init 48 = .ok (.iastore, 1) := by decide +kernel
theorem dX7_init_49 : decode cX7_init 49 = .ok (.putfield 16, 3) := by decide +kernel
theorem dX7_init_52 : decode cX7_init 52 = .ok (.aload_n 0, 1) := by decide +kernel
theorem dX7_init_53 : decode cX7_init 53 = .ok (.bipush 6, 2) := by decide +kernel
theorem dX7_init_55 : decode cX7_init 55 = .ok (.newarray .int, 2) := by decide +kernel
theorem dX7_init_57 : decode cX7_init 57 = .ok (.putfield 19, 3) := by decide +kernel
theorem dX7_init_60 : decode cX7_init 60 = .ok (.aload_n 0, 1) := by decide +kernel
theorem dX7_init_61 : decode cX7_init 61 = .ok (.bipush 6, 2) := by decide +kernel
theorem dX7_init_63 : decode cX7_init 63 = .ok (.newarray .int, 2) := by decide +kernel
theorem dX7_init_65 : decode cX7_init 65 = .ok (.putfield 22, 3) := by decide +kernel
theorem dX7_init_68 : decode cX7_init 68 = .ok (.aload_n 0, 1) := by decide +kernel
theorem dX7_init_69 : decode cX7_init 69 = .ok (.bipush 6, 2) := by decide +kernel
theorem dX7_init_71 : decode cX7_init 71 = .ok (.newarray .int, 2) := by decide +kernel
theorem dX7_init_73 : decode cX7_init 73 = .ok (.putfield 25, 3) := by decide +kernel
theorem dX7_init_76 : decode cX7_init 76 = .ok (.aload_n 0, 1) := by decide +kernel
theorem dX7_init_77 : decode cX7_init 77 = .ok (.bipush 10, 2) := by decide +kernel
theorem dX7_init_79 : decode cX7_init 79 = .ok (.newarray .int, 2) := by decide +kernel
theorem dX7_init_81 : decode cX7_init 81 = .ok (.putfield 28, 3) := by decide +kernel
theorem dX7_init_84 : decode cX7_init 84 = .ok (.aload_n 0, 1) := by decide +kernel
theorem dX7_init_85 : decode cX7_init 85 = .ok (.bipush 10, 2) := by decide +kernel
theorem dX7_init_87 : decode cX7_init 87 = .ok (.newarray .int, 2) := by decide +kernel
theorem dX7_init_89 : decode cX7_init 89 = .ok (.putfield 31, 3) := by decide +kernel
theorem dX7_init_92 : decode cX7_init 92 = .ok (.aload_n 0, 1) := by decide +kernel
theorem dX7_init_93 : decode cX7_init 93 = .ok (.bipush 10, 2) := by decide +kernel
theorem dX7_init_95 : decode cX7_init 95 = .ok (.newarray .int, 2) := by decide +kernel
theorem dX7_init_97 : decode cX7_init 97 = .ok (.putfield 34, 3) := by decide +kernel
theorem dX7_init_100 : decode cX7_init 100 = .ok (.aload_n 0, 1) := by decide +kernel
theorem dX7_init_101 : decode cX7_init 101 = .ok (.bipush 10, 2) := by decide +kernel
theorem dX7_init_103 : decode cX7_init 103 = .ok (.newarray .int, 2) := by decide +kernel
theorem dX7_init_105 : decode cX7_init 105 = .ok (.putfield 37, 3) := by decide +kernel
theorem dX7_init_108 : decode cX7_init 108 = .ok (.aload_n 0, 1) := by decide +kernel
theorem dX7_init_109 : decode cX7_init 109 = .ok (.bipush 60, 2) := by decide +kernel
theorem dX7_init_111 : decode cX7_init 111 = .ok (.newarray .int, 2) := by decide +kernel
theorem dX7_init_113 : decode cX7_init 113 = .ok (.putfield 40, 3) := by decide +kernel
theorem dX7_init_116 : decode cX7_init 116 = .ok (.aload_n 0, 1) := by decide +kernel
theorem dX7_init_117 : decode cX7_init 117 = .ok (.bipush 60, 2) := by decide +kernel
theorem dX7_init_119 : decode cX7_init 119 = .ok (.newarray .boolean, 2) := by decide +kernel
theorem dX7_init_121 : decode cX7_init 121 = .ok (.putfield 43, 3) := by decide +kernel
theorem dX7_init_124 : decode cX7_init 124 = .ok (.aload_n 0, 1) := by decide +kernel
theorem dX7_init_125 : decode cX7_init 125 = .ok (.bipush 10, 2) := by decide +kernel
theorem dX7_init_127 : decode cX7_init 127 = .ok (.newarray .int, 2) := by decide +kernel
theorem dX7_init_129 : decode cX7_init 129 = .ok (.putfield 47, 3) := by decide +kernel
theorem dX7_init_132 : decode cX7_init 132 = .ok (.aload_n 0, 1) := by decide +kernel
theorem dX7_init_133 : decode cX7_init 133 = .ok (.bipush 10, 2) := by decide +kernel
theorem dX7_init_135 : decode cX7_init 135 = .ok (.newarray .int, 2) := by decide +kernel
theorem dX7_init_137 : decode cX7_init 137 = .ok (.putfield 50, 3) := by decide +kernel
theorem dX7_init_140 : decode cX7_init 140 = .ok (.aload_n 0, 1) := by decide +kernel
theorem dX7_init_141 : decode cX7_init 141 = .ok (.bipush 10, 2) := by decide +kernel
theorem dX7_init_143 : decode cX7_init 143 = .ok (.newarray .int, 2) := by decide +kernel
theorem dX7_init_145 : decode cX7_init 145 = .ok (.putfield 53, 3) := by decide +kernel
theorem dX7_init_148 : decode cX7_init 148 = .ok (.aload_n 0, 1) := by decide +kernel
theorem dX7_init_149 : decode cX7_init 149 = .ok (.bipush 61, 2) := by decide +kernel
theorem dX7_init_151 : decode cX7_init 151 = .ok (.newarray .boolean, 2) := by decide +kernel
theorem dX7_init_153 : decode cX7_init 153 = .ok (.putfield 56, 3) := by decide +kernel
theorem dX7_init_156 : decode cX7_init 156 = .ok (.aload_n 0, 1) := by decide +kernel
theorem dX7_init_157 : decode cX7_init 157 = .ok (.bipush 6, 2) := by decide +kernel
theorem dX7_init_159 : decode cX7_init 159 = .ok (.newarray .int, 2) := by decide +kernel
theorem dX7_init_161 : decode cX7_init 161 = .ok (.putfield 59, 3) := by decide +kernel
theorem dX7_init_164 : decode cX7_init 164 = .ok (.aload_n 0, 1) := by decide +kernel
theorem dX7_init_165 : decode cX7_init 165 = .ok (.bipush 6, 2) := by decide +kernel
theorem dX7_init_167 : decode cX7_init 167 = .ok (.newarray .int, 2) := by decide +kernel
theorem dX7_init_169 : decode cX7_init 169 = .ok (.putfield 62, 3) := by decide +kernel
theorem dX7_init_172 : decode cX7_init 172 = .ok (.aload_n 0, 1) := by decide +kernel
theorem dX7_init_173 : decode cX7_init 173 = .ok (.iconst 4, 1) := by decide +kernel
theorem dX7_init_174 : decode cX7_init 174 = .ok (.newarray .int, 2) := by decide +kernel
theorem dX7_init_176 : decode cX7_init 176 = .ok (.dup, 1) := by decide +kernel
theorem dX7_init_177 : decode cX7_init 177 = .ok (.iconst 0, 1) := by decide +kernel
theorem dX7_init_178 : decode cX7_init 178 = .ok (.bipush 100, 2) := by decide +kernel
theorem dX7_init_180 : decode cX7_init 180 = .ok (.iastore, 1) := by decide +kernel
theorem dX7_init_181 : decode cX7_init 181 = .ok (.dup, 1) := by decide +kernel
theorem dX7_init_182 : decode cX7_init 182 = .ok (.iconst 1, 1) := by decide +kernel
theorem dX7_init_183 : decode cX7_init 183 = .ok (.bipush 100, 2) := by decide +kernel
theorem dX7_init_185 : decode cX7_init 185 = .ok (.iastore, 1) := by decide +kernel
theorem dX7_init_186 : decode cX7_init 186 = .ok (.dup, 1) := by decide +kernel
theorem dX7_init_187 : decode cX7_init 187 = .ok (.iconst 2, 1) := by decide +kernel
theorem dX7_init_188 : decode cX7_init 188 = .ok (.bipush 100, 2) := by decide +kernel
theorem dX7_init_190 : decode cX7_init 190 = .ok (.iastore, 1) := by decide +kernel
theorem dX7_init_191 : decode cX7_init 191 = .ok (.dup, 1) := by decide +kernel
theorem dX7_init_192 : decode cX7_init 192 = .ok (.iconst 3, 1) := by decide +kernel
theorem dX7_init_193 : decode cX7_init 193 = .ok (.bipush 100, 2) := by decide +kernel
theorem dX7_init_195 : decode cX7_init 195 = .ok (.iastore, 1) := by decide +kernel
theorem dX7_init_196 : decode cX7_init 196 = .ok (.putfield 65, 3) := by decide +kernel
theorem dX7_init_199 : decode cX7_init 199 = .ok (.aload_n 0, 1) := by decide +kernel
theorem dX7_init_200 : decode cX7_init 200 = .ok (.sipush 3960, 3) := by decide +kernel
theorem dX7_init_203 : decode cX7_init 203 = .ok (.newarray .int, 2) := by decide +kernel
theorem dX7_init_205 : decode cX7_init 205 = .ok (.putfield 68, 3) := by decide +kernel
theorem dX7_init_208 : decode cX7_init 208 = .ok (.aload_n 0, 1) := by decide +kernel
theorem dX7_init_209 : decode cX7_init 209 = .ok (.bipush 10, 2) := by decide +kernel
theorem dX7_init_211 : decode cX7_init 211 = .ok (.newarray .int, 2) := by decide +kernel
theorem dX7_init_213 : decode cX7_init 213 = .ok (.putfield 71, 3) := by decide +kernel
theorem dX7_init_216 : decode cX7_init 216 = .ok (.aload_n 0, 1) := by decide +kernel
theorem dX7_init_217 : decode cX7_init 217 = .ok (.bipush 10, 2) := by decide +kernel
theorem dX7_init_219 : decode cX7_init 219 = .ok (.newarray .int, 2) := by decide +kernel
theorem dX7_init_221 : decode cX7_init 221 = .ok (.putfield 74, 3) := by decide +kernel
theorem dX7_init_224 : decode cX7_init 224 = .ok (.aload_n 0, 1) := by decide +kernel
theorem dX7_init_225 : decode cX7_init 225 = .ok (.bipush 10, 2) := by decide +kernel
theorem dX7_init_227 : decode cX7_init 227 = .ok (.newarray .int, 2) := by decide +kernel
theorem dX7_init_229 : decode cX7_init 229 = .ok (.putfield 77, 3) := by decide +kernel
theorem dX7_init_232 : decode cX7_init 232 = .ok (.aload_n 0, 1) := by decide +kernel
theorem dX7_init_233 : decode cX7_init 233 = .ok (.iconst 3, 1) := by decide +kernel
theorem dX7_init_234 : decode cX7_init 234 = .ok (.newarray .int, 2) := by decide +kernel
theorem dX7_init_236 : decode cX7_init 236 = .ok (.putfield 80, 3) := by decide +kernel
theorem dX7_init_239 : decode cX7_init 239 = .ok (.return_, 1) := by decide +kernel
theorem dX7_in_0 : decode cX7_in 0 = .ok (.iload_n 0, 1) := by decide +kernel
theorem dX7_in_1 : decode cX7_in 1 = .ok (.iload_n 1, 1) := by decide +kernel
theorem dX7_in_2 : decode cX7_in 2 = .ok (.if_icmp .lt 12, 3) := by decide +kernel
theorem dX7_in_5 : decode cX7_in 5 = .ok (.iload_n 0, 1) := by decide +kernel
theorem dX7_in_6 : decode cX7_in 6 = .ok (.iload_n 2, 1) := by decide +kernel
theorem dX7_in_7 : decode cX7_in 7 = .ok (.if_icmp .gt 7, 3) := by decide +kernel
theorem dX7_in_10 : decode cX7_in 10 = .ok (.iconst 1, 1) := by decide +kernel
theorem dX7_in_11 : decode cX7_in 11 = .ok (.goto 4, 3) := by decide +kernel
theorem dX7_in_14 : decode cX7_in 14 = .ok (.iconst 0, 1) := by decide +kernel
theorem dX7_in_15 : decode cX7_in 15 = .ok (.ireturn, 1) := by decide +kernel
theorem dX7_isThing_0 : decode cX7_isThing 0 = .ok (.iload_n 0, 1) := by decide +kernel
theorem dX7_isThing_1 : decode cX7_isThing 1 = .ok (.iconst 0, 1) := by decide +kernel
theorem dX7_isThing_2 : decode cX7_isThing 2 = .ok (.iconst 5, 1) := by decide +kernel
theorem dX7_isThing_3 : decode cX7_isThing 3 = .ok (.invokestatic 83, 3) := by decide +kernel
theorem dX7_isThing_6 : decode cX7_isThing 6 = .ok (.ireturn, 1) := by decide +kernel
theorem dX7_isField_0 : decode cX7_isField 0 = .ok (.iload_n 1, 1) := by decide +kernel
theorem dX7_isField_1 : decode cX7_isField 1 = .ok (.iconst 0, 1) := by decide +kernel
theorem dX7_isField_2 : decode cX7_isField 2 = .ok (.aload_n 0, 1) := by decide +kernel
theorem dX7_isField_3 : decode cX7_isField 3 = .ok (.getfield 87, 3) := by decide +kernel
theorem dX7_isField_6 : decode cX7_isField 6 = .ok (.iconst 1, 1) := by decide +kernel
theorem dX7_isField_7 : decode cX7_isField 7 = .ok (.isub, 1) := by decide +kernel
theorem dX7_isField_8 : decode cX7_isField 8 = .ok (.invokestatic 83, 3) := by decide +kernel
theorem dX7_isField_11 : decode cX7_isField 11 = .ok (.ireturn, 1) := by decide +kernel
theorem dX7_isDay_0 : decode cX7_isDay 0 = .ok (.iload_n 0, 1) := by decide +kernel
theorem dX7_isDay_1 : decode cX7_isDay 1 = .ok (.iconst 0, 1) := by decide +kernel
theorem dX7_isDay_2 : decode cX7_isDay 2 = .ok (.bipush 60, 2) := by decide +kernel
theorem dX7_isDay_4 : decode cX7_isDay 4 = .ok (.invokestatic 83, 3) := by decide +kernel
theorem dX7_isDay_7 : decode cX7_isDay 7 = .ok (.ireturn, 1) := by decide +kernel
theorem dX7_thing_0 : decode cX7_thing 0 = .ok (.iload_n 1, 1) := by decide +kernel
theorem dX7_thing_1 : decode cX7_thing 1 = .ok (.invokestatic 91, 3) := by decide +kernel
theorem dX7_thing_4 : decode cX7_thing 4 = .ok (.ifCond .eq 58, 3) := by decide +kernel
theorem dX7_thing_7 : decode cX7_thing 7 = .ok (.iload_n 2, 1) := by decide +kernel
theorem dX7_thing_8 : decode cX7_thing 8 = .ok (.iconst 0, 1) := by decide +kernel
theorem dX7_thing_9 : decode cX7_thing 9 = .ok (.sipush 1000, 3) := by decide +kernel
theorem dX7_thing_12 : decode cX7_thing 12 = .ok (.invokestatic 83, 3) := by decide +kernel
theorem dX7_thing_15 : decode cX7_thing 15 = .ok (.ifCond .eq 47, 3) := by decide +kernel
theorem dX7_thing_18 : decode cX7_thing 18 = .ok (.iload_n 3, 1) := by decide +kernel
theorem dX7_thing_19 : decode cX7_thing 19 = .ok (.iconst 0, 1) := by decide +kernel
theorem dX7_thing_20 : decode cX7_thing 20 = .ok (.iconst 5, 1) := by decide +kernel
theorem dX7_thing_21 : decode cX7_thing 21 = .ok (.invokestatic 83, 3) := by decide +kernel
theorem dX7_thing_24 : decode cX7_thing 24 = .ok (.ifCond .eq 38, 3) := by decide +kernel
theorem dX7_thing_27 : decode cX7_thing 27 = .ok (.iload 4, 2) := by decide +kernel
theorem dX7_thing_29 : decode cX7_thing 29 = .ok (.iconst 1, 1) := by decide +kernel
theorem dX7_thing_30 : decode cX7_thing 30 = .ok (.bipush 100, 2) := by decide +kernel
theorem dX7_thing_32 : decode cX7_thing 32 = .ok (.invokestatic 83, 3) := by decide +kernel
theorem dX7_thing_35 : decode cX7_thing 35 = .ok (.ifCond .eq 27, 3) := by decide +kernel
theorem dX7_thing_38 : decode cX7_thing 38 = .ok (.iload 5, 2) := by decide +kernel
theorem dX7_thing_40 : decode cX7_thing 40 = .ok (.iconst 0, 1) := by decide +kernel
theorem dX7_thing_41 : decode cX7_thing 41 = .ok (.sipush 1000, 3) := by decide +kernel
theorem dX7_thing_44 : decode cX7_thing 44 = .ok (.invokestatic 83, 3) := by decide +kernel
theorem dX7_thing_47 : decode cX7_thing 47 = .ok (.ifCond .eq 15, 3) := by decide +kernel
theorem dX7_thing_50 : decode cX7_thing 50 = .ok (.iload 6, 2) := by decide +kernel
theorem dX7_thing_52 : decode cX7_thing 52 = .ok (.iconst 0, 1) := by decide +kernel
theorem dX7_thing_53 : decode cX7_thing 53 = .ok (.sipush 10000, 3) := by decide +kernel
theorem dX7_thing_56 : decode cX7_thing 56 = .ok (.invokestatic 83, 3) := by decide +kernel
theorem dX7_thing_59 : decode cX7_thing 59 = .ok (.ifCond .ne 6, 3) := by decide +kernel
theorem dX7_thing_62 : decode cX7_thing 62 = .ok (.bipush (-2), 2) := by decide +kernel
theorem dX7_thing_64 : decode cX7_thing 64 = .ok (.ireturn, 1) := by decide +kernel
theorem dX7_thing_65 : decode cX7_thing 65 = .ok (.aload_n 0, 1) := by decide +kernel
theorem dX7_thing_66 : decode cX7_thing 66 = .ok (.getfield 7, 3) := by decide +kernel
theorem dX7_thing_69 : decode cX7_thing 69 = .ok (.iload_n 1, 1) := by decide +kernel
theorem dX7_thing_70 : decode cX7_thing 70 = .ok (.iload_n 2, 1) := by decide +kernel
theorem dX7_thing_71 : decode cX7_thing 71 = .ok (.iastore, 1) := by decide +kernel
theorem dX7_thing_72 : decode cX7_thing 72 = .ok (.aload_n 0, 1) := by decide +kernel
theorem dX7_thing_73 : decode cX7_thing 73 = .ok (.getfield 13, 3) := by decide +kernel
theorem dX7_thing_76 : decode cX7_thing 76 = .ok (.iload_n 1, 1) := by decide +kernel
theorem dX7_thing_77 : decode cX7_thing 77 = .ok (.iload_n 3, 1) := by decide +kernel
theorem dX7_thing_78 : decode cX7_thing 78 = .ok (.iastore, 1) := by decide +kernel
theorem dX7_thing_79 : decode cX7_thing 79 = .ok (.aload_n 0, 1) := by decide +kernel
theorem dX7_thing_80 : decode cX7_thing 80 = .ok (.getfield 16, 3) := by decide +kernel
theorem dX7_thing_83 : decode cX7_thing 83 = .ok (.iload_n 1, 1) := by decide +kernel
theorem dX7_thing_84 : decode cX7_thing 84 = .ok (.iload 4, 2) := by decide +kernel
theorem dX7_thing_86 : decode cX7_thing 86 = .ok (.iastore, 1) := by decide +kernel
theorem dX7_thing_87 : decode cX7_thing 87 = .ok (.aload_n 0, 1) := by decide +kernel
theorem dX7_thing_88 : decode cX7_thing 88 = .ok (.getfield 19, 3) := by decide +kernel
theorem dX7_thing_91 : decode cX7_thing 91 = .ok (.iload_n 1, 1) := by decide +kernel
theorem dX7_thing_92 : decode cX7_thing 92 = .ok (.iload 5, 2) := by decide +kernel
theorem dX7_thing_94 : decode cX7_thing 94 = .ok (.iastore, 1) := by decide +kernel
theorem dX7_thing_95 : decode cX7_thing 95 = .ok (.aload_n 0, 1) := by decide +kernel
theorem dX7_thing_96 : decode cX7_thing 96 = .ok (.getfield 22, 3) := by decide +kernel
theorem dX7_thing_99 : decode cX7_thing 99 = .ok (.iload_n 1, 1) := by decide +kernel
theorem dX7_thing_100 : decode cX7_thing 100 = .ok (.iload 6, 2) := by decide +kernel
theorem dX7_thing_102 : decode cX7_thing 102 = .ok (.iastore, 1) := by decide +kernel
theorem dX7_thing_103 : decode cX7_thing 103 = .ok (.iconst 1, 1) := by decide +kernel
theorem dX7_thing_104 : decode cX7_thing 104 = .ok (.ireturn, 1) := by decide +kernel
theorem dX7_field_0 : decode cX7_field 0 = .ok (.iload_n 1, 1) := by decide +kernel
theorem dX7_field_1 : decode cX7_field 1 = .ok (.invokestatic 95, 3) := by decide +kernel
theorem dX7_field_4 : decode cX7_field 4 = .ok (.ifCond .eq 23, 3) := by decide +kernel
theorem dX7_field_7 : decode cX7_field 7 = .ok (.iload_n 2, 1) := by decide +kernel
theorem dX7_field_8 : decode cX7_field 8 = .ok (.iload_n 1, 1) := by decide +kernel
theorem dX7_field_9 : decode cX7_field 9 = .ok (.bipush 60, 2) := by decide +kernel
theorem dX7_field_11 : decode cX7_field 11 = .ok (.invokestatic 83, 3) := by decide +kernel
theorem dX7_field_14 : decode cX7_field 14 = .ok (.ifCond .eq 13, 3) := by decide +kernel
theorem dX7_field_17 : decode cX7_field 17 = .ok (.iload_n 3, 1) := by decide +kernel
theorem dX7_field_18 : decode cX7_field 18 = .ok (.iconst 0, 1) := by decide +kernel
theorem dX7_field_19 : decode cX7_field 19 = .ok (.ldc 98, 2) := by decide +kernel
theorem dX7_field_21 : decode cX7_field 21 = .ok (.invokestatic 83, 3) := by decide +kernel
theorem dX7_field_24 : decode cX7_field 24 = .ok (.ifCond .ne 6, 3) := by decide +kernel
theorem dX7_field_27 : decode cX7_field 27 = .ok (.bipush (-2), 2) := by decide +kernel
theorem dX7_field_29 : decode cX7_field 29 = .ok (.ireturn, 1) := by decide +kernel
theorem dX7_field_30 : decode cX7_field 30 = .ok (.aload_n 0, 1) := by decide +kernel
theorem dX7_field_31 : decode cX7_field 31 = .ok (.getfield 87, 3) := by decide +kernel
theorem dX7_field_34 : decode cX7_field 34 = .ok (.bipush 10, 2) := by decide +kernel
theorem dX7_field_36 : decode cX7_field 36 = .ok (.if_icmp .ne 6, 3) := by decide +kernel
theorem dX7_field_39 : decode cX7_field 39 = .ok (.bipush (-4), 2) := by decide +kernel
theorem dX7_field_41 : decode cX7_field 41 = .ok (.ireturn, 1) := by decide +kernel
theorem dX7_field_42 : decode cX7_field 42 = .ok (.aload_n 0, 1) := by decide +kernel
theorem dX7_field_43 : decode cX7_field 43 = .ok (.getfield 28, 3) := by decide +kernel
theorem dX7_field_46 : decode cX7_field 46 = .ok (.aload_n 0, 1) := by decide +kernel
theorem dX7_field_47 : decode cX7_field 47 = .ok (.getfield 87, 3) := by decide +kernel
theorem dX7_field_50 : decode cX7_field 50 = .ok (.iload_n 1, 1) := by decide +kernel
theorem dX7_field_51 : decode cX7_field 51 = .ok (.iastore, 1) := by decide +kernel
theorem dX7_field_52 : decode cX7_field 52 = .ok (.aload_n 0, 1) := by decide +kernel
theorem dX7_field_53 : decode cX7_field 53 = .ok (.getfield 31, 3) := by decide +kernel
theorem dX7_field_56 : decode cX7_field 56 = .ok (.aload_n 0, 1) := by decide +kernel
theorem dX7_field_57 : decode cX7_field 57 = .ok (.getfield 87, 3) := by decide +kernel
theorem dX7_field_60 : decode cX7_field 60 = .ok (.iload_n 2, 1) := by decide +kernel
theorem dX7_field_61 : decode cX7_field 61 = .ok (.iastore, 1) := by decide +kernel
theorem dX7_field_62 : decode cX7_field 62 = .ok (.aload_n 0, 1) := by decide +kernel
theorem dX7_field_63 : decode cX7_field 63 = .ok (.getfield 34, 3) := by decide +kernel
theorem dX7_field_66 : decode cX7_field 66 = .ok (.aload_n 0, 1) := by decide +kernel
theorem dX7_field_67 : decode cX7_field 67 = .ok (.getfield 87, 3) := by decide +kernel
theorem dX7_field_70 : decode cX7_field 70 = .ok (.iload_n 3, 1) := by decide +kernel
theorem dX7_field_71 : decode cX7_field 71 = .ok (.iastore, 1) := by decide +kernel
theorem dX7_field_72 : decode cX7_field 72 = .ok (.aload_n 0, 1) := by decide +kernel
theorem dX7_field_73 : decode cX7_field 73 = .ok (.getfield 37, 3) := by decide +kernel
theorem dX7_field_76 : decode cX7_field 76 = .ok (.aload_n 0, 1) := by decide +kernel
theorem dX7_field_77 : decode cX7_field 77 = .ok (.getfield 87, 3) := by decide +kernel
theorem dX7_field_80 : decode cX7_field 80 = .ok (.iconst 0, 1) := by decide +kernel
theorem dX7_field_81 : decode cX7_field 81 = .ok (.iastore, 1) := by decide +kernel
theorem dX7_field_82 : decode cX7_field 82 = .ok (.aload_n 0, 1) := by decide +kernel
theorem dX7_field_83 : decode cX7_field 83 = .ok (.dup, 1) := by decide +kernel
theorem dX7_field_84 : decode cX7_field 84 = .ok (.getfield 87, 3) := by decide +kernel
theorem dX7_field_87 : decode cX7_field 87 = .ok (.iconst 1, 1) := by decide +kernel
theorem dX7_field_88 : decode cX7_field 88 = .ok (.iadd, 1) := by decide +kernel
theorem dX7_field_89 : decode cX7_field 89 = .ok (.putfield 87, 3) := by decide +kernel
theorem dX7_field_92 : decode cX7_field 92 = .ok (.aload_n 0, 1) := by decide +kernel
theorem dX7_field_93 : decode cX7_field 93 = .ok (.getfield 87, 3) := by decide +kernel
theorem dX7_field_96 : decode cX7_field 96 = .ok (.iconst 1, 1) := by decide +kernel
theorem dX7_field_97 : decode cX7_field 97 = .ok (.isub, 1) := by decide +kernel
theorem dX7_field_98 : decode cX7_field 98 = .ok (.ireturn, 1) := by decide +kernel
theorem dX7_need_0 : decode cX7_need 0 = .ok (.aload_n 0, 1) := by decide +kernel
theorem dX7_need_1 : decode cX7_need 1 = .ok (.iload_n 1, 1) := by decide +kernel
theorem dX7_need_2 : decode cX7_need 2 = .ok (.invokevirtual 99, 3) := by decide +kernel
theorem dX7_need_5 : decode cX7_need 5 = .ok (.ifCond .eq 21, 3) := by decide +kernel
theorem dX7_need_8 : decode cX7_need 8 = .ok (.iload_n 2, 1) := by decide +kernel
theorem dX7_need_9 : decode cX7_need 9 = .ok (.invokestatic 91, 3) := by decide +kernel
theorem dX7_need_12 : decode cX7_need 12 = .ok (.ifCond .eq 14, 3) := by decide +kernel
theorem dX7_need_15 : decode cX7_need 15 = .ok (.iload_n 3, 1) := by decide +kernel
theorem dX7_need_16 : decode cX7_need 16 = .ok (.iconst 0, 1) := by decide +kernel
theorem dX7_need_17 : decode cX7_need 17 = .ok (.sipush 500, 3) := by decide +kernel
theorem dX7_need_20 : decode cX7_need 20 = .ok (.invokestatic 83, 3) := by decide +kernel
theorem dX7_need_23 : decode cX7_need 23 = .ok (.ifCond .ne 6, 3) := by decide +kernel
theorem dX7_need_26 : decode cX7_need 26 = .ok (.bipush (-2), 2) := by decide +kernel
theorem dX7_need_28 : decode cX7_need 28 = .ok (.ireturn, 1) := by decide +kernel
theorem dX7_need_29 : decode cX7_need 29 = .ok (.aload_n 0, 1) := by decide +kernel
theorem dX7_need_30 : decode cX7_need 30 = .ok (.getfield 37, 3) := by decide +kernel
theorem dX7_need_33 : decode cX7_need 33 = .ok (.iload_n 1, 1) := by decide +kernel
theorem dX7_need_34 : decode cX7_need 34 = .ok (.iaload, 1) := by decide +kernel
theorem dX7_need_35 : decode cX7_need 35 = .ok (.ifCond .eq 6, 3) := by decide +kernel
theorem dX7_need_38 : decode cX7_need 38 = .ok (.bipush (-3), 2) := by decide +kernel
theorem dX7_need_40 : decode cX7_need 40 = .ok (.ireturn, 1) := by decide +kernel
theorem dX7_need_41 : decode cX7_need 41 = .ok (.aload_n 0, 1) := by decide +kernel
theorem dX7_need_42 : decode cX7_need 42 = .ok (.getfield 40, 3) := by decide +kernel
theorem dX7_need_45 : decode cX7_need 45 = .ok (.bipush 6, 2) := by decide +kernel
theorem dX7_need_47 : decode cX7_need 47 = .ok (.iload_n 1, 1) := by decide +kernel
theorem dX7_need_48 : decode cX7_need 48 = .ok (.imul, 1) := by decide +kernel
theorem dX7_need_49 : decode cX7_need 49 = .ok (.iload_n 2, 1) := by decide +kernel
theorem dX7_need_50 : decode cX7_need 50 = .ok (.iadd, 1) := by decide +kernel
theorem dX7_need_51 : decode cX7_need 51 = .ok (.iaload, 1) := by decide +kernel
theorem dX7_need_52 : decode cX7_need 52 = .ok (.istore 4, 2) := by decide +kernel
theorem dX7_need_54 : decode cX7_need 54 = .ok (.aload_n 0, 1) := by decide +kernel
theorem dX7_need_55 : decode cX7_need 55 = .ok (.getfield 40, 3) := by decide +kernel
theorem dX7_need_58 : decode cX7_need 58 = .ok (.bipush 6, 2) := by decide +kernel
theorem dX7_need_60 : decode cX7_need 60 = .ok (.iload_n 1, 1) := by decide +kernel
theorem dX7_need_61 : decode cX7_need 61 = .ok (.imul, 1) := by decide +kernel
theorem dX7_need_62 : decode cX7_need 62 = .ok (.iload_n 2, 1) := by decide +kernel
theorem dX7_need_63 : decode cX7_need 63 = .ok (.iadd, 1) := by decide +kernel
theorem dX7_need_64 : decode cX7_need 64 = .ok (.iload_n 3, 1) := by decide +kernel
theorem dX7_need_65 : decode cX7_need 65 = .ok (.iastore, 1) := by decide +kernel
theorem dX7_need_66 : decode cX7_need 66 = .ok (.iload 4, 2) := by decide +kernel
theorem dX7_need_68 : decode cX7_need 68 = .ok (.ireturn, 1) := by decide +kernel
theorem dX7_rain_0 : decode cX7_rain 0 = .ok (.iload_n 1, 1) := by decide +kernel
theorem dX7_rain_1 : decode cX7_rain 1 = .ok (.invokestatic 95, 3) := by decide +kernel
theorem dX7_rain_4 : decode cX7_rain 4 = .ok (.ifCond .ne 6, 3) := by decide +kernel
theorem dX7_rain_7 : decode cX7_rain 7 = .ok (.bipush (-2), 2) := by decide +kernel
theorem dX7_rain_9 : decode cX7_rain 9 = .ok (.ireturn, 1) := by decide +kernel
theorem dX7_rain_10 : decode cX7_rain 10 = .ok (.aload_n 0, 1) := by decide +kernel
theorem dX7_rain_11 : decode cX7_rain 11 = .ok (.getfield 56, 3) := by decide +kernel
theorem dX7_rain_14 : decode cX7_rain 14 = .ok (.iload_n 1, 1) := by decide +kernel
theorem dX7_rain_15 : decode cX7_rain 15 = .ok (.iload_n 2, 1) := by decide +kernel
theorem dX7_rain_16 : decode cX7_rain 16 = .ok (.bastore, 1) := by decide +kernel
theorem dX7_rain_17 : decode cX7_rain 17 = .ok (.iconst 1, 1) := by decide +kernel
theorem dX7_rain_18 : decode cX7_rain 18 = .ok (.ireturn, 1) := by decide +kernel
theorem dX7_findUses_0 : decode cX7_findUses 0 = .ok (.iconst 0, 1) := by decide +kernel
theorem dX7_findUses_1 : decode cX7_findUses 1 = .ok (.istore_n 1, 1) := by decide +kernel
theorem dX7_findUses_2 : decode cX7_findUses 2 = .ok (.iload_n 1, 1) := by decide +kernel
theorem dX7_findUses_3 : decode cX7_findUses 3 = .ok (.aload_n 0, 1) := by decide +kernel
theorem dX7_findUses_4 : decode cX7_findUses 4 = .ok (.getfield 87, 3) := by decide +kernel
theorem dX7_findUses_7 : decode cX7_findUses 7 = .ok (.if_icmp .ge 141, 3) := by decide +kernel
theorem dX7_findUses_10 : decode cX7_findUses 10 = .ok (.iconst 0, 1) := by decide +kernel
theorem dX7_findUses_11 : decode cX7_findUses 11 = .ok (.istore_n 2, 1) := by decide +kernel
theorem dX7_findUses_12 : decode cX7_findUses 12 = .ok (.iload_n 2, 1) := by decide +kernel
theorem dX7_findUses_13 : decode cX7_findUses 13 = .ok (.bipush 66, 2) := by decide +kernel
theorem dX7_findUses_15 : decode cX7_findUses 15 = .ok (.if_icmp .ge 127, 3) := by decide +kernel
theorem dX7_findUses_18 : decode cX7_findUses 18 = .ok (.iconst 0, 1) := by decide +kernel
theorem dX7_findUses_19 : decode cX7_findUses 19 = .ok (.istore_n 3, 1) := by decide +kernel
theorem dX7_findUses_20 : decode cX7_findUses 20 = .ok (.iload_n 3, 1) := by decide +kernel
theorem dX7_findUses_21 : decode cX7_findUses 21 = .ok (.bipush 6, 2) := by decide +kernel
theorem dX7_findUses_23 : decode cX7_findUses 23 = .ok (.if_icmp .ge 113, 3) := by decide +kernel
theorem dX7_findUses_26 : decode cX7_findUses 26 = .ok (.aload_n 0, 1) := by decide +kernel
theorem dX7_findUses_27 : decode cX7_findUses 27 = .ok (.getfield 56, 3) := by decide +kernel
theorem dX7_findUses_30 : decode cX7_findUses 30 = .ok (.aload_n 0, 1) := by decide +kernel
theorem dX7_findUses_31 : decode cX7_findUses 31 = .ok (.getfield 31, 3) := by decide +kernel
theorem dX7_findUses_34 : decode cX7_findUses 34 = .ok (.iload_n 1, 1) := by decide +kernel
theorem dX7_findUses_35 : decode cX7_findUses 35 = .ok (.iaload, 1) := by decide +kernel
theorem dX7_findUses_36 : decode cX7_findUses 36 = .ok (.baload, 1) := by decide +kernel
theorem dX7_findUses_37 : decode cX7_findUses 37 = .ok (.ifCond .eq 34, 3) := by decide +kernel
theorem dX7_findUses_40 : decode cX7_findUses 40 = .ok (.iload_n 2, 1) := by decide +kernel
theorem dX7_findUses_41 : decode cX7_findUses 41 = .ok (.aload_n 0, 1) := by decide +kernel
theorem dX7_findUses_42 : decode cX7_findUses 42 = .ok (.getfield 31, 3) := by decide +kernel
theorem dX7_findUses_45 : decode cX7_findUses 45 = .ok (.iload_n 1, 1) := by decide +kernel
theorem dX7_findUses_46 : decode cX7_findUses 46 = .ok (.iaload, 1) := by decide +kernel
theorem dX7_findUses_47 : decode cX7_findUses 47 = .ok (.if_icmp .le 24, 3) := by decide +kernel
theorem dX7_findUses_50 : decode cX7_findUses 50 = .ok (.iload_n 2, 1) := by decide +kernel
theorem dX7_findUses_51 : decode cX7_findUses 51 = .ok (.aload_n 0, 1) := by decide +kernel
theorem dX7_findUses_52 : decode cX7_findUses 52 = .ok (.getfield 31, 3) := by decide +kernel
theorem dX7_findUses_55 : decode cX7_findUses 55 = .ok (.iload_n 1, 1) := by decide +kernel
theorem dX7_findUses_56 : decode cX7_findUses 56 = .ok (.iaload, 1) := by decide +kernel
theorem dX7_findUses_57 : decode cX7_findUses 57 = .ok (.aload_n 0, 1) := by decide +kernel
theorem dX7_findUses_58 : decode cX7_findUses 58 = .ok (.getfield 13, 3) := by decide +kernel
theorem dX7_findUses_61 : decode cX7_findUses 61 = .ok (.iload_n 3, 1) := by decide +kernel
theorem dX7_findUses_62 : decode cX7_findUses 62 = .ok (.iaload, 1) := by decide +kernel
theorem dX7_findUses_63 : decode cX7_findUses 63 = .ok (.iadd, 1) := by decide +kernel
theorem dX7_findUses_64 : decode cX7_findUses 64 = .ok (.if_icmp .gt 7, 3) := by decide +kernel
theorem dX7_findUses_67 : decode cX7_findUses 67 = .ok (.iconst 1, 1) := by decide +kernel
theorem dX7_findUses_68 : decode cX7_findUses 68 = .ok (.goto 4, 3) := by decide +kernel
theorem dX7_findUses_71 : decode cX7_findUses 71 = .ok (.iconst 0, 1) := by decide +kernel
theorem dX7_findUses_72 : decode cX7_findUses 72 = .ok (.istore 4, 2) := by decide +kernel
theorem dX7_findUses_74 : decode cX7_findUses 74 = .ok (.aload_n 0, 1) := by decide +kernel
theorem dX7_findUses_75 : decode cX7_findUses 75 = .ok (.getfield 68, 3) := by decide +kernel
theorem dX7_findUses_78 : decode cX7_findUses 78 = .ok (.sipush 396, 3) := by decide +kernel
theorem dX7_findUses_81 : decode cX7_findUses 81 = .ok (.iload_n 1, 1) := by decide +kernel
theorem dX7_findUses_82 : decode cX7_findUses 82 = .ok (.imul, 1) := by decide +kernel
theorem dX7_findUses_83 : decode cX7_findUses 83 = .ok (.bipush 6, 2) := by decide +kernel
theorem dX7_findUses_85 : decode cX7_findUses 85 = .ok (.iload_n 2, 1) := by decide +kernel
theorem dX7_findUses_86 : decode cX7_findUses 86 = .ok (.imul, 1) := by decide +kernel
theorem dX7_findUses_87 : decode cX7_findUses 87 = .ok (.iadd, 1) := by decide +kernel
theorem dX7_findUses_88 : decode cX7_findUses 88 = .ok (.iload_n 3, 1) := by decide +kernel
theorem dX7_findUses_89 : decode cX7_findUses 89 = .ok (.iadd, 1) := by decide +kernel
theorem dX7_findUses_90 : decode cX7_findUses 90 = .ok (.iload_n 2, 1) := by decide +kernel
theorem dX7_findUses_91 : decode cX7_findUses 91 = .ok (.aload_n 0, 1) := by decide +kernel
theorem dX7_findUses_92 : decode cX7_findUses 92 = .ok (.getfield 28, 3) := by decide +kernel
theorem dX7_findUses_95 : decode cX7_findUses 95 = .ok (.iload_n 1, 1) := by decide +kernel
theorem dX7_findUses_96 : decode cX7_findUses 96 = .ok (.iaload, 1) := by decide +kernel
theorem dX7_findUses_97 : decode cX7_findUses 97 = .ok (.aload_n 0, 1) := by decide +kernel
theorem dX7_findUses_98 : decode cX7_findUses 98 = .ok (.getfield 31, 3) := by decide +kernel
theorem dX7_findUses_101 : decode cX7_findUses 101 = .ok (.iload_n 1, 1) := by decide +kernel
theorem dX7_findUses_102 : decode cX7_findUses 102 = .ok (.iaload, 1) := by decide +kernel
theorem dX7_findUses_103 : decode cX7_findUses 103 = .ok (.invokestatic 83, 3) := by decide +kernel
theorem dX7_findUses_106 : decode cX7_findUses 106 = .ok (.ifCond .ne 8, 3) := by decide +kernel
theorem dX7_findUses_109 : decode cX7_findUses 109 = .ok (.iload 4, 2) := by decide +kernel
theorem dX7_findUses_111 : decode cX7_findUses 111 = .ok (.ifCond .eq 17, 3) := by decide +kernel
theorem dX7_findUses_114 : decode cX7_findUses 114 = .ok (.aload_n 0, 1) := by decide +kernel
theorem dX7_findUses_115 : decode cX7_findUses 115 = .ok (.getfield 40, 3) := by decide +kernel
theorem dX7_findUses_118 : decode cX7_findUses 118 = .ok (.bipush 6, 2) := by decide +kernel
theorem dX7_findUses_120 : decode cX7_findUses 120 = .ok (.iload_n 1, 1) := by decide +kernel
theorem dX7_findUses_121 : decode cX7_findUses 121 = .ok (.imul, 1) := by decide +kernel
theorem dX7_findUses_122 : decode cX7_findUses 122 = .ok (.iload_n 3, 1) := by decide +kernel
theorem dX7_findUses_123 : decode cX7_findUses 123 = .ok (.iadd, 1) := by decide +kernel
theorem dX7_findUses_124 : decode cX7_findUses 124 = .ok (.iaload, 1) := by decide +kernel
theorem dX7_findUses_125 : decode cX7_findUses 125 = .ok (.goto 4, 3) := by decide +kernel
theorem dX7_findUses_128 : decode cX7_findUses 128 = .ok (.iconst 0, 1) := by decide +kernel
theorem dX7_findUses_129 : decode cX7_findUses 129 = .ok (.iastore, 1) := by decide +kernel
theorem dX7_findUses_130 : decode cX7_findUses 130 = .ok (.iinc 3 1, 3) := by decide +kernel
theorem dX7_findUses_133 : decode cX7_findUses 133 = .ok (.goto (-113), 3) := by decide +kernel
theorem dX7_findUses_136 : decode cX7_findUses 136 = .ok (.iinc 2 1, 3) := by decide +kernel
theorem dX7_findUses_139 : decode cX7_findUses 139 = .ok (.goto (-127), 3) := by decide +kernel
theorem dX7_findUses_142 : decode cX7_findUses 142 = .ok (.iinc 1 1, 3) := by decide +kernel
theorem dX7_findUses_145 : decode cX7_findUses 145 = .ok (.goto (-143), 3) := by decide +kernel
theorem dX7_findUses_148 : decode cX7_findUses 148 = .ok (.return_, 1) := by decide +kernel
theorem dX7_lackOf_0 : decode cX7_lackOf 0 = .ok (.iconst 0, 1) := by decide +kernel
theorem dX7_lackOf_1 : decode cX7_lackOf 1 = .ok (.istore 4, 2) := by decide +kernel
theorem dX7_lackOf_3 : decode cX7_lackOf 3 = .ok (.iconst 0, 1) := by decide +kernel
theorem dX7_lackOf_4 : decode cX7_lackOf 4 = .ok (.istore 5, 2) := by decide +kernel
theorem dX7_lackOf_6 : decode cX7_lackOf 6 = .ok (.iload 5, 2) := by decide +kernel
theorem dX7_lackOf_8 : decode cX7_lackOf 8 = .ok (.aload_n 0, 1) := by decide +kernel
theorem dX7_lackOf_9 : decode cX7_lackOf 9 = .ok (.getfield 87, 3) := by decide +kernel
theorem dX7_lackOf_12 : decode cX7_lackOf 12 = .ok (.if_icmp .ge 46, 3) := by decide +kernel
theorem dX7_lackOf_15 : decode cX7_lackOf 15 = .ok (.iload 4, 2) := by decide +kernel
theorem dX7_lackOf_17 : decode cX7_lackOf 17 = .ok (.iload_n 1, 1) := by decide +kernel
theorem dX7_lackOf_18 : decode cX7_lackOf 18 = .ok (.iload 5, 2) := by decide +kernel
theorem dX7_lackOf_20 : decode cX7_lackOf 20 = .ok (.ishr, 1) := by decide +kernel
theorem dX7_lackOf_21 : decode cX7_lackOf 21 = .ok (.iconst 1, 1) := by decide +kernel
theorem dX7_lackOf_22 : decode cX7_lackOf 22 = .ok (.iand, 1) := by decide +kernel
theorem dX7_lackOf_23 : decode cX7_lackOf 23 = .ok (.iconst 1, 1) := by decide +kernel
theorem dX7_lackOf_24 : decode cX7_lackOf 24 = .ok (.if_icmp .ne 24, 3) := by decide +kernel
theorem dX7_lackOf_27 : decode cX7_lackOf 27 = .ok (.aload_n 0, 1) := by decide +kernel
theorem dX7_lackOf_28 : decode cX7_lackOf 28 = .ok (.getfield 68, 3) := by decide +kernel
theorem dX7_lackOf_31 : decode cX7_lackOf 31 = .ok (.sipush 396, 3) := by decide +kernel
theorem dX7_lackOf_34 : decode cX7_lackOf 34 = .ok (.iload 5, 2) := by decide +kernel
theorem dX7_lackOf_36 : decode cX7_lackOf 36 = .ok (.imul, 1) := by decide +kernel
theorem dX7_lackOf_37 : decode cX7_lackOf 37 = .ok (.bipush 6, 2) := by decide +kernel
theorem dX7_lackOf_39 : decode cX7_lackOf 39 = .ok (.iload_n 3, 1) := by decide +kernel
theorem dX7_lackOf_40 : decode cX7_lackOf 40 = .ok (.imul, 1) := by decide +kernel
theorem dX7_lackOf_41 : decode cX7_lackOf 41 = .ok (.iadd, 1) := by decide +kernel
theorem dX7_lackOf_42 : decode cX7_lackOf 42 = .ok (.iload_n 2, 1) := by decide +kernel
theorem dX7_lackOf_43 : decode cX7_lackOf 43 = .ok (.iadd, 1) := by decide +kernel
theorem dX7_lackOf_44 : decode cX7_lackOf 44 = .ok (.iaload, 1) := by decide +kernel
theorem dX7_lackOf_45 : decode cX7_lackOf 45 = .ok (.goto 4, 3) := by decide +kernel
theorem dX7_lackOf_48 : decode cX7_lackOf 48 = .ok (.iconst 0, 1) := by decide +kernel
theorem dX7_lackOf_49 : decode cX7_lackOf 49 = .ok (.iadd, 1) := by decide +kernel
theorem dX7_lackOf_50 : decode cX7_lackOf 50 = .ok (.istore 4, 2) := by decide +kernel
theorem dX7_lackOf_52 : decode cX7_lackOf 52 = .ok (.iinc 5 1, 3) := by decide +kernel
theorem dX7_lackOf_55 : decode cX7_lackOf 55 = .ok (.goto (-49), 3) := by decide +kernel
theorem dX7_lackOf_58 : decode cX7_lackOf 58 = .ok (.aload_n 0, 1) := by decide +kernel
theorem dX7_lackOf_59 : decode cX7_lackOf 59 = .ok (.getfield 7, 3) := by decide +kernel
theorem dX7_lackOf_62 : decode cX7_lackOf 62 = .ok (.iload_n 2, 1) := by decide +kernel
theorem dX7_lackOf_63 : decode cX7_lackOf 63 = .ok (.iaload, 1) := by decide +kernel
theorem dX7_lackOf_64 : decode cX7_lackOf 64 = .ok (.aload_n 0, 1) := by decide +kernel
theorem dX7_lackOf_65 : decode cX7_lackOf 65 = .ok (.getfield 25, 3) := by decide +kernel
theorem dX7_lackOf_68 : decode cX7_lackOf 68 = .ok (.iload_n 2, 1) := by decide +kernel
theorem dX7_lackOf_69 : decode cX7_lackOf 69 = .ok (.iaload, 1) := by decide +kernel
theorem dX7_lackOf_70 : decode cX7_lackOf 70 = .ok (.if_icmp .le 19, 3) := by decide +kernel
theorem dX7_lackOf_73 : decode cX7_lackOf 73 = .ok (.aload_n 0, 1) := by decide +kernel
theorem dX7_lackOf_74 : decode cX7_lackOf 74 = .ok (.getfield 7, 3) := by decide +kernel
theorem dX7_lackOf_77 : decode cX7_lackOf 77 = .ok (.iload_n 2, 1) := by decide +kernel
theorem dX7_lackOf_78 : decode cX7_lackOf 78 = .ok (.iaload, 1) := by decide +kernel
theorem dX7_lackOf_79 : decode cX7_lackOf 79 = .ok (.aload_n 0, 1) := by decide +kernel
theorem dX7_lackOf_80 : decode cX7_lackOf 80 = .ok (.getfield 25, 3) := by decide +kernel
theorem dX7_lackOf_83 : decode cX7_lackOf 83 = .ok (.iload_n 2, 1) := by decide +kernel
theorem dX7_lackOf_84 : decode cX7_lackOf 84 = .ok (.iaload, 1) := by decide +kernel
theorem dX7_lackOf_85 : decode cX7_lackOf 85 = .ok (.isub, 1) := by decide +kernel
theorem dX7_lackOf_86 : decode cX7_lackOf 86 = .ok (.goto 4, 3) := by decide +kernel
theorem dX7_lackOf_89 : decode cX7_lackOf 89 = .ok (.iconst 0, 1) := by decide +kernel
theorem dX7_lackOf_90 : decode cX7_lackOf 90 = .ok (.istore 5, 2) := by decide +kernel
theorem dX7_lackOf_92 : decode cX7_lackOf 92 = .ok (.iload 4, 2) := by decide +kernel
theorem dX7_lackOf_94 : decode cX7_lackOf 94 = .ok (.iload 5, 2) := by decide +kernel
theorem dX7_lackOf_96 : decode cX7_lackOf 96 = .ok (.if_icmp .le 11, 3) := by decide +kernel
theorem dX7_lackOf_99 : decode cX7_lackOf 99 = .ok (.iload 4, 2) := by decide +kernel
theorem dX7_lackOf_101 : decode cX7_lackOf 101 = .ok (.iload 5, 2) := by decide +kernel
theorem dX7_lackOf_103 : decode cX7_lackOf 103 = .ok (.isub, 1) := by decide +kernel
theorem dX7_lackOf_104 : decode cX7_lackOf 104 = .ok (.goto 4, 3) := by decide +kernel
theorem dX7_lackOf_107 : decode cX7_lackOf 107 = .ok (.iconst 0, 1) := by decide +kernel
theorem dX7_lackOf_108 : decode cX7_lackOf 108 = .ok (.ireturn, 1) := by decide +kernel
theorem dX7_isFit_0 : decode cX7_isFit 0 = .ok (.iconst 0, 1) := by decide +kernel
theorem dX7_isFit_1 : decode cX7_isFit 1 = .ok (.istore_n 2, 1) := by decide +kernel
theorem dX7_isFit_2 : decode cX7_isFit 2 = .ok (.iload_n 2, 1) := by decide +kernel
theorem dX7_isFit_3 : decode cX7_isFit 3 = .ok (.bipush 66, 2) := by decide +kernel
theorem dX7_isFit_5 : decode cX7_isFit 5 = .ok (.if_icmp .ge 39, 3) := by decide +kernel
theorem dX7_isFit_8 : decode cX7_isFit 8 = .ok (.iload_n 1, 1) := by decide +kernel
theorem dX7_isFit_9 : decode cX7_isFit 9 = .ok (.ifCond .le 35, 3) := by decide +kernel
theorem dX7_isFit_12 : decode cX7_isFit 12 = .ok (.iconst 0, 1) := by decide +kernel
theorem dX7_isFit_13 : decode cX7_isFit 13 = .ok (.istore_n 3, 1) := by decide +kernel
theorem dX7_isFit_14 : decode cX7_isFit 14 = .ok (.iload_n 3, 1) := by decide +kernel
theorem dX7_isFit_15 : decode cX7_isFit 15 = .ok (.bipush 6, 2) := by decide +kernel
theorem dX7_isFit_17 : decode cX7_isFit 17 = .ok (.if_icmp .ge 21, 3) := by decide +kernel
theorem dX7_isFit_20 : decode cX7_isFit 20 = .ok (.aload_n 0, 1) := by decide +kernel
theorem dX7_isFit_21 : decode cX7_isFit 21 = .ok (.iload_n 1, 1) := by decide +kernel
theorem dX7_isFit_22 : decode cX7_isFit 22 = .ok (.iload_n 3, 1) := by decide +kernel
theorem dX7_isFit_23 : decode cX7_isFit 23 = .ok (.iload_n 2, 1) := by decide +kernel
theorem dX7_isFit_24 : decode cX7_isFit 24 = .ok (.invokevirtual 102, 3) := by decide +kernel
theorem dX7_isFit_27 : decode cX7_isFit 27 = .ok (.ifCond .le 5, 3) := by decide +kernel
theorem dX7_isFit_30 : decode cX7_isFit 30 = .ok (.iconst 0, 1) := by decide +kernel
theorem dX7_isFit_31 : decode cX7_isFit 31 = .ok (.ireturn, 1) := by decide +kernel
theorem dX7_isFit_32 : decode cX7_isFit 32 = .ok (.iinc 3 1, 3) := by decide +kernel
theorem dX7_isFit_35 : decode cX7_isFit 35 = .ok (.goto (-21), 3) := by decide +kernel
theorem dX7_isFit_38 : decode cX7_isFit 38 = .ok (.iinc 2 1, 3) := by decide +kernel
theorem dX7_isFit_41 : decode cX7_isFit 41 = .ok (.goto (-39), 3) := by decide +kernel
theorem dX7_isFit_44 : decode cX7_isFit 44 = .ok (.iconst 1, 1) := by decide +kernel
theorem dX7_isFit_45 : decode cX7_isFit 45 = .ok (.ireturn, 1) := by decide +kernel
theorem dX7_hiredFor_0 : decode cX7_hiredFor 0 = .ok (.lconst 0, 1) := by decide +kernel
theorem dX7_hiredFor_1 : decode cX7_hiredFor 1 = .ok (.lstore_n 2, 1) := by decide +kernel
theorem dX7_hiredFor_2 : decode cX7_hiredFor 2 = .ok (.iconst 0, 1) := by decide +kernel
theorem dX7_hiredFor_3 : decode cX7_hiredFor 3 = .ok (.istore 4, 2) := by decide +kernel
theorem dX7_hiredFor_5 : decode cX7_hiredFor 5 = .ok (.iload 4, 2) := by decide +kernel
theorem dX7_hiredFor_7 : decode cX7_hiredFor 7 = .ok (.bipush 66, 2) := by decide +kernel
theorem dX7_hiredFor_9 : decode cX7_hiredFor 9 = .ok (.if_icmp .ge 47, 3) := by decide +kernel
theorem dX7_hiredFor_12 : decode cX7_hiredFor 12 = .ok (.iconst 0, 1) := by decide +kernel
theorem dX7_hiredFor_13 : decode cX7_hiredFor 13 = .ok (.istore 5, 2) := by decide +kernel
theorem dX7_hiredFor_15 : decode cX7_hiredFor 15 = .ok (.iload 5, 2) := by decide +kernel
theorem dX7_hiredFor_17 : decode cX7_hiredFor 17 = .ok (.bipush 6, 2) := by decide +kernel
theorem dX7_hiredFor_19 : decode cX7_hiredFor 19 = .ok (.if_icmp .ge 31, 3) := by decide +kernel
theorem dX7_hiredFor_22 : decode cX7_hiredFor 22 = .ok (.lload_n 2, 1) := by decide +kernel
theorem dX7_hiredFor_23 : decode cX7_hiredFor 23 = .ok (.aload_n 0, 1) := by decide +kernel
theorem dX7_hiredFor_24 : decode cX7_hiredFor 24 = .ok (.iload_n 1, 1) := by decide +kernel
theorem dX7_hiredFor_25 : decode cX7_hiredFor 25 = .ok (.iload 5, 2) := by decide +kernel
theorem dX7_hiredFor_27 : decode cX7_hiredFor 27 = .ok (.iload 4, 2) := by decide +kernel
theorem dX7_hiredFor_29 : decode cX7_hiredFor 29 = .ok (.invokevirtual 102, 3) := by decide +kernel
theorem dX7_hiredFor_32 : decode cX7_hiredFor 32 = .ok (.i2l, 1) := by decide +kernel
theorem dX7_hiredFor_33 : decode cX7_hiredFor 33 = .ok (.aload_n 0, 1) := by decide +kernel
theorem dX7_hiredFor_34 : decode cX7_hiredFor 34 = .ok (.getfield 19, 3) := by decide +kernel
theorem dX7_hiredFor_37 : decode cX7_hiredFor 37 = .ok (.iload 5, 2) := by decide +kernel
theorem dX7_hiredFor_39 : decode cX7_hiredFor 39 = .ok (.iaload, 1) := by decide +kernel
theorem dX7_hiredFor_40 : decode cX7_hiredFor 40 = .ok (.i2l, 1) := by decide +kernel
theorem dX7_hiredFor_41 : decode cX7_hiredFor 41 = .ok (.lmul, 1) := by decide +kernel
theorem dX7_hiredFor_42 : decode cX7_hiredFor 42 = .ok (.ladd, 1) := by decide +kernel
theorem dX7_hiredFor_43 : decode cX7_hiredFor 43 = .ok (.lstore_n 2, 1) := by decide +kernel
theorem dX7_hiredFor_44 : decode cX7_hiredFor 44 = .ok (.iinc 5 1, 3) := by decide +kernel
theorem dX7_hiredFor_47 : decode cX7_hiredFor 47 = .ok (.goto (-32), 3) := by decide +kernel
theorem dX7_hiredFor_50 : decode cX7_hiredFor 50 = .ok (.iinc 4 1, 3) := by decide +kernel
theorem dX7_hiredFor_53 : decode cX7_hiredFor 53 = .ok (.goto (-48), 3) := by decide +kernel
theorem dX7_hiredFor_56 : decode cX7_hiredFor 56 = .ok (.lload_n 2, 1) := by decide +kernel
theorem dX7_hiredFor_57 : decode cX7_hiredFor 57 = .ok (.lreturn, 1) := by decide +kernel
theorem dX7_all_0 : decode cX7_all 0 = .ok (.iconst 0, 1) := by decide +kernel
theorem dX7_all_1 : decode cX7_all 1 = .ok (.istore_n 2, 1) := by decide +kernel
theorem dX7_all_2 : decode cX7_all 2 = .ok (.iconst 0, 1) := by decide +kernel
theorem dX7_all_3 : decode cX7_all 3 = .ok (.istore_n 3, 1) := by decide +kernel
theorem dX7_all_4 : decode cX7_all 4 = .ok (.iload_n 3, 1) := by decide +kernel
theorem dX7_all_5 : decode cX7_all 5 = .ok (.aload_n 0, 1) := by decide +kernel
theorem dX7_all_6 : decode cX7_all 6 = .ok (.getfield 87, 3) := by decide +kernel
theorem dX7_all_9 : decode cX7_all 9 = .ok (.if_icmp .ge 29, 3) := by decide +kernel
theorem dX7_all_12 : decode cX7_all 12 = .ok (.iload_n 2, 1) := by decide +kernel
theorem dX7_all_13 : decode cX7_all 13 = .ok (.aload_n 0, 1) := by decide +kernel
theorem dX7_all_14 : decode cX7_all 14 = .ok (.getfield 37, 3) := by decide +kernel
theorem dX7_all_17 : decode cX7_all 17 = .ok (.iload_n 3, 1) := by decide +kernel
theorem dX7_all_18 : decode cX7_all 18 = .ok (.iaload, 1) := by decide +kernel
theorem dX7_all_19 : decode cX7_all 19 = .ok (.iload_n 1, 1) := by decide +kernel
theorem dX7_all_20 : decode cX7_all 20 = .ok (.if_icmp .ne 9, 3) := by decide +kernel
theorem dX7_all_23 : decode cX7_all 23 = .ok (.iconst 1, 1) := by decide +kernel
theorem dX7_all_24 : decode cX7_all 24 = .ok (.iload_n 3, 1) := by decide +kernel
theorem dX7_all_25 : decode cX7_all 25 = .ok (.ishl, 1) := by decide +kernel
theorem dX7_all_26 : decode cX7_all 26 = .ok (.goto 4, 3) := by decide +kernel
theorem dX7_all_29 : decode cX7_all 29 = .ok (.iconst 0, 1) := by decide +kernel
theorem dX7_all_30 : decode cX7_all 30 = .ok (.ior, 1) := by decide +kernel
theorem dX7_all_31 : decode cX7_all 31 = .ok (.istore_n 2, 1) := by decide +kernel
theorem dX7_all_32 : decode cX7_all 32 = .ok (.iinc 3 1, 3) := by decide +kernel
theorem dX7_all_35 : decode cX7_all 35 = .ok (.goto (-31), 3) := by decide +kernel
theorem dX7_all_38 : decode cX7_all 38 = .ok (.iload_n 2, 1) := by decide +kernel
theorem dX7_all_39 : decode cX7_all 39 = .ok (.ireturn, 1) := by decide +kernel
theorem dX7_isSet_0 : decode cX7_isSet 0 = .ok (.iload_n 1, 1) := by decide +kernel
theorem dX7_isSet_1 : decode cX7_isSet 1 = .ok (.iconst 0, 1) := by decide +kernel
theorem dX7_isSet_2 : decode cX7_isSet 2 = .ok (.iconst 1, 1) := by decide +kernel
theorem dX7_isSet_3 : decode cX7_isSet 3 = .ok (.aload_n 0, 1) := by decide +kernel
theorem dX7_isSet_4 : decode cX7_isSet 4 = .ok (.getfield 87, 3) := by decide +kernel
theorem dX7_isSet_7 : decode cX7_isSet 7 = .ok (.ishl, 1) := by decide +kernel
theorem dX7_isSet_8 : decode cX7_isSet 8 = .ok (.iconst 1, 1) := by decide +kernel
theorem dX7_isSet_9 : decode cX7_isSet 9 = .ok (.isub, 1) := by decide +kernel
theorem dX7_isSet_10 : decode cX7_isSet 10 = .ok (.invokestatic 83, 3) := by decide +kernel
theorem dX7_isSet_13 : decode cX7_isSet 13 = .ok (.ireturn, 1) := by decide +kernel
theorem dX7_prices_0 : decode cX7_prices 0 = .ok (.iconst 0, 1) := by decide +kernel
theorem dX7_prices_1 : decode cX7_prices 1 = .ok (.istore_n 2, 1) := by decide +kernel
theorem dX7_prices_2 : decode cX7_prices 2 = .ok (.iconst 0, 1) := by decide +kernel
theorem dX7_prices_3 : decode cX7_prices 3 = .ok (.istore_n 3, 1) := by decide +kernel
theorem dX7_prices_4 : decode cX7_prices 4 = .ok (.iload_n 3, 1) := by decide +kernel
theorem dX7_prices_5 : decode cX7_prices 5 = .ok (.aload_n 0, 1) := by decide +kernel
theorem dX7_prices_6 : decode cX7_prices 6 = .ok (.getfield 87, 3) := by decide +kernel
theorem dX7_prices_9 : decode cX7_prices 9 = .ok (.if_icmp .ge 31, 3) := by decide +kernel
theorem dX7_prices_12 : decode cX7_prices 12 = .ok (.iload_n 2, 1) := by decide +kernel
theorem dX7_prices_13 : decode cX7_prices 13 = .ok (.iload_n 1, 1) := by decide +kernel
theorem dX7_prices_14 : decode cX7_prices 14 = .ok (.iload_n 3, 1) := by decide +kernel
theorem dX7_prices_15 : decode cX7_prices 15 = .ok (.ishr, 1) := by decide +kernel
theorem dX7_prices_16 : decode cX7_prices 16 = .ok (.iconst 1, 1) := by decide +kernel
theorem dX7_prices_17 : decode cX7_prices 17 = .ok (.iand, 1) := by decide +kernel
theorem dX7_prices_18 : decode cX7_prices 18 = .ok (.iconst 1, 1) := by decide +kernel
theorem dX7_prices_19 : decode cX7_prices 19 = .ok (.if_icmp .ne 12, 3) := by decide +kernel
theorem dX7_prices_22 : decode cX7_prices 22 = .ok (.aload_n 0, 1) := by decide +kernel
theorem dX7_prices_23 : decode cX7_prices 23 = .ok (.getfield 34, 3) := by decide +kernel
theorem dX7_prices_26 : decode cX7_prices 26 = .ok (.iload_n 3, 1) := by decide +kernel
theorem dX7_prices_27 : decode cX7_prices 27 = .ok (.iaload, 1) := by decide +kernel
theorem dX7_prices_28 : decode cX7_prices 28 = .ok (.goto 4, 3) := by decide +kernel
theorem dX7_prices_31 : decode cX7_prices 31 = .ok (.iconst 0, 1) := by decide +kernel
theorem dX7_prices_32 : decode cX7_prices 32 = .ok (.iadd, 1) := by decide +kernel
theorem dX7_prices_33 : decode cX7_prices 33 = .ok (.istore_n 2, 1) := by decide +kernel
theorem dX7_prices_34 : decode cX7_prices 34 = .ok (.iinc 3 1, 3) := by decide +kernel
theorem dX7_prices_37 : decode cX7_prices 37 = .ok (.goto (-33), 3) := by decide +kernel
theorem dX7_prices_40 : decode cX7_prices 40 = .ok (.iload_n 2, 1) := by decide +kernel
theorem dX7_prices_41 : decode cX7_prices 41 = .ok (.ireturn, 1) := by decide +kernel
theorem dX7_many_0 : decode cX7_many 0 = .ok (.iconst 0, 1) := by decide +kernel
theorem dX7_many_1 : decode cX7_many 1 = .ok (.istore_n 1, 1) := by decide +kernel
theorem dX7_many_2 : decode cX7_many 2 = .ok (.iload_n 0, 1) := by decide +kernel
theorem dX7_many_3 : decode cX7_many 3 = .ok (.istore_n 2, 1) := by decide +kernel
theorem dX7_many_4 : decode cX7_many 4 = .ok (.iload_n 2, 1) := by decide +kernel
theorem dX7_many_5 : decode cX7_many 5 = .ok (.ifCond .le 16, 3) := by decide +kernel
theorem dX7_many_8 : decode cX7_many 8 = .ok (.iload_n 1, 1) := by decide +kernel
theorem dX7_many_9 : decode cX7_many 9 = .ok (.iload_n 2, 1) := by decide +kernel
theorem dX7_many_10 : decode cX7_many 10 = .ok (.iconst 1, 1) := by decide +kernel
theorem dX7_many_11 : decode cX7_many 11 = .ok (.iand, 1) := by decide +kernel
theorem dX7_many_12 : decode cX7_many 12 = .ok (.iadd, 1) := by decide +kernel
theorem dX7_many_13 : decode cX7_many 13 = .ok (.istore_n 1, 1) := by decide +kernel
theorem dX7_many_14 : decode cX7_many 14 = .ok (.iload_n 2, 1) := by decide +kernel
theorem dX7_many_15 : decode cX7_many 15 = .ok (.iconst 1, 1) := by decide +kernel
theorem dX7_many_16 : decode cX7_many 16 = .ok (.ishr, 1) := by decide +kernel
theorem dX7_many_17 : decode cX7_many 17 = .ok (.istore_n 2, 1) := by decide +kernel
theorem dX7_many_18 : decode cX7_many 18 = .ok (.goto (-14), 3) := by decide +kernel
theorem dX7_many_21 : decode cX7_many 21 = .ok (.iload_n 1, 1) := by decide +kernel
theorem dX7_many_22 : decode cX7_many 22 = .ok (.ireturn, 1) := by decide +kernel
theorem dX7_take_0 : decode cX7_take 0 = .ok (.aload_n 0, 1) := by decide +kernel
theorem dX7_take_1 : decode cX7_take 1 = .ok (.iload_n 1, 1) := by decide +kernel
theorem dX7_take_2 : decode cX7_take 2 = .ok (.invokevirtual 99, 3) := by decide +kernel
theorem dX7_take_5 : decode cX7_take 5 = .ok (.ifCond .ne 6, 3) := by decide +kernel
theorem dX7_take_8 : decode cX7_take 8 = .ok (.bipush (-2), 2) := by decide +kernel
theorem dX7_take_10 : decode cX7_take 10 = .ok (.ireturn, 1) := by decide +kernel
theorem dX7_take_11 : decode cX7_take 11 = .ok (.aload_n 0, 1) := by decide +kernel
theorem dX7_take_12 : decode cX7_take 12 = .ok (.invokevirtual 106, 3) := by decide +kernel
theorem dX7_take_15 : decode cX7_take 15 = .ok (.aload_n 0, 1) := by decide +kernel
theorem dX7_take_16 : decode cX7_take 16 = .ok (.getfield 37, 3) := by decide +kernel
theorem dX7_take_19 : decode cX7_take 19 = .ok (.iload_n 1, 1) := by decide +kernel
theorem dX7_take_20 : decode cX7_take 20 = .ok (.iaload, 1) := by decide +kernel
theorem dX7_take_21 : decode cX7_take 21 = .ok (.ifCond .ne 19, 3) := by decide +kernel
theorem dX7_take_24 : decode cX7_take 24 = .ok (.aload_n 0, 1) := by decide +kernel
theorem dX7_take_25 : decode cX7_take 25 = .ok (.aload_n 0, 1) := by decide +kernel
theorem dX7_take_26 : decode cX7_take 26 = .ok (.iconst 1, 1) := by decide +kernel
theorem dX7_take_27 : decode cX7_take 27 = .ok (.invokevirtual 109, 3) := by decide +kernel
theorem dX7_take_30 : decode cX7_take 30 = .ok (.iconst 1, 1) := by decide +kernel
theorem dX7_take_31 : decode cX7_take 31 = .ok (.iload_n 1, 1) := by decide +kernel
theorem dX7_take_32 : decode cX7_take 32 = .ok (.ishl, 1) := by decide +kernel
theorem dX7_take_33 : decode cX7_take 33 = .ok (.ior, 1) := by decide +kernel
theorem dX7_take_34 : decode cX7_take 34 = .ok (.invokevirtual 113, 3) := by decide +kernel
theorem dX7_take_37 : decode cX7_take 37 = .ok (.ifCond .ne 6, 3) := by decide +kernel
theorem dX7_take_40 : decode cX7_take 40 = .ok (.bipush (-3), 2) := by decide +kernel
theorem dX7_take_42 : decode cX7_take 42 = .ok (.ireturn, 1) := by decide +kernel
theorem dX7_take_43 : decode cX7_take 43 = .ok (.aload_n 0, 1) := by decide +kernel
theorem dX7_take_44 : decode cX7_take 44 = .ok (.getfield 37, 3) := by decide +kernel
theorem dX7_take_47 : decode cX7_take 47 = .ok (.iload_n 1, 1) := by decide +kernel
theorem dX7_take_48 : decode cX7_take 48 = .ok (.iconst 1, 1) := by decide +kernel
theorem dX7_take_49 : decode cX7_take 49 = .ok (.iastore, 1) := by decide +kernel
theorem dX7_take_50 : decode cX7_take 50 = .ok (.iconst 1, 1) := by decide +kernel
theorem dX7_take_51 : decode cX7_take 51 = .ok (.ireturn, 1) := by decide +kernel
theorem dX7_hire_0 : decode cX7_hire 0 = .ok (.aload_n 0, 1) := by decide +kernel
theorem dX7_hire_1 : decode cX7_hire 1 = .ok (.iload_n 1, 1) := by decide +kernel
theorem dX7_hire_2 : decode cX7_hire 2 = .ok (.invokevirtual 99, 3) := by decide +kernel
theorem dX7_hire_5 : decode cX7_hire 5 = .ok (.ifCond .ne 6, 3) := by decide +kernel
theorem dX7_hire_8 : decode cX7_hire 8 = .ok (.bipush (-2), 2) := by decide +kernel
theorem dX7_hire_10 : decode cX7_hire 10 = .ok (.ireturn, 1) := by decide +kernel
theorem dX7_hire_11 : decode cX7_hire 11 = .ok (.aload_n 0, 1) := by decide +kernel
theorem dX7_hire_12 : decode cX7_hire 12 = .ok (.getfield 37, 3) := by decide +kernel
theorem dX7_hire_15 : decode cX7_hire 15 = .ok (.iload_n 1, 1) := by decide +kernel
theorem dX7_hire_16 : decode cX7_hire 16 = .ok (.iaload, 1) := by decide +kernel
theorem dX7_hire_17 : decode cX7_hire 17 = .ok (.ifCond .eq 6, 3) := by decide +kernel
theorem dX7_hire_20 : decode cX7_hire 20 = .ok (.bipush (-3), 2) := by decide +kernel
theorem dX7_hire_22 : decode cX7_hire 22 = .ok (.ireturn, 1) := by decide +kernel
theorem dX7_hire_23 : decode cX7_hire 23 = .ok (.aload_n 0, 1) := by decide +kernel
theorem dX7_hire_24 : decode cX7_hire 24 = .ok (.getfield 37, 3) := by decide +kernel
theorem dX7_hire_27 : decode cX7_hire 27 = .ok (.iload_n 1, 1) := by decide +kernel
theorem dX7_hire_28 : decode cX7_hire 28 = .ok (.iconst 1, 1) := by decide +kernel
theorem dX7_hire_29 : decode cX7_hire 29 = .ok (.iastore, 1) := by decide +kernel
theorem dX7_hire_30 : decode cX7_hire 30 = .ok (.aload_n 0, 1) := by decide +kernel
theorem dX7_hire_31 : decode cX7_hire 31 = .ok (.invokevirtual 106, 3) := by decide +kernel
theorem dX7_hire_34 : decode cX7_hire 34 = .ok (.aload_n 0, 1) := by decide +kernel
theorem dX7_hire_35 : decode cX7_hire 35 = .ok (.aload_n 0, 1) := by decide +kernel
theorem dX7_hire_36 : decode cX7_hire 36 = .ok (.iconst 1, 1) := by decide +kernel
theorem dX7_hire_37 : decode cX7_hire 37 = .ok (.invokevirtual 109, 3) := by decide +kernel
theorem dX7_hire_40 : decode cX7_hire 40 = .ok (.invokevirtual 116, 3) := by decide +kernel
theorem dX7_hire_43 : decode cX7_hire 43 = .ok (.l2i, 1) := by decide +kernel
theorem dX7_hire_44 : decode cX7_hire 44 = .ok (.ireturn, 1) := by decide +kernel
theorem dX7_giveUp_0 : decode cX7_giveUp 0 = .ok (.aload_n 0, 1) := by decide +kernel
theorem dX7_giveUp_1 : decode cX7_giveUp 1 = .ok (.iload_n 1, 1) := by decide +kernel
theorem dX7_giveUp_2 : decode cX7_giveUp 2 = .ok (.invokevirtual 99, 3) := by decide +kernel
theorem dX7_giveUp_5 : decode cX7_giveUp 5 = .ok (.ifCond .ne 6, 3) := by decide +kernel
theorem dX7_giveUp_8 : decode cX7_giveUp 8 = .ok (.bipush (-2), 2) := by decide +kernel
theorem dX7_giveUp_10 : decode cX7_giveUp 10 = .ok (.ireturn, 1) := by decide +kernel
theorem dX7_giveUp_11 : decode cX7_giveUp 11 = .ok (.aload_n 0, 1) := by decide +kernel
theorem dX7_giveUp_12 : decode cX7_giveUp 12 = .ok (.getfield 37, 3) := by decide +kernel
theorem dX7_giveUp_15 : decode cX7_giveUp 15 = .ok (.iload_n 1, 1) := by decide +kernel
theorem dX7_giveUp_16 : decode cX7_giveUp 16 = .ok (.iaload, 1) := by decide +kernel
theorem dX7_giveUp_17 : decode cX7_giveUp 17 = .ok (.ifCond .eq 16, 3) := by decide +kernel
theorem dX7_giveUp_20 : decode cX7_giveUp 20 = .ok (.aload_n 0, 1) := by decide +kernel
theorem dX7_giveUp_21 : decode cX7_giveUp 21 = .ok (.getfield 37, 3) := by decide +kernel
theorem dX7_giveUp_24 : decode cX7_giveUp 24 = .ok (.iload_n 1, 1) := by decide +kernel
theorem dX7_giveUp_25 : decode cX7_giveUp 25 = .ok (.iaload, 1) := by decide +kernel
theorem dX7_giveUp_26 : decode cX7_giveUp 26 = .ok (.iconst 1, 1) := by decide +kernel
theorem dX7_giveUp_27 : decode cX7_giveUp 27 = .ok (.if_icmp .eq 6, 3) := by decide +kernel
theorem dX7_giveUp_30 : decode cX7_giveUp 30 = .ok (.bipush (-3), 2) := by decide +kernel
theorem dX7_giveUp_32 : decode cX7_giveUp 32 = .ok (.ireturn, 1) := by decide +kernel
theorem dX7_giveUp_33 : decode cX7_giveUp 33 = .ok (.aload_n 0, 1) := by decide +kernel
theorem dX7_giveUp_34 : decode cX7_giveUp 34 = .ok (.getfield 37, 3) := by decide +kernel
theorem dX7_giveUp_37 : decode cX7_giveUp 37 = .ok (.iload_n 1, 1) := by decide +kernel
theorem dX7_giveUp_38 : decode cX7_giveUp 38 = .ok (.iconst 2, 1) := by decide +kernel
theorem dX7_giveUp_39 : decode cX7_giveUp 39 = .ok (.iastore, 1) := by decide +kernel
theorem dX7_giveUp_40 : decode cX7_giveUp 40 = .ok (.iconst 1, 1) := by decide +kernel
theorem dX7_giveUp_41 : decode cX7_giveUp 41 = .ok (.ireturn, 1) := by decide +kernel
theorem dX7_change_0 : decode cX7_change 0 = .ok (.aload_n 0, 1) := by decide +kernel
theorem dX7_change_1 : decode cX7_change 1 = .ok (.iload_n 1, 1) := by decide +kernel
theorem dX7_change_2 : decode cX7_change 2 = .ok (.invokevirtual 99, 3) := by decide +kernel
theorem dX7_change_5 : decode cX7_change 5 = .ok (.ifCond .eq 21, 3) := by decide +kernel
theorem dX7_change_8 : decode cX7_change 8 = .ok (.iload_n 2, 1) := by decide +kernel
theorem dX7_change_9 : decode cX7_change 9 = .ok (.invokestatic 91, 3) := by decide +kernel
theorem dX7_change_12 : decode cX7_change 12 = .ok (.ifCond .eq 14, 3) := by decide +kernel
theorem dX7_change_15 : decode cX7_change 15 = .ok (.iload_n 3, 1) := by decide +kernel
theorem dX7_change_16 : decode cX7_change 16 = .ok (.iconst 0, 1) := by decide +kernel
theorem dX7_change_17 : decode cX7_change 17 = .ok (.sipush 500, 3) := by decide +kernel
theorem dX7_change_20 : decode cX7_change 20 = .ok (.invokestatic 83, 3) := by decide +kernel
theorem dX7_change_23 : decode cX7_change 23 = .ok (.ifCond .ne 6, 3) := by decide +kernel
theorem dX7_change_26 : decode cX7_change 26 = .ok (.bipush (-2), 2) := by decide +kernel
theorem dX7_change_28 : decode cX7_change 28 = .ok (.ireturn, 1) := by decide +kernel
theorem dX7_change_29 : decode cX7_change 29 = .ok (.aload_n 0, 1) := by decide +kernel
theorem dX7_change_30 : decode cX7_change 30 = .ok (.getfield 37, 3) := by decide +kernel
theorem dX7_change_33 : decode cX7_change 33 = .ok (.iload_n 1, 1) := by decide +kernel
theorem dX7_change_34 : decode cX7_change 34 = .ok (.iaload, 1) := by decide +kernel
theorem dX7_change_35 : decode cX7_change 35 = .ok (.iconst 1, 1) := by decide +kernel
theorem dX7_change_36 : decode cX7_change 36 = .ok (.if_icmp .eq 6, 3) := by decide +kernel
theorem dX7_change_39 : decode cX7_change 39 = .ok (.bipush (-3), 2) := by decide +kernel
theorem dX7_change_41 : decode cX7_change 41 = .ok (.ireturn, 1) := by decide +kernel
theorem dX7_change_42 : decode cX7_change 42 = .ok (.aload_n 0, 1) := by decide +kernel
theorem dX7_change_43 : decode cX7_change 43 = .ok (.getfield 40, 3) := by decide +kernel
theorem dX7_change_46 : decode cX7_change 46 = .ok (.bipush 6, 2) := by decide +kernel
theorem dX7_change_48 : decode cX7_change 48 = .ok (.iload_n 1, 1) := by decide +kernel
theorem dX7_change_49 : decode cX7_change 49 = .ok (.imul, 1) := by decide +kernel
theorem dX7_change_50 : decode cX7_change 50 = .ok (.iload_n 2, 1) := by decide +kernel
theorem dX7_change_51 : decode cX7_change 51 = .ok (.iadd, 1) := by decide +kernel
theorem dX7_change_52 : decode cX7_change 52 = .ok (.iload_n 3, 1) := by decide +kernel
theorem dX7_change_53 : decode cX7_change 53 = .ok (.iastore, 1) := by decide +kernel
theorem dX7_change_54 : decode cX7_change 54 = .ok (.aload_n 0, 1) := by decide +kernel
theorem dX7_change_55 : decode cX7_change 55 = .ok (.invokevirtual 106, 3) := by decide +kernel
theorem dX7_change_58 : decode cX7_change 58 = .ok (.aload_n 0, 1) := by decide +kernel
theorem dX7_change_59 : decode cX7_change 59 = .ok (.aload_n 0, 1) := by decide +kernel
theorem dX7_change_60 : decode cX7_change 60 = .ok (.iconst 1, 1) := by decide +kernel
theorem dX7_change_61 : decode cX7_change 61 = .ok (.invokevirtual 109, 3) := by decide +kernel
theorem dX7_change_64 : decode cX7_change 64 = .ok (.invokevirtual 113, 3) := by decide +kernel
theorem dX7_change_67 : decode cX7_change 67 = .ok (.ifCond .eq 7, 3) := by decide +kernel
theorem dX7_change_70 : decode cX7_change 70 = .ok (.iconst 1, 1) := by decide +kernel
theorem dX7_change_71 : decode cX7_change 71 = .ok (.goto 4, 3) := by decide +kernel
theorem dX7_change_74 : decode cX7_change 74 = .ok (.iconst 0, 1) := by decide +kernel
theorem dX7_change_75 : decode cX7_change 75 = .ok (.ireturn, 1) := by decide +kernel
theorem dX7_back_0 : decode cX7_back 0 = .ok (.aload_n 0, 1) := by decide +kernel
theorem dX7_back_1 : decode cX7_back 1 = .ok (.iload_n 1, 1) := by decide +kernel
theorem dX7_back_2 : decode cX7_back 2 = .ok (.invokevirtual 99, 3) := by decide +kernel
theorem dX7_back_5 : decode cX7_back 5 = .ok (.ifCond .ne 6, 3) := by decide +kernel
theorem dX7_back_8 : decode cX7_back 8 = .ok (.bipush (-2), 2) := by decide +kernel
theorem dX7_back_10 : decode cX7_back 10 = .ok (.ireturn, 1) := by decide +kernel
theorem dX7_back_11 : decode cX7_back 11 = .ok (.aload_n 0, 1) := by decide +kernel
theorem dX7_back_12 : decode cX7_back 12 = .ok (.getfield 37, 3) := by decide +kernel
theorem dX7_back_15 : decode cX7_back 15 = .ok (.iload_n 1, 1) := by decide +kernel
theorem dX7_back_16 : decode cX7_back 16 = .ok (.iaload, 1) := by decide +kernel
theorem dX7_back_17 : decode cX7_back 17 = .ok (.iconst 1, 1) := by decide +kernel
theorem dX7_back_18 : decode cX7_back 18 = .ok (.if_icmp .eq 6, 3) := by decide +kernel
theorem dX7_back_21 : decode cX7_back 21 = .ok (.bipush (-3), 2) := by decide +kernel
theorem dX7_back_23 : decode cX7_back 23 = .ok (.ireturn, 1) := by decide +kernel
theorem dX7_back_24 : decode cX7_back 24 = .ok (.aload_n 0, 1) := by decide +kernel
theorem dX7_back_25 : decode cX7_back 25 = .ok (.getfield 37, 3) := by decide +kernel
theorem dX7_back_28 : decode cX7_back 28 = .ok (.iload_n 1, 1) := by decide +kernel
theorem dX7_back_29 : decode cX7_back 29 = .ok (.iconst 3, 1) := by decide +kernel
theorem dX7_back_30 : decode cX7_back 30 = .ok (.iastore, 1) := by decide +kernel
theorem dX7_back_31 : decode cX7_back 31 = .ok (.iconst 1, 1) := by decide +kernel
theorem dX7_back_32 : decode cX7_back 32 = .ok (.ireturn, 1) := by decide +kernel
theorem dX7_missing_0 : decode cX7_missing 0 = .ok (.aload_n 0, 1) := by decide +kernel
theorem dX7_missing_1 : decode cX7_missing 1 = .ok (.iload_n 1, 1) := by decide +kernel
theorem dX7_missing_2 : decode cX7_missing 2 = .ok (.invokevirtual 99, 3) := by decide +kernel
theorem dX7_missing_5 : decode cX7_missing 5 = .ok (.ifCond .eq 29, 3) := by decide +kernel
theorem dX7_missing_8 : decode cX7_missing 8 = .ok (.iload_n 2, 1) := by decide +kernel
theorem dX7_missing_9 : decode cX7_missing 9 = .ok (.invokestatic 91, 3) := by decide +kernel
theorem dX7_missing_12 : decode cX7_missing 12 = .ok (.ifCond .eq 22, 3) := by decide +kernel
theorem dX7_missing_15 : decode cX7_missing 15 = .ok (.iload_n 3, 1) := by decide +kernel
theorem dX7_missing_16 : decode cX7_missing 16 = .ok (.iconst 0, 1) := by decide +kernel
theorem dX7_missing_17 : decode cX7_missing 17 = .ok (.aload_n 0, 1) := by decide +kernel
theorem dX7_missing_18 : decode cX7_missing 18 = .ok (.getfield 40, 3) := by decide +kernel
theorem dX7_missing_21 : decode cX7_missing 21 = .ok (.bipush 6, 2) := by decide +kernel
theorem dX7_missing_23 : decode cX7_missing 23 = .ok (.iload_n 1, 1) := by decide +kernel
theorem dX7_missing_24 : decode cX7_missing 24 = .ok (.imul, 1) := by decide +kernel
theorem dX7_missing_25 : decode cX7_missing 25 = .ok (.iload_n 2, 1) := by decide +kernel
theorem dX7_missing_26 : decode cX7_missing 26 = .ok (.iadd, 1) := by decide +kernel
theorem dX7_missing_27 : decode cX7_missing 27 = .ok (.iaload, 1) := by decide +kernel
theorem dX7_missing_28 : decode cX7_missing 28 = .ok (.invokestatic 83, 3) := by decide +kernel
theorem dX7_missing_31 : decode cX7_missing 31 = .ok (.ifCond .ne 6, 3) := by decide +kernel
theorem dX7_missing_34 : decode cX7_missing 34 = .ok (.bipush (-2), 2) := by decide +kernel
theorem dX7_missing_36 : decode cX7_missing 36 = .ok (.ireturn, 1) := by decide +kernel
theorem dX7_missing_37 : decode cX7_missing 37 = .ok (.aload_n 0, 1) := by decide +kernel
theorem dX7_missing_38 : decode cX7_missing 38 = .ok (.getfield 37, 3) := by decide +kernel
theorem dX7_missing_41 : decode cX7_missing 41 = .ok (.iload_n 1, 1) := by decide +kernel
theorem dX7_missing_42 : decode cX7_missing 42 = .ok (.iaload, 1) := by decide +kernel
theorem dX7_missing_43 : decode cX7_missing 43 = .ok (.iconst 3, 1) := by decide +kernel
theorem dX7_missing_44 : decode cX7_missing 44 = .ok (.if_icmp .ne 17, 3) := by decide +kernel
theorem dX7_missing_47 : decode cX7_missing 47 = .ok (.aload_n 0, 1) := by decide +kernel
theorem dX7_missing_48 : decode cX7_missing 48 = .ok (.getfield 43, 3) := by decide +kernel
theorem dX7_missing_51 : decode cX7_missing 51 = .ok (.bipush 6, 2) := by decide +kernel
theorem dX7_missing_53 : decode cX7_missing 53 = .ok (.iload_n 1, 1) := by decide +kernel
theorem dX7_missing_54 : decode cX7_missing 54 = .ok (.imul, 1) := by decide +kernel
theorem dX7_missing_55 : decode cX7_missing 55 = .ok (.iload_n 2, 1) := by decide +kernel
theorem dX7_missing_56 : decode cX7_missing 56 = .ok (.iadd, 1) := by decide +kernel
theorem dX7_missing_57 : decode cX7_missing 57 = .ok (.baload, 1) := by decide +kernel
theorem dX7_missing_58 : decode cX7_missing 58 = .ok (.ifCond .eq 6, 3) := by decide +kernel
theorem dX7_missing_61 : decode cX7_missing 61 = .ok (.bipush (-3), 2) := by decide +kernel
theorem dX7_missing_63 : decode cX7_missing 63 = .ok (.ireturn, 1) := by decide +kernel
theorem dX7_missing_64 : decode cX7_missing 64 = .ok (.aload_n 0, 1) := by decide +kernel
theorem dX7_missing_65 : decode cX7_missing 65 = .ok (.getfield 43, 3) := by decide +kernel
theorem dX7_missing_68 : decode cX7_missing 68 = .ok (.bipush 6, 2) := by decide +kernel
theorem dX7_missing_70 : decode cX7_missing 70 = .ok (.iload_n 1, 1) := by decide +kernel
theorem dX7_missing_71 : decode cX7_missing 71 = .ok (.imul, 1) := by decide +kernel
theorem dX7_missing_72 : decode cX7_missing 72 = .ok (.iload_n 2, 1) := by decide +kernel
theorem dX7_missing_73 : decode cX7_missing 73 = .ok (.iadd, 1) := by decide +kernel
theorem dX7_missing_74 : decode cX7_missing 74 = .ok (.iconst 1, 1) := by decide +kernel
theorem dX7_missing_75 : decode cX7_missing 75 = .ok (.bastore, 1) := by decide +kernel
theorem dX7_missing_76 : decode cX7_missing 76 = .ok (.aload_n 0, 1) := by decide +kernel
theorem dX7_missing_77 : decode cX7_missing 77 = .ok (.getfield 25, 3) := by decide +kernel
theorem dX7_missing_80 : decode cX7_missing 80 = .ok (.iload_n 2, 1) := by decide +kernel
theorem dX7_missing_81 : decode cX7_missing 81 = .ok (.dup2, 1) := by decide +kernel
theorem dX7_missing_82 : decode cX7_missing 82 = .ok (.iaload, 1) := by decide +kernel
theorem dX7_missing_83 : decode cX7_missing 83 = .ok (.iload_n 3, 1) := by decide +kernel
theorem dX7_missing_84 : decode cX7_missing 84 = .ok (.iadd, 1) := by decide +kernel
theorem dX7_missing_85 : decode cX7_missing 85 = .ok (.iastore, 1) := by decide +kernel
theorem dX7_missing_86 : decode cX7_missing 86 = .ok (.aload_n 0, 1) := by decide +kernel
theorem dX7_missing_87 : decode cX7_missing 87 = .ok (.dup, 1) := by decide +kernel
theorem dX7_missing_88 : decode cX7_missing 88 = .ok (.getfield 120, 3) := by decide +kernel
theorem dX7_missing_91 : decode cX7_missing 91 = .ok (.aload_n 0, 1) := by decide +kernel
theorem dX7_missing_92 : decode cX7_missing 92 = .ok (.getfield 22, 3) := by decide +kernel
theorem dX7_missing_95 : decode cX7_missing 95 = .ok (.iload_n 2, 1) := by decide +kernel
theorem dX7_missing_96 : decode cX7_missing 96 = .ok (.iaload, 1) := by decide +kernel
theorem dX7_missing_97 : decode cX7_missing 97 = .ok (.iload_n 3, 1) := by decide +kernel
theorem dX7_missing_98 : decode cX7_missing 98 = .ok (.imul, 1) := by decide +kernel
theorem dX7_missing_99 : decode cX7_missing 99 = .ok (.iadd, 1) := by decide +kernel
theorem dX7_missing_100 : decode cX7_missing 100 = .ok (.putfield 120, 3) := by decide +kernel
theorem dX7_missing_103 : decode cX7_missing 103 = .ok (.aload_n 0, 1) := by decide +kernel
theorem dX7_missing_104 : decode cX7_missing 104 = .ok (.getfield 22, 3) := by decide +kernel
theorem dX7_missing_107 : decode cX7_missing 107 = .ok (.iload_n 2, 1) := by decide +kernel
theorem dX7_missing_108 : decode cX7_missing 108 = .ok (.iaload, 1) := by decide +kernel
theorem dX7_missing_109 : decode cX7_missing 109 = .ok (.iload_n 3, 1) := by decide +kernel
theorem dX7_missing_110 : decode cX7_missing 110 = .ok (.imul, 1) := by decide +kernel
theorem dX7_missing_111 : decode cX7_missing 111 = .ok (.ireturn, 1) := by decide +kernel
theorem dX7_mend_0 : decode cX7_mend 0 = .ok (.iload_n 1, 1) := by decide +kernel
theorem dX7_mend_1 : decode cX7_mend 1 = .ok (.invokestatic 91, 3) := by decide +kernel
theorem dX7_mend_4 : decode cX7_mend 4 = .ok (.ifCond .eq 14, 3) := by decide +kernel
theorem dX7_mend_7 : decode cX7_mend 7 = .ok (.iload_n 2, 1) := by decide +kernel
theorem dX7_mend_8 : decode cX7_mend 8 = .ok (.iconst 0, 1) := by decide +kernel
theorem dX7_mend_9 : decode cX7_mend 9 = .ok (.sipush 1000, 3) := by decide +kernel
theorem dX7_mend_12 : decode cX7_mend 12 = .ok (.invokestatic 83, 3) := by decide +kernel
theorem dX7_mend_15 : decode cX7_mend 15 = .ok (.ifCond .ne 6, 3) := by decide +kernel
theorem dX7_mend_18 : decode cX7_mend 18 = .ok (.bipush (-2), 2) := by decide +kernel
theorem dX7_mend_20 : decode cX7_mend 20 = .ok (.ireturn, 1) := by decide +kernel
theorem dX7_mend_21 : decode cX7_mend 21 = .ok (.iload_n 2, 1) := by decide +kernel
theorem dX7_mend_22 : decode cX7_mend 22 = .ok (.aload_n 0, 1) := by decide +kernel
theorem dX7_mend_23 : decode cX7_mend 23 = .ok (.getfield 25, 3) := by decide +kernel
theorem dX7_mend_26 : decode cX7_mend 26 = .ok (.iload_n 1, 1) := by decide +kernel
theorem dX7_mend_27 : decode cX7_mend 27 = .ok (.iaload, 1) := by decide +kernel
theorem dX7_mend_28 : decode cX7_mend 28 = .ok (.if_icmp .le 6, 3) := by decide +kernel
theorem dX7_mend_31 : decode cX7_mend 31 = .ok (.bipush (-3), 2) := by decide +kernel
theorem dX7_mend_33 : decode cX7_mend 33 = .ok (.ireturn, 1) := by decide +kernel
theorem dX7_mend_34 : decode cX7_mend 34 = .ok (.aload_n 0, 1) := by decide +kernel
theorem dX7_mend_35 : decode cX7_mend 35 = .ok (.getfield 25, 3) := by decide +kernel
theorem dX7_mend_38 : decode cX7_mend 38 = .ok (.iload_n 1, 1) := by decide +kernel
theorem dX7_mend_39 : decode cX7_mend 39 = .ok (.dup2, 1) := by decide +kernel
theorem dX7_mend_40 : decode cX7_mend 40 = .ok (.iaload, 1) := by decide +kernel
theorem dX7_mend_41 : decode cX7_mend 41 = .ok (.iload_n 2, 1) := by decide +kernel
theorem dX7_mend_42 : decode cX7_mend 42 = .ok (.isub, 1) := by decide +kernel
theorem dX7_mend_43 : decode cX7_mend 43 = .ok (.iastore, 1) := by decide +kernel
theorem dX7_mend_44 : decode cX7_mend 44 = .ok (.aload_n 0, 1) := by decide +kernel
theorem dX7_mend_45 : decode cX7_mend 45 = .ok (.getfield 25, 3) := by decide +kernel
theorem dX7_mend_48 : decode cX7_mend 48 = .ok (.iload_n 1, 1) := by decide +kernel
theorem dX7_mend_49 : decode cX7_mend 49 = .ok (.iaload, 1) := by decide +kernel
theorem dX7_mend_50 : decode cX7_mend 50 = .ok (.ireturn, 1) := by decide +kernel
theorem dX7_aboutOf_0 : decode cX7_aboutOf 0 = .ok (.iload_n 2, 1) := by decide +kernel
theorem dX7_aboutOf_1 : decode cX7_aboutOf 1 = .ok (.tableswitch 81 0 5 #[39, 46, 53, 60, 67, 74], 39) := by decide +kernel
theorem dX7_aboutOf_40 : decode cX7_aboutOf 40 = .ok (.aload_n 0, 1) := by decide +kernel
theorem dX7_aboutOf_41 : decode cX7_aboutOf 41 = .ok (.getfield 37, 3) := by decide +kernel
theorem dX7_aboutOf_44 : decode cX7_aboutOf 44 = .ok (.iload_n 1, 1) := by decide +kernel
theorem dX7_aboutOf_45 : decode cX7_aboutOf 45 = .ok (.iaload, 1) := by decide +kernel
theorem dX7_aboutOf_46 : decode cX7_aboutOf 46 = .ok (.ireturn, 1) := by decide +kernel
theorem dX7_aboutOf_47 : decode cX7_aboutOf 47 = .ok (.aload_n 0, 1) := by decide +kernel
theorem dX7_aboutOf_48 : decode cX7_aboutOf 48 = .ok (.getfield 28, 3) := by decide +kernel
theorem dX7_aboutOf_51 : decode cX7_aboutOf 51 = .ok (.iload_n 1, 1) := by decide +kernel
theorem dX7_aboutOf_52 : decode cX7_aboutOf 52 = .ok (.iaload, 1) := by decide +kernel
theorem dX7_aboutOf_53 : decode cX7_aboutOf 53 = .ok (.ireturn, 1) := by decide +kernel
theorem dX7_aboutOf_54 : decode cX7_aboutOf 54 = .ok (.aload_n 0, 1) := by decide +kernel
theorem dX7_aboutOf_55 : decode cX7_aboutOf 55 = .ok (.getfield 31, 3) := by decide +kernel
theorem dX7_aboutOf_58 : decode cX7_aboutOf 58 = .ok (.iload_n 1, 1) := by decide +kernel
theorem dX7_aboutOf_59 : decode cX7_aboutOf 59 = .ok (.iaload, 1) := by decide +kernel
theorem dX7_aboutOf_60 : decode cX7_aboutOf 60 = .ok (.ireturn, 1) := by decide +kernel
theorem dX7_aboutOf_61 : decode cX7_aboutOf 61 = .ok (.aload_n 0, 1) := by decide +kernel
theorem dX7_aboutOf_62 : decode cX7_aboutOf 62 = .ok (.getfield 34, 3) := by decide +kernel
theorem dX7_aboutOf_65 : decode cX7_aboutOf 65 = .ok (.iload_n 1, 1) := by decide +kernel
theorem dX7_aboutOf_66 : decode cX7_aboutOf 66 = .ok (.iaload, 1) := by decide +kernel
theorem dX7_aboutOf_67 : decode cX7_aboutOf 67 = .ok (.ireturn, 1) := by decide +kernel
theorem dX7_aboutOf_68 : decode cX7_aboutOf 68 = .ok (.aload_n 0, 1) := by decide +kernel
theorem dX7_aboutOf_69 : decode cX7_aboutOf 69 = .ok (.getfield 47, 3) := by decide +kernel
theorem dX7_aboutOf_72 : decode cX7_aboutOf 72 = .ok (.iload_n 1, 1) := by decide +kernel
theorem dX7_aboutOf_73 : decode cX7_aboutOf 73 = .ok (.iaload, 1) := by decide +kernel
theorem dX7_aboutOf_74 : decode cX7_aboutOf 74 = .ok (.ireturn, 1) := by decide +kernel
theorem dX7_aboutOf_75 : decode cX7_aboutOf 75 = .ok (.aload_n 0, 1) := by decide +kernel
theorem dX7_aboutOf_76 : decode cX7_aboutOf 76 = .ok (.getfield 50, 3) := by decide +kernel
theorem dX7_aboutOf_79 : decode cX7_aboutOf 79 = .ok (.iload_n 1, 1) := by decide +kernel
theorem dX7_aboutOf_80 : decode cX7_aboutOf 80 = .ok (.iaload, 1) := by decide +kernel
theorem dX7_aboutOf_81 : decode cX7_aboutOf 81 = .ok (.ireturn, 1) := by decide +kernel
theorem dX7_aboutOf_82 : decode cX7_aboutOf 82 = .ok (.aload_n 0, 1) := by decide +kernel
theorem dX7_aboutOf_83 : decode cX7_aboutOf 83 = .ok (.getfield 53, 3) := by decide +kernel
theorem dX7_aboutOf_86 : decode cX7_aboutOf 86 = .ok (.iload_n 1, 1) := by decide +kernel
theorem dX7_aboutOf_87 : decode cX7_aboutOf 87 = .ok (.iaload, 1) := by decide +kernel
theorem dX7_aboutOf_88 : decode cX7_aboutOf 88 = .ok (.ireturn, 1) := by decide +kernel
theorem dX7_about_0 : decode cX7_about 0 = .ok (.aload_n 0, 1) := by decide +kernel
theorem dX7_about_1 : decode cX7_about 1 = .ok (.iload_n 1, 1) := by decide +kernel
theorem dX7_about_2 : decode cX7_about 2 = .ok (.invokevirtual 99, 3) := by decide +kernel
theorem dX7_about_5 : decode cX7_about 5 = .ok (.ifCond .eq 22, 3) := by decide +kernel
theorem dX7_about_8 : decode cX7_about 8 = .ok (.iload_n 2, 1) := by decide +kernel
theorem dX7_about_9 : decode cX7_about 9 = .ok (.iconst 0, 1) := by decide +kernel
theorem dX7_about_10 : decode cX7_about 10 = .ok (.bipush 6, 2) := by decide +kernel
theorem dX7_about_12 : decode cX7_about 12 = .ok (.invokestatic 83, 3) := by decide +kernel
theorem dX7_about_15 : decode cX7_about 15 = .ok (.ifCond .eq 12, 3) := by decide +kernel
theorem dX7_about_18 : decode cX7_about 18 = .ok (.aload_n 0, 1) := by decide +kernel
theorem dX7_about_19 : decode cX7_about 19 = .ok (.iload_n 1, 1) := by decide +kernel
theorem dX7_about_20 : decode cX7_about 20 = .ok (.iload_n 2, 1) := by decide +kernel
theorem dX7_about_21 : decode cX7_about 21 = .ok (.invokevirtual 123, 3) := by decide +kernel
theorem dX7_about_24 : decode cX7_about 24 = .ok (.goto 5, 3) := by decide +kernel
theorem dX7_about_27 : decode cX7_about 27 = .ok (.bipush (-2), 2) := by decide +kernel
theorem dX7_about_29 : decode cX7_about 29 = .ok (.ireturn, 1) := by decide +kernel
theorem dX7_lack_0 : decode cX7_lack 0 = .ok (.iload_n 1, 1) := by decide +kernel
theorem dX7_lack_1 : decode cX7_lack 1 = .ok (.invokestatic 91, 3) := by decide +kernel
theorem dX7_lack_4 : decode cX7_lack 4 = .ok (.ifCond .eq 13, 3) := by decide +kernel
theorem dX7_lack_7 : decode cX7_lack 7 = .ok (.iload_n 2, 1) := by decide +kernel
theorem dX7_lack_8 : decode cX7_lack 8 = .ok (.iconst 0, 1) := by decide +kernel
theorem dX7_lack_9 : decode cX7_lack 9 = .ok (.bipush 65, 2) := by decide +kernel
theorem dX7_lack_11 : decode cX7_lack 11 = .ok (.invokestatic 83, 3) := by decide +kernel
theorem dX7_lack_14 : decode cX7_lack 14 = .ok (.ifCond .ne 6, 3) := by decide +kernel
theorem dX7_lack_17 : decode cX7_lack 17 = .ok (.bipush (-2), 2) := by decide +kernel
theorem dX7_lack_19 : decode cX7_lack 19 = .ok (.ireturn, 1) := by decide +kernel
theorem dX7_lack_20 : decode cX7_lack 20 = .ok (.aload_n 0, 1) := by decide +kernel
theorem dX7_lack_21 : decode cX7_lack 21 = .ok (.invokevirtual 106, 3) := by decide +kernel
theorem dX7_lack_24 : decode cX7_lack 24 = .ok (.aload_n 0, 1) := by decide +kernel
theorem dX7_lack_25 : decode cX7_lack 25 = .ok (.aload_n 0, 1) := by decide +kernel
theorem dX7_lack_26 : decode cX7_lack 26 = .ok (.iconst 1, 1) := by decide +kernel
theorem dX7_lack_27 : decode cX7_lack 27 = .ok (.invokevirtual 109, 3) := by decide +kernel
theorem dX7_lack_30 : decode cX7_lack 30 = .ok (.iload_n 1, 1) := by decide +kernel
theorem dX7_lack_31 : decode cX7_lack 31 = .ok (.iload_n 2, 1) := by decide +kernel
theorem dX7_lack_32 : decode cX7_lack 32 = .ok (.invokevirtual 102, 3) := by decide +kernel
theorem dX7_lack_35 : decode cX7_lack 35 = .ok (.ireturn, 1) := by decide +kernel
theorem dX7_fits_0 : decode cX7_fits 0 = .ok (.aload_n 0, 1) := by decide +kernel
theorem dX7_fits_1 : decode cX7_fits 1 = .ok (.iload_n 1, 1) := by decide +kernel
theorem dX7_fits_2 : decode cX7_fits 2 = .ok (.invokevirtual 127, 3) := by decide +kernel
theorem dX7_fits_5 : decode cX7_fits 5 = .ok (.ifCond .ne 6, 3) := by decide +kernel
theorem dX7_fits_8 : decode cX7_fits 8 = .ok (.bipush (-2), 2) := by decide +kernel
theorem dX7_fits_10 : decode cX7_fits 10 = .ok (.ireturn, 1) := by decide +kernel
theorem dX7_fits_11 : decode cX7_fits 11 = .ok (.aload_n 0, 1) := by decide +kernel
theorem dX7_fits_12 : decode cX7_fits 12 = .ok (.invokevirtual 106, 3) := by decide +kernel
theorem dX7_fits_15 : decode cX7_fits 15 = .ok (.aload_n 0, 1) := by decide +kernel
theorem dX7_fits_16 : decode cX7_fits 16 = .ok (.iload_n 1, 1) := by decide +kernel
theorem dX7_fits_17 : decode cX7_fits 17 = .ok (.invokevirtual 113, 3) := by decide +kernel
theorem dX7_fits_20 : decode cX7_fits 20 = .ok (.ifCond .eq 7, 3) := by decide +kernel
theorem dX7_fits_23 : decode cX7_fits 23 = .ok (.iconst 1, 1) := by decide +kernel
theorem dX7_fits_24 : decode cX7_fits 24 = .ok (.goto 4, 3) := by decide +kernel
theorem dX7_fits_27 : decode cX7_fits 27 = .ok (.iconst 0, 1) := by decide +kernel
theorem dX7_fits_28 : decode cX7_fits 28 = .ok (.ireturn, 1) := by decide +kernel
theorem dX7_best_0 : decode cX7_best 0 = .ok (.aload_n 0, 1) := by decide +kernel
theorem dX7_best_1 : decode cX7_best 1 = .ok (.invokevirtual 106, 3) := by decide +kernel
theorem dX7_best_4 : decode cX7_best 4 = .ok (.aload_n 0, 1) := by decide +kernel
theorem dX7_best_5 : decode cX7_best 5 = .ok (.iconst 1, 1) := by decide +kernel
theorem dX7_best_6 : decode cX7_best 6 = .ok (.invokevirtual 109, 3) := by decide +kernel
theorem dX7_best_9 : decode cX7_best 9 = .ok (.istore_n 1, 1) := by decide +kernel
theorem dX7_best_10 : decode cX7_best 10 = .ok (.aload_n 0, 1) := by decide +kernel
theorem dX7_best_11 : decode cX7_best 11 = .ok (.iconst 0, 1) := by decide +kernel
theorem dX7_best_12 : decode cX7_best 12 = .ok (.invokevirtual 109, 3) := by decide +kernel
theorem dX7_best_15 : decode cX7_best 15 = .ok (.istore_n 2, 1) := by decide +kernel
theorem dX7_best_16 : decode cX7_best 16 = .ok (.aload_n 0, 1) := by decide +kernel
theorem dX7_best_17 : decode cX7_best 17 = .ok (.iload_n 1, 1) := by decide +kernel
theorem dX7_best_18 : decode cX7_best 18 = .ok (.invokevirtual 113, 3) := by decide +kernel
theorem dX7_best_21 : decode cX7_best 21 = .ok (.ifCond .ne 6, 3) := by decide +kernel
theorem dX7_best_24 : decode cX7_best 24 = .ok (.bipush (-3), 2) := by decide +kernel
theorem dX7_best_26 : decode cX7_best 26 = .ok (.ireturn, 1) := by decide +kernel
theorem dX7_best_27 : decode cX7_best 27 = .ok (.iconst 0, 1) := by decide +kernel
theorem dX7_best_28 : decode cX7_best 28 = .ok (.istore_n 3, 1) := by decide +kernel
theorem dX7_best_29 : decode cX7_best 29 = .ok (.iconst 1, 1) := by decide +kernel
theorem dX7_best_30 : decode cX7_best 30 = .ok (.istore 4, 2) := by decide +kernel
theorem dX7_best_32 : decode cX7_best 32 = .ok (.iload 4, 2) := by decide +kernel
theorem dX7_best_34 : decode cX7_best 34 = .ok (.iconst 1, 1) := by decide +kernel
theorem dX7_best_35 : decode cX7_best 35 = .ok (.aload_n 0, 1) := by decide +kernel
theorem dX7_best_36 : decode cX7_best 36 = .ok (.getfield 87, 3) := by decide +kernel
theorem dX7_best_39 : decode cX7_best 39 = .ok (.ishl, 1) := by decide +kernel
theorem dX7_best_40 : decode cX7_best 40 = .ok (.if_icmp .ge 46, 3) := by decide +kernel
theorem dX7_best_43 : decode cX7_best 43 = .ok (.iload 4, 2) := by decide +kernel
theorem dX7_best_45 : decode cX7_best 45 = .ok (.iload_n 2, 1) := by decide +kernel
theorem dX7_best_46 : decode cX7_best 46 = .ok (.iand, 1) := by decide +kernel
theorem dX7_best_47 : decode cX7_best 47 = .ok (.iload 4, 2) := by decide +kernel
theorem dX7_best_49 : decode cX7_best 49 = .ok (.if_icmp .ne 31, 3) := by decide +kernel
theorem dX7_best_52 : decode cX7_best 52 = .ok (.aload_n 0, 1) := by decide +kernel
theorem dX7_best_53 : decode cX7_best 53 = .ok (.iload 4, 2) := by decide +kernel
theorem dX7_best_55 : decode cX7_best 55 = .ok (.invokevirtual 130, 3) := by decide +kernel
theorem dX7_best_58 : decode cX7_best 58 = .ok (.aload_n 0, 1) := by decide +kernel
theorem dX7_best_59 : decode cX7_best 59 = .ok (.iload_n 3, 1) := by decide +kernel
theorem dX7_best_60 : decode cX7_best 60 = .ok (.invokevirtual 130, 3) := by decide +kernel
theorem dX7_best_63 : decode cX7_best 63 = .ok (.if_icmp .le 17, 3) := by decide +kernel
theorem dX7_best_66 : decode cX7_best 66 = .ok (.aload_n 0, 1) := by decide +kernel
theorem dX7_best_67 : decode cX7_best 67 = .ok (.iload 4, 2) := by decide +kernel
theorem dX7_best_69 : decode cX7_best 69 = .ok (.iload_n 1, 1) := by decide +kernel
theorem dX7_best_70 : decode cX7_best 70 = .ok (.ior, 1) := by decide +kernel
theorem dX7_best_71 : decode cX7_best 71 = .ok (.invokevirtual 113, 3) := by decide +kernel
theorem dX7_best_74 : decode cX7_best 74 = .ok (.ifCond .eq 6, 3) := by decide +kernel
theorem dX7_best_77 : decode cX7_best 77 = .ok (.iload 4, 2) := by decide +kernel
theorem dX7_best_79 : decode cX7_best 79 = .ok (.istore_n 3, 1) := by decide +kernel
theorem dX7_best_80 : decode cX7_best 80 = .ok (.iinc 4 1, 3) := by decide +kernel
theorem dX7_best_83 : decode cX7_best 83 = .ok (.goto (-51), 3) := by decide +kernel
theorem dX7_best_86 : decode cX7_best 86 = .ok (.iload_n 3, 1) := by decide +kernel
theorem dX7_best_87 : decode cX7_best 87 = .ok (.ireturn, 1) := by decide +kernel
theorem dX7_dearest_0 : decode cX7_dearest 0 = .ok (.aload_n 0, 1) := by decide +kernel
theorem dX7_dearest_1 : decode cX7_dearest 1 = .ok (.invokevirtual 106, 3) := by decide +kernel
theorem dX7_dearest_4 : decode cX7_dearest 4 = .ok (.aload_n 0, 1) := by decide +kernel
theorem dX7_dearest_5 : decode cX7_dearest 5 = .ok (.iconst 1, 1) := by decide +kernel
theorem dX7_dearest_6 : decode cX7_dearest 6 = .ok (.invokevirtual 109, 3) := by decide +kernel
theorem dX7_dearest_9 : decode cX7_dearest 9 = .ok (.istore_n 1, 1) := by decide +kernel
theorem dX7_dearest_10 : decode cX7_dearest 10 = .ok (.aload_n 0, 1) := by decide +kernel
theorem dX7_dearest_11 : decode cX7_dearest 11 = .ok (.iconst 0, 1) := by decide +kernel
theorem dX7_dearest_12 : decode cX7_dearest 12 = .ok (.invokevirtual 109, 3) := by decide +kernel
theorem dX7_dearest_15 : decode cX7_dearest 15 = .ok (.istore_n 2, 1) := by decide +kernel
theorem dX7_dearest_16 : decode cX7_dearest 16 = .ok (.aload_n 0, 1) := by decide +kernel
theorem dX7_dearest_17 : decode cX7_dearest 17 = .ok (.iload_n 1, 1) := by decide +kernel
theorem dX7_dearest_18 : decode cX7_dearest 18 = .ok (.invokevirtual 116, 3) := by decide +kernel
theorem dX7_dearest_21 : decode cX7_dearest 21 = .ok (.lstore_n 3, 1) := by decide +kernel
theorem dX7_dearest_22 : decode cX7_dearest 22 = .ok (.iconst 0, 1) := by decide +kernel
theorem dX7_dearest_23 : decode cX7_dearest 23 = .ok (.istore 5, 2) := by decide +kernel
theorem dX7_dearest_25 : decode cX7_dearest 25 = .ok (.lconst 0, 1) := by decide +kernel
theorem dX7_dearest_26 : decode cX7_dearest 26 = .ok (.lstore 6, 2) := by decide +kernel
theorem dX7_dearest_28 : decode cX7_dearest 28 = .ok (.iconst 1, 1) := by decide +kernel
theorem dX7_dearest_29 : decode cX7_dearest 29 = .ok (.istore 8, 2) := by decide +kernel
theorem dX7_dearest_31 : decode cX7_dearest 31 = .ok (.iload 8, 2) := by decide +kernel
theorem dX7_dearest_33 : decode cX7_dearest 33 = .ok (.iconst 1, 1) := by decide +kernel
theorem dX7_dearest_34 : decode cX7_dearest 34 = .ok (.aload_n 0, 1) := by decide +kernel
theorem dX7_dearest_35 : decode cX7_dearest 35 = .ok (.getfield 87, 3) := by decide +kernel
theorem dX7_dearest_38 : decode cX7_dearest 38 = .ok (.ishl, 1) := by decide +kernel
theorem dX7_dearest_39 : decode cX7_dearest 39 = .ok (.if_icmp .ge 54, 3) := by decide +kernel
theorem dX7_dearest_42 : decode cX7_dearest 42 = .ok (.iload 8, 2) := by decide +kernel
theorem dX7_dearest_44 : decode cX7_dearest 44 = .ok (.iload_n 2, 1) := by decide +kernel
theorem dX7_dearest_45 : decode cX7_dearest 45 = .ok (.iand, 1) := by decide +kernel
theorem dX7_dearest_46 : decode cX7_dearest 46 = .ok (.iload 8, 2) := by decide +kernel
theorem dX7_dearest_48 : decode cX7_dearest 48 = .ok (.if_icmp .ne 39, 3) := by decide +kernel
theorem dX7_dearest_51 : decode cX7_dearest 51 = .ok (.aload_n 0, 1) := by decide +kernel
theorem dX7_dearest_52 : decode cX7_dearest 52 = .ok (.iload 8, 2) := by decide +kernel
theorem dX7_dearest_54 : decode cX7_dearest 54 = .ok (.invokevirtual 130, 3) := by decide +kernel
theorem dX7_dearest_57 : decode cX7_dearest 57 = .ok (.i2l, 1) := by decide +kernel
theorem dX7_dearest_58 : decode cX7_dearest 58 = .ok (.aload_n 0, 1) := by decide +kernel
theorem dX7_dearest_59 : decode cX7_dearest 59 = .ok (.iload 8, 2) := by decide +kernel
theorem dX7_dearest_61 : decode cX7_dearest 61 = .ok (.iload_n 1, 1) := by decide +kernel
theorem dX7_dearest_62 : decode cX7_dearest 62 = .ok (.ior, 1) := by decide +kernel
theorem dX7_dearest_63 : decode cX7_dearest 63 = .ok (.invokevirtual 116, 3) := by decide +kernel
theorem dX7_dearest_66 : decode cX7_dearest 66 = .ok (.lload_n 3, 1) := by decide +kernel
theorem dX7_dearest_67 : decode cX7_dearest 67 = .ok (.lsub, 1) := by decide +kernel
theorem dX7_dearest_68 : decode cX7_dearest 68 = .ok (.lsub, 1) := by decide +kernel
theorem dX7_dearest_69 : decode cX7_dearest 69 = .ok (.lstore 9, 2) := by decide +kernel
theorem dX7_dearest_71 : decode cX7_dearest 71 = .ok (.lload 9, 2) := by decide +kernel
theorem dX7_dearest_73 : decode cX7_dearest 73 = .ok (.lload 6, 2) := by decide +kernel
theorem dX7_dearest_75 : decode cX7_dearest 75 = .ok (.lcmp, 1) := by decide +kernel
theorem dX7_dearest_76 : decode cX7_dearest 76 = .ok (.ifCond .le 11, 3) := by decide +kernel
theorem dX7_dearest_79 : decode cX7_dearest 79 = .ok (.lload 9, 2) := by decide +kernel
theorem dX7_dearest_81 : decode cX7_dearest 81 = .ok (.lstore 6, 2) := by decide +kernel
theorem dX7_dearest_83 : decode cX7_dearest 83 = .ok (.iload 8, 2) := by decide +kernel
theorem dX7_dearest_85 : decode cX7_dearest 85 = .ok (.istore 5, 2) := by decide +kernel
theorem dX7_dearest_87 : decode cX7_dearest 87 = .ok (.iinc 8 1, 3) := by decide +kernel
theorem dX7_dearest_90 : decode cX7_dearest 90 = .ok (.goto (-59), 3) := by decide +kernel
theorem dX7_dearest_93 : decode cX7_dearest 93 = .ok (.iload 5, 2) := by decide +kernel
theorem dX7_dearest_95 : decode cX7_dearest 95 = .ok (.ireturn, 1) := by decide +kernel
theorem dX7_hired_0 : decode cX7_hired 0 = .ok (.aload_n 0, 1) := by decide +kernel
theorem dX7_hired_1 : decode cX7_hired 1 = .ok (.iload_n 1, 1) := by decide +kernel
theorem dX7_hired_2 : decode cX7_hired 2 = .ok (.invokevirtual 127, 3) := by decide +kernel
theorem dX7_hired_5 : decode cX7_hired 5 = .ok (.ifCond .ne 7, 3) := by decide +kernel
theorem dX7_hired_8 : decode cX7_hired 8 = .ok (.ldc2_w 133, 3) := by decide +kernel
theorem dX7_hired_11 : decode cX7_hired 11 = .ok (.lreturn, 1) := by decide +kernel
theorem dX7_hired_12 : decode cX7_hired 12 = .ok (.aload_n 0, 1) := by decide +kernel
theorem dX7_hired_13 : decode cX7_hired 13 = .ok (.invokevirtual 106, 3) := by decide +kernel
theorem dX7_hired_16 : decode cX7_hired 16 = .ok (.aload_n 0, 1) := by decide +kernel
theorem dX7_hired_17 : decode cX7_hired 17 = .ok (.iload_n 1, 1) := by decide +kernel
theorem dX7_hired_18 : decode cX7_hired 18 = .ok (.invokevirtual 116, 3) := by decide +kernel
theorem dX7_hired_21 : decode cX7_hired 21 = .ok (.lreturn, 1) := by decide +kernel
theorem dX7_fewest_0 : decode cX7_fewest 0 = .ok (.aload_n 0, 1) := by decide +kernel
theorem dX7_fewest_1 : decode cX7_fewest 1 = .ok (.invokevirtual 106, 3) := by decide +kernel
theorem dX7_fewest_4 : decode cX7_fewest 4 = .ok (.aload_n 0, 1) := by decide +kernel
theorem dX7_fewest_5 : decode cX7_fewest 5 = .ok (.iconst 1, 1) := by decide +kernel
theorem dX7_fewest_6 : decode cX7_fewest 6 = .ok (.invokevirtual 109, 3) := by decide +kernel
theorem dX7_fewest_9 : decode cX7_fewest 9 = .ok (.istore_n 1, 1) := by decide +kernel
theorem dX7_fewest_10 : decode cX7_fewest 10 = .ok (.iload_n 1, 1) := by decide +kernel
theorem dX7_fewest_11 : decode cX7_fewest 11 = .ok (.istore_n 2, 1) := by decide +kernel
theorem dX7_fewest_12 : decode cX7_fewest 12 = .ok (.iconst 0, 1) := by decide +kernel
theorem dX7_fewest_13 : decode cX7_fewest 13 = .ok (.istore_n 3, 1) := by decide +kernel
theorem dX7_fewest_14 : decode cX7_fewest 14 = .ok (.iload_n 3, 1) := by decide +kernel
theorem dX7_fewest_15 : decode cX7_fewest 15 = .ok (.iconst 1, 1) := by decide +kernel
theorem dX7_fewest_16 : decode cX7_fewest 16 = .ok (.aload_n 0, 1) := by decide +kernel
theorem dX7_fewest_17 : decode cX7_fewest 17 = .ok (.getfield 87, 3) := by decide +kernel
theorem dX7_fewest_20 : decode cX7_fewest 20 = .ok (.ishl, 1) := by decide +kernel
theorem dX7_fewest_21 : decode cX7_fewest 21 = .ok (.if_icmp .ge 95, 3) := by decide +kernel
theorem dX7_fewest_24 : decode cX7_fewest 24 = .ok (.iload_n 3, 1) := by decide +kernel
theorem dX7_fewest_25 : decode cX7_fewest 25 = .ok (.invokestatic 135, 3) := by decide +kernel
theorem dX7_fewest_28 : decode cX7_fewest 28 = .ok (.iload_n 2, 1) := by decide +kernel
theorem dX7_fewest_29 : decode cX7_fewest 29 = .ok (.invokestatic 135, 3) := by decide +kernel
theorem dX7_fewest_32 : decode cX7_fewest 32 = .ok (.if_icmp .lt 45, 3) := by decide +kernel
theorem dX7_fewest_35 : decode cX7_fewest 35 = .ok (.iload_n 3, 1) := by decide +kernel
theorem dX7_fewest_36 : decode cX7_fewest 36 = .ok (.invokestatic 135, 3) := by decide +kernel
theorem dX7_fewest_39 : decode cX7_fewest 39 = .ok (.iload_n 2, 1) := by decide +kernel
theorem dX7_fewest_40 : decode cX7_fewest 40 = .ok (.invokestatic 135, 3) := by decide +kernel
theorem dX7_fewest_43 : decode cX7_fewest 43 = .ok (.if_icmp .ne 38, 3) := by decide +kernel
theorem dX7_fewest_46 : decode cX7_fewest 46 = .ok (.aload_n 0, 1) := by decide +kernel
theorem dX7_fewest_47 : decode cX7_fewest 47 = .ok (.iload_n 3, 1) := by decide +kernel
theorem dX7_fewest_48 : decode cX7_fewest 48 = .ok (.invokevirtual 130, 3) := by decide +kernel
theorem dX7_fewest_51 : decode cX7_fewest 51 = .ok (.aload_n 0, 1) := by decide +kernel
theorem dX7_fewest_52 : decode cX7_fewest 52 = .ok (.iload_n 2, 1) := by decide +kernel
theorem dX7_fewest_53 : decode cX7_fewest 53 = .ok (.invokevirtual 130, 3) := by decide +kernel
theorem dX7_fewest_56 : decode cX7_fewest 56 = .ok (.if_icmp .lt 21, 3) := by decide +kernel
theorem dX7_fewest_59 : decode cX7_fewest 59 = .ok (.aload_n 0, 1) := by decide +kernel
theorem dX7_fewest_60 : decode cX7_fewest 60 = .ok (.iload_n 3, 1) := by decide +kernel
theorem dX7_fewest_61 : decode cX7_fewest 61 = .ok (.invokevirtual 130, 3) := by decide +kernel
theorem dX7_fewest_64 : decode cX7_fewest 64 = .ok (.aload_n 0, 1) := by decide +kernel
theorem dX7_fewest_65 : decode cX7_fewest 65 = .ok (.iload_n 2, 1) := by decide +kernel
theorem dX7_fewest_66 : decode cX7_fewest 66 = .ok (.invokevirtual 130, 3) := by decide +kernel
theorem dX7_fewest_69 : decode cX7_fewest 69 = .ok (.if_icmp .ne 12, 3) := by decide +kernel
theorem dX7_fewest_72 : decode cX7_fewest 72 = .ok (.iload_n 3, 1) := by decide +kernel
theorem dX7_fewest_73 : decode cX7_fewest 73 = .ok (.iload_n 2, 1) := by decide +kernel
theorem dX7_fewest_74 : decode cX7_fewest 74 = .ok (.if_icmp .ge 7, 3) := by decide +kernel
theorem dX7_fewest_77 : decode cX7_fewest 77 = .ok (.iconst 1, 1) := by decide +kernel
theorem dX7_fewest_78 : decode cX7_fewest 78 = .ok (.goto 4, 3) := by decide +kernel
theorem dX7_fewest_81 : decode cX7_fewest 81 = .ok (.iconst 0, 1) := by decide +kernel
theorem dX7_fewest_82 : decode cX7_fewest 82 = .ok (.istore 4, 2) := by decide +kernel
theorem dX7_fewest_84 : decode cX7_fewest 84 = .ok (.iload_n 3, 1) := by decide +kernel
theorem dX7_fewest_85 : decode cX7_fewest 85 = .ok (.iload_n 1, 1) := by decide +kernel
theorem dX7_fewest_86 : decode cX7_fewest 86 = .ok (.iand, 1) := by decide +kernel
theorem dX7_fewest_87 : decode cX7_fewest 87 = .ok (.iload_n 3, 1) := by decide +kernel
theorem dX7_fewest_88 : decode cX7_fewest 88 = .ok (.if_icmp .ne 22, 3) := by decide +kernel
theorem dX7_fewest_91 : decode cX7_fewest 91 = .ok (.iload 4, 2) := by decide +kernel
theorem dX7_fewest_93 : decode cX7_fewest 93 = .ok (.ifCond .eq 17, 3) := by decide +kernel
theorem dX7_fewest_96 : decode cX7_fewest 96 = .ok (.aload_n 0, 1) := by decide +kernel
theorem dX7_fewest_97 : decode cX7_fewest 97 = .ok (.iload_n 1, 1) := by decide +kernel
theorem dX7_fewest_98 : decode cX7_fewest 98 = .ok (.iload_n 3, 1) := by decide +kernel
theorem dX7_fewest_99 : decode cX7_fewest 99 = .ok (.iconst (-1), 1) := by decide +kernel
theorem dX7_fewest_100 : decode cX7_fewest 100 = .ok (.ixor, 1) := by decide +kernel
theorem dX7_fewest_101 : decode cX7_fewest 101 = .ok (.iand, 1) := by decide +kernel
theorem dX7_fewest_102 : decode cX7_fewest 102 = .ok (.invokevirtual 113, 3) := by decide +kernel
theorem dX7_fewest_105 : decode cX7_fewest 105 = .ok (.ifCond .eq 5, 3) := by decide +kernel
theorem dX7_fewest_108 : decode cX7_fewest 108 = .ok (.iload_n 3, 1) := by decide +kernel
theorem dX7_fewest_109 : decode cX7_fewest 109 = .ok (.istore_n 2, 1) := by decide +kernel
theorem dX7_fewest_110 : decode cX7_fewest 110 = .ok (.iinc 3 1, 3) := by decide +kernel
theorem dX7_fewest_113 : decode cX7_fewest 113 = .ok (.goto (-99), 3) := by decide +kernel
theorem dX7_fewest_116 : decode cX7_fewest 116 = .ok (.iload_n 2, 1) := by decide +kernel
theorem dX7_fewest_117 : decode cX7_fewest 117 = .ok (.ireturn, 1) := by decide +kernel
theorem dX7_isGuests_0 : decode cX7_isGuests 0 = .ok (.iload_n 0, 1) := by decide +kernel
theorem dX7_isGuests_1 : decode cX7_isGuests 1 = .ok (.iconst 1, 1) := by decide +kernel
theorem dX7_isGuests_2 : decode cX7_isGuests 2 = .ok (.sipush 5000, 3) := by decide +kernel
theorem dX7_isGuests_5 : decode cX7_isGuests 5 = .ok (.invokestatic 83, 3) := by decide +kernel
theorem dX7_isGuests_8 : decode cX7_isGuests 8 = .ok (.ireturn, 1) := by decide +kernel
theorem dX7_bays_0 : decode cX7_bays 0 = .ok (.iload_n 1, 1) := by decide +kernel
theorem dX7_bays_1 : decode cX7_bays 1 = .ok (.invokestatic 138, 3) := by decide +kernel
theorem dX7_bays_4 : decode cX7_bays 4 = .ok (.ifCond .eq 23, 3) := by decide +kernel
theorem dX7_bays_7 : decode cX7_bays 7 = .ok (.iload_n 2, 1) := by decide +kernel
theorem dX7_bays_8 : decode cX7_bays 8 = .ok (.iconst 4, 1) := by decide +kernel
theorem dX7_bays_9 : decode cX7_bays 9 = .ok (.bipush 60, 2) := by decide +kernel
theorem dX7_bays_11 : decode cX7_bays 11 = .ok (.invokestatic 83, 3) := by decide +kernel
theorem dX7_bays_14 : decode cX7_bays 14 = .ok (.ifCond .eq 13, 3) := by decide +kernel
theorem dX7_bays_17 : decode cX7_bays 17 = .ok (.iload_n 1, 1) := by decide +kernel
theorem dX7_bays_18 : decode cX7_bays 18 = .ok (.iload_n 2, 1) := by decide +kernel
theorem dX7_bays_19 : decode cX7_bays 19 = .ok (.iadd, 1) := by decide +kernel
theorem dX7_bays_20 : decode cX7_bays 20 = .ok (.iconst 1, 1) := by decide +kernel
theorem dX7_bays_21 : decode cX7_bays 21 = .ok (.isub, 1) := by decide +kernel
theorem dX7_bays_22 : decode cX7_bays 22 = .ok (.iload_n 2, 1) := by decide +kernel
theorem dX7_bays_23 : decode cX7_bays 23 = .ok (.idiv, 1) := by decide +kernel
theorem dX7_bays_24 : decode cX7_bays 24 = .ok (.goto 5, 3) := by decide +kernel
theorem dX7_bays_27 : decode cX7_bays 27 = .ok (.bipush (-2), 2) := by decide +kernel
theorem dX7_bays_29 : decode cX7_bays 29 = .ok (.ireturn, 1) := by decide +kernel
theorem dX7_law_0 : decode cX7_law 0 = .ok (.iload_n 1, 1) := by decide +kernel
theorem dX7_law_1 : decode cX7_law 1 = .ok (.invokestatic 138, 3) := by decide +kernel
theorem dX7_law_4 : decode cX7_law 4 = .ok (.ifCond .eq 14, 3) := by decide +kernel
theorem dX7_law_7 : decode cX7_law 7 = .ok (.iload_n 2, 1) := by decide +kernel
theorem dX7_law_8 : decode cX7_law 8 = .ok (.iconst 1, 1) := by decide +kernel
theorem dX7_law_9 : decode cX7_law 9 = .ok (.sipush 200, 3) := by decide +kernel
theorem dX7_law_12 : decode cX7_law 12 = .ok (.invokestatic 83, 3) := by decide +kernel
theorem dX7_law_15 : decode cX7_law 15 = .ok (.ifCond .ne 6, 3) := by decide +kernel
theorem dX7_law_18 : decode cX7_law 18 = .ok (.bipush (-2), 2) := by decide +kernel
theorem dX7_law_20 : decode cX7_law 20 = .ok (.ireturn, 1) := by decide +kernel
theorem dX7_law_21 : decode cX7_law 21 = .ok (.aload_n 0, 1) := by decide +kernel
theorem dX7_law_22 : decode cX7_law 22 = .ok (.getfield 141, 3) := by decide +kernel
theorem dX7_law_25 : decode cX7_law 25 = .ok (.ifCond .le 36, 3) := by decide +kernel
theorem dX7_law_28 : decode cX7_law 28 = .ok (.iload_n 1, 1) := by decide +kernel
theorem dX7_law_29 : decode cX7_law 29 = .ok (.aload_n 0, 1) := by decide +kernel
theorem dX7_law_30 : decode cX7_law 30 = .ok (.getfield 59, 3) := by decide +kernel
theorem dX7_law_33 : decode cX7_law 33 = .ok (.aload_n 0, 1) := by decide +kernel
theorem dX7_law_34 : decode cX7_law 34 = .ok (.getfield 141, 3) := by decide +kernel
theorem dX7_law_37 : decode cX7_law 37 = .ok (.iconst 1, 1) := by decide +kernel
theorem dX7_law_38 : decode cX7_law 38 = .ok (.isub, 1) := by decide +kernel
theorem dX7_law_39 : decode cX7_law 39 = .ok (.iaload, 1) := by decide +kernel
theorem dX7_law_40 : decode cX7_law 40 = .ok (.if_icmp .le 18, 3) := by decide +kernel
theorem dX7_law_43 : decode cX7_law 43 = .ok (.iload_n 2, 1) := by decide +kernel
theorem dX7_law_44 : decode cX7_law 44 = .ok (.aload_n 0, 1) := by decide +kernel
theorem dX7_law_45 : decode cX7_law 45 = .ok (.getfield 62, 3) := by decide +kernel
theorem dX7_law_48 : decode cX7_law 48 = .ok (.aload_n 0, 1) := by decide +kernel
theorem dX7_law_49 : decode cX7_law 49 = .ok (.getfield 141, 3) := by decide +kernel
theorem dX7_law_52 : decode cX7_law 52 = .ok (.iconst 1, 1) := by decide +kernel
theorem dX7_law_53 : decode cX7_law 53 = .ok (.isub, 1) := by decide +kernel
theorem dX7_law_54 : decode cX7_law 54 = .ok (.iaload, 1) := by decide +kernel
theorem dX7_law_55 : decode cX7_law 55 = .ok (.if_icmp .gt 6, 3) := by decide +kernel
theorem dX7_law_58 : decode cX7_law 58 = .ok (.bipush (-3), 2) := by decide +kernel
theorem dX7_law_60 : decode cX7_law 60 = .ok (.ireturn, 1) := by decide +kernel
theorem dX7_law_61 : decode cX7_law 61 = .ok (.aload_n 0, 1) := by decide +kernel
theorem dX7_law_62 : decode cX7_law 62 = .ok (.getfield 141, 3) := by decide +kernel
theorem dX7_law_65 : decode cX7_law 65 = .ok (.bipush 6, 2) := by decide +kernel
theorem dX7_law_67 : decode cX7_law 67 = .ok (.if_icmp .ne 6, 3) := by decide +kernel
theorem dX7_law_70 : decode cX7_law 70 = .ok (.bipush (-4), 2) := by decide +kernel
theorem dX7_law_72 : decode cX7_law 72 = .ok (.ireturn, 1) := by decide +kernel
theorem dX7_law_73 : decode cX7_law 73 = .ok (.aload_n 0, 1) := by decide +kernel
theorem dX7_law_74 : decode cX7_law 74 = .ok (.getfield 59, 3) := by decide +kernel
theorem dX7_law_77 : decode cX7_law 77 = .ok (.aload_n 0, 1) := by decide +kernel
theorem dX7_law_78 : decode cX7_law 78 = .ok (.getfield 141, 3) := by decide +kernel
theorem dX7_law_81 : decode cX7_law 81 = .ok (.iload_n 1, 1) := by decide +kernel
theorem dX7_law_82 : decode cX7_law 82 = .ok (.iastore, 1) := by decide +kernel
theorem dX7_law_83 : decode cX7_law 83 = .ok (.aload_n 0, 1) := by decide +kernel
theorem dX7_law_84 : decode cX7_law 84 = .ok (.getfield 62, 3) := by decide +kernel
theorem dX7_law_87 : decode cX7_law 87 = .ok (.aload_n 0, 1) := by decide +kernel
theorem dX7_law_88 : decode cX7_law 88 = .ok (.getfield 141, 3) := by decide +kernel
theorem dX7_law_91 : decode cX7_law 91 = .ok (.iload_n 2, 1) := by decide +kernel
theorem dX7_law_92 : decode cX7_law 92 = .ok (.iastore, 1) := by decide +kernel
theorem dX7_law_93 : decode cX7_law 93 = .ok (.aload_n 0, 1) := by decide +kernel
theorem dX7_law_94 : decode cX7_law 94 = .ok (.dup, 1) := by decide +kernel
theorem dX7_law_95 : decode cX7_law 95 = .ok (.getfield 141, 3) := by decide +kernel
theorem dX7_law_98 : decode cX7_law 98 = .ok (.iconst 1, 1) := by decide +kernel
theorem dX7_law_99 : decode cX7_law 99 = .ok (.iadd, 1) := by decide +kernel
theorem dX7_law_100 : decode cX7_law 100 = .ok (.putfield 141, 3) := by decide +kernel
theorem dX7_law_103 : decode cX7_law 103 = .ok (.aload_n 0, 1) := by decide +kernel
theorem dX7_law_104 : decode cX7_law 104 = .ok (.getfield 141, 3) := by decide +kernel
theorem dX7_law_107 : decode cX7_law 107 = .ok (.ireturn, 1) := by decide +kernel
theorem dX7_unlaw_0 : decode cX7_unlaw 0 = .ok (.aload_n 0, 1) := by decide +kernel
theorem dX7_unlaw_1 : decode cX7_unlaw 1 = .ok (.getfield 141, 3) := by decide +kernel
theorem dX7_unlaw_4 : decode cX7_unlaw 4 = .ok (.istore_n 1, 1) := by decide +kernel
theorem dX7_unlaw_5 : decode cX7_unlaw 5 = .ok (.aload_n 0, 1) := by decide +kernel
theorem dX7_unlaw_6 : decode cX7_unlaw 6 = .ok (.iconst 0, 1) := by decide +kernel
theorem dX7_unlaw_7 : decode cX7_unlaw 7 = .ok (.putfield 141, 3) := by decide +kernel
theorem dX7_unlaw_10 : decode cX7_unlaw 10 = .ok (.iload_n 1, 1) := by decide +kernel
theorem dX7_unlaw_11 : decode cX7_unlaw 11 = .ok (.ireturn, 1) := by decide +kernel
theorem dX7_doorsFor_0 : decode cX7_doorsFor 0 = .ok (.iconst 1, 1) := by decide +kernel
theorem dX7_doorsFor_1 : decode cX7_doorsFor 1 = .ok (.istore_n 2, 1) := by decide +kernel
theorem dX7_doorsFor_2 : decode cX7_doorsFor 2 = .ok (.iconst 0, 1) := by decide +kernel
theorem dX7_doorsFor_3 : decode cX7_doorsFor 3 = .ok (.istore_n 3, 1) := by decide +kernel
theorem dX7_doorsFor_4 : decode cX7_doorsFor 4 = .ok (.iload_n 3, 1) := by decide +kernel
theorem dX7_doorsFor_5 : decode cX7_doorsFor 5 = .ok (.aload_n 0, 1) := by decide +kernel
theorem dX7_doorsFor_6 : decode cX7_doorsFor 6 = .ok (.getfield 141, 3) := by decide +kernel
theorem dX7_doorsFor_9 : decode cX7_doorsFor 9 = .ok (.if_icmp .ge 30, 3) := by decide +kernel
theorem dX7_doorsFor_12 : decode cX7_doorsFor 12 = .ok (.aload_n 0, 1) := by decide +kernel
theorem dX7_doorsFor_13 : decode cX7_doorsFor 13 = .ok (.getfield 59, 3) := by decide +kernel
theorem dX7_doorsFor_16 : decode cX7_doorsFor 16 = .ok (.iload_n 3, 1) := by decide +kernel
theorem dX7_doorsFor_17 : decode cX7_doorsFor 17 = .ok (.iaload, 1) := by decide +kernel
theorem dX7_doorsFor_18 : decode cX7_doorsFor 18 = .ok (.iload_n 1, 1) := by decide +kernel
theorem dX7_doorsFor_19 : decode cX7_doorsFor 19 = .ok (.if_icmp .gt 12, 3) := by decide +kernel
theorem dX7_doorsFor_22 : decode cX7_doorsFor 22 = .ok (.aload_n 0, 1) := by decide +kernel
theorem dX7_doorsFor_23 : decode cX7_doorsFor 23 = .ok (.getfield 62, 3) := by decide +kernel
theorem dX7_doorsFor_26 : decode cX7_doorsFor 26 = .ok (.iload_n 3, 1) := by decide +kernel
theorem dX7_doorsFor_27 : decode cX7_doorsFor 27 = .ok (.iaload, 1) := by decide +kernel
theorem dX7_doorsFor_28 : decode cX7_doorsFor 28 = .ok (.goto 4, 3) := by decide +kernel
theorem dX7_doorsFor_31 : decode cX7_doorsFor 31 = .ok (.iload_n 2, 1) := by decide +kernel
theorem dX7_doorsFor_32 : decode cX7_doorsFor 32 = .ok (.istore_n 2, 1) := by decide +kernel
theorem dX7_doorsFor_33 : decode cX7_doorsFor 33 = .ok (.iinc 3 1, 3) := by decide +kernel
theorem dX7_doorsFor_36 : decode cX7_doorsFor 36 = .ok (.goto (-32), 3) := by decide +kernel
theorem dX7_doorsFor_39 : decode cX7_doorsFor 39 = .ok (.iload_n 2, 1) := by decide +kernel
theorem dX7_doorsFor_40 : decode cX7_doorsFor 40 = .ok (.ireturn, 1) := by decide +kernel
theorem dX7_doors_0 : decode cX7_doors 0 = .ok (.iload_n 1, 1) := by decide +kernel
theorem dX7_doors_1 : decode cX7_doors 1 = .ok (.invokestatic 138, 3) := by decide +kernel
theorem dX7_doors_4 : decode cX7_doors 4 = .ok (.ifCond .eq 11, 3) := by decide +kernel
theorem dX7_doors_7 : decode cX7_doors 7 = .ok (.aload_n 0, 1) := by decide +kernel
theorem dX7_doors_8 : decode cX7_doors 8 = .ok (.iload_n 1, 1) := by decide +kernel
theorem dX7_doors_9 : decode cX7_doors 9 = .ok (.invokevirtual 144, 3) := by decide +kernel
theorem dX7_doors_12 : decode cX7_doors 12 = .ok (.goto 5, 3) := by decide +kernel
theorem dX7_doors_15 : decode cX7_doors 15 = .ok (.bipush (-2), 2) := by decide +kernel
theorem dX7_doors_17 : decode cX7_doors 17 = .ok (.ireturn, 1) := by decide +kernel
theorem dX7_keeps_0 : decode cX7_keeps 0 = .ok (.iload_n 1, 1) := by decide +kernel
theorem dX7_keeps_1 : decode cX7_keeps 1 = .ok (.invokestatic 138, 3) := by decide +kernel
theorem dX7_keeps_4 : decode cX7_keeps 4 = .ok (.ifCond .eq 14, 3) := by decide +kernel
theorem dX7_keeps_7 : decode cX7_keeps 7 = .ok (.iload_n 2, 1) := by decide +kernel
theorem dX7_keeps_8 : decode cX7_keeps 8 = .ok (.iconst 1, 1) := by decide +kernel
theorem dX7_keeps_9 : decode cX7_keeps 9 = .ok (.sipush 2000, 3) := by decide +kernel
theorem dX7_keeps_12 : decode cX7_keeps 12 = .ok (.invokestatic 83, 3) := by decide +kernel
theorem dX7_keeps_15 : decode cX7_keeps 15 = .ok (.ifCond .ne 8, 3) := by decide +kernel
theorem dX7_keeps_18 : decode cX7_keeps 18 = .ok (.bipush (-2), 2) := by decide +kernel
theorem dX7_keeps_20 : decode cX7_keeps 20 = .ok (.goto 21, 3) := by decide +kernel
theorem dX7_keeps_23 : decode cX7_keeps 23 = .ok (.aload_n 0, 1) := by decide +kernel
theorem dX7_keeps_24 : decode cX7_keeps 24 = .ok (.iload_n 1, 1) := by decide +kernel
theorem dX7_keeps_25 : decode cX7_keeps 25 = .ok (.invokevirtual 144, 3) := by decide +kernel
theorem dX7_keeps_28 : decode cX7_keeps 28 = .ok (.iconst 2, 1) := by decide +kernel
theorem dX7_keeps_29 : decode cX7_keeps 29 = .ok (.iload_n 2, 1) := by decide +kernel
theorem dX7_keeps_30 : decode cX7_keeps 30 = .ok (.imul, 1) := by decide +kernel
theorem dX7_keeps_31 : decode cX7_keeps 31 = .ok (.iconst 2, 1) := by decide +kernel
theorem dX7_keeps_32 : decode cX7_keeps 32 = .ok (.iadd, 1) := by decide +kernel
theorem dX7_keeps_33 : decode cX7_keeps 33 = .ok (.if_icmp .gt 7, 3) := by decide +kernel
theorem dX7_keeps_36 : decode cX7_keeps 36 = .ok (.iconst 1, 1) := by decide +kernel
theorem dX7_keeps_37 : decode cX7_keeps 37 = .ok (.goto 4, 3) := by decide +kernel
theorem dX7_keeps_40 : decode cX7_keeps 40 = .ok (.iconst 0, 1) := by decide +kernel
theorem dX7_keeps_41 : decode cX7_keeps 41 = .ok (.ireturn, 1) := by decide +kernel
theorem dX7_soil_0 : decode cX7_soil 0 = .ok (.iload_n 1, 1) := by decide +kernel
theorem dX7_soil_1 : decode cX7_soil 1 = .ok (.iconst 0, 1) := by decide +kernel
theorem dX7_soil_2 : decode cX7_soil 2 = .ok (.iconst 3, 1) := by decide +kernel
theorem dX7_soil_3 : decode cX7_soil 3 = .ok (.invokestatic 83, 3) := by decide +kernel
theorem dX7_soil_6 : decode cX7_soil 6 = .ok (.ifCond .eq 14, 3) := by decide +kernel
theorem dX7_soil_9 : decode cX7_soil 9 = .ok (.iload_n 2, 1) := by decide +kernel
theorem dX7_soil_10 : decode cX7_soil 10 = .ok (.iconst 1, 1) := by decide +kernel
theorem dX7_soil_11 : decode cX7_soil 11 = .ok (.sipush 1000, 3) := by decide +kernel
theorem dX7_soil_14 : decode cX7_soil 14 = .ok (.invokestatic 83, 3) := by decide +kernel
theorem dX7_soil_17 : decode cX7_soil 17 = .ok (.ifCond .ne 6, 3) := by decide +kernel
theorem dX7_soil_20 : decode cX7_soil 20 = .ok (.bipush (-2), 2) := by decide +kernel
theorem dX7_soil_22 : decode cX7_soil 22 = .ok (.ireturn, 1) := by decide +kernel
theorem dX7_soil_23 : decode cX7_soil 23 = .ok (.aload_n 0, 1) := by decide +kernel
theorem dX7_soil_24 : decode cX7_soil 24 = .ok (.getfield 65, 3) := by decide +kernel
theorem dX7_soil_27 : decode cX7_soil 27 = .ok (.iload_n 1, 1) := by decide +kernel
theorem dX7_soil_28 : decode cX7_soil 28 = .ok (.iaload, 1) := by decide +kernel
theorem dX7_soil_29 : decode cX7_soil 29 = .ok (.istore_n 3, 1) := by decide +kernel
theorem dX7_soil_30 : decode cX7_soil 30 = .ok (.aload_n 0, 1) := by decide +kernel
theorem dX7_soil_31 : decode cX7_soil 31 = .ok (.getfield 65, 3) := by decide +kernel
theorem dX7_soil_34 : decode cX7_soil 34 = .ok (.iload_n 1, 1) := by decide +kernel
theorem dX7_soil_35 : decode cX7_soil 35 = .ok (.iload_n 2, 1) := by decide +kernel
theorem dX7_soil_36 : decode cX7_soil 36 = .ok (.iastore, 1) := by decide +kernel
theorem dX7_soil_37 : decode cX7_soil 37 = .ok (.iload_n 3, 1) := by decide +kernel
theorem dX7_soil_38 : decode cX7_soil 38 = .ok (.ireturn, 1) := by decide +kernel
theorem dX7_pitch_0 : decode cX7_pitch 0 = .ok (.aload_n 0, 1) := by decide +kernel
theorem dX7_pitch_1 : decode cX7_pitch 1 = .ok (.iload_n 1, 1) := by decide +kernel
theorem dX7_pitch_2 : decode cX7_pitch 2 = .ok (.invokevirtual 99, 3) := by decide +kernel
theorem dX7_pitch_5 : decode cX7_pitch 5 = .ok (.ifCond .eq 34, 3) := by decide +kernel
theorem dX7_pitch_8 : decode cX7_pitch 8 = .ok (.iload_n 2, 1) := by decide +kernel
theorem dX7_pitch_9 : decode cX7_pitch 9 = .ok (.iconst 0, 1) := by decide +kernel
theorem dX7_pitch_10 : decode cX7_pitch 10 = .ok (.iconst 3, 1) := by decide +kernel
theorem dX7_pitch_11 : decode cX7_pitch 11 = .ok (.invokestatic 83, 3) := by decide +kernel
theorem dX7_pitch_14 : decode cX7_pitch 14 = .ok (.ifCond .eq 25, 3) := by decide +kernel
theorem dX7_pitch_17 : decode cX7_pitch 17 = .ok (.iload_n 3, 1) := by decide +kernel
theorem dX7_pitch_18 : decode cX7_pitch 18 = .ok (.iconst 0, 1) := by decide +kernel
theorem dX7_pitch_19 : decode cX7_pitch 19 = .ok (.bipush 99, 2) := by decide +kernel
theorem dX7_pitch_21 : decode cX7_pitch 21 = .ok (.invokestatic 83, 3) := by decide +kernel
theorem dX7_pitch_24 : decode cX7_pitch 24 = .ok (.ifCond .eq 15, 3) := by decide +kernel
theorem dX7_pitch_27 : decode cX7_pitch 27 = .ok (.iload 4, 2) := by decide +kernel
theorem dX7_pitch_29 : decode cX7_pitch 29 = .ok (.iconst 0, 1) := by decide +kernel
theorem dX7_pitch_30 : decode cX7_pitch 30 = .ok (.sipush 999, 3) := by decide +kernel
theorem dX7_pitch_33 : decode cX7_pitch 33 = .ok (.invokestatic 83, 3) := by decide +kernel
theorem dX7_pitch_36 : decode cX7_pitch 36 = .ok (.ifCond .ne 6, 3) := by decide +kernel
theorem dX7_pitch_39 : decode cX7_pitch 39 = .ok (.bipush (-2), 2) := by decide +kernel
theorem dX7_pitch_41 : decode cX7_pitch 41 = .ok (.ireturn, 1) := by decide +kernel
theorem dX7_pitch_42 : decode cX7_pitch 42 = .ok (.aload_n 0, 1) := by decide +kernel
theorem dX7_pitch_43 : decode cX7_pitch 43 = .ok (.getfield 47, 3) := by decide +kernel
theorem dX7_pitch_46 : decode cX7_pitch 46 = .ok (.iload_n 1, 1) := by decide +kernel
theorem dX7_pitch_47 : decode cX7_pitch 47 = .ok (.iload_n 2, 1) := by decide +kernel
theorem dX7_pitch_48 : decode cX7_pitch 48 = .ok (.iastore, 1) := by decide +kernel
theorem dX7_pitch_49 : decode cX7_pitch 49 = .ok (.aload_n 0, 1) := by decide +kernel
theorem dX7_pitch_50 : decode cX7_pitch 50 = .ok (.getfield 50, 3) := by decide +kernel
theorem dX7_pitch_53 : decode cX7_pitch 53 = .ok (.iload_n 1, 1) := by decide +kernel
theorem dX7_pitch_54 : decode cX7_pitch 54 = .ok (.iload_n 3, 1) := by decide +kernel
theorem dX7_pitch_55 : decode cX7_pitch 55 = .ok (.iastore, 1) := by decide +kernel
theorem dX7_pitch_56 : decode cX7_pitch 56 = .ok (.aload_n 0, 1) := by decide +kernel
theorem dX7_pitch_57 : decode cX7_pitch 57 = .ok (.getfield 53, 3) := by decide +kernel
theorem dX7_pitch_60 : decode cX7_pitch 60 = .ok (.iload_n 1, 1) := by decide +kernel
theorem dX7_pitch_61 : decode cX7_pitch 61 = .ok (.iload 4, 2) := by decide +kernel
theorem dX7_pitch_63 : decode cX7_pitch 63 = .ok (.iastore, 1) := by decide +kernel
theorem dX7_pitch_64 : decode cX7_pitch 64 = .ok (.iconst 1, 1) := by decide +kernel
theorem dX7_pitch_65 : decode cX7_pitch 65 = .ok (.ireturn, 1) := by decide +kernel
theorem dX7_doesBear_0 : decode cX7_doesBear 0 = .ok (.iload_n 2, 1) := by decide +kernel
theorem dX7_doesBear_1 : decode cX7_doesBear 1 = .ok (.iload_n 2, 1) := by decide +kernel
theorem dX7_doesBear_2 : decode cX7_doesBear 2 = .ok (.imul, 1) := by decide +kernel
theorem dX7_doesBear_3 : decode cX7_doesBear 3 = .ok (.aload_n 0, 1) := by decide +kernel
theorem dX7_doesBear_4 : decode cX7_doesBear 4 = .ok (.getfield 50, 3) := by decide +kernel
theorem dX7_doesBear_7 : decode cX7_doesBear 7 = .ok (.iload_n 1, 1) := by decide +kernel
theorem dX7_doesBear_8 : decode cX7_doesBear 8 = .ok (.iaload, 1) := by decide +kernel
theorem dX7_doesBear_9 : decode cX7_doesBear 9 = .ok (.imul, 1) := by decide +kernel
theorem dX7_doesBear_10 : decode cX7_doesBear 10 = .ok (.aload_n 0, 1) := by decide +kernel
theorem dX7_doesBear_11 : decode cX7_doesBear 11 = .ok (.getfield 65, 3) := by decide +kernel
theorem dX7_doesBear_14 : decode cX7_doesBear 14 = .ok (.aload_n 0, 1) := by decide +kernel
theorem dX7_doesBear_15 : decode cX7_doesBear 15 = .ok (.getfield 47, 3) := by decide +kernel
theorem dX7_doesBear_18 : decode cX7_doesBear 18 = .ok (.iload_n 1, 1) := by decide +kernel
theorem dX7_doesBear_19 : decode cX7_doesBear 19 = .ok (.iaload, 1) := by decide +kernel
theorem dX7_doesBear_20 : decode cX7_doesBear 20 = .ok (.iaload, 1) := by decide +kernel
theorem dX7_doesBear_21 : decode cX7_doesBear 21 = .ok (.aload_n 0, 1) := by decide +kernel
theorem dX7_doesBear_22 : decode cX7_doesBear 22 = .ok (.getfield 53, 3) := by decide +kernel
theorem dX7_doesBear_25 : decode cX7_doesBear 25 = .ok (.iload_n 1, 1) := by decide +kernel
theorem dX7_doesBear_26 : decode cX7_doesBear 26 = .ok (.iaload, 1) := by decide +kernel
theorem dX7_doesBear_27 : decode cX7_doesBear 27 = .ok (.imul, 1) := by decide +kernel
theorem dX7_doesBear_28 : decode cX7_doesBear 28 = .ok (.if_icmp .gt 7, 3) := by decide +kernel
theorem dX7_doesBear_31 : decode cX7_doesBear 31 = .ok (.iconst 1, 1) := by decide +kernel
theorem dX7_doesBear_32 : decode cX7_doesBear 32 = .ok (.goto 4, 3) := by decide +kernel
theorem dX7_doesBear_35 : decode cX7_doesBear 35 = .ok (.iconst 0, 1) := by decide +kernel
theorem dX7_doesBear_36 : decode cX7_doesBear 36 = .ok (.ireturn, 1) := by decide +kernel
theorem dX7_bears_0 : decode cX7_bears 0 = .ok (.aload_n 0, 1) := by decide +kernel
theorem dX7_bears_1 : decode cX7_bears 1 = .ok (.iload_n 1, 1) := by decide +kernel
theorem dX7_bears_2 : decode cX7_bears 2 = .ok (.invokevirtual 99, 3) := by decide +kernel
theorem dX7_bears_5 : decode cX7_bears 5 = .ok (.ifCond .ne 6, 3) := by decide +kernel
theorem dX7_bears_8 : decode cX7_bears 8 = .ok (.bipush (-2), 2) := by decide +kernel
theorem dX7_bears_10 : decode cX7_bears 10 = .ok (.ireturn, 1) := by decide +kernel
theorem dX7_bears_11 : decode cX7_bears 11 = .ok (.bipush 60, 2) := by decide +kernel
theorem dX7_bears_13 : decode cX7_bears 13 = .ok (.istore_n 2, 1) := by decide +kernel
theorem dX7_bears_14 : decode cX7_bears 14 = .ok (.aload_n 0, 1) := by decide +kernel
theorem dX7_bears_15 : decode cX7_bears 15 = .ok (.iload_n 1, 1) := by decide +kernel
theorem dX7_bears_16 : decode cX7_bears 16 = .ok (.iload_n 2, 1) := by decide +kernel
theorem dX7_bears_17 : decode cX7_bears 17 = .ok (.invokevirtual 147, 3) := by decide +kernel
theorem dX7_bears_20 : decode cX7_bears 20 = .ok (.ifCond .ne 9, 3) := by decide +kernel
theorem dX7_bears_23 : decode cX7_bears 23 = .ok (.iinc 2 (-1), 3) := by decide +kernel
theorem dX7_bears_26 : decode cX7_bears 26 = .ok (.goto (-12), 3) := by decide +kernel
theorem dX7_bears_29 : decode cX7_bears 29 = .ok (.iload_n 2, 1) := by decide +kernel
theorem dX7_bears_30 : decode cX7_bears 30 = .ok (.ireturn, 1) := by decide +kernel
theorem dX7_gust_0 : decode cX7_gust 0 = .ok (.iload_n 1, 1) := by decide +kernel
theorem dX7_gust_1 : decode cX7_gust 1 = .ok (.invokestatic 95, 3) := by decide +kernel
theorem dX7_gust_4 : decode cX7_gust 4 = .ok (.ifCond .eq 13, 3) := by decide +kernel
theorem dX7_gust_7 : decode cX7_gust 7 = .ok (.iload_n 2, 1) := by decide +kernel
theorem dX7_gust_8 : decode cX7_gust 8 = .ok (.iconst 0, 1) := by decide +kernel
theorem dX7_gust_9 : decode cX7_gust 9 = .ok (.bipush 60, 2) := by decide +kernel
theorem dX7_gust_11 : decode cX7_gust 11 = .ok (.invokestatic 83, 3) := by decide +kernel
theorem dX7_gust_14 : decode cX7_gust 14 = .ok (.ifCond .ne 6, 3) := by decide +kernel
theorem dX7_gust_17 : decode cX7_gust 17 = .ok (.bipush (-2), 2) := by decide +kernel
theorem dX7_gust_19 : decode cX7_gust 19 = .ok (.ireturn, 1) := by decide +kernel
theorem dX7_gust_20 : decode cX7_gust 20 = .ok (.iconst 0, 1) := by decide +kernel
theorem dX7_gust_21 : decode cX7_gust 21 = .ok (.istore_n 3, 1) := by decide +kernel
theorem dX7_gust_22 : decode cX7_gust 22 = .ok (.iconst 0, 1) := by decide +kernel
theorem dX7_gust_23 : decode cX7_gust 23 = .ok (.istore 4, 2) := by decide +kernel
theorem dX7_gust_25 : decode cX7_gust 25 = .ok (.iload 4, 2) := by decide +kernel
theorem dX7_gust_27 : decode cX7_gust 27 = .ok (.aload_n 0, 1) := by decide +kernel
theorem dX7_gust_28 : decode cX7_gust 28 = .ok (.getfield 87, 3) := by decide +kernel
theorem dX7_gust_31 : decode cX7_gust 31 = .ok (.if_icmp .ge 62, 3) := by decide +kernel
theorem dX7_gust_34 : decode cX7_gust 34 = .ok (.iload_n 3, 1) := by decide +kernel
theorem dX7_gust_35 : decode cX7_gust 35 = .ok (.aload_n 0, 1) := by decide +kernel
theorem dX7_gust_36 : decode cX7_gust 36 = .ok (.getfield 37, 3) := by decide +kernel
theorem dX7_gust_39 : decode cX7_gust 39 = .ok (.iload 4, 2) := by decide +kernel
theorem dX7_gust_41 : decode cX7_gust 41 = .ok (.iaload, 1) := by decide +kernel
theorem dX7_gust_42 : decode cX7_gust 42 = .ok (.iconst 1, 1) := by decide +kernel
theorem dX7_gust_43 : decode cX7_gust 43 = .ok (.if_icmp .ne 41, 3) := by decide +kernel
theorem dX7_gust_46 : decode cX7_gust 46 = .ok (.iload_n 1, 1) := by decide +kernel
theorem dX7_gust_47 : decode cX7_gust 47 = .ok (.aload_n 0, 1) := by decide +kernel
theorem dX7_gust_48 : decode cX7_gust 48 = .ok (.getfield 28, 3) := by decide +kernel
theorem dX7_gust_51 : decode cX7_gust 51 = .ok (.iload 4, 2) := by decide +kernel
theorem dX7_gust_53 : decode cX7_gust 53 = .ok (.iaload, 1) := by decide +kernel
theorem dX7_gust_54 : decode cX7_gust 54 = .ok (.aload_n 0, 1) := by decide +kernel
theorem dX7_gust_55 : decode cX7_gust 55 = .ok (.getfield 31, 3) := by decide +kernel
theorem dX7_gust_58 : decode cX7_gust 58 = .ok (.iload 4, 2) := by decide +kernel
theorem dX7_gust_60 : decode cX7_gust 60 = .ok (.iaload, 1) := by decide +kernel
theorem dX7_gust_61 : decode cX7_gust 61 = .ok (.invokestatic 83, 3) := by decide +kernel
theorem dX7_gust_64 : decode cX7_gust 64 = .ok (.ifCond .eq 20, 3) := by decide +kernel
theorem dX7_gust_67 : decode cX7_gust 67 = .ok (.aload_n 0, 1) := by decide +kernel
theorem dX7_gust_68 : decode cX7_gust 68 = .ok (.iload 4, 2) := by decide +kernel
theorem dX7_gust_70 : decode cX7_gust 70 = .ok (.iload_n 2, 1) := by decide +kernel
theorem dX7_gust_71 : decode cX7_gust 71 = .ok (.invokevirtual 147, 3) := by decide +kernel
theorem dX7_gust_74 : decode cX7_gust 74 = .ok (.ifCond .ne 10, 3) := by decide +kernel
theorem dX7_gust_77 : decode cX7_gust 77 = .ok (.iconst 1, 1) := by decide +kernel
theorem dX7_gust_78 : decode cX7_gust 78 = .ok (.iload 4, 2) := by decide +kernel
theorem dX7_gust_80 : decode cX7_gust 80 = .ok (.ishl, 1) := by decide +kernel
theorem dX7_gust_81 : decode cX7_gust 81 = .ok (.goto 4, 3) := by decide +kernel
theorem dX7_gust_84 : decode cX7_gust 84 = .ok (.iconst 0, 1) := by decide +kernel
theorem dX7_gust_85 : decode cX7_gust 85 = .ok (.ior, 1) := by decide +kernel
theorem dX7_gust_86 : decode cX7_gust 86 = .ok (.istore_n 3, 1) := by decide +kernel
theorem dX7_gust_87 : decode cX7_gust 87 = .ok (.iinc 4 1, 3) := by decide +kernel
theorem dX7_gust_90 : decode cX7_gust 90 = .ok (.goto (-65), 3) := by decide +kernel
theorem dX7_gust_93 : decode cX7_gust 93 = .ok (.iload_n 3, 1) := by decide +kernel
theorem dX7_gust_94 : decode cX7_gust 94 = .ok (.ireturn, 1) := by decide +kernel
theorem dX7_isOfDay_0 : decode cX7_isOfDay 0 = .ok (.aload_n 0, 1) := by decide +kernel
theorem dX7_isOfDay_1 : decode cX7_isOfDay 1 = .ok (.getfield 37, 3) := by decide +kernel
theorem dX7_isOfDay_4 : decode cX7_isOfDay 4 = .ok (.iload_n 1, 1) := by decide +kernel
theorem dX7_isOfDay_5 : decode cX7_isOfDay 5 = .ok (.iaload, 1) := by decide +kernel
theorem dX7_isOfDay_6 : decode cX7_isOfDay 6 = .ok (.iconst 1, 1) := by decide +kernel
theorem dX7_isOfDay_7 : decode cX7_isOfDay 7 = .ok (.if_icmp .ne 27, 3) := by decide +kernel
theorem dX7_isOfDay_10 : decode cX7_isOfDay 10 = .ok (.aload_n 0, 1) := by decide +kernel
theorem dX7_isOfDay_11 : decode cX7_isOfDay 11 = .ok (.getfield 28, 3) := by decide +kernel
theorem dX7_isOfDay_14 : decode cX7_isOfDay 14 = .ok (.iload_n 1, 1) := by decide +kernel
theorem dX7_isOfDay_15 : decode cX7_isOfDay 15 = .ok (.iaload, 1) := by decide +kernel
theorem dX7_isOfDay_16 : decode cX7_isOfDay 16 = .ok (.iload_n 2, 1) := by decide +kernel
theorem dX7_isOfDay_17 : decode cX7_isOfDay 17 = .ok (.if_icmp .eq 13, 3) := by decide +kernel
theorem dX7_isOfDay_20 : decode cX7_isOfDay 20 = .ok (.aload_n 0, 1) := by decide +kernel
theorem dX7_isOfDay_21 : decode cX7_isOfDay 21 = .ok (.getfield 31, 3) := by decide +kernel
theorem dX7_isOfDay_24 : decode cX7_isOfDay 24 = .ok (.iload_n 1, 1) := by decide +kernel
theorem dX7_isOfDay_25 : decode cX7_isOfDay 25 = .ok (.iaload, 1) := by decide +kernel
theorem dX7_isOfDay_26 : decode cX7_isOfDay 26 = .ok (.iload_n 2, 1) := by decide +kernel
theorem dX7_isOfDay_27 : decode cX7_isOfDay 27 = .ok (.if_icmp .ne 7, 3) := by decide +kernel
theorem dX7_isOfDay_30 : decode cX7_isOfDay 30 = .ok (.iconst 1, 1) := by decide +kernel
theorem dX7_isOfDay_31 : decode cX7_isOfDay 31 = .ok (.goto 4, 3) := by decide +kernel
theorem dX7_isOfDay_34 : decode cX7_isOfDay 34 = .ok (.iconst 0, 1) := by decide +kernel
theorem dX7_isOfDay_35 : decode cX7_isOfDay 35 = .ok (.ireturn, 1) := by decide +kernel
theorem dX7_greatest_0 : decode cX7_greatest 0 = .ok (.iload_n 1, 1) := by decide +kernel
theorem dX7_greatest_1 : decode cX7_greatest 1 = .ok (.istore_n 3, 1) := by decide +kernel
theorem dX7_greatest_2 : decode cX7_greatest 2 = .ok (.iconst 0, 1) := by decide +kernel
theorem dX7_greatest_3 : decode cX7_greatest 3 = .ok (.istore 4, 2) := by decide +kernel
theorem dX7_greatest_5 : decode cX7_greatest 5 = .ok (.iload 4, 2) := by decide +kernel
theorem dX7_greatest_7 : decode cX7_greatest 7 = .ok (.iconst 3, 1) := by decide +kernel
theorem dX7_greatest_8 : decode cX7_greatest 8 = .ok (.if_icmp .ge 17, 3) := by decide +kernel
theorem dX7_greatest_11 : decode cX7_greatest 11 = .ok (.aload_n 0, 1) := by decide +kernel
theorem dX7_greatest_12 : decode cX7_greatest 12 = .ok (.getfield 80, 3) := by decide +kernel
theorem dX7_greatest_15 : decode cX7_greatest 15 = .ok (.iload 4, 2) := by decide +kernel
theorem dX7_greatest_17 : decode cX7_greatest 17 = .ok (.iconst 0, 1) := by decide +kernel
theorem dX7_greatest_18 : decode cX7_greatest 18 = .ok (.iastore, 1) := by decide +kernel
theorem dX7_greatest_19 : decode cX7_greatest 19 = .ok (.iinc 4 1, 3) := by decide +kernel
theorem dX7_greatest_22 : decode cX7_greatest 22 = .ok (.goto (-17), 3) := by decide +kernel
theorem dX7_greatest_25 : decode cX7_greatest 25 = .ok (.aload_n 0, 1) := by decide +kernel
theorem dX7_greatest_26 : decode cX7_greatest 26 = .ok (.getfield 151, 3) := by decide +kernel
theorem dX7_greatest_29 : decode cX7_greatest 29 = .ok (.iconst 1, 1) := by decide +kernel
theorem dX7_greatest_30 : decode cX7_greatest 30 = .ok (.isub, 1) := by decide +kernel
theorem dX7_greatest_31 : decode cX7_greatest 31 = .ok (.istore 4, 2) := by decide +kernel
theorem dX7_greatest_33 : decode cX7_greatest 33 = .ok (.iload 4, 2) := by decide +kernel
theorem dX7_greatest_35 : decode cX7_greatest 35 = .ok (.ifCond .lt 54, 3) := by decide +kernel
theorem dX7_greatest_38 : decode cX7_greatest 38 = .ok (.aload_n 0, 1) := by decide +kernel
theorem dX7_greatest_39 : decode cX7_greatest 39 = .ok (.getfield 74, 3) := by decide +kernel
theorem dX7_greatest_42 : decode cX7_greatest 42 = .ok (.iload 4, 2) := by decide +kernel
theorem dX7_greatest_44 : decode cX7_greatest 44 = .ok (.iload_n 3, 1) := by decide +kernel
theorem dX7_greatest_45 : decode cX7_greatest 45 = .ok (.iload_n 2, 1) := by decide +kernel
theorem dX7_greatest_46 : decode cX7_greatest 46 = .ok (.irem, 1) := by decide +kernel
theorem dX7_greatest_47 : decode cX7_greatest 47 = .ok (.iastore, 1) := by decide +kernel
theorem dX7_greatest_48 : decode cX7_greatest 48 = .ok (.iload_n 3, 1) := by decide +kernel
theorem dX7_greatest_49 : decode cX7_greatest 49 = .ok (.iload_n 2, 1) := by decide +kernel
theorem dX7_greatest_50 : decode cX7_greatest 50 = .ok (.idiv, 1) := by decide +kernel
theorem dX7_greatest_51 : decode cX7_greatest 51 = .ok (.istore_n 3, 1) := by decide +kernel
theorem dX7_greatest_52 : decode cX7_greatest 52 = .ok (.aload_n 0, 1) := by decide +kernel
theorem dX7_greatest_53 : decode cX7_greatest 53 = .ok (.getfield 80, 3) := by decide +kernel
theorem dX7_greatest_56 : decode cX7_greatest 56 = .ok (.aload_n 0, 1) := by decide +kernel
theorem dX7_greatest_57 : decode cX7_greatest 57 = .ok (.getfield 74, 3) := by decide +kernel
theorem dX7_greatest_60 : decode cX7_greatest 60 = .ok (.iload 4, 2) := by decide +kernel
theorem dX7_greatest_62 : decode cX7_greatest 62 = .ok (.iaload, 1) := by decide +kernel
theorem dX7_greatest_63 : decode cX7_greatest 63 = .ok (.dup2, 1) := by decide +kernel
theorem dX7_greatest_64 : decode cX7_greatest 64 = .ok (.iaload, 1) := by decide +kernel
theorem dX7_greatest_65 : decode cX7_greatest 65 = .ok (.iconst 2, 1) := by decide +kernel
theorem dX7_greatest_66 : decode cX7_greatest 66 = .ok (.aload_n 0, 1) := by decide +kernel
theorem dX7_greatest_67 : decode cX7_greatest 67 = .ok (.getfield 50, 3) := by decide +kernel
theorem dX7_greatest_70 : decode cX7_greatest 70 = .ok (.aload_n 0, 1) := by decide +kernel
theorem dX7_greatest_71 : decode cX7_greatest 71 = .ok (.getfield 71, 3) := by decide +kernel
theorem dX7_greatest_74 : decode cX7_greatest 74 = .ok (.iload 4, 2) := by decide +kernel
theorem dX7_greatest_76 : decode cX7_greatest 76 = .ok (.iaload, 1) := by decide +kernel
theorem dX7_greatest_77 : decode cX7_greatest 77 = .ok (.iaload, 1) := by decide +kernel
theorem dX7_greatest_78 : decode cX7_greatest 78 = .ok (.imul, 1) := by decide +kernel
theorem dX7_greatest_79 : decode cX7_greatest 79 = .ok (.iconst 1, 1) := by decide +kernel
theorem dX7_greatest_80 : decode cX7_greatest 80 = .ok (.iadd, 1) := by decide +kernel
theorem dX7_greatest_81 : decode cX7_greatest 81 = .ok (.iadd, 1) := by decide +kernel
theorem dX7_greatest_82 : decode cX7_greatest 82 = .ok (.iastore, 1) := by decide +kernel
theorem dX7_greatest_83 : decode cX7_greatest 83 = .ok (.iinc 4 (-1), 3) := by decide +kernel
theorem dX7_greatest_86 : decode cX7_greatest 86 = .ok (.goto (-53), 3) := by decide +kernel
theorem dX7_greatest_89 : decode cX7_greatest 89 = .ok (.iconst 0, 1) := by decide +kernel
theorem dX7_greatest_90 : decode cX7_greatest 90 = .ok (.istore 4, 2) := by decide +kernel
theorem dX7_greatest_92 : decode cX7_greatest 92 = .ok (.iconst 0, 1) := by decide +kernel
theorem dX7_greatest_93 : decode cX7_greatest 93 = .ok (.istore 5, 2) := by decide +kernel
theorem dX7_greatest_95 : decode cX7_greatest 95 = .ok (.iload 5, 2) := by decide +kernel
theorem dX7_greatest_97 : decode cX7_greatest 97 = .ok (.iconst 3, 1) := by decide +kernel
theorem dX7_greatest_98 : decode cX7_greatest 98 = .ok (.if_icmp .ge 35, 3) := by decide +kernel
theorem dX7_greatest_101 : decode cX7_greatest 101 = .ok (.aload_n 0, 1) := by decide +kernel
theorem dX7_greatest_102 : decode cX7_greatest 102 = .ok (.getfield 80, 3) := by decide +kernel
theorem dX7_greatest_105 : decode cX7_greatest 105 = .ok (.iload 5, 2) := by decide +kernel
theorem dX7_greatest_107 : decode cX7_greatest 107 = .ok (.iaload, 1) := by decide +kernel
theorem dX7_greatest_108 : decode cX7_greatest 108 = .ok (.iload 4, 2) := by decide +kernel
theorem dX7_greatest_110 : decode cX7_greatest 110 = .ok (.if_icmp .le 13, 3) := by decide +kernel
theorem dX7_greatest_113 : decode cX7_greatest 113 = .ok (.aload_n 0, 1) := by decide +kernel
theorem dX7_greatest_114 : decode cX7_greatest 114 = .ok (.getfield 80, 3) := by decide +kernel
theorem dX7_greatest_117 : decode cX7_greatest 117 = .ok (.iload 5, 2) := by decide +kernel
theorem dX7_greatest_119 : decode cX7_greatest 119 = .ok (.iaload, 1) := by decide +kernel
theorem dX7_greatest_120 : decode cX7_greatest 120 = .ok (.goto 5, 3) := by decide +kernel
theorem dX7_greatest_123 : decode cX7_greatest 123 = .ok (.iload 4, 2) := by decide +kernel
theorem dX7_greatest_125 : decode cX7_greatest 125 = .ok (.istore 4, 2) := by decide +kernel
theorem dX7_greatest_127 : decode cX7_greatest 127 = .ok (.iinc 5 1, 3) := by decide +kernel
theorem dX7_greatest_130 : decode cX7_greatest 130 = .ok (.goto (-35), 3) := by decide +kernel
theorem dX7_greatest_133 : decode cX7_greatest 133 = .ok (.iload 4, 2) := by decide +kernel
theorem dX7_greatest_135 : decode cX7_greatest 135 = .ok (.ireturn, 1) := by decide +kernel
theorem dX7_deals_0 : decode cX7_deals 0 = .ok (.aload_n 0, 1) := by decide +kernel
theorem dX7_deals_1 : decode cX7_deals 1 = .ok (.iconst 0, 1) := by decide +kernel
theorem dX7_deals_2 : decode cX7_deals 2 = .ok (.putfield 151, 3) := by decide +kernel
theorem dX7_deals_5 : decode cX7_deals 5 = .ok (.iconst 1, 1) := by decide +kernel
theorem dX7_deals_6 : decode cX7_deals 6 = .ok (.istore_n 3, 1) := by decide +kernel
theorem dX7_deals_7 : decode cX7_deals 7 = .ok (.iconst 0, 1) := by decide +kernel
theorem dX7_deals_8 : decode cX7_deals 8 = .ok (.istore 4, 2) := by decide +kernel
theorem dX7_deals_10 : decode cX7_deals 10 = .ok (.iload 4, 2) := by decide +kernel
theorem dX7_deals_12 : decode cX7_deals 12 = .ok (.aload_n 0, 1) := by decide +kernel
theorem dX7_deals_13 : decode cX7_deals 13 = .ok (.getfield 87, 3) := by decide +kernel
theorem dX7_deals_16 : decode cX7_deals 16 = .ok (.if_icmp .ge 44, 3) := by decide +kernel
theorem dX7_deals_19 : decode cX7_deals 19 = .ok (.aload_n 0, 1) := by decide +kernel
theorem dX7_deals_20 : decode cX7_deals 20 = .ok (.iload 4, 2) := by decide +kernel
theorem dX7_deals_22 : decode cX7_deals 22 = .ok (.iload_n 1, 1) := by decide +kernel
theorem dX7_deals_23 : decode cX7_deals 23 = .ok (.invokevirtual 154, 3) := by decide +kernel
theorem dX7_deals_26 : decode cX7_deals 26 = .ok (.ifCond .eq 28, 3) := by decide +kernel
theorem dX7_deals_29 : decode cX7_deals 29 = .ok (.aload_n 0, 1) := by decide +kernel
theorem dX7_deals_30 : decode cX7_deals 30 = .ok (.getfield 71, 3) := by decide +kernel
theorem dX7_deals_33 : decode cX7_deals 33 = .ok (.aload_n 0, 1) := by decide +kernel
theorem dX7_deals_34 : decode cX7_deals 34 = .ok (.getfield 151, 3) := by decide +kernel
theorem dX7_deals_37 : decode cX7_deals 37 = .ok (.iload 4, 2) := by decide +kernel
theorem dX7_deals_39 : decode cX7_deals 39 = .ok (.iastore, 1) := by decide +kernel
theorem dX7_deals_40 : decode cX7_deals 40 = .ok (.aload_n 0, 1) := by decide +kernel
theorem dX7_deals_41 : decode cX7_deals 41 = .ok (.dup, 1) := by decide +kernel
theorem dX7_deals_42 : decode cX7_deals 42 = .ok (.getfield 151, 3) := by decide +kernel
theorem dX7_deals_45 : decode cX7_deals 45 = .ok (.iconst 1, 1) := by decide +kernel
theorem dX7_deals_46 : decode cX7_deals 46 = .ok (.iadd, 1) := by decide +kernel
theorem dX7_deals_47 : decode cX7_deals 47 = .ok (.putfield 151, 3) := by decide +kernel
theorem dX7_deals_50 : decode cX7_deals 50 = .ok (.iload_n 3, 1) := by decide +kernel
theorem dX7_deals_51 : decode cX7_deals 51 = .ok (.iload_n 2, 1) := by decide +kernel
theorem dX7_deals_52 : decode cX7_deals 52 = .ok (.imul, 1) := by decide +kernel
theorem dX7_deals_53 : decode cX7_deals 53 = .ok (.istore_n 3, 1) := by decide +kernel
theorem dX7_deals_54 : decode cX7_deals 54 = .ok (.iinc 4 1, 3) := by decide +kernel
theorem dX7_deals_57 : decode cX7_deals 57 = .ok (.goto (-47), 3) := by decide +kernel
theorem dX7_deals_60 : decode cX7_deals 60 = .ok (.iconst (-1), 1) := by decide +kernel
theorem dX7_deals_61 : decode cX7_deals 61 = .ok (.istore 4, 2) := by decide +kernel
theorem dX7_deals_63 : decode cX7_deals 63 = .ok (.iconst 0, 1) := by decide +kernel
theorem dX7_deals_64 : decode cX7_deals 64 = .ok (.istore 5, 2) := by decide +kernel
theorem dX7_deals_66 : decode cX7_deals 66 = .ok (.iload 5, 2) := by decide +kernel
theorem dX7_deals_68 : decode cX7_deals 68 = .ok (.iload_n 3, 1) := by decide +kernel
theorem dX7_deals_69 : decode cX7_deals 69 = .ok (.if_icmp .ge 67, 3) := by decide +kernel
theorem dX7_deals_72 : decode cX7_deals 72 = .ok (.aload_n 0, 1) := by decide +kernel
theorem dX7_deals_73 : decode cX7_deals 73 = .ok (.iload 5, 2) := by decide +kernel
theorem dX7_deals_75 : decode cX7_deals 75 = .ok (.iload_n 2, 1) := by decide +kernel
theorem dX7_deals_76 : decode cX7_deals 76 = .ok (.invokevirtual 157, 3) := by decide +kernel
theorem dX7_deals_79 : decode cX7_deals 79 = .ok (.istore 6, 2) := by decide +kernel
theorem dX7_deals_81 : decode cX7_deals 81 = .ok (.iload 4, 2) := by decide +kernel
theorem dX7_deals_83 : decode cX7_deals 83 = .ok (.iconst (-1), 1) := by decide +kernel
theorem dX7_deals_84 : decode cX7_deals 84 = .ok (.if_icmp .eq 10, 3) := by decide +kernel
theorem dX7_deals_87 : decode cX7_deals 87 = .ok (.iload 6, 2) := by decide +kernel
theorem dX7_deals_89 : decode cX7_deals 89 = .ok (.iload 4, 2) := by decide +kernel
theorem dX7_deals_91 : decode cX7_deals 91 = .ok (.if_icmp .ge 39, 3) := by decide +kernel
theorem dX7_deals_94 : decode cX7_deals 94 = .ok (.iload 6, 2) := by decide +kernel
theorem dX7_deals_96 : decode cX7_deals 96 = .ok (.istore 4, 2) := by decide +kernel
theorem dX7_deals_98 : decode cX7_deals 98 = .ok (.iconst 0, 1) := by decide +kernel
theorem dX7_deals_99 : decode cX7_deals 99 = .ok (.istore 7, 2) := by decide +kernel
theorem dX7_deals_101 : decode cX7_deals 101 = .ok (.iload 7, 2) := by decide +kernel
theorem dX7_deals_103 : decode cX7_deals 103 = .ok (.aload_n 0, 1) := by decide +kernel
theorem dX7_deals_104 : decode cX7_deals 104 = .ok (.getfield 151, 3) := by decide +kernel
theorem dX7_deals_107 : decode cX7_deals 107 = .ok (.if_icmp .ge 23, 3) := by decide +kernel
theorem dX7_deals_110 : decode cX7_deals 110 = .ok (.aload_n 0, 1) := by decide +kernel
theorem dX7_deals_111 : decode cX7_deals 111 = .ok (.getfield 77, 3) := by decide +kernel
theorem dX7_deals_114 : decode cX7_deals 114 = .ok (.iload 7, 2) := by decide +kernel
theorem dX7_deals_116 : decode cX7_deals 116 = .ok (.aload_n 0, 1) := by decide +kernel
theorem dX7_deals_117 : decode cX7_deals 117 = .ok (.getfield 74, 3) := by decide +kernel
theorem dX7_deals_120 : decode cX7_deals 120 = .ok (.iload 7, 2) := by decide +kernel
theorem dX7_deals_122 : decode cX7_deals 122 = .ok (.iaload, 1) := by decide +kernel
theorem dX7_deals_123 : decode cX7_deals 123 = .ok (.iastore, 1) := by decide +kernel
theorem dX7_deals_124 : decode cX7_deals 124 = .ok (.iinc 7 1, 3) := by decide +kernel
theorem dX7_deals_127 : decode cX7_deals 127 = .ok (.goto (-26), 3) := by decide +kernel
theorem dX7_deals_130 : decode cX7_deals 130 = .ok (.iinc 5 1, 3) := by decide +kernel
theorem dX7_deals_133 : decode cX7_deals 133 = .ok (.goto (-67), 3) := by decide +kernel
theorem dX7_deals_136 : decode cX7_deals 136 = .ok (.iload 4, 2) := by decide +kernel
theorem dX7_deals_138 : decode cX7_deals 138 = .ok (.ireturn, 1) := by decide +kernel
theorem dX7_hours_0 : decode cX7_hours 0 = .ok (.iload_n 1, 1) := by decide +kernel
theorem dX7_hours_1 : decode cX7_hours 1 = .ok (.invokestatic 95, 3) := by decide +kernel
theorem dX7_hours_4 : decode cX7_hours 4 = .ok (.ifCond .eq 21, 3) := by decide +kernel
theorem dX7_hours_7 : decode cX7_hours 7 = .ok (.iload_n 2, 1) := by decide +kernel
theorem dX7_hours_8 : decode cX7_hours 8 = .ok (.iconst 1, 1) := by decide +kernel
theorem dX7_hours_9 : decode cX7_hours 9 = .ok (.iconst 3, 1) := by decide +kernel
theorem dX7_hours_10 : decode cX7_hours 10 = .ok (.invokestatic 83, 3) := by decide +kernel
theorem dX7_hours_13 : decode cX7_hours 13 = .ok (.ifCond .eq 12, 3) := by decide +kernel
theorem dX7_hours_16 : decode cX7_hours 16 = .ok (.aload_n 0, 1) := by decide +kernel
theorem dX7_hours_17 : decode cX7_hours 17 = .ok (.iload_n 1, 1) := by decide +kernel
theorem dX7_hours_18 : decode cX7_hours 18 = .ok (.iload_n 2, 1) := by decide +kernel
theorem dX7_hours_19 : decode cX7_hours 19 = .ok (.invokevirtual 160, 3) := by decide +kernel
theorem dX7_hours_22 : decode cX7_hours 22 = .ok (.goto 5, 3) := by decide +kernel
theorem dX7_hours_25 : decode cX7_hours 25 = .ok (.bipush (-2), 2) := by decide +kernel
theorem dX7_hours_27 : decode cX7_hours 27 = .ok (.ireturn, 1) := by decide +kernel
theorem dX7_crew_0 : decode cX7_crew 0 = .ok (.iload_n 1, 1) := by decide +kernel
theorem dX7_crew_1 : decode cX7_crew 1 = .ok (.invokestatic 95, 3) := by decide +kernel
theorem dX7_crew_4 : decode cX7_crew 4 = .ok (.ifCond .eq 20, 3) := by decide +kernel
theorem dX7_crew_7 : decode cX7_crew 7 = .ok (.iload_n 2, 1) := by decide +kernel
theorem dX7_crew_8 : decode cX7_crew 8 = .ok (.iconst 1, 1) := by decide +kernel
theorem dX7_crew_9 : decode cX7_crew 9 = .ok (.iconst 3, 1) := by decide +kernel
theorem dX7_crew_10 : decode cX7_crew 10 = .ok (.invokestatic 83, 3) := by decide +kernel
theorem dX7_crew_13 : decode cX7_crew 13 = .ok (.ifCond .eq 11, 3) := by decide +kernel
theorem dX7_crew_16 : decode cX7_crew 16 = .ok (.aload_n 0, 1) := by decide +kernel
theorem dX7_crew_17 : decode cX7_crew 17 = .ok (.iload_n 3, 1) := by decide +kernel
theorem dX7_crew_18 : decode cX7_crew 18 = .ok (.invokevirtual 99, 3) := by decide +kernel
theorem dX7_crew_21 : decode cX7_crew 21 = .ok (.ifCond .ne 6, 3) := by decide +kernel
theorem dX7_crew_24 : decode cX7_crew 24 = .ok (.bipush (-2), 2) := by decide +kernel
theorem dX7_crew_26 : decode cX7_crew 26 = .ok (.ireturn, 1) := by decide +kernel
theorem dX7_crew_27 : decode cX7_crew 27 = .ok (.aload_n 0, 1) := by decide +kernel
theorem dX7_crew_28 : decode cX7_crew 28 = .ok (.iload_n 1, 1) := by decide +kernel
theorem dX7_crew_29 : decode cX7_crew 29 = .ok (.iload_n 2, 1) := by decide +kernel
theorem dX7_crew_30 : decode cX7_crew 30 = .ok (.invokevirtual 160, 3) := by decide +kernel
theorem dX7_crew_33 : decode cX7_crew 33 = .ok (.pop, 1) := by decide +kernel
theorem dX7_crew_34 : decode cX7_crew 34 = .ok (.iconst 0, 1) := by decide +kernel
theorem dX7_crew_35 : decode cX7_crew 35 = .ok (.istore 4, 2) := by decide +kernel
theorem dX7_crew_37 : decode cX7_crew 37 = .ok (.iload 4, 2) := by decide +kernel
theorem dX7_crew_39 : decode cX7_crew 39 = .ok (.aload_n 0, 1) := by decide +kernel
theorem dX7_crew_40 : decode cX7_crew 40 = .ok (.getfield 151, 3) := by decide +kernel
theorem dX7_crew_43 : decode cX7_crew 43 = .ok (.if_icmp .ge 28, 3) := by decide +kernel
theorem dX7_crew_46 : decode cX7_crew 46 = .ok (.aload_n 0, 1) := by decide +kernel
theorem dX7_crew_47 : decode cX7_crew 47 = .ok (.getfield 71, 3) := by decide +kernel
theorem dX7_crew_50 : decode cX7_crew 50 = .ok (.iload 4, 2) := by decide +kernel
theorem dX7_crew_52 : decode cX7_crew 52 = .ok (.iaload, 1) := by decide +kernel
theorem dX7_crew_53 : decode cX7_crew 53 = .ok (.iload_n 3, 1) := by decide +kernel
theorem dX7_crew_54 : decode cX7_crew 54 = .ok (.if_icmp .ne 11, 3) := by decide +kernel
theorem dX7_crew_57 : decode cX7_crew 57 = .ok (.aload_n 0, 1) := by decide +kernel
theorem dX7_crew_58 : decode cX7_crew 58 = .ok (.getfield 77, 3) := by decide +kernel
theorem dX7_crew_61 : decode cX7_crew 61 = .ok (.iload 4, 2) := by decide +kernel
theorem dX7_crew_63 : decode cX7_crew 63 = .ok (.iaload, 1) := by decide +kernel
theorem dX7_crew_64 : decode cX7_crew 64 = .ok (.ireturn, 1) := by decide +kernel
theorem dX7_crew_65 : decode cX7_crew 65 = .ok (.iinc 4 1, 3) := by decide +kernel
theorem dX7_crew_68 : decode cX7_crew 68 = .ok (.goto (-31), 3) := by decide +kernel
theorem dX7_crew_71 : decode cX7_crew 71 = .ok (.iconst (-1), 1) := by decide +kernel
theorem dX7_crew_72 : decode cX7_crew 72 = .ok (.ireturn, 1) := by decide +kernel
theorem dX7_loads_0 : decode cX7_loads 0 = .ok (.iload_n 1, 1) := by decide +kernel
theorem dX7_loads_1 : decode cX7_loads 1 = .ok (.invokestatic 95, 3) := by decide +kernel
theorem dX7_loads_4 : decode cX7_loads 4 = .ok (.ifCond .eq 13, 3) := by decide +kernel
theorem dX7_loads_7 : decode cX7_loads 7 = .ok (.iload_n 2, 1) := by decide +kernel
theorem dX7_loads_8 : decode cX7_loads 8 = .ok (.iconst 1, 1) := by decide +kernel
theorem dX7_loads_9 : decode cX7_loads 9 = .ok (.ldc 98, 2) := by decide +kernel
theorem dX7_loads_11 : decode cX7_loads 11 = .ok (.invokestatic 83, 3) := by decide +kernel
theorem dX7_loads_14 : decode cX7_loads 14 = .ok (.ifCond .ne 6, 3) := by decide +kernel
theorem dX7_loads_17 : decode cX7_loads 17 = .ok (.bipush (-2), 2) := by decide +kernel
theorem dX7_loads_19 : decode cX7_loads 19 = .ok (.ireturn, 1) := by decide +kernel
theorem dX7_loads_20 : decode cX7_loads 20 = .ok (.iconst 0, 1) := by decide +kernel
theorem dX7_loads_21 : decode cX7_loads 21 = .ok (.istore_n 3, 1) := by decide +kernel
theorem dX7_loads_22 : decode cX7_loads 22 = .ok (.iconst 0, 1) := by decide +kernel
theorem dX7_loads_23 : decode cX7_loads 23 = .ok (.istore 4, 2) := by decide +kernel
theorem dX7_loads_25 : decode cX7_loads 25 = .ok (.iload 4, 2) := by decide +kernel
theorem dX7_loads_27 : decode cX7_loads 27 = .ok (.aload_n 0, 1) := by decide +kernel
theorem dX7_loads_28 : decode cX7_loads 28 = .ok (.getfield 87, 3) := by decide +kernel
theorem dX7_loads_31 : decode cX7_loads 31 = .ok (.if_icmp .ge 59, 3) := by decide +kernel
theorem dX7_loads_34 : decode cX7_loads 34 = .ok (.iconst 0, 1) := by decide +kernel
theorem dX7_loads_35 : decode cX7_loads 35 = .ok (.istore 5, 2) := by decide +kernel
theorem dX7_loads_37 : decode cX7_loads 37 = .ok (.iload 5, 2) := by decide +kernel
theorem dX7_loads_39 : decode cX7_loads 39 = .ok (.bipush 6, 2) := by decide +kernel
theorem dX7_loads_41 : decode cX7_loads 41 = .ok (.if_icmp .ge 43, 3) := by decide +kernel
theorem dX7_loads_44 : decode cX7_loads 44 = .ok (.aload_n 0, 1) := by decide +kernel
theorem dX7_loads_45 : decode cX7_loads 45 = .ok (.iload 4, 2) := by decide +kernel
theorem dX7_loads_47 : decode cX7_loads 47 = .ok (.iload_n 1, 1) := by decide +kernel
theorem dX7_loads_48 : decode cX7_loads 48 = .ok (.invokevirtual 154, 3) := by decide +kernel
theorem dX7_loads_51 : decode cX7_loads 51 = .ok (.ifCond .eq 33, 3) := by decide +kernel
theorem dX7_loads_54 : decode cX7_loads 54 = .ok (.iload_n 3, 1) := by decide +kernel
theorem dX7_loads_55 : decode cX7_loads 55 = .ok (.aload_n 0, 1) := by decide +kernel
theorem dX7_loads_56 : decode cX7_loads 56 = .ok (.getfield 40, 3) := by decide +kernel
theorem dX7_loads_59 : decode cX7_loads 59 = .ok (.bipush 6, 2) := by decide +kernel
theorem dX7_loads_61 : decode cX7_loads 61 = .ok (.iload 4, 2) := by decide +kernel
theorem dX7_loads_63 : decode cX7_loads 63 = .ok (.imul, 1) := by decide +kernel
theorem dX7_loads_64 : decode cX7_loads 64 = .ok (.iload 5, 2) := by decide +kernel
theorem dX7_loads_66 : decode cX7_loads 66 = .ok (.iadd, 1) := by decide +kernel
theorem dX7_loads_67 : decode cX7_loads 67 = .ok (.iaload, 1) := by decide +kernel
theorem dX7_loads_68 : decode cX7_loads 68 = .ok (.aload_n 0, 1) := by decide +kernel
theorem dX7_loads_69 : decode cX7_loads 69 = .ok (.getfield 16, 3) := by decide +kernel
theorem dX7_loads_72 : decode cX7_loads 72 = .ok (.iload 5, 2) := by decide +kernel
theorem dX7_loads_74 : decode cX7_loads 74 = .ok (.iaload, 1) := by decide +kernel
theorem dX7_loads_75 : decode cX7_loads 75 = .ok (.imul, 1) := by decide +kernel
theorem dX7_loads_76 : decode cX7_loads 76 = .ok (.iadd, 1) := by decide +kernel
theorem dX7_loads_77 : decode cX7_loads 77 = .ok (.istore_n 3, 1) := by decide +kernel
theorem dX7_loads_78 : decode cX7_loads 78 = .ok (.iinc 5 1, 3) := by decide +kernel
theorem dX7_loads_81 : decode cX7_loads 81 = .ok (.goto (-44), 3) := by decide +kernel
theorem dX7_loads_84 : decode cX7_loads 84 = .ok (.iinc 4 1, 3) := by decide +kernel
theorem dX7_loads_87 : decode cX7_loads 87 = .ok (.goto (-62), 3) := by decide +kernel
theorem dX7_loads_90 : decode cX7_loads 90 = .ok (.iload_n 3, 1) := by decide +kernel
theorem dX7_loads_91 : decode cX7_loads 91 = .ok (.iload_n 2, 1) := by decide +kernel
theorem dX7_loads_92 : decode cX7_loads 92 = .ok (.iadd, 1) := by decide +kernel
theorem dX7_loads_93 : decode cX7_loads 93 = .ok (.iconst 1, 1) := by decide +kernel
theorem dX7_loads_94 : decode cX7_loads 94 = .ok (.isub, 1) := by decide +kernel
theorem dX7_loads_95 : decode cX7_loads 95 = .ok (.iload_n 2, 1) := by decide +kernel
theorem dX7_loads_96 : decode cX7_loads 96 = .ok (.idiv, 1) := by decide +kernel
theorem dX7_loads_97 : decode cX7_loads 97 = .ok (.ireturn, 1) := by decide +kernel
theorem dX7_count_0 : decode cX7_count 0 = .ok (.iconst 0, 1) := by decide +kernel
theorem dX7_count_1 : decode cX7_count 1 = .ok (.istore_n 2, 1) := by decide +kernel
theorem dX7_count_2 : decode cX7_count 2 = .ok (.iload_n 1, 1) := by decide +kernel
theorem dX7_count_3 : decode cX7_count 3 = .ok (.tableswitch 119 0 5 #[37, 42, 51, 56, 89, 114], 37) := by decide +kernel
theorem dX7_count_40 : decode cX7_count 40 = .ok (.aload_n 0, 1) := by decide +kernel
theorem dX7_count_41 : decode cX7_count 41 = .ok (.getfield 87, 3) := by decide +kernel
theorem dX7_count_44 : decode cX7_count 44 = .ok (.ireturn, 1) := by decide +kernel
theorem dX7_count_45 : decode cX7_count 45 = .ok (.aload_n 0, 1) := by decide +kernel
theorem dX7_count_46 : decode cX7_count 46 = .ok (.iconst 1, 1) := by decide +kernel
theorem dX7_count_47 : decode cX7_count 47 = .ok (.invokevirtual 109, 3) := by decide +kernel
theorem dX7_count_50 : decode cX7_count 50 = .ok (.invokestatic 135, 3) := by decide +kernel
theorem dX7_count_53 : decode cX7_count 53 = .ok (.ireturn, 1) := by decide +kernel
theorem dX7_count_54 : decode cX7_count 54 = .ok (.aload_n 0, 1) := by decide +kernel
theorem dX7_count_55 : decode cX7_count 55 = .ok (.getfield 141, 3) := by decide +kernel
theorem dX7_count_58 : decode cX7_count 58 = .ok (.ireturn, 1) := by decide +kernel
theorem dX7_count_59 : decode cX7_count 59 = .ok (.iconst 0, 1) := by decide +kernel
theorem dX7_count_60 : decode cX7_count 60 = .ok (.istore_n 3, 1) := by decide +kernel
theorem dX7_count_61 : decode cX7_count 61 = .ok (.iload_n 3, 1) := by decide +kernel
theorem dX7_count_62 : decode cX7_count 62 = .ok (.bipush 60, 2) := by decide +kernel
theorem dX7_count_64 : decode cX7_count 64 = .ok (.if_icmp .gt 26, 3) := by decide +kernel
theorem dX7_count_67 : decode cX7_count 67 = .ok (.iload_n 2, 1) := by decide +kernel
theorem dX7_count_68 : decode cX7_count 68 = .ok (.aload_n 0, 1) := by decide +kernel
theorem dX7_count_69 : decode cX7_count 69 = .ok (.getfield 56, 3) := by decide +kernel
theorem dX7_count_72 : decode cX7_count 72 = .ok (.iload_n 3, 1) := by decide +kernel
theorem dX7_count_73 : decode cX7_count 73 = .ok (.baload, 1) := by decide +kernel
theorem dX7_count_74 : decode cX7_count 74 = .ok (.ifCond .eq 7, 3) := by decide +kernel
theorem dX7_count_77 : decode cX7_count 77 = .ok (.iconst 1, 1) := by decide +kernel
theorem dX7_count_78 : decode cX7_count 78 = .ok (.goto 4, 3) := by decide +kernel
theorem dX7_count_81 : decode cX7_count 81 = .ok (.iconst 0, 1) := by decide +kernel
theorem dX7_count_82 : decode cX7_count 82 = .ok (.iadd, 1) := by decide +kernel
theorem dX7_count_83 : decode cX7_count 83 = .ok (.istore_n 2, 1) := by decide +kernel
theorem dX7_count_84 : decode cX7_count 84 = .ok (.iinc 3 1, 3) := by decide +kernel
theorem dX7_count_87 : decode cX7_count 87 = .ok (.goto (-26), 3) := by decide +kernel
theorem dX7_count_90 : decode cX7_count 90 = .ok (.iload_n 2, 1) := by decide +kernel
theorem dX7_count_91 : decode cX7_count 91 = .ok (.ireturn, 1) := by decide +kernel
theorem dX7_count_92 : decode cX7_count 92 = .ok (.iconst 0, 1) := by decide +kernel
theorem dX7_count_93 : decode cX7_count 93 = .ok (.istore_n 3, 1) := by decide +kernel
theorem dX7_count_94 : decode cX7_count 94 = .ok (.iload_n 3, 1) := by decide +kernel
theorem dX7_count_95 : decode cX7_count 95 = .ok (.bipush 6, 2) := by decide +kernel
theorem dX7_count_97 : decode cX7_count 97 = .ok (.if_icmp .ge 18, 3) := by decide +kernel
theorem dX7_count_100 : decode cX7_count 100 = .ok (.iload_n 2, 1) := by decide +kernel
theorem dX7_count_101 : decode cX7_count 101 = .ok (.aload_n 0, 1) := by decide +kernel
theorem dX7_count_102 : decode cX7_count 102 = .ok (.getfield 25, 3) := by decide +kernel
theorem dX7_count_105 : decode cX7_count 105 = .ok (.iload_n 3, 1) := by decide +kernel
theorem dX7_count_106 : decode cX7_count 106 = .ok (.iaload, 1) := by decide +kernel
theorem dX7_count_107 : decode cX7_count 107 = .ok (.iadd, 1) := by decide +kernel
theorem dX7_count_108 : decode cX7_count 108 = .ok (.istore_n 2, 1) := by decide +kernel
theorem dX7_count_109 : decode cX7_count 109 = .ok (.iinc 3 1, 3) := by decide +kernel
theorem dX7_count_112 : decode cX7_count 112 = .ok (.goto (-18), 3) := by decide +kernel
theorem dX7_count_115 : decode cX7_count 115 = .ok (.iload_n 2, 1) := by decide +kernel
theorem dX7_count_116 : decode cX7_count 116 = .ok (.ireturn, 1) := by decide +kernel
theorem dX7_count_117 : decode cX7_count 117 = .ok (.aload_n 0, 1) := by decide +kernel
theorem dX7_count_118 : decode cX7_count 118 = .ok (.getfield 120, 3) := by decide +kernel
theorem dX7_count_121 : decode cX7_count 121 = .ok (.ireturn, 1) := by decide +kernel
theorem dX7_count_122 : decode cX7_count 122 = .ok (.bipush (-2), 2) := by decide +kernel
theorem dX7_count_124 : decode cX7_count 124 = .ok (.ireturn, 1) := by decide +kernel
theorem dX7_digest_0 : decode cX7_digest 0 = .ok (.ldc2_w 163, 3) := by decide +kernel
theorem dX7_digest_3 : decode cX7_digest 3 = .ok (.lstore_n 1, 1) := by decide +kernel
theorem dX7_digest_4 : decode cX7_digest 4 = .ok (.iconst 0, 1) := by decide +kernel
theorem dX7_digest_5 : decode cX7_digest 5 = .ok (.istore_n 3, 1) := by decide +kernel
theorem dX7_digest_6 : decode cX7_digest 6 = .ok (.iload_n 3, 1) := by decide +kernel
theorem dX7_digest_7 : decode cX7_digest 7 = .ok (.bipush 6, 2) := by decide +kernel
theorem dX7_digest_9 : decode cX7_digest 9 = .ok (.if_icmp .ge 22, 3) := by decide +kernel
theorem dX7_digest_12 : decode cX7_digest 12 = .ok (.ldc2_w 165, 3) := by decide +kernel
theorem dX7_digest_15 : decode cX7_digest 15 = .ok (.lload_n 1, 1) := by decide +kernel
theorem dX7_digest_16 : decode cX7_digest 16 = .ok (.lmul, 1) := by decide +kernel
theorem dX7_digest_17 : decode cX7_digest 17 = .ok (.aload_n 0, 1) := by decide +kernel
theorem dX7_digest_18 : decode cX7_digest 18 = .ok (.iload_n 3, 1) := by decide +kernel
theorem dX7_digest_19 : decode cX7_digest 19 = .ok (.invokevirtual 167, 3) := by decide +kernel
theorem dX7_digest_22 : decode cX7_digest 22 = .ok (.i2l, 1) := by decide +kernel
theorem dX7_digest_23 : decode cX7_digest 23 = .ok (.ladd, 1) := by decide +kernel
theorem dX7_digest_24 : decode cX7_digest 24 = .ok (.lstore_n 1, 1) := by decide +kernel
theorem dX7_digest_25 : decode cX7_digest 25 = .ok (.iinc 3 1, 3) := by decide +kernel
theorem dX7_digest_28 : decode cX7_digest 28 = .ok (.goto (-22), 3) := by decide +kernel
theorem dX7_digest_31 : decode cX7_digest 31 = .ok (.iconst 0, 1) := by decide +kernel
theorem dX7_digest_32 : decode cX7_digest 32 = .ok (.istore_n 3, 1) := by decide +kernel
theorem dX7_digest_33 : decode cX7_digest 33 = .ok (.iload_n 3, 1) := by decide +kernel
theorem dX7_digest_34 : decode cX7_digest 34 = .ok (.aload_n 0, 1) := by decide +kernel
theorem dX7_digest_35 : decode cX7_digest 35 = .ok (.getfield 87, 3) := by decide +kernel
theorem dX7_digest_38 : decode cX7_digest 38 = .ok (.if_icmp .ge 76, 3) := by decide +kernel
theorem dX7_digest_41 : decode cX7_digest 41 = .ok (.iconst 0, 1) := by decide +kernel
theorem dX7_digest_42 : decode cX7_digest 42 = .ok (.istore 4, 2) := by decide +kernel
theorem dX7_digest_44 : decode cX7_digest 44 = .ok (.iload 4, 2) := by decide +kernel
theorem dX7_digest_46 : decode cX7_digest 46 = .ok (.bipush 7, 2) := by decide +kernel
theorem dX7_digest_48 : decode cX7_digest 48 = .ok (.if_icmp .ge 24, 3) := by decide +kernel
theorem dX7_digest_51 : decode cX7_digest 51 = .ok (.ldc2_w 165, 3) := by decide +kernel
theorem dX7_digest_54 : decode cX7_digest 54 = .ok (.lload_n 1, 1) := by decide +kernel
theorem dX7_digest_55 : decode cX7_digest 55 = .ok (.lmul, 1) := by decide +kernel
theorem dX7_digest_56 : decode cX7_digest 56 = .ok (.aload_n 0, 1) := by decide +kernel
theorem dX7_digest_57 : decode cX7_digest 57 = .ok (.iload_n 3, 1) := by decide +kernel
theorem dX7_digest_58 : decode cX7_digest 58 = .ok (.iload 4, 2) := by decide +kernel
theorem dX7_digest_60 : decode cX7_digest 60 = .ok (.invokevirtual 123, 3) := by decide +kernel
theorem dX7_digest_63 : decode cX7_digest 63 = .ok (.i2l, 1) := by decide +kernel
theorem dX7_digest_64 : decode cX7_digest 64 = .ok (.ladd, 1) := by decide +kernel
theorem dX7_digest_65 : decode cX7_digest 65 = .ok (.lstore_n 1, 1) := by decide +kernel
theorem dX7_digest_66 : decode cX7_digest 66 = .ok (.iinc 4 1, 3) := by decide +kernel
theorem dX7_digest_69 : decode cX7_digest 69 = .ok (.goto (-25), 3) := by decide +kernel
theorem dX7_digest_72 : decode cX7_digest 72 = .ok (.iconst 0, 1) := by decide +kernel
theorem dX7_digest_73 : decode cX7_digest 73 = .ok (.istore 4, 2) := by decide +kernel
theorem dX7_digest_75 : decode cX7_digest 75 = .ok (.iload 4, 2) := by decide +kernel
theorem dX7_digest_77 : decode cX7_digest 77 = .ok (.bipush 6, 2) := by decide +kernel
theorem dX7_digest_79 : decode cX7_digest 79 = .ok (.if_icmp .ge 29, 3) := by decide +kernel
theorem dX7_digest_82 : decode cX7_digest 82 = .ok (.ldc2_w 165, 3) := by decide +kernel
theorem dX7_digest_85 : decode cX7_digest 85 = .ok (.lload_n 1, 1) := by decide +kernel
theorem dX7_digest_86 : decode cX7_digest 86 = .ok (.lmul, 1) := by decide +kernel
theorem dX7_digest_87 : decode cX7_digest 87 = .ok (.aload_n 0, 1) := by decide +kernel
theorem dX7_digest_88 : decode cX7_digest 88 = .ok (.getfield 40, 3) := by decide +kernel
theorem dX7_digest_91 : decode cX7_digest 91 = .ok (.bipush 6, 2) := by decide +kernel
theorem dX7_digest_93 : decode cX7_digest 93 = .ok (.iload_n 3, 1) := by decide +kernel
theorem dX7_digest_94 : decode cX7_digest 94 = .ok (.imul, 1) := by decide +kernel
theorem dX7_digest_95 : decode cX7_digest 95 = .ok (.iload 4, 2) := by decide +kernel
theorem dX7_digest_97 : decode cX7_digest 97 = .ok (.iadd, 1) := by decide +kernel
theorem dX7_digest_98 : decode cX7_digest 98 = .ok (.iaload, 1) := by decide +kernel
theorem dX7_digest_99 : decode cX7_digest 99 = .ok (.i2l, 1) := by decide +kernel
theorem dX7_digest_100 : decode cX7_digest 100 = .ok (.ladd, 1) := by decide +kernel
theorem dX7_digest_101 : decode cX7_digest 101 = .ok (.lstore_n 1, 1) := by decide +kernel
theorem dX7_digest_102 : decode cX7_digest 102 = .ok (.iinc 4 1, 3) := by decide +kernel
theorem dX7_digest_105 : decode cX7_digest 105 = .ok (.goto (-30), 3) := by decide +kernel
theorem dX7_digest_108 : decode cX7_digest 108 = .ok (.iinc 3 1, 3) := by decide +kernel
theorem dX7_digest_111 : decode cX7_digest 111 = .ok (.goto (-78), 3) := by decide +kernel
theorem dX7_digest_114 : decode cX7_digest 114 = .ok (.iconst 0, 1) := by decide +kernel
theorem dX7_digest_115 : decode cX7_digest 115 = .ok (.istore_n 3, 1) := by decide +kernel
theorem dX7_digest_116 : decode cX7_digest 116 = .ok (.iload_n 3, 1) := by decide +kernel
theorem dX7_digest_117 : decode cX7_digest 117 = .ok (.bipush 6, 2) := by decide +kernel
theorem dX7_digest_119 : decode cX7_digest 119 = .ok (.if_icmp .ge 35, 3) := by decide +kernel
theorem dX7_digest_122 : decode cX7_digest 122 = .ok (.ldc2_w 165, 3) := by decide +kernel
theorem dX7_digest_125 : decode cX7_digest 125 = .ok (.ldc2_w 165, 3) := by decide +kernel
theorem dX7_digest_128 : decode cX7_digest 128 = .ok (.lload_n 1, 1) := by decide +kernel
theorem dX7_digest_129 : decode cX7_digest 129 = .ok (.lmul, 1) := by decide +kernel
theorem dX7_digest_130 : decode cX7_digest 130 = .ok (.aload_n 0, 1) := by decide +kernel
theorem dX7_digest_131 : decode cX7_digest 131 = .ok (.getfield 7, 3) := by decide +kernel
theorem dX7_digest_134 : decode cX7_digest 134 = .ok (.iload_n 3, 1) := by decide +kernel
theorem dX7_digest_135 : decode cX7_digest 135 = .ok (.iaload, 1) := by decide +kernel
theorem dX7_digest_136 : decode cX7_digest 136 = .ok (.i2l, 1) := by decide +kernel
theorem dX7_digest_137 : decode cX7_digest 137 = .ok (.ladd, 1) := by decide +kernel
theorem dX7_digest_138 : decode cX7_digest 138 = .ok (.lmul, 1) := by decide +kernel
theorem dX7_digest_139 : decode cX7_digest 139 = .ok (.aload_n 0, 1) := by decide +kernel
theorem dX7_digest_140 : decode cX7_digest 140 = .ok (.getfield 25, 3) := by decide +kernel
theorem dX7_digest_143 : decode cX7_digest 143 = .ok (.iload_n 3, 1) := by decide +kernel
theorem dX7_digest_144 : decode cX7_digest 144 = .ok (.iaload, 1) := by decide +kernel
theorem dX7_digest_145 : decode cX7_digest 145 = .ok (.i2l, 1) := by decide +kernel
theorem dX7_digest_146 : decode cX7_digest 146 = .ok (.ladd, 1) := by decide +kernel
theorem dX7_digest_147 : decode cX7_digest 147 = .ok (.lstore_n 1, 1) := by decide +kernel
theorem dX7_digest_148 : decode cX7_digest 148 = .ok (.iinc 3 1, 3) := by decide +kernel
theorem dX7_digest_151 : decode cX7_digest 151 = .ok (.goto (-35), 3) := by decide +kernel
theorem dX7_digest_154 : decode cX7_digest 154 = .ok (.iconst 0, 1) := by decide +kernel
theorem dX7_digest_155 : decode cX7_digest 155 = .ok (.istore_n 3, 1) := by decide +kernel
theorem dX7_digest_156 : decode cX7_digest 156 = .ok (.iload_n 3, 1) := by decide +kernel
theorem dX7_digest_157 : decode cX7_digest 157 = .ok (.aload_n 0, 1) := by decide +kernel
theorem dX7_digest_158 : decode cX7_digest 158 = .ok (.getfield 141, 3) := by decide +kernel
theorem dX7_digest_161 : decode cX7_digest 161 = .ok (.if_icmp .ge 35, 3) := by decide +kernel
theorem dX7_digest_164 : decode cX7_digest 164 = .ok (.ldc2_w 165, 3) := by decide +kernel
theorem dX7_digest_167 : decode cX7_digest 167 = .ok (.ldc2_w 165, 3) := by decide +kernel
theorem dX7_digest_170 : decode cX7_digest 170 = .ok (.lload_n 1, 1) := by decide +kernel
theorem dX7_digest_171 : decode cX7_digest 171 = .ok (.lmul, 1) := by decide +kernel
theorem dX7_digest_172 : decode cX7_digest 172 = .ok (.aload_n 0, 1) := by decide +kernel
theorem dX7_digest_173 : decode cX7_digest 173 = .ok (.getfield 59, 3) := by decide +kernel
theorem dX7_digest_176 : decode cX7_digest 176 = .ok (.iload_n 3, 1) := by decide +kernel
theorem dX7_digest_177 : decode cX7_digest 177 = .ok (.iaload, 1) := by decide +kernel
theorem dX7_digest_178 : decode cX7_digest 178 = .ok (.i2l, 1) := by decide +kernel
theorem dX7_digest_179 : decode cX7_digest 179 = .ok (.ladd, 1) := by decide +kernel
theorem dX7_digest_180 : decode cX7_digest 180 = .ok (.lmul, 1) := by decide +kernel
theorem dX7_digest_181 : decode cX7_digest 181 = .ok (.aload_n 0, 1) := by decide +kernel
theorem dX7_digest_182 : decode cX7_digest 182 = .ok (.getfield 62, 3) := by decide +kernel
theorem dX7_digest_185 : decode cX7_digest 185 = .ok (.iload_n 3, 1) := by decide +kernel
theorem dX7_digest_186 : decode cX7_digest 186 = .ok (.iaload, 1) := by decide +kernel
theorem dX7_digest_187 : decode cX7_digest 187 = .ok (.i2l, 1) := by decide +kernel
theorem dX7_digest_188 : decode cX7_digest 188 = .ok (.ladd, 1) := by decide +kernel
theorem dX7_digest_189 : decode cX7_digest 189 = .ok (.lstore_n 1, 1) := by decide +kernel
theorem dX7_digest_190 : decode cX7_digest 190 = .ok (.iinc 3 1, 3) := by decide +kernel
theorem dX7_digest_193 : decode cX7_digest 193 = .ok (.goto (-37), 3) := by decide +kernel
theorem dX7_digest_196 : decode cX7_digest 196 = .ok (.iconst 0, 1) := by decide +kernel
theorem dX7_digest_197 : decode cX7_digest 197 = .ok (.istore_n 3, 1) := by decide +kernel
theorem dX7_digest_198 : decode cX7_digest 198 = .ok (.iload_n 3, 1) := by decide +kernel
theorem dX7_digest_199 : decode cX7_digest 199 = .ok (.iconst 4, 1) := by decide +kernel
theorem dX7_digest_200 : decode cX7_digest 200 = .ok (.if_icmp .ge 23, 3) := by decide +kernel
theorem dX7_digest_203 : decode cX7_digest 203 = .ok (.ldc2_w 165, 3) := by decide +kernel
theorem dX7_digest_206 : decode cX7_digest 206 = .ok (.lload_n 1, 1) := by decide +kernel
theorem dX7_digest_207 : decode cX7_digest 207 = .ok (.lmul, 1) := by decide +kernel
theorem dX7_digest_208 : decode cX7_digest 208 = .ok (.aload_n 0, 1) := by decide +kernel
theorem dX7_digest_209 : decode cX7_digest 209 = .ok (.getfield 65, 3) := by decide +kernel
theorem dX7_digest_212 : decode cX7_digest 212 = .ok (.iload_n 3, 1) := by decide +kernel
theorem dX7_digest_213 : decode cX7_digest 213 = .ok (.iaload, 1) := by decide +kernel
theorem dX7_digest_214 : decode cX7_digest 214 = .ok (.i2l, 1) := by decide +kernel
theorem dX7_digest_215 : decode cX7_digest 215 = .ok (.ladd, 1) := by decide +kernel
theorem dX7_digest_216 : decode cX7_digest 216 = .ok (.lstore_n 1, 1) := by decide +kernel
theorem dX7_digest_217 : decode cX7_digest 217 = .ok (.iinc 3 1, 3) := by decide +kernel
theorem dX7_digest_220 : decode cX7_digest 220 = .ok (.goto (-22), 3) := by decide +kernel
theorem dX7_digest_223 : decode cX7_digest 223 = .ok (.lload_n 1, 1) := by decide +kernel
theorem dX7_digest_224 : decode cX7_digest 224 = .ok (.lreturn, 1) := by decide +kernel
end
section
theorem dL_law_0 : decode cL_law 0 = .ok (.new 7, 3) := by decide +kernel
theorem dL_law_3 : decode cL_law 3 = .ok (.dup, 1) := by decide +kernel
theorem dL_law_4 : decode cL_law 4 = .ok (.invokespecial 9, 3) := by decide +kernel
theorem dL_law_7 : decode cL_law 7 = .ok (.astore_n 1, 1) := by decide +kernel
theorem dL_law_8 : decode cL_law 8 = .ok (.new 10, 3) := by decide +kernel
theorem dL_law_11 : decode cL_law 11 = .ok (.dup, 1) := by decide +kernel
theorem dL_law_12 : decode cL_law 12 = .ok (.invokespecial 12, 3) := by decide +kernel
theorem dL_law_15 : decode cL_law 15 = .ok (.astore_n 2, 1) := by decide +kernel
theorem dL_law_16 : decode cL_law 16 = .ok (.iconst 0, 1) := by decide +kernel
theorem dL_law_17 : decode cL_law 17 = .ok (.istore_n 3, 1) := by decide +kernel
theorem dL_law_18 : decode cL_law 18 = .ok (.iload_n 3, 1) := by decide +kernel
theorem dL_law_19 : decode cL_law 19 = .ok (.aload_n 0, 1) := by decide +kernel
theorem dL_law_20 : decode cL_law 20 = .ok (.arraylength, 1) := by decide +kernel
theorem dL_law_21 : decode cL_law 21 = .ok (.bipush 7, 2) := by decide +kernel
theorem dL_law_23 : decode cL_law 23 = .ok (.isub, 1) := by decide +kernel
theorem dL_law_24 : decode cL_law 24 = .ok (.if_icmp .gt 1154, 3) := by decide +kernel
theorem dL_law_27 : decode cL_law 27 = .ok (.aload_n 0, 1) := by decide +kernel
theorem dL_law_28 : decode cL_law 28 = .ok (.iload_n 3, 1) := by decide +kernel
theorem dL_law_29 : decode cL_law 29 = .ok (.iaload, 1) := by decide +kernel
theorem dL_law_30 : decode cL_law 30 = .ok (.bipush 31, 2) := by decide +kernel
theorem dL_law_32 : decode cL_law 32 = .ok (.iand, 1) := by decide +kernel
theorem dL_law_33 : decode cL_law 33 = .ok (.tableswitch 1139 0 31 #[143, 218, 261, 304, 353, 376, 399, 422, 465, 488, 531, 564, 597, 630, 653, 666, 679, 703, 716, 749, 782, 795, 818, 851, 884, 937, 960, 993, 1026, 1069, 1102, 1125], 143) := by decide +kernel
theorem dL_law_176 : decode cL_law 176 = .ok (.aload_n 1, 1) := by decide +kernel
theorem dL_law_177 : decode cL_law 177 = .ok (.aload_n 0, 1) := by decide +kernel
theorem dL_law_178 : decode cL_law 178 = .ok (.iload_n 3, 1) := by decide +kernel
theorem dL_law_179 : decode cL_law 179 = .ok (.iconst 1, 1) := by decide +kernel
theorem dL_law_180 : decode cL_law 180 = .ok (.iadd, 1) := by decide +kernel
theorem dL_law_181 : decode cL_law 181 = .ok (.iaload, 1) := by decide +kernel
theorem dL_law_182 : decode cL_law 182 = .ok (.aload_n 0, 1) := by decide +kernel
theorem dL_law_183 : decode cL_law 183 = .ok (.iload_n 3, 1) := by decide +kernel
theorem dL_law_184 : decode cL_law 184 = .ok (.iconst 2, 1) := by decide +kernel
theorem dL_law_185 : decode cL_law 185 = .ok (.iadd, 1) := by decide +kernel
theorem dL_law_186 : decode cL_law 186 = .ok (.iaload, 1) := by decide +kernel
theorem dL_law_187 : decode cL_law 187 = .ok (.aload_n 0, 1) := by decide +kernel
theorem dL_law_188 : decode cL_law 188 = .ok (.iload_n 3, 1) := by decide +kernel
theorem dL_law_189 : decode cL_law 189 = .ok (.iconst 3, 1) := by decide +kernel
theorem dL_law_190 : decode cL_law 190 = .ok (.iadd, 1) := by decide +kernel
theorem dL_law_191 : decode cL_law 191 = .ok (.iaload, 1) := by decide +kernel
theorem dL_law_192 : decode cL_law 192 = .ok (.aload_n 0, 1) := by decide +kernel
theorem dL_law_193 : decode cL_law 193 = .ok (.iload_n 3, 1) := by decide +kernel
theorem dL_law_194 : decode cL_law 194 = .ok (.iconst 4, 1) := by decide +kernel
theorem dL_law_195 : decode cL_law 195 = .ok (.iadd, 1) := by decide +kernel
theorem dL_law_196 : decode cL_law 196 = .ok (.iaload, 1) := by decide +kernel
theorem dL_law_197 : decode cL_law 197 = .ok (.aload_n 0, 1) := by decide +kernel
theorem dL_law_198 : decode cL_law 198 = .ok (.iload_n 3, 1) := by decide +kernel
theorem dL_law_199 : decode cL_law 199 = .ok (.iconst 5, 1) := by decide +kernel
theorem dL_law_200 : decode cL_law 200 = .ok (.iadd, 1) := by decide +kernel
theorem dL_law_201 : decode cL_law 201 = .ok (.iaload, 1) := by decide +kernel
theorem dL_law_202 : decode cL_law 202 = .ok (.aload_n 0, 1) := by decide +kernel
theorem dL_law_203 : decode cL_law 203 = .ok (.iload_n 3, 1) := by decide +kernel
theorem dL_law_204 : decode cL_law 204 = .ok (.bipush 6, 2) := by decide +kernel
theorem dL_law_206 : decode cL_law 206 = .ok (.iadd, 1) := by decide +kernel
theorem dL_law_207 : decode cL_law 207 = .ok (.iaload, 1) := by decide +kernel
theorem dL_law_208 : decode cL_law 208 = .ok (.invokevirtual 13, 3) := by decide +kernel
theorem dL_law_211 : decode cL_law 211 = .ok (.aload_n 2, 1) := by decide +kernel
theorem dL_law_212 : decode cL_law 212 = .ok (.aload_n 0, 1) := by decide +kernel
theorem dL_law_213 : decode cL_law 213 = .ok (.iload_n 3, 1) := by decide +kernel
theorem dL_law_214 : decode cL_law 214 = .ok (.iconst 1, 1) := by decide +kernel
theorem dL_law_215 : decode cL_law 215 = .ok (.iadd, 1) := by decide +kernel
theorem dL_law_216 : decode cL_law 216 = .ok (.iaload, 1) := by decide +kernel
theorem dL_law_217 : decode cL_law 217 = .ok (.aload_n 0, 1) := by decide +kernel
theorem dL_law_218 : decode cL_law 218 = .ok (.iload_n 3, 1) := by decide +kernel
theorem dL_law_219 : decode cL_law 219 = .ok (.iconst 2, 1) := by decide +kernel
theorem dL_law_220 : decode cL_law 220 = .ok (.iadd, 1) := by decide +kernel
theorem dL_law_221 : decode cL_law 221 = .ok (.iaload, 1) := by decide +kernel
theorem dL_law_222 : decode cL_law 222 = .ok (.aload_n 0, 1) := by decide +kernel
theorem dL_law_223 : decode cL_law 223 = .ok (.iload_n 3, 1) := by decide +kernel
theorem dL_law_224 : decode cL_law 224 = .ok (.iconst 3, 1) := by decide +kernel
theorem dL_law_225 : decode cL_law 225 = .ok (.iadd, 1) := by decide +kernel
theorem dL_law_226 : decode cL_law 226 = .ok (.iaload, 1) := by decide +kernel
theorem dL_law_227 : decode cL_law 227 = .ok (.aload_n 0, 1) := by decide +kernel
theorem dL_law_228 : decode cL_law 228 = .ok (.iload_n 3, 1) := by decide +kernel
theorem dL_law_229 : decode cL_law 229 = .ok (.iconst 4, 1) := by decide +kernel
theorem dL_law_230 : decode cL_law 230 = .ok (.iadd, 1) := by decide +kernel
theorem dL_law_231 : decode cL_law 231 = .ok (.iaload, 1) := by decide +kernel
theorem dL_law_232 : decode cL_law 232 = .ok (.aload_n 0, 1) := by decide +kernel
theorem dL_law_233 : decode cL_law 233 = .ok (.iload_n 3, 1) := by decide +kernel
theorem dL_law_234 : decode cL_law 234 = .ok (.iconst 5, 1) := by decide +kernel
theorem dL_law_235 : decode cL_law 235 = .ok (.iadd, 1) := by decide +kernel
theorem dL_law_236 : decode cL_law 236 = .ok (.iaload, 1) := by decide +kernel
theorem dL_law_237 : decode cL_law 237 = .ok (.aload_n 0, 1) := by decide +kernel
theorem dL_law_238 : decode cL_law 238 = .ok (.iload_n 3, 1) := by decide +kernel
theorem dL_law_239 : decode cL_law 239 = .ok (.bipush 6, 2) := by decide +kernel
theorem dL_law_241 : decode cL_law 241 = .ok (.iadd, 1) := by decide +kernel
theorem dL_law_242 : decode cL_law 242 = .ok (.iaload, 1) := by decide +kernel
theorem dL_law_243 : decode cL_law 243 = .ok (.invokevirtual 17, 3) := by decide +kernel
theorem dL_law_246 : decode cL_law 246 = .ok (.if_icmp .eq 926, 3) := by decide +kernel
theorem dL_law_249 : decode cL_law 249 = .ok (.iconst 0, 1) := by decide +kernel
theorem dL_law_250 : decode cL_law 250 = .ok (.ireturn, 1) := by decide +kernel
theorem dL_law_251 : decode cL_law 251 = .ok (.aload_n 1, 1) := by decide +kernel
theorem dL_law_252 : decode cL_law 252 = .ok (.aload_n 0, 1) := by decide +kernel
theorem dL_law_253 : decode cL_law 253 = .ok (.iload_n 3, 1) := by decide +kernel
theorem dL_law_254 : decode cL_law 254 = .ok (.iconst 1, 1) := by decide +kernel
theorem dL_law_255 : decode cL_law 255 = .ok (.iadd, 1) := by decide +kernel
theorem dL_law_256 : decode cL_law 256 = .ok (.iaload, 1) := by decide +kernel
theorem dL_law_257 : decode cL_law 257 = .ok (.aload_n 0, 1) := by decide +kernel
theorem dL_law_258 : decode cL_law 258 = .ok (.iload_n 3, 1) := by decide +kernel
theorem dL_law_259 : decode cL_law 259 = .ok (.iconst 2, 1) := by decide +kernel
theorem dL_law_260 : decode cL_law 260 = .ok (.iadd, 1) := by decide +kernel
theorem dL_law_261 : decode cL_law 261 = .ok (.iaload, 1) := by decide +kernel
theorem dL_law_262 : decode cL_law 262 = .ok (.aload_n 0, 1) := by decide +kernel
theorem dL_law_263 : decode cL_law 263 = .ok (.iload_n 3, 1) := by decide +kernel
theorem dL_law_264 : decode cL_law 264 = .ok (.iconst 3, 1) := by decide +kernel
theorem dL_law_265 : decode cL_law 265 = .ok (.iadd, 1) := by decide +kernel
theorem dL_law_266 : decode cL_law 266 = .ok (.iaload, 1) := by decide +kernel
theorem dL_law_267 : decode cL_law 267 = .ok (.invokevirtual 18, 3) := by decide +kernel
theorem dL_law_270 : decode cL_law 270 = .ok (.aload_n 2, 1) := by decide +kernel
theorem dL_law_271 : decode cL_law 271 = .ok (.aload_n 0, 1) := by decide +kernel
theorem dL_law_272 : decode cL_law 272 = .ok (.iload_n 3, 1) := by decide +kernel
theorem dL_law_273 : decode cL_law 273 = .ok (.iconst 1, 1) := by decide +kernel
theorem dL_law_274 : decode cL_law 274 = .ok (.iadd, 1) := by decide +kernel
theorem dL_law_275 : decode cL_law 275 = .ok (.iaload, 1) := by decide +kernel
theorem dL_law_276 : decode cL_law 276 = .ok (.aload_n 0, 1) := by decide +kernel
theorem dL_law_277 : decode cL_law 277 = .ok (.iload_n 3, 1) := by decide +kernel
theorem dL_law_278 : decode cL_law 278 = .ok (.iconst 2, 1) := by decide +kernel
theorem dL_law_279 : decode cL_law 279 = .ok (.iadd, 1) := by decide +kernel
theorem dL_law_280 : decode cL_law 280 = .ok (.iaload, 1) := by decide +kernel
theorem dL_law_281 : decode cL_law 281 = .ok (.aload_n 0, 1) := by decide +kernel
theorem dL_law_282 : decode cL_law 282 = .ok (.iload_n 3, 1) := by decide +kernel
theorem dL_law_283 : decode cL_law 283 = .ok (.iconst 3, 1) := by decide +kernel
theorem dL_law_284 : decode cL_law 284 = .ok (.iadd, 1) := by decide +kernel
theorem dL_law_285 : decode cL_law 285 = .ok (.iaload, 1) := by decide +kernel
theorem dL_law_286 : decode cL_law 286 = .ok (.invokevirtual 22, 3) := by decide +kernel
theorem dL_law_289 : decode cL_law 289 = .ok (.if_icmp .eq 883, 3) := by decide +kernel
theorem dL_law_292 : decode cL_law 292 = .ok (.iconst 0, 1) := by decide +kernel
theorem dL_law_293 : decode cL_law 293 = .ok (.ireturn, 1) := by decide +kernel
theorem dL_law_294 : decode cL_law 294 = .ok (.aload_n 1, 1) := by decide +kernel
theorem dL_law_295 : decode cL_law 295 = .ok (.aload_n 0, 1) := by decide +kernel
theorem dL_law_296 : decode cL_law 296 = .ok (.iload_n 3, 1) := by decide +kernel
theorem dL_law_297 : decode cL_law 297 = .ok (.iconst 1, 1) := by decide +kernel
theorem dL_law_298 : decode cL_law 298 = .ok (.iadd, 1) := by decide +kernel
theorem dL_law_299 : decode cL_law 299 = .ok (.iaload, 1) := by decide +kernel
theorem dL_law_300 : decode cL_law 300 = .ok (.aload_n 0, 1) := by decide +kernel
theorem dL_law_301 : decode cL_law 301 = .ok (.iload_n 3, 1) := by decide +kernel
theorem dL_law_302 : decode cL_law 302 = .ok (.iconst 2, 1) := by decide +kernel
theorem dL_law_303 : decode cL_law 303 = .ok (.iadd, 1) := by decide +kernel
theorem dL_law_304 : decode cL_law 304 = .ok (.iaload, 1) := by decide +kernel
theorem dL_law_305 : decode cL_law 305 = .ok (.aload_n 0, 1) := by decide +kernel
theorem dL_law_306 : decode cL_law 306 = .ok (.iload_n 3, 1) := by decide +kernel
theorem dL_law_307 : decode cL_law 307 = .ok (.iconst 3, 1) := by decide +kernel
theorem dL_law_308 : decode cL_law 308 = .ok (.iadd, 1) := by decide +kernel
theorem dL_law_309 : decode cL_law 309 = .ok (.iaload, 1) := by decide +kernel
theorem dL_law_310 : decode cL_law 310 = .ok (.invokevirtual 23, 3) := by decide +kernel
theorem dL_law_313 : decode cL_law 313 = .ok (.aload_n 2, 1) := by decide +kernel
theorem dL_law_314 : decode cL_law 314 = .ok (.aload_n 0, 1) := by decide +kernel
theorem dL_law_315 : decode cL_law 315 = .ok (.iload_n 3, 1) := by decide +kernel
theorem dL_law_316 : decode cL_law 316 = .ok (.iconst 1, 1) := by decide +kernel
theorem dL_law_317 : decode cL_law 317 = .ok (.iadd, 1) := by decide +kernel
theorem dL_law_318 : decode cL_law 318 = .ok (.iaload, 1) := by decide +kernel
theorem dL_law_319 : decode cL_law 319 = .ok (.aload_n 0, 1) := by decide +kernel
theorem dL_law_320 : decode cL_law 320 = .ok (.iload_n 3, 1) := by decide +kernel
theorem dL_law_321 : decode cL_law 321 = .ok (.iconst 2, 1) := by decide +kernel
theorem dL_law_322 : decode cL_law 322 = .ok (.iadd, 1) := by decide +kernel
theorem dL_law_323 : decode cL_law 323 = .ok (.iaload, 1) := by decide +kernel
theorem dL_law_324 : decode cL_law 324 = .ok (.aload_n 0, 1) := by decide +kernel
theorem dL_law_325 : decode cL_law 325 = .ok (.iload_n 3, 1) := by decide +kernel
theorem dL_law_326 : decode cL_law 326 = .ok (.iconst 3, 1) := by decide +kernel
theorem dL_law_327 : decode cL_law 327 = .ok (.iadd, 1) := by decide +kernel
theorem dL_law_328 : decode cL_law 328 = .ok (.iaload, 1) := by decide +kernel
theorem dL_law_329 : decode cL_law 329 = .ok (.invokevirtual 26, 3) := by decide +kernel
theorem dL_law_332 : decode cL_law 332 = .ok (.if_icmp .eq 840, 3) := by decide +kernel
theorem dL_law_335 : decode cL_law 335 = .ok (.iconst 0, 1) := by decide +kernel
theorem dL_law_336 : decode cL_law 336 = .ok (.ireturn, 1) := by decide +kernel
theorem dL_law_337 : decode cL_law 337 = .ok (.aload_n 1, 1) := by decide +kernel
theorem dL_law_338 : decode cL_law 338 = .ok (.aload_n 0, 1) := by decide +kernel
theorem dL_law_339 : decode cL_law 339 = .ok (.iload_n 3, 1) := by decide +kernel
theorem dL_law_340 : decode cL_law 340 = .ok (.iconst 1, 1) := by decide +kernel
theorem dL_law_341 : decode cL_law 341 = .ok (.iadd, 1) := by decide +kernel
theorem dL_law_342 : decode cL_law 342 = .ok (.iaload, 1) := by decide +kernel
theorem dL_law_343 : decode cL_law 343 = .ok (.aload_n 0, 1) := by decide +kernel
theorem dL_law_344 : decode cL_law 344 = .ok (.iload_n 3, 1) := by decide +kernel
theorem dL_law_345 : decode cL_law 345 = .ok (.iconst 2, 1) := by decide +kernel
theorem dL_law_346 : decode cL_law 346 = .ok (.iadd, 1) := by decide +kernel
theorem dL_law_347 : decode cL_law 347 = .ok (.iaload, 1) := by decide +kernel
theorem dL_law_348 : decode cL_law 348 = .ok (.ifCond .eq 7, 3) := by decide +kernel
theorem dL_law_351 : decode cL_law 351 = .ok (.iconst 1, 1) := by decide +kernel
theorem dL_law_352 : decode cL_law 352 = .ok (.goto 4, 3) := by decide +kernel
theorem dL_law_355 : decode cL_law 355 = .ok (.iconst 0, 1) := by decide +kernel
theorem dL_law_356 : decode cL_law 356 = .ok (.invokevirtual 27, 3) := by decide +kernel
theorem dL_law_359 : decode cL_law 359 = .ok (.aload_n 2, 1) := by decide +kernel
theorem dL_law_360 : decode cL_law 360 = .ok (.aload_n 0, 1) := by decide +kernel
theorem dL_law_361 : decode cL_law 361 = .ok (.iload_n 3, 1) := by decide +kernel
theorem dL_law_362 : decode cL_law 362 = .ok (.iconst 1, 1) := by decide +kernel
theorem dL_law_363 : decode cL_law 363 = .ok (.iadd, 1) := by decide +kernel
theorem dL_law_364 : decode cL_law 364 = .ok (.iaload, 1) := by decide +kernel
theorem dL_law_365 : decode cL_law 365 = .ok (.aload_n 0, 1) := by decide +kernel
theorem dL_law_366 : decode cL_law 366 = .ok (.iload_n 3, 1) := by decide +kernel
theorem dL_law_367 : decode cL_law 367 = .ok (.iconst 2, 1) := by decide +kernel
theorem dL_law_368 : decode cL_law 368 = .ok (.iadd, 1) := by decide +kernel
theorem dL_law_369 : decode cL_law 369 = .ok (.iaload, 1) := by decide +kernel
theorem dL_law_370 : decode cL_law 370 = .ok (.ifCond .eq 7, 3) := by decide +kernel
theorem dL_law_373 : decode cL_law 373 = .ok (.iconst 1, 1) := by decide +kernel
theorem dL_law_374 : decode cL_law 374 = .ok (.goto 4, 3) := by decide +kernel
theorem dL_law_377 : decode cL_law 377 = .ok (.iconst 0, 1) := by decide +kernel
theorem dL_law_378 : decode cL_law 378 = .ok (.invokevirtual 31, 3) := by decide +kernel
theorem dL_law_381 : decode cL_law 381 = .ok (.if_icmp .eq 791, 3) := by decide +kernel
theorem dL_law_384 : decode cL_law 384 = .ok (.iconst 0, 1) := by decide +kernel
theorem dL_law_385 : decode cL_law 385 = .ok (.ireturn, 1) := by decide +kernel
theorem dL_law_386 : decode cL_law 386 = .ok (.aload_n 1, 1) := by decide +kernel
theorem dL_law_387 : decode cL_law 387 = .ok (.aload_n 0, 1) := by decide +kernel
theorem dL_law_388 : decode cL_law 388 = .ok (.iload_n 3, 1) := by decide +kernel
theorem dL_law_389 : decode cL_law 389 = .ok (.iconst 1, 1) := by decide +kernel
theorem dL_law_390 : decode cL_law 390 = .ok (.iadd, 1) := by decide +kernel
theorem dL_law_391 : decode cL_law 391 = .ok (.iaload, 1) := by decide +kernel
theorem dL_law_392 : decode cL_law 392 = .ok (.invokevirtual 32, 3) := by decide +kernel
theorem dL_law_395 : decode cL_law 395 = .ok (.aload_n 2, 1) := by decide +kernel
theorem dL_law_396 : decode cL_law 396 = .ok (.aload_n 0, 1) := by decide +kernel
theorem dL_law_397 : decode cL_law 397 = .ok (.iload_n 3, 1) := by decide +kernel
theorem dL_law_398 : decode cL_law 398 = .ok (.iconst 1, 1) := by decide +kernel
theorem dL_law_399 : decode cL_law 399 = .ok (.iadd, 1) := by decide +kernel
theorem dL_law_400 : decode cL_law 400 = .ok (.iaload, 1) := by decide +kernel
theorem dL_law_401 : decode cL_law 401 = .ok (.invokevirtual 36, 3) := by decide +kernel
theorem dL_law_404 : decode cL_law 404 = .ok (.if_icmp .eq 768, 3) := by decide +kernel
theorem dL_law_407 : decode cL_law 407 = .ok (.iconst 0, 1) := by decide +kernel
theorem dL_law_408 : decode cL_law 408 = .ok (.ireturn, 1) := by decide +kernel
theorem dL_law_409 : decode cL_law 409 = .ok (.aload_n 1, 1) := by decide +kernel
theorem dL_law_410 : decode cL_law 410 = .ok (.aload_n 0, 1) := by decide +kernel
theorem dL_law_411 : decode cL_law 411 = .ok (.iload_n 3, 1) := by decide +kernel
theorem dL_law_412 : decode cL_law 412 = .ok (.iconst 1, 1) := by decide +kernel
theorem dL_law_413 : decode cL_law 413 = .ok (.iadd, 1) := by decide +kernel
theorem dL_law_414 : decode cL_law 414 = .ok (.iaload, 1) := by decide +kernel
theorem dL_law_415 : decode cL_law 415 = .ok (.invokevirtual 37, 3) := by decide +kernel
theorem dL_law_418 : decode cL_law 418 = .ok (.aload_n 2, 1) := by decide +kernel
theorem dL_law_419 : decode cL_law 419 = .ok (.aload_n 0, 1) := by decide +kernel
theorem dL_law_420 : decode cL_law 420 = .ok (.iload_n 3, 1) := by decide +kernel
theorem dL_law_421 : decode cL_law 421 = .ok (.iconst 1, 1) := by decide +kernel
theorem dL_law_422 : decode cL_law 422 = .ok (.iadd, 1) := by decide +kernel
theorem dL_law_423 : decode cL_law 423 = .ok (.iaload, 1) := by decide +kernel
theorem dL_law_424 : decode cL_law 424 = .ok (.invokevirtual 40, 3) := by decide +kernel
theorem dL_law_427 : decode cL_law 427 = .ok (.if_icmp .eq 745, 3) := by decide +kernel
theorem dL_law_430 : decode cL_law 430 = .ok (.iconst 0, 1) := by decide +kernel
theorem dL_law_431 : decode cL_law 431 = .ok (.ireturn, 1) := by decide +kernel
theorem dL_law_432 : decode cL_law 432 = .ok (.aload_n 1, 1) := by decide +kernel
theorem dL_law_433 : decode cL_law 433 = .ok (.aload_n 0, 1) := by decide +kernel
theorem dL_law_434 : decode cL_law 434 = .ok (.iload_n 3, 1) := by decide +kernel
theorem dL_law_435 : decode cL_law 435 = .ok (.iconst 1, 1) := by decide +kernel
theorem dL_law_436 : decode cL_law 436 = .ok (.iadd, 1) := by decide +kernel
theorem dL_law_437 : decode cL_law 437 = .ok (.iaload, 1) := by decide +kernel
theorem dL_law_438 : decode cL_law 438 = .ok (.invokevirtual 41, 3) := by decide +kernel
theorem dL_law_441 : decode cL_law 441 = .ok (.aload_n 2, 1) := by decide +kernel
theorem dL_law_442 : decode cL_law 442 = .ok (.aload_n 0, 1) := by decide +kernel
theorem dL_law_443 : decode cL_law 443 = .ok (.iload_n 3, 1) := by decide +kernel
theorem dL_law_444 : decode cL_law 444 = .ok (.iconst 1, 1) := by decide +kernel
theorem dL_law_445 : decode cL_law 445 = .ok (.iadd, 1) := by decide +kernel
theorem dL_law_446 : decode cL_law 446 = .ok (.iaload, 1) := by decide +kernel
theorem dL_law_447 : decode cL_law 447 = .ok (.invokevirtual 44, 3) := by decide +kernel
theorem dL_law_450 : decode cL_law 450 = .ok (.if_icmp .eq 722, 3) := by decide +kernel
theorem dL_law_453 : decode cL_law 453 = .ok (.iconst 0, 1) := by decide +kernel
theorem dL_law_454 : decode cL_law 454 = .ok (.ireturn, 1) := by decide +kernel
theorem dL_law_455 : decode cL_law 455 = .ok (.aload_n 1, 1) := by decide +kernel
theorem dL_law_456 : decode cL_law 456 = .ok (.aload_n 0, 1) := by decide +kernel
theorem dL_law_457 : decode cL_law 457 = .ok (.iload_n 3, 1) := by decide +kernel
theorem dL_law_458 : decode cL_law 458 = .ok (.iconst 1, 1) := by decide +kernel
theorem dL_law_459 : decode cL_law 459 = .ok (.iadd, 1) := by decide +kernel
theorem dL_law_460 : decode cL_law 460 = .ok (.iaload, 1) := by decide +kernel
theorem dL_law_461 : decode cL_law 461 = .ok (.aload_n 0, 1) := by decide +kernel
theorem dL_law_462 : decode cL_law 462 = .ok (.iload_n 3, 1) := by decide +kernel
theorem dL_law_463 : decode cL_law 463 = .ok (.iconst 2, 1) := by decide +kernel
theorem dL_law_464 : decode cL_law 464 = .ok (.iadd, 1) := by decide +kernel
theorem dL_law_465 : decode cL_law 465 = .ok (.iaload, 1) := by decide +kernel
theorem dL_law_466 : decode cL_law 466 = .ok (.aload_n 0, 1) := by decide +kernel
theorem dL_law_467 : decode cL_law 467 = .ok (.iload_n 3, 1) := by decide +kernel
theorem dL_law_468 : decode cL_law 468 = .ok (.iconst 3, 1) := by decide +kernel
theorem dL_law_469 : decode cL_law 469 = .ok (.iadd, 1) := by decide +kernel
theorem dL_law_470 : decode cL_law 470 = .ok (.iaload, 1) := by decide +kernel
theorem dL_law_471 : decode cL_law 471 = .ok (.invokevirtual 45, 3) := by decide +kernel
theorem dL_law_474 : decode cL_law 474 = .ok (.aload_n 2, 1) := by decide +kernel
theorem dL_law_475 : decode cL_law 475 = .ok (.aload_n 0, 1) := by decide +kernel
theorem dL_law_476 : decode cL_law 476 = .ok (.iload_n 3, 1) := by decide +kernel
theorem dL_law_477 : decode cL_law 477 = .ok (.iconst 1, 1) := by decide +kernel
theorem dL_law_478 : decode cL_law 478 = .ok (.iadd, 1) := by decide +kernel
theorem dL_law_479 : decode cL_law 479 = .ok (.iaload, 1) := by decide +kernel
theorem dL_law_480 : decode cL_law 480 = .ok (.aload_n 0, 1) := by decide +kernel
theorem dL_law_481 : decode cL_law 481 = .ok (.iload_n 3, 1) := by decide +kernel
theorem dL_law_482 : decode cL_law 482 = .ok (.iconst 2, 1) := by decide +kernel
theorem dL_law_483 : decode cL_law 483 = .ok (.iadd, 1) := by decide +kernel
theorem dL_law_484 : decode cL_law 484 = .ok (.iaload, 1) := by decide +kernel
theorem dL_law_485 : decode cL_law 485 = .ok (.aload_n 0, 1) := by decide +kernel
theorem dL_law_486 : decode cL_law 486 = .ok (.iload_n 3, 1) := by decide +kernel
theorem dL_law_487 : decode cL_law 487 = .ok (.iconst 3, 1) := by decide +kernel
theorem dL_law_488 : decode cL_law 488 = .ok (.iadd, 1) := by decide +kernel
theorem dL_law_489 : decode cL_law 489 = .ok (.iaload, 1) := by decide +kernel
theorem dL_law_490 : decode cL_law 490 = .ok (.invokevirtual 48, 3) := by decide +kernel
theorem dL_law_493 : decode cL_law 493 = .ok (.if_icmp .eq 679, 3) := by decide +kernel
theorem dL_law_496 : decode cL_law 496 = .ok (.iconst 0, 1) := by decide +kernel
theorem dL_law_497 : decode cL_law 497 = .ok (.ireturn, 1) := by decide +kernel
theorem dL_law_498 : decode cL_law 498 = .ok (.aload_n 1, 1) := by decide +kernel
theorem dL_law_499 : decode cL_law 499 = .ok (.aload_n 0, 1) := by decide +kernel
theorem dL_law_500 : decode cL_law 500 = .ok (.iload_n 3, 1) := by decide +kernel
theorem dL_law_501 : decode cL_law 501 = .ok (.iconst 1, 1) := by decide +kernel
theorem dL_law_502 : decode cL_law 502 = .ok (.iadd, 1) := by decide +kernel
theorem dL_law_503 : decode cL_law 503 = .ok (.iaload, 1) := by decide +kernel
theorem dL_law_504 : decode cL_law 504 = .ok (.invokevirtual 49, 3) := by decide +kernel
theorem dL_law_507 : decode cL_law 507 = .ok (.aload_n 2, 1) := by decide +kernel
theorem dL_law_508 : decode cL_law 508 = .ok (.aload_n 0, 1) := by decide +kernel
theorem dL_law_509 : decode cL_law 509 = .ok (.iload_n 3, 1) := by decide +kernel
theorem dL_law_510 : decode cL_law 510 = .ok (.iconst 1, 1) := by decide +kernel
theorem dL_law_511 : decode cL_law 511 = .ok (.iadd, 1) := by decide +kernel
theorem dL_law_512 : decode cL_law 512 = .ok (.iaload, 1) := by decide +kernel
theorem dL_law_513 : decode cL_law 513 = .ok (.invokevirtual 52, 3) := by decide +kernel
theorem dL_law_516 : decode cL_law 516 = .ok (.if_icmp .eq 656, 3) := by decide +kernel
theorem dL_law_519 : decode cL_law 519 = .ok (.iconst 0, 1) := by decide +kernel
theorem dL_law_520 : decode cL_law 520 = .ok (.ireturn, 1) := by decide +kernel
theorem dL_law_521 : decode cL_law 521 = .ok (.aload_n 1, 1) := by decide +kernel
theorem dL_law_522 : decode cL_law 522 = .ok (.aload_n 0, 1) := by decide +kernel
theorem dL_law_523 : decode cL_law 523 = .ok (.iload_n 3, 1) := by decide +kernel
theorem dL_law_524 : decode cL_law 524 = .ok (.iconst 1, 1) := by decide +kernel
theorem dL_law_525 : decode cL_law 525 = .ok (.iadd, 1) := by decide +kernel
theorem dL_law_526 : decode cL_law 526 = .ok (.iaload, 1) := by decide +kernel
theorem dL_law_527 : decode cL_law 527 = .ok (.aload_n 0, 1) := by decide +kernel
theorem dL_law_528 : decode cL_law 528 = .ok (.iload_n 3, 1) := by decide +kernel
theorem dL_law_529 : decode cL_law 529 = .ok (.iconst 2, 1) := by decide +kernel
theorem dL_law_530 : decode cL_law 530 = .ok (.iadd, 1) := by decide +kernel
theorem dL_law_531 : decode cL_law 531 = .ok (.iaload, 1) := by decide +kernel
theorem dL_law_532 : decode cL_law 532 = .ok (.aload_n 0, 1) := by decide +kernel
theorem dL_law_533 : decode cL_law 533 = .ok (.iload_n 3, 1) := by decide +kernel
theorem dL_law_534 : decode cL_law 534 = .ok (.iconst 3, 1) := by decide +kernel
theorem dL_law_535 : decode cL_law 535 = .ok (.iadd, 1) := by decide +kernel
theorem dL_law_536 : decode cL_law 536 = .ok (.iaload, 1) := by decide +kernel
theorem dL_law_537 : decode cL_law 537 = .ok (.invokevirtual 53, 3) := by decide +kernel
theorem dL_law_540 : decode cL_law 540 = .ok (.aload_n 2, 1) := by decide +kernel
theorem dL_law_541 : decode cL_law 541 = .ok (.aload_n 0, 1) := by decide +kernel
theorem dL_law_542 : decode cL_law 542 = .ok (.iload_n 3, 1) := by decide +kernel
theorem dL_law_543 : decode cL_law 543 = .ok (.iconst 1, 1) := by decide +kernel
theorem dL_law_544 : decode cL_law 544 = .ok (.iadd, 1) := by decide +kernel
theorem dL_law_545 : decode cL_law 545 = .ok (.iaload, 1) := by decide +kernel
theorem dL_law_546 : decode cL_law 546 = .ok (.aload_n 0, 1) := by decide +kernel
theorem dL_law_547 : decode cL_law 547 = .ok (.iload_n 3, 1) := by decide +kernel
theorem dL_law_548 : decode cL_law 548 = .ok (.iconst 2, 1) := by decide +kernel
theorem dL_law_549 : decode cL_law 549 = .ok (.iadd, 1) := by decide +kernel
theorem dL_law_550 : decode cL_law 550 = .ok (.iaload, 1) := by decide +kernel
theorem dL_law_551 : decode cL_law 551 = .ok (.aload_n 0, 1) := by decide +kernel
theorem dL_law_552 : decode cL_law 552 = .ok (.iload_n 3, 1) := by decide +kernel
theorem dL_law_553 : decode cL_law 553 = .ok (.iconst 3, 1) := by decide +kernel
theorem dL_law_554 : decode cL_law 554 = .ok (.iadd, 1) := by decide +kernel
theorem dL_law_555 : decode cL_law 555 = .ok (.iaload, 1) := by decide +kernel
theorem dL_law_556 : decode cL_law 556 = .ok (.invokevirtual 56, 3) := by decide +kernel
theorem dL_law_559 : decode cL_law 559 = .ok (.if_icmp .eq 613, 3) := by decide +kernel
theorem dL_law_562 : decode cL_law 562 = .ok (.iconst 0, 1) := by decide +kernel
theorem dL_law_563 : decode cL_law 563 = .ok (.ireturn, 1) := by decide +kernel
theorem dL_law_564 : decode cL_law 564 = .ok (.aload_n 1, 1) := by decide +kernel
theorem dL_law_565 : decode cL_law 565 = .ok (.aload_n 0, 1) := by decide +kernel
theorem dL_law_566 : decode cL_law 566 = .ok (.iload_n 3, 1) := by decide +kernel
theorem dL_law_567 : decode cL_law 567 = .ok (.iconst 1, 1) := by decide +kernel
theorem dL_law_568 : decode cL_law 568 = .ok (.iadd, 1) := by decide +kernel
theorem dL_law_569 : decode cL_law 569 = .ok (.iaload, 1) := by decide +kernel
theorem dL_law_570 : decode cL_law 570 = .ok (.aload_n 0, 1) := by decide +kernel
theorem dL_law_571 : decode cL_law 571 = .ok (.iload_n 3, 1) := by decide +kernel
theorem dL_law_572 : decode cL_law 572 = .ok (.iconst 2, 1) := by decide +kernel
theorem dL_law_573 : decode cL_law 573 = .ok (.iadd, 1) := by decide +kernel
theorem dL_law_574 : decode cL_law 574 = .ok (.iaload, 1) := by decide +kernel
theorem dL_law_575 : decode cL_law 575 = .ok (.invokevirtual 57, 3) := by decide +kernel
theorem dL_law_578 : decode cL_law 578 = .ok (.aload_n 2, 1) := by decide +kernel
theorem dL_law_579 : decode cL_law 579 = .ok (.aload_n 0, 1) := by decide +kernel
theorem dL_law_580 : decode cL_law 580 = .ok (.iload_n 3, 1) := by decide +kernel
theorem dL_law_581 : decode cL_law 581 = .ok (.iconst 1, 1) := by decide +kernel
theorem dL_law_582 : decode cL_law 582 = .ok (.iadd, 1) := by decide +kernel
theorem dL_law_583 : decode cL_law 583 = .ok (.iaload, 1) := by decide +kernel
theorem dL_law_584 : decode cL_law 584 = .ok (.aload_n 0, 1) := by decide +kernel
theorem dL_law_585 : decode cL_law 585 = .ok (.iload_n 3, 1) := by decide +kernel
theorem dL_law_586 : decode cL_law 586 = .ok (.iconst 2, 1) := by decide +kernel
theorem dL_law_587 : decode cL_law 587 = .ok (.iadd, 1) := by decide +kernel
theorem dL_law_588 : decode cL_law 588 = .ok (.iaload, 1) := by decide +kernel
theorem dL_law_589 : decode cL_law 589 = .ok (.invokevirtual 61, 3) := by decide +kernel
theorem dL_law_592 : decode cL_law 592 = .ok (.if_icmp .eq 580, 3) := by decide +kernel
theorem dL_law_595 : decode cL_law 595 = .ok (.iconst 0, 1) := by decide +kernel
theorem dL_law_596 : decode cL_law 596 = .ok (.ireturn, 1) := by decide +kernel
theorem dL_law_597 : decode cL_law 597 = .ok (.aload_n 1, 1) := by decide +kernel
theorem dL_law_598 : decode cL_law 598 = .ok (.aload_n 0, 1) := by decide +kernel
theorem dL_law_599 : decode cL_law 599 = .ok (.iload_n 3, 1) := by decide +kernel
theorem dL_law_600 : decode cL_law 600 = .ok (.iconst 1, 1) := by decide +kernel
theorem dL_law_601 : decode cL_law 601 = .ok (.iadd, 1) := by decide +kernel
theorem dL_law_602 : decode cL_law 602 = .ok (.iaload, 1) := by decide +kernel
theorem dL_law_603 : decode cL_law 603 = .ok (.aload_n 0, 1) := by decide +kernel
theorem dL_law_604 : decode cL_law 604 = .ok (.iload_n 3, 1) := by decide +kernel
theorem dL_law_605 : decode cL_law 605 = .ok (.iconst 2, 1) := by decide +kernel
theorem dL_law_606 : decode cL_law 606 = .ok (.iadd, 1) := by decide +kernel
theorem dL_law_607 : decode cL_law 607 = .ok (.iaload, 1) := by decide +kernel
theorem dL_law_608 : decode cL_law 608 = .ok (.invokevirtual 62, 3) := by decide +kernel
theorem dL_law_611 : decode cL_law 611 = .ok (.aload_n 2, 1) := by decide +kernel
theorem dL_law_612 : decode cL_law 612 = .ok (.aload_n 0, 1) := by decide +kernel
theorem dL_law_613 : decode cL_law 613 = .ok (.iload_n 3, 1) := by decide +kernel
theorem dL_law_614 : decode cL_law 614 = .ok (.iconst 1, 1) := by decide +kernel
theorem dL_law_615 : decode cL_law 615 = .ok (.iadd, 1) := by decide +kernel
theorem dL_law_616 : decode cL_law 616 = .ok (.iaload, 1) := by decide +kernel
theorem dL_law_617 : decode cL_law 617 = .ok (.aload_n 0, 1) := by decide +kernel
theorem dL_law_618 : decode cL_law 618 = .ok (.iload_n 3, 1) := by decide +kernel
theorem dL_law_619 : decode cL_law 619 = .ok (.iconst 2, 1) := by decide +kernel
theorem dL_law_620 : decode cL_law 620 = .ok (.iadd, 1) := by decide +kernel
theorem dL_law_621 : decode cL_law 621 = .ok (.iaload, 1) := by decide +kernel
theorem dL_law_622 : decode cL_law 622 = .ok (.invokevirtual 65, 3) := by decide +kernel
theorem dL_law_625 : decode cL_law 625 = .ok (.if_icmp .eq 547, 3) := by decide +kernel
theorem dL_law_628 : decode cL_law 628 = .ok (.iconst 0, 1) := by decide +kernel
theorem dL_law_629 : decode cL_law 629 = .ok (.ireturn, 1) := by decide +kernel
theorem dL_law_630 : decode cL_law 630 = .ok (.aload_n 1, 1) := by decide +kernel
theorem dL_law_631 : decode cL_law 631 = .ok (.aload_n 0, 1) := by decide +kernel
theorem dL_law_632 : decode cL_law 632 = .ok (.iload_n 3, 1) := by decide +kernel
theorem dL_law_633 : decode cL_law 633 = .ok (.iconst 1, 1) := by decide +kernel
theorem dL_law_634 : decode cL_law 634 = .ok (.iadd, 1) := by decide +kernel
theorem dL_law_635 : decode cL_law 635 = .ok (.iaload, 1) := by decide +kernel
theorem dL_law_636 : decode cL_law 636 = .ok (.aload_n 0, 1) := by decide +kernel
theorem dL_law_637 : decode cL_law 637 = .ok (.iload_n 3, 1) := by decide +kernel
theorem dL_law_638 : decode cL_law 638 = .ok (.iconst 2, 1) := by decide +kernel
theorem dL_law_639 : decode cL_law 639 = .ok (.iadd, 1) := by decide +kernel
theorem dL_law_640 : decode cL_law 640 = .ok (.iaload, 1) := by decide +kernel
theorem dL_law_641 : decode cL_law 641 = .ok (.invokevirtual 66, 3) := by decide +kernel
theorem dL_law_644 : decode cL_law 644 = .ok (.aload_n 2, 1) := by decide +kernel
theorem dL_law_645 : decode cL_law 645 = .ok (.aload_n 0, 1) := by decide +kernel
theorem dL_law_646 : decode cL_law 646 = .ok (.iload_n 3, 1) := by decide +kernel
theorem dL_law_647 : decode cL_law 647 = .ok (.iconst 1, 1) := by decide +kernel
theorem dL_law_648 : decode cL_law 648 = .ok (.iadd, 1) := by decide +kernel
theorem dL_law_649 : decode cL_law 649 = .ok (.iaload, 1) := by decide +kernel
theorem dL_law_650 : decode cL_law 650 = .ok (.aload_n 0, 1) := by decide +kernel
theorem dL_law_651 : decode cL_law 651 = .ok (.iload_n 3, 1) := by decide +kernel
theorem dL_law_652 : decode cL_law 652 = .ok (.iconst 2, 1) := by decide +kernel
theorem dL_law_653 : decode cL_law 653 = .ok (.iadd, 1) := by decide +kernel
theorem dL_law_654 : decode cL_law 654 = .ok (.iaload, 1) := by decide +kernel
theorem dL_law_655 : decode cL_law 655 = .ok (.invokevirtual 69, 3) := by decide +kernel
theorem dL_law_658 : decode cL_law 658 = .ok (.if_icmp .eq 514, 3) := by decide +kernel
theorem dL_law_661 : decode cL_law 661 = .ok (.iconst 0, 1) := by decide +kernel
theorem dL_law_662 : decode cL_law 662 = .ok (.ireturn, 1) := by decide +kernel
theorem dL_law_663 : decode cL_law 663 = .ok (.aload_n 1, 1) := by decide +kernel
theorem dL_law_664 : decode cL_law 664 = .ok (.aload_n 0, 1) := by decide +kernel
theorem dL_law_665 : decode cL_law 665 = .ok (.iload_n 3, 1) := by decide +kernel
theorem dL_law_666 : decode cL_law 666 = .ok (.iconst 1, 1) := by decide +kernel
theorem dL_law_667 : decode cL_law 667 = .ok (.iadd, 1) := by decide +kernel
theorem dL_law_668 : decode cL_law 668 = .ok (.iaload, 1) := by decide +kernel
theorem dL_law_669 : decode cL_law 669 = .ok (.invokevirtual 70, 3) := by decide +kernel
theorem dL_law_672 : decode cL_law 672 = .ok (.aload_n 2, 1) := by decide +kernel
theorem dL_law_673 : decode cL_law 673 = .ok (.aload_n 0, 1) := by decide +kernel
theorem dL_law_674 : decode cL_law 674 = .ok (.iload_n 3, 1) := by decide +kernel
theorem dL_law_675 : decode cL_law 675 = .ok (.iconst 1, 1) := by decide +kernel
theorem dL_law_676 : decode cL_law 676 = .ok (.iadd, 1) := by decide +kernel
theorem dL_law_677 : decode cL_law 677 = .ok (.iaload, 1) := by decide +kernel
theorem dL_law_678 : decode cL_law 678 = .ok (.invokevirtual 73, 3) := by decide +kernel
theorem dL_law_681 : decode cL_law 681 = .ok (.if_icmp .eq 491, 3) := by decide +kernel
theorem dL_law_684 : decode cL_law 684 = .ok (.iconst 0, 1) := by decide +kernel
theorem dL_law_685 : decode cL_law 685 = .ok (.ireturn, 1) := by decide +kernel
theorem dL_law_686 : decode cL_law 686 = .ok (.aload_n 1, 1) := by decide +kernel
theorem dL_law_687 : decode cL_law 687 = .ok (.invokevirtual 74, 3) := by decide +kernel
theorem dL_law_690 : decode cL_law 690 = .ok (.aload_n 2, 1) := by decide +kernel
theorem dL_law_691 : decode cL_law 691 = .ok (.invokevirtual 78, 3) := by decide +kernel
theorem dL_law_694 : decode cL_law 694 = .ok (.if_icmp .eq 478, 3) := by decide +kernel
theorem dL_law_697 : decode cL_law 697 = .ok (.iconst 0, 1) := by decide +kernel
theorem dL_law_698 : decode cL_law 698 = .ok (.ireturn, 1) := by decide +kernel
theorem dL_law_699 : decode cL_law 699 = .ok (.aload_n 1, 1) := by decide +kernel
theorem dL_law_700 : decode cL_law 700 = .ok (.invokevirtual 79, 3) := by decide +kernel
theorem dL_law_703 : decode cL_law 703 = .ok (.aload_n 2, 1) := by decide +kernel
theorem dL_law_704 : decode cL_law 704 = .ok (.invokevirtual 82, 3) := by decide +kernel
theorem dL_law_707 : decode cL_law 707 = .ok (.if_icmp .eq 465, 3) := by decide +kernel
theorem dL_law_710 : decode cL_law 710 = .ok (.iconst 0, 1) := by decide +kernel
theorem dL_law_711 : decode cL_law 711 = .ok (.ireturn, 1) := by decide +kernel
theorem dL_law_712 : decode cL_law 712 = .ok (.aload_n 1, 1) := by decide +kernel
theorem dL_law_713 : decode cL_law 713 = .ok (.aload_n 0, 1) := by decide +kernel
theorem dL_law_714 : decode cL_law 714 = .ok (.iload_n 3, 1) := by decide +kernel
theorem dL_law_715 : decode cL_law 715 = .ok (.iconst 1, 1) := by decide +kernel
theorem dL_law_716 : decode cL_law 716 = .ok (.iadd, 1) := by decide +kernel
theorem dL_law_717 : decode cL_law 717 = .ok (.iaload, 1) := by decide +kernel
theorem dL_law_718 : decode cL_law 718 = .ok (.invokevirtual 83, 3) := by decide +kernel
theorem dL_law_721 : decode cL_law 721 = .ok (.aload_n 2, 1) := by decide +kernel
theorem dL_law_722 : decode cL_law 722 = .ok (.aload_n 0, 1) := by decide +kernel
theorem dL_law_723 : decode cL_law 723 = .ok (.iload_n 3, 1) := by decide +kernel
theorem dL_law_724 : decode cL_law 724 = .ok (.iconst 1, 1) := by decide +kernel
theorem dL_law_725 : decode cL_law 725 = .ok (.iadd, 1) := by decide +kernel
theorem dL_law_726 : decode cL_law 726 = .ok (.iaload, 1) := by decide +kernel
theorem dL_law_727 : decode cL_law 727 = .ok (.invokevirtual 87, 3) := by decide +kernel
theorem dL_law_730 : decode cL_law 730 = .ok (.lcmp, 1) := by decide +kernel
theorem dL_law_731 : decode cL_law 731 = .ok (.ifCond .eq 441, 3) := by decide +kernel
theorem dL_law_734 : decode cL_law 734 = .ok (.iconst 0, 1) := by decide +kernel
theorem dL_law_735 : decode cL_law 735 = .ok (.ireturn, 1) := by decide +kernel
theorem dL_law_736 : decode cL_law 736 = .ok (.aload_n 1, 1) := by decide +kernel
theorem dL_law_737 : decode cL_law 737 = .ok (.invokevirtual 88, 3) := by decide +kernel
theorem dL_law_740 : decode cL_law 740 = .ok (.aload_n 2, 1) := by decide +kernel
theorem dL_law_741 : decode cL_law 741 = .ok (.invokevirtual 91, 3) := by decide +kernel
theorem dL_law_744 : decode cL_law 744 = .ok (.if_icmp .eq 428, 3) := by decide +kernel
theorem dL_law_747 : decode cL_law 747 = .ok (.iconst 0, 1) := by decide +kernel
theorem dL_law_748 : decode cL_law 748 = .ok (.ireturn, 1) := by decide +kernel
theorem dL_law_749 : decode cL_law 749 = .ok (.aload_n 1, 1) := by decide +kernel
theorem dL_law_750 : decode cL_law 750 = .ok (.aload_n 0, 1) := by decide +kernel
theorem dL_law_751 : decode cL_law 751 = .ok (.iload_n 3, 1) := by decide +kernel
theorem dL_law_752 : decode cL_law 752 = .ok (.iconst 1, 1) := by decide +kernel
theorem dL_law_753 : decode cL_law 753 = .ok (.iadd, 1) := by decide +kernel
theorem dL_law_754 : decode cL_law 754 = .ok (.iaload, 1) := by decide +kernel
theorem dL_law_755 : decode cL_law 755 = .ok (.aload_n 0, 1) := by decide +kernel
theorem dL_law_756 : decode cL_law 756 = .ok (.iload_n 3, 1) := by decide +kernel
theorem dL_law_757 : decode cL_law 757 = .ok (.iconst 2, 1) := by decide +kernel
theorem dL_law_758 : decode cL_law 758 = .ok (.iadd, 1) := by decide +kernel
theorem dL_law_759 : decode cL_law 759 = .ok (.iaload, 1) := by decide +kernel
theorem dL_law_760 : decode cL_law 760 = .ok (.invokevirtual 92, 3) := by decide +kernel
theorem dL_law_763 : decode cL_law 763 = .ok (.aload_n 2, 1) := by decide +kernel
theorem dL_law_764 : decode cL_law 764 = .ok (.aload_n 0, 1) := by decide +kernel
theorem dL_law_765 : decode cL_law 765 = .ok (.iload_n 3, 1) := by decide +kernel
theorem dL_law_766 : decode cL_law 766 = .ok (.iconst 1, 1) := by decide +kernel
theorem dL_law_767 : decode cL_law 767 = .ok (.iadd, 1) := by decide +kernel
theorem dL_law_768 : decode cL_law 768 = .ok (.iaload, 1) := by decide +kernel
theorem dL_law_769 : decode cL_law 769 = .ok (.aload_n 0, 1) := by decide +kernel
theorem dL_law_770 : decode cL_law 770 = .ok (.iload_n 3, 1) := by decide +kernel
theorem dL_law_771 : decode cL_law 771 = .ok (.iconst 2, 1) := by decide +kernel
theorem dL_law_772 : decode cL_law 772 = .ok (.iadd, 1) := by decide +kernel
theorem dL_law_773 : decode cL_law 773 = .ok (.iaload, 1) := by decide +kernel
theorem dL_law_774 : decode cL_law 774 = .ok (.invokevirtual 95, 3) := by decide +kernel
theorem dL_law_777 : decode cL_law 777 = .ok (.if_icmp .eq 395, 3) := by decide +kernel
theorem dL_law_780 : decode cL_law 780 = .ok (.iconst 0, 1) := by decide +kernel
theorem dL_law_781 : decode cL_law 781 = .ok (.ireturn, 1) := by decide +kernel
theorem dL_law_782 : decode cL_law 782 = .ok (.aload_n 1, 1) := by decide +kernel
theorem dL_law_783 : decode cL_law 783 = .ok (.aload_n 0, 1) := by decide +kernel
theorem dL_law_784 : decode cL_law 784 = .ok (.iload_n 3, 1) := by decide +kernel
theorem dL_law_785 : decode cL_law 785 = .ok (.iconst 1, 1) := by decide +kernel
theorem dL_law_786 : decode cL_law 786 = .ok (.iadd, 1) := by decide +kernel
theorem dL_law_787 : decode cL_law 787 = .ok (.iaload, 1) := by decide +kernel
theorem dL_law_788 : decode cL_law 788 = .ok (.aload_n 0, 1) := by decide +kernel
theorem dL_law_789 : decode cL_law 789 = .ok (.iload_n 3, 1) := by decide +kernel
theorem dL_law_790 : decode cL_law 790 = .ok (.iconst 2, 1) := by decide +kernel
theorem dL_law_791 : decode cL_law 791 = .ok (.iadd, 1) := by decide +kernel
theorem dL_law_792 : decode cL_law 792 = .ok (.iaload, 1) := by decide +kernel
theorem dL_law_793 : decode cL_law 793 = .ok (.invokevirtual 96, 3) := by decide +kernel
theorem dL_law_796 : decode cL_law 796 = .ok (.aload_n 2, 1) := by decide +kernel
theorem dL_law_797 : decode cL_law 797 = .ok (.aload_n 0, 1) := by decide +kernel
theorem dL_law_798 : decode cL_law 798 = .ok (.iload_n 3, 1) := by decide +kernel
theorem dL_law_799 : decode cL_law 799 = .ok (.iconst 1, 1) := by decide +kernel
theorem dL_law_800 : decode cL_law 800 = .ok (.iadd, 1) := by decide +kernel
theorem dL_law_801 : decode cL_law 801 = .ok (.iaload, 1) := by decide +kernel
theorem dL_law_802 : decode cL_law 802 = .ok (.aload_n 0, 1) := by decide +kernel
theorem dL_law_803 : decode cL_law 803 = .ok (.iload_n 3, 1) := by decide +kernel
theorem dL_law_804 : decode cL_law 804 = .ok (.iconst 2, 1) := by decide +kernel
theorem dL_law_805 : decode cL_law 805 = .ok (.iadd, 1) := by decide +kernel
theorem dL_law_806 : decode cL_law 806 = .ok (.iaload, 1) := by decide +kernel
theorem dL_law_807 : decode cL_law 807 = .ok (.invokevirtual 99, 3) := by decide +kernel
theorem dL_law_810 : decode cL_law 810 = .ok (.if_icmp .eq 362, 3) := by decide +kernel
theorem dL_law_813 : decode cL_law 813 = .ok (.iconst 0, 1) := by decide +kernel
theorem dL_law_814 : decode cL_law 814 = .ok (.ireturn, 1) := by decide +kernel
theorem dL_law_815 : decode cL_law 815 = .ok (.aload_n 1, 1) := by decide +kernel
theorem dL_law_816 : decode cL_law 816 = .ok (.invokevirtual 100, 3) := by decide +kernel
theorem dL_law_819 : decode cL_law 819 = .ok (.aload_n 2, 1) := by decide +kernel
theorem dL_law_820 : decode cL_law 820 = .ok (.invokevirtual 103, 3) := by decide +kernel
theorem dL_law_823 : decode cL_law 823 = .ok (.if_icmp .eq 349, 3) := by decide +kernel
theorem dL_law_826 : decode cL_law 826 = .ok (.iconst 0, 1) := by decide +kernel
theorem dL_law_827 : decode cL_law 827 = .ok (.ireturn, 1) := by decide +kernel
theorem dL_law_828 : decode cL_law 828 = .ok (.aload_n 1, 1) := by decide +kernel
theorem dL_law_829 : decode cL_law 829 = .ok (.aload_n 0, 1) := by decide +kernel
theorem dL_law_830 : decode cL_law 830 = .ok (.iload_n 3, 1) := by decide +kernel
theorem dL_law_831 : decode cL_law 831 = .ok (.iconst 1, 1) := by decide +kernel
theorem dL_law_832 : decode cL_law 832 = .ok (.iadd, 1) := by decide +kernel
theorem dL_law_833 : decode cL_law 833 = .ok (.iaload, 1) := by decide +kernel
theorem dL_law_834 : decode cL_law 834 = .ok (.invokevirtual 104, 3) := by decide +kernel
theorem dL_law_837 : decode cL_law 837 = .ok (.aload_n 2, 1) := by decide +kernel
theorem dL_law_838 : decode cL_law 838 = .ok (.aload_n 0, 1) := by decide +kernel
theorem dL_law_839 : decode cL_law 839 = .ok (.iload_n 3, 1) := by decide +kernel
theorem dL_law_840 : decode cL_law 840 = .ok (.iconst 1, 1) := by decide +kernel
theorem dL_law_841 : decode cL_law 841 = .ok (.iadd, 1) := by decide +kernel
theorem dL_law_842 : decode cL_law 842 = .ok (.iaload, 1) := by decide +kernel
theorem dL_law_843 : decode cL_law 843 = .ok (.invokevirtual 107, 3) := by decide +kernel
theorem dL_law_846 : decode cL_law 846 = .ok (.if_icmp .eq 326, 3) := by decide +kernel
theorem dL_law_849 : decode cL_law 849 = .ok (.iconst 0, 1) := by decide +kernel
theorem dL_law_850 : decode cL_law 850 = .ok (.ireturn, 1) := by decide +kernel
theorem dL_law_851 : decode cL_law 851 = .ok (.aload_n 1, 1) := by decide +kernel
theorem dL_law_852 : decode cL_law 852 = .ok (.aload_n 0, 1) := by decide +kernel
theorem dL_law_853 : decode cL_law 853 = .ok (.iload_n 3, 1) := by decide +kernel
theorem dL_law_854 : decode cL_law 854 = .ok (.iconst 1, 1) := by decide +kernel
theorem dL_law_855 : decode cL_law 855 = .ok (.iadd, 1) := by decide +kernel
theorem dL_law_856 : decode cL_law 856 = .ok (.iaload, 1) := by decide +kernel
theorem dL_law_857 : decode cL_law 857 = .ok (.aload_n 0, 1) := by decide +kernel
theorem dL_law_858 : decode cL_law 858 = .ok (.iload_n 3, 1) := by decide +kernel
theorem dL_law_859 : decode cL_law 859 = .ok (.iconst 2, 1) := by decide +kernel
theorem dL_law_860 : decode cL_law 860 = .ok (.iadd, 1) := by decide +kernel
theorem dL_law_861 : decode cL_law 861 = .ok (.iaload, 1) := by decide +kernel
theorem dL_law_862 : decode cL_law 862 = .ok (.invokevirtual 108, 3) := by decide +kernel
theorem dL_law_865 : decode cL_law 865 = .ok (.aload_n 2, 1) := by decide +kernel
theorem dL_law_866 : decode cL_law 866 = .ok (.aload_n 0, 1) := by decide +kernel
theorem dL_law_867 : decode cL_law 867 = .ok (.iload_n 3, 1) := by decide +kernel
theorem dL_law_868 : decode cL_law 868 = .ok (.iconst 1, 1) := by decide +kernel
theorem dL_law_869 : decode cL_law 869 = .ok (.iadd, 1) := by decide +kernel
theorem dL_law_870 : decode cL_law 870 = .ok (.iaload, 1) := by decide +kernel
theorem dL_law_871 : decode cL_law 871 = .ok (.aload_n 0, 1) := by decide +kernel
theorem dL_law_872 : decode cL_law 872 = .ok (.iload_n 3, 1) := by decide +kernel
theorem dL_law_873 : decode cL_law 873 = .ok (.iconst 2, 1) := by decide +kernel
theorem dL_law_874 : decode cL_law 874 = .ok (.iadd, 1) := by decide +kernel
theorem dL_law_875 : decode cL_law 875 = .ok (.iaload, 1) := by decide +kernel
theorem dL_law_876 : decode cL_law 876 = .ok (.invokevirtual 111, 3) := by decide +kernel
theorem dL_law_879 : decode cL_law 879 = .ok (.if_icmp .eq 293, 3) := by decide +kernel
theorem dL_law_882 : decode cL_law 882 = .ok (.iconst 0, 1) := by decide +kernel
theorem dL_law_883 : decode cL_law 883 = .ok (.ireturn, 1) := by decide +kernel
theorem dL_law_884 : decode cL_law 884 = .ok (.aload_n 1, 1) := by decide +kernel
theorem dL_law_885 : decode cL_law 885 = .ok (.aload_n 0, 1) := by decide +kernel
theorem dL_law_886 : decode cL_law 886 = .ok (.iload_n 3, 1) := by decide +kernel
theorem dL_law_887 : decode cL_law 887 = .ok (.iconst 1, 1) := by decide +kernel
theorem dL_law_888 : decode cL_law 888 = .ok (.iadd, 1) := by decide +kernel
theorem dL_law_889 : decode cL_law 889 = .ok (.iaload, 1) := by decide +kernel
theorem dL_law_890 : decode cL_law 890 = .ok (.aload_n 0, 1) := by decide +kernel
theorem dL_law_891 : decode cL_law 891 = .ok (.iload_n 3, 1) := by decide +kernel
theorem dL_law_892 : decode cL_law 892 = .ok (.iconst 2, 1) := by decide +kernel
theorem dL_law_893 : decode cL_law 893 = .ok (.iadd, 1) := by decide +kernel
theorem dL_law_894 : decode cL_law 894 = .ok (.iaload, 1) := by decide +kernel
theorem dL_law_895 : decode cL_law 895 = .ok (.invokevirtual 112, 3) := by decide +kernel
theorem dL_law_898 : decode cL_law 898 = .ok (.aload_n 2, 1) := by decide +kernel
theorem dL_law_899 : decode cL_law 899 = .ok (.aload_n 0, 1) := by decide +kernel
theorem dL_law_900 : decode cL_law 900 = .ok (.iload_n 3, 1) := by decide +kernel
theorem dL_law_901 : decode cL_law 901 = .ok (.iconst 1, 1) := by decide +kernel
theorem dL_law_902 : decode cL_law 902 = .ok (.iadd, 1) := by decide +kernel
theorem dL_law_903 : decode cL_law 903 = .ok (.iaload, 1) := by decide +kernel
theorem dL_law_904 : decode cL_law 904 = .ok (.aload_n 0, 1) := by decide +kernel
theorem dL_law_905 : decode cL_law 905 = .ok (.iload_n 3, 1) := by decide +kernel
theorem dL_law_906 : decode cL_law 906 = .ok (.iconst 2, 1) := by decide +kernel
theorem dL_law_907 : decode cL_law 907 = .ok (.iadd, 1) := by decide +kernel
theorem dL_law_908 : decode cL_law 908 = .ok (.iaload, 1) := by decide +kernel
theorem dL_law_909 : decode cL_law 909 = .ok (.invokevirtual 115, 3) := by decide +kernel
theorem dL_law_912 : decode cL_law 912 = .ok (.if_icmp .eq 260, 3) := by decide +kernel
theorem dL_law_915 : decode cL_law 915 = .ok (.iconst 0, 1) := by decide +kernel
theorem dL_law_916 : decode cL_law 916 = .ok (.ireturn, 1) := by decide +kernel
theorem dL_law_917 : decode cL_law 917 = .ok (.aload_n 1, 1) := by decide +kernel
theorem dL_law_918 : decode cL_law 918 = .ok (.aload_n 0, 1) := by decide +kernel
theorem dL_law_919 : decode cL_law 919 = .ok (.iload_n 3, 1) := by decide +kernel
theorem dL_law_920 : decode cL_law 920 = .ok (.iconst 1, 1) := by decide +kernel
theorem dL_law_921 : decode cL_law 921 = .ok (.iadd, 1) := by decide +kernel
theorem dL_law_922 : decode cL_law 922 = .ok (.iaload, 1) := by decide +kernel
theorem dL_law_923 : decode cL_law 923 = .ok (.aload_n 0, 1) := by decide +kernel
theorem dL_law_924 : decode cL_law 924 = .ok (.iload_n 3, 1) := by decide +kernel
theorem dL_law_925 : decode cL_law 925 = .ok (.iconst 2, 1) := by decide +kernel
theorem dL_law_926 : decode cL_law 926 = .ok (.iadd, 1) := by decide +kernel
theorem dL_law_927 : decode cL_law 927 = .ok (.iaload, 1) := by decide +kernel
theorem dL_law_928 : decode cL_law 928 = .ok (.aload_n 0, 1) := by decide +kernel
theorem dL_law_929 : decode cL_law 929 = .ok (.iload_n 3, 1) := by decide +kernel
theorem dL_law_930 : decode cL_law 930 = .ok (.iconst 3, 1) := by decide +kernel
theorem dL_law_931 : decode cL_law 931 = .ok (.iadd, 1) := by decide +kernel
theorem dL_law_932 : decode cL_law 932 = .ok (.iaload, 1) := by decide +kernel
theorem dL_law_933 : decode cL_law 933 = .ok (.aload_n 0, 1) := by decide +kernel
theorem dL_law_934 : decode cL_law 934 = .ok (.iload_n 3, 1) := by decide +kernel
theorem dL_law_935 : decode cL_law 935 = .ok (.iconst 4, 1) := by decide +kernel
theorem dL_law_936 : decode cL_law 936 = .ok (.iadd, 1) := by decide +kernel
theorem dL_law_937 : decode cL_law 937 = .ok (.iaload, 1) := by decide +kernel
theorem dL_law_938 : decode cL_law 938 = .ok (.invokevirtual 116, 3) := by decide +kernel
theorem dL_law_941 : decode cL_law 941 = .ok (.aload_n 2, 1) := by decide +kernel
theorem dL_law_942 : decode cL_law 942 = .ok (.aload_n 0, 1) := by decide +kernel
theorem dL_law_943 : decode cL_law 943 = .ok (.iload_n 3, 1) := by decide +kernel
theorem dL_law_944 : decode cL_law 944 = .ok (.iconst 1, 1) := by decide +kernel
theorem dL_law_945 : decode cL_law 945 = .ok (.iadd, 1) := by decide +kernel
theorem dL_law_946 : decode cL_law 946 = .ok (.iaload, 1) := by decide +kernel
theorem dL_law_947 : decode cL_law 947 = .ok (.aload_n 0, 1) := by decide +kernel
theorem dL_law_948 : decode cL_law 948 = .ok (.iload_n 3, 1) := by decide +kernel
theorem dL_law_949 : decode cL_law 949 = .ok (.iconst 2, 1) := by decide +kernel
theorem dL_law_950 : decode cL_law 950 = .ok (.iadd, 1) := by decide +kernel
theorem dL_law_951 : decode cL_law 951 = .ok (.iaload, 1) := by decide +kernel
theorem dL_law_952 : decode cL_law 952 = .ok (.aload_n 0, 1) := by decide +kernel
theorem dL_law_953 : decode cL_law 953 = .ok (.iload_n 3, 1) := by decide +kernel
theorem dL_law_954 : decode cL_law 954 = .ok (.iconst 3, 1) := by decide +kernel
theorem dL_law_955 : decode cL_law 955 = .ok (.iadd, 1) := by decide +kernel
theorem dL_law_956 : decode cL_law 956 = .ok (.iaload, 1) := by decide +kernel
theorem dL_law_957 : decode cL_law 957 = .ok (.aload_n 0, 1) := by decide +kernel
theorem dL_law_958 : decode cL_law 958 = .ok (.iload_n 3, 1) := by decide +kernel
theorem dL_law_959 : decode cL_law 959 = .ok (.iconst 4, 1) := by decide +kernel
theorem dL_law_960 : decode cL_law 960 = .ok (.iadd, 1) := by decide +kernel
theorem dL_law_961 : decode cL_law 961 = .ok (.iaload, 1) := by decide +kernel
theorem dL_law_962 : decode cL_law 962 = .ok (.invokevirtual 120, 3) := by decide +kernel
theorem dL_law_965 : decode cL_law 965 = .ok (.if_icmp .eq 207, 3) := by decide +kernel
theorem dL_law_968 : decode cL_law 968 = .ok (.iconst 0, 1) := by decide +kernel
theorem dL_law_969 : decode cL_law 969 = .ok (.ireturn, 1) := by decide +kernel
theorem dL_law_970 : decode cL_law 970 = .ok (.aload_n 1, 1) := by decide +kernel
theorem dL_law_971 : decode cL_law 971 = .ok (.aload_n 0, 1) := by decide +kernel
theorem dL_law_972 : decode cL_law 972 = .ok (.iload_n 3, 1) := by decide +kernel
theorem dL_law_973 : decode cL_law 973 = .ok (.iconst 1, 1) := by decide +kernel
theorem dL_law_974 : decode cL_law 974 = .ok (.iadd, 1) := by decide +kernel
theorem dL_law_975 : decode cL_law 975 = .ok (.iaload, 1) := by decide +kernel
theorem dL_law_976 : decode cL_law 976 = .ok (.invokevirtual 121, 3) := by decide +kernel
theorem dL_law_979 : decode cL_law 979 = .ok (.aload_n 2, 1) := by decide +kernel
theorem dL_law_980 : decode cL_law 980 = .ok (.aload_n 0, 1) := by decide +kernel
theorem dL_law_981 : decode cL_law 981 = .ok (.iload_n 3, 1) := by decide +kernel
theorem dL_law_982 : decode cL_law 982 = .ok (.iconst 1, 1) := by decide +kernel
theorem dL_law_983 : decode cL_law 983 = .ok (.iadd, 1) := by decide +kernel
theorem dL_law_984 : decode cL_law 984 = .ok (.iaload, 1) := by decide +kernel
theorem dL_law_985 : decode cL_law 985 = .ok (.invokevirtual 124, 3) := by decide +kernel
theorem dL_law_988 : decode cL_law 988 = .ok (.if_icmp .eq 184, 3) := by decide +kernel
theorem dL_law_991 : decode cL_law 991 = .ok (.iconst 0, 1) := by decide +kernel
theorem dL_law_992 : decode cL_law 992 = .ok (.ireturn, 1) := by decide +kernel
theorem dL_law_993 : decode cL_law 993 = .ok (.aload_n 1, 1) := by decide +kernel
theorem dL_law_994 : decode cL_law 994 = .ok (.aload_n 0, 1) := by decide +kernel
theorem dL_law_995 : decode cL_law 995 = .ok (.iload_n 3, 1) := by decide +kernel
theorem dL_law_996 : decode cL_law 996 = .ok (.iconst 1, 1) := by decide +kernel
theorem dL_law_997 : decode cL_law 997 = .ok (.iadd, 1) := by decide +kernel
theorem dL_law_998 : decode cL_law 998 = .ok (.iaload, 1) := by decide +kernel
theorem dL_law_999 : decode cL_law 999 = .ok (.aload_n 0, 1) := by decide +kernel
theorem dL_law_1000 : decode cL_law 1000 = .ok (.iload_n 3, 1) := by decide +kernel
theorem dL_law_1001 : decode cL_law 1001 = .ok (.iconst 2, 1) := by decide +kernel
theorem dL_law_1002 : decode cL_law 1002 = .ok (.iadd, 1) := by decide +kernel
theorem dL_law_1003 : decode cL_law 1003 = .ok (.iaload, 1) := by decide +kernel
theorem dL_law_1004 : decode cL_law 1004 = .ok (.invokevirtual 125, 3) := by decide +kernel
theorem dL_law_1007 : decode cL_law 1007 = .ok (.aload_n 2, 1) := by decide +kernel
theorem dL_law_1008 : decode cL_law 1008 = .ok (.aload_n 0, 1) := by decide +kernel
theorem dL_law_1009 : decode cL_law 1009 = .ok (.iload_n 3, 1) := by decide +kernel
theorem dL_law_1010 : decode cL_law 1010 = .ok (.iconst 1, 1) := by decide +kernel
theorem dL_law_1011 : decode cL_law 1011 = .ok (.iadd, 1) := by decide +kernel
theorem dL_law_1012 : decode cL_law 1012 = .ok (.iaload, 1) := by decide +kernel
theorem dL_law_1013 : decode cL_law 1013 = .ok (.aload_n 0, 1) := by decide +kernel
theorem dL_law_1014 : decode cL_law 1014 = .ok (.iload_n 3, 1) := by decide +kernel
theorem dL_law_1015 : decode cL_law 1015 = .ok (.iconst 2, 1) := by decide +kernel
theorem dL_law_1016 : decode cL_law 1016 = .ok (.iadd, 1) := by decide +kernel
theorem dL_law_1017 : decode cL_law 1017 = .ok (.iaload, 1) := by decide +kernel
theorem dL_law_1018 : decode cL_law 1018 = .ok (.invokevirtual 128, 3) := by decide +kernel
theorem dL_law_1021 : decode cL_law 1021 = .ok (.if_icmp .eq 151, 3) := by decide +kernel
theorem dL_law_1024 : decode cL_law 1024 = .ok (.iconst 0, 1) := by decide +kernel
theorem dL_law_1025 : decode cL_law 1025 = .ok (.ireturn, 1) := by decide +kernel
theorem dL_law_1026 : decode cL_law 1026 = .ok (.aload_n 1, 1) := by decide +kernel
theorem dL_law_1027 : decode cL_law 1027 = .ok (.aload_n 0, 1) := by decide +kernel
theorem dL_law_1028 : decode cL_law 1028 = .ok (.iload_n 3, 1) := by decide +kernel
theorem dL_law_1029 : decode cL_law 1029 = .ok (.iconst 1, 1) := by decide +kernel
theorem dL_law_1030 : decode cL_law 1030 = .ok (.iadd, 1) := by decide +kernel
theorem dL_law_1031 : decode cL_law 1031 = .ok (.iaload, 1) := by decide +kernel
theorem dL_law_1032 : decode cL_law 1032 = .ok (.aload_n 0, 1) := by decide +kernel
theorem dL_law_1033 : decode cL_law 1033 = .ok (.iload_n 3, 1) := by decide +kernel
theorem dL_law_1034 : decode cL_law 1034 = .ok (.iconst 2, 1) := by decide +kernel
theorem dL_law_1035 : decode cL_law 1035 = .ok (.iadd, 1) := by decide +kernel
theorem dL_law_1036 : decode cL_law 1036 = .ok (.iaload, 1) := by decide +kernel
theorem dL_law_1037 : decode cL_law 1037 = .ok (.invokevirtual 129, 3) := by decide +kernel
theorem dL_law_1040 : decode cL_law 1040 = .ok (.aload_n 2, 1) := by decide +kernel
theorem dL_law_1041 : decode cL_law 1041 = .ok (.aload_n 0, 1) := by decide +kernel
theorem dL_law_1042 : decode cL_law 1042 = .ok (.iload_n 3, 1) := by decide +kernel
theorem dL_law_1043 : decode cL_law 1043 = .ok (.iconst 1, 1) := by decide +kernel
theorem dL_law_1044 : decode cL_law 1044 = .ok (.iadd, 1) := by decide +kernel
theorem dL_law_1045 : decode cL_law 1045 = .ok (.iaload, 1) := by decide +kernel
theorem dL_law_1046 : decode cL_law 1046 = .ok (.aload_n 0, 1) := by decide +kernel
theorem dL_law_1047 : decode cL_law 1047 = .ok (.iload_n 3, 1) := by decide +kernel
theorem dL_law_1048 : decode cL_law 1048 = .ok (.iconst 2, 1) := by decide +kernel
theorem dL_law_1049 : decode cL_law 1049 = .ok (.iadd, 1) := by decide +kernel
theorem dL_law_1050 : decode cL_law 1050 = .ok (.iaload, 1) := by decide +kernel
theorem dL_law_1051 : decode cL_law 1051 = .ok (.invokevirtual 132, 3) := by decide +kernel
theorem dL_law_1054 : decode cL_law 1054 = .ok (.if_icmp .eq 118, 3) := by decide +kernel
theorem dL_law_1057 : decode cL_law 1057 = .ok (.iconst 0, 1) := by decide +kernel
theorem dL_law_1058 : decode cL_law 1058 = .ok (.ireturn, 1) := by decide +kernel
theorem dL_law_1059 : decode cL_law 1059 = .ok (.aload_n 1, 1) := by decide +kernel
theorem dL_law_1060 : decode cL_law 1060 = .ok (.aload_n 0, 1) := by decide +kernel
theorem dL_law_1061 : decode cL_law 1061 = .ok (.iload_n 3, 1) := by decide +kernel
theorem dL_law_1062 : decode cL_law 1062 = .ok (.iconst 1, 1) := by decide +kernel
theorem dL_law_1063 : decode cL_law 1063 = .ok (.iadd, 1) := by decide +kernel
theorem dL_law_1064 : decode cL_law 1064 = .ok (.iaload, 1) := by decide +kernel
theorem dL_law_1065 : decode cL_law 1065 = .ok (.aload_n 0, 1) := by decide +kernel
theorem dL_law_1066 : decode cL_law 1066 = .ok (.iload_n 3, 1) := by decide +kernel
theorem dL_law_1067 : decode cL_law 1067 = .ok (.iconst 2, 1) := by decide +kernel
theorem dL_law_1068 : decode cL_law 1068 = .ok (.iadd, 1) := by decide +kernel
theorem dL_law_1069 : decode cL_law 1069 = .ok (.iaload, 1) := by decide +kernel
theorem dL_law_1070 : decode cL_law 1070 = .ok (.aload_n 0, 1) := by decide +kernel
theorem dL_law_1071 : decode cL_law 1071 = .ok (.iload_n 3, 1) := by decide +kernel
theorem dL_law_1072 : decode cL_law 1072 = .ok (.iconst 3, 1) := by decide +kernel
theorem dL_law_1073 : decode cL_law 1073 = .ok (.iadd, 1) := by decide +kernel
theorem dL_law_1074 : decode cL_law 1074 = .ok (.iaload, 1) := by decide +kernel
theorem dL_law_1075 : decode cL_law 1075 = .ok (.invokevirtual 133, 3) := by decide +kernel
theorem dL_law_1078 : decode cL_law 1078 = .ok (.aload_n 2, 1) := by decide +kernel
theorem dL_law_1079 : decode cL_law 1079 = .ok (.aload_n 0, 1) := by decide +kernel
theorem dL_law_1080 : decode cL_law 1080 = .ok (.iload_n 3, 1) := by decide +kernel
theorem dL_law_1081 : decode cL_law 1081 = .ok (.iconst 1, 1) := by decide +kernel
theorem dL_law_1082 : decode cL_law 1082 = .ok (.iadd, 1) := by decide +kernel
theorem dL_law_1083 : decode cL_law 1083 = .ok (.iaload, 1) := by decide +kernel
theorem dL_law_1084 : decode cL_law 1084 = .ok (.aload_n 0, 1) := by decide +kernel
theorem dL_law_1085 : decode cL_law 1085 = .ok (.iload_n 3, 1) := by decide +kernel
theorem dL_law_1086 : decode cL_law 1086 = .ok (.iconst 2, 1) := by decide +kernel
theorem dL_law_1087 : decode cL_law 1087 = .ok (.iadd, 1) := by decide +kernel
theorem dL_law_1088 : decode cL_law 1088 = .ok (.iaload, 1) := by decide +kernel
theorem dL_law_1089 : decode cL_law 1089 = .ok (.aload_n 0, 1) := by decide +kernel
theorem dL_law_1090 : decode cL_law 1090 = .ok (.iload_n 3, 1) := by decide +kernel
theorem dL_law_1091 : decode cL_law 1091 = .ok (.iconst 3, 1) := by decide +kernel
theorem dL_law_1092 : decode cL_law 1092 = .ok (.iadd, 1) := by decide +kernel
theorem dL_law_1093 : decode cL_law 1093 = .ok (.iaload, 1) := by decide +kernel
theorem dL_law_1094 : decode cL_law 1094 = .ok (.invokevirtual 136, 3) := by decide +kernel
theorem dL_law_1097 : decode cL_law 1097 = .ok (.if_icmp .eq 75, 3) := by decide +kernel
theorem dL_law_1100 : decode cL_law 1100 = .ok (.iconst 0, 1) := by decide +kernel
theorem dL_law_1101 : decode cL_law 1101 = .ok (.ireturn, 1) := by decide +kernel
theorem dL_law_1102 : decode cL_law 1102 = .ok (.aload_n 1, 1) := by decide +kernel
theorem dL_law_1103 : decode cL_law 1103 = .ok (.aload_n 0, 1) := by decide +kernel
theorem dL_law_1104 : decode cL_law 1104 = .ok (.iload_n 3, 1) := by decide +kernel
theorem dL_law_1105 : decode cL_law 1105 = .ok (.iconst 1, 1) := by decide +kernel
theorem dL_law_1106 : decode cL_law 1106 = .ok (.iadd, 1) := by decide +kernel
theorem dL_law_1107 : decode cL_law 1107 = .ok (.iaload, 1) := by decide +kernel
theorem dL_law_1108 : decode cL_law 1108 = .ok (.aload_n 0, 1) := by decide +kernel
theorem dL_law_1109 : decode cL_law 1109 = .ok (.iload_n 3, 1) := by decide +kernel
theorem dL_law_1110 : decode cL_law 1110 = .ok (.iconst 2, 1) := by decide +kernel
theorem dL_law_1111 : decode cL_law 1111 = .ok (.iadd, 1) := by decide +kernel
theorem dL_law_1112 : decode cL_law 1112 = .ok (.iaload, 1) := by decide +kernel
theorem dL_law_1113 : decode cL_law 1113 = .ok (.invokevirtual 137, 3) := by decide +kernel
theorem dL_law_1116 : decode cL_law 1116 = .ok (.aload_n 2, 1) := by decide +kernel
theorem dL_law_1117 : decode cL_law 1117 = .ok (.aload_n 0, 1) := by decide +kernel
theorem dL_law_1118 : decode cL_law 1118 = .ok (.iload_n 3, 1) := by decide +kernel
theorem dL_law_1119 : decode cL_law 1119 = .ok (.iconst 1, 1) := by decide +kernel
theorem dL_law_1120 : decode cL_law 1120 = .ok (.iadd, 1) := by decide +kernel
theorem dL_law_1121 : decode cL_law 1121 = .ok (.iaload, 1) := by decide +kernel
theorem dL_law_1122 : decode cL_law 1122 = .ok (.aload_n 0, 1) := by decide +kernel
theorem dL_law_1123 : decode cL_law 1123 = .ok (.iload_n 3, 1) := by decide +kernel
theorem dL_law_1124 : decode cL_law 1124 = .ok (.iconst 2, 1) := by decide +kernel
theorem dL_law_1125 : decode cL_law 1125 = .ok (.iadd, 1) := by decide +kernel
theorem dL_law_1126 : decode cL_law 1126 = .ok (.iaload, 1) := by decide +kernel
theorem dL_law_1127 : decode cL_law 1127 = .ok (.invokevirtual 140, 3) := by decide +kernel
theorem dL_law_1130 : decode cL_law 1130 = .ok (.if_icmp .eq 42, 3) := by decide +kernel
theorem dL_law_1133 : decode cL_law 1133 = .ok (.iconst 0, 1) := by decide +kernel
theorem dL_law_1134 : decode cL_law 1134 = .ok (.ireturn, 1) := by decide +kernel
theorem dL_law_1135 : decode cL_law 1135 = .ok (.aload_n 1, 1) := by decide +kernel
theorem dL_law_1136 : decode cL_law 1136 = .ok (.aload_n 0, 1) := by decide +kernel
theorem dL_law_1137 : decode cL_law 1137 = .ok (.iload_n 3, 1) := by decide +kernel
theorem dL_law_1138 : decode cL_law 1138 = .ok (.iconst 1, 1) := by decide +kernel
theorem dL_law_1139 : decode cL_law 1139 = .ok (.iadd, 1) := by decide +kernel
theorem dL_law_1140 : decode cL_law 1140 = .ok (.iaload, 1) := by decide +kernel
theorem dL_law_1141 : decode cL_law 1141 = .ok (.invokevirtual 141, 3) := by decide +kernel
theorem dL_law_1144 : decode cL_law 1144 = .ok (.aload_n 2, 1) := by decide +kernel
theorem dL_law_1145 : decode cL_law 1145 = .ok (.aload_n 0, 1) := by decide +kernel
theorem dL_law_1146 : decode cL_law 1146 = .ok (.iload_n 3, 1) := by decide +kernel
theorem dL_law_1147 : decode cL_law 1147 = .ok (.iconst 1, 1) := by decide +kernel
theorem dL_law_1148 : decode cL_law 1148 = .ok (.iadd, 1) := by decide +kernel
theorem dL_law_1149 : decode cL_law 1149 = .ok (.iaload, 1) := by decide +kernel
theorem dL_law_1150 : decode cL_law 1150 = .ok (.invokevirtual 144, 3) := by decide +kernel
theorem dL_law_1153 : decode cL_law 1153 = .ok (.if_icmp .eq 19, 3) := by decide +kernel
theorem dL_law_1156 : decode cL_law 1156 = .ok (.iconst 0, 1) := by decide +kernel
theorem dL_law_1157 : decode cL_law 1157 = .ok (.ireturn, 1) := by decide +kernel
theorem dL_law_1158 : decode cL_law 1158 = .ok (.aload_n 1, 1) := by decide +kernel
theorem dL_law_1159 : decode cL_law 1159 = .ok (.invokevirtual 145, 3) := by decide +kernel
theorem dL_law_1162 : decode cL_law 1162 = .ok (.aload_n 2, 1) := by decide +kernel
theorem dL_law_1163 : decode cL_law 1163 = .ok (.invokevirtual 149, 3) := by decide +kernel
theorem dL_law_1166 : decode cL_law 1166 = .ok (.lcmp, 1) := by decide +kernel
theorem dL_law_1167 : decode cL_law 1167 = .ok (.ifCond .eq 5, 3) := by decide +kernel
theorem dL_law_1170 : decode cL_law 1170 = .ok (.iconst 0, 1) := by decide +kernel
theorem dL_law_1171 : decode cL_law 1171 = .ok (.ireturn, 1) := by decide +kernel
theorem dL_law_1172 : decode cL_law 1172 = .ok (.iinc 3 7, 3) := by decide +kernel
theorem dL_law_1175 : decode cL_law 1175 = .ok (.goto (-1157), 3) := by decide +kernel
theorem dL_law_1178 : decode cL_law 1178 = .ok (.iconst 1, 1) := by decide +kernel
theorem dL_law_1179 : decode cL_law 1179 = .ok (.ireturn, 1) := by decide +kernel
end
section
/-! THE WORLD: all cells of the class and of the reference, by their places; a state of it: what its ints and longs hold -/
abbrev xM : Type := (Nat → Nat → Int32) × (Nat → Nat → Int64)
abbrev xFK : Type := Nat ⊕ Bool
abbrev xSC : Type := (Nat × Nat) ⊕ (Nat × List xFK)
def xSH : List xSC := [
  .inr (6, [.inl 1, .inl 8, .inl 18, .inl 20, .inl 22, .inl 25, .inl 31, .inr false]),
  .inr (5, [.inl 2, .inl 3, .inl 4, .inl 5, .inl 6, .inl 7]), .inl (0, 6), .inl (0, 6), .inl (0, 6), .inl (0, 6), .inl (0, 6), .inl (0, 6),
  .inr (1, [.inl 9, .inl 10, .inl 11, .inl 12, .inl 13, .inl 14, .inl 15, .inl 16, .inl 17, .inr false]), .inl (0, 10), .inl (0, 10), .inl (0, 10), .inl (0, 10), .inl (0, 10), .inl (0, 10), .inl (0, 10), .inl (0, 60), .inl (1, 60),
  .inr (4, [.inl 19, .inr false]), .inl (1, 61),
  .inr (3, [.inl 21, .inr false, .inr false, .inr true]), .inl (0, 396),
  .inr (2, [.inl 23, .inl 24, .inr false]), .inl (0, 6), .inl (0, 6),
  .inr (0, [.inl 26, .inl 27, .inl 28, .inl 29, .inl 30, .inr false, .inr false]), .inl (0, 10), .inl (0, 10), .inl (0, 10), .inl (0, 10), .inl (0, 3),
  .inl (0, 4),
  .inr (7, [.inl 33, .inl 34, .inl 35, .inl 36, .inl 37, .inl 38, .inr false, .inl 39, .inl 40, .inl 41, .inl 42, .inl 43, .inl 44, .inl 45, .inl 46, .inl 47, .inl 48, .inr false, .inr false, .inl 49, .inl 50, .inl 51, .inl 52, .inr false, .inl 53, .inl 54, .inl 55, .inl 56]),
  .inl (0, 6), .inl (0, 6), .inl (0, 6), .inl (0, 6), .inl (0, 6), .inl (0, 6), .inl (0, 10), .inl (0, 10), .inl (0, 10), .inl (0, 10), .inl (0, 60), .inl (1, 60), .inl (0, 10), .inl (0, 10), .inl (0, 10), .inl (1, 61), .inl (0, 6), .inl (0, 6), .inl (0, 4), .inl (0, 3960), .inl (0, 10), .inl (0, 10), .inl (0, 10), .inl (0, 3)]
theorem xSH_len : xSH.length = 57 := by decide +kernel
/-- a reference is a place; the cell's address comes by ad -/
def xv (ad : Nat → Nat) : Value → Value
  | .ref k => .ref (ad k)
  | v => v
def xfv (M : xM) (p k : Nat) : xFK → Value
  | .inl r => .ref r
  | .inr false => .int (M.1 p k)
  | .inr true => .long (M.2 p k)
def xcell (cA : Nat → ClassId) (ad : Nat → Nat) (M : xM) (p : Nat) : xSC → va_E
  | .inl (t, n) => .inl (cA t, n, .inl (M.1 p))
  | .inr (ci, ks) => .inr (ci, ks.mapIdx (fun k f => xv ad (xfv M p k f)))
def xW (cA : Nat → ClassId) (ad : Nat → Nat) (M : xM) : va_W := xSH.mapIdx (fun p sc => (ad p, xcell cA ad M p sc))
def xtys (cA : Nat → ClassId) : List (ClassId × FieldType) := [(cA 0, .int), (cA 1, .boolean)]
def xup (M : xM) (p k : Nat) (x : Int32) : xM := (fun q => if q = p then upd (M.1 p) k x else M.1 q, M.2)
def xupL (M : xM) (p k : Nat) (x : Int64) : xM := (M.1, fun q j => if q = p ∧ j = k then x else M.2 q j)
def xupA (M : xM) (p : Nat) (f : Nat → Int32) : xM := (fun q => if q = p then f else M.1 q, M.2)
theorem xup_1 (M : xM) (p k q j : Nat) (x : Int32) : (xup M p k x).1 q j = if q = p ∧ j = k then x else M.1 q j := by
  unfold xup upd
  by_cases h : q = p
  · subst h
    by_cases h2 : j = k <;> simp [h2]
  · simp [h]
theorem xup_2 (M : xM) (p k : Nat) (x : Int32) : (xup M p k x).2 = M.2 := rfl
theorem xupL_1 (M : xM) (p k : Nat) (x : Int64) : (xupL M p k x).1 = M.1 := rfl
theorem xupL_2 (M : xM) (p k q j : Nat) (x : Int64) : (xupL M p k x).2 q j = if q = p ∧ j = k then x else M.2 q j := rfl
theorem xupA_1 (M : xM) (p : Nat) (f : Nat → Int32) (q : Nat) : (xupA M p f).1 q = if q = p then f else M.1 q := rfl
theorem xupA_2 (M : xM) (p : Nat) (f : Nat → Int32) : (xupA M p f).2 = M.2 := rfl
theorem xW_get {cA : Nat → ClassId} {ad : Nat → Nat} {M : xM} {p : Nat} {sc : xSC} (h : xSH[p]? = some sc) : (xW cA ad M)[p]? = some (ad p, xcell cA ad M p sc) := by
  simp [xW, List.getElem?_mapIdx, h]
theorem xW_at {cA : Nat → ClassId} {ad : Nat → Nat} {M : xM} {p : Nat} {q : Nat × va_E} (h : (xW cA ad M)[p]? = some q) : ∃ sc, xSH[p]? = some sc ∧ q = (ad p, xcell cA ad M p sc) := by
  simp only [xW, List.getElem?_mapIdx, Option.map_eq_some_iff] at h
  obtain ⟨sc, h1, h2⟩ := h
  exact ⟨sc, h1, h2.symm⟩
theorem xSH_lt {p : Nat} {sc : xSC} (h : xSH[p]? = some sc) : p < 57 := by
  have := (List.getElem?_eq_some_iff.mp h).1
  rw [xSH_len] at this
  exact this
theorem xcell_ne {cA : Nat → ClassId} {ad : Nat → Nat} {M M' : xM} {p : Nat} (h1 : M'.1 p = M.1 p) (h2 : M'.2 p = M.2 p) (sc : xSC) : xcell cA ad M' p sc = xcell cA ad M p sc := by
  have e : ∀ k f, xfv M' p k f = xfv M p k f := by
    intro k f
    rcases f with r | b
    · rfl
    · cases b <;> simp [xfv, h1, h2]
  rcases sc with ⟨t, n⟩ | ⟨ci, ks⟩
  · simp [xcell, h1]
  · simp [xcell, e]
/-- one cell changed -/
theorem xW_set {cA : Nat → ClassId} {ad : Nat → Nat} {M M' : xM} {p : Nat} {sc : xSC} {e : va_E} (h : xSH[p]? = some sc) (h1 : ∀ q, q ≠ p → M'.1 q = M.1 q) (h2 : ∀ q, q ≠ p → M'.2 q = M.2 q) (he : e = xcell cA ad M' p sc) : (xW cA ad M).set p (ad p, e) = xW cA ad M' := by
  subst he
  apply List.ext_getElem?
  intro k
  by_cases hk : k = p
  · subst hk
    have hl : k < (xW cA ad M).length := (List.getElem?_eq_some_iff.mp (xW_get h)).1
    rw [List.getElem?_set_self hl, xW_get h]
  · rw [List.getElem?_set_ne (fun q => hk q.symm)]
    simp only [xW, List.getElem?_mapIdx]
    cases hs : xSH[k]? with
    | none => rfl
    | some s2 => simp [xcell_ne (h1 k hk) (h2 k hk) s2]
theorem xW_seti {cA : Nat → ClassId} {ad : Nat → Nat} {M : xM} {p t n i : Nat} {x : Int32} (h : xSH[p]? = some (.inl (t, n))) : (xW cA ad M).set p (ad p, .inl (cA t, n, .inl (upd (M.1 p) i x))) = xW cA ad (xup M p i x) :=
  xW_set h (fun q hq => by simp [xup, hq]) (fun _ _ => rfl) (by simp [xcell, xup])
theorem xW_setA {cA : Nat → ClassId} {ad : Nat → Nat} {M : xM} {p t n : Nat} {f : Nat → Int32} (h : xSH[p]? = some (.inl (t, n))) : (xW cA ad M).set p (ad p, .inl (cA t, n, .inl f)) = xW cA ad (xupA M p f) :=
  xW_set h (fun q hq => by simp [xupA, hq]) (fun _ _ => rfl) (by simp [xcell, xupA])
theorem x_setIdx {α β : Type} {ks : List α} {k : Nat} {f g : Nat → α → β} {v : β} {a : α} (hk : ks[k]? = some a) (hv : g k a = v) (ho : ∀ j b, j ≠ k → g j b = f j b) : (ks.mapIdx f).set k v = ks.mapIdx g := by
  apply List.ext_getElem?
  intro j
  by_cases hj : j = k
  · subst hj
    have hl : j < (ks.mapIdx f).length := by rw [List.length_mapIdx]; exact (List.getElem?_eq_some_iff.mp hk).1
    rw [List.getElem?_set_self hl, List.getElem?_mapIdx, hk]
    simp [hv]
  · rw [List.getElem?_set_ne (fun q => hj q.symm)]
    simp only [List.getElem?_mapIdx]
    cases ks[j]? with
    | none => rfl
    | some b => simp [ho j b hj]
theorem xW_setf {cA : Nat → ClassId} {ad : Nat → Nat} {M : xM} {p ci k : Nat} {ks : List xFK} {x : Int32} (h : xSH[p]? = some (.inr (ci, ks))) (hk : ks[k]? = some (.inr false)) : (xW cA ad M).set p (ad p, .inr (ci, (ks.mapIdx (fun k f => xv ad (xfv M p k f))).set k (.int x))) = xW cA ad (xup M p k x) := by
  refine xW_set h (fun q hq => by simp [xup, hq]) (fun _ _ => rfl) ?_
  simp only [xcell]
  congr 2
  refine x_setIdx hk (by simp [xfv, xv, xup, upd]) (fun j b hj => ?_)
  rcases b with r | b
  · rfl
  · cases b <;> simp [xfv, xup, upd, hj]
theorem xW_setfL {cA : Nat → ClassId} {ad : Nat → Nat} {M : xM} {p ci k : Nat} {ks : List xFK} {x : Int64} (h : xSH[p]? = some (.inr (ci, ks))) (hk : ks[k]? = some (.inr true)) : (xW cA ad M).set p (ad p, .inr (ci, (ks.mapIdx (fun k f => xv ad (xfv M p k f))).set k (.long x))) = xW cA ad (xupL M p k x) := by
  refine xW_set h (fun _ _ => rfl) (fun q hq => by funext j; simp [xupL, hq]) ?_
  simp only [xcell]
  congr 2
  refine x_setIdx hk (by simp [xfv, xv, xupL]) (fun j b hj => ?_)
  rcases b with r | b
  · rfl
  · cases b <;> simp [xfv, xupL, hj]
/-! THE LOCALS: a list in which the first value of a place counts -/
def xlk (ad : Nat → Nat) (ls : Array Slot) (nL : Nat) (L : List (Nat × Value)) : Prop := ls.size = nL ∧ lv_wf ls ∧ ∀ i v, L.lookup i = some v → ls[i]? = some (.val (xv ad v))
theorem xv_cat (ad : Nat → Nat) (v : Value) : (xv ad v).category = v.category := by cases v <;> rfl
theorem x_lookup_mem {α : Type} : ∀ {L : List (Nat × α)} {i : Nat} {v : α}, L.lookup i = some v → (i, v) ∈ L
  | [], _, _, h => by simp at h
  | (k, w) :: L, i, v, h => by
    by_cases e : i = k
    · subst e
      simp at h
      subst h
      exact List.mem_cons_self
    · rw [List.lookup_cons] at h
      have : (i == k) = false := by simp [e]
      rw [this] at h
      exact List.mem_cons_of_mem _ (x_lookup_mem h)
def xflat (ad : Nat → Nat) (L : List (Nat × Value)) : List (Nat × Value) := (L.map Prod.fst).filterMap (fun i => (L.lookup i).map (fun v => (i, xv ad v)))
theorem xflat_mem {ad : Nat → Nat} {L : List (Nat × Value)} {i : Nat} {v : Value} (h : L.lookup i = some v) : (i, xv ad v) ∈ xflat ad L :=
  List.mem_filterMap.mpr ⟨i, List.mem_map.mpr ⟨(i, v), x_lookup_mem h, rfl⟩, by rw [h]; rfl⟩
theorem xlk_has {ad : Nat → Nat} {ls : Array Slot} {nL : Nat} {L : List (Nat × Value)} (h : xlk ad ls nL L) : lv_has ls nL (xflat ad L) := by
  refine ⟨h.1, h.2.1, fun q hq => ?_⟩
  obtain ⟨i, -, hi⟩ := List.mem_filterMap.mp hq
  obtain ⟨v, h1, h2⟩ := Option.map_eq_some_iff.mp hi
  subst h2
  exact h.2.2 i v h1
def xcat1 (L : List (Nat × Value)) (i : Nat) : Bool := match i with
  | 0 => true
  | j + 1 => match L.lookup j with
    | some w => w.category == 1
    | none => true
theorem xlk_store1 {ad : Nat → Nat} {ls' : Array Slot} {nL i : Nat} {L : List (Nat × Value)} {v : Value} (hc : xcat1 L i = true) (h : lv_has ls' nL ((i, xv ad v) :: (xflat ad L).filter (fun q => !(q.1 == i) && !(q.1 + 1 == i && q.2.category == 2)))) : xlk ad ls' nL ((i, v) :: L) := by
  refine ⟨h.1, h.2.1, fun j w hj => ?_⟩
  by_cases e : j = i
  · subst e
    simp at hj
    subst hj
    exact h.2.2 _ List.mem_cons_self
  · rw [List.lookup_cons] at hj
    have e2 : (j == i) = false := by simp [e]
    rw [e2] at hj
    refine h.2.2 (j, xv ad w) (List.mem_cons_of_mem _ (List.mem_filter.mpr ⟨xflat_mem hj, ?_⟩))
    simp only [e2, xv_cat]
    by_cases e3 : j + 1 = i
    · subst e3
      simp only [xcat1, hj] at hc
      have : w.category = 1 := by simpa using hc
      simp [this]
    · simp [e3]
theorem xlk_store2 {ad : Nat → Nat} {ls' : Array Slot} {nL i : Nat} {L : List (Nat × Value)} {v : Value} (hc : xcat1 L i = true) (hn : L.lookup (i + 1) = none) (h : lv_has ls' nL ((i, xv ad v) :: (xflat ad L).filter (fun q => !(q.1 == i) && (!(q.1 == i + 1) && !(q.1 + 1 == i && q.2.category == 2))))) : xlk ad ls' nL ((i, v) :: L) := by
  refine ⟨h.1, h.2.1, fun j w hj => ?_⟩
  by_cases e : j = i
  · subst e
    simp at hj
    subst hj
    exact h.2.2 _ List.mem_cons_self
  · rw [List.lookup_cons] at hj
    have e2 : (j == i) = false := by simp [e]
    rw [e2] at hj
    have e4 : ¬ j = i + 1 := fun q => by subst q; rw [hn] at hj; cases hj
    refine h.2.2 (j, xv ad w) (List.mem_cons_of_mem _ (List.mem_filter.mpr ⟨xflat_mem hj, ?_⟩))
    simp only [e2, xv_cat]
    by_cases e3 : j + 1 = i
    · subst e3
      simp only [xcat1, hj] at hc
      have : w.category = 1 := by simpa using hc
      simp [this, e4]
    · simp [e3, e4]
theorem xlk_sub {ad : Nat → Nat} {ls : Array Slot} {nL : Nat} {L L' : List (Nat × Value)} (h : xlk ad ls nL L) (hs : L'.map (fun q => L.lookup q.1) = L'.map (fun q => some q.2)) : xlk ad ls nL L' := by
  refine ⟨h.1, h.2.1, fun i v hi => h.2.2 i v ?_⟩
  have hm := x_lookup_mem hi
  have : ∀ q ∈ L', L.lookup q.1 = some q.2 := List.map_inj_left.mp hs
  exact this _ hm
theorem xargs_map (ad : Nat → Nat) : ∀ (vs : List Value) (i : Nat), lv_args i (vs.map (xv ad)) = (lv_args i vs).map (fun q => (q.1, xv ad q.2))
  | [], _ => rfl
  | v :: vs, i => by
    simp only [List.map_cons, lv_args, xv_cat]
    rw [xargs_map ad vs]
theorem xlk_args {ad : Nat → Nat} {ls : Array Slot} {nL : Nat} {As : List Value} (h : lv_has ls nL (lv_args 0 (As.map (xv ad)))) : xlk ad ls nL (lv_args 0 As) := by
  refine ⟨h.1, h.2.1, fun i v hi => ?_⟩
  have hm := x_lookup_mem hi
  refine h.2.2 (i, xv ad v) ?_
  rw [xargs_map]
  exact List.mem_map.mpr ⟨(i, v), hm, rfl⟩
/-! A FRAME, and what is to be shown of it -/
/-- the tables' words that go with every contract; the nest mates' links, which don't -/
def xTb : List Cond := lw_tbl.filter goodWord
def xNl : List (String × Nat × MethodName × String) := [(RX3, 32, yX6_isThing, RX6), (RX3, 42, yX6_bit, RX6)]
def xNst (U : State) : Prop := ∀ q ∈ xNl, va_Nw (.methodLinkNest q.1 q.2.1 q.2.2.1 q.2.2.2) U
theorem xNl_in : ∀ q ∈ xNl, Cond.methodLinkNest q.1 q.2.1 q.2.2.1 q.2.2.2 ∈ lw_tbl := by decide +kernel
abbrev xY : Type := Program × Launch × Env × Room × State × MethodId × Array Value × List Frame × Method × Code × Nat × Nat × (State → Prop) × va_G × (Nat → ClassId) × (Nat → Nat) × (Nat → Prop)
def xOK (cc : ByteArray) (own : String) (nL : Nat) : xY → Prop
  | (p, _, _, R, s, m, args, _, _, c, cells, slots, _, D, cA, ad, A) => p.tables.exec = Jvm.exec ∧ c.code = cc ∧ c.maxLocals = nL ∧ s.vm.findClass own = some m.cls ∧ ((∀ w ∈ xTb, w.before args s = true) ∧ xNst s) ∧ va_K D vwCl (xtys cA) s ∧ (∀ i j, i < 57 → j < 57 → ad i = ad j → i = j) ∧ (∀ i, i < 57 → A (ad i)) ∧ (∀ q, s.heap.size ≤ q → A q) ∧ cells ≤ R.cells ∧ slots ≤ R.slots
def PW (cc : ByteArray) (own : String) (nL : Nat) (Y : xY) (pc : Nat) (L : List (Nat × Value)) (S : List Value) (M : xM) : Prop := xOK cc own nL Y → match Y with
  | (p, l, e, R, s, m, args, below, meth, c, cells, slots, Q, D, cA, ad, A) => ∀ (H : Heap) (locs : List Loc) (ls : Array Slot), va_P D vwCl (xW cA ad M) H → va_S A s.heap H locs → xlk ad ls nL L → W p l e R s m args below meth c H locs cells slots Q (F0 m pc ls (S.map (xv ad)))
theorem xD_of {cA : Nat → ClassId} {ad : Nat → Nat} {A : Nat → Prop} {M : xM} (hi : ∀ i j, i < 57 → j < 57 → ad i = ad j → i = j) (hA : ∀ i, i < 57 → A (ad i)) : va_D A (xW cA ad M) := by
  refine ⟨fun i j p q hp hq e => ?_, fun k q hq => ?_⟩
  · obtain ⟨s1, h1, rfl⟩ := xW_at hp
    obtain ⟨s2, h2, rfl⟩ := xW_at hq
    exact hi i j (xSH_lt h1) (xSH_lt h2) e
  · obtain ⟨s1, h1, rfl⟩ := xW_at hq
    exact hA k (xSH_lt h1)
end
section
section XR
variable {cc : ByteArray} {own : String} {nL : Nat} {Y : xY} {pc : Nat} {L : List (Nat × Value)} {S : List Value} {M : xM}
theorem PW.iload_n {k : Fin 4} {x : Int32} (d : decode cc pc = .ok (.iload_n k, 1)) (h : L.lookup k.val = some (.int x)) (kk : PW cc own nL Y (pc + 1) L (.int x :: S) M) : PW cc own nL Y pc L S M := by
  obtain ⟨p, l, e, R, s, m, args, below, meth, c, cells, slots, Q, D, cA, ad, A⟩ := Y
  intro hok H locs ls hP hS hl
  exact lv_iload_n hok.1 hok.2.1 d rfl (hl.2.2 _ _ h) (kk hok H locs ls hP hS hl)
theorem PW.iload {i : Nat} {x : Int32} (d : decode cc pc = .ok (.iload i, 2)) (h : L.lookup i = some (.int x)) (kk : PW cc own nL Y (pc + 2) L (.int x :: S) M) : PW cc own nL Y pc L S M := by
  obtain ⟨p, l, e, R, s, m, args, below, meth, c, cells, slots, Q, D, cA, ad, A⟩ := Y
  intro hok H locs ls hP hS hl
  exact lv_iload hok.1 hok.2.1 d (hl.2.2 _ _ h) (kk hok H locs ls hP hS hl)
theorem PW.lload_n {k : Fin 4} {x : Int64} (d : decode cc pc = .ok (.lload_n k, 1)) (h : L.lookup k.val = some (.long x)) (kk : PW cc own nL Y (pc + 1) L (.long x :: S) M) : PW cc own nL Y pc L S M := by
  obtain ⟨p, l, e, R, s, m, args, below, meth, c, cells, slots, Q, D, cA, ad, A⟩ := Y
  intro hok H locs ls hP hS hl
  exact lv_lload_n hok.1 hok.2.1 d rfl (hl.2.2 _ _ h) (kk hok H locs ls hP hS hl)
theorem PW.lload {i : Nat} {x : Int64} (d : decode cc pc = .ok (.lload i, 2)) (h : L.lookup i = some (.long x)) (kk : PW cc own nL Y (pc + 2) L (.long x :: S) M) : PW cc own nL Y pc L S M := by
  obtain ⟨p, l, e, R, s, m, args, below, meth, c, cells, slots, Q, D, cA, ad, A⟩ := Y
  intro hok H locs ls hP hS hl
  exact lv_lload hok.1 hok.2.1 d (hl.2.2 _ _ h) (kk hok H locs ls hP hS hl)
theorem PW.aload_n {k : Fin 4} {x : Nat} (d : decode cc pc = .ok (.aload_n k, 1)) (h : L.lookup k.val = some (.ref x)) (kk : PW cc own nL Y (pc + 1) L (.ref x :: S) M) : PW cc own nL Y pc L S M := by
  obtain ⟨p, l, e, R, s, m, args, below, meth, c, cells, slots, Q, D, cA, ad, A⟩ := Y
  intro hok H locs ls hP hS hl
  exact lv_aload_n hok.1 hok.2.1 d rfl (hl.2.2 _ _ h) (kk hok H locs ls hP hS hl)
theorem PW.aload {i : Nat} {x : Nat} (d : decode cc pc = .ok (.aload i, 2)) (h : L.lookup i = some (.ref x)) (kk : PW cc own nL Y (pc + 2) L (.ref x :: S) M) : PW cc own nL Y pc L S M := by
  obtain ⟨p, l, e, R, s, m, args, below, meth, c, cells, slots, Q, D, cA, ad, A⟩ := Y
  intro hok H locs ls hP hS hl
  exact lv_aload hok.1 hok.2.1 d (hl.2.2 _ _ h) (kk hok H locs ls hP hS hl)
theorem PW.istore_n {k : Fin 4} {i : Nat} {x : Int32} (d : decode cc pc = .ok (.istore_n k, 1)) (hi : k.val = i) (hn : i < nL) (hc : xcat1 L i = true) (kk : PW cc own nL Y (pc + 1) ((i, .int x) :: L) S M) : PW cc own nL Y pc L (.int x :: S) M := by
  obtain ⟨p, l, e, R, s, m, args, below, meth, c, cells, slots, Q, D, cA, ad, A⟩ := Y
  intro hok H locs ls hP hS hl
  exact lv_istore_n hok.1 hok.2.1 d hi (xlk_has hl) hn rfl (fun ls2 h2 => kk hok H locs ls2 hP hS (xlk_store1 hc h2))
theorem PW.istore {i : Nat} {x : Int32} (d : decode cc pc = .ok (.istore i, 2)) (hn : i < nL) (hc : xcat1 L i = true) (kk : PW cc own nL Y (pc + 2) ((i, .int x) :: L) S M) : PW cc own nL Y pc L (.int x :: S) M := by
  obtain ⟨p, l, e, R, s, m, args, below, meth, c, cells, slots, Q, D, cA, ad, A⟩ := Y
  intro hok H locs ls hP hS hl
  exact lv_istore hok.1 hok.2.1 d (xlk_has hl) hn rfl (fun ls2 h2 => kk hok H locs ls2 hP hS (xlk_store1 hc h2))
theorem PW.astore_n {k : Fin 4} {i : Nat} {x : Nat} (d : decode cc pc = .ok (.astore_n k, 1)) (hi : k.val = i) (hn : i < nL) (hc : xcat1 L i = true) (kk : PW cc own nL Y (pc + 1) ((i, .ref x) :: L) S M) : PW cc own nL Y pc L (.ref x :: S) M := by
  obtain ⟨p, l, e, R, s, m, args, below, meth, c, cells, slots, Q, D, cA, ad, A⟩ := Y
  intro hok H locs ls hP hS hl
  exact lv_astore_n hok.1 hok.2.1 d hi (xlk_has hl) hn rfl (fun ls2 h2 => kk hok H locs ls2 hP hS (xlk_store1 hc h2))
theorem PW.astore {i : Nat} {x : Nat} (d : decode cc pc = .ok (.astore i, 2)) (hn : i < nL) (hc : xcat1 L i = true) (kk : PW cc own nL Y (pc + 2) ((i, .ref x) :: L) S M) : PW cc own nL Y pc L (.ref x :: S) M := by
  obtain ⟨p, l, e, R, s, m, args, below, meth, c, cells, slots, Q, D, cA, ad, A⟩ := Y
  intro hok H locs ls hP hS hl
  exact lv_astore hok.1 hok.2.1 d (xlk_has hl) hn rfl (fun ls2 h2 => kk hok H locs ls2 hP hS (xlk_store1 hc h2))
theorem PW.lstore_n {k : Fin 4} {i : Nat} {x : Int64} (d : decode cc pc = .ok (.lstore_n k, 1)) (hi : k.val = i) (hn : i + 1 < nL) (hc : xcat1 L i = true) (ho : L.lookup (i + 1) = none) (kk : PW cc own nL Y (pc + 1) ((i, .long x) :: L) S M) : PW cc own nL Y pc L (.long x :: S) M := by
  obtain ⟨p, l, e, R, s, m, args, below, meth, c, cells, slots, Q, D, cA, ad, A⟩ := Y
  intro hok H locs ls hP hS hl
  exact lv_lstore_n hok.1 hok.2.1 d hi (xlk_has hl) hn rfl (fun ls2 h2 => kk hok H locs ls2 hP hS (xlk_store2 hc ho h2))
theorem PW.lstore {i : Nat} {x : Int64} (d : decode cc pc = .ok (.lstore i, 2)) (hn : i + 1 < nL) (hc : xcat1 L i = true) (ho : L.lookup (i + 1) = none) (kk : PW cc own nL Y (pc + 2) ((i, .long x) :: L) S M) : PW cc own nL Y pc L (.long x :: S) M := by
  obtain ⟨p, l, e, R, s, m, args, below, meth, c, cells, slots, Q, D, cA, ad, A⟩ := Y
  intro hok H locs ls hP hS hl
  exact lv_lstore hok.1 hok.2.1 d (xlk_has hl) hn rfl (fun ls2 h2 => kk hok H locs ls2 hP hS (xlk_store2 hc ho h2))
theorem PW.iinc {i : Nat} {n : Int} {x v : Int32} (d : decode cc pc = .ok (.iinc i n, 3)) (h : L.lookup i = some (.int x)) (hv : x + Int32.ofInt n = v) (hn : i < nL) (hc : xcat1 L i = true) (kk : PW cc own nL Y (pc + 3) ((i, .int v) :: L) S M) : PW cc own nL Y pc L S M := by
  obtain ⟨p, l, e, R, s, m, args, below, meth, c, cells, slots, Q, D, cA, ad, A⟩ := Y
  intro hok H locs ls hP hS hl
  obtain ⟨k, hk⟩ := List.getElem?_of_mem (xflat_mem (ad := ad) h)
  exact lv_iinc hok.1 hok.2.1 d (xlk_has hl) (k := k) (x := x) hk hv hn rfl (fun ls2 h2 => kk hok H locs ls2 hP hS (xlk_store1 (v := .int v) hc h2))
theorem PW.iconst {n : Int} {v : Int32} (d : decode cc pc = .ok (.iconst n, 1)) (hv : Int32.ofInt n = v) (kk : PW cc own nL Y (pc + 1) L (.int v :: S) M) : PW cc own nL Y pc L S M := by
  obtain ⟨p, l, e, R, s, m, args, below, meth, c, cells, slots, Q, D, cA, ad, A⟩ := Y
  intro hok H locs ls hP hS hl
  exact lv_iconst hok.1 hok.2.1 d hv (kk hok H locs ls hP hS hl)
theorem PW.bipush {n : Int} {v : Int32} (d : decode cc pc = .ok (.bipush n, 2)) (hv : (Int8.ofInt n).toInt32 = v) (kk : PW cc own nL Y (pc + 2) L (.int v :: S) M) : PW cc own nL Y pc L S M := by
  obtain ⟨p, l, e, R, s, m, args, below, meth, c, cells, slots, Q, D, cA, ad, A⟩ := Y
  intro hok H locs ls hP hS hl
  exact lv_bipush hok.1 hok.2.1 d hv (kk hok H locs ls hP hS hl)
theorem PW.sipush {n : Int} {v : Int32} (d : decode cc pc = .ok (.sipush n, 3)) (hv : (Int16.ofInt n).toInt32 = v) (kk : PW cc own nL Y (pc + 3) L (.int v :: S) M) : PW cc own nL Y pc L S M := by
  obtain ⟨p, l, e, R, s, m, args, below, meth, c, cells, slots, Q, D, cA, ad, A⟩ := Y
  intro hok H locs ls hP hS hl
  exact lv_sipush hok.1 hok.2.1 d hv (kk hok H locs ls hP hS hl)
theorem PW.lconst {n : Fin 2} {v : Int64} (d : decode cc pc = .ok (.lconst n, 1)) (hv : Int64.ofNat (n : Nat) = v) (kk : PW cc own nL Y (pc + 1) L (.long v :: S) M) : PW cc own nL Y pc L S M := by
  obtain ⟨p, l, e, R, s, m, args, below, meth, c, cells, slots, Q, D, cA, ad, A⟩ := Y
  intro hok H locs ls hP hS hl
  exact lv_lconst hok.1 hok.2.1 d hv (kk hok H locs ls hP hS hl)
theorem PW.ldc {idx : Nat} {v : Int32} (hw : Cond.constant own idx v ∈ xTb) (d : decode cc pc = .ok (.ldc idx, 2)) (kk : PW cc own nL Y (pc + 2) L (.int v :: S) M) : PW cc own nL Y pc L S M := by
  obtain ⟨p, l, e, R, s, m, args, below, meth, c, cells, slots, Q, D, cA, ad, A⟩ := Y
  intro hok H locs ls hP hS hl
  exact lv_ldc hok.1 hok.2.1 hok.2.2.2.1 (hok.2.2.2.2.1.1 _ hw) d (kk hok H locs ls hP hS hl)
theorem PW.ldc_w {idx : Nat} {v : Int32} (hw : Cond.constant own idx v ∈ xTb) (d : decode cc pc = .ok (.ldc_w idx, 3)) (kk : PW cc own nL Y (pc + 3) L (.int v :: S) M) : PW cc own nL Y pc L S M := by
  obtain ⟨p, l, e, R, s, m, args, below, meth, c, cells, slots, Q, D, cA, ad, A⟩ := Y
  intro hok H locs ls hP hS hl
  exact lv_ldcw hok.1 hok.2.1 hok.2.2.2.1 (hok.2.2.2.2.1.1 _ hw) d (kk hok H locs ls hP hS hl)
theorem PW.ldc2 {idx : Nat} {v : Int64} (hw : Cond.constantLong own idx v ∈ xTb) (d : decode cc pc = .ok (.ldc2_w idx, 3)) (kk : PW cc own nL Y (pc + 3) L (.long v :: S) M) : PW cc own nL Y pc L S M := by
  obtain ⟨p, l, e, R, s, m, args, below, meth, c, cells, slots, Q, D, cA, ad, A⟩ := Y
  intro hok H locs ls hP hS hl
  exact lv_ldc2 hok.1 hok.2.1 hok.2.2.2.1 (hok.2.2.2.2.1.1 _ hw) d (kk hok H locs ls hP hS hl)
theorem PW.iadd {x y : Int32} (d : decode cc pc = .ok (.iadd, 1)) (kk : PW cc own nL Y (pc + 1) L (.int (x + y) :: S) M) : PW cc own nL Y pc L (.int y :: .int x :: S) M := by
  obtain ⟨p, l, e, R, s, m, args, below, meth, c, cells, slots, Q, D, cA, ad, A⟩ := Y
  intro hok H locs ls hP hS hl
  exact lv_iadd hok.1 hok.2.1 d (kk hok H locs ls hP hS hl)
theorem PW.isub {x y : Int32} (d : decode cc pc = .ok (.isub, 1)) (kk : PW cc own nL Y (pc + 1) L (.int (x - y) :: S) M) : PW cc own nL Y pc L (.int y :: .int x :: S) M := by
  obtain ⟨p, l, e, R, s, m, args, below, meth, c, cells, slots, Q, D, cA, ad, A⟩ := Y
  intro hok H locs ls hP hS hl
  exact lv_isub hok.1 hok.2.1 d (kk hok H locs ls hP hS hl)
theorem PW.imul {x y : Int32} (d : decode cc pc = .ok (.imul, 1)) (kk : PW cc own nL Y (pc + 1) L (.int (x * y) :: S) M) : PW cc own nL Y pc L (.int y :: .int x :: S) M := by
  obtain ⟨p, l, e, R, s, m, args, below, meth, c, cells, slots, Q, D, cA, ad, A⟩ := Y
  intro hok H locs ls hP hS hl
  exact lv_imul hok.1 hok.2.1 d (kk hok H locs ls hP hS hl)
theorem PW.iand {x y : Int32} (d : decode cc pc = .ok (.iand, 1)) (kk : PW cc own nL Y (pc + 1) L (.int (x &&& y) :: S) M) : PW cc own nL Y pc L (.int y :: .int x :: S) M := by
  obtain ⟨p, l, e, R, s, m, args, below, meth, c, cells, slots, Q, D, cA, ad, A⟩ := Y
  intro hok H locs ls hP hS hl
  exact lv_iand hok.1 hok.2.1 d (kk hok H locs ls hP hS hl)
theorem PW.ior {x y : Int32} (d : decode cc pc = .ok (.ior, 1)) (kk : PW cc own nL Y (pc + 1) L (.int (x ||| y) :: S) M) : PW cc own nL Y pc L (.int y :: .int x :: S) M := by
  obtain ⟨p, l, e, R, s, m, args, below, meth, c, cells, slots, Q, D, cA, ad, A⟩ := Y
  intro hok H locs ls hP hS hl
  exact lv_ior hok.1 hok.2.1 d (kk hok H locs ls hP hS hl)
theorem PW.ixor {x y : Int32} (d : decode cc pc = .ok (.ixor, 1)) (kk : PW cc own nL Y (pc + 1) L (.int (x ^^^ y) :: S) M) : PW cc own nL Y pc L (.int y :: .int x :: S) M := by
  obtain ⟨p, l, e, R, s, m, args, below, meth, c, cells, slots, Q, D, cA, ad, A⟩ := Y
  intro hok H locs ls hP hS hl
  exact lv_ixor hok.1 hok.2.1 d (kk hok H locs ls hP hS hl)
theorem PW.ishl {x y : Int32} (d : decode cc pc = .ok (.ishl, 1)) (kk : PW cc own nL Y (pc + 1) L (.int (x <<< (y &&& 31)) :: S) M) : PW cc own nL Y pc L (.int y :: .int x :: S) M := by
  obtain ⟨p, l, e, R, s, m, args, below, meth, c, cells, slots, Q, D, cA, ad, A⟩ := Y
  intro hok H locs ls hP hS hl
  exact lv_ishl hok.1 hok.2.1 d (kk hok H locs ls hP hS hl)
theorem PW.ishr {x y : Int32} (d : decode cc pc = .ok (.ishr, 1)) (kk : PW cc own nL Y (pc + 1) L (.int (x >>> (y &&& 31)) :: S) M) : PW cc own nL Y pc L (.int y :: .int x :: S) M := by
  obtain ⟨p, l, e, R, s, m, args, below, meth, c, cells, slots, Q, D, cA, ad, A⟩ := Y
  intro hok H locs ls hP hS hl
  exact lv_ishr hok.1 hok.2.1 d (kk hok H locs ls hP hS hl)
theorem PW.iushr {x y : Int32} (d : decode cc pc = .ok (.iushr, 1)) (kk : PW cc own nL Y (pc + 1) L (.int (x.toUInt32 >>> (y.toUInt32 &&& Int32.toUInt32 31)).toInt32 :: S) M) : PW cc own nL Y pc L (.int y :: .int x :: S) M := by
  obtain ⟨p, l, e, R, s, m, args, below, meth, c, cells, slots, Q, D, cA, ad, A⟩ := Y
  intro hok H locs ls hP hS hl
  exact lv_iushr hok.1 hok.2.1 d rfl (kk hok H locs ls hP hS hl)
theorem PW.idiv {x y : Int32} (d : decode cc pc = .ok (.idiv, 1)) (hne : ¬ y = 0) (kk : PW cc own nL Y (pc + 1) L (.int (x / y) :: S) M) : PW cc own nL Y pc L (.int y :: .int x :: S) M := by
  obtain ⟨p, l, e, R, s, m, args, below, meth, c, cells, slots, Q, D, cA, ad, A⟩ := Y
  intro hok H locs ls hP hS hl
  exact lv_idiv hok.1 hok.2.1 d hne (kk hok H locs ls hP hS hl)
theorem PW.irem {x y : Int32} (d : decode cc pc = .ok (.irem, 1)) (hne : ¬ y = 0) (kk : PW cc own nL Y (pc + 1) L (.int (x - x / y * y) :: S) M) : PW cc own nL Y pc L (.int y :: .int x :: S) M := by
  obtain ⟨p, l, e, R, s, m, args, below, meth, c, cells, slots, Q, D, cA, ad, A⟩ := Y
  intro hok H locs ls hP hS hl
  exact lv_irem hok.1 hok.2.1 d hne (kk hok H locs ls hP hS hl)
theorem PW.ladd {x y : Int64} (d : decode cc pc = .ok (.ladd, 1)) (kk : PW cc own nL Y (pc + 1) L (.long (x + y) :: S) M) : PW cc own nL Y pc L (.long y :: .long x :: S) M := by
  obtain ⟨p, l, e, R, s, m, args, below, meth, c, cells, slots, Q, D, cA, ad, A⟩ := Y
  intro hok H locs ls hP hS hl
  exact lv_ladd hok.1 hok.2.1 d (kk hok H locs ls hP hS hl)
theorem PW.lsub {x y : Int64} (d : decode cc pc = .ok (.lsub, 1)) (kk : PW cc own nL Y (pc + 1) L (.long (x - y) :: S) M) : PW cc own nL Y pc L (.long y :: .long x :: S) M := by
  obtain ⟨p, l, e, R, s, m, args, below, meth, c, cells, slots, Q, D, cA, ad, A⟩ := Y
  intro hok H locs ls hP hS hl
  exact lv_lsub hok.1 hok.2.1 d (kk hok H locs ls hP hS hl)
theorem PW.lmul {x y : Int64} (d : decode cc pc = .ok (.lmul, 1)) (kk : PW cc own nL Y (pc + 1) L (.long (x * y) :: S) M) : PW cc own nL Y pc L (.long y :: .long x :: S) M := by
  obtain ⟨p, l, e, R, s, m, args, below, meth, c, cells, slots, Q, D, cA, ad, A⟩ := Y
  intro hok H locs ls hP hS hl
  exact lv_lmul hok.1 hok.2.1 d (kk hok H locs ls hP hS hl)
theorem PW.i2l {x : Int32} (d : decode cc pc = .ok (.i2l, 1)) (kk : PW cc own nL Y (pc + 1) L (.long x.toInt64 :: S) M) : PW cc own nL Y pc L (.int x :: S) M := by
  obtain ⟨p, l, e, R, s, m, args, below, meth, c, cells, slots, Q, D, cA, ad, A⟩ := Y
  intro hok H locs ls hP hS hl
  exact lv_i2l hok.1 hok.2.1 d rfl (kk hok H locs ls hP hS hl)
theorem PW.l2i {x : Int64} (d : decode cc pc = .ok (.l2i, 1)) (kk : PW cc own nL Y (pc + 1) L (.int x.toInt32 :: S) M) : PW cc own nL Y pc L (.long x :: S) M := by
  obtain ⟨p, l, e, R, s, m, args, below, meth, c, cells, slots, Q, D, cA, ad, A⟩ := Y
  intro hok H locs ls hP hS hl
  exact lv_l2i hok.1 hok.2.1 d rfl (kk hok H locs ls hP hS hl)
theorem PW.lcmp {x y : Int64} (d : decode cc pc = .ok (.lcmp, 1)) (kk : PW cc own nL Y (pc + 1) L (.int (lg_cmp x y) :: S) M) : PW cc own nL Y pc L (.long y :: .long x :: S) M := by
  obtain ⟨p, l, e, R, s, m, args, below, meth, c, cells, slots, Q, D, cA, ad, A⟩ := Y
  intro hok H locs ls hP hS hl
  exact W.lcmp hok.1 hok.2.1 d (kk hok H locs ls hP hS hl)
theorem PW.dup {v : Value} (d : decode cc pc = .ok (.dup, 1)) (hv : v.category = 1) (kk : PW cc own nL Y (pc + 1) L (v :: v :: S) M) : PW cc own nL Y pc L (v :: S) M := by
  obtain ⟨p, l, e, R, s, m, args, below, meth, c, cells, slots, Q, D, cA, ad, A⟩ := Y
  intro hok H locs ls hP hS hl
  exact lv_dup hok.1 hok.2.1 d ((xv_cat ad v).trans hv) (kk hok H locs ls hP hS hl)
theorem PW.dup2 {v w : Value} (d : decode cc pc = .ok (.dup2, 1)) (hv : v.category = 1) (hw : w.category = 1) (kk : PW cc own nL Y (pc + 1) L (v :: w :: v :: w :: S) M) : PW cc own nL Y pc L (v :: w :: S) M := by
  obtain ⟨p, l, e, R, s, m, args, below, meth, c, cells, slots, Q, D, cA, ad, A⟩ := Y
  intro hok H locs ls hP hS hl
  exact lv_dup2_11 hok.1 hok.2.1 d ((xv_cat ad v).trans hv) ((xv_cat ad w).trans hw) (kk hok H locs ls hP hS hl)
theorem PW.dup_x1 {v w : Value} (d : decode cc pc = .ok (.dup_x1, 1)) (hv : v.category = 1) (hw : w.category = 1) (kk : PW cc own nL Y (pc + 1) L (v :: w :: v :: S) M) : PW cc own nL Y pc L (v :: w :: S) M := by
  obtain ⟨p, l, e, R, s, m, args, below, meth, c, cells, slots, Q, D, cA, ad, A⟩ := Y
  intro hok H locs ls hP hS hl
  exact lv_dup_x1 hok.1 hok.2.1 d ((xv_cat ad v).trans hv) ((xv_cat ad w).trans hw) (kk hok H locs ls hP hS hl)
theorem PW.pop {v : Value} (d : decode cc pc = .ok (.pop, 1)) (hv : v.category = 1) (kk : PW cc own nL Y (pc + 1) L S M) : PW cc own nL Y pc L (v :: S) M := by
  obtain ⟨p, l, e, R, s, m, args, below, meth, c, cells, slots, Q, D, cA, ad, A⟩ := Y
  intro hok H locs ls hP hS hl
  exact lv_pop hok.1 hok.2.1 d ((xv_cat ad v).trans hv) (kk hok H locs ls hP hS hl)
theorem PW.if_eq {x : Int32} {off : Int} {tgt : Nat} (d : decode cc pc = .ok (.ifCond .eq off, 3)) (ht : (pc : Int) + off = (tgt : Int)) (kt : x = 0 → PW cc own nL Y tgt L S M) (kf : ¬ x = 0 → PW cc own nL Y (pc + 3) L S M) : PW cc own nL Y pc L (.int x :: S) M := by
  obtain ⟨p, l, e, R, s, m, args, below, meth, c, cells, slots, Q, D, cA, ad, A⟩ := Y
  intro hok H locs ls hP hS hl
  exact lv_if_eq hok.1 hok.2.1 d ht (fun h => kt h hok H locs ls hP hS hl) (fun h => kf h hok H locs ls hP hS hl)
theorem PW.icmp_eq {x y : Int32} {off : Int} {tgt : Nat} (d : decode cc pc = .ok (.if_icmp .eq off, 3)) (ht : (pc : Int) + off = (tgt : Int)) (kt : x = y → PW cc own nL Y tgt L S M) (kf : ¬ x = y → PW cc own nL Y (pc + 3) L S M) : PW cc own nL Y pc L (.int y :: .int x :: S) M := by
  obtain ⟨p, l, e, R, s, m, args, below, meth, c, cells, slots, Q, D, cA, ad, A⟩ := Y
  intro hok H locs ls hP hS hl
  exact lv_icmp_eq hok.1 hok.2.1 d ht (fun h => kt h hok H locs ls hP hS hl) (fun h => kf h hok H locs ls hP hS hl)
theorem PW.if_ne {x : Int32} {off : Int} {tgt : Nat} (d : decode cc pc = .ok (.ifCond .ne off, 3)) (ht : (pc : Int) + off = (tgt : Int)) (kt : ¬ x = 0 → PW cc own nL Y tgt L S M) (kf : x = 0 → PW cc own nL Y (pc + 3) L S M) : PW cc own nL Y pc L (.int x :: S) M := by
  obtain ⟨p, l, e, R, s, m, args, below, meth, c, cells, slots, Q, D, cA, ad, A⟩ := Y
  intro hok H locs ls hP hS hl
  exact lv_if_ne hok.1 hok.2.1 d ht (fun h => kt h hok H locs ls hP hS hl) (fun h => kf h hok H locs ls hP hS hl)
theorem PW.icmp_ne {x y : Int32} {off : Int} {tgt : Nat} (d : decode cc pc = .ok (.if_icmp .ne off, 3)) (ht : (pc : Int) + off = (tgt : Int)) (kt : ¬ x = y → PW cc own nL Y tgt L S M) (kf : x = y → PW cc own nL Y (pc + 3) L S M) : PW cc own nL Y pc L (.int y :: .int x :: S) M := by
  obtain ⟨p, l, e, R, s, m, args, below, meth, c, cells, slots, Q, D, cA, ad, A⟩ := Y
  intro hok H locs ls hP hS hl
  exact lv_icmp_ne hok.1 hok.2.1 d ht (fun h => kt h hok H locs ls hP hS hl) (fun h => kf h hok H locs ls hP hS hl)
theorem PW.if_lt {x : Int32} {off : Int} {tgt : Nat} (d : decode cc pc = .ok (.ifCond .lt off, 3)) (ht : (pc : Int) + off = (tgt : Int)) (kt : x < 0 → PW cc own nL Y tgt L S M) (kf : ¬ x < 0 → PW cc own nL Y (pc + 3) L S M) : PW cc own nL Y pc L (.int x :: S) M := by
  obtain ⟨p, l, e, R, s, m, args, below, meth, c, cells, slots, Q, D, cA, ad, A⟩ := Y
  intro hok H locs ls hP hS hl
  exact lv_if_lt hok.1 hok.2.1 d ht (fun h => kt h hok H locs ls hP hS hl) (fun h => kf h hok H locs ls hP hS hl)
theorem PW.icmp_lt {x y : Int32} {off : Int} {tgt : Nat} (d : decode cc pc = .ok (.if_icmp .lt off, 3)) (ht : (pc : Int) + off = (tgt : Int)) (kt : x < y → PW cc own nL Y tgt L S M) (kf : ¬ x < y → PW cc own nL Y (pc + 3) L S M) : PW cc own nL Y pc L (.int y :: .int x :: S) M := by
  obtain ⟨p, l, e, R, s, m, args, below, meth, c, cells, slots, Q, D, cA, ad, A⟩ := Y
  intro hok H locs ls hP hS hl
  exact lv_icmp_lt hok.1 hok.2.1 d ht (fun h => kt h hok H locs ls hP hS hl) (fun h => kf h hok H locs ls hP hS hl)
theorem PW.if_ge {x : Int32} {off : Int} {tgt : Nat} (d : decode cc pc = .ok (.ifCond .ge off, 3)) (ht : (pc : Int) + off = (tgt : Int)) (kt : 0 ≤ x → PW cc own nL Y tgt L S M) (kf : ¬ 0 ≤ x → PW cc own nL Y (pc + 3) L S M) : PW cc own nL Y pc L (.int x :: S) M := by
  obtain ⟨p, l, e, R, s, m, args, below, meth, c, cells, slots, Q, D, cA, ad, A⟩ := Y
  intro hok H locs ls hP hS hl
  exact lv_if_ge hok.1 hok.2.1 d ht (fun h => kt h hok H locs ls hP hS hl) (fun h => kf h hok H locs ls hP hS hl)
theorem PW.icmp_ge {x y : Int32} {off : Int} {tgt : Nat} (d : decode cc pc = .ok (.if_icmp .ge off, 3)) (ht : (pc : Int) + off = (tgt : Int)) (kt : y ≤ x → PW cc own nL Y tgt L S M) (kf : ¬ y ≤ x → PW cc own nL Y (pc + 3) L S M) : PW cc own nL Y pc L (.int y :: .int x :: S) M := by
  obtain ⟨p, l, e, R, s, m, args, below, meth, c, cells, slots, Q, D, cA, ad, A⟩ := Y
  intro hok H locs ls hP hS hl
  exact lv_icmp_ge hok.1 hok.2.1 d ht (fun h => kt h hok H locs ls hP hS hl) (fun h => kf h hok H locs ls hP hS hl)
theorem PW.if_gt {x : Int32} {off : Int} {tgt : Nat} (d : decode cc pc = .ok (.ifCond .gt off, 3)) (ht : (pc : Int) + off = (tgt : Int)) (kt : 0 < x → PW cc own nL Y tgt L S M) (kf : ¬ 0 < x → PW cc own nL Y (pc + 3) L S M) : PW cc own nL Y pc L (.int x :: S) M := by
  obtain ⟨p, l, e, R, s, m, args, below, meth, c, cells, slots, Q, D, cA, ad, A⟩ := Y
  intro hok H locs ls hP hS hl
  exact lv_if_gt hok.1 hok.2.1 d ht (fun h => kt h hok H locs ls hP hS hl) (fun h => kf h hok H locs ls hP hS hl)
theorem PW.icmp_gt {x y : Int32} {off : Int} {tgt : Nat} (d : decode cc pc = .ok (.if_icmp .gt off, 3)) (ht : (pc : Int) + off = (tgt : Int)) (kt : y < x → PW cc own nL Y tgt L S M) (kf : ¬ y < x → PW cc own nL Y (pc + 3) L S M) : PW cc own nL Y pc L (.int y :: .int x :: S) M := by
  obtain ⟨p, l, e, R, s, m, args, below, meth, c, cells, slots, Q, D, cA, ad, A⟩ := Y
  intro hok H locs ls hP hS hl
  exact lv_icmp_gt hok.1 hok.2.1 d ht (fun h => kt h hok H locs ls hP hS hl) (fun h => kf h hok H locs ls hP hS hl)
theorem PW.if_le {x : Int32} {off : Int} {tgt : Nat} (d : decode cc pc = .ok (.ifCond .le off, 3)) (ht : (pc : Int) + off = (tgt : Int)) (kt : x ≤ 0 → PW cc own nL Y tgt L S M) (kf : ¬ x ≤ 0 → PW cc own nL Y (pc + 3) L S M) : PW cc own nL Y pc L (.int x :: S) M := by
  obtain ⟨p, l, e, R, s, m, args, below, meth, c, cells, slots, Q, D, cA, ad, A⟩ := Y
  intro hok H locs ls hP hS hl
  exact lv_if_le hok.1 hok.2.1 d ht (fun h => kt h hok H locs ls hP hS hl) (fun h => kf h hok H locs ls hP hS hl)
theorem PW.icmp_le {x y : Int32} {off : Int} {tgt : Nat} (d : decode cc pc = .ok (.if_icmp .le off, 3)) (ht : (pc : Int) + off = (tgt : Int)) (kt : x ≤ y → PW cc own nL Y tgt L S M) (kf : ¬ x ≤ y → PW cc own nL Y (pc + 3) L S M) : PW cc own nL Y pc L (.int y :: .int x :: S) M := by
  obtain ⟨p, l, e, R, s, m, args, below, meth, c, cells, slots, Q, D, cA, ad, A⟩ := Y
  intro hok H locs ls hP hS hl
  exact lv_icmp_le hok.1 hok.2.1 d ht (fun h => kt h hok H locs ls hP hS hl) (fun h => kf h hok H locs ls hP hS hl)
theorem PW.goto {off : Int} {tgt : Nat} (d : decode cc pc = .ok (.goto off, 3)) (ht : (pc : Int) + off = (tgt : Int)) (kk : PW cc own nL Y tgt L S M) : PW cc own nL Y pc L S M := by
  obtain ⟨p, l, e, R, s, m, args, below, meth, c, cells, slots, Q, D, cA, ad, A⟩ := Y
  intro hok H locs ls hP hS hl
  exact lv_goto hok.1 hok.2.1 d ht (kk hok H locs ls hP hS hl)
theorem PW.tswOut {dflt lo hi : Int} {offs : Array Int} {len : Nat} {x : Int32} {tgt : Nat} (d : decode cc pc = .ok (.tableswitch dflt lo hi offs, len)) (h : x.toInt < lo ∨ hi < x.toInt) (ht : (pc : Int) + dflt = (tgt : Int)) (kk : PW cc own nL Y tgt L S M) : PW cc own nL Y pc L (.int x :: S) M := by
  obtain ⟨p, l, e, R, s, m, args, below, meth, c, cells, slots, Q, D, cA, ad, A⟩ := Y
  intro hok H locs ls hP hS hl
  exact lv_tableOut hok.1 hok.2.1 d h ht (kk hok H locs ls hP hS hl)
theorem PW.tswIn {dflt lo hi : Int} {offs : Array Int} {len : Nat} {x : Int32} {off : Int} {tgt : Nat} (d : decode cc pc = .ok (.tableswitch dflt lo hi offs, len)) (h1 : ¬ x.toInt < lo) (h2 : ¬ hi < x.toInt) (ho : offs[(x.toInt - lo).toNat]? = some off) (ht : (pc : Int) + off = (tgt : Int)) (kk : PW cc own nL Y tgt L S M) : PW cc own nL Y pc L (.int x :: S) M := by
  obtain ⟨p, l, e, R, s, m, args, below, meth, c, cells, slots, Q, D, cA, ad, A⟩ := Y
  intro hok H locs ls hP hS hl
  exact lv_tableIn hok.1 hok.2.1 d h1 h2 ho ht (kk hok H locs ls hP hS hl)
theorem PW.locs {L2 : List (Nat × Value)} (hs : L2.map (fun q => L.lookup q.1) = L2.map (fun q => some q.2)) (kk : PW cc own nL Y pc L2 S M) : PW cc own nL Y pc L S M := by
  obtain ⟨p, l, e, R, s, m, args, below, meth, c, cells, slots, Q, D, cA, ad, A⟩ := Y
  intro hok H locs ls hP hS hl
  exact kk hok H locs ls hP hS (xlk_sub hl hs)
theorem PW.st {L2 : List (Nat × Value)} {S2 : List Value} {M2 : xM} (hM : M = M2) (hS2 : S = S2) (hs : L2.map (fun q => L.lookup q.1) = L2.map (fun q => some q.2)) (kk : PW cc own nL Y pc L2 S2 M2) : PW cc own nL Y pc L S M := by
  subst hM; subst hS2
  exact PW.locs hs kk
theorem PW.iald {b n : Nat} {i : Int32} (hb : xSH[b]? = some (.inl (0, n))) (hin : vp_in i n) (d : decode cc pc = .ok (.iaload, 1)) (kk : PW cc own nL Y (pc + 1) L (.int (M.1 b i.toNatClampNeg) :: S) M) : PW cc own nL Y pc L (.int i :: .ref b :: S) M := by
  obtain ⟨p, l, e, R, s, m, args, below, meth, c, cells, slots, Q, D, cA, ad, A⟩ := Y
  intro hok H locs ls hP hS hl
  exact va_iald hok.1 hok.2.1 hok.2.2.2.2.2.1 hP b 0 (xW_get hb) rfl hin d (kk hok H locs ls hP hS hl)
theorem PW.zald {b n : Nat} {i : Int32} (hb : xSH[b]? = some (.inl (1, n))) (hin : vp_in i n) (d : decode cc pc = .ok (.baload, 1)) (kk : PW cc own nL Y (pc + 1) L (.int (M.1 b i.toNatClampNeg) :: S) M) : PW cc own nL Y pc L (.int i :: .ref b :: S) M := by
  obtain ⟨p, l, e, R, s, m, args, below, meth, c, cells, slots, Q, D, cA, ad, A⟩ := Y
  intro hok H locs ls hP hS hl
  exact va_zald hok.1 hok.2.1 hok.2.2.2.2.2.1 hP b 1 (xW_get hb) rfl hin d (kk hok H locs ls hP hS hl)
theorem PW.iast {b n : Nat} {i x : Int32} (hb : xSH[b]? = some (.inl (0, n))) (hin : vp_in i n) (d : decode cc pc = .ok (.iastore, 1)) (kk : PW cc own nL Y (pc + 1) L S (xup M b i.toNatClampNeg x)) : PW cc own nL Y pc L (.int x :: .int i :: .ref b :: S) M := by
  obtain ⟨p, l, e, R, s, m, args, below, meth, c, cells, slots, Q, D, cA, ad, A⟩ := Y
  intro hok H locs ls hP hS hl
  have hD := xD_of (cA := cA) (M := M) hok.2.2.2.2.2.2.1 hok.2.2.2.2.2.2.2.1
  exact va_iast hok.1 hok.2.1 hok.2.2.2.2.2.1 hP hD hS b 0 (xW_get hb) rfl hin d (fun H1 locs1 hP1 hD1 hS1 => kk hok H1 locs1 ls (by rw [xW_seti hb] at hP1; exact hP1) hS1 hl)
theorem x_narz {x : Int32} (h : x = 0 ∨ x = 1) : vp_nar .boolean x = x := by rcases h with rfl | rfl <;> decide
theorem PW.zast {b n : Nat} {i x : Int32} (hb : xSH[b]? = some (.inl (1, n))) (hin : vp_in i n) (hx : x = 0 ∨ x = 1) (d : decode cc pc = .ok (.bastore, 1)) (kk : PW cc own nL Y (pc + 1) L S (xup M b i.toNatClampNeg x)) : PW cc own nL Y pc L (.int x :: .int i :: .ref b :: S) M := by
  obtain ⟨p, l, e, R, s, m, args, below, meth, c, cells, slots, Q, D, cA, ad, A⟩ := Y
  intro hok H locs ls hP hS hl
  have hD := xD_of (cA := cA) (M := M) hok.2.2.2.2.2.2.1 hok.2.2.2.2.2.2.2.1
  exact va_zast hok.1 hok.2.1 hok.2.2.2.2.2.1 hP hD hS b 1 (xW_get hb) rfl hin d (fun H1 locs1 hP1 hD1 hS1 => kk hok H1 locs1 ls (by rw [xW_seti hb, x_narz hx] at hP1; exact hP1) hS1 hl)
theorem PW.alen {b t n : Nat} (hb : xSH[b]? = some (.inl (t, n))) (ht : t < 2) (d : decode cc pc = .ok (.arraylength, 1)) (kk : PW cc own nL Y (pc + 1) L (.int (nI n) :: S) M) : PW cc own nL Y pc L (.ref b :: S) M := by
  obtain ⟨p, l, e, R, s, m, args, below, meth, c, cells, slots, Q, D, cA, ad, A⟩ := Y
  intro hok H locs ls hP hS hl
  rcases (show t = 0 ∨ t = 1 by omega) with rfl | rfl
  · exact va_alen (ty := .int) hok.1 hok.2.1 hok.2.2.2.2.2.1 hP b 0 (xW_get hb) rfl rfl d (kk hok H locs ls hP hS hl)
  · exact va_alen (ty := .boolean) hok.1 hok.2.1 hok.2.2.2.2.2.1 hP b 1 (xW_get hb) rfl rfl d (kk hok H locs ls hP hS hl)
theorem PW.getf {b ci k N idx : Nat} {ks : List xFK} {C : String} {T : u_T} {fk : xFK} (hb : xSH[b]? = some (.inr (ci, ks))) (hc : vwCl[ci]? = some (C, T, N)) (hk : ks[k]? = some fk) (hkN : k < N) (hin : ∀ w ∈ u_ws C T N, w ∈ xTb) (hlink : Cond.fieldLink own idx (T k).1 (T k).2.1 (T k).2.2.1 ∈ xTb) (d : decode cc pc = .ok (.getfield idx, 3)) (kk : PW cc own nL Y (pc + 3) L (xfv M b k fk :: S) M) : PW cc own nL Y pc L (.ref b :: S) M := by
  obtain ⟨p, l, e, R, s, m, args, below, meth, c, cells, slots, Q, D, cA, ad, A⟩ := Y
  intro hok H locs ls hP hS hl
  exact va_get (v := xv ad (xfv M b k fk)) hok.1 hok.2.1 hok.2.2.2.2.1.1 hin hok.2.2.2.1 hok.2.2.2.2.2.1 hP b (xW_get hb) hc k hkN (hok.2.2.2.2.1.1 _ hlink) (fun _ h => h) (by rw [List.getElem?_mapIdx, hk]; rfl) d (kk hok H locs ls hP hS hl)
theorem PW.putI {b ci k N idx : Nat} {ks : List xFK} {C : String} {T : u_T} {x : Int32} (hb : xSH[b]? = some (.inr (ci, ks))) (hc : vwCl[ci]? = some (C, T, N)) (hk : ks[k]? = some (.inr false)) (hkN : k < N) (hin : ∀ w ∈ u_ws C T N, w ∈ xTb) (ty0 : Nat → FieldType) (hty : ∀ k, k < N → parseFieldDescriptor (T k).2.2.1 = some (ty0 k)) (hnm : ∀ a, a < N → ∀ b, b < N → a ≠ b → (T a).2.1 ≠ (T b).2.1) (hlink : Cond.fieldLink own idx (T k).1 (T k).2.1 (T k).2.2.1 ∈ xTb) (hfin : (T k).2.2.2 = false) (hd : parseFieldDescriptor (T k).2.2.1 = some .int) (d : decode cc pc = .ok (.putfield idx, 3)) (kk : PW cc own nL Y (pc + 3) L S (xup M b k x)) : PW cc own nL Y pc L (.int x :: .ref b :: S) M := by
  obtain ⟨p, l, e, R, s, m, args, below, meth, c, cells, slots, Q, D, cA, ad, A⟩ := Y
  intro hok H locs ls hP hS hl
  have hD := xD_of (cA := cA) (M := M) hok.2.2.2.2.2.2.1 hok.2.2.2.2.2.2.2.1
  exact va_put (v := .int x) (ty := .int) hok.1 hok.2.1 hok.2.2.2.2.1.1 hin ty0 hty hnm hok.2.2.2.1 hok.2.2.2.2.2.1 hP hD hS b (xW_get hb) hc k hkN (hok.2.2.2.2.1.1 _ hlink) (fun _ h => h) hfin hd rfl rfl (by rw [List.length_mapIdx]; exact (List.getElem?_eq_some_iff.mp hk).1) d (fun H1 locs1 hP1 hD1 hS1 => kk hok H1 locs1 ls (by rw [xW_setf hb hk] at hP1; exact hP1) hS1 hl)
theorem PW.putL {b ci k N idx : Nat} {ks : List xFK} {C : String} {T : u_T} {x : Int64} (hb : xSH[b]? = some (.inr (ci, ks))) (hc : vwCl[ci]? = some (C, T, N)) (hk : ks[k]? = some (.inr true)) (hkN : k < N) (hin : ∀ w ∈ u_ws C T N, w ∈ xTb) (ty0 : Nat → FieldType) (hty : ∀ k, k < N → parseFieldDescriptor (T k).2.2.1 = some (ty0 k)) (hnm : ∀ a, a < N → ∀ b, b < N → a ≠ b → (T a).2.1 ≠ (T b).2.1) (hlink : Cond.fieldLink own idx (T k).1 (T k).2.1 (T k).2.2.1 ∈ xTb) (hfin : (T k).2.2.2 = false) (hd : parseFieldDescriptor (T k).2.2.1 = some .long) (d : decode cc pc = .ok (.putfield idx, 3)) (kk : PW cc own nL Y (pc + 3) L S (xupL M b k x)) : PW cc own nL Y pc L (.long x :: .ref b :: S) M := by
  obtain ⟨p, l, e, R, s, m, args, below, meth, c, cells, slots, Q, D, cA, ad, A⟩ := Y
  intro hok H locs ls hP hS hl
  have hD := xD_of (cA := cA) (M := M) hok.2.2.2.2.2.2.1 hok.2.2.2.2.2.2.2.1
  exact va_put (v := .long x) (ty := .long) hok.1 hok.2.1 hok.2.2.2.2.1.1 hin ty0 hty hnm hok.2.2.2.1 hok.2.2.2.2.2.1 hP hD hS b (xW_get hb) hc k hkN (hok.2.2.2.2.1.1 _ hlink) (fun _ h => h) hfin hd rfl rfl (by rw [List.length_mapIdx]; exact (List.getElem?_eq_some_iff.mp hk).1) d (fun H1 locs1 hP1 hD1 hS1 => kk hok H1 locs1 ls (by rw [xW_setfL hb hk] at hP1; exact hP1) hS1 hl)
end XR
end
section
/-! CALLS: a method's contract over the whole world, from one state of it -/
def xA (ad : Nat → Nat) (sz : Nat) : Nat → Prop := fun q => (∃ k, k < 57 ∧ q = ad k) ∨ sz ≤ q
def xQ (RP : Option Value → xM → Prop) (D : va_G) (cA : Nat → ClassId) (ad : Nat → Nat) (A : Nat → Prop) : Array Value → State → Outcome → State → Prop := fun _ st oc t =>
  (∃ (r : Option Value) (u : xM), oc = .returned (r.map (xv ad)) ∧ RP r u ∧ va_P D vwCl (xW cA ad u) t.heap) ∧ va_F A st t
def xU (y : MethodName) (cy : ByteArray) (n : Nat) (ret : Option FieldType) : List Cond := .code y cy n ret :: xTb
def xMet (y : MethodName) (cy : ByteArray) (n : Nat) (ret : Option FieldType) (fr lo : Nat) (As : List Value) (M : xM) (RP : Option Value → xM → Prop) : Prop :=
  ∀ (l : Launch) (D : va_G) (cA : Nat → ClassId) (ad : Nat → Nat) (sz : Nat), (∀ i j, i < 57 → j < 57 → ad i = ad j → i = j) → Met l y (xU y cy n ret) { frames := fr, cells := 0, slots := 0, locals := lo }
    (va_Pc (As.map (xv ad)) (fun U => U.heap.size = sz ∧ va_P D vwCl (xW cA ad M) U.heap ∧ va_K D vwCl (xtys cA) U ∧ xNst U)) (xQ RP D cA ad (xA ad sz)) 0 0 (xA ad sz)
def xHas (Y : xY) (fr lo : Nat) (ret : Option FieldType) (RP : Option Value → xM → Prop) : Prop := match Y with
  | (_, _, _, R, s, _, args, below, meth, _, cells, slots, Q, D, cA, ad, A) => R = { frames := fr, cells := 0, slots := 0, locals := lo } ∧ cells = 0 ∧ slots = 0 ∧ meth.sig.returnType = ret ∧ meth.locks = false ∧ A = xA ad s.heap.size ∧ Q = MQ below (xQ RP D cA ad A) args s 0 0 A
def xRm (Y : xY) (fr lo : Nat) : Prop := match Y with
  | (_, _, _, R, _, _, _, _, _, _, _, _, _, _, _, _, _) => R.frames = fr ∧ R.locals = lo
theorem xHas.rm {Y : xY} {fr lo : Nat} {ret : Option FieldType} {RP : Option Value → xM → Prop} (h : xHas Y fr lo ret RP) : xRm Y fr lo := by
  obtain ⟨p, l, e, R, s, m, args, below, meth, c, cells, slots, Q, D, cA, ad, A⟩ := Y
  obtain ⟨rfl, -⟩ := h
  exact ⟨rfl, rfl⟩
theorem x_blind {As : List Value} {M : xM} {D : va_G} {cA : Nat → ClassId} {ad : Nat → Nat} {sz : Nat} : FrameBlind (va_Pc (As.map (xv ad)) (fun U => U.heap.size = sz ∧ va_P D vwCl (xW cA ad M) U.heap ∧ va_K D vwCl (xtys cA) U ∧ xNst U)) :=
  fun a U g mk q => by obtain ⟨q0, q1, qP, qK, qN⟩ := q; exact ⟨q0, q1, qP, va_K.moved (u := U) (U := U.calling g mk a) (Vm.Alike.refl U.vm) qK, fun w hw => va_Nw.same rfl (rfl : U.vm = (U.calling g mk a).vm) (qN w hw)⟩
theorem x_entry_len {As : List Value} (ad : Nat → Nat) : (lg_sl (As.map (xv ad))).length = (lg_sl As).length := by
  induction As with
  | nil => rfl
  | cons v t ih =>
    simp only [lg_sl, List.map_cons, List.flatMap_cons, List.length_append, xv_cat] at ih ⊢
    rw [ih]
    by_cases h : v.category = 2 <;> simp [h]
set_option maxHeartbeats 4000000 in
/-- a method's contract out of its body -/
theorem xMet.of {y : MethodName} {cy : ByteArray} {n : Nat} {ret : Option FieldType} {fr lo : Nat} {As : List Value} {M : xM} {RP : Option Value → xM → Prop} {own : String} {L0 : List (Nat × Value)} (hown : y.cls = own) (hpl : plainName y.cls = true) (hlen : (lg_sl As).length ≤ n) (hL : lv_args 0 As = L0)
    (body : ∀ Y : xY, xHas Y fr lo ret RP → PW cy own n Y 0 L0 [] M) : xMet y cy n ret fr lo As M RP := by
  intro l D cA ad sz hinj
  refine Met.ofW (cc := cy) (maxL := n) (ret := ret) hpl rfl ?_
  intro p e s m args below meth c s₁ B hml hv
  obtain ⟨rfl, hsz, hP, hK, hN⟩ := hv
  have hts := atoms_spec (ws := xU y cy n ret) B.pre
  have hown2 : s.vm.findClass own = some m.cls := by rw [← hown]; exact findClass_of_methodNamed B.named
  subst hsz
  have h := body (p, l, e, { frames := fr, cells := 0, slots := 0, locals := lo }, s, m, (As.map (xv ad)).toArray, below, meth, c, 0, 0, MQ below (xQ RP D cA ad (xA ad s.heap.size)) (As.map (xv ad)).toArray s 0 0 (xA ad s.heap.size), D, cA, ad, xA ad s.heap.size)
    ⟨rfl, rfl, rfl, B.returns, B.notSynchronized, rfl, rfl⟩
    ⟨B.exec, B.bytes, hml, hown2, ⟨fun w hw => hts w (List.mem_cons_of_mem _ hw), hN⟩, hK, hinj, fun i hi => Or.inl ⟨i, hi, rfl⟩, fun q hq => Or.inr hq, Nat.le_refl _, Nat.le_refl _⟩
  have hl := lv_entry (As.map (xv ad)) (n := n) (by rw [x_entry_len]; exact hlen)
  rw [lg_entry_eq]
  subst hL
  exact h s.heap [] _ hP va_S.rf (xlk_args hl)
section XC
variable {cc : ByteArray} {own : String} {nL : Nat} {Y : xY} {pc : Nat} {L : List (Nat × Value)} {S : List Value} {M : xM} {fr lo : Nat} {RP : Option Value → xM → Prop}
theorem PW.iret {v : Int32} (hY : xHas Y fr lo (some .int) RP) (hq : RP (some (.int v)) M) (d : decode cc pc = .ok (.ireturn, 1)) : PW cc own nL Y pc L [.int v] M := by
  obtain ⟨p, l, e, R, s, m, args, below, meth, c, cells, slots, Q, D, cA, ad, A⟩ := Y
  intro hok H locs ls hP hS hl
  obtain ⟨rfl, rfl, rfl, hr, hlocks, rfl, rfl⟩ := hY
  exact W.iret (v := v) hok.1 hok.2.1 hr (fun t ht hW => ⟨⟨some (.int v), M, rfl, hq, by rw [ht]; exact hP⟩, hS.F ht⟩) hS.2.2 d hlocks
theorem x_narZ {v : Int32} (h : v = 0 ∨ v = 1) : narrow .boolean (.int v) = .int v := by rcases h with rfl | rfl <;> decide
theorem PW.zret {v : Int32} (hY : xHas Y fr lo (some .boolean) RP) (hv : v = 0 ∨ v = 1) (hq : RP (some (.int v)) M) (d : decode cc pc = .ok (.ireturn, 1)) : PW cc own nL Y pc L [.int v] M := by
  obtain ⟨p, l, e, R, s, m, args, below, meth, c, cells, slots, Q, D, cA, ad, A⟩ := Y
  intro hok H locs ls hP hS hl
  obtain ⟨rfl, rfl, rfl, hr, hlocks, rfl, rfl⟩ := hY
  exact W.zret (v := v) hok.1 hok.2.1 hr (x_narZ hv) (fun t ht hW => ⟨⟨some (.int v), M, rfl, hq, by rw [ht]; exact hP⟩, hS.F ht⟩) hS.2.2 d hlocks
theorem PW.lret {v : Int64} (hY : xHas Y fr lo (some .long) RP) (hq : RP (some (.long v)) M) (d : decode cc pc = .ok (.lreturn, 1)) : PW cc own nL Y pc L [.long v] M := by
  obtain ⟨p, l, e, R, s, m, args, below, meth, c, cells, slots, Q, D, cA, ad, A⟩ := Y
  intro hok H locs ls hP hS hl
  obtain ⟨rfl, rfl, rfl, hr, hlocks, rfl, rfl⟩ := hY
  exact W.lret (v := v) hok.1 hok.2.1 hr (fun t ht hW => ⟨⟨some (.long v), M, rfl, hq, by rw [ht]; exact hP⟩, hS.F ht⟩) hS.2.2 d hlocks
theorem PW.vret (hY : xHas Y fr lo none RP) (hq : RP none M) (d : decode cc pc = .ok (.return_, 1)) : PW cc own nL Y pc L [] M := by
  obtain ⟨p, l, e, R, s, m, args, below, meth, c, cells, slots, Q, D, cA, ad, A⟩ := Y
  intro hok H locs ls hP hS hl
  obtain ⟨rfl, rfl, rfl, hr, hlocks, rfl, rfl⟩ := hY
  exact W.vret hok.1 hok.2.1 hr (fun t ht hW => ⟨⟨none, M, rfl, hq, by rw [ht]; exact hP⟩, hS.F ht⟩) hS.2.2 d hlocks
end XC
theorem x_good : xTb.all goodWord = true := List.all_eq_true.mpr (fun w hw => (List.mem_filter.mp hw).2)
theorem x_goodU {ws : List Cond} (h : ∀ w ∈ ws, w ∈ xTb) : GoodIn xTb (ws ++ xTb) := by
  intro w hw
  have hm : w ∈ xTb := by
    rcases List.mem_append.mp hw with h1 | h1
    · exact h w h1
    · exact h1
  exact ⟨hm, good_of_word (List.all_eq_true.mp x_good w hm)⟩
theorem x_goodW {own : String} {idx : Nat} {C : String} {y : MethodName} {cy : ByteArray} {n : Nat} {ret : Option FieldType} (h : ∀ w ∈ ([.methodLink own idx y, .instanceMethod y, .selects C y y, .initialized C, .code y cy n ret] : List Cond), w ∈ xTb) : GoodIn xTb (wsV own idx C y (xU y cy n ret)) := x_goodU h
theorem x_goodS {own : String} {idx : Nat} {y : MethodName} {cy : ByteArray} {n : Nat} {ret : Option FieldType} (h : ∀ w ∈ ([.methodLink own idx y, .static y, .initialized own, .code y cy n ret] : List Cond), w ∈ xTb) : GoodIn xTb (wsS own idx y (xU y cy n ret)) := x_goodU h
theorem x_goodC {y : MethodName} {cy : ByteArray} {n : Nat} {ret : Option FieldType} (h : (.code y cy n ret : Cond) ∈ xTb) : GoodIn xTb (xU y cy n ret) := x_goodU (ws := [.code y cy n ret]) (fun w hw => by rw [List.mem_singleton.mp hw]; exact h)
/-- what a call site says of its tables: virtual; static; static of a nest mate; static of another class -/
def xCV (own : String) (idx : Nat) (C : String) (y : MethodName) (cy : ByteArray) (n : Nat) (ret : Option FieldType) (k : Nat) : Prop :=
  (∀ w ∈ ([.methodLink own idx y, .instanceMethod y, .selects C y y, .initialized C, .code y cy n ret] : List Cond), w ∈ xTb) ∧ y.cls = C ∧ y.cls ≠ "java/lang/invoke/MethodHandle" ∧ y.cls ≠ "java/lang/invoke/VarHandle" ∧ (parseMethodDescriptor y.desc).map (fun d => d.parameters.length) = some k
def xCS (own : String) (idx : Nat) (y : MethodName) (cy : ByteArray) (n : Nat) (ret : Option FieldType) (k : Nat) : Prop :=
  (∀ w ∈ ([.methodLink own idx y, .static y, .initialized y.cls, .code y cy n ret] : List Cond), w ∈ xTb) ∧ y.cls ≠ "java/lang/invoke/MethodHandle" ∧ y.cls ≠ "java/lang/invoke/VarHandle" ∧ (parseMethodDescriptor y.desc).map (fun d => d.parameters.length) = some k
def xCN (own : String) (idx : Nat) (y : MethodName) (host : String) (cy : ByteArray) (n : Nat) (ret : Option FieldType) (k : Nat) : Prop :=
  (own, idx, y, host) ∈ xNl ∧ (∀ w ∈ ([.static y, .initialized y.cls, .code y cy n ret] : List Cond), w ∈ xTb) ∧ y.cls ≠ "java/lang/invoke/MethodHandle" ∧ y.cls ≠ "java/lang/invoke/VarHandle" ∧ (parseMethodDescriptor y.desc).map (fun d => d.parameters.length) = some k
section XD
variable {p : Program} {l : Launch} {e : Env} {R : Room} {s : State} {m : MethodId} {args : Array Value} {below : List Frame} {meth : Method} {c : Code} {H : Heap} {locs : List Loc} {cells slots : Nat} {Q : State → Prop}
variable {pc : Nat} {ls : Array Slot} {rest st0 : List Value} {a : Array Value} {A0 : Nat → Prop} {H0 : Heap}
theorem x_call {RP : Option Value → xM → Prop} {D : va_G} {cA : Nat → ClassId} {ad : Nat → Nat} (hr : va_Run p l e R s m args below meth c H locs cells slots 0 0 (F0 m pc ls st0) rest (xQ RP D cA ad (xA ad H.size) a) (xA ad H.size)) (hS : va_S A0 H0 H locs) (hA : ∀ q, xA ad H.size q → A0 q)
    (kk : ∀ (r : Option Value) (u : xM) (H1 : Heap) (locs1 : List Loc), RP r u → va_P D vwCl (xW cA ad u) H1 → va_S A0 H0 H1 locs1 → W p l e R s m args below meth c H1 locs1 cells slots Q (F0 m (pc + 3) ls ((r.map (xv ad)).toList ++ rest))) : W p l e R s m args below meth c H locs cells slots Q (F0 m pc ls st0) := by
  intro T hT X
  obtain ⟨v, st₀, t, T', Ls, h0, X', hL, e1, e2, ⟨⟨r, u, hv, hp, hb⟩, hz, hk⟩, st⟩ := hr T hT X
  cases hv
  rw [h0] at hz hk
  obtain ⟨t2, a1, b1⟩ := kk r u T'.heap (locs ++ Ls) hp (by rw [e1]; exact hb)
    ⟨Nat.le_trans hS.1 (by rw [e1]; exact hz), fun q h1 h2 => by rw [e1, hk q (Nat.lt_of_lt_of_le h1 hS.1) (fun z => h2 (hA q z))]; exact hS.2.1 q h1 h2, fun q hq => by
      rcases List.mem_append.mp hq with h | h
      · exact hS.2.2 q h
      · exact hA _ (hL q h)⟩ T' rfl X'
  exact ⟨t2, st t2 a1, b1⟩
end XD
section XE
variable {cc : ByteArray} {own : String} {nL : Nat} {Y : xY} {pc : Nat} {L : List (Nat × Value)} {S : List Value} {M : xM} {fr lo : Nat} {RP : Option Value → xM → Prop}
variable {y : MethodName} {cy : ByteArray} {n : Nat} {ret : Option FieldType} {fr2 lo2 idx : Nat} {As : List Value}
theorem x_hA {s : State} {A : Nat → Prop} {ad : Nat → Nat} {H : Heap} {locs : List Loc} (h1 : ∀ i, i < 57 → A (ad i)) (h2 : ∀ q, s.heap.size ≤ q → A q) (hS : va_S A s.heap H locs) : ∀ q, xA ad H.size q → A q := by
  intro q h
  rcases h with ⟨k, hk, rfl⟩ | h
  · exact h1 k hk
  · exact h2 q (Nat.le_trans hS.1 h)
theorem x_rest {r : Option Value} {ad : Nat → Nat} {S : List Value} : (r.map (xv ad)).toList ++ S.map (xv ad) = (r.toList ++ S).map (xv ad) := by cases r <;> rfl
set_option maxHeartbeats 4000000 in
theorem PW.callV {b ci N : Nat} {ks : List xFK} {C : String} {T : u_T} (hR : xRm Y fr lo) (hM : xMet y cy n ret fr2 lo2 (.ref b :: As) M RP) (hroom : fr2 + 1 ≤ fr ∧ 8 + (n + 11) + lo2 ≤ lo) (hw : xCV own idx C y cy n ret As.length) (hb : xSH[b]? = some (.inr (ci, ks))) (hc : vwCl[ci]? = some (C, T, N)) (d : decode cc pc = .ok (.invokevirtual idx, 3)) {S' : List Value} (hst : S = As.reverse ++ .ref b :: S') (hcat : (S'.map fun v => v.category).sum ≤ 8)
    (kk : ∀ r u, RP r u → PW cc own nL Y (pc + 3) L (r.toList ++ S') u) : PW cc own nL Y pc L S M := by
  obtain ⟨p, l, e, R, s, m, args, below, meth, c, cells, slots, Q, D, cA, ad, A⟩ := Y
  intro hok H locs ls hP hS hl
  subst hst
  obtain ⟨hR1, hR2⟩ := hR
  have hK := hok.2.2.2.2.2.1
  refine x_call (ad := ad) (cA := cA) (D := D) (RP := RP) (rest := S'.map (xv ad)) (va_runV (As := As.map (xv ad)) (Ts := xTb) ⟨hok.1, hok.2.1, hok.2.2.1, hok.2.2.2.1, hok.2.2.2.2.1.1⟩ (hM l D cA ad H.size hok.2.2.2.2.2.2.1)
    (cwV (ws := xU y cy n ret) (ws' := xTb) As.length hok.2.2.2.2.1.1 (x_goodW hw.1) rfl rfl rfl hw.2 ⟨by rw [hR1]; exact hroom.1, by rw [hR2]; exact hroom.2⟩)
    ⟨x_blind, va_recv hK hP hc (xW_get hb), fun U hU hW => ⟨rfl, by rw [hU], by rw [hU]; exact hP, va_K.moved hW.alike hK, fun w hw => va_Nw.warmM hW (hok.2.2.2.2.1.2 w hw)⟩⟩ rfl (by simp) hl.1 (by simp [xv]) (by
      show 2 * 0 + _ ≤ 8
      simp only [List.map_map]
      have : ((fun v => Value.category v) ∘ xv ad) = fun v => Value.category v := by funext v; exact xv_cat ad v
      rw [this]; omega) d ⟨hok.2.2.2.2.2.2.2.2.2.1, hok.2.2.2.2.2.2.2.2.2.2⟩) hS (x_hA hok.2.2.2.2.2.2.2.1 hok.2.2.2.2.2.2.2.2.1 hS) (fun r u H1 locs1 hr hP1 hS1 => ?_)
  rw [x_rest]
  exact kk r u hr hok H1 locs1 ls hP1 hS1 hl
set_option maxHeartbeats 4000000 in
theorem PW.callS (hR : xRm Y fr lo) (hM : xMet y cy n ret fr2 lo2 As M RP) (hroom : fr2 + 1 ≤ fr ∧ 8 + (n + 11) + lo2 ≤ lo) (hw : xCS own idx y cy n ret As.length) (d : decode cc pc = .ok (.invokestatic idx, 3)) {S' : List Value} (hst : S = As.reverse ++ S') (hcat : (S'.map fun v => v.category).sum ≤ 8)
    (kk : ∀ r u, RP r u → PW cc own nL Y (pc + 3) L (r.toList ++ S') u) : PW cc own nL Y pc L S M := by
  obtain ⟨p, l, e, R, s, m, args, below, meth, c, cells, slots, Q, D, cA, ad, A⟩ := Y
  intro hok H locs ls hP hS hl
  subst hst
  obtain ⟨hR1, hR2⟩ := hR
  have hK := hok.2.2.2.2.2.1
  refine x_call (ad := ad) (cA := cA) (D := D) (RP := RP) (rest := S'.map (xv ad)) (va_runS (As := As.map (xv ad)) (Ts := xTb) ⟨hok.1, hok.2.1, hok.2.2.1, hok.2.2.2.1, hok.2.2.2.2.1.1⟩ (hM l D cA ad H.size hok.2.2.2.2.2.2.1)
    ⟨callB_of (ws := xU y cy n ret) (ws' := xTb) As.length hok.2.2.2.2.1.1 (x_goodC (hw.1 _ (by simp))) rfl rfl rfl (hok.2.2.2.2.1.1 _ (hw.1 _ (by simp))) (hok.2.2.2.2.1.1 _ (hw.1 _ (by simp))) hw.2 ⟨by rw [hR1]; exact hroom.1, by rw [hR2]; exact hroom.2⟩, hok.2.2.2.2.1.1 _ (hw.1 _ (by simp))⟩
    ⟨x_blind, fun U hU hW => ⟨rfl, by rw [hU], by rw [hU]; exact hP, va_K.moved hW.alike hK, fun w hw => va_Nw.warmM hW (hok.2.2.2.2.1.2 w hw)⟩⟩ rfl (by simp) hl.1 (by simp) (by
      show 2 * 0 + _ ≤ 8
      simp only [List.map_map]
      have : ((fun v => Value.category v) ∘ xv ad) = fun v => Value.category v := by funext v; exact xv_cat ad v
      rw [this]; omega) d ⟨hok.2.2.2.2.2.2.2.2.2.1, hok.2.2.2.2.2.2.2.2.2.2⟩) hS (x_hA hok.2.2.2.2.2.2.2.1 hok.2.2.2.2.2.2.2.2.1 hS) (fun r u H1 locs1 hr hP1 hS1 => ?_)
  rw [x_rest]
  exact kk r u hr hok H1 locs1 ls hP1 hS1 hl
set_option maxHeartbeats 4000000 in
theorem PW.callN {host : String} (hR : xRm Y fr lo) (hM : xMet y cy n ret fr2 lo2 As M RP) (hroom : fr2 + 1 ≤ fr ∧ 8 + (n + 11) + lo2 ≤ lo) (hw : xCN own idx y host cy n ret As.length) (d : decode cc pc = .ok (.invokestatic idx, 3)) {S' : List Value} (hst : S = As.reverse ++ S') (hcat : (S'.map fun v => v.category).sum ≤ 8)
    (kk : ∀ r u, RP r u → PW cc own nL Y (pc + 3) L (r.toList ++ S') u) : PW cc own nL Y pc L S M := by
  obtain ⟨p, l, e, R, s, m, args, below, meth, c, cells, slots, Q, D, cA, ad, A⟩ := Y
  intro hok H locs ls hP hS hl
  subst hst
  obtain ⟨hR1, hR2⟩ := hR
  have hK := hok.2.2.2.2.2.1
  refine x_call (ad := ad) (cA := cA) (D := D) (RP := RP) (rest := S'.map (xv ad)) (va_runSN (As := As.map (xv ad)) (Ts := xTb) ⟨hok.1, hok.2.1, hok.2.2.1, hok.2.2.2.1, hok.2.2.2.2.1.1⟩ (hM l D cA ad H.size hok.2.2.2.2.2.2.1)
    ⟨va_cnB (ws := xU y cy n ret) (ws' := xTb) (host := host) As.length hok.2.2.2.2.1.1 (x_goodC (hw.2.1 _ (by simp))) rfl rfl rfl (hok.2.2.2.2.1.2 _ hw.1) (hok.2.2.2.2.1.1 _ (hw.2.1 _ (by simp))) hw.2.2 ⟨by rw [hR1]; exact hroom.1, by rw [hR2]; exact hroom.2⟩, hok.2.2.2.2.1.1 _ (hw.2.1 _ (by simp)), trivial⟩
    ⟨x_blind, fun U hU hW => ⟨rfl, by rw [hU], by rw [hU]; exact hP, va_K.moved hW.alike hK, fun w hw => va_Nw.warmM hW (hok.2.2.2.2.1.2 w hw)⟩⟩ rfl (by simp) hl.1 (by simp) (by
      show 2 * 0 + _ ≤ 8
      simp only [List.map_map]
      have : ((fun v => Value.category v) ∘ xv ad) = fun v => Value.category v := by funext v; exact xv_cat ad v
      rw [this]; omega) d ⟨hok.2.2.2.2.2.2.2.2.2.1, hok.2.2.2.2.2.2.2.2.2.2⟩) hS (x_hA hok.2.2.2.2.2.2.2.1 hok.2.2.2.2.2.2.2.2.1 hS) (fun r u H1 locs1 hr hP1 hS1 => ?_)
  rw [x_rest]
  exact kk r u hr hok H1 locs1 ls hP1 hS1 hl
end XE
end
section
/-! more rows: arrays by number, Math.max, arraycopy, the script; truth values -/
def xB (P : Prop) [Decidable P] : Int32 := if P then nI 1 else nI 0
theorem xB_t {P : Prop} [Decidable P] (h : P) : xB P = nI 1 := if_pos h
theorem xB_f {P : Prop} [Decidable P] (h : ¬ P) : xB P = nI 0 := if_neg h
theorem xB_01 {P : Prop} [Decidable P] : xB P = 0 ∨ xB P = 1 := by
  by_cases h : P
  · exact Or.inr (xB_t h)
  · exact Or.inl (xB_f h)
theorem xB_ne {P : Prop} [Decidable P] {x : Int32} (hx : x = xB P) (c : ¬ x = 0) : P := by
  by_cases h : P
  · exact h
  · exact absurd (hx.trans (xB_f h)) c
theorem xB_eq {P : Prop} [Decidable P] {x : Int32} (hx : x = xB P) (c : x = 0) : ¬ P := by
  intro h
  rw [hx, xB_t h] at c
  exact absurd c (by decide)
theorem xB_iff {P Q : Prop} [Decidable P] [Decidable Q] (h : P ↔ Q) : xB P = xB Q := by
  by_cases hp : P
  · rw [xB_t hp, xB_t (h.mp hp)]
  · rw [xB_f hp, xB_f (fun q => hp (h.mpr q))]
theorem x_inc1 (f : Nat) : nI f + Int32.ofInt 1 = nI (f + 1) := nI_1 f
theorem x_dec1 (f : Nat) : nI (f + 1) + Int32.ofInt (-1) = nI f := by
  have h : (Int32.ofInt (-1)) = -1 := by decide
  rw [h]; exact pk_m1 f
section XF
variable {cc : ByteArray} {own : String} {nL : Nat} {Y : xY} {pc : Nat} {L : List (Nat × Value)} {S : List Value} {M : xM} {fr lo : Nat}
theorem PW.ialdN {b n j : Nat} {i : Int32} (hb : xSH[b]? = some (.inl (0, n))) (hi : i = nI j) (hj : j < n) (hn : n < 2 ^ 31) (d : decode cc pc = .ok (.iaload, 1)) (kk : PW cc own nL Y (pc + 1) L (.int (M.1 b j) :: S) M) : PW cc own nL Y pc L (.int i :: .ref b :: S) M := by
  subst hi
  exact PW.iald hb (vp_in_nI hj hn) d (by rw [nI_clamp (Nat.lt_trans hj hn)]; exact kk)
theorem PW.zaldN {b n j : Nat} {i : Int32} (hb : xSH[b]? = some (.inl (1, n))) (hi : i = nI j) (hj : j < n) (hn : n < 2 ^ 31) (d : decode cc pc = .ok (.baload, 1)) (kk : PW cc own nL Y (pc + 1) L (.int (M.1 b j) :: S) M) : PW cc own nL Y pc L (.int i :: .ref b :: S) M := by
  subst hi
  exact PW.zald hb (vp_in_nI hj hn) d (by rw [nI_clamp (Nat.lt_trans hj hn)]; exact kk)
theorem PW.iastN {b n j : Nat} {i x : Int32} (hb : xSH[b]? = some (.inl (0, n))) (hi : i = nI j) (hj : j < n) (hn : n < 2 ^ 31) (d : decode cc pc = .ok (.iastore, 1)) (kk : PW cc own nL Y (pc + 1) L S (xup M b j x)) : PW cc own nL Y pc L (.int x :: .int i :: .ref b :: S) M := by
  subst hi
  exact PW.iast hb (vp_in_nI hj hn) d (by rw [nI_clamp (Nat.lt_trans hj hn)]; exact kk)
theorem PW.zastN {b n j : Nat} {i x : Int32} (hb : xSH[b]? = some (.inl (1, n))) (hi : i = nI j) (hj : j < n) (hn : n < 2 ^ 31) (hx : x = 0 ∨ x = 1) (d : decode cc pc = .ok (.bastore, 1)) (kk : PW cc own nL Y (pc + 1) L S (xup M b j x)) : PW cc own nL Y pc L (.int x :: .int i :: .ref b :: S) M := by
  subst hi
  exact PW.zast hb (vp_in_nI hj hn) hx d (by rw [nI_clamp (Nat.lt_trans hj hn)]; exact kk)
theorem PW.mmax {idx : Nat} {x y : Int32} (hR : xRm Y fr lo) (hfr : 1 ≤ fr) (hlo : 21 ≤ lo) (hw : ∀ w ∈ ([.methodLink own idx Lib.Math.max.name, .static Lib.Math.max.name, .initialized "java/lang/Math", .code Lib.Math.max.name Lib.Math.max.code 2 (some .int)] : List Cond), w ∈ xTb) (d : decode cc pc = .ok (.invokestatic idx, 3)) (hcat : (S.map fun v => v.category).sum ≤ 8)
    (kk : PW cc own nL Y (pc + 3) L (.int (if x < y then y else x) :: S) M) : PW cc own nL Y pc L (.int y :: .int x :: S) M := by
  obtain ⟨p, l, e, R, s, m, args, below, meth, c, cells, slots, Q, D, cA, ad, A⟩ := Y
  intro hok H locs ls hP hS hl
  obtain ⟨hR1, hR2⟩ := hR
  have hts := hok.2.2.2.2.1.1
  refine va_mmax hok.1 hok.2.1 (by rw [hok.2.2.1, hl.1]) hok.2.2.2.1 (hts _ (hw _ (by simp))) (hts _ (hw _ (by simp))) (hts _ (hw _ (by simp))) (hts _ (hw _ (by simp))) (by rw [hR1]; exact hfr) ?_ hok.2.2.2.2.2.2.2.2.2.1 hok.2.2.2.2.2.2.2.2.2.2 d (kk hok H locs ls hP hS hl)
  rw [hR2]
  show ((S.map (xv ad)).map _).sum + 13 ≤ lo
  rw [List.map_map]
  have : ((fun v => Value.category v) ∘ xv ad) = fun v => Value.category v := by funext v; exact xv_cat ad v
  rw [this]; omega
theorem PW.copyi {idx b0 b1 n0 n1 k : Nat} {sp dp n : Int32} (hR : xRm Y fr lo) (hfr : 1 ≤ fr) (hlo : nativeFrameWords "java/lang/System" "arraycopy" 5 + 19 ≤ lo) (hw : ∀ w ∈ ([.methodLink own idx arraycopyName, .native arraycopyName, .static arraycopyName, .initialized "java/lang/System"] : List Cond), w ∈ xTb)
    (hb0 : xSH[b0]? = some (.inl (0, n0))) (hb1 : xSH[b1]? = some (.inl (0, n1))) (h1 : sp = nI 0) (h2 : dp = nI 0) (h3 : n = nI k) (h4 : k ≤ n0) (h5 : k ≤ n1) (h6 : k < 2 ^ 31) (d : decode cc pc = .ok (.invokestatic idx, 3)) (hcat : (S.map fun v => v.category).sum ≤ 8)
    (kk : PW cc own nL Y (pc + 3) L S (xupA M b1 (va_cpy (M.1 b0) (M.1 b1) 0 0 k))) : PW cc own nL Y pc L (.int n :: .int dp :: .ref b1 :: .int sp :: .ref b0 :: S) M := by
  obtain ⟨p, l, e, R, s, m, args, below, meth, c, cells, slots, Q, D, cA, ad, A⟩ := Y
  intro hok H locs ls hP hS hl
  obtain ⟨hR1, hR2⟩ := hR
  have hts := hok.2.2.2.2.1.1
  have hD := xD_of (cA := cA) (M := M) hok.2.2.2.2.2.2.1 hok.2.2.2.2.2.2.2.1
  subst h1; subst h2; subst h3
  have e0 : (nI 0).toNatClampNeg = 0 := rfl
  have ek : (nI k).toNatClampNeg = k := nI_clamp h6
  refine va_copyi (ty := .int) hok.1 hok.2.1 (by rw [hok.2.2.1, hl.1]) hok.2.2.2.1 (hts _ (hw _ (by simp))) (hts _ (hw _ (by simp))) (hts _ (hw _ (by simp))) (hts _ (hw _ (by simp))) hok.2.2.2.2.2.1 hP hD hS b0 b1 0 0 (xW_get hb0) (xW_get hb1) rfl rfl rfl (by decide) (by decide) (nI_pos h6) (by rw [e0, ek]; omega) (by rw [e0, ek]; omega) (fun _ _ => rfl) (by rw [hR1]; exact hfr) ?_ d (fun H1 locs1 hP1 hD1 hS1 => kk hok H1 locs1 ls (by rw [xW_setA hb1, e0, ek] at hP1; exact hP1) hS1 hl)
  rw [hR2]
  show ((S.map (xv ad)).map _).sum + _ ≤ lo
  rw [List.map_map]
  have : ((fun v => Value.category v) ∘ xv ad) = fun v => Value.category v := by funext v; exact xv_cat ad v
  rw [this]; omega
end XF
end
section
/-! sites: printed by wip/mk.py out of the names: fields, calls, contracts by name -/
section XS
variable {cc : ByteArray} {nL : Nat} {Y : xY} {pc : Nat} {L : List (Nat × Value)} {S : List Value} {M : xM} {fr lo : Nat}
def xRi (post : Int32 → xM → Prop) : Option Value → xM → Prop := fun r u => ∃ x : Int32, r = some (.int x) ∧ post x u
def xRl (post : Int64 → xM → Prop) : Option Value → xM → Prop := fun r u => ∃ x : Int64, r = some (.long x) ∧ post x u
def xRv (post : xM → Prop) : Option Value → xM → Prop := fun r u => r = none ∧ post u
theorem xinX0 : ∀ w ∈ u_ws RX0 TX0 7, w ∈ xTb := by decide +kernel
theorem xinX1 : ∀ w ∈ u_ws RX1 TX1 10, w ∈ xTb := by decide +kernel
theorem xinX2 : ∀ w ∈ u_ws RX2 TX2 3, w ∈ xTb := by decide +kernel
theorem xinX3 : ∀ w ∈ u_ws RX3 TX3 4, w ∈ xTb := by decide +kernel
theorem xinX4 : ∀ w ∈ u_ws RX4 TX4 2, w ∈ xTb := by decide +kernel
theorem xinX5 : ∀ w ∈ u_ws RX5 TX5 6, w ∈ xTb := by decide +kernel
theorem xinX6 : ∀ w ∈ u_ws RX6 TX6 8, w ∈ xTb := by decide +kernel
theorem xinX7 : ∀ w ∈ u_ws RX7 TX7 28, w ∈ xTb := by decide +kernel
theorem pf_X0_27 {x : Int32} (d : decode cc pc = .ok (.putfield 27, 3)) (kk : PW cc RX0 nL Y (pc + 3) L S (xup M 25 5 x)) : PW cc RX0 nL Y pc L (.int x :: .ref 25 :: S) M := PW.putI (b := 25) (ci := 0) (k := 5) (C := RX0) (T := TX0) (N := 7) rfl rfl rfl (by decide) xinX0 tyX0 tyX0_ok nmX0 (by decide +kernel) rfl (by decide +kernel) d kk
theorem pf_X0_31 {x : Int32} (d : decode cc pc = .ok (.putfield 31, 3)) (kk : PW cc RX0 nL Y (pc + 3) L S (xup M 25 6 x)) : PW cc RX0 nL Y pc L (.int x :: .ref 25 :: S) M := PW.putI (b := 25) (ci := 0) (k := 6) (C := RX0) (T := TX0) (N := 7) rfl rfl rfl (by decide) xinX0 tyX0 tyX0_ok nmX0 (by decide +kernel) rfl (by decide +kernel) d kk
theorem gf_X0_27 (d : decode cc pc = .ok (.getfield 27, 3)) (kk : PW cc RX0 nL Y (pc + 3) L (.int (M.1 25 5) :: S) M) : PW cc RX0 nL Y pc L (.ref 25 :: S) M := PW.getf (b := 25) (ci := 0) (k := 5) (C := RX0) (T := TX0) (N := 7) rfl rfl rfl (by decide) xinX0 (by decide +kernel) d kk
theorem gf_X0_9 (d : decode cc pc = .ok (.getfield 9, 3)) (kk : PW cc RX0 nL Y (pc + 3) L (.ref 26 :: S) M) : PW cc RX0 nL Y pc L (.ref 25 :: S) M := PW.getf (b := 25) (ci := 0) (k := 0) (C := RX0) (T := TX0) (N := 7) rfl rfl rfl (by decide) xinX0 (by decide +kernel) d kk
theorem gf_X0_15 (d : decode cc pc = .ok (.getfield 15, 3)) (kk : PW cc RX0 nL Y (pc + 3) L (.ref 27 :: S) M) : PW cc RX0 nL Y pc L (.ref 25 :: S) M := PW.getf (b := 25) (ci := 0) (k := 1) (C := RX0) (T := TX0) (N := 7) rfl rfl rfl (by decide) xinX0 (by decide +kernel) d kk
theorem gf_X0_31 (d : decode cc pc = .ok (.getfield 31, 3)) (kk : PW cc RX0 nL Y (pc + 3) L (.int (M.1 25 6) :: S) M) : PW cc RX0 nL Y pc L (.ref 25 :: S) M := PW.getf (b := 25) (ci := 0) (k := 6) (C := RX0) (T := TX0) (N := 7) rfl rfl rfl (by decide) xinX0 (by decide +kernel) d kk
theorem gf_X0_18 (d : decode cc pc = .ok (.getfield 18, 3)) (kk : PW cc RX0 nL Y (pc + 3) L (.ref 28 :: S) M) : PW cc RX0 nL Y pc L (.ref 25 :: S) M := PW.getf (b := 25) (ci := 0) (k := 2) (C := RX0) (T := TX0) (N := 7) rfl rfl rfl (by decide) xinX0 (by decide +kernel) d kk
theorem gf_X0_21 (d : decode cc pc = .ok (.getfield 21, 3)) (kk : PW cc RX0 nL Y (pc + 3) L (.ref 29 :: S) M) : PW cc RX0 nL Y pc L (.ref 25 :: S) M := PW.getf (b := 25) (ci := 0) (k := 3) (C := RX0) (T := TX0) (N := 7) rfl rfl rfl (by decide) xinX0 (by decide +kernel) d kk
theorem gf_X0_24 (d : decode cc pc = .ok (.getfield 24, 3)) (kk : PW cc RX0 nL Y (pc + 3) L (.ref 30 :: S) M) : PW cc RX0 nL Y pc L (.ref 25 :: S) M := PW.getf (b := 25) (ci := 0) (k := 4) (C := RX0) (T := TX0) (N := 7) rfl rfl rfl (by decide) xinX0 (by decide +kernel) d kk
theorem pf_X1_40 {x : Int32} (d : decode cc pc = .ok (.putfield 40, 3)) (kk : PW cc RX1 nL Y (pc + 3) L S (xup M 8 9 x)) : PW cc RX1 nL Y pc L (.int x :: .ref 8 :: S) M := PW.putI (b := 8) (ci := 1) (k := 9) (C := RX1) (T := TX1) (N := 10) rfl rfl rfl (by decide) xinX1 tyX1 tyX1_ok nmX1 (by decide +kernel) rfl (by decide +kernel) d kk
theorem gf_X1_40 (d : decode cc pc = .ok (.getfield 40, 3)) (kk : PW cc RX1 nL Y (pc + 3) L (.int (M.1 8 9) :: S) M) : PW cc RX1 nL Y pc L (.ref 8 :: S) M := PW.getf (b := 8) (ci := 1) (k := 9) (C := RX1) (T := TX1) (N := 10) rfl rfl rfl (by decide) xinX1 (by decide +kernel) d kk
theorem gf_X1_9 (d : decode cc pc = .ok (.getfield 9, 3)) (kk : PW cc RX1 nL Y (pc + 3) L (.ref 9 :: S) M) : PW cc RX1 nL Y pc L (.ref 8 :: S) M := PW.getf (b := 8) (ci := 1) (k := 0) (C := RX1) (T := TX1) (N := 10) rfl rfl rfl (by decide) xinX1 (by decide +kernel) d kk
theorem gf_X1_15 (d : decode cc pc = .ok (.getfield 15, 3)) (kk : PW cc RX1 nL Y (pc + 3) L (.ref 10 :: S) M) : PW cc RX1 nL Y pc L (.ref 8 :: S) M := PW.getf (b := 8) (ci := 1) (k := 1) (C := RX1) (T := TX1) (N := 10) rfl rfl rfl (by decide) xinX1 (by decide +kernel) d kk
theorem gf_X1_18 (d : decode cc pc = .ok (.getfield 18, 3)) (kk : PW cc RX1 nL Y (pc + 3) L (.ref 11 :: S) M) : PW cc RX1 nL Y pc L (.ref 8 :: S) M := PW.getf (b := 8) (ci := 1) (k := 2) (C := RX1) (T := TX1) (N := 10) rfl rfl rfl (by decide) xinX1 (by decide +kernel) d kk
theorem gf_X1_21 (d : decode cc pc = .ok (.getfield 21, 3)) (kk : PW cc RX1 nL Y (pc + 3) L (.ref 12 :: S) M) : PW cc RX1 nL Y pc L (.ref 8 :: S) M := PW.getf (b := 8) (ci := 1) (k := 3) (C := RX1) (T := TX1) (N := 10) rfl rfl rfl (by decide) xinX1 (by decide +kernel) d kk
theorem gf_X1_24 (d : decode cc pc = .ok (.getfield 24, 3)) (kk : PW cc RX1 nL Y (pc + 3) L (.ref 13 :: S) M) : PW cc RX1 nL Y pc L (.ref 8 :: S) M := PW.getf (b := 8) (ci := 1) (k := 4) (C := RX1) (T := TX1) (N := 10) rfl rfl rfl (by decide) xinX1 (by decide +kernel) d kk
theorem gf_X1_27 (d : decode cc pc = .ok (.getfield 27, 3)) (kk : PW cc RX1 nL Y (pc + 3) L (.ref 14 :: S) M) : PW cc RX1 nL Y pc L (.ref 8 :: S) M := PW.getf (b := 8) (ci := 1) (k := 5) (C := RX1) (T := TX1) (N := 10) rfl rfl rfl (by decide) xinX1 (by decide +kernel) d kk
theorem gf_X1_30 (d : decode cc pc = .ok (.getfield 30, 3)) (kk : PW cc RX1 nL Y (pc + 3) L (.ref 15 :: S) M) : PW cc RX1 nL Y pc L (.ref 8 :: S) M := PW.getf (b := 8) (ci := 1) (k := 6) (C := RX1) (T := TX1) (N := 10) rfl rfl rfl (by decide) xinX1 (by decide +kernel) d kk
theorem pf_X2_18 {x : Int32} (d : decode cc pc = .ok (.putfield 18, 3)) (kk : PW cc RX2 nL Y (pc + 3) L S (xup M 22 2 x)) : PW cc RX2 nL Y pc L (.int x :: .ref 22 :: S) M := PW.putI (b := 22) (ci := 2) (k := 2) (C := RX2) (T := TX2) (N := 3) rfl rfl rfl (by decide) xinX2 tyX2 tyX2_ok nmX2 (by decide +kernel) rfl (by decide +kernel) d kk
theorem gf_X2_18 (d : decode cc pc = .ok (.getfield 18, 3)) (kk : PW cc RX2 nL Y (pc + 3) L (.int (M.1 22 2) :: S) M) : PW cc RX2 nL Y pc L (.ref 22 :: S) M := PW.getf (b := 22) (ci := 2) (k := 2) (C := RX2) (T := TX2) (N := 3) rfl rfl rfl (by decide) xinX2 (by decide +kernel) d kk
theorem gf_X2_9 (d : decode cc pc = .ok (.getfield 9, 3)) (kk : PW cc RX2 nL Y (pc + 3) L (.ref 23 :: S) M) : PW cc RX2 nL Y pc L (.ref 22 :: S) M := PW.getf (b := 22) (ci := 2) (k := 0) (C := RX2) (T := TX2) (N := 3) rfl rfl rfl (by decide) xinX2 (by decide +kernel) d kk
theorem gf_X2_15 (d : decode cc pc = .ok (.getfield 15, 3)) (kk : PW cc RX2 nL Y (pc + 3) L (.ref 24 :: S) M) : PW cc RX2 nL Y pc L (.ref 22 :: S) M := PW.getf (b := 22) (ci := 2) (k := 1) (C := RX2) (T := TX2) (N := 3) rfl rfl rfl (by decide) xinX2 (by decide +kernel) d kk
theorem pf_X3_15 {x : Int32} (d : decode cc pc = .ok (.putfield 15, 3)) (kk : PW cc RX3 nL Y (pc + 3) L S (xup M 20 1 x)) : PW cc RX3 nL Y pc L (.int x :: .ref 20 :: S) M := PW.putI (b := 20) (ci := 3) (k := 1) (C := RX3) (T := TX3) (N := 4) rfl rfl rfl (by decide) xinX3 tyX3 tyX3_ok nmX3 (by decide +kernel) rfl (by decide +kernel) d kk
theorem pf_X3_19 {x : Int32} (d : decode cc pc = .ok (.putfield 19, 3)) (kk : PW cc RX3 nL Y (pc + 3) L S (xup M 20 2 x)) : PW cc RX3 nL Y pc L (.int x :: .ref 20 :: S) M := PW.putI (b := 20) (ci := 3) (k := 2) (C := RX3) (T := TX3) (N := 4) rfl rfl rfl (by decide) xinX3 tyX3 tyX3_ok nmX3 (by decide +kernel) rfl (by decide +kernel) d kk
theorem pf_X3_22 {x : Int64} (d : decode cc pc = .ok (.putfield 22, 3)) (kk : PW cc RX3 nL Y (pc + 3) L S (xupL M 20 3 x)) : PW cc RX3 nL Y pc L (.long x :: .ref 20 :: S) M := PW.putL (b := 20) (ci := 3) (k := 3) (C := RX3) (T := TX3) (N := 4) rfl rfl rfl (by decide) xinX3 tyX3 tyX3_ok nmX3 (by decide +kernel) rfl (by decide +kernel) d kk
theorem gf_X3_9 (d : decode cc pc = .ok (.getfield 9, 3)) (kk : PW cc RX3 nL Y (pc + 3) L (.ref 21 :: S) M) : PW cc RX3 nL Y pc L (.ref 20 :: S) M := PW.getf (b := 20) (ci := 3) (k := 0) (C := RX3) (T := TX3) (N := 4) rfl rfl rfl (by decide) xinX3 (by decide +kernel) d kk
theorem gf_X3_22 (d : decode cc pc = .ok (.getfield 22, 3)) (kk : PW cc RX3 nL Y (pc + 3) L (.long (M.2 20 3) :: S) M) : PW cc RX3 nL Y pc L (.ref 20 :: S) M := PW.getf (b := 20) (ci := 3) (k := 3) (C := RX3) (T := TX3) (N := 4) rfl rfl rfl (by decide) xinX3 (by decide +kernel) d kk
theorem gf_X3_19 (d : decode cc pc = .ok (.getfield 19, 3)) (kk : PW cc RX3 nL Y (pc + 3) L (.int (M.1 20 2) :: S) M) : PW cc RX3 nL Y pc L (.ref 20 :: S) M := PW.getf (b := 20) (ci := 3) (k := 2) (C := RX3) (T := TX3) (N := 4) rfl rfl rfl (by decide) xinX3 (by decide +kernel) d kk
theorem pf_X4_15 {x : Int32} (d : decode cc pc = .ok (.putfield 15, 3)) (kk : PW cc RX4 nL Y (pc + 3) L S (xup M 18 1 x)) : PW cc RX4 nL Y pc L (.int x :: .ref 18 :: S) M := PW.putI (b := 18) (ci := 4) (k := 1) (C := RX4) (T := TX4) (N := 2) rfl rfl rfl (by decide) xinX4 tyX4 tyX4_ok nmX4 (by decide +kernel) rfl (by decide +kernel) d kk
theorem gf_X4_9 (d : decode cc pc = .ok (.getfield 9, 3)) (kk : PW cc RX4 nL Y (pc + 3) L (.ref 19 :: S) M) : PW cc RX4 nL Y pc L (.ref 18 :: S) M := PW.getf (b := 18) (ci := 4) (k := 0) (C := RX4) (T := TX4) (N := 2) rfl rfl rfl (by decide) xinX4 (by decide +kernel) d kk
theorem gf_X4_15 (d : decode cc pc = .ok (.getfield 15, 3)) (kk : PW cc RX4 nL Y (pc + 3) L (.int (M.1 18 1) :: S) M) : PW cc RX4 nL Y pc L (.ref 18 :: S) M := PW.getf (b := 18) (ci := 4) (k := 1) (C := RX4) (T := TX4) (N := 2) rfl rfl rfl (by decide) xinX4 (by decide +kernel) d kk
theorem gf_X5_18 (d : decode cc pc = .ok (.getfield 18, 3)) (kk : PW cc RX5 nL Y (pc + 3) L (.ref 4 :: S) M) : PW cc RX5 nL Y pc L (.ref 1 :: S) M := PW.getf (b := 1) (ci := 5) (k := 2) (C := RX5) (T := TX5) (N := 6) rfl rfl rfl (by decide) xinX5 (by decide +kernel) d kk
theorem gf_X5_9 (d : decode cc pc = .ok (.getfield 9, 3)) (kk : PW cc RX5 nL Y (pc + 3) L (.ref 2 :: S) M) : PW cc RX5 nL Y pc L (.ref 1 :: S) M := PW.getf (b := 1) (ci := 5) (k := 0) (C := RX5) (T := TX5) (N := 6) rfl rfl rfl (by decide) xinX5 (by decide +kernel) d kk
theorem gf_X5_27 (d : decode cc pc = .ok (.getfield 27, 3)) (kk : PW cc RX5 nL Y (pc + 3) L (.ref 7 :: S) M) : PW cc RX5 nL Y pc L (.ref 1 :: S) M := PW.getf (b := 1) (ci := 5) (k := 5) (C := RX5) (T := TX5) (N := 6) rfl rfl rfl (by decide) xinX5 (by decide +kernel) d kk
theorem gf_X6_51 (d : decode cc pc = .ok (.getfield 51, 3)) (kk : PW cc RX6 nL Y (pc + 3) L (.ref 31 :: S) M) : PW cc RX6 nL Y pc L (.ref 0 :: S) M := PW.getf (b := 0) (ci := 6) (k := 6) (C := RX6) (T := TX6) (N := 8) rfl rfl rfl (by decide) xinX6 (by decide +kernel) d kk
theorem pf_X6_61 {x : Int32} (d : decode cc pc = .ok (.putfield 61, 3)) (kk : PW cc RX6 nL Y (pc + 3) L S (xup M 0 7 x)) : PW cc RX6 nL Y pc L (.int x :: .ref 0 :: S) M := PW.putI (b := 0) (ci := 6) (k := 7) (C := RX6) (T := TX6) (N := 8) rfl rfl rfl (by decide) xinX6 tyX6 tyX6_ok nmX6 (by decide +kernel) rfl (by decide +kernel) d kk
theorem gf_X6_12 (d : decode cc pc = .ok (.getfield 12, 3)) (kk : PW cc RX6 nL Y (pc + 3) L (.ref 1 :: S) M) : PW cc RX6 nL Y pc L (.ref 0 :: S) M := PW.getf (b := 0) (ci := 6) (k := 0) (C := RX6) (T := TX6) (N := 8) rfl rfl rfl (by decide) xinX6 (by decide +kernel) d kk
theorem gf_X6_73 (d : decode cc pc = .ok (.getfield 73, 3)) (kk : PW cc RX6 nL Y (pc + 3) L (.ref 2 :: S) M) : PW cc RX6 nL Y pc L (.ref 1 :: S) M := PW.getf (b := 1) (ci := 5) (k := 0) (C := RX5) (T := TX5) (N := 6) rfl rfl rfl (by decide) xinX5 (by decide +kernel) d kk
theorem gf_X6_76 (d : decode cc pc = .ok (.getfield 76, 3)) (kk : PW cc RX6 nL Y (pc + 3) L (.ref 3 :: S) M) : PW cc RX6 nL Y pc L (.ref 1 :: S) M := PW.getf (b := 1) (ci := 5) (k := 1) (C := RX5) (T := TX5) (N := 6) rfl rfl rfl (by decide) xinX5 (by decide +kernel) d kk
theorem gf_X6_79 (d : decode cc pc = .ok (.getfield 79, 3)) (kk : PW cc RX6 nL Y (pc + 3) L (.ref 4 :: S) M) : PW cc RX6 nL Y pc L (.ref 1 :: S) M := PW.getf (b := 1) (ci := 5) (k := 2) (C := RX5) (T := TX5) (N := 6) rfl rfl rfl (by decide) xinX5 (by decide +kernel) d kk
theorem gf_X6_82 (d : decode cc pc = .ok (.getfield 82, 3)) (kk : PW cc RX6 nL Y (pc + 3) L (.ref 5 :: S) M) : PW cc RX6 nL Y pc L (.ref 1 :: S) M := PW.getf (b := 1) (ci := 5) (k := 3) (C := RX5) (T := TX5) (N := 6) rfl rfl rfl (by decide) xinX5 (by decide +kernel) d kk
theorem gf_X6_85 (d : decode cc pc = .ok (.getfield 85, 3)) (kk : PW cc RX6 nL Y (pc + 3) L (.ref 6 :: S) M) : PW cc RX6 nL Y pc L (.ref 1 :: S) M := PW.getf (b := 1) (ci := 5) (k := 4) (C := RX5) (T := TX5) (N := 6) rfl rfl rfl (by decide) xinX5 (by decide +kernel) d kk
theorem gf_X6_19 (d : decode cc pc = .ok (.getfield 19, 3)) (kk : PW cc RX6 nL Y (pc + 3) L (.ref 8 :: S) M) : PW cc RX6 nL Y pc L (.ref 0 :: S) M := PW.getf (b := 0) (ci := 6) (k := 1) (C := RX6) (T := TX6) (N := 8) rfl rfl rfl (by decide) xinX6 (by decide +kernel) d kk
theorem gf_X6_96 (d : decode cc pc = .ok (.getfield 96, 3)) (kk : PW cc RX6 nL Y (pc + 3) L (.ref 12 :: S) M) : PW cc RX6 nL Y pc L (.ref 8 :: S) M := PW.getf (b := 8) (ci := 1) (k := 3) (C := RX1) (T := TX1) (N := 10) rfl rfl rfl (by decide) xinX1 (by decide +kernel) d kk
theorem gf_X6_99 (d : decode cc pc = .ok (.getfield 99, 3)) (kk : PW cc RX6 nL Y (pc + 3) L (.ref 16 :: S) M) : PW cc RX6 nL Y pc L (.ref 8 :: S) M := PW.getf (b := 8) (ci := 1) (k := 7) (C := RX1) (T := TX1) (N := 10) rfl rfl rfl (by decide) xinX1 (by decide +kernel) d kk
theorem gf_X6_26 (d : decode cc pc = .ok (.getfield 26, 3)) (kk : PW cc RX6 nL Y (pc + 3) L (.ref 18 :: S) M) : PW cc RX6 nL Y pc L (.ref 0 :: S) M := PW.getf (b := 0) (ci := 6) (k := 2) (C := RX6) (T := TX6) (N := 8) rfl rfl rfl (by decide) xinX6 (by decide +kernel) d kk
theorem gf_X6_33 (d : decode cc pc = .ok (.getfield 33, 3)) (kk : PW cc RX6 nL Y (pc + 3) L (.ref 20 :: S) M) : PW cc RX6 nL Y pc L (.ref 0 :: S) M := PW.getf (b := 0) (ci := 6) (k := 3) (C := RX6) (T := TX6) (N := 8) rfl rfl rfl (by decide) xinX6 (by decide +kernel) d kk
theorem gf_X6_121 (d : decode cc pc = .ok (.getfield 121, 3)) (kk : PW cc RX6 nL Y (pc + 3) L (.long (M.2 20 3) :: S) M) : PW cc RX6 nL Y pc L (.ref 20 :: S) M := PW.getf (b := 20) (ci := 3) (k := 3) (C := RX3) (T := TX3) (N := 4) rfl rfl rfl (by decide) xinX3 (by decide +kernel) d kk
theorem gf_X6_129 (d : decode cc pc = .ok (.getfield 129, 3)) (kk : PW cc RX6 nL Y (pc + 3) L (.ref 17 :: S) M) : PW cc RX6 nL Y pc L (.ref 8 :: S) M := PW.getf (b := 8) (ci := 1) (k := 8) (C := RX1) (T := TX1) (N := 10) rfl rfl rfl (by decide) xinX1 (by decide +kernel) d kk
theorem gf_X6_133 (d : decode cc pc = .ok (.getfield 133, 3)) (kk : PW cc RX6 nL Y (pc + 3) L (.ref 7 :: S) M) : PW cc RX6 nL Y pc L (.ref 1 :: S) M := PW.getf (b := 1) (ci := 5) (k := 5) (C := RX5) (T := TX5) (N := 6) rfl rfl rfl (by decide) xinX5 (by decide +kernel) d kk
theorem gf_X6_61 (d : decode cc pc = .ok (.getfield 61, 3)) (kk : PW cc RX6 nL Y (pc + 3) L (.int (M.1 0 7) :: S) M) : PW cc RX6 nL Y pc L (.ref 0 :: S) M := PW.getf (b := 0) (ci := 6) (k := 7) (C := RX6) (T := TX6) (N := 8) rfl rfl rfl (by decide) xinX6 (by decide +kernel) d kk
theorem gf_X6_138 (d : decode cc pc = .ok (.getfield 138, 3)) (kk : PW cc RX6 nL Y (pc + 3) L (.ref 21 :: S) M) : PW cc RX6 nL Y pc L (.ref 20 :: S) M := PW.getf (b := 20) (ci := 3) (k := 0) (C := RX3) (T := TX3) (N := 4) rfl rfl rfl (by decide) xinX3 (by decide +kernel) d kk
theorem gf_X6_158 (d : decode cc pc = .ok (.getfield 158, 3)) (kk : PW cc RX6 nL Y (pc + 3) L (.int (M.1 20 2) :: S) M) : PW cc RX6 nL Y pc L (.ref 20 :: S) M := PW.getf (b := 20) (ci := 3) (k := 2) (C := RX3) (T := TX3) (N := 4) rfl rfl rfl (by decide) xinX3 (by decide +kernel) d kk
theorem gf_X6_40 (d : decode cc pc = .ok (.getfield 40, 3)) (kk : PW cc RX6 nL Y (pc + 3) L (.ref 22 :: S) M) : PW cc RX6 nL Y pc L (.ref 0 :: S) M := PW.getf (b := 0) (ci := 6) (k := 4) (C := RX6) (T := TX6) (N := 8) rfl rfl rfl (by decide) xinX6 (by decide +kernel) d kk
theorem gf_X6_174 (d : decode cc pc = .ok (.getfield 174, 3)) (kk : PW cc RX6 nL Y (pc + 3) L (.int (M.1 22 2) :: S) M) : PW cc RX6 nL Y pc L (.ref 22 :: S) M := PW.getf (b := 22) (ci := 2) (k := 2) (C := RX2) (T := TX2) (N := 3) rfl rfl rfl (by decide) xinX2 (by decide +kernel) d kk
theorem pf_X6_174 {x : Int32} (d : decode cc pc = .ok (.putfield 174, 3)) (kk : PW cc RX6 nL Y (pc + 3) L S (xup M 22 2 x)) : PW cc RX6 nL Y pc L (.int x :: .ref 22 :: S) M := PW.putI (b := 22) (ci := 2) (k := 2) (C := RX2) (T := TX2) (N := 3) rfl rfl rfl (by decide) xinX2 tyX2 tyX2_ok nmX2 (by decide +kernel) rfl (by decide +kernel) d kk
theorem gf_X6_180 (d : decode cc pc = .ok (.getfield 180, 3)) (kk : PW cc RX6 nL Y (pc + 3) L (.ref 13 :: S) M) : PW cc RX6 nL Y pc L (.ref 8 :: S) M := PW.getf (b := 8) (ci := 1) (k := 4) (C := RX1) (T := TX1) (N := 10) rfl rfl rfl (by decide) xinX1 (by decide +kernel) d kk
theorem gf_X6_183 (d : decode cc pc = .ok (.getfield 183, 3)) (kk : PW cc RX6 nL Y (pc + 3) L (.ref 14 :: S) M) : PW cc RX6 nL Y pc L (.ref 8 :: S) M := PW.getf (b := 8) (ci := 1) (k := 5) (C := RX1) (T := TX1) (N := 10) rfl rfl rfl (by decide) xinX1 (by decide +kernel) d kk
theorem gf_X6_186 (d : decode cc pc = .ok (.getfield 186, 3)) (kk : PW cc RX6 nL Y (pc + 3) L (.ref 15 :: S) M) : PW cc RX6 nL Y pc L (.ref 8 :: S) M := PW.getf (b := 8) (ci := 1) (k := 6) (C := RX1) (T := TX1) (N := 10) rfl rfl rfl (by decide) xinX1 (by decide +kernel) d kk
theorem gf_X6_193 (d : decode cc pc = .ok (.getfield 193, 3)) (kk : PW cc RX6 nL Y (pc + 3) L (.int (M.1 8 9) :: S) M) : PW cc RX6 nL Y pc L (.ref 8 :: S) M := PW.getf (b := 8) (ci := 1) (k := 9) (C := RX1) (T := TX1) (N := 10) rfl rfl rfl (by decide) xinX1 (by decide +kernel) d kk
theorem gf_X6_194 (d : decode cc pc = .ok (.getfield 194, 3)) (kk : PW cc RX6 nL Y (pc + 3) L (.ref 9 :: S) M) : PW cc RX6 nL Y pc L (.ref 8 :: S) M := PW.getf (b := 8) (ci := 1) (k := 0) (C := RX1) (T := TX1) (N := 10) rfl rfl rfl (by decide) xinX1 (by decide +kernel) d kk
theorem gf_X6_197 (d : decode cc pc = .ok (.getfield 197, 3)) (kk : PW cc RX6 nL Y (pc + 3) L (.ref 10 :: S) M) : PW cc RX6 nL Y pc L (.ref 8 :: S) M := PW.getf (b := 8) (ci := 1) (k := 1) (C := RX1) (T := TX1) (N := 10) rfl rfl rfl (by decide) xinX1 (by decide +kernel) d kk
theorem gf_X6_47 (d : decode cc pc = .ok (.getfield 47, 3)) (kk : PW cc RX6 nL Y (pc + 3) L (.ref 25 :: S) M) : PW cc RX6 nL Y pc L (.ref 0 :: S) M := PW.getf (b := 0) (ci := 6) (k := 5) (C := RX6) (T := TX6) (N := 8) rfl rfl rfl (by decide) xinX6 (by decide +kernel) d kk
theorem gf_X6_204 (d : decode cc pc = .ok (.getfield 204, 3)) (kk : PW cc RX6 nL Y (pc + 3) L (.int (M.1 25 6) :: S) M) : PW cc RX6 nL Y pc L (.ref 25 :: S) M := PW.getf (b := 25) (ci := 0) (k := 6) (C := RX0) (T := TX0) (N := 7) rfl rfl rfl (by decide) xinX0 (by decide +kernel) d kk
theorem gf_X6_223 (d : decode cc pc = .ok (.getfield 223, 3)) (kk : PW cc RX6 nL Y (pc + 3) L (.ref 23 :: S) M) : PW cc RX6 nL Y pc L (.ref 22 :: S) M := PW.getf (b := 22) (ci := 2) (k := 0) (C := RX2) (T := TX2) (N := 3) rfl rfl rfl (by decide) xinX2 (by decide +kernel) d kk
theorem gf_X6_226 (d : decode cc pc = .ok (.getfield 226, 3)) (kk : PW cc RX6 nL Y (pc + 3) L (.ref 24 :: S) M) : PW cc RX6 nL Y pc L (.ref 22 :: S) M := PW.getf (b := 22) (ci := 2) (k := 1) (C := RX2) (T := TX2) (N := 3) rfl rfl rfl (by decide) xinX2 (by decide +kernel) d kk
theorem gf_X6_232 (d : decode cc pc = .ok (.getfield 232, 3)) (kk : PW cc RX6 nL Y (pc + 3) L (.int (M.1 20 1) :: S) M) : PW cc RX6 nL Y pc L (.ref 20 :: S) M := PW.getf (b := 20) (ci := 3) (k := 1) (C := RX3) (T := TX3) (N := 4) rfl rfl rfl (by decide) xinX3 (by decide +kernel) d kk
theorem pf_X6_232 {x : Int32} (d : decode cc pc = .ok (.putfield 232, 3)) (kk : PW cc RX6 nL Y (pc + 3) L S (xup M 20 1 x)) : PW cc RX6 nL Y pc L (.int x :: .ref 20 :: S) M := PW.putI (b := 20) (ci := 3) (k := 1) (C := RX3) (T := TX3) (N := 4) rfl rfl rfl (by decide) xinX3 tyX3 tyX3_ok nmX3 (by decide +kernel) rfl (by decide +kernel) d kk
theorem gf_X6_251 (d : decode cc pc = .ok (.getfield 251, 3)) (kk : PW cc RX6 nL Y (pc + 3) L (.int (M.1 18 1) :: S) M) : PW cc RX6 nL Y pc L (.ref 18 :: S) M := PW.getf (b := 18) (ci := 4) (k := 1) (C := RX4) (T := TX4) (N := 2) rfl rfl rfl (by decide) xinX4 (by decide +kernel) d kk
theorem gf_X7_87 (d : decode cc pc = .ok (.getfield 87, 3)) (kk : PW cc RX7 nL Y (pc + 3) L (.int (M.1 32 6) :: S) M) : PW cc RX7 nL Y pc L (.ref 32 :: S) M := PW.getf (b := 32) (ci := 7) (k := 6) (C := RX7) (T := TX7) (N := 28) rfl rfl rfl (by decide) xinX7 (by decide +kernel) d kk
theorem gf_X7_7 (d : decode cc pc = .ok (.getfield 7, 3)) (kk : PW cc RX7 nL Y (pc + 3) L (.ref 33 :: S) M) : PW cc RX7 nL Y pc L (.ref 32 :: S) M := PW.getf (b := 32) (ci := 7) (k := 0) (C := RX7) (T := TX7) (N := 28) rfl rfl rfl (by decide) xinX7 (by decide +kernel) d kk
theorem gf_X7_13 (d : decode cc pc = .ok (.getfield 13, 3)) (kk : PW cc RX7 nL Y (pc + 3) L (.ref 34 :: S) M) : PW cc RX7 nL Y pc L (.ref 32 :: S) M := PW.getf (b := 32) (ci := 7) (k := 1) (C := RX7) (T := TX7) (N := 28) rfl rfl rfl (by decide) xinX7 (by decide +kernel) d kk
theorem gf_X7_16 (d : decode cc pc = .ok (.getfield 16, 3)) (kk : PW cc RX7 nL Y (pc + 3) L (.ref 35 :: S) M) : PW cc RX7 nL Y pc L (.ref 32 :: S) M := PW.getf (b := 32) (ci := 7) (k := 2) (C := RX7) (T := TX7) (N := 28) rfl rfl rfl (by decide) xinX7 (by decide +kernel) d kk
theorem gf_X7_19 (d : decode cc pc = .ok (.getfield 19, 3)) (kk : PW cc RX7 nL Y (pc + 3) L (.ref 36 :: S) M) : PW cc RX7 nL Y pc L (.ref 32 :: S) M := PW.getf (b := 32) (ci := 7) (k := 3) (C := RX7) (T := TX7) (N := 28) rfl rfl rfl (by decide) xinX7 (by decide +kernel) d kk
theorem gf_X7_22 (d : decode cc pc = .ok (.getfield 22, 3)) (kk : PW cc RX7 nL Y (pc + 3) L (.ref 37 :: S) M) : PW cc RX7 nL Y pc L (.ref 32 :: S) M := PW.getf (b := 32) (ci := 7) (k := 4) (C := RX7) (T := TX7) (N := 28) rfl rfl rfl (by decide) xinX7 (by decide +kernel) d kk
theorem gf_X7_28 (d : decode cc pc = .ok (.getfield 28, 3)) (kk : PW cc RX7 nL Y (pc + 3) L (.ref 39 :: S) M) : PW cc RX7 nL Y pc L (.ref 32 :: S) M := PW.getf (b := 32) (ci := 7) (k := 7) (C := RX7) (T := TX7) (N := 28) rfl rfl rfl (by decide) xinX7 (by decide +kernel) d kk
theorem gf_X7_31 (d : decode cc pc = .ok (.getfield 31, 3)) (kk : PW cc RX7 nL Y (pc + 3) L (.ref 40 :: S) M) : PW cc RX7 nL Y pc L (.ref 32 :: S) M := PW.getf (b := 32) (ci := 7) (k := 8) (C := RX7) (T := TX7) (N := 28) rfl rfl rfl (by decide) xinX7 (by decide +kernel) d kk
theorem gf_X7_34 (d : decode cc pc = .ok (.getfield 34, 3)) (kk : PW cc RX7 nL Y (pc + 3) L (.ref 41 :: S) M) : PW cc RX7 nL Y pc L (.ref 32 :: S) M := PW.getf (b := 32) (ci := 7) (k := 9) (C := RX7) (T := TX7) (N := 28) rfl rfl rfl (by decide) xinX7 (by decide +kernel) d kk
theorem gf_X7_37 (d : decode cc pc = .ok (.getfield 37, 3)) (kk : PW cc RX7 nL Y (pc + 3) L (.ref 42 :: S) M) : PW cc RX7 nL Y pc L (.ref 32 :: S) M := PW.getf (b := 32) (ci := 7) (k := 10) (C := RX7) (T := TX7) (N := 28) rfl rfl rfl (by decide) xinX7 (by decide +kernel) d kk
theorem pf_X7_87 {x : Int32} (d : decode cc pc = .ok (.putfield 87, 3)) (kk : PW cc RX7 nL Y (pc + 3) L S (xup M 32 6 x)) : PW cc RX7 nL Y pc L (.int x :: .ref 32 :: S) M := PW.putI (b := 32) (ci := 7) (k := 6) (C := RX7) (T := TX7) (N := 28) rfl rfl rfl (by decide) xinX7 tyX7 tyX7_ok nmX7 (by decide +kernel) rfl (by decide +kernel) d kk
theorem gf_X7_40 (d : decode cc pc = .ok (.getfield 40, 3)) (kk : PW cc RX7 nL Y (pc + 3) L (.ref 43 :: S) M) : PW cc RX7 nL Y pc L (.ref 32 :: S) M := PW.getf (b := 32) (ci := 7) (k := 11) (C := RX7) (T := TX7) (N := 28) rfl rfl rfl (by decide) xinX7 (by decide +kernel) d kk
theorem gf_X7_56 (d : decode cc pc = .ok (.getfield 56, 3)) (kk : PW cc RX7 nL Y (pc + 3) L (.ref 48 :: S) M) : PW cc RX7 nL Y pc L (.ref 32 :: S) M := PW.getf (b := 32) (ci := 7) (k := 16) (C := RX7) (T := TX7) (N := 28) rfl rfl rfl (by decide) xinX7 (by decide +kernel) d kk
theorem gf_X7_68 (d : decode cc pc = .ok (.getfield 68, 3)) (kk : PW cc RX7 nL Y (pc + 3) L (.ref 52 :: S) M) : PW cc RX7 nL Y pc L (.ref 32 :: S) M := PW.getf (b := 32) (ci := 7) (k := 22) (C := RX7) (T := TX7) (N := 28) rfl rfl rfl (by decide) xinX7 (by decide +kernel) d kk
theorem gf_X7_25 (d : decode cc pc = .ok (.getfield 25, 3)) (kk : PW cc RX7 nL Y (pc + 3) L (.ref 38 :: S) M) : PW cc RX7 nL Y pc L (.ref 32 :: S) M := PW.getf (b := 32) (ci := 7) (k := 5) (C := RX7) (T := TX7) (N := 28) rfl rfl rfl (by decide) xinX7 (by decide +kernel) d kk
theorem gf_X7_43 (d : decode cc pc = .ok (.getfield 43, 3)) (kk : PW cc RX7 nL Y (pc + 3) L (.ref 44 :: S) M) : PW cc RX7 nL Y pc L (.ref 32 :: S) M := PW.getf (b := 32) (ci := 7) (k := 12) (C := RX7) (T := TX7) (N := 28) rfl rfl rfl (by decide) xinX7 (by decide +kernel) d kk
theorem gf_X7_120 (d : decode cc pc = .ok (.getfield 120, 3)) (kk : PW cc RX7 nL Y (pc + 3) L (.int (M.1 32 17) :: S) M) : PW cc RX7 nL Y pc L (.ref 32 :: S) M := PW.getf (b := 32) (ci := 7) (k := 17) (C := RX7) (T := TX7) (N := 28) rfl rfl rfl (by decide) xinX7 (by decide +kernel) d kk
theorem pf_X7_120 {x : Int32} (d : decode cc pc = .ok (.putfield 120, 3)) (kk : PW cc RX7 nL Y (pc + 3) L S (xup M 32 17 x)) : PW cc RX7 nL Y pc L (.int x :: .ref 32 :: S) M := PW.putI (b := 32) (ci := 7) (k := 17) (C := RX7) (T := TX7) (N := 28) rfl rfl rfl (by decide) xinX7 tyX7 tyX7_ok nmX7 (by decide +kernel) rfl (by decide +kernel) d kk
theorem gf_X7_47 (d : decode cc pc = .ok (.getfield 47, 3)) (kk : PW cc RX7 nL Y (pc + 3) L (.ref 45 :: S) M) : PW cc RX7 nL Y pc L (.ref 32 :: S) M := PW.getf (b := 32) (ci := 7) (k := 13) (C := RX7) (T := TX7) (N := 28) rfl rfl rfl (by decide) xinX7 (by decide +kernel) d kk
theorem gf_X7_50 (d : decode cc pc = .ok (.getfield 50, 3)) (kk : PW cc RX7 nL Y (pc + 3) L (.ref 46 :: S) M) : PW cc RX7 nL Y pc L (.ref 32 :: S) M := PW.getf (b := 32) (ci := 7) (k := 14) (C := RX7) (T := TX7) (N := 28) rfl rfl rfl (by decide) xinX7 (by decide +kernel) d kk
theorem gf_X7_53 (d : decode cc pc = .ok (.getfield 53, 3)) (kk : PW cc RX7 nL Y (pc + 3) L (.ref 47 :: S) M) : PW cc RX7 nL Y pc L (.ref 32 :: S) M := PW.getf (b := 32) (ci := 7) (k := 15) (C := RX7) (T := TX7) (N := 28) rfl rfl rfl (by decide) xinX7 (by decide +kernel) d kk
theorem gf_X7_141 (d : decode cc pc = .ok (.getfield 141, 3)) (kk : PW cc RX7 nL Y (pc + 3) L (.int (M.1 32 18) :: S) M) : PW cc RX7 nL Y pc L (.ref 32 :: S) M := PW.getf (b := 32) (ci := 7) (k := 18) (C := RX7) (T := TX7) (N := 28) rfl rfl rfl (by decide) xinX7 (by decide +kernel) d kk
theorem gf_X7_59 (d : decode cc pc = .ok (.getfield 59, 3)) (kk : PW cc RX7 nL Y (pc + 3) L (.ref 49 :: S) M) : PW cc RX7 nL Y pc L (.ref 32 :: S) M := PW.getf (b := 32) (ci := 7) (k := 19) (C := RX7) (T := TX7) (N := 28) rfl rfl rfl (by decide) xinX7 (by decide +kernel) d kk
theorem gf_X7_62 (d : decode cc pc = .ok (.getfield 62, 3)) (kk : PW cc RX7 nL Y (pc + 3) L (.ref 50 :: S) M) : PW cc RX7 nL Y pc L (.ref 32 :: S) M := PW.getf (b := 32) (ci := 7) (k := 20) (C := RX7) (T := TX7) (N := 28) rfl rfl rfl (by decide) xinX7 (by decide +kernel) d kk
theorem pf_X7_141 {x : Int32} (d : decode cc pc = .ok (.putfield 141, 3)) (kk : PW cc RX7 nL Y (pc + 3) L S (xup M 32 18 x)) : PW cc RX7 nL Y pc L (.int x :: .ref 32 :: S) M := PW.putI (b := 32) (ci := 7) (k := 18) (C := RX7) (T := TX7) (N := 28) rfl rfl rfl (by decide) xinX7 tyX7 tyX7_ok nmX7 (by decide +kernel) rfl (by decide +kernel) d kk
theorem gf_X7_65 (d : decode cc pc = .ok (.getfield 65, 3)) (kk : PW cc RX7 nL Y (pc + 3) L (.ref 51 :: S) M) : PW cc RX7 nL Y pc L (.ref 32 :: S) M := PW.getf (b := 32) (ci := 7) (k := 21) (C := RX7) (T := TX7) (N := 28) rfl rfl rfl (by decide) xinX7 (by decide +kernel) d kk
theorem gf_X7_80 (d : decode cc pc = .ok (.getfield 80, 3)) (kk : PW cc RX7 nL Y (pc + 3) L (.ref 56 :: S) M) : PW cc RX7 nL Y pc L (.ref 32 :: S) M := PW.getf (b := 32) (ci := 7) (k := 27) (C := RX7) (T := TX7) (N := 28) rfl rfl rfl (by decide) xinX7 (by decide +kernel) d kk
theorem gf_X7_151 (d : decode cc pc = .ok (.getfield 151, 3)) (kk : PW cc RX7 nL Y (pc + 3) L (.int (M.1 32 23) :: S) M) : PW cc RX7 nL Y pc L (.ref 32 :: S) M := PW.getf (b := 32) (ci := 7) (k := 23) (C := RX7) (T := TX7) (N := 28) rfl rfl rfl (by decide) xinX7 (by decide +kernel) d kk
theorem gf_X7_74 (d : decode cc pc = .ok (.getfield 74, 3)) (kk : PW cc RX7 nL Y (pc + 3) L (.ref 54 :: S) M) : PW cc RX7 nL Y pc L (.ref 32 :: S) M := PW.getf (b := 32) (ci := 7) (k := 25) (C := RX7) (T := TX7) (N := 28) rfl rfl rfl (by decide) xinX7 (by decide +kernel) d kk
theorem gf_X7_71 (d : decode cc pc = .ok (.getfield 71, 3)) (kk : PW cc RX7 nL Y (pc + 3) L (.ref 53 :: S) M) : PW cc RX7 nL Y pc L (.ref 32 :: S) M := PW.getf (b := 32) (ci := 7) (k := 24) (C := RX7) (T := TX7) (N := 28) rfl rfl rfl (by decide) xinX7 (by decide +kernel) d kk
theorem pf_X7_151 {x : Int32} (d : decode cc pc = .ok (.putfield 151, 3)) (kk : PW cc RX7 nL Y (pc + 3) L S (xup M 32 23 x)) : PW cc RX7 nL Y pc L (.int x :: .ref 32 :: S) M := PW.putI (b := 32) (ci := 7) (k := 23) (C := RX7) (T := TX7) (N := 28) rfl rfl rfl (by decide) xinX7 tyX7 tyX7_ok nmX7 (by decide +kernel) rfl (by decide +kernel) d kk
theorem gf_X7_77 (d : decode cc pc = .ok (.getfield 77, 3)) (kk : PW cc RX7 nL Y (pc + 3) L (.ref 55 :: S) M) : PW cc RX7 nL Y pc L (.ref 32 :: S) M := PW.getf (b := 32) (ci := 7) (k := 26) (C := RX7) (T := TX7) (N := 28) rfl rfl rfl (by decide) xinX7 (by decide +kernel) d kk
abbrev K_X0_clear (As : List Value) (M : xM) (RP : Option Value → xM → Prop) : Prop := xMet yX0_clear cX0_clear 1 none 0 0 As M RP
abbrev P_X0_clear (Y : xY) : Nat → List (Nat × Value) → List Value → xM → Prop := PW cX0_clear RX0 1 Y
abbrev K_X0_add (As : List Value) (M : xM) (RP : Option Value → xM → Prop) : Prop := xMet yX0_add cX0_add 3 none 0 0 As M RP
abbrev P_X0_add (Y : xY) : Nat → List (Nat × Value) → List Value → xM → Prop := PW cX0_add RX0 3 Y
abbrev K_X0_share (As : List Value) (M : xM) (RP : Option Value → xM → Prop) : Prop := xMet yX0_share cX0_share 5 none 2 44 As M RP
abbrev P_X0_share (Y : xY) : Nat → List (Nat × Value) → List Value → xM → Prop := PW cX0_share RX0 5 Y
abbrev K_X0_startWithOne (As : List Value) (M : xM) (RP : Option Value → xM → Prop) : Prop := xMet yX0_startWithOne cX0_startWithOne 2 none 1 23 As M RP
abbrev P_X0_startWithOne (Y : xY) : Nat → List (Nat × Value) → List Value → xM → Prop := PW cX0_startWithOne RX0 2 Y
abbrev K_X0_nextWay (As : List Value) (M : xM) (RP : Option Value → xM → Prop) : Prop := xMet yX0_nextWay cX0_nextWay 4 none 0 0 As M RP
abbrev P_X0_nextWay (Y : xY) : Nat → List (Nat × Value) → List Value → xM → Prop := PW cX0_nextWay RX0 4 Y
abbrev K_X0_greatestSum (As : List Value) (M : xM) (RP : Option Value → xM → Prop) : Prop := xMet yX0_greatestSum cX0_greatestSum 3 (some .int) 1 21 As M RP
abbrev P_X0_greatestSum (Y : xY) : Nat → List (Nat × Value) → List Value → xM → Prop := PW cX0_greatestSum RX0 3 Y
abbrev K_X0_crewOf (As : List Value) (M : xM) (RP : Option Value → xM → Prop) : Prop := xMet yX0_crewOf cX0_crewOf 3 (some .int) 0 0 As M RP
abbrev P_X0_crewOf (Y : xY) : Nat → List (Nat × Value) → List Value → xM → Prop := PW cX0_crewOf RX0 3 Y
abbrev K_X1_has (As : List Value) (M : xM) (RP : Option Value → xM → Prop) : Prop := xMet yX1_has cX1_has 2 (some .boolean) 0 0 As M RP
abbrev P_X1_has (Y : xY) : Nat → List (Nat × Value) → List Value → xM → Prop := PW cX1_has RX1 2 Y
abbrev K_X1_hasAll (As : List Value) (M : xM) (RP : Option Value → xM → Prop) : Prop := xMet yX1_hasAll cX1_hasAll 2 (some .boolean) 0 0 As M RP
abbrev P_X1_hasAll (Y : xY) : Nat → List (Nat × Value) → List Value → xM → Prop := PW cX1_hasAll RX1 2 Y
abbrev K_X1_ask (As : List Value) (M : xM) (RP : Option Value → xM → Prop) : Prop := xMet yX1_ask cX1_ask 4 (some .int) 0 0 As M RP
abbrev P_X1_ask (Y : xY) : Nat → List (Nat × Value) → List Value → xM → Prop := PW cX1_ask RX1 4 Y
abbrev K_X1_setOf (As : List Value) (M : xM) (RP : Option Value → xM → Prop) : Prop := xMet yX1_setOf cX1_setOf 4 (some .int) 0 0 As M RP
abbrev P_X1_setOf (Y : xY) : Nat → List (Nat × Value) → List Value → xM → Prop := PW cX1_setOf RX1 4 Y
abbrev K_X1_priceOf (As : List Value) (M : xM) (RP : Option Value → xM → Prop) : Prop := xMet yX1_priceOf cX1_priceOf 4 (some .int) 0 0 As M RP
abbrev P_X1_priceOf (Y : xY) : Nat → List (Nat × Value) → List Value → xM → Prop := PW cX1_priceOf RX1 4 Y
abbrev K_X1_worksOn (As : List Value) (M : xM) (RP : Option Value → xM → Prop) : Prop := xMet yX1_worksOn cX1_worksOn 3 (some .boolean) 0 0 As M RP
abbrev P_X1_worksOn (Y : xY) : Nat → List (Nat × Value) → List Value → xM → Prop := PW cX1_worksOn RX1 3 Y
abbrev K_X1_tell (As : List Value) (M : xM) (RP : Option Value → xM → Prop) : Prop := xMet yX1_tell cX1_tell 3 (some .int) 0 0 As M RP
abbrev P_X1_tell (Y : xY) : Nat → List (Nat × Value) → List Value → xM → Prop := PW cX1_tell RX1 3 Y
abbrev K_X2_write (As : List Value) (M : xM) (RP : Option Value → xM → Prop) : Prop := xMet yX2_write cX2_write 3 (some .int) 0 0 As M RP
abbrev P_X2_write (Y : xY) : Nat → List (Nat × Value) → List Value → xM → Prop := PW cX2_write RX2 3 Y
abbrev K_X2_doorsFor (As : List Value) (M : xM) (RP : Option Value → xM → Prop) : Prop := xMet yX2_doorsFor cX2_doorsFor 4 (some .int) 0 0 As M RP
abbrev P_X2_doorsFor (Y : xY) : Nat → List (Nat × Value) → List Value → xM → Prop := PW cX2_doorsFor RX2 4 Y
abbrev K_X3_clear (As : List Value) (M : xM) (RP : Option Value → xM → Prop) : Prop := xMet yX3_clear cX3_clear 1 none 1 23 As M RP
abbrev P_X3_clear (Y : xY) : Nat → List (Nat × Value) → List Value → xM → Prop := PW cX3_clear RX3 1 Y
abbrev K_X3_enter (As : List Value) (M : xM) (RP : Option Value → xM → Prop) : Prop := xMet yX3_enter cX3_enter 11 none 1 21 As M RP
abbrev P_X3_enter (Y : xY) : Nat → List (Nat × Value) → List Value → xM → Prop := PW cX3_enter RX3 11 Y
abbrev K_X4_on (As : List Value) (M : xM) (RP : Option Value → xM → Prop) : Prop := xMet yX4_on cX4_on 2 (some .boolean) 0 0 As M RP
abbrev P_X4_on (Y : xY) : Nat → List (Nat × Value) → List Value → xM → Prop := PW cX4_on RX4 2 Y
abbrev K_X4_tell (As : List Value) (M : xM) (RP : Option Value → xM → Prop) : Prop := xMet yX4_tell cX4_tell 3 none 0 0 As M RP
abbrev P_X4_tell (Y : xY) : Nat → List (Nat × Value) → List Value → xM → Prop := PW cX4_tell RX4 3 Y
abbrev K_X5_have (As : List Value) (M : xM) (RP : Option Value → xM → Prop) : Prop := xMet yX5_have cX5_have 2 (some .int) 1 21 As M RP
abbrev P_X5_have (Y : xY) : Nat → List (Nat × Value) → List Value → xM → Prop := PW cX5_have RX5 2 Y
abbrev K_X5_allGone (As : List Value) (M : xM) (RP : Option Value → xM → Prop) : Prop := xMet yX5_allGone cX5_allGone 3 (some .int) 0 0 As M RP
abbrev P_X5_allGone (Y : xY) : Nat → List (Nat × Value) → List Value → xM → Prop := PW cX5_allGone RX5 3 Y
abbrev K_X6_thing (As : List Value) (M : xM) (RP : Option Value → xM → Prop) : Prop := xMet yX6_thing cX6_thing 7 (some .int) 1 22 As M RP
abbrev P_X6_thing (Y : xY) : Nat → List (Nat × Value) → List Value → xM → Prop := PW cX6_thing RX6 7 Y
abbrev K_X6_field (As : List Value) (M : xM) (RP : Option Value → xM → Prop) : Prop := xMet yX6_field cX6_field 4 (some .int) 1 23 As M RP
abbrev P_X6_field (Y : xY) : Nat → List (Nat × Value) → List Value → xM → Prop := PW cX6_field RX6 4 Y
abbrev K_X6_need (As : List Value) (M : xM) (RP : Option Value → xM → Prop) : Prop := xMet yX6_need cX6_need 5 (some .int) 1 22 As M RP
abbrev P_X6_need (Y : xY) : Nat → List (Nat × Value) → List Value → xM → Prop := PW cX6_need RX6 5 Y
abbrev K_X6_rain (As : List Value) (M : xM) (RP : Option Value → xM → Prop) : Prop := xMet yX6_rain cX6_rain 3 (some .int) 1 22 As M RP
abbrev P_X6_rain (Y : xY) : Nat → List (Nat × Value) → List Value → xM → Prop := PW cX6_rain RX6 3 Y
abbrev K_X6_take (As : List Value) (M : xM) (RP : Option Value → xM → Prop) : Prop := xMet yX6_take cX6_take 2 (some .int) 6 142 As M RP
abbrev P_X6_take (Y : xY) : Nat → List (Nat × Value) → List Value → xM → Prop := PW cX6_take RX6 2 Y
abbrev K_X6_hire (As : List Value) (M : xM) (RP : Option Value → xM → Prop) : Prop := xMet yX6_hire cX6_hire 2 (some .int) 5 121 As M RP
abbrev P_X6_hire (Y : xY) : Nat → List (Nat × Value) → List Value → xM → Prop := PW cX6_hire RX6 2 Y
abbrev K_X6_giveUp (As : List Value) (M : xM) (RP : Option Value → xM → Prop) : Prop := xMet yX6_giveUp cX6_giveUp 2 (some .int) 1 21 As M RP
abbrev P_X6_giveUp (Y : xY) : Nat → List (Nat × Value) → List Value → xM → Prop := PW cX6_giveUp RX6 2 Y
abbrev K_X6_change (As : List Value) (M : xM) (RP : Option Value → xM → Prop) : Prop := xMet yX6_change cX6_change 4 (some .int) 6 142 As M RP
abbrev P_X6_change (Y : xY) : Nat → List (Nat × Value) → List Value → xM → Prop := PW cX6_change RX6 4 Y
abbrev K_X6_back (As : List Value) (M : xM) (RP : Option Value → xM → Prop) : Prop := xMet yX6_back cX6_back 2 (some .int) 1 21 As M RP
abbrev P_X6_back (Y : xY) : Nat → List (Nat × Value) → List Value → xM → Prop := PW cX6_back RX6 2 Y
abbrev K_X6_missing (As : List Value) (M : xM) (RP : Option Value → xM → Prop) : Prop := xMet yX6_missing cX6_missing 5 (some .int) 1 22 As M RP
abbrev P_X6_missing (Y : xY) : Nat → List (Nat × Value) → List Value → xM → Prop := PW cX6_missing RX6 5 Y
abbrev K_X6_mend (As : List Value) (M : xM) (RP : Option Value → xM → Prop) : Prop := xMet yX6_mend cX6_mend 3 (some .int) 1 22 As M RP
abbrev P_X6_mend (Y : xY) : Nat → List (Nat × Value) → List Value → xM → Prop := PW cX6_mend RX6 3 Y
abbrev K_X6_about (As : List Value) (M : xM) (RP : Option Value → xM → Prop) : Prop := xMet yX6_about cX6_about 3 (some .int) 1 22 As M RP
abbrev P_X6_about (Y : xY) : Nat → List (Nat × Value) → List Value → xM → Prop := PW cX6_about RX6 3 Y
abbrev K_X6_lack (As : List Value) (M : xM) (RP : Option Value → xM → Prop) : Prop := xMet yX6_lack cX6_lack 3 (some .int) 5 121 As M RP
abbrev P_X6_lack (Y : xY) : Nat → List (Nat × Value) → List Value → xM → Prop := PW cX6_lack RX6 3 Y
abbrev K_X6_fits (As : List Value) (M : xM) (RP : Option Value → xM → Prop) : Prop := xMet yX6_fits cX6_fits 2 (some .int) 6 142 As M RP
abbrev P_X6_fits (Y : xY) : Nat → List (Nat × Value) → List Value → xM → Prop := PW cX6_fits RX6 2 Y
abbrev K_X6_best (As : List Value) (M : xM) (RP : Option Value → xM → Prop) : Prop := xMet yX6_best cX6_best 7 (some .int) 6 142 As M RP
abbrev P_X6_best (Y : xY) : Nat → List (Nat × Value) → List Value → xM → Prop := PW cX6_best RX6 7 Y
abbrev K_X6_dearest (As : List Value) (M : xM) (RP : Option Value → xM → Prop) : Prop := xMet yX6_dearest cX6_dearest 12 (some .int) 5 121 As M RP
abbrev P_X6_dearest (Y : xY) : Nat → List (Nat × Value) → List Value → xM → Prop := PW cX6_dearest RX6 12 Y
abbrev K_X6_hired (As : List Value) (M : xM) (RP : Option Value → xM → Prop) : Prop := xMet yX6_hired cX6_hired 2 (some .long) 5 121 As M RP
abbrev P_X6_hired (Y : xY) : Nat → List (Nat × Value) → List Value → xM → Prop := PW cX6_hired RX6 2 Y
abbrev K_X6_fewest (As : List Value) (M : xM) (RP : Option Value → xM → Prop) : Prop := xMet yX6_fewest cX6_fewest 8 (some .int) 6 142 As M RP
abbrev P_X6_fewest (Y : xY) : Nat → List (Nat × Value) → List Value → xM → Prop := PW cX6_fewest RX6 8 Y
abbrev K_X6_bays (As : List Value) (M : xM) (RP : Option Value → xM → Prop) : Prop := xMet yX6_bays cX6_bays 3 (some .int) 1 22 As M RP
abbrev P_X6_bays (Y : xY) : Nat → List (Nat × Value) → List Value → xM → Prop := PW cX6_bays RX6 3 Y
abbrev K_X6_law (As : List Value) (M : xM) (RP : Option Value → xM → Prop) : Prop := xMet yX6_law cX6_law 3 (some .int) 1 22 As M RP
abbrev P_X6_law (Y : xY) : Nat → List (Nat × Value) → List Value → xM → Prop := PW cX6_law RX6 3 Y
abbrev K_X6_unlaw (As : List Value) (M : xM) (RP : Option Value → xM → Prop) : Prop := xMet yX6_unlaw cX6_unlaw 2 (some .int) 0 0 As M RP
abbrev P_X6_unlaw (Y : xY) : Nat → List (Nat × Value) → List Value → xM → Prop := PW cX6_unlaw RX6 2 Y
abbrev K_X6_doors (As : List Value) (M : xM) (RP : Option Value → xM → Prop) : Prop := xMet yX6_doors cX6_doors 2 (some .int) 1 23 As M RP
abbrev P_X6_doors (Y : xY) : Nat → List (Nat × Value) → List Value → xM → Prop := PW cX6_doors RX6 2 Y
abbrev K_X6_keeps (As : List Value) (M : xM) (RP : Option Value → xM → Prop) : Prop := xMet yX6_keeps cX6_keeps 3 (some .int) 1 23 As M RP
abbrev P_X6_keeps (Y : xY) : Nat → List (Nat × Value) → List Value → xM → Prop := PW cX6_keeps RX6 3 Y
abbrev K_X6_soil (As : List Value) (M : xM) (RP : Option Value → xM → Prop) : Prop := xMet yX6_soil cX6_soil 4 (some .int) 1 22 As M RP
abbrev P_X6_soil (Y : xY) : Nat → List (Nat × Value) → List Value → xM → Prop := PW cX6_soil RX6 4 Y
abbrev K_X6_pitch (As : List Value) (M : xM) (RP : Option Value → xM → Prop) : Prop := xMet yX6_pitch cX6_pitch 5 (some .int) 1 22 As M RP
abbrev P_X6_pitch (Y : xY) : Nat → List (Nat × Value) → List Value → xM → Prop := PW cX6_pitch RX6 5 Y
abbrev K_X6_bears (As : List Value) (M : xM) (RP : Option Value → xM → Prop) : Prop := xMet yX6_bears cX6_bears 3 (some .int) 1 22 As M RP
abbrev P_X6_bears (Y : xY) : Nat → List (Nat × Value) → List Value → xM → Prop := PW cX6_bears RX6 3 Y
abbrev K_X6_gust (As : List Value) (M : xM) (RP : Option Value → xM → Prop) : Prop := xMet yX6_gust cX6_gust 6 (some .int) 1 22 As M RP
abbrev P_X6_gust (Y : xY) : Nat → List (Nat × Value) → List Value → xM → Prop := PW cX6_gust RX6 6 Y
abbrev K_X6_hours (As : List Value) (M : xM) (RP : Option Value → xM → Prop) : Prop := xMet yX6_hours cX6_hours 3 (some .int) 4 91 As M RP
abbrev P_X6_hours (Y : xY) : Nat → List (Nat × Value) → List Value → xM → Prop := PW cX6_hours RX6 3 Y
abbrev K_X6_crew (As : List Value) (M : xM) (RP : Option Value → xM → Prop) : Prop := xMet yX6_crew cX6_crew 4 (some .int) 4 91 As M RP
abbrev P_X6_crew (Y : xY) : Nat → List (Nat × Value) → List Value → xM → Prop := PW cX6_crew RX6 4 Y
abbrev K_X6_loads (As : List Value) (M : xM) (RP : Option Value → xM → Prop) : Prop := xMet yX6_loads cX6_loads 5 (some .int) 2 44 As M RP
abbrev P_X6_loads (Y : xY) : Nat → List (Nat × Value) → List Value → xM → Prop := PW cX6_loads RX6 5 Y
abbrev K_X6_count (As : List Value) (M : xM) (RP : Option Value → xM → Prop) : Prop := xMet yX6_count cX6_count 2 (some .int) 2 44 As M RP
abbrev P_X6_count (Y : xY) : Nat → List (Nat × Value) → List Value → xM → Prop := PW cX6_count RX6 2 Y
abbrev K_X6_digest (As : List Value) (M : xM) (RP : Option Value → xM → Prop) : Prop := xMet yX6_digest cX6_digest 5 (some .long) 2 44 As M RP
abbrev P_X6_digest (Y : xY) : Nat → List (Nat × Value) → List Value → xM → Prop := PW cX6_digest RX6 5 Y
abbrev K_X6_outside (As : List Value) (M : xM) (RP : Option Value → xM → Prop) : Prop := xMet yX6_outside cX6_outside 3 (some .boolean) 0 0 As M RP
abbrev P_X6_outside (Y : xY) : Nat → List (Nat × Value) → List Value → xM → Prop := PW cX6_outside RX6 3 Y
abbrev K_X6_isThing (As : List Value) (M : xM) (RP : Option Value → xM → Prop) : Prop := xMet yX6_isThing cX6_isThing 1 (some .boolean) 0 0 As M RP
abbrev P_X6_isThing (Y : xY) : Nat → List (Nat × Value) → List Value → xM → Prop := PW cX6_isThing RX6 1 Y
abbrev K_X6_bit (As : List Value) (M : xM) (RP : Option Value → xM → Prop) : Prop := xMet yX6_bit cX6_bit 1 (some .int) 0 0 As M RP
abbrev P_X6_bit (Y : xY) : Nat → List (Nat × Value) → List Value → xM → Prop := PW cX6_bit RX6 1 Y
abbrev K_X6_cell (As : List Value) (M : xM) (RP : Option Value → xM → Prop) : Prop := xMet yX6_cell cX6_cell 2 (some .int) 0 0 As M RP
abbrev P_X6_cell (Y : xY) : Nat → List (Nat × Value) → List Value → xM → Prop := PW cX6_cell RX6 2 Y
abbrev K_X6_cutUp (As : List Value) (M : xM) (RP : Option Value → xM → Prop) : Prop := xMet yX6_cutUp cX6_cutUp 2 (some .int) 0 0 As M RP
abbrev P_X6_cutUp (Y : xY) : Nat → List (Nat × Value) → List Value → xM → Prop := PW cX6_cutUp RX6 2 Y
abbrev K_X6_goTogether (As : List Value) (M : xM) (RP : Option Value → xM → Prop) : Prop := xMet yX6_goTogether cX6_goTogether 2 (some .boolean) 5 121 As M RP
abbrev P_X6_goTogether (Y : xY) : Nat → List (Nat × Value) → List Value → xM → Prop := PW cX6_goTogether RX6 2 Y
abbrev K_X6_countAnew (As : List Value) (M : xM) (RP : Option Value → xM → Prop) : Prop := xMet yX6_countAnew cX6_countAnew 2 none 4 100 As M RP
abbrev P_X6_countAnew (Y : xY) : Nat → List (Nat × Value) → List Value → xM → Prop := PW cX6_countAnew RX6 2 Y
abbrev K_X6_countOn (As : List Value) (M : xM) (RP : Option Value → xM → Prop) : Prop := xMet yX6_countOn cX6_countOn 4 none 3 77 As M RP
abbrev P_X6_countOn (Y : xY) : Nat → List (Nat × Value) → List Value → xM → Prop := PW cX6_countOn RX6 4 Y
abbrev K_X6_enter (As : List Value) (M : xM) (RP : Option Value → xM → Prop) : Prop := xMet yX6_enter cX6_enter 7 none 2 51 As M RP
abbrev P_X6_enter (Y : xY) : Nat → List (Nat × Value) → List Value → xM → Prop := PW cX6_enter RX6 7 Y
abbrev K_X6_stands (As : List Value) (M : xM) (RP : Option Value → xM → Prop) : Prop := xMet yX6_stands cX6_stands 3 (some .boolean) 0 0 As M RP
abbrev P_X6_stands (Y : xY) : Nat → List (Nat × Value) → List Value → xM → Prop := PW cX6_stands RX6 3 Y
abbrev K_X6_sendCrews (As : List Value) (M : xM) (RP : Option Value → xM → Prop) : Prop := xMet yX6_sendCrews cX6_sendCrews 4 none 3 68 As M RP
abbrev P_X6_sendCrews (Y : xY) : Nat → List (Nat × Value) → List Value → xM → Prop := PW cX6_sendCrews RX6 4 Y
abbrev K_X6_weightOf (As : List Value) (M : xM) (RP : Option Value → xM → Prop) : Prop := xMet yX6_weightOf cX6_weightOf 4 (some .int) 1 21 As M RP
abbrev P_X6_weightOf (Y : xY) : Nat → List (Nat × Value) → List Value → xM → Prop := PW cX6_weightOf RX6 4 Y
abbrev K_X6_total (As : List Value) (M : xM) (RP : Option Value → xM → Prop) : Prop := xMet yX6_total cX6_total 2 (some .int) 1 23 As M RP
abbrev P_X6_total (Y : xY) : Nat → List (Nat × Value) → List Value → xM → Prop := PW cX6_total RX6 2 Y
abbrev K_X7_in (As : List Value) (M : xM) (RP : Option Value → xM → Prop) : Prop := xMet yX7_in cX7_in 3 (some .boolean) 0 0 As M RP
abbrev P_X7_in (Y : xY) : Nat → List (Nat × Value) → List Value → xM → Prop := PW cX7_in RX7 3 Y
abbrev K_X7_isThing (As : List Value) (M : xM) (RP : Option Value → xM → Prop) : Prop := xMet yX7_isThing cX7_isThing 1 (some .boolean) 1 22 As M RP
abbrev P_X7_isThing (Y : xY) : Nat → List (Nat × Value) → List Value → xM → Prop := PW cX7_isThing RX7 1 Y
abbrev K_X7_isField (As : List Value) (M : xM) (RP : Option Value → xM → Prop) : Prop := xMet yX7_isField cX7_isField 2 (some .boolean) 1 22 As M RP
abbrev P_X7_isField (Y : xY) : Nat → List (Nat × Value) → List Value → xM → Prop := PW cX7_isField RX7 2 Y
abbrev K_X7_isDay (As : List Value) (M : xM) (RP : Option Value → xM → Prop) : Prop := xMet yX7_isDay cX7_isDay 1 (some .boolean) 1 22 As M RP
abbrev P_X7_isDay (Y : xY) : Nat → List (Nat × Value) → List Value → xM → Prop := PW cX7_isDay RX7 1 Y
abbrev K_X7_thing (As : List Value) (M : xM) (RP : Option Value → xM → Prop) : Prop := xMet yX7_thing cX7_thing 7 (some .int) 2 42 As M RP
abbrev P_X7_thing (Y : xY) : Nat → List (Nat × Value) → List Value → xM → Prop := PW cX7_thing RX7 7 Y
abbrev K_X7_field (As : List Value) (M : xM) (RP : Option Value → xM → Prop) : Prop := xMet yX7_field cX7_field 4 (some .int) 2 42 As M RP
abbrev P_X7_field (Y : xY) : Nat → List (Nat × Value) → List Value → xM → Prop := PW cX7_field RX7 4 Y
abbrev K_X7_need (As : List Value) (M : xM) (RP : Option Value → xM → Prop) : Prop := xMet yX7_need cX7_need 5 (some .int) 2 43 As M RP
abbrev P_X7_need (Y : xY) : Nat → List (Nat × Value) → List Value → xM → Prop := PW cX7_need RX7 5 Y
abbrev K_X7_rain (As : List Value) (M : xM) (RP : Option Value → xM → Prop) : Prop := xMet yX7_rain cX7_rain 3 (some .int) 2 42 As M RP
abbrev P_X7_rain (Y : xY) : Nat → List (Nat × Value) → List Value → xM → Prop := PW cX7_rain RX7 3 Y
abbrev K_X7_findUses (As : List Value) (M : xM) (RP : Option Value → xM → Prop) : Prop := xMet yX7_findUses cX7_findUses 5 none 1 22 As M RP
abbrev P_X7_findUses (Y : xY) : Nat → List (Nat × Value) → List Value → xM → Prop := PW cX7_findUses RX7 5 Y
abbrev K_X7_lackOf (As : List Value) (M : xM) (RP : Option Value → xM → Prop) : Prop := xMet yX7_lackOf cX7_lackOf 6 (some .int) 0 0 As M RP
abbrev P_X7_lackOf (Y : xY) : Nat → List (Nat × Value) → List Value → xM → Prop := PW cX7_lackOf RX7 6 Y
abbrev K_X7_isFit (As : List Value) (M : xM) (RP : Option Value → xM → Prop) : Prop := xMet yX7_isFit cX7_isFit 4 (some .boolean) 1 25 As M RP
abbrev P_X7_isFit (Y : xY) : Nat → List (Nat × Value) → List Value → xM → Prop := PW cX7_isFit RX7 4 Y
abbrev K_X7_hiredFor (As : List Value) (M : xM) (RP : Option Value → xM → Prop) : Prop := xMet yX7_hiredFor cX7_hiredFor 6 (some .long) 1 25 As M RP
abbrev P_X7_hiredFor (Y : xY) : Nat → List (Nat × Value) → List Value → xM → Prop := PW cX7_hiredFor RX7 6 Y
abbrev K_X7_all (As : List Value) (M : xM) (RP : Option Value → xM → Prop) : Prop := xMet yX7_all cX7_all 4 (some .int) 0 0 As M RP
abbrev P_X7_all (Y : xY) : Nat → List (Nat × Value) → List Value → xM → Prop := PW cX7_all RX7 4 Y
abbrev K_X7_isSet (As : List Value) (M : xM) (RP : Option Value → xM → Prop) : Prop := xMet yX7_isSet cX7_isSet 2 (some .boolean) 1 22 As M RP
abbrev P_X7_isSet (Y : xY) : Nat → List (Nat × Value) → List Value → xM → Prop := PW cX7_isSet RX7 2 Y
abbrev K_X7_prices (As : List Value) (M : xM) (RP : Option Value → xM → Prop) : Prop := xMet yX7_prices cX7_prices 4 (some .int) 0 0 As M RP
abbrev P_X7_prices (Y : xY) : Nat → List (Nat × Value) → List Value → xM → Prop := PW cX7_prices RX7 4 Y
abbrev K_X7_many (As : List Value) (M : xM) (RP : Option Value → xM → Prop) : Prop := xMet yX7_many cX7_many 3 (some .int) 0 0 As M RP
abbrev P_X7_many (Y : xY) : Nat → List (Nat × Value) → List Value → xM → Prop := PW cX7_many RX7 3 Y
abbrev K_X7_take (As : List Value) (M : xM) (RP : Option Value → xM → Prop) : Prop := xMet yX7_take cX7_take 2 (some .int) 2 48 As M RP
abbrev P_X7_take (Y : xY) : Nat → List (Nat × Value) → List Value → xM → Prop := PW cX7_take RX7 2 Y
abbrev K_X7_hire (As : List Value) (M : xM) (RP : Option Value → xM → Prop) : Prop := xMet yX7_hire cX7_hire 2 (some .int) 2 50 As M RP
abbrev P_X7_hire (Y : xY) : Nat → List (Nat × Value) → List Value → xM → Prop := PW cX7_hire RX7 2 Y
abbrev K_X7_giveUp (As : List Value) (M : xM) (RP : Option Value → xM → Prop) : Prop := xMet yX7_giveUp cX7_giveUp 2 (some .int) 2 43 As M RP
abbrev P_X7_giveUp (Y : xY) : Nat → List (Nat × Value) → List Value → xM → Prop := PW cX7_giveUp RX7 2 Y
abbrev K_X7_change (As : List Value) (M : xM) (RP : Option Value → xM → Prop) : Prop := xMet yX7_change cX7_change 4 (some .int) 2 48 As M RP
abbrev P_X7_change (Y : xY) : Nat → List (Nat × Value) → List Value → xM → Prop := PW cX7_change RX7 4 Y
abbrev K_X7_back (As : List Value) (M : xM) (RP : Option Value → xM → Prop) : Prop := xMet yX7_back cX7_back 2 (some .int) 2 43 As M RP
abbrev P_X7_back (Y : xY) : Nat → List (Nat × Value) → List Value → xM → Prop := PW cX7_back RX7 2 Y
abbrev K_X7_missing (As : List Value) (M : xM) (RP : Option Value → xM → Prop) : Prop := xMet yX7_missing cX7_missing 4 (some .int) 2 43 As M RP
abbrev P_X7_missing (Y : xY) : Nat → List (Nat × Value) → List Value → xM → Prop := PW cX7_missing RX7 4 Y
abbrev K_X7_mend (As : List Value) (M : xM) (RP : Option Value → xM → Prop) : Prop := xMet yX7_mend cX7_mend 3 (some .int) 2 42 As M RP
abbrev P_X7_mend (Y : xY) : Nat → List (Nat × Value) → List Value → xM → Prop := PW cX7_mend RX7 3 Y
abbrev K_X7_aboutOf (As : List Value) (M : xM) (RP : Option Value → xM → Prop) : Prop := xMet yX7_aboutOf cX7_aboutOf 3 (some .int) 0 0 As M RP
abbrev P_X7_aboutOf (Y : xY) : Nat → List (Nat × Value) → List Value → xM → Prop := PW cX7_aboutOf RX7 3 Y
abbrev K_X7_about (As : List Value) (M : xM) (RP : Option Value → xM → Prop) : Prop := xMet yX7_about cX7_about 3 (some .int) 2 43 As M RP
abbrev P_X7_about (Y : xY) : Nat → List (Nat × Value) → List Value → xM → Prop := PW cX7_about RX7 3 Y
abbrev K_X7_lack (As : List Value) (M : xM) (RP : Option Value → xM → Prop) : Prop := xMet yX7_lack cX7_lack 3 (some .int) 2 46 As M RP
abbrev P_X7_lack (Y : xY) : Nat → List (Nat × Value) → List Value → xM → Prop := PW cX7_lack RX7 3 Y
abbrev K_X7_fits (As : List Value) (M : xM) (RP : Option Value → xM → Prop) : Prop := xMet yX7_fits cX7_fits 2 (some .int) 2 48 As M RP
abbrev P_X7_fits (Y : xY) : Nat → List (Nat × Value) → List Value → xM → Prop := PW cX7_fits RX7 2 Y
abbrev K_X7_best (As : List Value) (M : xM) (RP : Option Value → xM → Prop) : Prop := xMet yX7_best cX7_best 5 (some .int) 2 48 As M RP
abbrev P_X7_best (Y : xY) : Nat → List (Nat × Value) → List Value → xM → Prop := PW cX7_best RX7 5 Y
abbrev K_X7_dearest (As : List Value) (M : xM) (RP : Option Value → xM → Prop) : Prop := xMet yX7_dearest cX7_dearest 11 (some .int) 2 50 As M RP
abbrev P_X7_dearest (Y : xY) : Nat → List (Nat × Value) → List Value → xM → Prop := PW cX7_dearest RX7 11 Y
abbrev K_X7_hired (As : List Value) (M : xM) (RP : Option Value → xM → Prop) : Prop := xMet yX7_hired cX7_hired 2 (some .long) 2 50 As M RP
abbrev P_X7_hired (Y : xY) : Nat → List (Nat × Value) → List Value → xM → Prop := PW cX7_hired RX7 2 Y
abbrev K_X7_fewest (As : List Value) (M : xM) (RP : Option Value → xM → Prop) : Prop := xMet yX7_fewest cX7_fewest 5 (some .int) 2 48 As M RP
abbrev P_X7_fewest (Y : xY) : Nat → List (Nat × Value) → List Value → xM → Prop := PW cX7_fewest RX7 5 Y
abbrev K_X7_isGuests (As : List Value) (M : xM) (RP : Option Value → xM → Prop) : Prop := xMet yX7_isGuests cX7_isGuests 1 (some .boolean) 1 22 As M RP
abbrev P_X7_isGuests (Y : xY) : Nat → List (Nat × Value) → List Value → xM → Prop := PW cX7_isGuests RX7 1 Y
abbrev K_X7_bays (As : List Value) (M : xM) (RP : Option Value → xM → Prop) : Prop := xMet yX7_bays cX7_bays 3 (some .int) 2 42 As M RP
abbrev P_X7_bays (Y : xY) : Nat → List (Nat × Value) → List Value → xM → Prop := PW cX7_bays RX7 3 Y
abbrev K_X7_law (As : List Value) (M : xM) (RP : Option Value → xM → Prop) : Prop := xMet yX7_law cX7_law 3 (some .int) 2 42 As M RP
abbrev P_X7_law (Y : xY) : Nat → List (Nat × Value) → List Value → xM → Prop := PW cX7_law RX7 3 Y
abbrev K_X7_unlaw (As : List Value) (M : xM) (RP : Option Value → xM → Prop) : Prop := xMet yX7_unlaw cX7_unlaw 2 (some .int) 0 0 As M RP
abbrev P_X7_unlaw (Y : xY) : Nat → List (Nat × Value) → List Value → xM → Prop := PW cX7_unlaw RX7 2 Y
abbrev K_X7_doorsFor (As : List Value) (M : xM) (RP : Option Value → xM → Prop) : Prop := xMet yX7_doorsFor cX7_doorsFor 4 (some .int) 0 0 As M RP
abbrev P_X7_doorsFor (Y : xY) : Nat → List (Nat × Value) → List Value → xM → Prop := PW cX7_doorsFor RX7 4 Y
abbrev K_X7_doors (As : List Value) (M : xM) (RP : Option Value → xM → Prop) : Prop := xMet yX7_doors cX7_doors 2 (some .int) 2 42 As M RP
abbrev P_X7_doors (Y : xY) : Nat → List (Nat × Value) → List Value → xM → Prop := PW cX7_doors RX7 2 Y
abbrev K_X7_keeps (As : List Value) (M : xM) (RP : Option Value → xM → Prop) : Prop := xMet yX7_keeps cX7_keeps 3 (some .int) 2 42 As M RP
abbrev P_X7_keeps (Y : xY) : Nat → List (Nat × Value) → List Value → xM → Prop := PW cX7_keeps RX7 3 Y
abbrev K_X7_soil (As : List Value) (M : xM) (RP : Option Value → xM → Prop) : Prop := xMet yX7_soil cX7_soil 4 (some .int) 1 22 As M RP
abbrev P_X7_soil (Y : xY) : Nat → List (Nat × Value) → List Value → xM → Prop := PW cX7_soil RX7 4 Y
abbrev K_X7_pitch (As : List Value) (M : xM) (RP : Option Value → xM → Prop) : Prop := xMet yX7_pitch cX7_pitch 5 (some .int) 2 43 As M RP
abbrev P_X7_pitch (Y : xY) : Nat → List (Nat × Value) → List Value → xM → Prop := PW cX7_pitch RX7 5 Y
abbrev K_X7_doesBear (As : List Value) (M : xM) (RP : Option Value → xM → Prop) : Prop := xMet yX7_doesBear cX7_doesBear 3 (some .boolean) 0 0 As M RP
abbrev P_X7_doesBear (Y : xY) : Nat → List (Nat × Value) → List Value → xM → Prop := PW cX7_doesBear RX7 3 Y
abbrev K_X7_bears (As : List Value) (M : xM) (RP : Option Value → xM → Prop) : Prop := xMet yX7_bears cX7_bears 3 (some .int) 2 43 As M RP
abbrev P_X7_bears (Y : xY) : Nat → List (Nat × Value) → List Value → xM → Prop := PW cX7_bears RX7 3 Y
abbrev K_X7_gust (As : List Value) (M : xM) (RP : Option Value → xM → Prop) : Prop := xMet yX7_gust cX7_gust 5 (some .int) 2 42 As M RP
abbrev P_X7_gust (Y : xY) : Nat → List (Nat × Value) → List Value → xM → Prop := PW cX7_gust RX7 5 Y
abbrev K_X7_isOfDay (As : List Value) (M : xM) (RP : Option Value → xM → Prop) : Prop := xMet yX7_isOfDay cX7_isOfDay 3 (some .boolean) 0 0 As M RP
abbrev P_X7_isOfDay (Y : xY) : Nat → List (Nat × Value) → List Value → xM → Prop := PW cX7_isOfDay RX7 3 Y
abbrev K_X7_greatest (As : List Value) (M : xM) (RP : Option Value → xM → Prop) : Prop := xMet yX7_greatest cX7_greatest 6 (some .int) 0 0 As M RP
abbrev P_X7_greatest (Y : xY) : Nat → List (Nat × Value) → List Value → xM → Prop := PW cX7_greatest RX7 6 Y
abbrev K_X7_deals (As : List Value) (M : xM) (RP : Option Value → xM → Prop) : Prop := xMet yX7_deals cX7_deals 8 (some .int) 1 25 As M RP
abbrev P_X7_deals (Y : xY) : Nat → List (Nat × Value) → List Value → xM → Prop := PW cX7_deals RX7 8 Y
abbrev K_X7_hours (As : List Value) (M : xM) (RP : Option Value → xM → Prop) : Prop := xMet yX7_hours cX7_hours 3 (some .int) 2 52 As M RP
abbrev P_X7_hours (Y : xY) : Nat → List (Nat × Value) → List Value → xM → Prop := PW cX7_hours RX7 3 Y
abbrev K_X7_crew (As : List Value) (M : xM) (RP : Option Value → xM → Prop) : Prop := xMet yX7_crew cX7_crew 5 (some .int) 2 52 As M RP
abbrev P_X7_crew (Y : xY) : Nat → List (Nat × Value) → List Value → xM → Prop := PW cX7_crew RX7 5 Y
abbrev K_X7_loads (As : List Value) (M : xM) (RP : Option Value → xM → Prop) : Prop := xMet yX7_loads cX7_loads 6 (some .int) 2 42 As M RP
abbrev P_X7_loads (Y : xY) : Nat → List (Nat × Value) → List Value → xM → Prop := PW cX7_loads RX7 6 Y
abbrev K_X7_count (As : List Value) (M : xM) (RP : Option Value → xM → Prop) : Prop := xMet yX7_count cX7_count 4 (some .int) 1 23 As M RP
abbrev P_X7_count (Y : xY) : Nat → List (Nat × Value) → List Value → xM → Prop := PW cX7_count RX7 4 Y
abbrev K_X7_digest (As : List Value) (M : xM) (RP : Option Value → xM → Prop) : Prop := xMet yX7_digest cX7_digest 5 (some .long) 2 46 As M RP
abbrev P_X7_digest (Y : xY) : Nat → List (Nat × Value) → List Value → xM → Prop := PW cX7_digest RX7 5 Y
abbrev K_J6_bitCount_0f7a4 (As : List Value) (M : xM) (RP : Option Value → xM → Prop) : Prop := xMet yJ6_bitCount_0f7a4 cJ6_bitCount_0f7a4 1 (some .int) 0 0 As M RP
abbrev P_J6_bitCount_0f7a4 (Y : xY) : Nat → List (Nat × Value) → List Value → xM → Prop := PW cJ6_bitCount_0f7a4 RJ6 1 Y
abbrev K_J9_max_7cf53 (As : List Value) (M : xM) (RP : Option Value → xM → Prop) : Prop := xMet yJ9_max_7cf53 cJ9_max_7cf53 2 (some .int) 0 0 As M RP
abbrev P_J9_max_7cf53 (Y : xY) : Nat → List (Nat × Value) → List Value → xM → Prop := PW cJ9_max_7cf53 RJ9 2 Y
abbrev K_J7_fill_53178 (As : List Value) (M : xM) (RP : Option Value → xM → Prop) : Prop := xMet yJ7_fill_53178 cJ7_fill_53178 4 none 0 0 As M RP
abbrev P_J7_fill_53178 (Y : xY) : Nat → List (Nat × Value) → List Value → xM → Prop := PW cJ7_fill_53178 RJ7 4 Y
theorem cf_X0_34 : xCV RX0 34 RX0 yX0_startWithOne cX0_startWithOne 2 none 0 := ⟨by decide +kernel, rfl, by decide +kernel, by decide +kernel, by decide +kernel⟩
theorem cs_X0_34  {post : xM → Prop} (hR : xRm Y fr lo) (hM : K_X0_startWithOne [.ref 25] M (xRv post)) (hroom : 1 + 1 ≤ fr ∧ 8 + (2 + 11) + 23 ≤ lo) (d : decode cc pc = .ok (.invokevirtual 34, 3)) (hcat : (S.map fun v => v.category).sum ≤ 8) (kk : ∀ u, post u → PW cc RX0 nL Y (pc + 3) L S u) : PW cc RX0 nL Y pc L (.ref 25 :: S) M := PW.callV (b := 25) (ci := 0) (C := RX0) (T := TX0) (N := 7) hR hM hroom cf_X0_34 rfl rfl d rfl hcat (fun r u h => by obtain ⟨rfl, h⟩ := h; exact kk u h)
theorem cf_X0_37 : xCV RX0 37 RX0 yX0_nextWay cX0_nextWay 4 none 1 := ⟨by decide +kernel, rfl, by decide +kernel, by decide +kernel, by decide +kernel⟩
theorem cs_X0_37 {p0 : Int32} {post : xM → Prop} (hR : xRm Y fr lo) (hM : K_X0_nextWay [.ref 25, .int p0] M (xRv post)) (hroom : 0 + 1 ≤ fr ∧ 8 + (4 + 11) + 0 ≤ lo) (d : decode cc pc = .ok (.invokevirtual 37, 3)) (hcat : (S.map fun v => v.category).sum ≤ 8) (kk : ∀ u, post u → PW cc RX0 nL Y (pc + 3) L S u) : PW cc RX0 nL Y pc L (.int p0 :: .ref 25 :: S) M := PW.callV (b := 25) (ci := 0) (C := RX0) (T := TX0) (N := 7) hR hM hroom cf_X0_37 rfl rfl d rfl hcat (fun r u h => by obtain ⟨rfl, h⟩ := h; exact kk u h)
theorem cf_X0_41 : xCV RX0 41 RX0 yX0_greatestSum cX0_greatestSum 3 (some .int) 0 := ⟨by decide +kernel, rfl, by decide +kernel, by decide +kernel, by decide +kernel⟩
theorem cs_X0_41  {post : Int32 → xM → Prop} (hR : xRm Y fr lo) (hM : K_X0_greatestSum [.ref 25] M (xRi post)) (hroom : 1 + 1 ≤ fr ∧ 8 + (3 + 11) + 21 ≤ lo) (d : decode cc pc = .ok (.invokevirtual 41, 3)) (hcat : (S.map fun v => v.category).sum ≤ 8) (kk : ∀ x u, post x u → PW cc RX0 nL Y (pc + 3) L (.int x :: S) u) : PW cc RX0 nL Y pc L (.ref 25 :: S) M := PW.callV (b := 25) (ci := 0) (C := RX0) (T := TX0) (N := 7) hR hM hroom cf_X0_41 rfl rfl d rfl hcat (fun r u h => by obtain ⟨x, rfl, h⟩ := h; exact kk x u h)
theorem cf_X0_51 : xCS RX0 51 yJ7_fill_53178 cJ7_fill_53178 4 none 2 := ⟨by decide +kernel, by decide +kernel, by decide +kernel, by decide +kernel⟩
theorem cs_X0_51 {p0 : Nat} {p1 : Int32} {post : xM → Prop} (hR : xRm Y fr lo) (hM : K_J7_fill_53178 [.ref p0, .int p1] M (xRv post)) (hroom : 0 + 1 ≤ fr ∧ 8 + (4 + 11) + 0 ≤ lo) (d : decode cc pc = .ok (.invokestatic 51, 3)) (hcat : (S.map fun v => v.category).sum ≤ 8) (kk : ∀ u, post u → PW cc RX0 nL Y (pc + 3) L S u) : PW cc RX0 nL Y pc L (.int p1 :: .ref p0 :: S) M := PW.callS hR hM hroom cf_X0_51 d rfl hcat (fun r u h => by obtain ⟨rfl, h⟩ := h; exact kk u h)
theorem cf_X3_26 : xCS RX3 26 yJ7_fill_53178 cJ7_fill_53178 4 none 2 := ⟨by decide +kernel, by decide +kernel, by decide +kernel, by decide +kernel⟩
theorem cs_X3_26 {p0 : Nat} {p1 : Int32} {post : xM → Prop} (hR : xRm Y fr lo) (hM : K_J7_fill_53178 [.ref p0, .int p1] M (xRv post)) (hroom : 0 + 1 ≤ fr ∧ 8 + (4 + 11) + 0 ≤ lo) (d : decode cc pc = .ok (.invokestatic 26, 3)) (hcat : (S.map fun v => v.category).sum ≤ 8) (kk : ∀ u, post u → PW cc RX3 nL Y (pc + 3) L S u) : PW cc RX3 nL Y pc L (.int p1 :: .ref p0 :: S) M := PW.callS hR hM hroom cf_X3_26 d rfl hcat (fun r u h => by obtain ⟨rfl, h⟩ := h; exact kk u h)
theorem cf_X3_32 : xCN RX3 32 yX6_isThing RX6 cX6_isThing 1 (some .boolean) 1 := ⟨by decide +kernel, by decide +kernel, by decide +kernel, by decide +kernel, by decide +kernel⟩
theorem cs_X3_32 {p0 : Int32} {post : Int32 → xM → Prop} (hR : xRm Y fr lo) (hM : K_X6_isThing [.int p0] M (xRi post)) (hroom : 0 + 1 ≤ fr ∧ 8 + (1 + 11) + 0 ≤ lo) (d : decode cc pc = .ok (.invokestatic 32, 3)) (hcat : (S.map fun v => v.category).sum ≤ 8) (kk : ∀ x u, post x u → PW cc RX3 nL Y (pc + 3) L (.int x :: S) u) : PW cc RX3 nL Y pc L (.int p0 :: S) M := PW.callN (host := RX6) hR hM hroom cf_X3_32 d rfl hcat (fun r u h => by obtain ⟨x, rfl, h⟩ := h; exact kk x u h)
theorem cf_X3_42 : xCN RX3 42 yX6_bit RX6 cX6_bit 1 (some .int) 1 := ⟨by decide +kernel, by decide +kernel, by decide +kernel, by decide +kernel, by decide +kernel⟩
theorem cs_X3_42 {p0 : Int32} {post : Int32 → xM → Prop} (hR : xRm Y fr lo) (hM : K_X6_bit [.int p0] M (xRi post)) (hroom : 0 + 1 ≤ fr ∧ 8 + (1 + 11) + 0 ≤ lo) (d : decode cc pc = .ok (.invokestatic 42, 3)) (hcat : (S.map fun v => v.category).sum ≤ 8) (kk : ∀ x u, post x u → PW cc RX3 nL Y (pc + 3) L (.int x :: S) u) : PW cc RX3 nL Y pc L (.int p0 :: S) M := PW.callN (host := RX6) hR hM hroom cf_X3_42 d rfl hcat (fun r u h => by obtain ⟨x, rfl, h⟩ := h; exact kk x u h)
theorem cf_X5_30 : xCS RX5 30 yJ7_fill_53178 cJ7_fill_53178 4 none 2 := ⟨by decide +kernel, by decide +kernel, by decide +kernel, by decide +kernel⟩
theorem cs_X5_30 {p0 : Nat} {p1 : Int32} {post : xM → Prop} (hR : xRm Y fr lo) (hM : K_J7_fill_53178 [.ref p0, .int p1] M (xRv post)) (hroom : 0 + 1 ≤ fr ∧ 8 + (4 + 11) + 0 ≤ lo) (d : decode cc pc = .ok (.invokestatic 30, 3)) (hcat : (S.map fun v => v.category).sum ≤ 8) (kk : ∀ u, post u → PW cc RX5 nL Y (pc + 3) L S u) : PW cc RX5 nL Y pc L (.int p1 :: .ref p0 :: S) M := PW.callS hR hM hroom cf_X5_30 d rfl hcat (fun r u h => by obtain ⟨rfl, h⟩ := h; exact kk u h)
theorem cf_X6_55 : xCS RX6 55 yJ7_fill_53178 cJ7_fill_53178 4 none 2 := ⟨by decide +kernel, by decide +kernel, by decide +kernel, by decide +kernel⟩
theorem cs_X6_55 {p0 : Nat} {p1 : Int32} {post : xM → Prop} (hR : xRm Y fr lo) (hM : K_J7_fill_53178 [.ref p0, .int p1] M (xRv post)) (hroom : 0 + 1 ≤ fr ∧ 8 + (4 + 11) + 0 ≤ lo) (d : decode cc pc = .ok (.invokestatic 55, 3)) (hcat : (S.map fun v => v.category).sum ≤ 8) (kk : ∀ u, post u → PW cc RX6 nL Y (pc + 3) L S u) : PW cc RX6 nL Y pc L (.int p1 :: .ref p0 :: S) M := PW.callS hR hM hroom cf_X6_55 d rfl hcat (fun r u h => by obtain ⟨rfl, h⟩ := h; exact kk u h)
theorem cf_X6_65 : xCS RX6 65 yX6_isThing cX6_isThing 1 (some .boolean) 1 := ⟨by decide +kernel, by decide +kernel, by decide +kernel, by decide +kernel⟩
theorem cs_X6_65 {p0 : Int32} {post : Int32 → xM → Prop} (hR : xRm Y fr lo) (hM : K_X6_isThing [.int p0] M (xRi post)) (hroom : 0 + 1 ≤ fr ∧ 8 + (1 + 11) + 0 ≤ lo) (d : decode cc pc = .ok (.invokestatic 65, 3)) (hcat : (S.map fun v => v.category).sum ≤ 8) (kk : ∀ x u, post x u → PW cc RX6 nL Y (pc + 3) L (.int x :: S) u) : PW cc RX6 nL Y pc L (.int p0 :: S) M := PW.callS hR hM hroom cf_X6_65 d rfl hcat (fun r u h => by obtain ⟨x, rfl, h⟩ := h; exact kk x u h)
theorem cf_X6_69 : xCS RX6 69 yX6_outside cX6_outside 3 (some .boolean) 3 := ⟨by decide +kernel, by decide +kernel, by decide +kernel, by decide +kernel⟩
theorem cs_X6_69 {p0 : Int32} {p1 : Int32} {p2 : Int32} {post : Int32 → xM → Prop} (hR : xRm Y fr lo) (hM : K_X6_outside [.int p0, .int p1, .int p2] M (xRi post)) (hroom : 0 + 1 ≤ fr ∧ 8 + (3 + 11) + 0 ≤ lo) (d : decode cc pc = .ok (.invokestatic 69, 3)) (hcat : (S.map fun v => v.category).sum ≤ 8) (kk : ∀ x u, post x u → PW cc RX6 nL Y (pc + 3) L (.int x :: S) u) : PW cc RX6 nL Y pc L (.int p2 :: .int p1 :: .int p0 :: S) M := PW.callS hR hM hroom cf_X6_69 d rfl hcat (fun r u h => by obtain ⟨x, rfl, h⟩ := h; exact kk x u h)
theorem cf_X6_89 : xCV RX6 89 RX1 yX1_ask cX1_ask 4 (some .int) 3 := ⟨by decide +kernel, rfl, by decide +kernel, by decide +kernel, by decide +kernel⟩
theorem cs_X6_89 {p0 : Int32} {p1 : Int32} {p2 : Int32} {post : Int32 → xM → Prop} (hR : xRm Y fr lo) (hM : K_X1_ask [.ref 8, .int p0, .int p1, .int p2] M (xRi post)) (hroom : 0 + 1 ≤ fr ∧ 8 + (4 + 11) + 0 ≤ lo) (d : decode cc pc = .ok (.invokevirtual 89, 3)) (hcat : (S.map fun v => v.category).sum ≤ 8) (kk : ∀ x u, post x u → PW cc RX6 nL Y (pc + 3) L (.int x :: S) u) : PW cc RX6 nL Y pc L (.int p2 :: .int p1 :: .int p0 :: .ref 8 :: S) M := PW.callV (b := 8) (ci := 1) (C := RX1) (T := TX1) (N := 10) hR hM hroom cf_X6_89 rfl rfl d rfl hcat (fun r u h => by obtain ⟨x, rfl, h⟩ := h; exact kk x u h)
theorem cf_X6_93 : xCV RX6 93 RX1 yX1_has cX1_has 2 (some .boolean) 1 := ⟨by decide +kernel, rfl, by decide +kernel, by decide +kernel, by decide +kernel⟩
theorem cs_X6_93 {p0 : Int32} {post : Int32 → xM → Prop} (hR : xRm Y fr lo) (hM : K_X1_has [.ref 8, .int p0] M (xRi post)) (hroom : 0 + 1 ≤ fr ∧ 8 + (2 + 11) + 0 ≤ lo) (d : decode cc pc = .ok (.invokevirtual 93, 3)) (hcat : (S.map fun v => v.category).sum ≤ 8) (kk : ∀ x u, post x u → PW cc RX6 nL Y (pc + 3) L (.int x :: S) u) : PW cc RX6 nL Y pc L (.int p0 :: .ref 8 :: S) M := PW.callV (b := 8) (ci := 1) (C := RX1) (T := TX1) (N := 10) hR hM hroom cf_X6_93 rfl rfl d rfl hcat (fun r u h => by obtain ⟨x, rfl, h⟩ := h; exact kk x u h)
theorem cf_X6_102 : xCS RX6 102 yX6_cell cX6_cell 2 (some .int) 2 := ⟨by decide +kernel, by decide +kernel, by decide +kernel, by decide +kernel⟩
theorem cs_X6_102 {p0 : Int32} {p1 : Int32} {post : Int32 → xM → Prop} (hR : xRm Y fr lo) (hM : K_X6_cell [.int p0, .int p1] M (xRi post)) (hroom : 0 + 1 ≤ fr ∧ 8 + (2 + 11) + 0 ≤ lo) (d : decode cc pc = .ok (.invokestatic 102, 3)) (hcat : (S.map fun v => v.category).sum ≤ 8) (kk : ∀ x u, post x u → PW cc RX6 nL Y (pc + 3) L (.int x :: S) u) : PW cc RX6 nL Y pc L (.int p1 :: .int p0 :: S) M := PW.callS hR hM hroom cf_X6_102 d rfl hcat (fun r u h => by obtain ⟨x, rfl, h⟩ := h; exact kk x u h)
theorem cf_X6_106 : xCV RX6 106 RX4 yX4_tell cX4_tell 3 none 2 := ⟨by decide +kernel, rfl, by decide +kernel, by decide +kernel, by decide +kernel⟩
theorem cs_X6_106 {p0 : Int32} {p1 : Int32} {post : xM → Prop} (hR : xRm Y fr lo) (hM : K_X4_tell [.ref 18, .int p0, .int p1] M (xRv post)) (hroom : 0 + 1 ≤ fr ∧ 8 + (3 + 11) + 0 ≤ lo) (d : decode cc pc = .ok (.invokevirtual 106, 3)) (hcat : (S.map fun v => v.category).sum ≤ 8) (kk : ∀ u, post u → PW cc RX6 nL Y (pc + 3) L S u) : PW cc RX6 nL Y pc L (.int p1 :: .int p0 :: .ref 18 :: S) M := PW.callV (b := 18) (ci := 4) (C := RX4) (T := TX4) (N := 2) hR hM hroom cf_X6_106 rfl rfl d rfl hcat (fun r u h => by obtain ⟨rfl, h⟩ := h; exact kk u h)
theorem cf_X6_110 : xCV RX6 110 RX1 yX1_setOf cX1_setOf 4 (some .int) 1 := ⟨by decide +kernel, rfl, by decide +kernel, by decide +kernel, by decide +kernel⟩
theorem cs_X6_110 {p0 : Int32} {post : Int32 → xM → Prop} (hR : xRm Y fr lo) (hM : K_X1_setOf [.ref 8, .int p0] M (xRi post)) (hroom : 0 + 1 ≤ fr ∧ 8 + (4 + 11) + 0 ≤ lo) (d : decode cc pc = .ok (.invokevirtual 110, 3)) (hcat : (S.map fun v => v.category).sum ≤ 8) (kk : ∀ x u, post x u → PW cc RX6 nL Y (pc + 3) L (.int x :: S) u) : PW cc RX6 nL Y pc L (.int p0 :: .ref 8 :: S) M := PW.callV (b := 8) (ci := 1) (C := RX1) (T := TX1) (N := 10) hR hM hroom cf_X6_110 rfl rfl d rfl hcat (fun r u h => by obtain ⟨x, rfl, h⟩ := h; exact kk x u h)
theorem cf_X6_114 : xCV RX6 114 RX6 yX6_goTogether cX6_goTogether 2 (some .boolean) 1 := ⟨by decide +kernel, rfl, by decide +kernel, by decide +kernel, by decide +kernel⟩
theorem cs_X6_114 {p0 : Int32} {post : Int32 → xM → Prop} (hR : xRm Y fr lo) (hM : K_X6_goTogether [.ref 0, .int p0] M (xRi post)) (hroom : 5 + 1 ≤ fr ∧ 8 + (2 + 11) + 121 ≤ lo) (d : decode cc pc = .ok (.invokevirtual 114, 3)) (hcat : (S.map fun v => v.category).sum ≤ 8) (kk : ∀ x u, post x u → PW cc RX6 nL Y (pc + 3) L (.int x :: S) u) : PW cc RX6 nL Y pc L (.int p0 :: .ref 0 :: S) M := PW.callV (b := 0) (ci := 6) (C := RX6) (T := TX6) (N := 8) hR hM hroom cf_X6_114 rfl rfl d rfl hcat (fun r u h => by obtain ⟨x, rfl, h⟩ := h; exact kk x u h)
theorem cf_X6_117 : xCV RX6 117 RX6 yX6_countAnew cX6_countAnew 2 none 1 := ⟨by decide +kernel, rfl, by decide +kernel, by decide +kernel, by decide +kernel⟩
theorem cs_X6_117 {p0 : Int32} {post : xM → Prop} (hR : xRm Y fr lo) (hM : K_X6_countAnew [.ref 0, .int p0] M (xRv post)) (hroom : 4 + 1 ≤ fr ∧ 8 + (2 + 11) + 100 ≤ lo) (d : decode cc pc = .ok (.invokevirtual 117, 3)) (hcat : (S.map fun v => v.category).sum ≤ 8) (kk : ∀ u, post u → PW cc RX6 nL Y (pc + 3) L S u) : PW cc RX6 nL Y pc L (.int p0 :: .ref 0 :: S) M := PW.callV (b := 0) (ci := 6) (C := RX6) (T := TX6) (N := 8) hR hM hroom cf_X6_117 rfl rfl d rfl hcat (fun r u h => by obtain ⟨rfl, h⟩ := h; exact kk u h)
theorem cf_X6_125 : xCS RX6 125 yX6_bit cX6_bit 1 (some .int) 1 := ⟨by decide +kernel, by decide +kernel, by decide +kernel, by decide +kernel⟩
theorem cs_X6_125 {p0 : Int32} {post : Int32 → xM → Prop} (hR : xRm Y fr lo) (hM : K_X6_bit [.int p0] M (xRi post)) (hroom : 0 + 1 ≤ fr ∧ 8 + (1 + 11) + 0 ≤ lo) (d : decode cc pc = .ok (.invokestatic 125, 3)) (hcat : (S.map fun v => v.category).sum ≤ 8) (kk : ∀ x u, post x u → PW cc RX6 nL Y (pc + 3) L (.int x :: S) u) : PW cc RX6 nL Y pc L (.int p0 :: S) M := PW.callS hR hM hroom cf_X6_125 d rfl hcat (fun r u h => by obtain ⟨x, rfl, h⟩ := h; exact kk x u h)
theorem cf_X6_136 : xCV RX6 136 RX1 yX1_tell cX1_tell 3 (some .int) 2 := ⟨by decide +kernel, rfl, by decide +kernel, by decide +kernel, by decide +kernel⟩
theorem cs_X6_136 {p0 : Int32} {p1 : Int32} {post : Int32 → xM → Prop} (hR : xRm Y fr lo) (hM : K_X1_tell [.ref 8, .int p0, .int p1] M (xRi post)) (hroom : 0 + 1 ≤ fr ∧ 8 + (3 + 11) + 0 ≤ lo) (d : decode cc pc = .ok (.invokevirtual 136, 3)) (hcat : (S.map fun v => v.category).sum ≤ 8) (kk : ∀ x u, post x u → PW cc RX6 nL Y (pc + 3) L (.int x :: S) u) : PW cc RX6 nL Y pc L (.int p1 :: .int p0 :: .ref 8 :: S) M := PW.callV (b := 8) (ci := 1) (C := RX1) (T := TX1) (N := 10) hR hM hroom cf_X6_136 rfl rfl d rfl hcat (fun r u h => by obtain ⟨x, rfl, h⟩ := h; exact kk x u h)
theorem cf_X6_141 : xCV RX6 141 RX5 yX5_have cX5_have 2 (some .int) 1 := ⟨by decide +kernel, rfl, by decide +kernel, by decide +kernel, by decide +kernel⟩
theorem cs_X6_141 {p0 : Int32} {post : Int32 → xM → Prop} (hR : xRm Y fr lo) (hM : K_X5_have [.ref 1, .int p0] M (xRi post)) (hroom : 1 + 1 ≤ fr ∧ 8 + (2 + 11) + 21 ≤ lo) (d : decode cc pc = .ok (.invokevirtual 141, 3)) (hcat : (S.map fun v => v.category).sum ≤ 8) (kk : ∀ x u, post x u → PW cc RX6 nL Y (pc + 3) L (.int x :: S) u) : PW cc RX6 nL Y pc L (.int p0 :: .ref 1 :: S) M := PW.callV (b := 1) (ci := 5) (C := RX5) (T := TX5) (N := 6) hR hM hroom cf_X6_141 rfl rfl d rfl hcat (fun r u h => by obtain ⟨x, rfl, h⟩ := h; exact kk x u h)
theorem cf_X6_149 : xCV RX6 149 RX1 yX1_hasAll cX1_hasAll 2 (some .boolean) 1 := ⟨by decide +kernel, rfl, by decide +kernel, by decide +kernel, by decide +kernel⟩
theorem cs_X6_149 {p0 : Int32} {post : Int32 → xM → Prop} (hR : xRm Y fr lo) (hM : K_X1_hasAll [.ref 8, .int p0] M (xRi post)) (hroom : 0 + 1 ≤ fr ∧ 8 + (2 + 11) + 0 ≤ lo) (d : decode cc pc = .ok (.invokevirtual 149, 3)) (hcat : (S.map fun v => v.category).sum ≤ 8) (kk : ∀ x u, post x u → PW cc RX6 nL Y (pc + 3) L (.int x :: S) u) : PW cc RX6 nL Y pc L (.int p0 :: .ref 8 :: S) M := PW.callV (b := 8) (ci := 1) (C := RX1) (T := TX1) (N := 10) hR hM hroom cf_X6_149 rfl rfl d rfl hcat (fun r u h => by obtain ⟨x, rfl, h⟩ := h; exact kk x u h)
theorem cf_X6_152 : xCV RX6 152 RX1 yX1_priceOf cX1_priceOf 4 (some .int) 1 := ⟨by decide +kernel, rfl, by decide +kernel, by decide +kernel, by decide +kernel⟩
theorem cs_X6_152 {p0 : Int32} {post : Int32 → xM → Prop} (hR : xRm Y fr lo) (hM : K_X1_priceOf [.ref 8, .int p0] M (xRi post)) (hroom : 0 + 1 ≤ fr ∧ 8 + (4 + 11) + 0 ≤ lo) (d : decode cc pc = .ok (.invokevirtual 152, 3)) (hcat : (S.map fun v => v.category).sum ≤ 8) (kk : ∀ x u, post x u → PW cc RX6 nL Y (pc + 3) L (.int x :: S) u) : PW cc RX6 nL Y pc L (.int p0 :: .ref 8 :: S) M := PW.callV (b := 8) (ci := 1) (C := RX1) (T := TX1) (N := 10) hR hM hroom cf_X6_152 rfl rfl d rfl hcat (fun r u h => by obtain ⟨x, rfl, h⟩ := h; exact kk x u h)
theorem cf_X6_155 : xCV RX6 155 RX6 yX6_countOn cX6_countOn 4 none 1 := ⟨by decide +kernel, rfl, by decide +kernel, by decide +kernel, by decide +kernel⟩
theorem cs_X6_155 {p0 : Int32} {post : xM → Prop} (hR : xRm Y fr lo) (hM : K_X6_countOn [.ref 0, .int p0] M (xRv post)) (hroom : 3 + 1 ≤ fr ∧ 8 + (4 + 11) + 77 ≤ lo) (d : decode cc pc = .ok (.invokevirtual 155, 3)) (hcat : (S.map fun v => v.category).sum ≤ 8) (kk : ∀ u, post u → PW cc RX6 nL Y (pc + 3) L S u) : PW cc RX6 nL Y pc L (.int p0 :: .ref 0 :: S) M := PW.callV (b := 0) (ci := 6) (C := RX6) (T := TX6) (N := 8) hR hM hroom cf_X6_155 rfl rfl d rfl hcat (fun r u h => by obtain ⟨rfl, h⟩ := h; exact kk u h)
theorem cf_X6_163 : xCS RX6 163 yJ6_bitCount_0f7a4 cJ6_bitCount_0f7a4 1 (some .int) 1 := ⟨by decide +kernel, by decide +kernel, by decide +kernel, by decide +kernel⟩
theorem cs_X6_163 {p0 : Int32} {post : Int32 → xM → Prop} (hR : xRm Y fr lo) (hM : K_J6_bitCount_0f7a4 [.int p0] M (xRi post)) (hroom : 0 + 1 ≤ fr ∧ 8 + (1 + 11) + 0 ≤ lo) (d : decode cc pc = .ok (.invokestatic 163, 3)) (hcat : (S.map fun v => v.category).sum ≤ 8) (kk : ∀ x u, post x u → PW cc RX6 nL Y (pc + 3) L (.int x :: S) u) : PW cc RX6 nL Y pc L (.int p0 :: S) M := PW.callS hR hM hroom cf_X6_163 d rfl hcat (fun r u h => by obtain ⟨x, rfl, h⟩ := h; exact kk x u h)
theorem cf_X6_168 : xCS RX6 168 yX6_cutUp cX6_cutUp 2 (some .int) 2 := ⟨by decide +kernel, by decide +kernel, by decide +kernel, by decide +kernel⟩
theorem cs_X6_168 {p0 : Int32} {p1 : Int32} {post : Int32 → xM → Prop} (hR : xRm Y fr lo) (hM : K_X6_cutUp [.int p0, .int p1] M (xRi post)) (hroom : 0 + 1 ≤ fr ∧ 8 + (2 + 11) + 0 ≤ lo) (d : decode cc pc = .ok (.invokestatic 168, 3)) (hcat : (S.map fun v => v.category).sum ≤ 8) (kk : ∀ x u, post x u → PW cc RX6 nL Y (pc + 3) L (.int x :: S) u) : PW cc RX6 nL Y pc L (.int p1 :: .int p0 :: S) M := PW.callS hR hM hroom cf_X6_168 d rfl hcat (fun r u h => by obtain ⟨x, rfl, h⟩ := h; exact kk x u h)
theorem cf_X6_171 : xCV RX6 171 RX2 yX2_write cX2_write 3 (some .int) 2 := ⟨by decide +kernel, rfl, by decide +kernel, by decide +kernel, by decide +kernel⟩
theorem cs_X6_171 {p0 : Int32} {p1 : Int32} {post : Int32 → xM → Prop} (hR : xRm Y fr lo) (hM : K_X2_write [.ref 22, .int p0, .int p1] M (xRi post)) (hroom : 0 + 1 ≤ fr ∧ 8 + (3 + 11) + 0 ≤ lo) (d : decode cc pc = .ok (.invokevirtual 171, 3)) (hcat : (S.map fun v => v.category).sum ≤ 8) (kk : ∀ x u, post x u → PW cc RX6 nL Y (pc + 3) L (.int x :: S) u) : PW cc RX6 nL Y pc L (.int p1 :: .int p0 :: .ref 22 :: S) M := PW.callV (b := 22) (ci := 2) (C := RX2) (T := TX2) (N := 3) hR hM hroom cf_X6_171 rfl rfl d rfl hcat (fun r u h => by obtain ⟨x, rfl, h⟩ := h; exact kk x u h)
theorem cf_X6_177 : xCV RX6 177 RX2 yX2_doorsFor cX2_doorsFor 4 (some .int) 1 := ⟨by decide +kernel, rfl, by decide +kernel, by decide +kernel, by decide +kernel⟩
theorem cs_X6_177 {p0 : Int32} {post : Int32 → xM → Prop} (hR : xRm Y fr lo) (hM : K_X2_doorsFor [.ref 22, .int p0] M (xRi post)) (hroom : 0 + 1 ≤ fr ∧ 8 + (4 + 11) + 0 ≤ lo) (d : decode cc pc = .ok (.invokevirtual 177, 3)) (hcat : (S.map fun v => v.category).sum ≤ 8) (kk : ∀ x u, post x u → PW cc RX6 nL Y (pc + 3) L (.int x :: S) u) : PW cc RX6 nL Y pc L (.int p0 :: .ref 22 :: S) M := PW.callV (b := 22) (ci := 2) (C := RX2) (T := TX2) (N := 3) hR hM hroom cf_X6_177 rfl rfl d rfl hcat (fun r u h => by obtain ⟨x, rfl, h⟩ := h; exact kk x u h)
theorem cf_X6_189 : xCV RX6 189 RX6 yX6_stands cX6_stands 3 (some .boolean) 2 := ⟨by decide +kernel, rfl, by decide +kernel, by decide +kernel, by decide +kernel⟩
theorem cs_X6_189 {p0 : Int32} {p1 : Int32} {post : Int32 → xM → Prop} (hR : xRm Y fr lo) (hM : K_X6_stands [.ref 0, .int p0, .int p1] M (xRi post)) (hroom : 0 + 1 ≤ fr ∧ 8 + (3 + 11) + 0 ≤ lo) (d : decode cc pc = .ok (.invokevirtual 189, 3)) (hcat : (S.map fun v => v.category).sum ≤ 8) (kk : ∀ x u, post x u → PW cc RX6 nL Y (pc + 3) L (.int x :: S) u) : PW cc RX6 nL Y pc L (.int p1 :: .int p0 :: .ref 0 :: S) M := PW.callV (b := 0) (ci := 6) (C := RX6) (T := TX6) (N := 8) hR hM hroom cf_X6_189 rfl rfl d rfl hcat (fun r u h => by obtain ⟨x, rfl, h⟩ := h; exact kk x u h)
theorem cf_X6_200 : xCV RX6 200 RX6 yX6_sendCrews cX6_sendCrews 4 none 2 := ⟨by decide +kernel, rfl, by decide +kernel, by decide +kernel, by decide +kernel⟩
theorem cs_X6_200 {p0 : Int32} {p1 : Int32} {post : xM → Prop} (hR : xRm Y fr lo) (hM : K_X6_sendCrews [.ref 0, .int p0, .int p1] M (xRv post)) (hroom : 3 + 1 ≤ fr ∧ 8 + (4 + 11) + 68 ≤ lo) (d : decode cc pc = .ok (.invokevirtual 200, 3)) (hcat : (S.map fun v => v.category).sum ≤ 8) (kk : ∀ u, post u → PW cc RX6 nL Y (pc + 3) L S u) : PW cc RX6 nL Y pc L (.int p1 :: .int p0 :: .ref 0 :: S) M := PW.callV (b := 0) (ci := 6) (C := RX6) (T := TX6) (N := 8) hR hM hroom cf_X6_200 rfl rfl d rfl hcat (fun r u h => by obtain ⟨rfl, h⟩ := h; exact kk u h)
theorem cf_X6_207 : xCV RX6 207 RX0 yX0_crewOf cX0_crewOf 3 (some .int) 1 := ⟨by decide +kernel, rfl, by decide +kernel, by decide +kernel, by decide +kernel⟩
theorem cs_X6_207 {p0 : Int32} {post : Int32 → xM → Prop} (hR : xRm Y fr lo) (hM : K_X0_crewOf [.ref 25, .int p0] M (xRi post)) (hroom : 0 + 1 ≤ fr ∧ 8 + (3 + 11) + 0 ≤ lo) (d : decode cc pc = .ok (.invokevirtual 207, 3)) (hcat : (S.map fun v => v.category).sum ≤ 8) (kk : ∀ x u, post x u → PW cc RX6 nL Y (pc + 3) L (.int x :: S) u) : PW cc RX6 nL Y pc L (.int p0 :: .ref 25 :: S) M := PW.callV (b := 25) (ci := 0) (C := RX0) (T := TX0) (N := 7) hR hM hroom cf_X6_207 rfl rfl d rfl hcat (fun r u h => by obtain ⟨x, rfl, h⟩ := h; exact kk x u h)
theorem cf_X6_210 : xCV RX6 210 RX1 yX1_worksOn cX1_worksOn 3 (some .boolean) 2 := ⟨by decide +kernel, rfl, by decide +kernel, by decide +kernel, by decide +kernel⟩
theorem cs_X6_210 {p0 : Int32} {p1 : Int32} {post : Int32 → xM → Prop} (hR : xRm Y fr lo) (hM : K_X1_worksOn [.ref 8, .int p0, .int p1] M (xRi post)) (hroom : 0 + 1 ≤ fr ∧ 8 + (3 + 11) + 0 ≤ lo) (d : decode cc pc = .ok (.invokevirtual 210, 3)) (hcat : (S.map fun v => v.category).sum ≤ 8) (kk : ∀ x u, post x u → PW cc RX6 nL Y (pc + 3) L (.int x :: S) u) : PW cc RX6 nL Y pc L (.int p1 :: .int p0 :: .ref 8 :: S) M := PW.callV (b := 8) (ci := 1) (C := RX1) (T := TX1) (N := 10) hR hM hroom cf_X6_210 rfl rfl d rfl hcat (fun r u h => by obtain ⟨x, rfl, h⟩ := h; exact kk x u h)
theorem cf_X6_213 : xCV RX6 213 RX6 yX6_weightOf cX6_weightOf 4 (some .int) 1 := ⟨by decide +kernel, rfl, by decide +kernel, by decide +kernel, by decide +kernel⟩
theorem cs_X6_213 {p0 : Int32} {post : Int32 → xM → Prop} (hR : xRm Y fr lo) (hM : K_X6_weightOf [.ref 0, .int p0] M (xRi post)) (hroom : 1 + 1 ≤ fr ∧ 8 + (4 + 11) + 21 ≤ lo) (d : decode cc pc = .ok (.invokevirtual 213, 3)) (hcat : (S.map fun v => v.category).sum ≤ 8) (kk : ∀ x u, post x u → PW cc RX6 nL Y (pc + 3) L (.int x :: S) u) : PW cc RX6 nL Y pc L (.int p0 :: .ref 0 :: S) M := PW.callV (b := 0) (ci := 6) (C := RX6) (T := TX6) (N := 8) hR hM hroom cf_X6_213 rfl rfl d rfl hcat (fun r u h => by obtain ⟨x, rfl, h⟩ := h; exact kk x u h)
theorem cf_X6_216 : xCV RX6 216 RX6 yX6_total cX6_total 2 (some .int) 1 := ⟨by decide +kernel, rfl, by decide +kernel, by decide +kernel, by decide +kernel⟩
theorem cs_X6_216 {p0 : Int32} {post : Int32 → xM → Prop} (hR : xRm Y fr lo) (hM : K_X6_total [.ref 0, .int p0] M (xRi post)) (hroom : 1 + 1 ≤ fr ∧ 8 + (2 + 11) + 23 ≤ lo) (d : decode cc pc = .ok (.invokevirtual 216, 3)) (hcat : (S.map fun v => v.category).sum ≤ 8) (kk : ∀ x u, post x u → PW cc RX6 nL Y (pc + 3) L (.int x :: S) u) : PW cc RX6 nL Y pc L (.int p0 :: .ref 0 :: S) M := PW.callV (b := 0) (ci := 6) (C := RX6) (T := TX6) (N := 8) hR hM hroom cf_X6_216 rfl rfl d rfl hcat (fun r u h => by obtain ⟨x, rfl, h⟩ := h; exact kk x u h)
theorem cf_X6_229 : xCV RX6 229 RX3 yX3_clear cX3_clear 1 none 0 := ⟨by decide +kernel, rfl, by decide +kernel, by decide +kernel, by decide +kernel⟩
theorem cs_X6_229  {post : xM → Prop} (hR : xRm Y fr lo) (hM : K_X3_clear [.ref 20] M (xRv post)) (hroom : 1 + 1 ≤ fr ∧ 8 + (1 + 11) + 23 ≤ lo) (d : decode cc pc = .ok (.invokevirtual 229, 3)) (hcat : (S.map fun v => v.category).sum ≤ 8) (kk : ∀ u, post u → PW cc RX6 nL Y (pc + 3) L S u) : PW cc RX6 nL Y pc L (.ref 20 :: S) M := PW.callV (b := 20) (ci := 3) (C := RX3) (T := TX3) (N := 4) hR hM hroom cf_X6_229 rfl rfl d rfl hcat (fun r u h => by obtain ⟨rfl, h⟩ := h; exact kk u h)
theorem cf_X6_235 : xCV RX6 235 RX6 yX6_enter cX6_enter 7 none 2 := ⟨by decide +kernel, rfl, by decide +kernel, by decide +kernel, by decide +kernel⟩
theorem cs_X6_235 {p0 : Int32} {p1 : Int32} {post : xM → Prop} (hR : xRm Y fr lo) (hM : K_X6_enter [.ref 0, .int p0, .int p1] M (xRv post)) (hroom : 2 + 1 ≤ fr ∧ 8 + (7 + 11) + 51 ≤ lo) (d : decode cc pc = .ok (.invokevirtual 235, 3)) (hcat : (S.map fun v => v.category).sum ≤ 8) (kk : ∀ u, post u → PW cc RX6 nL Y (pc + 3) L S u) : PW cc RX6 nL Y pc L (.int p1 :: .int p0 :: .ref 0 :: S) M := PW.callV (b := 0) (ci := 6) (C := RX6) (T := TX6) (N := 8) hR hM hroom cf_X6_235 rfl rfl d rfl hcat (fun r u h => by obtain ⟨rfl, h⟩ := h; exact kk u h)
theorem cf_X6_238 : xCV RX6 238 RX4 yX4_on cX4_on 2 (some .boolean) 1 := ⟨by decide +kernel, rfl, by decide +kernel, by decide +kernel, by decide +kernel⟩
theorem cs_X6_238 {p0 : Int32} {post : Int32 → xM → Prop} (hR : xRm Y fr lo) (hM : K_X4_on [.ref 18, .int p0] M (xRi post)) (hroom : 0 + 1 ≤ fr ∧ 8 + (2 + 11) + 0 ≤ lo) (d : decode cc pc = .ok (.invokevirtual 238, 3)) (hcat : (S.map fun v => v.category).sum ≤ 8) (kk : ∀ x u, post x u → PW cc RX6 nL Y (pc + 3) L (.int x :: S) u) : PW cc RX6 nL Y pc L (.int p0 :: .ref 18 :: S) M := PW.callV (b := 18) (ci := 4) (C := RX4) (T := TX4) (N := 2) hR hM hroom cf_X6_238 rfl rfl d rfl hcat (fun r u h => by obtain ⟨x, rfl, h⟩ := h; exact kk x u h)
theorem cf_X6_241 : xCV RX6 241 RX3 yX3_enter cX3_enter 11 none 6 := ⟨by decide +kernel, rfl, by decide +kernel, by decide +kernel, by decide +kernel⟩
theorem cs_X6_241 {p0 : Int32} {p1 : Int32} {p2 : Int32} {p3 : Int32} {p4 : Int32} {p5 : Int32} {post : xM → Prop} (hR : xRm Y fr lo) (hM : K_X3_enter [.ref 20, .int p0, .int p1, .int p2, .int p3, .int p4, .int p5] M (xRv post)) (hroom : 1 + 1 ≤ fr ∧ 8 + (11 + 11) + 21 ≤ lo) (d : decode cc pc = .ok (.invokevirtual 241, 3)) (hcat : (S.map fun v => v.category).sum ≤ 8) (kk : ∀ u, post u → PW cc RX6 nL Y (pc + 3) L S u) : PW cc RX6 nL Y pc L (.int p5 :: .int p4 :: .int p3 :: .int p2 :: .int p1 :: .int p0 :: .ref 20 :: S) M := PW.callV (b := 20) (ci := 3) (C := RX3) (T := TX3) (N := 4) hR hM hroom cf_X6_241 rfl rfl d rfl hcat (fun r u h => by obtain ⟨rfl, h⟩ := h; exact kk u h)
theorem cf_X6_244 : xCV RX6 244 RX0 yX0_clear cX0_clear 1 none 0 := ⟨by decide +kernel, rfl, by decide +kernel, by decide +kernel, by decide +kernel⟩
theorem cs_X6_244  {post : xM → Prop} (hR : xRm Y fr lo) (hM : K_X0_clear [.ref 25] M (xRv post)) (hroom : 0 + 1 ≤ fr ∧ 8 + (1 + 11) + 0 ≤ lo) (d : decode cc pc = .ok (.invokevirtual 244, 3)) (hcat : (S.map fun v => v.category).sum ≤ 8) (kk : ∀ u, post u → PW cc RX6 nL Y (pc + 3) L S u) : PW cc RX6 nL Y pc L (.ref 25 :: S) M := PW.callV (b := 25) (ci := 0) (C := RX0) (T := TX0) (N := 7) hR hM hroom cf_X6_244 rfl rfl d rfl hcat (fun r u h => by obtain ⟨rfl, h⟩ := h; exact kk u h)
theorem cf_X6_245 : xCV RX6 245 RX0 yX0_add cX0_add 3 none 2 := ⟨by decide +kernel, rfl, by decide +kernel, by decide +kernel, by decide +kernel⟩
theorem cs_X6_245 {p0 : Int32} {p1 : Int32} {post : xM → Prop} (hR : xRm Y fr lo) (hM : K_X0_add [.ref 25, .int p0, .int p1] M (xRv post)) (hroom : 0 + 1 ≤ fr ∧ 8 + (3 + 11) + 0 ≤ lo) (d : decode cc pc = .ok (.invokevirtual 245, 3)) (hcat : (S.map fun v => v.category).sum ≤ 8) (kk : ∀ u, post u → PW cc RX6 nL Y (pc + 3) L S u) : PW cc RX6 nL Y pc L (.int p1 :: .int p0 :: .ref 25 :: S) M := PW.callV (b := 25) (ci := 0) (C := RX0) (T := TX0) (N := 7) hR hM hroom cf_X6_245 rfl rfl d rfl hcat (fun r u h => by obtain ⟨rfl, h⟩ := h; exact kk u h)
theorem cf_X6_248 : xCV RX6 248 RX0 yX0_share cX0_share 5 none 1 := ⟨by decide +kernel, rfl, by decide +kernel, by decide +kernel, by decide +kernel⟩
theorem cs_X6_248 {p0 : Int32} {post : xM → Prop} (hR : xRm Y fr lo) (hM : K_X0_share [.ref 25, .int p0] M (xRv post)) (hroom : 2 + 1 ≤ fr ∧ 8 + (5 + 11) + 44 ≤ lo) (d : decode cc pc = .ok (.invokevirtual 248, 3)) (hcat : (S.map fun v => v.category).sum ≤ 8) (kk : ∀ u, post u → PW cc RX6 nL Y (pc + 3) L S u) : PW cc RX6 nL Y pc L (.int p0 :: .ref 25 :: S) M := PW.callV (b := 25) (ci := 0) (C := RX0) (T := TX0) (N := 7) hR hM hroom cf_X6_248 rfl rfl d rfl hcat (fun r u h => by obtain ⟨rfl, h⟩ := h; exact kk u h)
theorem cf_X6_254 : xCV RX6 254 RX5 yX5_allGone cX5_allGone 3 (some .int) 0 := ⟨by decide +kernel, rfl, by decide +kernel, by decide +kernel, by decide +kernel⟩
theorem cs_X6_254  {post : Int32 → xM → Prop} (hR : xRm Y fr lo) (hM : K_X5_allGone [.ref 1] M (xRi post)) (hroom : 0 + 1 ≤ fr ∧ 8 + (3 + 11) + 0 ≤ lo) (d : decode cc pc = .ok (.invokevirtual 254, 3)) (hcat : (S.map fun v => v.category).sum ≤ 8) (kk : ∀ x u, post x u → PW cc RX6 nL Y (pc + 3) L (.int x :: S) u) : PW cc RX6 nL Y pc L (.ref 1 :: S) M := PW.callV (b := 1) (ci := 5) (C := RX5) (T := TX5) (N := 6) hR hM hroom cf_X6_254 rfl rfl d rfl hcat (fun r u h => by obtain ⟨x, rfl, h⟩ := h; exact kk x u h)
theorem cf_X7_83 : xCS RX7 83 yX7_in cX7_in 3 (some .boolean) 3 := ⟨by decide +kernel, by decide +kernel, by decide +kernel, by decide +kernel⟩
theorem cs_X7_83 {p0 : Int32} {p1 : Int32} {p2 : Int32} {post : Int32 → xM → Prop} (hR : xRm Y fr lo) (hM : K_X7_in [.int p0, .int p1, .int p2] M (xRi post)) (hroom : 0 + 1 ≤ fr ∧ 8 + (3 + 11) + 0 ≤ lo) (d : decode cc pc = .ok (.invokestatic 83, 3)) (hcat : (S.map fun v => v.category).sum ≤ 8) (kk : ∀ x u, post x u → PW cc RX7 nL Y (pc + 3) L (.int x :: S) u) : PW cc RX7 nL Y pc L (.int p2 :: .int p1 :: .int p0 :: S) M := PW.callS hR hM hroom cf_X7_83 d rfl hcat (fun r u h => by obtain ⟨x, rfl, h⟩ := h; exact kk x u h)
theorem cf_X7_91 : xCS RX7 91 yX7_isThing cX7_isThing 1 (some .boolean) 1 := ⟨by decide +kernel, by decide +kernel, by decide +kernel, by decide +kernel⟩
theorem cs_X7_91 {p0 : Int32} {post : Int32 → xM → Prop} (hR : xRm Y fr lo) (hM : K_X7_isThing [.int p0] M (xRi post)) (hroom : 1 + 1 ≤ fr ∧ 8 + (1 + 11) + 22 ≤ lo) (d : decode cc pc = .ok (.invokestatic 91, 3)) (hcat : (S.map fun v => v.category).sum ≤ 8) (kk : ∀ x u, post x u → PW cc RX7 nL Y (pc + 3) L (.int x :: S) u) : PW cc RX7 nL Y pc L (.int p0 :: S) M := PW.callS hR hM hroom cf_X7_91 d rfl hcat (fun r u h => by obtain ⟨x, rfl, h⟩ := h; exact kk x u h)
theorem cf_X7_95 : xCS RX7 95 yX7_isDay cX7_isDay 1 (some .boolean) 1 := ⟨by decide +kernel, by decide +kernel, by decide +kernel, by decide +kernel⟩
theorem cs_X7_95 {p0 : Int32} {post : Int32 → xM → Prop} (hR : xRm Y fr lo) (hM : K_X7_isDay [.int p0] M (xRi post)) (hroom : 1 + 1 ≤ fr ∧ 8 + (1 + 11) + 22 ≤ lo) (d : decode cc pc = .ok (.invokestatic 95, 3)) (hcat : (S.map fun v => v.category).sum ≤ 8) (kk : ∀ x u, post x u → PW cc RX7 nL Y (pc + 3) L (.int x :: S) u) : PW cc RX7 nL Y pc L (.int p0 :: S) M := PW.callS hR hM hroom cf_X7_95 d rfl hcat (fun r u h => by obtain ⟨x, rfl, h⟩ := h; exact kk x u h)
theorem cf_X7_99 : xCV RX7 99 RX7 yX7_isField cX7_isField 2 (some .boolean) 1 := ⟨by decide +kernel, rfl, by decide +kernel, by decide +kernel, by decide +kernel⟩
theorem cs_X7_99 {p0 : Int32} {post : Int32 → xM → Prop} (hR : xRm Y fr lo) (hM : K_X7_isField [.ref 32, .int p0] M (xRi post)) (hroom : 1 + 1 ≤ fr ∧ 8 + (2 + 11) + 22 ≤ lo) (d : decode cc pc = .ok (.invokevirtual 99, 3)) (hcat : (S.map fun v => v.category).sum ≤ 8) (kk : ∀ x u, post x u → PW cc RX7 nL Y (pc + 3) L (.int x :: S) u) : PW cc RX7 nL Y pc L (.int p0 :: .ref 32 :: S) M := PW.callV (b := 32) (ci := 7) (C := RX7) (T := TX7) (N := 28) hR hM hroom cf_X7_99 rfl rfl d rfl hcat (fun r u h => by obtain ⟨x, rfl, h⟩ := h; exact kk x u h)
theorem cf_X7_102 : xCV RX7 102 RX7 yX7_lackOf cX7_lackOf 6 (some .int) 3 := ⟨by decide +kernel, rfl, by decide +kernel, by decide +kernel, by decide +kernel⟩
theorem cs_X7_102 {p0 : Int32} {p1 : Int32} {p2 : Int32} {post : Int32 → xM → Prop} (hR : xRm Y fr lo) (hM : K_X7_lackOf [.ref 32, .int p0, .int p1, .int p2] M (xRi post)) (hroom : 0 + 1 ≤ fr ∧ 8 + (6 + 11) + 0 ≤ lo) (d : decode cc pc = .ok (.invokevirtual 102, 3)) (hcat : (S.map fun v => v.category).sum ≤ 8) (kk : ∀ x u, post x u → PW cc RX7 nL Y (pc + 3) L (.int x :: S) u) : PW cc RX7 nL Y pc L (.int p2 :: .int p1 :: .int p0 :: .ref 32 :: S) M := PW.callV (b := 32) (ci := 7) (C := RX7) (T := TX7) (N := 28) hR hM hroom cf_X7_102 rfl rfl d rfl hcat (fun r u h => by obtain ⟨x, rfl, h⟩ := h; exact kk x u h)
theorem cf_X7_106 : xCV RX7 106 RX7 yX7_findUses cX7_findUses 5 none 0 := ⟨by decide +kernel, rfl, by decide +kernel, by decide +kernel, by decide +kernel⟩
theorem cs_X7_106  {post : xM → Prop} (hR : xRm Y fr lo) (hM : K_X7_findUses [.ref 32] M (xRv post)) (hroom : 1 + 1 ≤ fr ∧ 8 + (5 + 11) + 22 ≤ lo) (d : decode cc pc = .ok (.invokevirtual 106, 3)) (hcat : (S.map fun v => v.category).sum ≤ 8) (kk : ∀ u, post u → PW cc RX7 nL Y (pc + 3) L S u) : PW cc RX7 nL Y pc L (.ref 32 :: S) M := PW.callV (b := 32) (ci := 7) (C := RX7) (T := TX7) (N := 28) hR hM hroom cf_X7_106 rfl rfl d rfl hcat (fun r u h => by obtain ⟨rfl, h⟩ := h; exact kk u h)
theorem cf_X7_109 : xCV RX7 109 RX7 yX7_all cX7_all 4 (some .int) 1 := ⟨by decide +kernel, rfl, by decide +kernel, by decide +kernel, by decide +kernel⟩
theorem cs_X7_109 {p0 : Int32} {post : Int32 → xM → Prop} (hR : xRm Y fr lo) (hM : K_X7_all [.ref 32, .int p0] M (xRi post)) (hroom : 0 + 1 ≤ fr ∧ 8 + (4 + 11) + 0 ≤ lo) (d : decode cc pc = .ok (.invokevirtual 109, 3)) (hcat : (S.map fun v => v.category).sum ≤ 8) (kk : ∀ x u, post x u → PW cc RX7 nL Y (pc + 3) L (.int x :: S) u) : PW cc RX7 nL Y pc L (.int p0 :: .ref 32 :: S) M := PW.callV (b := 32) (ci := 7) (C := RX7) (T := TX7) (N := 28) hR hM hroom cf_X7_109 rfl rfl d rfl hcat (fun r u h => by obtain ⟨x, rfl, h⟩ := h; exact kk x u h)
theorem cf_X7_113 : xCV RX7 113 RX7 yX7_isFit cX7_isFit 4 (some .boolean) 1 := ⟨by decide +kernel, rfl, by decide +kernel, by decide +kernel, by decide +kernel⟩
theorem cs_X7_113 {p0 : Int32} {post : Int32 → xM → Prop} (hR : xRm Y fr lo) (hM : K_X7_isFit [.ref 32, .int p0] M (xRi post)) (hroom : 1 + 1 ≤ fr ∧ 8 + (4 + 11) + 25 ≤ lo) (d : decode cc pc = .ok (.invokevirtual 113, 3)) (hcat : (S.map fun v => v.category).sum ≤ 8) (kk : ∀ x u, post x u → PW cc RX7 nL Y (pc + 3) L (.int x :: S) u) : PW cc RX7 nL Y pc L (.int p0 :: .ref 32 :: S) M := PW.callV (b := 32) (ci := 7) (C := RX7) (T := TX7) (N := 28) hR hM hroom cf_X7_113 rfl rfl d rfl hcat (fun r u h => by obtain ⟨x, rfl, h⟩ := h; exact kk x u h)
theorem cf_X7_116 : xCV RX7 116 RX7 yX7_hiredFor cX7_hiredFor 6 (some .long) 1 := ⟨by decide +kernel, rfl, by decide +kernel, by decide +kernel, by decide +kernel⟩
theorem cs_X7_116 {p0 : Int32} {post : Int64 → xM → Prop} (hR : xRm Y fr lo) (hM : K_X7_hiredFor [.ref 32, .int p0] M (xRl post)) (hroom : 1 + 1 ≤ fr ∧ 8 + (6 + 11) + 25 ≤ lo) (d : decode cc pc = .ok (.invokevirtual 116, 3)) (hcat : (S.map fun v => v.category).sum ≤ 8) (kk : ∀ x u, post x u → PW cc RX7 nL Y (pc + 3) L (.long x :: S) u) : PW cc RX7 nL Y pc L (.int p0 :: .ref 32 :: S) M := PW.callV (b := 32) (ci := 7) (C := RX7) (T := TX7) (N := 28) hR hM hroom cf_X7_116 rfl rfl d rfl hcat (fun r u h => by obtain ⟨x, rfl, h⟩ := h; exact kk x u h)
theorem cf_X7_123 : xCV RX7 123 RX7 yX7_aboutOf cX7_aboutOf 3 (some .int) 2 := ⟨by decide +kernel, rfl, by decide +kernel, by decide +kernel, by decide +kernel⟩
theorem cs_X7_123 {p0 : Int32} {p1 : Int32} {post : Int32 → xM → Prop} (hR : xRm Y fr lo) (hM : K_X7_aboutOf [.ref 32, .int p0, .int p1] M (xRi post)) (hroom : 0 + 1 ≤ fr ∧ 8 + (3 + 11) + 0 ≤ lo) (d : decode cc pc = .ok (.invokevirtual 123, 3)) (hcat : (S.map fun v => v.category).sum ≤ 8) (kk : ∀ x u, post x u → PW cc RX7 nL Y (pc + 3) L (.int x :: S) u) : PW cc RX7 nL Y pc L (.int p1 :: .int p0 :: .ref 32 :: S) M := PW.callV (b := 32) (ci := 7) (C := RX7) (T := TX7) (N := 28) hR hM hroom cf_X7_123 rfl rfl d rfl hcat (fun r u h => by obtain ⟨x, rfl, h⟩ := h; exact kk x u h)
theorem cf_X7_127 : xCV RX7 127 RX7 yX7_isSet cX7_isSet 2 (some .boolean) 1 := ⟨by decide +kernel, rfl, by decide +kernel, by decide +kernel, by decide +kernel⟩
theorem cs_X7_127 {p0 : Int32} {post : Int32 → xM → Prop} (hR : xRm Y fr lo) (hM : K_X7_isSet [.ref 32, .int p0] M (xRi post)) (hroom : 1 + 1 ≤ fr ∧ 8 + (2 + 11) + 22 ≤ lo) (d : decode cc pc = .ok (.invokevirtual 127, 3)) (hcat : (S.map fun v => v.category).sum ≤ 8) (kk : ∀ x u, post x u → PW cc RX7 nL Y (pc + 3) L (.int x :: S) u) : PW cc RX7 nL Y pc L (.int p0 :: .ref 32 :: S) M := PW.callV (b := 32) (ci := 7) (C := RX7) (T := TX7) (N := 28) hR hM hroom cf_X7_127 rfl rfl d rfl hcat (fun r u h => by obtain ⟨x, rfl, h⟩ := h; exact kk x u h)
theorem cf_X7_130 : xCV RX7 130 RX7 yX7_prices cX7_prices 4 (some .int) 1 := ⟨by decide +kernel, rfl, by decide +kernel, by decide +kernel, by decide +kernel⟩
theorem cs_X7_130 {p0 : Int32} {post : Int32 → xM → Prop} (hR : xRm Y fr lo) (hM : K_X7_prices [.ref 32, .int p0] M (xRi post)) (hroom : 0 + 1 ≤ fr ∧ 8 + (4 + 11) + 0 ≤ lo) (d : decode cc pc = .ok (.invokevirtual 130, 3)) (hcat : (S.map fun v => v.category).sum ≤ 8) (kk : ∀ x u, post x u → PW cc RX7 nL Y (pc + 3) L (.int x :: S) u) : PW cc RX7 nL Y pc L (.int p0 :: .ref 32 :: S) M := PW.callV (b := 32) (ci := 7) (C := RX7) (T := TX7) (N := 28) hR hM hroom cf_X7_130 rfl rfl d rfl hcat (fun r u h => by obtain ⟨x, rfl, h⟩ := h; exact kk x u h)
theorem cf_X7_135 : xCS RX7 135 yX7_many cX7_many 3 (some .int) 1 := ⟨by decide +kernel, by decide +kernel, by decide +kernel, by decide +kernel⟩
theorem cs_X7_135 {p0 : Int32} {post : Int32 → xM → Prop} (hR : xRm Y fr lo) (hM : K_X7_many [.int p0] M (xRi post)) (hroom : 0 + 1 ≤ fr ∧ 8 + (3 + 11) + 0 ≤ lo) (d : decode cc pc = .ok (.invokestatic 135, 3)) (hcat : (S.map fun v => v.category).sum ≤ 8) (kk : ∀ x u, post x u → PW cc RX7 nL Y (pc + 3) L (.int x :: S) u) : PW cc RX7 nL Y pc L (.int p0 :: S) M := PW.callS hR hM hroom cf_X7_135 d rfl hcat (fun r u h => by obtain ⟨x, rfl, h⟩ := h; exact kk x u h)
theorem cf_X7_138 : xCS RX7 138 yX7_isGuests cX7_isGuests 1 (some .boolean) 1 := ⟨by decide +kernel, by decide +kernel, by decide +kernel, by decide +kernel⟩
theorem cs_X7_138 {p0 : Int32} {post : Int32 → xM → Prop} (hR : xRm Y fr lo) (hM : K_X7_isGuests [.int p0] M (xRi post)) (hroom : 1 + 1 ≤ fr ∧ 8 + (1 + 11) + 22 ≤ lo) (d : decode cc pc = .ok (.invokestatic 138, 3)) (hcat : (S.map fun v => v.category).sum ≤ 8) (kk : ∀ x u, post x u → PW cc RX7 nL Y (pc + 3) L (.int x :: S) u) : PW cc RX7 nL Y pc L (.int p0 :: S) M := PW.callS hR hM hroom cf_X7_138 d rfl hcat (fun r u h => by obtain ⟨x, rfl, h⟩ := h; exact kk x u h)
theorem cf_X7_144 : xCV RX7 144 RX7 yX7_doorsFor cX7_doorsFor 4 (some .int) 1 := ⟨by decide +kernel, rfl, by decide +kernel, by decide +kernel, by decide +kernel⟩
theorem cs_X7_144 {p0 : Int32} {post : Int32 → xM → Prop} (hR : xRm Y fr lo) (hM : K_X7_doorsFor [.ref 32, .int p0] M (xRi post)) (hroom : 0 + 1 ≤ fr ∧ 8 + (4 + 11) + 0 ≤ lo) (d : decode cc pc = .ok (.invokevirtual 144, 3)) (hcat : (S.map fun v => v.category).sum ≤ 8) (kk : ∀ x u, post x u → PW cc RX7 nL Y (pc + 3) L (.int x :: S) u) : PW cc RX7 nL Y pc L (.int p0 :: .ref 32 :: S) M := PW.callV (b := 32) (ci := 7) (C := RX7) (T := TX7) (N := 28) hR hM hroom cf_X7_144 rfl rfl d rfl hcat (fun r u h => by obtain ⟨x, rfl, h⟩ := h; exact kk x u h)
theorem cf_X7_147 : xCV RX7 147 RX7 yX7_doesBear cX7_doesBear 3 (some .boolean) 2 := ⟨by decide +kernel, rfl, by decide +kernel, by decide +kernel, by decide +kernel⟩
theorem cs_X7_147 {p0 : Int32} {p1 : Int32} {post : Int32 → xM → Prop} (hR : xRm Y fr lo) (hM : K_X7_doesBear [.ref 32, .int p0, .int p1] M (xRi post)) (hroom : 0 + 1 ≤ fr ∧ 8 + (3 + 11) + 0 ≤ lo) (d : decode cc pc = .ok (.invokevirtual 147, 3)) (hcat : (S.map fun v => v.category).sum ≤ 8) (kk : ∀ x u, post x u → PW cc RX7 nL Y (pc + 3) L (.int x :: S) u) : PW cc RX7 nL Y pc L (.int p1 :: .int p0 :: .ref 32 :: S) M := PW.callV (b := 32) (ci := 7) (C := RX7) (T := TX7) (N := 28) hR hM hroom cf_X7_147 rfl rfl d rfl hcat (fun r u h => by obtain ⟨x, rfl, h⟩ := h; exact kk x u h)
theorem cf_X7_154 : xCV RX7 154 RX7 yX7_isOfDay cX7_isOfDay 3 (some .boolean) 2 := ⟨by decide +kernel, rfl, by decide +kernel, by decide +kernel, by decide +kernel⟩
theorem cs_X7_154 {p0 : Int32} {p1 : Int32} {post : Int32 → xM → Prop} (hR : xRm Y fr lo) (hM : K_X7_isOfDay [.ref 32, .int p0, .int p1] M (xRi post)) (hroom : 0 + 1 ≤ fr ∧ 8 + (3 + 11) + 0 ≤ lo) (d : decode cc pc = .ok (.invokevirtual 154, 3)) (hcat : (S.map fun v => v.category).sum ≤ 8) (kk : ∀ x u, post x u → PW cc RX7 nL Y (pc + 3) L (.int x :: S) u) : PW cc RX7 nL Y pc L (.int p1 :: .int p0 :: .ref 32 :: S) M := PW.callV (b := 32) (ci := 7) (C := RX7) (T := TX7) (N := 28) hR hM hroom cf_X7_154 rfl rfl d rfl hcat (fun r u h => by obtain ⟨x, rfl, h⟩ := h; exact kk x u h)
theorem cf_X7_157 : xCV RX7 157 RX7 yX7_greatest cX7_greatest 6 (some .int) 2 := ⟨by decide +kernel, rfl, by decide +kernel, by decide +kernel, by decide +kernel⟩
theorem cs_X7_157 {p0 : Int32} {p1 : Int32} {post : Int32 → xM → Prop} (hR : xRm Y fr lo) (hM : K_X7_greatest [.ref 32, .int p0, .int p1] M (xRi post)) (hroom : 0 + 1 ≤ fr ∧ 8 + (6 + 11) + 0 ≤ lo) (d : decode cc pc = .ok (.invokevirtual 157, 3)) (hcat : (S.map fun v => v.category).sum ≤ 8) (kk : ∀ x u, post x u → PW cc RX7 nL Y (pc + 3) L (.int x :: S) u) : PW cc RX7 nL Y pc L (.int p1 :: .int p0 :: .ref 32 :: S) M := PW.callV (b := 32) (ci := 7) (C := RX7) (T := TX7) (N := 28) hR hM hroom cf_X7_157 rfl rfl d rfl hcat (fun r u h => by obtain ⟨x, rfl, h⟩ := h; exact kk x u h)
theorem cf_X7_160 : xCV RX7 160 RX7 yX7_deals cX7_deals 8 (some .int) 2 := ⟨by decide +kernel, rfl, by decide +kernel, by decide +kernel, by decide +kernel⟩
theorem cs_X7_160 {p0 : Int32} {p1 : Int32} {post : Int32 → xM → Prop} (hR : xRm Y fr lo) (hM : K_X7_deals [.ref 32, .int p0, .int p1] M (xRi post)) (hroom : 1 + 1 ≤ fr ∧ 8 + (8 + 11) + 25 ≤ lo) (d : decode cc pc = .ok (.invokevirtual 160, 3)) (hcat : (S.map fun v => v.category).sum ≤ 8) (kk : ∀ x u, post x u → PW cc RX7 nL Y (pc + 3) L (.int x :: S) u) : PW cc RX7 nL Y pc L (.int p1 :: .int p0 :: .ref 32 :: S) M := PW.callV (b := 32) (ci := 7) (C := RX7) (T := TX7) (N := 28) hR hM hroom cf_X7_160 rfl rfl d rfl hcat (fun r u h => by obtain ⟨x, rfl, h⟩ := h; exact kk x u h)
theorem cf_X7_167 : xCV RX7 167 RX7 yX7_count cX7_count 4 (some .int) 1 := ⟨by decide +kernel, rfl, by decide +kernel, by decide +kernel, by decide +kernel⟩
theorem cs_X7_167 {p0 : Int32} {post : Int32 → xM → Prop} (hR : xRm Y fr lo) (hM : K_X7_count [.ref 32, .int p0] M (xRi post)) (hroom : 1 + 1 ≤ fr ∧ 8 + (4 + 11) + 23 ≤ lo) (d : decode cc pc = .ok (.invokevirtual 167, 3)) (hcat : (S.map fun v => v.category).sum ≤ 8) (kk : ∀ x u, post x u → PW cc RX7 nL Y (pc + 3) L (.int x :: S) u) : PW cc RX7 nL Y pc L (.int p0 :: .ref 32 :: S) M := PW.callV (b := 32) (ci := 7) (C := RX7) (T := TX7) (N := 28) hR hM hroom cf_X7_167 rfl rfl d rfl hcat (fun r u h => by obtain ⟨x, rfl, h⟩ := h; exact kk x u h)
theorem cf_L_13 : xCV RL 13 RX6 yX6_thing cX6_thing 7 (some .int) 6 := ⟨by decide +kernel, rfl, by decide +kernel, by decide +kernel, by decide +kernel⟩
theorem cs_L_13 {p0 : Int32} {p1 : Int32} {p2 : Int32} {p3 : Int32} {p4 : Int32} {p5 : Int32} {post : Int32 → xM → Prop} (hR : xRm Y fr lo) (hM : K_X6_thing [.ref 0, .int p0, .int p1, .int p2, .int p3, .int p4, .int p5] M (xRi post)) (hroom : 1 + 1 ≤ fr ∧ 8 + (7 + 11) + 22 ≤ lo) (d : decode cc pc = .ok (.invokevirtual 13, 3)) (hcat : (S.map fun v => v.category).sum ≤ 8) (kk : ∀ x u, post x u → PW cc RL nL Y (pc + 3) L (.int x :: S) u) : PW cc RL nL Y pc L (.int p5 :: .int p4 :: .int p3 :: .int p2 :: .int p1 :: .int p0 :: .ref 0 :: S) M := PW.callV (b := 0) (ci := 6) (C := RX6) (T := TX6) (N := 8) hR hM hroom cf_L_13 rfl rfl d rfl hcat (fun r u h => by obtain ⟨x, rfl, h⟩ := h; exact kk x u h)
theorem cf_L_17 : xCV RL 17 RX7 yX7_thing cX7_thing 7 (some .int) 6 := ⟨by decide +kernel, rfl, by decide +kernel, by decide +kernel, by decide +kernel⟩
theorem cs_L_17 {p0 : Int32} {p1 : Int32} {p2 : Int32} {p3 : Int32} {p4 : Int32} {p5 : Int32} {post : Int32 → xM → Prop} (hR : xRm Y fr lo) (hM : K_X7_thing [.ref 32, .int p0, .int p1, .int p2, .int p3, .int p4, .int p5] M (xRi post)) (hroom : 2 + 1 ≤ fr ∧ 8 + (7 + 11) + 42 ≤ lo) (d : decode cc pc = .ok (.invokevirtual 17, 3)) (hcat : (S.map fun v => v.category).sum ≤ 8) (kk : ∀ x u, post x u → PW cc RL nL Y (pc + 3) L (.int x :: S) u) : PW cc RL nL Y pc L (.int p5 :: .int p4 :: .int p3 :: .int p2 :: .int p1 :: .int p0 :: .ref 32 :: S) M := PW.callV (b := 32) (ci := 7) (C := RX7) (T := TX7) (N := 28) hR hM hroom cf_L_17 rfl rfl d rfl hcat (fun r u h => by obtain ⟨x, rfl, h⟩ := h; exact kk x u h)
theorem cf_L_18 : xCV RL 18 RX6 yX6_field cX6_field 4 (some .int) 3 := ⟨by decide +kernel, rfl, by decide +kernel, by decide +kernel, by decide +kernel⟩
theorem cs_L_18 {p0 : Int32} {p1 : Int32} {p2 : Int32} {post : Int32 → xM → Prop} (hR : xRm Y fr lo) (hM : K_X6_field [.ref 0, .int p0, .int p1, .int p2] M (xRi post)) (hroom : 1 + 1 ≤ fr ∧ 8 + (4 + 11) + 23 ≤ lo) (d : decode cc pc = .ok (.invokevirtual 18, 3)) (hcat : (S.map fun v => v.category).sum ≤ 8) (kk : ∀ x u, post x u → PW cc RL nL Y (pc + 3) L (.int x :: S) u) : PW cc RL nL Y pc L (.int p2 :: .int p1 :: .int p0 :: .ref 0 :: S) M := PW.callV (b := 0) (ci := 6) (C := RX6) (T := TX6) (N := 8) hR hM hroom cf_L_18 rfl rfl d rfl hcat (fun r u h => by obtain ⟨x, rfl, h⟩ := h; exact kk x u h)
theorem cf_L_22 : xCV RL 22 RX7 yX7_field cX7_field 4 (some .int) 3 := ⟨by decide +kernel, rfl, by decide +kernel, by decide +kernel, by decide +kernel⟩
theorem cs_L_22 {p0 : Int32} {p1 : Int32} {p2 : Int32} {post : Int32 → xM → Prop} (hR : xRm Y fr lo) (hM : K_X7_field [.ref 32, .int p0, .int p1, .int p2] M (xRi post)) (hroom : 2 + 1 ≤ fr ∧ 8 + (4 + 11) + 42 ≤ lo) (d : decode cc pc = .ok (.invokevirtual 22, 3)) (hcat : (S.map fun v => v.category).sum ≤ 8) (kk : ∀ x u, post x u → PW cc RL nL Y (pc + 3) L (.int x :: S) u) : PW cc RL nL Y pc L (.int p2 :: .int p1 :: .int p0 :: .ref 32 :: S) M := PW.callV (b := 32) (ci := 7) (C := RX7) (T := TX7) (N := 28) hR hM hroom cf_L_22 rfl rfl d rfl hcat (fun r u h => by obtain ⟨x, rfl, h⟩ := h; exact kk x u h)
theorem cf_L_23 : xCV RL 23 RX6 yX6_need cX6_need 5 (some .int) 3 := ⟨by decide +kernel, rfl, by decide +kernel, by decide +kernel, by decide +kernel⟩
theorem cs_L_23 {p0 : Int32} {p1 : Int32} {p2 : Int32} {post : Int32 → xM → Prop} (hR : xRm Y fr lo) (hM : K_X6_need [.ref 0, .int p0, .int p1, .int p2] M (xRi post)) (hroom : 1 + 1 ≤ fr ∧ 8 + (5 + 11) + 22 ≤ lo) (d : decode cc pc = .ok (.invokevirtual 23, 3)) (hcat : (S.map fun v => v.category).sum ≤ 8) (kk : ∀ x u, post x u → PW cc RL nL Y (pc + 3) L (.int x :: S) u) : PW cc RL nL Y pc L (.int p2 :: .int p1 :: .int p0 :: .ref 0 :: S) M := PW.callV (b := 0) (ci := 6) (C := RX6) (T := TX6) (N := 8) hR hM hroom cf_L_23 rfl rfl d rfl hcat (fun r u h => by obtain ⟨x, rfl, h⟩ := h; exact kk x u h)
theorem cf_L_26 : xCV RL 26 RX7 yX7_need cX7_need 5 (some .int) 3 := ⟨by decide +kernel, rfl, by decide +kernel, by decide +kernel, by decide +kernel⟩
theorem cs_L_26 {p0 : Int32} {p1 : Int32} {p2 : Int32} {post : Int32 → xM → Prop} (hR : xRm Y fr lo) (hM : K_X7_need [.ref 32, .int p0, .int p1, .int p2] M (xRi post)) (hroom : 2 + 1 ≤ fr ∧ 8 + (5 + 11) + 43 ≤ lo) (d : decode cc pc = .ok (.invokevirtual 26, 3)) (hcat : (S.map fun v => v.category).sum ≤ 8) (kk : ∀ x u, post x u → PW cc RL nL Y (pc + 3) L (.int x :: S) u) : PW cc RL nL Y pc L (.int p2 :: .int p1 :: .int p0 :: .ref 32 :: S) M := PW.callV (b := 32) (ci := 7) (C := RX7) (T := TX7) (N := 28) hR hM hroom cf_L_26 rfl rfl d rfl hcat (fun r u h => by obtain ⟨x, rfl, h⟩ := h; exact kk x u h)
theorem cf_L_27 : xCV RL 27 RX6 yX6_rain cX6_rain 3 (some .int) 2 := ⟨by decide +kernel, rfl, by decide +kernel, by decide +kernel, by decide +kernel⟩
theorem cs_L_27 {p0 : Int32} {p1 : Int32} {post : Int32 → xM → Prop} (hR : xRm Y fr lo) (hM : K_X6_rain [.ref 0, .int p0, .int p1] M (xRi post)) (hroom : 1 + 1 ≤ fr ∧ 8 + (3 + 11) + 22 ≤ lo) (d : decode cc pc = .ok (.invokevirtual 27, 3)) (hcat : (S.map fun v => v.category).sum ≤ 8) (kk : ∀ x u, post x u → PW cc RL nL Y (pc + 3) L (.int x :: S) u) : PW cc RL nL Y pc L (.int p1 :: .int p0 :: .ref 0 :: S) M := PW.callV (b := 0) (ci := 6) (C := RX6) (T := TX6) (N := 8) hR hM hroom cf_L_27 rfl rfl d rfl hcat (fun r u h => by obtain ⟨x, rfl, h⟩ := h; exact kk x u h)
theorem cf_L_31 : xCV RL 31 RX7 yX7_rain cX7_rain 3 (some .int) 2 := ⟨by decide +kernel, rfl, by decide +kernel, by decide +kernel, by decide +kernel⟩
theorem cs_L_31 {p0 : Int32} {p1 : Int32} {post : Int32 → xM → Prop} (hR : xRm Y fr lo) (hM : K_X7_rain [.ref 32, .int p0, .int p1] M (xRi post)) (hroom : 2 + 1 ≤ fr ∧ 8 + (3 + 11) + 42 ≤ lo) (d : decode cc pc = .ok (.invokevirtual 31, 3)) (hcat : (S.map fun v => v.category).sum ≤ 8) (kk : ∀ x u, post x u → PW cc RL nL Y (pc + 3) L (.int x :: S) u) : PW cc RL nL Y pc L (.int p1 :: .int p0 :: .ref 32 :: S) M := PW.callV (b := 32) (ci := 7) (C := RX7) (T := TX7) (N := 28) hR hM hroom cf_L_31 rfl rfl d rfl hcat (fun r u h => by obtain ⟨x, rfl, h⟩ := h; exact kk x u h)
theorem cf_L_32 : xCV RL 32 RX6 yX6_take cX6_take 2 (some .int) 1 := ⟨by decide +kernel, rfl, by decide +kernel, by decide +kernel, by decide +kernel⟩
theorem cs_L_32 {p0 : Int32} {post : Int32 → xM → Prop} (hR : xRm Y fr lo) (hM : K_X6_take [.ref 0, .int p0] M (xRi post)) (hroom : 6 + 1 ≤ fr ∧ 8 + (2 + 11) + 142 ≤ lo) (d : decode cc pc = .ok (.invokevirtual 32, 3)) (hcat : (S.map fun v => v.category).sum ≤ 8) (kk : ∀ x u, post x u → PW cc RL nL Y (pc + 3) L (.int x :: S) u) : PW cc RL nL Y pc L (.int p0 :: .ref 0 :: S) M := PW.callV (b := 0) (ci := 6) (C := RX6) (T := TX6) (N := 8) hR hM hroom cf_L_32 rfl rfl d rfl hcat (fun r u h => by obtain ⟨x, rfl, h⟩ := h; exact kk x u h)
theorem cf_L_36 : xCV RL 36 RX7 yX7_take cX7_take 2 (some .int) 1 := ⟨by decide +kernel, rfl, by decide +kernel, by decide +kernel, by decide +kernel⟩
theorem cs_L_36 {p0 : Int32} {post : Int32 → xM → Prop} (hR : xRm Y fr lo) (hM : K_X7_take [.ref 32, .int p0] M (xRi post)) (hroom : 2 + 1 ≤ fr ∧ 8 + (2 + 11) + 48 ≤ lo) (d : decode cc pc = .ok (.invokevirtual 36, 3)) (hcat : (S.map fun v => v.category).sum ≤ 8) (kk : ∀ x u, post x u → PW cc RL nL Y (pc + 3) L (.int x :: S) u) : PW cc RL nL Y pc L (.int p0 :: .ref 32 :: S) M := PW.callV (b := 32) (ci := 7) (C := RX7) (T := TX7) (N := 28) hR hM hroom cf_L_36 rfl rfl d rfl hcat (fun r u h => by obtain ⟨x, rfl, h⟩ := h; exact kk x u h)
theorem cf_L_37 : xCV RL 37 RX6 yX6_hire cX6_hire 2 (some .int) 1 := ⟨by decide +kernel, rfl, by decide +kernel, by decide +kernel, by decide +kernel⟩
theorem cs_L_37 {p0 : Int32} {post : Int32 → xM → Prop} (hR : xRm Y fr lo) (hM : K_X6_hire [.ref 0, .int p0] M (xRi post)) (hroom : 5 + 1 ≤ fr ∧ 8 + (2 + 11) + 121 ≤ lo) (d : decode cc pc = .ok (.invokevirtual 37, 3)) (hcat : (S.map fun v => v.category).sum ≤ 8) (kk : ∀ x u, post x u → PW cc RL nL Y (pc + 3) L (.int x :: S) u) : PW cc RL nL Y pc L (.int p0 :: .ref 0 :: S) M := PW.callV (b := 0) (ci := 6) (C := RX6) (T := TX6) (N := 8) hR hM hroom cf_L_37 rfl rfl d rfl hcat (fun r u h => by obtain ⟨x, rfl, h⟩ := h; exact kk x u h)
theorem cf_L_40 : xCV RL 40 RX7 yX7_hire cX7_hire 2 (some .int) 1 := ⟨by decide +kernel, rfl, by decide +kernel, by decide +kernel, by decide +kernel⟩
theorem cs_L_40 {p0 : Int32} {post : Int32 → xM → Prop} (hR : xRm Y fr lo) (hM : K_X7_hire [.ref 32, .int p0] M (xRi post)) (hroom : 2 + 1 ≤ fr ∧ 8 + (2 + 11) + 50 ≤ lo) (d : decode cc pc = .ok (.invokevirtual 40, 3)) (hcat : (S.map fun v => v.category).sum ≤ 8) (kk : ∀ x u, post x u → PW cc RL nL Y (pc + 3) L (.int x :: S) u) : PW cc RL nL Y pc L (.int p0 :: .ref 32 :: S) M := PW.callV (b := 32) (ci := 7) (C := RX7) (T := TX7) (N := 28) hR hM hroom cf_L_40 rfl rfl d rfl hcat (fun r u h => by obtain ⟨x, rfl, h⟩ := h; exact kk x u h)
theorem cf_L_41 : xCV RL 41 RX6 yX6_giveUp cX6_giveUp 2 (some .int) 1 := ⟨by decide +kernel, rfl, by decide +kernel, by decide +kernel, by decide +kernel⟩
theorem cs_L_41 {p0 : Int32} {post : Int32 → xM → Prop} (hR : xRm Y fr lo) (hM : K_X6_giveUp [.ref 0, .int p0] M (xRi post)) (hroom : 1 + 1 ≤ fr ∧ 8 + (2 + 11) + 21 ≤ lo) (d : decode cc pc = .ok (.invokevirtual 41, 3)) (hcat : (S.map fun v => v.category).sum ≤ 8) (kk : ∀ x u, post x u → PW cc RL nL Y (pc + 3) L (.int x :: S) u) : PW cc RL nL Y pc L (.int p0 :: .ref 0 :: S) M := PW.callV (b := 0) (ci := 6) (C := RX6) (T := TX6) (N := 8) hR hM hroom cf_L_41 rfl rfl d rfl hcat (fun r u h => by obtain ⟨x, rfl, h⟩ := h; exact kk x u h)
theorem cf_L_44 : xCV RL 44 RX7 yX7_giveUp cX7_giveUp 2 (some .int) 1 := ⟨by decide +kernel, rfl, by decide +kernel, by decide +kernel, by decide +kernel⟩
theorem cs_L_44 {p0 : Int32} {post : Int32 → xM → Prop} (hR : xRm Y fr lo) (hM : K_X7_giveUp [.ref 32, .int p0] M (xRi post)) (hroom : 2 + 1 ≤ fr ∧ 8 + (2 + 11) + 43 ≤ lo) (d : decode cc pc = .ok (.invokevirtual 44, 3)) (hcat : (S.map fun v => v.category).sum ≤ 8) (kk : ∀ x u, post x u → PW cc RL nL Y (pc + 3) L (.int x :: S) u) : PW cc RL nL Y pc L (.int p0 :: .ref 32 :: S) M := PW.callV (b := 32) (ci := 7) (C := RX7) (T := TX7) (N := 28) hR hM hroom cf_L_44 rfl rfl d rfl hcat (fun r u h => by obtain ⟨x, rfl, h⟩ := h; exact kk x u h)
theorem cf_L_45 : xCV RL 45 RX6 yX6_change cX6_change 4 (some .int) 3 := ⟨by decide +kernel, rfl, by decide +kernel, by decide +kernel, by decide +kernel⟩
theorem cs_L_45 {p0 : Int32} {p1 : Int32} {p2 : Int32} {post : Int32 → xM → Prop} (hR : xRm Y fr lo) (hM : K_X6_change [.ref 0, .int p0, .int p1, .int p2] M (xRi post)) (hroom : 6 + 1 ≤ fr ∧ 8 + (4 + 11) + 142 ≤ lo) (d : decode cc pc = .ok (.invokevirtual 45, 3)) (hcat : (S.map fun v => v.category).sum ≤ 8) (kk : ∀ x u, post x u → PW cc RL nL Y (pc + 3) L (.int x :: S) u) : PW cc RL nL Y pc L (.int p2 :: .int p1 :: .int p0 :: .ref 0 :: S) M := PW.callV (b := 0) (ci := 6) (C := RX6) (T := TX6) (N := 8) hR hM hroom cf_L_45 rfl rfl d rfl hcat (fun r u h => by obtain ⟨x, rfl, h⟩ := h; exact kk x u h)
theorem cf_L_48 : xCV RL 48 RX7 yX7_change cX7_change 4 (some .int) 3 := ⟨by decide +kernel, rfl, by decide +kernel, by decide +kernel, by decide +kernel⟩
theorem cs_L_48 {p0 : Int32} {p1 : Int32} {p2 : Int32} {post : Int32 → xM → Prop} (hR : xRm Y fr lo) (hM : K_X7_change [.ref 32, .int p0, .int p1, .int p2] M (xRi post)) (hroom : 2 + 1 ≤ fr ∧ 8 + (4 + 11) + 48 ≤ lo) (d : decode cc pc = .ok (.invokevirtual 48, 3)) (hcat : (S.map fun v => v.category).sum ≤ 8) (kk : ∀ x u, post x u → PW cc RL nL Y (pc + 3) L (.int x :: S) u) : PW cc RL nL Y pc L (.int p2 :: .int p1 :: .int p0 :: .ref 32 :: S) M := PW.callV (b := 32) (ci := 7) (C := RX7) (T := TX7) (N := 28) hR hM hroom cf_L_48 rfl rfl d rfl hcat (fun r u h => by obtain ⟨x, rfl, h⟩ := h; exact kk x u h)
theorem cf_L_49 : xCV RL 49 RX6 yX6_back cX6_back 2 (some .int) 1 := ⟨by decide +kernel, rfl, by decide +kernel, by decide +kernel, by decide +kernel⟩
theorem cs_L_49 {p0 : Int32} {post : Int32 → xM → Prop} (hR : xRm Y fr lo) (hM : K_X6_back [.ref 0, .int p0] M (xRi post)) (hroom : 1 + 1 ≤ fr ∧ 8 + (2 + 11) + 21 ≤ lo) (d : decode cc pc = .ok (.invokevirtual 49, 3)) (hcat : (S.map fun v => v.category).sum ≤ 8) (kk : ∀ x u, post x u → PW cc RL nL Y (pc + 3) L (.int x :: S) u) : PW cc RL nL Y pc L (.int p0 :: .ref 0 :: S) M := PW.callV (b := 0) (ci := 6) (C := RX6) (T := TX6) (N := 8) hR hM hroom cf_L_49 rfl rfl d rfl hcat (fun r u h => by obtain ⟨x, rfl, h⟩ := h; exact kk x u h)
theorem cf_L_52 : xCV RL 52 RX7 yX7_back cX7_back 2 (some .int) 1 := ⟨by decide +kernel, rfl, by decide +kernel, by decide +kernel, by decide +kernel⟩
theorem cs_L_52 {p0 : Int32} {post : Int32 → xM → Prop} (hR : xRm Y fr lo) (hM : K_X7_back [.ref 32, .int p0] M (xRi post)) (hroom : 2 + 1 ≤ fr ∧ 8 + (2 + 11) + 43 ≤ lo) (d : decode cc pc = .ok (.invokevirtual 52, 3)) (hcat : (S.map fun v => v.category).sum ≤ 8) (kk : ∀ x u, post x u → PW cc RL nL Y (pc + 3) L (.int x :: S) u) : PW cc RL nL Y pc L (.int p0 :: .ref 32 :: S) M := PW.callV (b := 32) (ci := 7) (C := RX7) (T := TX7) (N := 28) hR hM hroom cf_L_52 rfl rfl d rfl hcat (fun r u h => by obtain ⟨x, rfl, h⟩ := h; exact kk x u h)
theorem cf_L_53 : xCV RL 53 RX6 yX6_missing cX6_missing 5 (some .int) 3 := ⟨by decide +kernel, rfl, by decide +kernel, by decide +kernel, by decide +kernel⟩
theorem cs_L_53 {p0 : Int32} {p1 : Int32} {p2 : Int32} {post : Int32 → xM → Prop} (hR : xRm Y fr lo) (hM : K_X6_missing [.ref 0, .int p0, .int p1, .int p2] M (xRi post)) (hroom : 1 + 1 ≤ fr ∧ 8 + (5 + 11) + 22 ≤ lo) (d : decode cc pc = .ok (.invokevirtual 53, 3)) (hcat : (S.map fun v => v.category).sum ≤ 8) (kk : ∀ x u, post x u → PW cc RL nL Y (pc + 3) L (.int x :: S) u) : PW cc RL nL Y pc L (.int p2 :: .int p1 :: .int p0 :: .ref 0 :: S) M := PW.callV (b := 0) (ci := 6) (C := RX6) (T := TX6) (N := 8) hR hM hroom cf_L_53 rfl rfl d rfl hcat (fun r u h => by obtain ⟨x, rfl, h⟩ := h; exact kk x u h)
theorem cf_L_56 : xCV RL 56 RX7 yX7_missing cX7_missing 4 (some .int) 3 := ⟨by decide +kernel, rfl, by decide +kernel, by decide +kernel, by decide +kernel⟩
theorem cs_L_56 {p0 : Int32} {p1 : Int32} {p2 : Int32} {post : Int32 → xM → Prop} (hR : xRm Y fr lo) (hM : K_X7_missing [.ref 32, .int p0, .int p1, .int p2] M (xRi post)) (hroom : 2 + 1 ≤ fr ∧ 8 + (4 + 11) + 43 ≤ lo) (d : decode cc pc = .ok (.invokevirtual 56, 3)) (hcat : (S.map fun v => v.category).sum ≤ 8) (kk : ∀ x u, post x u → PW cc RL nL Y (pc + 3) L (.int x :: S) u) : PW cc RL nL Y pc L (.int p2 :: .int p1 :: .int p0 :: .ref 32 :: S) M := PW.callV (b := 32) (ci := 7) (C := RX7) (T := TX7) (N := 28) hR hM hroom cf_L_56 rfl rfl d rfl hcat (fun r u h => by obtain ⟨x, rfl, h⟩ := h; exact kk x u h)
theorem cf_L_57 : xCV RL 57 RX6 yX6_mend cX6_mend 3 (some .int) 2 := ⟨by decide +kernel, rfl, by decide +kernel, by decide +kernel, by decide +kernel⟩
theorem cs_L_57 {p0 : Int32} {p1 : Int32} {post : Int32 → xM → Prop} (hR : xRm Y fr lo) (hM : K_X6_mend [.ref 0, .int p0, .int p1] M (xRi post)) (hroom : 1 + 1 ≤ fr ∧ 8 + (3 + 11) + 22 ≤ lo) (d : decode cc pc = .ok (.invokevirtual 57, 3)) (hcat : (S.map fun v => v.category).sum ≤ 8) (kk : ∀ x u, post x u → PW cc RL nL Y (pc + 3) L (.int x :: S) u) : PW cc RL nL Y pc L (.int p1 :: .int p0 :: .ref 0 :: S) M := PW.callV (b := 0) (ci := 6) (C := RX6) (T := TX6) (N := 8) hR hM hroom cf_L_57 rfl rfl d rfl hcat (fun r u h => by obtain ⟨x, rfl, h⟩ := h; exact kk x u h)
theorem cf_L_61 : xCV RL 61 RX7 yX7_mend cX7_mend 3 (some .int) 2 := ⟨by decide +kernel, rfl, by decide +kernel, by decide +kernel, by decide +kernel⟩
theorem cs_L_61 {p0 : Int32} {p1 : Int32} {post : Int32 → xM → Prop} (hR : xRm Y fr lo) (hM : K_X7_mend [.ref 32, .int p0, .int p1] M (xRi post)) (hroom : 2 + 1 ≤ fr ∧ 8 + (3 + 11) + 42 ≤ lo) (d : decode cc pc = .ok (.invokevirtual 61, 3)) (hcat : (S.map fun v => v.category).sum ≤ 8) (kk : ∀ x u, post x u → PW cc RL nL Y (pc + 3) L (.int x :: S) u) : PW cc RL nL Y pc L (.int p1 :: .int p0 :: .ref 32 :: S) M := PW.callV (b := 32) (ci := 7) (C := RX7) (T := TX7) (N := 28) hR hM hroom cf_L_61 rfl rfl d rfl hcat (fun r u h => by obtain ⟨x, rfl, h⟩ := h; exact kk x u h)
theorem cf_L_62 : xCV RL 62 RX6 yX6_about cX6_about 3 (some .int) 2 := ⟨by decide +kernel, rfl, by decide +kernel, by decide +kernel, by decide +kernel⟩
theorem cs_L_62 {p0 : Int32} {p1 : Int32} {post : Int32 → xM → Prop} (hR : xRm Y fr lo) (hM : K_X6_about [.ref 0, .int p0, .int p1] M (xRi post)) (hroom : 1 + 1 ≤ fr ∧ 8 + (3 + 11) + 22 ≤ lo) (d : decode cc pc = .ok (.invokevirtual 62, 3)) (hcat : (S.map fun v => v.category).sum ≤ 8) (kk : ∀ x u, post x u → PW cc RL nL Y (pc + 3) L (.int x :: S) u) : PW cc RL nL Y pc L (.int p1 :: .int p0 :: .ref 0 :: S) M := PW.callV (b := 0) (ci := 6) (C := RX6) (T := TX6) (N := 8) hR hM hroom cf_L_62 rfl rfl d rfl hcat (fun r u h => by obtain ⟨x, rfl, h⟩ := h; exact kk x u h)
theorem cf_L_65 : xCV RL 65 RX7 yX7_about cX7_about 3 (some .int) 2 := ⟨by decide +kernel, rfl, by decide +kernel, by decide +kernel, by decide +kernel⟩
theorem cs_L_65 {p0 : Int32} {p1 : Int32} {post : Int32 → xM → Prop} (hR : xRm Y fr lo) (hM : K_X7_about [.ref 32, .int p0, .int p1] M (xRi post)) (hroom : 2 + 1 ≤ fr ∧ 8 + (3 + 11) + 43 ≤ lo) (d : decode cc pc = .ok (.invokevirtual 65, 3)) (hcat : (S.map fun v => v.category).sum ≤ 8) (kk : ∀ x u, post x u → PW cc RL nL Y (pc + 3) L (.int x :: S) u) : PW cc RL nL Y pc L (.int p1 :: .int p0 :: .ref 32 :: S) M := PW.callV (b := 32) (ci := 7) (C := RX7) (T := TX7) (N := 28) hR hM hroom cf_L_65 rfl rfl d rfl hcat (fun r u h => by obtain ⟨x, rfl, h⟩ := h; exact kk x u h)
theorem cf_L_66 : xCV RL 66 RX6 yX6_lack cX6_lack 3 (some .int) 2 := ⟨by decide +kernel, rfl, by decide +kernel, by decide +kernel, by decide +kernel⟩
theorem cs_L_66 {p0 : Int32} {p1 : Int32} {post : Int32 → xM → Prop} (hR : xRm Y fr lo) (hM : K_X6_lack [.ref 0, .int p0, .int p1] M (xRi post)) (hroom : 5 + 1 ≤ fr ∧ 8 + (3 + 11) + 121 ≤ lo) (d : decode cc pc = .ok (.invokevirtual 66, 3)) (hcat : (S.map fun v => v.category).sum ≤ 8) (kk : ∀ x u, post x u → PW cc RL nL Y (pc + 3) L (.int x :: S) u) : PW cc RL nL Y pc L (.int p1 :: .int p0 :: .ref 0 :: S) M := PW.callV (b := 0) (ci := 6) (C := RX6) (T := TX6) (N := 8) hR hM hroom cf_L_66 rfl rfl d rfl hcat (fun r u h => by obtain ⟨x, rfl, h⟩ := h; exact kk x u h)
theorem cf_L_69 : xCV RL 69 RX7 yX7_lack cX7_lack 3 (some .int) 2 := ⟨by decide +kernel, rfl, by decide +kernel, by decide +kernel, by decide +kernel⟩
theorem cs_L_69 {p0 : Int32} {p1 : Int32} {post : Int32 → xM → Prop} (hR : xRm Y fr lo) (hM : K_X7_lack [.ref 32, .int p0, .int p1] M (xRi post)) (hroom : 2 + 1 ≤ fr ∧ 8 + (3 + 11) + 46 ≤ lo) (d : decode cc pc = .ok (.invokevirtual 69, 3)) (hcat : (S.map fun v => v.category).sum ≤ 8) (kk : ∀ x u, post x u → PW cc RL nL Y (pc + 3) L (.int x :: S) u) : PW cc RL nL Y pc L (.int p1 :: .int p0 :: .ref 32 :: S) M := PW.callV (b := 32) (ci := 7) (C := RX7) (T := TX7) (N := 28) hR hM hroom cf_L_69 rfl rfl d rfl hcat (fun r u h => by obtain ⟨x, rfl, h⟩ := h; exact kk x u h)
theorem cf_L_70 : xCV RL 70 RX6 yX6_fits cX6_fits 2 (some .int) 1 := ⟨by decide +kernel, rfl, by decide +kernel, by decide +kernel, by decide +kernel⟩
theorem cs_L_70 {p0 : Int32} {post : Int32 → xM → Prop} (hR : xRm Y fr lo) (hM : K_X6_fits [.ref 0, .int p0] M (xRi post)) (hroom : 6 + 1 ≤ fr ∧ 8 + (2 + 11) + 142 ≤ lo) (d : decode cc pc = .ok (.invokevirtual 70, 3)) (hcat : (S.map fun v => v.category).sum ≤ 8) (kk : ∀ x u, post x u → PW cc RL nL Y (pc + 3) L (.int x :: S) u) : PW cc RL nL Y pc L (.int p0 :: .ref 0 :: S) M := PW.callV (b := 0) (ci := 6) (C := RX6) (T := TX6) (N := 8) hR hM hroom cf_L_70 rfl rfl d rfl hcat (fun r u h => by obtain ⟨x, rfl, h⟩ := h; exact kk x u h)
theorem cf_L_73 : xCV RL 73 RX7 yX7_fits cX7_fits 2 (some .int) 1 := ⟨by decide +kernel, rfl, by decide +kernel, by decide +kernel, by decide +kernel⟩
theorem cs_L_73 {p0 : Int32} {post : Int32 → xM → Prop} (hR : xRm Y fr lo) (hM : K_X7_fits [.ref 32, .int p0] M (xRi post)) (hroom : 2 + 1 ≤ fr ∧ 8 + (2 + 11) + 48 ≤ lo) (d : decode cc pc = .ok (.invokevirtual 73, 3)) (hcat : (S.map fun v => v.category).sum ≤ 8) (kk : ∀ x u, post x u → PW cc RL nL Y (pc + 3) L (.int x :: S) u) : PW cc RL nL Y pc L (.int p0 :: .ref 32 :: S) M := PW.callV (b := 32) (ci := 7) (C := RX7) (T := TX7) (N := 28) hR hM hroom cf_L_73 rfl rfl d rfl hcat (fun r u h => by obtain ⟨x, rfl, h⟩ := h; exact kk x u h)
theorem cf_L_74 : xCV RL 74 RX6 yX6_best cX6_best 7 (some .int) 0 := ⟨by decide +kernel, rfl, by decide +kernel, by decide +kernel, by decide +kernel⟩
theorem cs_L_74  {post : Int32 → xM → Prop} (hR : xRm Y fr lo) (hM : K_X6_best [.ref 0] M (xRi post)) (hroom : 6 + 1 ≤ fr ∧ 8 + (7 + 11) + 142 ≤ lo) (d : decode cc pc = .ok (.invokevirtual 74, 3)) (hcat : (S.map fun v => v.category).sum ≤ 8) (kk : ∀ x u, post x u → PW cc RL nL Y (pc + 3) L (.int x :: S) u) : PW cc RL nL Y pc L (.ref 0 :: S) M := PW.callV (b := 0) (ci := 6) (C := RX6) (T := TX6) (N := 8) hR hM hroom cf_L_74 rfl rfl d rfl hcat (fun r u h => by obtain ⟨x, rfl, h⟩ := h; exact kk x u h)
theorem cf_L_78 : xCV RL 78 RX7 yX7_best cX7_best 5 (some .int) 0 := ⟨by decide +kernel, rfl, by decide +kernel, by decide +kernel, by decide +kernel⟩
theorem cs_L_78  {post : Int32 → xM → Prop} (hR : xRm Y fr lo) (hM : K_X7_best [.ref 32] M (xRi post)) (hroom : 2 + 1 ≤ fr ∧ 8 + (5 + 11) + 48 ≤ lo) (d : decode cc pc = .ok (.invokevirtual 78, 3)) (hcat : (S.map fun v => v.category).sum ≤ 8) (kk : ∀ x u, post x u → PW cc RL nL Y (pc + 3) L (.int x :: S) u) : PW cc RL nL Y pc L (.ref 32 :: S) M := PW.callV (b := 32) (ci := 7) (C := RX7) (T := TX7) (N := 28) hR hM hroom cf_L_78 rfl rfl d rfl hcat (fun r u h => by obtain ⟨x, rfl, h⟩ := h; exact kk x u h)
theorem cf_L_79 : xCV RL 79 RX6 yX6_dearest cX6_dearest 12 (some .int) 0 := ⟨by decide +kernel, rfl, by decide +kernel, by decide +kernel, by decide +kernel⟩
theorem cs_L_79  {post : Int32 → xM → Prop} (hR : xRm Y fr lo) (hM : K_X6_dearest [.ref 0] M (xRi post)) (hroom : 5 + 1 ≤ fr ∧ 8 + (12 + 11) + 121 ≤ lo) (d : decode cc pc = .ok (.invokevirtual 79, 3)) (hcat : (S.map fun v => v.category).sum ≤ 8) (kk : ∀ x u, post x u → PW cc RL nL Y (pc + 3) L (.int x :: S) u) : PW cc RL nL Y pc L (.ref 0 :: S) M := PW.callV (b := 0) (ci := 6) (C := RX6) (T := TX6) (N := 8) hR hM hroom cf_L_79 rfl rfl d rfl hcat (fun r u h => by obtain ⟨x, rfl, h⟩ := h; exact kk x u h)
theorem cf_L_82 : xCV RL 82 RX7 yX7_dearest cX7_dearest 11 (some .int) 0 := ⟨by decide +kernel, rfl, by decide +kernel, by decide +kernel, by decide +kernel⟩
theorem cs_L_82  {post : Int32 → xM → Prop} (hR : xRm Y fr lo) (hM : K_X7_dearest [.ref 32] M (xRi post)) (hroom : 2 + 1 ≤ fr ∧ 8 + (11 + 11) + 50 ≤ lo) (d : decode cc pc = .ok (.invokevirtual 82, 3)) (hcat : (S.map fun v => v.category).sum ≤ 8) (kk : ∀ x u, post x u → PW cc RL nL Y (pc + 3) L (.int x :: S) u) : PW cc RL nL Y pc L (.ref 32 :: S) M := PW.callV (b := 32) (ci := 7) (C := RX7) (T := TX7) (N := 28) hR hM hroom cf_L_82 rfl rfl d rfl hcat (fun r u h => by obtain ⟨x, rfl, h⟩ := h; exact kk x u h)
theorem cf_L_83 : xCV RL 83 RX6 yX6_hired cX6_hired 2 (some .long) 1 := ⟨by decide +kernel, rfl, by decide +kernel, by decide +kernel, by decide +kernel⟩
theorem cs_L_83 {p0 : Int32} {post : Int64 → xM → Prop} (hR : xRm Y fr lo) (hM : K_X6_hired [.ref 0, .int p0] M (xRl post)) (hroom : 5 + 1 ≤ fr ∧ 8 + (2 + 11) + 121 ≤ lo) (d : decode cc pc = .ok (.invokevirtual 83, 3)) (hcat : (S.map fun v => v.category).sum ≤ 8) (kk : ∀ x u, post x u → PW cc RL nL Y (pc + 3) L (.long x :: S) u) : PW cc RL nL Y pc L (.int p0 :: .ref 0 :: S) M := PW.callV (b := 0) (ci := 6) (C := RX6) (T := TX6) (N := 8) hR hM hroom cf_L_83 rfl rfl d rfl hcat (fun r u h => by obtain ⟨x, rfl, h⟩ := h; exact kk x u h)
theorem cf_L_87 : xCV RL 87 RX7 yX7_hired cX7_hired 2 (some .long) 1 := ⟨by decide +kernel, rfl, by decide +kernel, by decide +kernel, by decide +kernel⟩
theorem cs_L_87 {p0 : Int32} {post : Int64 → xM → Prop} (hR : xRm Y fr lo) (hM : K_X7_hired [.ref 32, .int p0] M (xRl post)) (hroom : 2 + 1 ≤ fr ∧ 8 + (2 + 11) + 50 ≤ lo) (d : decode cc pc = .ok (.invokevirtual 87, 3)) (hcat : (S.map fun v => v.category).sum ≤ 8) (kk : ∀ x u, post x u → PW cc RL nL Y (pc + 3) L (.long x :: S) u) : PW cc RL nL Y pc L (.int p0 :: .ref 32 :: S) M := PW.callV (b := 32) (ci := 7) (C := RX7) (T := TX7) (N := 28) hR hM hroom cf_L_87 rfl rfl d rfl hcat (fun r u h => by obtain ⟨x, rfl, h⟩ := h; exact kk x u h)
theorem cf_L_88 : xCV RL 88 RX6 yX6_fewest cX6_fewest 8 (some .int) 0 := ⟨by decide +kernel, rfl, by decide +kernel, by decide +kernel, by decide +kernel⟩
theorem cs_L_88  {post : Int32 → xM → Prop} (hR : xRm Y fr lo) (hM : K_X6_fewest [.ref 0] M (xRi post)) (hroom : 6 + 1 ≤ fr ∧ 8 + (8 + 11) + 142 ≤ lo) (d : decode cc pc = .ok (.invokevirtual 88, 3)) (hcat : (S.map fun v => v.category).sum ≤ 8) (kk : ∀ x u, post x u → PW cc RL nL Y (pc + 3) L (.int x :: S) u) : PW cc RL nL Y pc L (.ref 0 :: S) M := PW.callV (b := 0) (ci := 6) (C := RX6) (T := TX6) (N := 8) hR hM hroom cf_L_88 rfl rfl d rfl hcat (fun r u h => by obtain ⟨x, rfl, h⟩ := h; exact kk x u h)
theorem cf_L_91 : xCV RL 91 RX7 yX7_fewest cX7_fewest 5 (some .int) 0 := ⟨by decide +kernel, rfl, by decide +kernel, by decide +kernel, by decide +kernel⟩
theorem cs_L_91  {post : Int32 → xM → Prop} (hR : xRm Y fr lo) (hM : K_X7_fewest [.ref 32] M (xRi post)) (hroom : 2 + 1 ≤ fr ∧ 8 + (5 + 11) + 48 ≤ lo) (d : decode cc pc = .ok (.invokevirtual 91, 3)) (hcat : (S.map fun v => v.category).sum ≤ 8) (kk : ∀ x u, post x u → PW cc RL nL Y (pc + 3) L (.int x :: S) u) : PW cc RL nL Y pc L (.ref 32 :: S) M := PW.callV (b := 32) (ci := 7) (C := RX7) (T := TX7) (N := 28) hR hM hroom cf_L_91 rfl rfl d rfl hcat (fun r u h => by obtain ⟨x, rfl, h⟩ := h; exact kk x u h)
theorem cf_L_92 : xCV RL 92 RX6 yX6_bays cX6_bays 3 (some .int) 2 := ⟨by decide +kernel, rfl, by decide +kernel, by decide +kernel, by decide +kernel⟩
theorem cs_L_92 {p0 : Int32} {p1 : Int32} {post : Int32 → xM → Prop} (hR : xRm Y fr lo) (hM : K_X6_bays [.ref 0, .int p0, .int p1] M (xRi post)) (hroom : 1 + 1 ≤ fr ∧ 8 + (3 + 11) + 22 ≤ lo) (d : decode cc pc = .ok (.invokevirtual 92, 3)) (hcat : (S.map fun v => v.category).sum ≤ 8) (kk : ∀ x u, post x u → PW cc RL nL Y (pc + 3) L (.int x :: S) u) : PW cc RL nL Y pc L (.int p1 :: .int p0 :: .ref 0 :: S) M := PW.callV (b := 0) (ci := 6) (C := RX6) (T := TX6) (N := 8) hR hM hroom cf_L_92 rfl rfl d rfl hcat (fun r u h => by obtain ⟨x, rfl, h⟩ := h; exact kk x u h)
theorem cf_L_95 : xCV RL 95 RX7 yX7_bays cX7_bays 3 (some .int) 2 := ⟨by decide +kernel, rfl, by decide +kernel, by decide +kernel, by decide +kernel⟩
theorem cs_L_95 {p0 : Int32} {p1 : Int32} {post : Int32 → xM → Prop} (hR : xRm Y fr lo) (hM : K_X7_bays [.ref 32, .int p0, .int p1] M (xRi post)) (hroom : 2 + 1 ≤ fr ∧ 8 + (3 + 11) + 42 ≤ lo) (d : decode cc pc = .ok (.invokevirtual 95, 3)) (hcat : (S.map fun v => v.category).sum ≤ 8) (kk : ∀ x u, post x u → PW cc RL nL Y (pc + 3) L (.int x :: S) u) : PW cc RL nL Y pc L (.int p1 :: .int p0 :: .ref 32 :: S) M := PW.callV (b := 32) (ci := 7) (C := RX7) (T := TX7) (N := 28) hR hM hroom cf_L_95 rfl rfl d rfl hcat (fun r u h => by obtain ⟨x, rfl, h⟩ := h; exact kk x u h)
theorem cf_L_96 : xCV RL 96 RX6 yX6_law cX6_law 3 (some .int) 2 := ⟨by decide +kernel, rfl, by decide +kernel, by decide +kernel, by decide +kernel⟩
theorem cs_L_96 {p0 : Int32} {p1 : Int32} {post : Int32 → xM → Prop} (hR : xRm Y fr lo) (hM : K_X6_law [.ref 0, .int p0, .int p1] M (xRi post)) (hroom : 1 + 1 ≤ fr ∧ 8 + (3 + 11) + 22 ≤ lo) (d : decode cc pc = .ok (.invokevirtual 96, 3)) (hcat : (S.map fun v => v.category).sum ≤ 8) (kk : ∀ x u, post x u → PW cc RL nL Y (pc + 3) L (.int x :: S) u) : PW cc RL nL Y pc L (.int p1 :: .int p0 :: .ref 0 :: S) M := PW.callV (b := 0) (ci := 6) (C := RX6) (T := TX6) (N := 8) hR hM hroom cf_L_96 rfl rfl d rfl hcat (fun r u h => by obtain ⟨x, rfl, h⟩ := h; exact kk x u h)
theorem cf_L_99 : xCV RL 99 RX7 yX7_law cX7_law 3 (some .int) 2 := ⟨by decide +kernel, rfl, by decide +kernel, by decide +kernel, by decide +kernel⟩
theorem cs_L_99 {p0 : Int32} {p1 : Int32} {post : Int32 → xM → Prop} (hR : xRm Y fr lo) (hM : K_X7_law [.ref 32, .int p0, .int p1] M (xRi post)) (hroom : 2 + 1 ≤ fr ∧ 8 + (3 + 11) + 42 ≤ lo) (d : decode cc pc = .ok (.invokevirtual 99, 3)) (hcat : (S.map fun v => v.category).sum ≤ 8) (kk : ∀ x u, post x u → PW cc RL nL Y (pc + 3) L (.int x :: S) u) : PW cc RL nL Y pc L (.int p1 :: .int p0 :: .ref 32 :: S) M := PW.callV (b := 32) (ci := 7) (C := RX7) (T := TX7) (N := 28) hR hM hroom cf_L_99 rfl rfl d rfl hcat (fun r u h => by obtain ⟨x, rfl, h⟩ := h; exact kk x u h)
theorem cf_L_100 : xCV RL 100 RX6 yX6_unlaw cX6_unlaw 2 (some .int) 0 := ⟨by decide +kernel, rfl, by decide +kernel, by decide +kernel, by decide +kernel⟩
theorem cs_L_100  {post : Int32 → xM → Prop} (hR : xRm Y fr lo) (hM : K_X6_unlaw [.ref 0] M (xRi post)) (hroom : 0 + 1 ≤ fr ∧ 8 + (2 + 11) + 0 ≤ lo) (d : decode cc pc = .ok (.invokevirtual 100, 3)) (hcat : (S.map fun v => v.category).sum ≤ 8) (kk : ∀ x u, post x u → PW cc RL nL Y (pc + 3) L (.int x :: S) u) : PW cc RL nL Y pc L (.ref 0 :: S) M := PW.callV (b := 0) (ci := 6) (C := RX6) (T := TX6) (N := 8) hR hM hroom cf_L_100 rfl rfl d rfl hcat (fun r u h => by obtain ⟨x, rfl, h⟩ := h; exact kk x u h)
theorem cf_L_103 : xCV RL 103 RX7 yX7_unlaw cX7_unlaw 2 (some .int) 0 := ⟨by decide +kernel, rfl, by decide +kernel, by decide +kernel, by decide +kernel⟩
theorem cs_L_103  {post : Int32 → xM → Prop} (hR : xRm Y fr lo) (hM : K_X7_unlaw [.ref 32] M (xRi post)) (hroom : 0 + 1 ≤ fr ∧ 8 + (2 + 11) + 0 ≤ lo) (d : decode cc pc = .ok (.invokevirtual 103, 3)) (hcat : (S.map fun v => v.category).sum ≤ 8) (kk : ∀ x u, post x u → PW cc RL nL Y (pc + 3) L (.int x :: S) u) : PW cc RL nL Y pc L (.ref 32 :: S) M := PW.callV (b := 32) (ci := 7) (C := RX7) (T := TX7) (N := 28) hR hM hroom cf_L_103 rfl rfl d rfl hcat (fun r u h => by obtain ⟨x, rfl, h⟩ := h; exact kk x u h)
theorem cf_L_104 : xCV RL 104 RX6 yX6_doors cX6_doors 2 (some .int) 1 := ⟨by decide +kernel, rfl, by decide +kernel, by decide +kernel, by decide +kernel⟩
theorem cs_L_104 {p0 : Int32} {post : Int32 → xM → Prop} (hR : xRm Y fr lo) (hM : K_X6_doors [.ref 0, .int p0] M (xRi post)) (hroom : 1 + 1 ≤ fr ∧ 8 + (2 + 11) + 23 ≤ lo) (d : decode cc pc = .ok (.invokevirtual 104, 3)) (hcat : (S.map fun v => v.category).sum ≤ 8) (kk : ∀ x u, post x u → PW cc RL nL Y (pc + 3) L (.int x :: S) u) : PW cc RL nL Y pc L (.int p0 :: .ref 0 :: S) M := PW.callV (b := 0) (ci := 6) (C := RX6) (T := TX6) (N := 8) hR hM hroom cf_L_104 rfl rfl d rfl hcat (fun r u h => by obtain ⟨x, rfl, h⟩ := h; exact kk x u h)
theorem cf_L_107 : xCV RL 107 RX7 yX7_doors cX7_doors 2 (some .int) 1 := ⟨by decide +kernel, rfl, by decide +kernel, by decide +kernel, by decide +kernel⟩
theorem cs_L_107 {p0 : Int32} {post : Int32 → xM → Prop} (hR : xRm Y fr lo) (hM : K_X7_doors [.ref 32, .int p0] M (xRi post)) (hroom : 2 + 1 ≤ fr ∧ 8 + (2 + 11) + 42 ≤ lo) (d : decode cc pc = .ok (.invokevirtual 107, 3)) (hcat : (S.map fun v => v.category).sum ≤ 8) (kk : ∀ x u, post x u → PW cc RL nL Y (pc + 3) L (.int x :: S) u) : PW cc RL nL Y pc L (.int p0 :: .ref 32 :: S) M := PW.callV (b := 32) (ci := 7) (C := RX7) (T := TX7) (N := 28) hR hM hroom cf_L_107 rfl rfl d rfl hcat (fun r u h => by obtain ⟨x, rfl, h⟩ := h; exact kk x u h)
theorem cf_L_108 : xCV RL 108 RX6 yX6_keeps cX6_keeps 3 (some .int) 2 := ⟨by decide +kernel, rfl, by decide +kernel, by decide +kernel, by decide +kernel⟩
theorem cs_L_108 {p0 : Int32} {p1 : Int32} {post : Int32 → xM → Prop} (hR : xRm Y fr lo) (hM : K_X6_keeps [.ref 0, .int p0, .int p1] M (xRi post)) (hroom : 1 + 1 ≤ fr ∧ 8 + (3 + 11) + 23 ≤ lo) (d : decode cc pc = .ok (.invokevirtual 108, 3)) (hcat : (S.map fun v => v.category).sum ≤ 8) (kk : ∀ x u, post x u → PW cc RL nL Y (pc + 3) L (.int x :: S) u) : PW cc RL nL Y pc L (.int p1 :: .int p0 :: .ref 0 :: S) M := PW.callV (b := 0) (ci := 6) (C := RX6) (T := TX6) (N := 8) hR hM hroom cf_L_108 rfl rfl d rfl hcat (fun r u h => by obtain ⟨x, rfl, h⟩ := h; exact kk x u h)
theorem cf_L_111 : xCV RL 111 RX7 yX7_keeps cX7_keeps 3 (some .int) 2 := ⟨by decide +kernel, rfl, by decide +kernel, by decide +kernel, by decide +kernel⟩
theorem cs_L_111 {p0 : Int32} {p1 : Int32} {post : Int32 → xM → Prop} (hR : xRm Y fr lo) (hM : K_X7_keeps [.ref 32, .int p0, .int p1] M (xRi post)) (hroom : 2 + 1 ≤ fr ∧ 8 + (3 + 11) + 42 ≤ lo) (d : decode cc pc = .ok (.invokevirtual 111, 3)) (hcat : (S.map fun v => v.category).sum ≤ 8) (kk : ∀ x u, post x u → PW cc RL nL Y (pc + 3) L (.int x :: S) u) : PW cc RL nL Y pc L (.int p1 :: .int p0 :: .ref 32 :: S) M := PW.callV (b := 32) (ci := 7) (C := RX7) (T := TX7) (N := 28) hR hM hroom cf_L_111 rfl rfl d rfl hcat (fun r u h => by obtain ⟨x, rfl, h⟩ := h; exact kk x u h)
theorem cf_L_112 : xCV RL 112 RX6 yX6_soil cX6_soil 4 (some .int) 2 := ⟨by decide +kernel, rfl, by decide +kernel, by decide +kernel, by decide +kernel⟩
theorem cs_L_112 {p0 : Int32} {p1 : Int32} {post : Int32 → xM → Prop} (hR : xRm Y fr lo) (hM : K_X6_soil [.ref 0, .int p0, .int p1] M (xRi post)) (hroom : 1 + 1 ≤ fr ∧ 8 + (4 + 11) + 22 ≤ lo) (d : decode cc pc = .ok (.invokevirtual 112, 3)) (hcat : (S.map fun v => v.category).sum ≤ 8) (kk : ∀ x u, post x u → PW cc RL nL Y (pc + 3) L (.int x :: S) u) : PW cc RL nL Y pc L (.int p1 :: .int p0 :: .ref 0 :: S) M := PW.callV (b := 0) (ci := 6) (C := RX6) (T := TX6) (N := 8) hR hM hroom cf_L_112 rfl rfl d rfl hcat (fun r u h => by obtain ⟨x, rfl, h⟩ := h; exact kk x u h)
theorem cf_L_115 : xCV RL 115 RX7 yX7_soil cX7_soil 4 (some .int) 2 := ⟨by decide +kernel, rfl, by decide +kernel, by decide +kernel, by decide +kernel⟩
theorem cs_L_115 {p0 : Int32} {p1 : Int32} {post : Int32 → xM → Prop} (hR : xRm Y fr lo) (hM : K_X7_soil [.ref 32, .int p0, .int p1] M (xRi post)) (hroom : 1 + 1 ≤ fr ∧ 8 + (4 + 11) + 22 ≤ lo) (d : decode cc pc = .ok (.invokevirtual 115, 3)) (hcat : (S.map fun v => v.category).sum ≤ 8) (kk : ∀ x u, post x u → PW cc RL nL Y (pc + 3) L (.int x :: S) u) : PW cc RL nL Y pc L (.int p1 :: .int p0 :: .ref 32 :: S) M := PW.callV (b := 32) (ci := 7) (C := RX7) (T := TX7) (N := 28) hR hM hroom cf_L_115 rfl rfl d rfl hcat (fun r u h => by obtain ⟨x, rfl, h⟩ := h; exact kk x u h)
theorem cf_L_116 : xCV RL 116 RX6 yX6_pitch cX6_pitch 5 (some .int) 4 := ⟨by decide +kernel, rfl, by decide +kernel, by decide +kernel, by decide +kernel⟩
theorem cs_L_116 {p0 : Int32} {p1 : Int32} {p2 : Int32} {p3 : Int32} {post : Int32 → xM → Prop} (hR : xRm Y fr lo) (hM : K_X6_pitch [.ref 0, .int p0, .int p1, .int p2, .int p3] M (xRi post)) (hroom : 1 + 1 ≤ fr ∧ 8 + (5 + 11) + 22 ≤ lo) (d : decode cc pc = .ok (.invokevirtual 116, 3)) (hcat : (S.map fun v => v.category).sum ≤ 8) (kk : ∀ x u, post x u → PW cc RL nL Y (pc + 3) L (.int x :: S) u) : PW cc RL nL Y pc L (.int p3 :: .int p2 :: .int p1 :: .int p0 :: .ref 0 :: S) M := PW.callV (b := 0) (ci := 6) (C := RX6) (T := TX6) (N := 8) hR hM hroom cf_L_116 rfl rfl d rfl hcat (fun r u h => by obtain ⟨x, rfl, h⟩ := h; exact kk x u h)
theorem cf_L_120 : xCV RL 120 RX7 yX7_pitch cX7_pitch 5 (some .int) 4 := ⟨by decide +kernel, rfl, by decide +kernel, by decide +kernel, by decide +kernel⟩
theorem cs_L_120 {p0 : Int32} {p1 : Int32} {p2 : Int32} {p3 : Int32} {post : Int32 → xM → Prop} (hR : xRm Y fr lo) (hM : K_X7_pitch [.ref 32, .int p0, .int p1, .int p2, .int p3] M (xRi post)) (hroom : 2 + 1 ≤ fr ∧ 8 + (5 + 11) + 43 ≤ lo) (d : decode cc pc = .ok (.invokevirtual 120, 3)) (hcat : (S.map fun v => v.category).sum ≤ 8) (kk : ∀ x u, post x u → PW cc RL nL Y (pc + 3) L (.int x :: S) u) : PW cc RL nL Y pc L (.int p3 :: .int p2 :: .int p1 :: .int p0 :: .ref 32 :: S) M := PW.callV (b := 32) (ci := 7) (C := RX7) (T := TX7) (N := 28) hR hM hroom cf_L_120 rfl rfl d rfl hcat (fun r u h => by obtain ⟨x, rfl, h⟩ := h; exact kk x u h)
theorem cf_L_121 : xCV RL 121 RX6 yX6_bears cX6_bears 3 (some .int) 1 := ⟨by decide +kernel, rfl, by decide +kernel, by decide +kernel, by decide +kernel⟩
theorem cs_L_121 {p0 : Int32} {post : Int32 → xM → Prop} (hR : xRm Y fr lo) (hM : K_X6_bears [.ref 0, .int p0] M (xRi post)) (hroom : 1 + 1 ≤ fr ∧ 8 + (3 + 11) + 22 ≤ lo) (d : decode cc pc = .ok (.invokevirtual 121, 3)) (hcat : (S.map fun v => v.category).sum ≤ 8) (kk : ∀ x u, post x u → PW cc RL nL Y (pc + 3) L (.int x :: S) u) : PW cc RL nL Y pc L (.int p0 :: .ref 0 :: S) M := PW.callV (b := 0) (ci := 6) (C := RX6) (T := TX6) (N := 8) hR hM hroom cf_L_121 rfl rfl d rfl hcat (fun r u h => by obtain ⟨x, rfl, h⟩ := h; exact kk x u h)
theorem cf_L_124 : xCV RL 124 RX7 yX7_bears cX7_bears 3 (some .int) 1 := ⟨by decide +kernel, rfl, by decide +kernel, by decide +kernel, by decide +kernel⟩
theorem cs_L_124 {p0 : Int32} {post : Int32 → xM → Prop} (hR : xRm Y fr lo) (hM : K_X7_bears [.ref 32, .int p0] M (xRi post)) (hroom : 2 + 1 ≤ fr ∧ 8 + (3 + 11) + 43 ≤ lo) (d : decode cc pc = .ok (.invokevirtual 124, 3)) (hcat : (S.map fun v => v.category).sum ≤ 8) (kk : ∀ x u, post x u → PW cc RL nL Y (pc + 3) L (.int x :: S) u) : PW cc RL nL Y pc L (.int p0 :: .ref 32 :: S) M := PW.callV (b := 32) (ci := 7) (C := RX7) (T := TX7) (N := 28) hR hM hroom cf_L_124 rfl rfl d rfl hcat (fun r u h => by obtain ⟨x, rfl, h⟩ := h; exact kk x u h)
theorem cf_L_125 : xCV RL 125 RX6 yX6_gust cX6_gust 6 (some .int) 2 := ⟨by decide +kernel, rfl, by decide +kernel, by decide +kernel, by decide +kernel⟩
theorem cs_L_125 {p0 : Int32} {p1 : Int32} {post : Int32 → xM → Prop} (hR : xRm Y fr lo) (hM : K_X6_gust [.ref 0, .int p0, .int p1] M (xRi post)) (hroom : 1 + 1 ≤ fr ∧ 8 + (6 + 11) + 22 ≤ lo) (d : decode cc pc = .ok (.invokevirtual 125, 3)) (hcat : (S.map fun v => v.category).sum ≤ 8) (kk : ∀ x u, post x u → PW cc RL nL Y (pc + 3) L (.int x :: S) u) : PW cc RL nL Y pc L (.int p1 :: .int p0 :: .ref 0 :: S) M := PW.callV (b := 0) (ci := 6) (C := RX6) (T := TX6) (N := 8) hR hM hroom cf_L_125 rfl rfl d rfl hcat (fun r u h => by obtain ⟨x, rfl, h⟩ := h; exact kk x u h)
theorem cf_L_128 : xCV RL 128 RX7 yX7_gust cX7_gust 5 (some .int) 2 := ⟨by decide +kernel, rfl, by decide +kernel, by decide +kernel, by decide +kernel⟩
theorem cs_L_128 {p0 : Int32} {p1 : Int32} {post : Int32 → xM → Prop} (hR : xRm Y fr lo) (hM : K_X7_gust [.ref 32, .int p0, .int p1] M (xRi post)) (hroom : 2 + 1 ≤ fr ∧ 8 + (5 + 11) + 42 ≤ lo) (d : decode cc pc = .ok (.invokevirtual 128, 3)) (hcat : (S.map fun v => v.category).sum ≤ 8) (kk : ∀ x u, post x u → PW cc RL nL Y (pc + 3) L (.int x :: S) u) : PW cc RL nL Y pc L (.int p1 :: .int p0 :: .ref 32 :: S) M := PW.callV (b := 32) (ci := 7) (C := RX7) (T := TX7) (N := 28) hR hM hroom cf_L_128 rfl rfl d rfl hcat (fun r u h => by obtain ⟨x, rfl, h⟩ := h; exact kk x u h)
theorem cf_L_129 : xCV RL 129 RX6 yX6_hours cX6_hours 3 (some .int) 2 := ⟨by decide +kernel, rfl, by decide +kernel, by decide +kernel, by decide +kernel⟩
theorem cs_L_129 {p0 : Int32} {p1 : Int32} {post : Int32 → xM → Prop} (hR : xRm Y fr lo) (hM : K_X6_hours [.ref 0, .int p0, .int p1] M (xRi post)) (hroom : 4 + 1 ≤ fr ∧ 8 + (3 + 11) + 91 ≤ lo) (d : decode cc pc = .ok (.invokevirtual 129, 3)) (hcat : (S.map fun v => v.category).sum ≤ 8) (kk : ∀ x u, post x u → PW cc RL nL Y (pc + 3) L (.int x :: S) u) : PW cc RL nL Y pc L (.int p1 :: .int p0 :: .ref 0 :: S) M := PW.callV (b := 0) (ci := 6) (C := RX6) (T := TX6) (N := 8) hR hM hroom cf_L_129 rfl rfl d rfl hcat (fun r u h => by obtain ⟨x, rfl, h⟩ := h; exact kk x u h)
theorem cf_L_132 : xCV RL 132 RX7 yX7_hours cX7_hours 3 (some .int) 2 := ⟨by decide +kernel, rfl, by decide +kernel, by decide +kernel, by decide +kernel⟩
theorem cs_L_132 {p0 : Int32} {p1 : Int32} {post : Int32 → xM → Prop} (hR : xRm Y fr lo) (hM : K_X7_hours [.ref 32, .int p0, .int p1] M (xRi post)) (hroom : 2 + 1 ≤ fr ∧ 8 + (3 + 11) + 52 ≤ lo) (d : decode cc pc = .ok (.invokevirtual 132, 3)) (hcat : (S.map fun v => v.category).sum ≤ 8) (kk : ∀ x u, post x u → PW cc RL nL Y (pc + 3) L (.int x :: S) u) : PW cc RL nL Y pc L (.int p1 :: .int p0 :: .ref 32 :: S) M := PW.callV (b := 32) (ci := 7) (C := RX7) (T := TX7) (N := 28) hR hM hroom cf_L_132 rfl rfl d rfl hcat (fun r u h => by obtain ⟨x, rfl, h⟩ := h; exact kk x u h)
theorem cf_L_133 : xCV RL 133 RX6 yX6_crew cX6_crew 4 (some .int) 3 := ⟨by decide +kernel, rfl, by decide +kernel, by decide +kernel, by decide +kernel⟩
theorem cs_L_133 {p0 : Int32} {p1 : Int32} {p2 : Int32} {post : Int32 → xM → Prop} (hR : xRm Y fr lo) (hM : K_X6_crew [.ref 0, .int p0, .int p1, .int p2] M (xRi post)) (hroom : 4 + 1 ≤ fr ∧ 8 + (4 + 11) + 91 ≤ lo) (d : decode cc pc = .ok (.invokevirtual 133, 3)) (hcat : (S.map fun v => v.category).sum ≤ 8) (kk : ∀ x u, post x u → PW cc RL nL Y (pc + 3) L (.int x :: S) u) : PW cc RL nL Y pc L (.int p2 :: .int p1 :: .int p0 :: .ref 0 :: S) M := PW.callV (b := 0) (ci := 6) (C := RX6) (T := TX6) (N := 8) hR hM hroom cf_L_133 rfl rfl d rfl hcat (fun r u h => by obtain ⟨x, rfl, h⟩ := h; exact kk x u h)
theorem cf_L_136 : xCV RL 136 RX7 yX7_crew cX7_crew 5 (some .int) 3 := ⟨by decide +kernel, rfl, by decide +kernel, by decide +kernel, by decide +kernel⟩
theorem cs_L_136 {p0 : Int32} {p1 : Int32} {p2 : Int32} {post : Int32 → xM → Prop} (hR : xRm Y fr lo) (hM : K_X7_crew [.ref 32, .int p0, .int p1, .int p2] M (xRi post)) (hroom : 2 + 1 ≤ fr ∧ 8 + (5 + 11) + 52 ≤ lo) (d : decode cc pc = .ok (.invokevirtual 136, 3)) (hcat : (S.map fun v => v.category).sum ≤ 8) (kk : ∀ x u, post x u → PW cc RL nL Y (pc + 3) L (.int x :: S) u) : PW cc RL nL Y pc L (.int p2 :: .int p1 :: .int p0 :: .ref 32 :: S) M := PW.callV (b := 32) (ci := 7) (C := RX7) (T := TX7) (N := 28) hR hM hroom cf_L_136 rfl rfl d rfl hcat (fun r u h => by obtain ⟨x, rfl, h⟩ := h; exact kk x u h)
theorem cf_L_137 : xCV RL 137 RX6 yX6_loads cX6_loads 5 (some .int) 2 := ⟨by decide +kernel, rfl, by decide +kernel, by decide +kernel, by decide +kernel⟩
theorem cs_L_137 {p0 : Int32} {p1 : Int32} {post : Int32 → xM → Prop} (hR : xRm Y fr lo) (hM : K_X6_loads [.ref 0, .int p0, .int p1] M (xRi post)) (hroom : 2 + 1 ≤ fr ∧ 8 + (5 + 11) + 44 ≤ lo) (d : decode cc pc = .ok (.invokevirtual 137, 3)) (hcat : (S.map fun v => v.category).sum ≤ 8) (kk : ∀ x u, post x u → PW cc RL nL Y (pc + 3) L (.int x :: S) u) : PW cc RL nL Y pc L (.int p1 :: .int p0 :: .ref 0 :: S) M := PW.callV (b := 0) (ci := 6) (C := RX6) (T := TX6) (N := 8) hR hM hroom cf_L_137 rfl rfl d rfl hcat (fun r u h => by obtain ⟨x, rfl, h⟩ := h; exact kk x u h)
theorem cf_L_140 : xCV RL 140 RX7 yX7_loads cX7_loads 6 (some .int) 2 := ⟨by decide +kernel, rfl, by decide +kernel, by decide +kernel, by decide +kernel⟩
theorem cs_L_140 {p0 : Int32} {p1 : Int32} {post : Int32 → xM → Prop} (hR : xRm Y fr lo) (hM : K_X7_loads [.ref 32, .int p0, .int p1] M (xRi post)) (hroom : 2 + 1 ≤ fr ∧ 8 + (6 + 11) + 42 ≤ lo) (d : decode cc pc = .ok (.invokevirtual 140, 3)) (hcat : (S.map fun v => v.category).sum ≤ 8) (kk : ∀ x u, post x u → PW cc RL nL Y (pc + 3) L (.int x :: S) u) : PW cc RL nL Y pc L (.int p1 :: .int p0 :: .ref 32 :: S) M := PW.callV (b := 32) (ci := 7) (C := RX7) (T := TX7) (N := 28) hR hM hroom cf_L_140 rfl rfl d rfl hcat (fun r u h => by obtain ⟨x, rfl, h⟩ := h; exact kk x u h)
theorem cf_L_141 : xCV RL 141 RX6 yX6_count cX6_count 2 (some .int) 1 := ⟨by decide +kernel, rfl, by decide +kernel, by decide +kernel, by decide +kernel⟩
theorem cs_L_141 {p0 : Int32} {post : Int32 → xM → Prop} (hR : xRm Y fr lo) (hM : K_X6_count [.ref 0, .int p0] M (xRi post)) (hroom : 2 + 1 ≤ fr ∧ 8 + (2 + 11) + 44 ≤ lo) (d : decode cc pc = .ok (.invokevirtual 141, 3)) (hcat : (S.map fun v => v.category).sum ≤ 8) (kk : ∀ x u, post x u → PW cc RL nL Y (pc + 3) L (.int x :: S) u) : PW cc RL nL Y pc L (.int p0 :: .ref 0 :: S) M := PW.callV (b := 0) (ci := 6) (C := RX6) (T := TX6) (N := 8) hR hM hroom cf_L_141 rfl rfl d rfl hcat (fun r u h => by obtain ⟨x, rfl, h⟩ := h; exact kk x u h)
theorem cf_L_144 : xCV RL 144 RX7 yX7_count cX7_count 4 (some .int) 1 := ⟨by decide +kernel, rfl, by decide +kernel, by decide +kernel, by decide +kernel⟩
theorem cs_L_144 {p0 : Int32} {post : Int32 → xM → Prop} (hR : xRm Y fr lo) (hM : K_X7_count [.ref 32, .int p0] M (xRi post)) (hroom : 1 + 1 ≤ fr ∧ 8 + (4 + 11) + 23 ≤ lo) (d : decode cc pc = .ok (.invokevirtual 144, 3)) (hcat : (S.map fun v => v.category).sum ≤ 8) (kk : ∀ x u, post x u → PW cc RL nL Y (pc + 3) L (.int x :: S) u) : PW cc RL nL Y pc L (.int p0 :: .ref 32 :: S) M := PW.callV (b := 32) (ci := 7) (C := RX7) (T := TX7) (N := 28) hR hM hroom cf_L_144 rfl rfl d rfl hcat (fun r u h => by obtain ⟨x, rfl, h⟩ := h; exact kk x u h)
theorem cf_L_145 : xCV RL 145 RX6 yX6_digest cX6_digest 5 (some .long) 0 := ⟨by decide +kernel, rfl, by decide +kernel, by decide +kernel, by decide +kernel⟩
theorem cs_L_145  {post : Int64 → xM → Prop} (hR : xRm Y fr lo) (hM : K_X6_digest [.ref 0] M (xRl post)) (hroom : 2 + 1 ≤ fr ∧ 8 + (5 + 11) + 44 ≤ lo) (d : decode cc pc = .ok (.invokevirtual 145, 3)) (hcat : (S.map fun v => v.category).sum ≤ 8) (kk : ∀ x u, post x u → PW cc RL nL Y (pc + 3) L (.long x :: S) u) : PW cc RL nL Y pc L (.ref 0 :: S) M := PW.callV (b := 0) (ci := 6) (C := RX6) (T := TX6) (N := 8) hR hM hroom cf_L_145 rfl rfl d rfl hcat (fun r u h => by obtain ⟨x, rfl, h⟩ := h; exact kk x u h)
theorem cf_L_149 : xCV RL 149 RX7 yX7_digest cX7_digest 5 (some .long) 0 := ⟨by decide +kernel, rfl, by decide +kernel, by decide +kernel, by decide +kernel⟩
theorem cs_L_149  {post : Int64 → xM → Prop} (hR : xRm Y fr lo) (hM : K_X7_digest [.ref 32] M (xRl post)) (hroom : 2 + 1 ≤ fr ∧ 8 + (5 + 11) + 46 ≤ lo) (d : decode cc pc = .ok (.invokevirtual 149, 3)) (hcat : (S.map fun v => v.category).sum ≤ 8) (kk : ∀ x u, post x u → PW cc RL nL Y (pc + 3) L (.long x :: S) u) : PW cc RL nL Y pc L (.ref 32 :: S) M := PW.callV (b := 32) (ci := 7) (C := RX7) (T := TX7) (N := 28) hR hM hroom cf_L_149 rfl rfl d rfl hcat (fun r u h => by obtain ⟨x, rfl, h⟩ := h; exact kk x u h)
end XS
end
section
/-! pure words: sets of fields as numbers, sums, the law's lines -/
theorem s_l : ∀ n, n < 32 → ((nI n &&& 31).toBitVec.smod 32).toNat = n := by decide +kernel
theorem s_u : ∀ n, n < 32 → (((nI n).toUInt32 &&& Int32.toUInt32 31).toBitVec % 32).toNat = n := by decide +kernel
theorem fa_and (a b : Nat) : nI a &&& nI b = nI (a &&& b) := by
  apply Int32.toBitVec_inj.1
  show BitVec.ofNat 32 a &&& BitVec.ofNat 32 b = BitVec.ofNat 32 (a &&& b)
  apply BitVec.eq_of_getLsbD_eq
  intro i hi
  simp [hi]
theorem fa_or (a b : Nat) : nI a ||| nI b = nI (a ||| b) := by
  apply Int32.toBitVec_inj.1
  show BitVec.ofNat 32 a ||| BitVec.ofNat 32 b = BitVec.ofNat 32 (a ||| b)
  apply BitVec.eq_of_getLsbD_eq
  intro i hi
  simp [hi]
theorem fa_xor (a b : Nat) : nI a ^^^ nI b = nI (a ^^^ b) := by
  apply Int32.toBitVec_inj.1
  show BitVec.ofNat 32 a ^^^ BitVec.ofNat 32 b = BitVec.ofNat 32 (a ^^^ b)
  apply BitVec.eq_of_getLsbD_eq
  intro i hi
  simp [hi]
theorem x_down {n : Nat} {P : Nat → Prop} (h0 : P n) (hs : ∀ f, f < n → P (f + 1) → P f) : ∀ f, f ≤ n → P f := by
  intro f hf
  obtain ⟨k, rfl⟩ : ∃ k, n = f + k := ⟨n - f, by omega⟩
  induction k generalizing f with
  | zero => exact h0
  | succ k ih =>
    refine hs f (by omega) ?_
    have e : f + (k + 1) = (f + 1) + k := by omega
    rw [e] at h0 hs
    exact ih (f + 1) h0 hs (by omega)
theorem x_shl1 {f : Nat} (hf : f < 31) : nI 1 <<< (nI f &&& 31) = nI (2 ^ f) := by
  rw [pk_shlN (nI f &&& 31) f (s_l f (by omega)) (by have := Nat.pow_lt_pow_right (a := 2) (by omega) (show f < 32 by omega); omega)]
  rw [Nat.one_mul]
theorem x_bit {s f : Nat} (hs : s < 2 ^ 31) (hf : f < 31) : ((nI s >>> (nI f &&& 31)) &&& nI 1 = nI 1) ↔ s.testBit f = true := by
  rw [pk_shrN hs (nI f &&& 31) f (s_l f (by omega)), fa_and, Nat.and_one_is_mod, nI_eq (by omega) (by omega), Nat.testBit_eq_decide_div_mod_eq]
  simp
/-- the set of those under n of which P holds -/
def bset (P : Nat → Bool) : Nat → Nat
  | 0 => 0
  | n + 1 => bset P n ||| (if P n then 2 ^ n else 0)
theorem bset_bit (P : Nat → Bool) : ∀ n f, (bset P n).testBit f = (decide (f < n) && P f)
  | 0, f => by simp [bset]
  | n + 1, f => by
    rw [bset, Nat.testBit_or, bset_bit P n f]
    by_cases h : P n = true
    · rw [if_pos h, Nat.testBit_two_pow]
      by_cases e : n = f
      · subst e; simp [h]
      · have e2 : (f < n + 1) ↔ f < n := by omega
        simp [e, e2]
    · rw [if_neg h]
      by_cases e : n = f
      · subst e; simp at h; simp [h]
      · have e2 : (f < n + 1) ↔ f < n := by omega
        simp [e2]
theorem bset_lt (P : Nat → Bool) (n : Nat) : bset P n < 2 ^ n := by
  apply Nat.lt_pow_two_of_testBit
  intro i hi
  rw [bset_bit]
  simp; omega
theorem bset_congr {P Q : Nat → Bool} : ∀ {n : Nat}, (∀ f, f < n → P f = Q f) → bset P n = bset Q n
  | 0, _ => rfl
  | n + 1, h => by
    rw [bset, bset, bset_congr (fun f hf => h f (by omega)), h n (by omega)]
def xset (st : Nat → Int32) (w : Int32) (n : Nat) : Nat := bset (fun f => decide (st f = w)) n
theorem xset_lt (st : Nat → Int32) (w : Int32) {n : Nat} (h : n ≤ 10) : xset st w n < 1024 :=
  Nat.lt_of_lt_of_le (bset_lt _ n) (Nat.pow_le_pow_right (show 0 < 2 by omega) h)
theorem xset_bit (st : Nat → Int32) (w : Int32) (n f : Nat) : (xset st w n).testBit f = (decide (f < n) && decide (st f = w)) := bset_bit _ n f
/-- the prices of a set -/
def prs (p : Nat → Int32) (s : Nat) : Nat → Int32
  | 0 => nI 0
  | n + 1 => if s.testBit n = true then prs p s n + p n else prs p s n
def gsum (g : Nat → Int32) : Nat → Int32
  | 0 => nI 0
  | n + 1 => gsum g n + g n
/-- doors by the law's lines -/
def dfor (fr dd : Nat → Int32) (g : Int32) : Nat → Int32
  | 0 => nI 1
  | n + 1 => if fr n ≤ g then dd n else dfor fr dd g n
def hv (own gone : Int32) : Int32 := if nI 0 < own - gone then own - gone else nI 0
def tellv (M : xM) (f : Nat) : Nat → Int32
  | 0 => M.1 12 f
  | 1 => M.1 9 f
  | 2 => M.1 10 f
  | 3 => M.1 11 f
  | 4 => M.1 13 f
  | 5 => M.1 14 f
  | _ => M.1 15 f
/-- how many of a set -/
def pcn (s : Nat) : Nat → Nat
  | 0 => 0
  | n + 1 => pcn s n + (if s.testBit n = true then 1 else 0)
def bcI (x : Int32) : Int32 :=
  let a := x - ((x.toUInt32 >>> ((nI 1).toUInt32 &&& Int32.toUInt32 31)).toInt32 &&& nI 1431655765)
  let b := (a &&& nI 858993459) + ((a.toUInt32 >>> ((nI 2).toUInt32 &&& Int32.toUInt32 31)).toInt32 &&& nI 858993459)
  let c := (b + (b.toUInt32 >>> ((nI 4).toUInt32 &&& Int32.toUInt32 31)).toInt32) &&& nI 252645135
  let d := c + (c.toUInt32 >>> ((nI 8).toUInt32 &&& Int32.toUInt32 31)).toInt32
  let e := d + (d.toUInt32 >>> ((nI 16).toUInt32 &&& Int32.toUInt32 31)).toInt32
  e &&& nI 63
theorem bcI_pcn : ∀ s, s < 1024 → bcI (nI s) = nI (pcn s 10) := by decide +kernel
theorem x_ri {post : Int32 → xM → Prop} {x : Int32} {u : xM} (h : post x u) : xRi post (some (.int x)) u := ⟨x, rfl, h⟩
theorem x_rl {post : Int64 → xM → Prop} {x : Int64} {u : xM} (h : post x u) : xRl post (some (.long x)) u := ⟨x, rfl, h⟩
theorem x_rv {post : xM → Prop} {u : xM} (h : post u) : xRv post none u := ⟨rfl, h⟩
theorem xM_ext {u v : xM} (h1 : ∀ p j, u.1 p j = v.1 p j) (h2 : u.2 = v.2) : u = v := by
  obtain ⟨a, b⟩ := u
  obtain ⟨c, d⟩ := v
  simp only at h1 h2
  rw [h2]
  congr 1
  funext p j
  exact h1 p j
end
section
/-! leaves of the class: contracts -/
theorem x_loop {n : Nat} {P : Nat → Prop} {Q : Prop} (hQ : P 0 → Q) (h0 : P n) (hs : ∀ f, f < n → P (f + 1) → P f) : Q := hQ (x_down h0 hs 0 (Nat.zero_le _))
theorem x_zt {P : Prop} [Decidable P] {M : xM} (h : P) : xRi (fun x u => x = xB P ∧ u = M) (some (.int (nI 1))) M := ⟨_, rfl, (xB_t h).symm, rfl⟩
theorem x_zf {P : Prop} [Decidable P] {M : xM} (h : ¬ P) : xRi (fun x u => x = xB P ∧ u = M) (some (.int (nI 0))) M := ⟨_, rfl, (xB_f h).symm, rfl⟩
theorem x_gt {a b : Int32} (h : ¬ a ≤ b) : b < a := Int32.not_le.mp h
theorem x_ge {a b : Int32} (h : ¬ a < b) : b ≤ a := Int32.not_lt.mp h
theorem x_ng {a b : Int32} (h : a ≤ b) : ¬ b < a := Int32.not_lt.mpr h
theorem x_nl {a b : Int32} (h : a < b) : ¬ b ≤ a := Int32.not_le.mpr h
theorem x_0 : (0 : Int32) = nI 0 := rfl
set_option maxHeartbeats 4000000 in
set_option maxRecDepth 20000 in
theorem c_X6_outside {v a b : Int32} {M : xM} : K_X6_outside [.int v, .int a, .int b] M (xRi (fun x u => x = xB (v < a ∨ b < v) ∧ u = M)) := by
  refine xMet.of (own := RX6) rfl (by decide) (Nat.le_of_ble_eq_true rfl) rfl (fun Y hY => ?_)
  refine PW.iload_n (pc := 0) dX6_outside_0 rfl ?_
  refine PW.iload_n (pc := 1) dX6_outside_1 rfl ?_
  refine PW.icmp_lt (pc := 2) (tgt := 10) dX6_outside_2 (by decide) (fun c_2 => ?_) (fun c_2 => ?_)
  · refine PW.iconst (pc := 10) (v := nI 1) dX6_outside_10 (by decide) ?_
    refine PW.goto (pc := 11) (tgt := 15) dX6_outside_11 (by decide) ?_
    refine PW.zret (pc := 15) hY (by decide) ?_ dX6_outside_15
    exact x_zt (Or.inl c_2)
  · refine PW.iload_n (pc := 5) dX6_outside_5 rfl ?_
    refine PW.iload_n (pc := 6) dX6_outside_6 rfl ?_
    refine PW.icmp_le (pc := 7) (tgt := 14) dX6_outside_7 (by decide) (fun c_7 => ?_) (fun c_7 => ?_)
    · refine PW.iconst (pc := 14) (v := nI 0) dX6_outside_14 (by decide) ?_
      refine PW.zret (pc := 15) hY (by decide) ?_ dX6_outside_15
      exact x_zf (fun h => h.elim c_2 (x_ng c_7))
    · refine PW.iconst (pc := 10) (v := nI 1) dX6_outside_10 (by decide) ?_
      refine PW.goto (pc := 11) (tgt := 15) dX6_outside_11 (by decide) ?_
      refine PW.zret (pc := 15) hY (by decide) ?_ dX6_outside_15
      exact x_zt (Or.inr (x_gt c_7))
set_option maxHeartbeats 4000000 in
set_option maxRecDepth 20000 in
theorem c_X6_isThing {v : Int32} {M : xM} : K_X6_isThing [.int v] M (xRi (fun x u => x = xB (0 ≤ v ∧ v < nI 6) ∧ u = M)) := by
  refine xMet.of (own := RX6) rfl (by decide) (Nat.le_of_ble_eq_true rfl) rfl (fun Y hY => ?_)
  refine PW.iload_n (pc := 0) dX6_isThing_0 rfl ?_
  refine PW.if_lt (pc := 1) (tgt := 14) dX6_isThing_1 (by decide) (fun c_1 => ?_) (fun c_1 => ?_)
  · refine PW.iconst (pc := 14) (v := nI 0) dX6_isThing_14 (by decide) ?_
    refine PW.zret (pc := 15) hY (by decide) ?_ dX6_isThing_15
    exact x_zf (fun h => x_nl c_1 h.1)
  · refine PW.iload_n (pc := 4) dX6_isThing_4 rfl ?_
    refine PW.bipush (pc := 5) (v := nI 6) dX6_isThing_5 (by decide) ?_
    refine PW.icmp_ge (pc := 7) (tgt := 14) dX6_isThing_7 (by decide) (fun c_7 => ?_) (fun c_7 => ?_)
    · refine PW.iconst (pc := 14) (v := nI 0) dX6_isThing_14 (by decide) ?_
      refine PW.zret (pc := 15) hY (by decide) ?_ dX6_isThing_15
      exact x_zf (fun h => x_nl h.2 c_7)
    · refine PW.iconst (pc := 10) (v := nI 1) dX6_isThing_10 (by decide) ?_
      refine PW.goto (pc := 11) (tgt := 15) dX6_isThing_11 (by decide) ?_
      refine PW.zret (pc := 15) hY (by decide) ?_ dX6_isThing_15
      exact x_zt ⟨x_ge c_1, x_gt c_7⟩
set_option maxHeartbeats 4000000 in
set_option maxRecDepth 20000 in
theorem c_X6_bit {v : Int32} {M : xM} : K_X6_bit [.int v] M (xRi (fun x u => x = xB (¬ v = 0) ∧ u = M)) := by
  refine xMet.of (own := RX6) rfl (by decide) (Nat.le_of_ble_eq_true rfl) rfl (fun Y hY => ?_)
  refine PW.iload_n (pc := 0) dX6_bit_0 rfl ?_
  refine PW.if_eq (pc := 1) (tgt := 8) dX6_bit_1 (by decide) (fun c_1 => ?_) (fun c_1 => ?_)
  · refine PW.iconst (pc := 8) (v := nI 0) dX6_bit_8 (by decide) ?_
    refine PW.iret (pc := 9) hY ?_ dX6_bit_9
    exact x_zf (fun h => h c_1)
  · refine PW.iconst (pc := 4) (v := nI 1) dX6_bit_4 (by decide) ?_
    refine PW.goto (pc := 5) (tgt := 9) dX6_bit_5 (by decide) ?_
    refine PW.iret (pc := 9) hY ?_ dX6_bit_9
    exact x_zt c_1
set_option maxHeartbeats 4000000 in
set_option maxRecDepth 20000 in
theorem c_X6_cell {f t : Nat} {M : xM} : K_X6_cell [.int (nI f), .int (nI t)] M (xRi (fun x u => x = nI (f * 6 + t) ∧ u = M)) := by
  refine xMet.of (own := RX6) rfl (by decide) (Nat.le_of_ble_eq_true rfl) rfl (fun Y hY => ?_)
  refine PW.iload_n (pc := 0) dX6_cell_0 rfl ?_
  refine PW.bipush (pc := 1) (v := nI 6) dX6_cell_1 (by decide) ?_
  refine PW.imul (pc := 3) dX6_cell_3 ?_
  refine PW.iload_n (pc := 4) dX6_cell_4 rfl ?_
  refine PW.iadd (pc := 5) dX6_cell_5 ?_
  refine PW.iret (pc := 6) hY ?_ dX6_cell_6
  exact ⟨_, rfl, by rw [pk_mul, nI_add], rfl⟩
set_option maxHeartbeats 4000000 in
set_option maxRecDepth 20000 in
theorem c_X6_cutUp {a b : Int32} {M : xM} : K_X6_cutUp [.int a, .int b] M (xRi (fun x u => x = (if b < nI 1 then nI 0 else (a + b - nI 1) / b) ∧ u = M)) := by
  refine xMet.of (own := RX6) rfl (by decide) (Nat.le_of_ble_eq_true rfl) rfl (fun Y hY => ?_)
  refine PW.iload_n (pc := 0) dX6_cutUp_0 rfl ?_
  refine PW.iconst (pc := 1) (v := nI 1) dX6_cutUp_1 (by decide) ?_
  refine PW.icmp_ge (pc := 2) (tgt := 9) dX6_cutUp_2 (by decide) (fun c_2 => ?_) (fun c_2 => ?_)
  · have hb : ¬ b = 0 := fun h => by rw [h] at c_2; exact absurd c_2 (by decide)
    refine PW.iload_n (pc := 9) dX6_cutUp_9 rfl ?_
    refine PW.iload_n (pc := 10) dX6_cutUp_10 rfl ?_
    refine PW.iadd (pc := 11) dX6_cutUp_11 ?_
    refine PW.iconst (pc := 12) (v := nI 1) dX6_cutUp_12 (by decide) ?_
    refine PW.isub (pc := 13) dX6_cutUp_13 ?_
    refine PW.iload_n (pc := 14) dX6_cutUp_14 rfl ?_
    refine PW.idiv (pc := 15) dX6_cutUp_15 (by assumption) ?_
    refine PW.iret (pc := 16) hY ?_ dX6_cutUp_16
    exact ⟨_, rfl, (if_neg (x_ng c_2)).symm, rfl⟩
  · refine PW.iconst (pc := 5) (v := nI 0) dX6_cutUp_5 (by decide) ?_
    refine PW.goto (pc := 6) (tgt := 16) dX6_cutUp_6 (by decide) ?_
    refine PW.iret (pc := 16) hY ?_ dX6_cutUp_16
    exact ⟨_, rfl, (if_pos (x_gt c_2)).symm, rfl⟩
set_option maxHeartbeats 4000000 in
set_option maxRecDepth 20000 in
theorem c_X1_has {f : Int32} {M : xM} : K_X1_has [.ref 8, .int f] M (xRi (fun x u => x = xB (0 ≤ f ∧ f < M.1 8 9) ∧ u = M)) := by
  refine xMet.of (own := RX1) rfl (by decide) (Nat.le_of_ble_eq_true rfl) rfl (fun Y hY => ?_)
  refine PW.iload_n (pc := 0) dX1_has_0 rfl ?_
  refine PW.if_lt (pc := 1) (tgt := 16) dX1_has_1 (by decide) (fun c_1 => ?_) (fun c_1 => ?_)
  · refine PW.iconst (pc := 16) (v := nI 0) dX1_has_16 (by decide) ?_
    refine PW.zret (pc := 17) hY (by decide) ?_ dX1_has_17
    exact x_zf (fun h => x_nl c_1 h.1)
  · refine PW.iload_n (pc := 4) dX1_has_4 rfl ?_
    refine PW.aload_n (pc := 5) dX1_has_5 rfl ?_
    refine gf_X1_40 (pc := 6) dX1_has_6 ?_
    refine PW.icmp_ge (pc := 9) (tgt := 16) dX1_has_9 (by decide) (fun c_9 => ?_) (fun c_9 => ?_)
    · refine PW.iconst (pc := 16) (v := nI 0) dX1_has_16 (by decide) ?_
      refine PW.zret (pc := 17) hY (by decide) ?_ dX1_has_17
      exact x_zf (fun h => x_nl h.2 c_9)
    · refine PW.iconst (pc := 12) (v := nI 1) dX1_has_12 (by decide) ?_
      refine PW.goto (pc := 13) (tgt := 17) dX1_has_13 (by decide) ?_
      refine PW.zret (pc := 17) hY (by decide) ?_ dX1_has_17
      exact x_zt ⟨x_ge c_1, x_gt c_9⟩
set_option maxHeartbeats 4000000 in
set_option maxRecDepth 20000 in
theorem c_X1_hasAll {f : Int32} {M : xM} : K_X1_hasAll [.ref 8, .int f] M (xRi (fun x u => x = xB (0 ≤ f ∧ f < (nI 1 <<< (M.1 8 9 &&& 31))) ∧ u = M)) := by
  refine xMet.of (own := RX1) rfl (by decide) (Nat.le_of_ble_eq_true rfl) rfl (fun Y hY => ?_)
  refine PW.iload_n (pc := 0) dX1_hasAll_0 rfl ?_
  refine PW.if_lt (pc := 1) (tgt := 18) dX1_hasAll_1 (by decide) (fun c_1 => ?_) (fun c_1 => ?_)
  · refine PW.iconst (pc := 18) (v := nI 0) dX1_hasAll_18 (by decide) ?_
    refine PW.zret (pc := 19) hY (by decide) ?_ dX1_hasAll_19
    exact x_zf (fun h => x_nl c_1 h.1)
  · refine PW.iload_n (pc := 4) dX1_hasAll_4 rfl ?_
    refine PW.iconst (pc := 5) (v := nI 1) dX1_hasAll_5 (by decide) ?_
    refine PW.aload_n (pc := 6) dX1_hasAll_6 rfl ?_
    refine gf_X1_40 (pc := 7) dX1_hasAll_7 ?_
    refine PW.ishl (pc := 10) dX1_hasAll_10 ?_
    refine PW.icmp_ge (pc := 11) (tgt := 18) dX1_hasAll_11 (by decide) (fun c_11 => ?_) (fun c_11 => ?_)
    · refine PW.iconst (pc := 18) (v := nI 0) dX1_hasAll_18 (by decide) ?_
      refine PW.zret (pc := 19) hY (by decide) ?_ dX1_hasAll_19
      exact x_zf (fun h => x_nl h.2 c_11)
    · refine PW.iconst (pc := 14) (v := nI 1) dX1_hasAll_14 (by decide) ?_
      refine PW.goto (pc := 15) (tgt := 19) dX1_hasAll_15 (by decide) ?_
      refine PW.zret (pc := 19) hY (by decide) ?_ dX1_hasAll_19
      exact x_zt ⟨x_ge c_1, x_gt c_11⟩
set_option maxHeartbeats 4000000 in
set_option maxRecDepth 20000 in
theorem c_X1_ask {a b v : Int32} {n : Nat} {M : xM} (hn : M.1 8 9 = nI n) (h10 : n ≤ 10) : K_X1_ask [.ref 8, .int a, .int b, .int v] M (xRi (fun x u => if n < 10 then x = nI n ∧ u = xup (xup (xup (xup M 9 n a) 10 n b) 11 n v) 8 9 (nI (n + 1)) else x = (-4) ∧ u = M)) := by
  refine xMet.of (own := RX1) rfl (by decide) (Nat.le_of_ble_eq_true rfl) rfl (fun Y hY => ?_)
  refine PW.aload_n (pc := 0) dX1_ask_0 rfl ?_
  refine gf_X1_40 (pc := 1) dX1_ask_1 ?_
  refine PW.bipush (pc := 4) (v := nI 10) dX1_ask_4 (by decide) ?_
  refine PW.icmp_lt (pc := 6) (tgt := 12) dX1_ask_6 (by decide) (fun c_6 => ?_) (fun c_6 => ?_)
  · rw [hn] at c_6
    have h : n < 10 := (nI_ltI (by omega) (by omega)).mp c_6
    refine PW.aload_n (pc := 12) dX1_ask_12 rfl ?_
    refine gf_X1_9 (pc := 13) dX1_ask_13 ?_
    refine PW.aload_n (pc := 16) dX1_ask_16 rfl ?_
    refine gf_X1_40 (pc := 17) dX1_ask_17 ?_
    refine PW.iload_n (pc := 20) dX1_ask_20 rfl ?_
    refine PW.iastN (pc := 21) rfl hn h (by decide) dX1_ask_21 ?_
    refine PW.aload_n (pc := 22) dX1_ask_22 rfl ?_
    refine gf_X1_15 (pc := 23) dX1_ask_23 ?_
    refine PW.aload_n (pc := 26) dX1_ask_26 rfl ?_
    refine gf_X1_40 (pc := 27) dX1_ask_27 ?_
    refine PW.iload_n (pc := 30) dX1_ask_30 rfl ?_
    refine PW.iastN (pc := 31) rfl (by simp only [xup_1]; exact hn) h (by decide) dX1_ask_31 ?_
    refine PW.aload_n (pc := 32) dX1_ask_32 rfl ?_
    refine gf_X1_18 (pc := 33) dX1_ask_33 ?_
    refine PW.aload_n (pc := 36) dX1_ask_36 rfl ?_
    refine gf_X1_40 (pc := 37) dX1_ask_37 ?_
    refine PW.iload_n (pc := 40) dX1_ask_40 rfl ?_
    refine PW.iastN (pc := 41) rfl (by simp only [xup_1]; exact hn) h (by decide) dX1_ask_41 ?_
    refine PW.aload_n (pc := 42) dX1_ask_42 rfl ?_
    refine PW.dup (pc := 43) dX1_ask_43 rfl ?_
    refine gf_X1_40 (pc := 44) dX1_ask_44 ?_
    refine PW.iconst (pc := 47) (v := nI 1) dX1_ask_47 (by decide) ?_
    refine PW.iadd (pc := 48) dX1_ask_48 ?_
    refine pf_X1_40 (pc := 49) dX1_ask_49 ?_
    refine PW.aload_n (pc := 52) dX1_ask_52 rfl ?_
    refine gf_X1_40 (pc := 53) dX1_ask_53 ?_
    refine PW.iconst (pc := 56) (v := nI 1) dX1_ask_56 (by decide) ?_
    refine PW.isub (pc := 57) dX1_ask_57 ?_
    refine PW.iret (pc := 58) hY ?_ dX1_ask_58
    refine x_ri ?_
    rw [if_pos h]
    simp only [xup_1]
    refine ⟨?_, ?_⟩
    · simp [hn, pk_sub, nI_add]
    · congr 1
      simp [hn, nI_add]
  · rw [hn] at c_6
    have h : ¬ n < 10 := fun q => c_6 ((nI_ltI (by omega) (by omega)).mpr q)
    refine PW.bipush (pc := 9) (v := (-4)) dX1_ask_9 (by decide) ?_
    refine PW.iret (pc := 11) hY ?_ dX1_ask_11
    refine x_ri ?_
    rw [if_neg h]
    exact ⟨rfl, rfl⟩
set_option maxHeartbeats 4000000 in
set_option maxRecDepth 20000 in
theorem c_X1_setOf {w : Int32} {n : Nat} {M : xM} (hn : M.1 8 9 = nI n) (h10 : n ≤ 10) : K_X1_setOf [.ref 8, .int w] M (xRi (fun x u => x = nI (xset (M.1 12) w n) ∧ u = M)) := by
  refine xMet.of (own := RX1) rfl (by decide) (Nat.le_of_ble_eq_true rfl) rfl (fun Y hY => ?_)
  have h0 : P_X1_setOf Y 4 [(0, .ref 8), (1, .int w), (2, .int (nI (xset (M.1 12) w n))), (3, .int (nI n))] [] M := by
    refine PW.iload_n (pc := 4) dX1_setOf_4 rfl ?_
    refine PW.aload_n (pc := 5) dX1_setOf_5 rfl ?_
    refine gf_X1_40 (pc := 6) dX1_setOf_6 ?_
    refine PW.icmp_ge (pc := 9) (tgt := 34) dX1_setOf_9 (by decide) (fun _ => ?_) (fun c => absurd ((by rw [hn]; exact nI_le (Nat.le_refl _) (by omega))) c)
    refine PW.iload_n (pc := 34) dX1_setOf_34 rfl ?_
    refine PW.iret (pc := 35) hY ?_ dX1_setOf_35
    exact x_ri ⟨rfl, rfl⟩
  have hs : ∀ f, f < n → P_X1_setOf Y 4 [(0, .ref 8), (1, .int w), (2, .int (nI (xset (M.1 12) w (f + 1)))), (3, .int (nI (f + 1)))] [] M → P_X1_setOf Y 4 [(0, .ref 8), (1, .int w), (2, .int (nI (xset (M.1 12) w f))), (3, .int (nI f))] [] M := by
    intro f hf ih
    refine PW.iload_n (pc := 4) dX1_setOf_4 rfl ?_
    refine PW.aload_n (pc := 5) dX1_setOf_5 rfl ?_
    refine gf_X1_40 (pc := 6) dX1_setOf_6 ?_
    refine PW.icmp_ge (pc := 9) (tgt := 34) dX1_setOf_9 (by decide) (fun c => absurd c ((by rw [hn]; exact nI_ge hf (by omega)))) (fun _ => ?_)
    refine PW.aload_n (pc := 12) dX1_setOf_12 rfl ?_
    refine gf_X1_21 (pc := 13) dX1_setOf_13 ?_
    refine PW.iload_n (pc := 16) dX1_setOf_16 rfl ?_
    refine PW.ialdN (pc := 17) rfl rfl (by omega) (by decide) dX1_setOf_17 ?_
    refine PW.iload_n (pc := 18) dX1_setOf_18 rfl ?_
    refine PW.icmp_ne (pc := 19) (tgt := 28) dX1_setOf_19 (by decide) (fun c_19 => ?_) (fun c_19 => ?_)
    · refine PW.iinc (pc := 28) dX1_setOf_28 rfl (x_inc1 _) (by decide) rfl ?_
      refine PW.goto (pc := 31) (tgt := 4) dX1_setOf_31 (by decide) ?_
      refine PW.st rfl rfl ?_ ih
      have e : xset (M.1 12) w (f + 1) = xset (M.1 12) w f := by simp [xset, bset, c_19]
      rw [e]; rfl
    · refine PW.iload_n (pc := 22) dX1_setOf_22 rfl ?_
      refine PW.iconst (pc := 23) (v := nI 1) dX1_setOf_23 (by decide) ?_
      refine PW.iload_n (pc := 24) dX1_setOf_24 rfl ?_
      refine PW.ishl (pc := 25) dX1_setOf_25 ?_
      refine PW.ior (pc := 26) dX1_setOf_26 ?_
      refine PW.istore_n (pc := 27) (i := 2) dX1_setOf_27 rfl (by decide) rfl ?_
      refine PW.iinc (pc := 28) dX1_setOf_28 rfl (x_inc1 _) (by decide) rfl ?_
      refine PW.goto (pc := 31) (tgt := 4) dX1_setOf_31 (by decide) ?_
      refine PW.st rfl rfl ?_ ih
      have e : xset (M.1 12) w (f + 1) = xset (M.1 12) w f ||| 2 ^ f := by simp [xset, bset, c_19]
      rw [e, x_shl1 (by omega), fa_or]; rfl
  refine PW.iconst (pc := 0) (v := nI 0) dX1_setOf_0 (by decide) ?_
  refine PW.istore_n (pc := 1) (i := 2) dX1_setOf_1 rfl (by decide) rfl ?_
  refine PW.iconst (pc := 2) (v := nI 0) dX1_setOf_2 (by decide) ?_
  refine PW.istore_n (pc := 3) (i := 3) dX1_setOf_3 rfl (by decide) rfl ?_
  exact PW.st rfl rfl rfl (x_down (P := fun f => P_X1_setOf Y 4 [(0, .ref 8), (1, .int w), (2, .int (nI (xset (M.1 12) w f))), (3, .int (nI f))] [] M) h0 hs 0 (Nat.zero_le _))
set_option maxHeartbeats 4000000 in
set_option maxRecDepth 20000 in
theorem c_X1_priceOf {s n : Nat} {M : xM} (hn : M.1 8 9 = nI n) (h10 : n ≤ 10) (h : s < 2 ^ 31) : K_X1_priceOf [.ref 8, .int (nI s)] M (xRi (fun x u => x = prs (M.1 11) s n ∧ u = M)) := by
  refine xMet.of (own := RX1) rfl (by decide) (Nat.le_of_ble_eq_true rfl) rfl (fun Y hY => ?_)
  have h0 : P_X1_priceOf Y 4 [(0, .ref 8), (1, .int (nI s)), (2, .int (prs (M.1 11) s n)), (3, .int (nI n))] [] M := by
    refine PW.iload_n (pc := 4) dX1_priceOf_4 rfl ?_
    refine PW.aload_n (pc := 5) dX1_priceOf_5 rfl ?_
    refine gf_X1_40 (pc := 6) dX1_priceOf_6 ?_
    refine PW.icmp_ge (pc := 9) (tgt := 36) dX1_priceOf_9 (by decide) (fun _ => ?_) (fun c => absurd ((by rw [hn]; exact nI_le (Nat.le_refl _) (by omega))) c)
    refine PW.iload_n (pc := 36) dX1_priceOf_36 rfl ?_
    refine PW.iret (pc := 37) hY ?_ dX1_priceOf_37
    exact x_ri ⟨rfl, rfl⟩
  have hs : ∀ f, f < n → P_X1_priceOf Y 4 [(0, .ref 8), (1, .int (nI s)), (2, .int (prs (M.1 11) s (f + 1))), (3, .int (nI (f + 1)))] [] M → P_X1_priceOf Y 4 [(0, .ref 8), (1, .int (nI s)), (2, .int (prs (M.1 11) s f)), (3, .int (nI f))] [] M := by
    intro f hf ih
    refine PW.iload_n (pc := 4) dX1_priceOf_4 rfl ?_
    refine PW.aload_n (pc := 5) dX1_priceOf_5 rfl ?_
    refine gf_X1_40 (pc := 6) dX1_priceOf_6 ?_
    refine PW.icmp_ge (pc := 9) (tgt := 36) dX1_priceOf_9 (by decide) (fun c => absurd c ((by rw [hn]; exact nI_ge hf (by omega)))) (fun _ => ?_)
    refine PW.iload_n (pc := 12) dX1_priceOf_12 rfl ?_
    refine PW.iload_n (pc := 13) dX1_priceOf_13 rfl ?_
    refine PW.ishr (pc := 14) dX1_priceOf_14 ?_
    refine PW.iconst (pc := 15) (v := nI 1) dX1_priceOf_15 (by decide) ?_
    refine PW.iand (pc := 16) dX1_priceOf_16 ?_
    refine PW.iconst (pc := 17) (v := nI 1) dX1_priceOf_17 (by decide) ?_
    refine PW.icmp_ne (pc := 18) (tgt := 30) dX1_priceOf_18 (by decide) (fun c_18 => ?_) (fun c_18 => ?_)
    · rw [x_bit h (by omega)] at c_18
      refine PW.iinc (pc := 30) dX1_priceOf_30 rfl (x_inc1 _) (by decide) rfl ?_
      refine PW.goto (pc := 33) (tgt := 4) dX1_priceOf_33 (by decide) ?_
      refine PW.st rfl rfl ?_ ih
      rw [prs, if_neg c_18]; rfl
    · rw [x_bit h (by omega)] at c_18
      refine PW.iload_n (pc := 21) dX1_priceOf_21 rfl ?_
      refine PW.aload_n (pc := 22) dX1_priceOf_22 rfl ?_
      refine gf_X1_18 (pc := 23) dX1_priceOf_23 ?_
      refine PW.iload_n (pc := 26) dX1_priceOf_26 rfl ?_
      refine PW.ialdN (pc := 27) rfl rfl (by omega) (by decide) dX1_priceOf_27 ?_
      refine PW.iadd (pc := 28) dX1_priceOf_28 ?_
      refine PW.istore_n (pc := 29) (i := 2) dX1_priceOf_29 rfl (by decide) rfl ?_
      refine PW.iinc (pc := 30) dX1_priceOf_30 rfl (x_inc1 _) (by decide) rfl ?_
      refine PW.goto (pc := 33) (tgt := 4) dX1_priceOf_33 (by decide) ?_
      refine PW.st rfl rfl ?_ ih
      rw [prs, if_pos c_18]; rfl
  refine PW.iconst (pc := 0) (v := nI 0) dX1_priceOf_0 (by decide) ?_
  refine PW.istore_n (pc := 1) (i := 2) dX1_priceOf_1 rfl (by decide) rfl ?_
  refine PW.iconst (pc := 2) (v := nI 0) dX1_priceOf_2 (by decide) ?_
  refine PW.istore_n (pc := 3) (i := 3) dX1_priceOf_3 rfl (by decide) rfl ?_
  exact PW.st rfl rfl rfl (x_down (P := fun f => P_X1_priceOf Y 4 [(0, .ref 8), (1, .int (nI s)), (2, .int (prs (M.1 11) s f)), (3, .int (nI f))] [] M) h0 hs 0 (Nat.zero_le _))
set_option maxHeartbeats 4000000 in
set_option maxRecDepth 20000 in
theorem c_X1_worksOn {f : Nat} {d : Int32} {M : xM} (hf : f < 10) : K_X1_worksOn [.ref 8, .int (nI f), .int d] M (xRi (fun x u => x = xB (M.1 12 f = nI 1 ∧ (M.1 9 f = d ∨ M.1 10 f = d)) ∧ u = M)) := by
  refine xMet.of (own := RX1) rfl (by decide) (Nat.le_of_ble_eq_true rfl) rfl (fun Y hY => ?_)
  refine PW.aload_n (pc := 0) dX1_worksOn_0 rfl ?_
  refine gf_X1_21 (pc := 1) dX1_worksOn_1 ?_
  refine PW.iload_n (pc := 4) dX1_worksOn_4 rfl ?_
  refine PW.ialdN (pc := 5) rfl rfl (by omega) (by decide) dX1_worksOn_5 ?_
  refine PW.iconst (pc := 6) (v := nI 1) dX1_worksOn_6 (by decide) ?_
  refine PW.icmp_ne (pc := 7) (tgt := 34) dX1_worksOn_7 (by decide) (fun c_7 => ?_) (fun c_7 => ?_)
  · refine PW.iconst (pc := 34) (v := nI 0) dX1_worksOn_34 (by decide) ?_
    refine PW.zret (pc := 35) hY (by decide) ?_ dX1_worksOn_35
    exact x_zf (fun h => c_7 h.1)
  · refine PW.aload_n (pc := 10) dX1_worksOn_10 rfl ?_
    refine gf_X1_9 (pc := 11) dX1_worksOn_11 ?_
    refine PW.iload_n (pc := 14) dX1_worksOn_14 rfl ?_
    refine PW.ialdN (pc := 15) rfl rfl (by omega) (by decide) dX1_worksOn_15 ?_
    refine PW.iload_n (pc := 16) dX1_worksOn_16 rfl ?_
    refine PW.icmp_eq (pc := 17) (tgt := 30) dX1_worksOn_17 (by decide) (fun c_17 => ?_) (fun c_17 => ?_)
    · refine PW.iconst (pc := 30) (v := nI 1) dX1_worksOn_30 (by decide) ?_
      refine PW.goto (pc := 31) (tgt := 35) dX1_worksOn_31 (by decide) ?_
      refine PW.zret (pc := 35) hY (by decide) ?_ dX1_worksOn_35
      exact x_zt ⟨c_7, Or.inl c_17⟩
    · refine PW.aload_n (pc := 20) dX1_worksOn_20 rfl ?_
      refine gf_X1_15 (pc := 21) dX1_worksOn_21 ?_
      refine PW.iload_n (pc := 24) dX1_worksOn_24 rfl ?_
      refine PW.ialdN (pc := 25) rfl rfl (by omega) (by decide) dX1_worksOn_25 ?_
      refine PW.iload_n (pc := 26) dX1_worksOn_26 rfl ?_
      refine PW.icmp_ne (pc := 27) (tgt := 34) dX1_worksOn_27 (by decide) (fun c_27 => ?_) (fun c_27 => ?_)
      · refine PW.iconst (pc := 34) (v := nI 0) dX1_worksOn_34 (by decide) ?_
        refine PW.zret (pc := 35) hY (by decide) ?_ dX1_worksOn_35
        exact x_zf (fun h => h.2.elim c_17 c_27)
      · refine PW.iconst (pc := 30) (v := nI 1) dX1_worksOn_30 (by decide) ?_
        refine PW.goto (pc := 31) (tgt := 35) dX1_worksOn_31 (by decide) ?_
        refine PW.zret (pc := 35) hY (by decide) ?_ dX1_worksOn_35
        exact x_zt ⟨c_7, Or.inr c_27⟩
set_option maxHeartbeats 4000000 in
set_option maxRecDepth 20000 in
theorem c_X5_have {t : Nat} {M : xM} (ht : t < 6) : K_X5_have [.ref 1, .int (nI t)] M (xRi (fun x u => x = hv (M.1 2 t) (M.1 7 t) ∧ u = M)) := by
  refine xMet.of (own := RX5) rfl (by decide) (Nat.le_of_ble_eq_true rfl) rfl (fun Y hY => ?_)
  refine PW.iconst (pc := 0) (v := nI 0) dX5_have_0 (by decide) ?_
  refine PW.aload_n (pc := 1) dX5_have_1 rfl ?_
  refine gf_X5_9 (pc := 2) dX5_have_2 ?_
  refine PW.iload_n (pc := 5) dX5_have_5 rfl ?_
  refine PW.ialdN (pc := 6) rfl rfl (by omega) (by decide) dX5_have_6 ?_
  refine PW.aload_n (pc := 7) dX5_have_7 rfl ?_
  refine gf_X5_27 (pc := 8) dX5_have_8 ?_
  refine PW.iload_n (pc := 11) dX5_have_11 rfl ?_
  refine PW.ialdN (pc := 12) rfl rfl (by omega) (by decide) dX5_have_12 ?_
  refine PW.isub (pc := 13) dX5_have_13 ?_
  refine PW.mmax (pc := 14) (idx := 36) hY.rm (by decide) (by decide) (by decide +kernel) dX5_have_14 (Nat.le_of_ble_eq_true rfl) ?_
  refine PW.iret (pc := 17) hY ?_ dX5_have_17
  exact x_ri ⟨rfl, rfl⟩
set_option maxHeartbeats 4000000 in
set_option maxRecDepth 20000 in
theorem c_X5_allGone {M : xM} : K_X5_allGone [.ref 1] M (xRi (fun x u => x = gsum (M.1 7) 6 ∧ u = M)) := by
  refine xMet.of (own := RX5) rfl (by decide) (Nat.le_of_ble_eq_true rfl) rfl (fun Y hY => ?_)
  have h0 : P_X5_allGone Y 4 [(0, .ref 1), (1, .int (gsum (M.1 7) 6)), (2, .int (nI 6))] [] M := by
    refine PW.iload_n (pc := 4) dX5_allGone_4 rfl ?_
    refine PW.bipush (pc := 5) (v := nI 6) dX5_allGone_5 (by decide) ?_
    refine PW.icmp_ge (pc := 7) (tgt := 25) dX5_allGone_7 (by decide) (fun _ => ?_) (fun c => absurd ((nI_le (Nat.le_refl _) (by omega))) c)
    refine PW.iload_n (pc := 25) dX5_allGone_25 rfl ?_
    refine PW.iret (pc := 26) hY ?_ dX5_allGone_26
    exact x_ri ⟨rfl, rfl⟩
  have hs : ∀ f, f < 6 → P_X5_allGone Y 4 [(0, .ref 1), (1, .int (gsum (M.1 7) (f + 1))), (2, .int (nI (f + 1)))] [] M → P_X5_allGone Y 4 [(0, .ref 1), (1, .int (gsum (M.1 7) f)), (2, .int (nI f))] [] M := by
    intro f hf ih
    refine PW.iload_n (pc := 4) dX5_allGone_4 rfl ?_
    refine PW.bipush (pc := 5) (v := nI 6) dX5_allGone_5 (by decide) ?_
    refine PW.icmp_ge (pc := 7) (tgt := 25) dX5_allGone_7 (by decide) (fun c => absurd c ((nI_ge hf (by omega)))) (fun _ => ?_)
    refine PW.iload_n (pc := 10) dX5_allGone_10 rfl ?_
    refine PW.aload_n (pc := 11) dX5_allGone_11 rfl ?_
    refine gf_X5_27 (pc := 12) dX5_allGone_12 ?_
    refine PW.iload_n (pc := 15) dX5_allGone_15 rfl ?_
    refine PW.ialdN (pc := 16) rfl rfl (by omega) (by decide) dX5_allGone_16 ?_
    refine PW.iadd (pc := 17) dX5_allGone_17 ?_
    refine PW.istore_n (pc := 18) (i := 1) dX5_allGone_18 rfl (by decide) rfl ?_
    refine PW.iinc (pc := 19) dX5_allGone_19 rfl (x_inc1 _) (by decide) rfl ?_
    refine PW.goto (pc := 22) (tgt := 4) dX5_allGone_22 (by decide) ?_
    exact PW.st rfl rfl rfl ih
  refine PW.iconst (pc := 0) (v := nI 0) dX5_allGone_0 (by decide) ?_
  refine PW.istore_n (pc := 1) (i := 1) dX5_allGone_1 rfl (by decide) rfl ?_
  refine PW.iconst (pc := 2) (v := nI 0) dX5_allGone_2 (by decide) ?_
  refine PW.istore_n (pc := 3) (i := 2) dX5_allGone_3 rfl (by decide) rfl ?_
  exact PW.st rfl rfl rfl (x_down (P := fun f => P_X5_allGone Y 4 [(0, .ref 1), (1, .int (gsum (M.1 7) f)), (2, .int (nI f))] [] M) h0 hs 0 (Nat.zero_le _))
set_option maxHeartbeats 4000000 in
set_option maxRecDepth 20000 in
theorem c_X4_on {d : Nat} {M : xM} (hd : d ≤ 60) : K_X4_on [.ref 18, .int (nI d)] M (xRi (fun x u => x = xB (¬ M.1 19 d = 0) ∧ u = M)) := by
  refine xMet.of (own := RX4) rfl (by decide) (Nat.le_of_ble_eq_true rfl) rfl (fun Y hY => ?_)
  refine PW.iload_n (pc := 0) dX4_on_0 rfl ?_
  refine PW.if_lt (pc := 1) (tgt := 23) dX4_on_1 (by decide) (fun c => absurd c ((nI_pos (by omega)))) (fun _ => ?_)
  refine PW.iload_n (pc := 4) dX4_on_4 rfl ?_
  refine PW.bipush (pc := 5) (v := nI 60) dX4_on_5 (by decide) ?_
  refine PW.icmp_gt (pc := 7) (tgt := 23) dX4_on_7 (by decide) (fun c => absurd c ((x_ng (nI_le hd (by omega))))) (fun _ => ?_)
  refine PW.aload_n (pc := 10) dX4_on_10 rfl ?_
  refine gf_X4_9 (pc := 11) dX4_on_11 ?_
  refine PW.iload_n (pc := 14) dX4_on_14 rfl ?_
  refine PW.zaldN (pc := 15) rfl rfl (by omega) (by decide) dX4_on_15 ?_
  refine PW.if_eq (pc := 16) (tgt := 23) dX4_on_16 (by decide) (fun c_16 => ?_) (fun c_16 => ?_)
  · refine PW.iconst (pc := 23) (v := nI 0) dX4_on_23 (by decide) ?_
    refine PW.zret (pc := 24) hY (by decide) ?_ dX4_on_24
    exact x_zf (fun h => h c_16)
  · refine PW.iconst (pc := 19) (v := nI 1) dX4_on_19 (by decide) ?_
    refine PW.goto (pc := 20) (tgt := 24) dX4_on_20 (by decide) ?_
    refine PW.zret (pc := 24) hY (by decide) ?_ dX4_on_24
    exact x_zt c_16
set_option maxHeartbeats 4000000 in
set_option maxRecDepth 20000 in
theorem c_X4_tell {d : Nat} {b : Int32} {M : xM} (hd : d ≤ 60) (hb : b = 0 ∨ b = 1) : K_X4_tell [.ref 18, .int (nI d), .int b] M (xRv (fun u => u = if M.1 19 d = b then M else xup (xup M 19 d b) 18 1 (M.1 18 1 + (if b = 0 then (-1) else nI 1)))) := by
  refine xMet.of (own := RX4) rfl (by decide) (Nat.le_of_ble_eq_true rfl) rfl (fun Y hY => ?_)
  refine PW.iload_n (pc := 0) dX4_tell_0 rfl ?_
  refine PW.if_lt (pc := 1) (tgt := 20) dX4_tell_1 (by decide) (fun c => absurd c ((nI_pos (by omega)))) (fun _ => ?_)
  refine PW.iload_n (pc := 4) dX4_tell_4 rfl ?_
  refine PW.bipush (pc := 5) (v := nI 60) dX4_tell_5 (by decide) ?_
  refine PW.icmp_gt (pc := 7) (tgt := 20) dX4_tell_7 (by decide) (fun c => absurd c ((x_ng (nI_le hd (by omega))))) (fun _ => ?_)
  refine PW.aload_n (pc := 10) dX4_tell_10 rfl ?_
  refine gf_X4_9 (pc := 11) dX4_tell_11 ?_
  refine PW.iload_n (pc := 14) dX4_tell_14 rfl ?_
  refine PW.zaldN (pc := 15) rfl rfl (by omega) (by decide) dX4_tell_15 ?_
  refine PW.iload_n (pc := 16) dX4_tell_16 rfl ?_
  refine PW.icmp_ne (pc := 17) (tgt := 21) dX4_tell_17 (by decide) (fun c_17 => ?_) (fun c_17 => ?_)
  · refine PW.aload_n (pc := 21) dX4_tell_21 rfl ?_
    refine gf_X4_9 (pc := 22) dX4_tell_22 ?_
    refine PW.iload_n (pc := 25) dX4_tell_25 rfl ?_
    refine PW.iload_n (pc := 26) dX4_tell_26 rfl ?_
    refine PW.zastN (pc := 27) rfl rfl (by omega) (by decide) (by first | assumption | decide) dX4_tell_27 ?_
    refine PW.aload_n (pc := 28) dX4_tell_28 rfl ?_
    refine PW.dup (pc := 29) dX4_tell_29 rfl ?_
    refine gf_X4_15 (pc := 30) dX4_tell_30 ?_
    refine PW.iload_n (pc := 33) dX4_tell_33 rfl ?_
    refine PW.if_eq (pc := 34) (tgt := 41) dX4_tell_34 (by decide) (fun c_34 => ?_) (fun c_34 => ?_)
    · refine PW.iconst (pc := 41) (v := (-1)) dX4_tell_41 (by decide) ?_
      refine PW.iadd (pc := 42) dX4_tell_42 ?_
      refine pf_X4_15 (pc := 43) dX4_tell_43 ?_
      refine PW.vret (pc := 46) hY ?_ dX4_tell_46
      refine x_rv ?_
      rw [if_neg c_17, if_pos c_34]
      simp [xup_1]
    · refine PW.iconst (pc := 37) (v := nI 1) dX4_tell_37 (by decide) ?_
      refine PW.goto (pc := 38) (tgt := 42) dX4_tell_38 (by decide) ?_
      refine PW.iadd (pc := 42) dX4_tell_42 ?_
      refine pf_X4_15 (pc := 43) dX4_tell_43 ?_
      refine PW.vret (pc := 46) hY ?_ dX4_tell_46
      refine x_rv ?_
      rw [if_neg c_17, if_neg c_34]
      simp [xup_1]
  · refine PW.vret (pc := 20) hY ?_ dX4_tell_20
    refine x_rv ?_
    rw [if_pos c_17]
set_option maxHeartbeats 4000000 in
set_option maxRecDepth 20000 in
theorem c_X2_doorsFor {g : Int32} {n : Nat} {M : xM} (hn : M.1 22 2 = nI n) (h6 : n ≤ 6) : K_X2_doorsFor [.ref 22, .int g] M (xRi (fun x u => x = dfor (M.1 23) (M.1 24) g n ∧ u = M)) := by
  refine xMet.of (own := RX2) rfl (by decide) (Nat.le_of_ble_eq_true rfl) rfl (fun Y hY => ?_)
  have h0 : P_X2_doorsFor Y 4 [(0, .ref 22), (1, .int g), (2, .int (dfor (M.1 23) (M.1 24) g n)), (3, .int (nI n))] [] M := by
    refine PW.iload_n (pc := 4) dX2_doorsFor_4 rfl ?_
    refine PW.aload_n (pc := 5) dX2_doorsFor_5 rfl ?_
    refine gf_X2_18 (pc := 6) dX2_doorsFor_6 ?_
    refine PW.icmp_ge (pc := 9) (tgt := 35) dX2_doorsFor_9 (by decide) (fun _ => ?_) (fun c => absurd ((by rw [hn]; exact nI_le (Nat.le_refl _) (by omega))) c)
    refine PW.iload_n (pc := 35) dX2_doorsFor_35 rfl ?_
    refine PW.iret (pc := 36) hY ?_ dX2_doorsFor_36
    exact x_ri ⟨rfl, rfl⟩
  have hs : ∀ f, f < n → P_X2_doorsFor Y 4 [(0, .ref 22), (1, .int g), (2, .int (dfor (M.1 23) (M.1 24) g (f + 1))), (3, .int (nI (f + 1)))] [] M → P_X2_doorsFor Y 4 [(0, .ref 22), (1, .int g), (2, .int (dfor (M.1 23) (M.1 24) g f)), (3, .int (nI f))] [] M := by
    intro f hf ih
    refine PW.iload_n (pc := 4) dX2_doorsFor_4 rfl ?_
    refine PW.aload_n (pc := 5) dX2_doorsFor_5 rfl ?_
    refine gf_X2_18 (pc := 6) dX2_doorsFor_6 ?_
    refine PW.icmp_ge (pc := 9) (tgt := 35) dX2_doorsFor_9 (by decide) (fun c => absurd c ((by rw [hn]; exact nI_ge hf (by omega)))) (fun _ => ?_)
    refine PW.iload_n (pc := 12) dX2_doorsFor_12 rfl ?_
    refine PW.aload_n (pc := 13) dX2_doorsFor_13 rfl ?_
    refine gf_X2_9 (pc := 14) dX2_doorsFor_14 ?_
    refine PW.iload_n (pc := 17) dX2_doorsFor_17 rfl ?_
    refine PW.ialdN (pc := 18) rfl rfl (by omega) (by decide) dX2_doorsFor_18 ?_
    refine PW.icmp_lt (pc := 19) (tgt := 29) dX2_doorsFor_19 (by decide) (fun c_19 => ?_) (fun c_19 => ?_)
    · refine PW.iinc (pc := 29) dX2_doorsFor_29 rfl (x_inc1 _) (by decide) rfl ?_
      refine PW.goto (pc := 32) (tgt := 4) dX2_doorsFor_32 (by decide) ?_
      refine PW.st rfl rfl ?_ ih
      rw [dfor, if_neg (x_nl c_19)]; rfl
    · refine PW.aload_n (pc := 22) dX2_doorsFor_22 rfl ?_
      refine gf_X2_15 (pc := 23) dX2_doorsFor_23 ?_
      refine PW.iload_n (pc := 26) dX2_doorsFor_26 rfl ?_
      refine PW.ialdN (pc := 27) rfl rfl (by omega) (by decide) dX2_doorsFor_27 ?_
      refine PW.istore_n (pc := 28) (i := 2) dX2_doorsFor_28 rfl (by decide) rfl ?_
      refine PW.iinc (pc := 29) dX2_doorsFor_29 rfl (x_inc1 _) (by decide) rfl ?_
      refine PW.goto (pc := 32) (tgt := 4) dX2_doorsFor_32 (by decide) ?_
      refine PW.st rfl rfl ?_ ih
      rw [dfor, if_pos (x_ge c_19)]; rfl
  refine PW.iconst (pc := 0) (v := nI 1) dX2_doorsFor_0 (by decide) ?_
  refine PW.istore_n (pc := 1) (i := 2) dX2_doorsFor_1 rfl (by decide) rfl ?_
  refine PW.iconst (pc := 2) (v := nI 0) dX2_doorsFor_2 (by decide) ?_
  refine PW.istore_n (pc := 3) (i := 3) dX2_doorsFor_3 rfl (by decide) rfl ?_
  exact PW.st rfl rfl rfl (x_down (P := fun f => P_X2_doorsFor Y 4 [(0, .ref 22), (1, .int g), (2, .int (dfor (M.1 23) (M.1 24) g f)), (3, .int (nI f))] [] M) h0 hs 0 (Nat.zero_le _))
set_option maxHeartbeats 4000000 in
set_option maxRecDepth 20000 in
theorem c_J6_bitCount_0f7a4 {s : Nat} {M : xM} (hs : s < 1024) : K_J6_bitCount_0f7a4 [.int (nI s)] M (xRi (fun x u => x = nI (pcn s 10) ∧ u = M)) := by
  refine xMet.of (own := RJ6) rfl (by decide) (Nat.le_of_ble_eq_true rfl) rfl (fun Y hY => ?_)
  refine PW.iload_n (pc := 0) dJ6_bitCount_0f7a4_0 rfl ?_
  refine PW.iload_n (pc := 1) dJ6_bitCount_0f7a4_1 rfl ?_
  refine PW.iconst (pc := 2) (v := nI 1) dJ6_bitCount_0f7a4_2 (by decide) ?_
  refine PW.iushr (pc := 3) dJ6_bitCount_0f7a4_3 ?_
  refine PW.ldc_w (pc := 4) (v := nI 1431655765) (by decide +kernel) dJ6_bitCount_0f7a4_4 ?_
  refine PW.iand (pc := 7) dJ6_bitCount_0f7a4_7 ?_
  refine PW.isub (pc := 8) dJ6_bitCount_0f7a4_8 ?_
  refine PW.istore_n (pc := 9) (i := 0) dJ6_bitCount_0f7a4_9 rfl (by decide) rfl ?_
  refine PW.iload_n (pc := 10) dJ6_bitCount_0f7a4_10 rfl ?_
  refine PW.ldc_w (pc := 11) (v := nI 858993459) (by decide +kernel) dJ6_bitCount_0f7a4_11 ?_
  refine PW.iand (pc := 14) dJ6_bitCount_0f7a4_14 ?_
  refine PW.iload_n (pc := 15) dJ6_bitCount_0f7a4_15 rfl ?_
  refine PW.iconst (pc := 16) (v := nI 2) dJ6_bitCount_0f7a4_16 (by decide) ?_
  refine PW.iushr (pc := 17) dJ6_bitCount_0f7a4_17 ?_
  refine PW.ldc_w (pc := 18) (v := nI 858993459) (by decide +kernel) dJ6_bitCount_0f7a4_18 ?_
  refine PW.iand (pc := 21) dJ6_bitCount_0f7a4_21 ?_
  refine PW.iadd (pc := 22) dJ6_bitCount_0f7a4_22 ?_
  refine PW.istore_n (pc := 23) (i := 0) dJ6_bitCount_0f7a4_23 rfl (by decide) rfl ?_
  refine PW.iload_n (pc := 24) dJ6_bitCount_0f7a4_24 rfl ?_
  refine PW.iload_n (pc := 25) dJ6_bitCount_0f7a4_25 rfl ?_
  refine PW.iconst (pc := 26) (v := nI 4) dJ6_bitCount_0f7a4_26 (by decide) ?_
  refine PW.iushr (pc := 27) dJ6_bitCount_0f7a4_27 ?_
  refine PW.iadd (pc := 28) dJ6_bitCount_0f7a4_28 ?_
  refine PW.ldc_w (pc := 29) (v := nI 252645135) (by decide +kernel) dJ6_bitCount_0f7a4_29 ?_
  refine PW.iand (pc := 32) dJ6_bitCount_0f7a4_32 ?_
  refine PW.istore_n (pc := 33) (i := 0) dJ6_bitCount_0f7a4_33 rfl (by decide) rfl ?_
  refine PW.iload_n (pc := 34) dJ6_bitCount_0f7a4_34 rfl ?_
  refine PW.iload_n (pc := 35) dJ6_bitCount_0f7a4_35 rfl ?_
  refine PW.bipush (pc := 36) (v := nI 8) dJ6_bitCount_0f7a4_36 (by decide) ?_
  refine PW.iushr (pc := 38) dJ6_bitCount_0f7a4_38 ?_
  refine PW.iadd (pc := 39) dJ6_bitCount_0f7a4_39 ?_
  refine PW.istore_n (pc := 40) (i := 0) dJ6_bitCount_0f7a4_40 rfl (by decide) rfl ?_
  refine PW.iload_n (pc := 41) dJ6_bitCount_0f7a4_41 rfl ?_
  refine PW.iload_n (pc := 42) dJ6_bitCount_0f7a4_42 rfl ?_
  refine PW.bipush (pc := 43) (v := nI 16) dJ6_bitCount_0f7a4_43 (by decide) ?_
  refine PW.iushr (pc := 45) dJ6_bitCount_0f7a4_45 ?_
  refine PW.iadd (pc := 46) dJ6_bitCount_0f7a4_46 ?_
  refine PW.istore_n (pc := 47) (i := 0) dJ6_bitCount_0f7a4_47 rfl (by decide) rfl ?_
  refine PW.iload_n (pc := 48) dJ6_bitCount_0f7a4_48 rfl ?_
  refine PW.bipush (pc := 49) (v := nI 63) dJ6_bitCount_0f7a4_49 (by decide) ?_
  refine PW.iand (pc := 51) dJ6_bitCount_0f7a4_51 ?_
  refine PW.iret (pc := 52) hY ?_ dJ6_bitCount_0f7a4_52
  exact x_ri ⟨bcI_pcn s hs, rfl⟩
set_option maxHeartbeats 4000000 in
set_option maxRecDepth 20000 in
theorem c_J7_fill_53178 {b n : Nat} {v : Int32} {M : xM} (hb : xSH[b]? = some (.inl (0, n))) (hn : n < 2 ^ 31) : K_J7_fill_53178 [.ref b, .int v] M (xRv (fun u => u = xupA M b (fun j => if j < n then v else M.1 b j))) := by
  refine xMet.of (own := RJ7) rfl (by decide) (Nat.le_of_ble_eq_true rfl) rfl (fun Y hY => ?_)
  have h0 : P_J7_fill_53178 Y 5 [(0, .ref b), (1, .int v), (2, .int (nI n)), (3, .int (nI n))] [] (xupA M b (fun j => if j < n then v else M.1 b j)) := by
    refine PW.iload_n (pc := 5) dJ7_fill_53178_5 rfl ?_
    refine PW.iload_n (pc := 6) dJ7_fill_53178_6 rfl ?_
    refine PW.icmp_ge (pc := 7) (tgt := 20) dJ7_fill_53178_7 (by decide) (fun _ => ?_) (fun c => absurd ((nI_le (Nat.le_refl _) hn)) c)
    refine PW.vret (pc := 20) hY ?_ dJ7_fill_53178_20
    exact x_rv rfl
  have hs : ∀ f, f < n → P_J7_fill_53178 Y 5 [(0, .ref b), (1, .int v), (2, .int (nI (f + 1))), (3, .int (nI n))] [] (xupA M b (fun j => if j < f + 1 then v else M.1 b j)) → P_J7_fill_53178 Y 5 [(0, .ref b), (1, .int v), (2, .int (nI f)), (3, .int (nI n))] [] (xupA M b (fun j => if j < f then v else M.1 b j)) := by
    intro f hf ih
    refine PW.iload_n (pc := 5) dJ7_fill_53178_5 rfl ?_
    refine PW.iload_n (pc := 6) dJ7_fill_53178_6 rfl ?_
    refine PW.icmp_ge (pc := 7) (tgt := 20) dJ7_fill_53178_7 (by decide) (fun c => absurd c ((nI_ge hf hn))) (fun _ => ?_)
    refine PW.aload_n (pc := 10) dJ7_fill_53178_10 rfl ?_
    refine PW.iload_n (pc := 11) dJ7_fill_53178_11 rfl ?_
    refine PW.iload_n (pc := 12) dJ7_fill_53178_12 rfl ?_
    refine PW.iastN (pc := 13) hb rfl hf hn dJ7_fill_53178_13 ?_
    refine PW.iinc (pc := 14) dJ7_fill_53178_14 rfl (x_inc1 _) (by decide) rfl ?_
    refine PW.goto (pc := 17) (tgt := 5) dJ7_fill_53178_17 (by decide) ?_
    refine PW.st ?_ rfl rfl ih
    refine xM_ext (fun p j => ?_) rfl
    simp only [xup_1, xupA_1]
    by_cases hp : p = b
    · subst hp
      by_cases hj : j = f
      · subst hj; simp
      · have e : (j < f + 1) ↔ j < f := by omega
        simp [hj, e]
    · simp [hp]
  refine PW.iconst (pc := 0) (v := nI 0) dJ7_fill_53178_0 (by decide) ?_
  refine PW.istore_n (pc := 1) (i := 2) dJ7_fill_53178_1 rfl (by decide) rfl ?_
  refine PW.aload_n (pc := 2) dJ7_fill_53178_2 rfl ?_
  refine PW.alen (pc := 3) hb (by decide) dJ7_fill_53178_3 ?_
  refine PW.istore_n (pc := 4) (i := 3) dJ7_fill_53178_4 rfl (by decide) rfl ?_
  refine PW.st ?_ rfl rfl (x_down (P := fun f => P_J7_fill_53178 Y 5 [(0, .ref b), (1, .int v), (2, .int (nI f)), (3, .int (nI n))] [] (xupA M b (fun j => if j < f then v else M.1 b j))) h0 hs 0 (Nat.zero_le _))
  refine xM_ext (fun p j => ?_) rfl
  simp only [xupA_1]
  by_cases hp : p = b
  · subst hp; simp
  · simp [hp]
set_option maxHeartbeats 4000000 in
set_option maxRecDepth 20000 in
theorem c_X3_clear {M : xM} : K_X3_clear [.ref 20] M (xRv (fun u => u = xupL (xup (xup (xupA M 21 (fun j => if j < 396 then nI 0 else M.1 21 j)) 20 1 (nI 0)) 20 2 (nI 0)) 20 3 (lN 0))) := by
  refine xMet.of (own := RX3) rfl (by decide) (Nat.le_of_ble_eq_true rfl) rfl (fun Y hY => ?_)
  refine PW.aload_n (pc := 0) dX3_clear_0 rfl ?_
  refine gf_X3_9 (pc := 1) dX3_clear_1 ?_
  refine PW.iconst (pc := 4) (v := nI 0) dX3_clear_4 (by decide) ?_
  refine cs_X3_26 (pc := 5) hY.rm (c_J7_fill_53178 rfl (by decide)) ⟨Nat.le_of_ble_eq_true rfl, Nat.le_of_ble_eq_true rfl⟩ dX3_clear_5 (Nat.le_of_ble_eq_true rfl) (fun u_5 h_5 => ?_)
  subst h_5
  refine PW.aload_n (pc := 8) dX3_clear_8 rfl ?_
  refine PW.iconst (pc := 9) (v := nI 0) dX3_clear_9 (by decide) ?_
  refine pf_X3_15 (pc := 10) dX3_clear_10 ?_
  refine PW.aload_n (pc := 13) dX3_clear_13 rfl ?_
  refine PW.iconst (pc := 14) (v := nI 0) dX3_clear_14 (by decide) ?_
  refine pf_X3_19 (pc := 15) dX3_clear_15 ?_
  refine PW.aload_n (pc := 18) dX3_clear_18 rfl ?_
  refine PW.lconst (pc := 19) (v := lN 0) dX3_clear_19 rfl ?_
  refine pf_X3_22 (pc := 20) dX3_clear_20 ?_
  refine PW.vret (pc := 23) hY ?_ dX3_clear_23
  exact x_rv rfl
set_option maxHeartbeats 4000000 in
set_option maxRecDepth 20000 in
theorem c_X1_tell {f w : Nat} {M : xM} (hf : f < 10) (hw : w ≤ 6) : K_X1_tell [.ref 8, .int (nI f), .int (nI w)] M (xRi (fun x u => x = tellv M f w ∧ u = M)) := by
  refine xMet.of (own := RX1) rfl (by decide) (Nat.le_of_ble_eq_true rfl) rfl (fun Y hY => ?_)
  refine PW.iload_n (pc := 0) dX1_tell_0 rfl ?_
  have e : (nI w).toInt = (w : Int) := nI_toInt (by omega)
  rcases (show w = 0 ∨ w = 1 ∨ w = 2 ∨ w = 3 ∨ w = 4 ∨ w = 5 ∨ w = 6 by omega) with rfl | rfl | rfl | rfl | rfl | rfl | rfl
  · refine PW.tswIn (pc := 1) (tgt := 40) dX1_tell_1 (by rw [e]; decide) (by rw [e]; decide) (by rw [e]; rfl) (by decide) ?_
    refine PW.aload_n (pc := 40) dX1_tell_40 rfl ?_
    refine gf_X1_21 (pc := 41) dX1_tell_41 ?_
    refine PW.iload_n (pc := 44) dX1_tell_44 rfl ?_
    refine PW.ialdN (pc := 45) rfl rfl (by omega) (by decide) dX1_tell_45 ?_
    refine PW.iret (pc := 46) hY ?_ dX1_tell_46
    exact x_ri ⟨rfl, rfl⟩
  · refine PW.tswIn (pc := 1) (tgt := 47) dX1_tell_1 (by rw [e]; decide) (by rw [e]; decide) (by rw [e]; rfl) (by decide) ?_
    refine PW.aload_n (pc := 47) dX1_tell_47 rfl ?_
    refine gf_X1_9 (pc := 48) dX1_tell_48 ?_
    refine PW.iload_n (pc := 51) dX1_tell_51 rfl ?_
    refine PW.ialdN (pc := 52) rfl rfl (by omega) (by decide) dX1_tell_52 ?_
    refine PW.iret (pc := 53) hY ?_ dX1_tell_53
    exact x_ri ⟨rfl, rfl⟩
  · refine PW.tswIn (pc := 1) (tgt := 54) dX1_tell_1 (by rw [e]; decide) (by rw [e]; decide) (by rw [e]; rfl) (by decide) ?_
    refine PW.aload_n (pc := 54) dX1_tell_54 rfl ?_
    refine gf_X1_15 (pc := 55) dX1_tell_55 ?_
    refine PW.iload_n (pc := 58) dX1_tell_58 rfl ?_
    refine PW.ialdN (pc := 59) rfl rfl (by omega) (by decide) dX1_tell_59 ?_
    refine PW.iret (pc := 60) hY ?_ dX1_tell_60
    exact x_ri ⟨rfl, rfl⟩
  · refine PW.tswIn (pc := 1) (tgt := 61) dX1_tell_1 (by rw [e]; decide) (by rw [e]; decide) (by rw [e]; rfl) (by decide) ?_
    refine PW.aload_n (pc := 61) dX1_tell_61 rfl ?_
    refine gf_X1_18 (pc := 62) dX1_tell_62 ?_
    refine PW.iload_n (pc := 65) dX1_tell_65 rfl ?_
    refine PW.ialdN (pc := 66) rfl rfl (by omega) (by decide) dX1_tell_66 ?_
    refine PW.iret (pc := 67) hY ?_ dX1_tell_67
    exact x_ri ⟨rfl, rfl⟩
  · refine PW.tswIn (pc := 1) (tgt := 68) dX1_tell_1 (by rw [e]; decide) (by rw [e]; decide) (by rw [e]; rfl) (by decide) ?_
    refine PW.aload_n (pc := 68) dX1_tell_68 rfl ?_
    refine gf_X1_24 (pc := 69) dX1_tell_69 ?_
    refine PW.iload_n (pc := 72) dX1_tell_72 rfl ?_
    refine PW.ialdN (pc := 73) rfl rfl (by omega) (by decide) dX1_tell_73 ?_
    refine PW.iret (pc := 74) hY ?_ dX1_tell_74
    exact x_ri ⟨rfl, rfl⟩
  · refine PW.tswIn (pc := 1) (tgt := 75) dX1_tell_1 (by rw [e]; decide) (by rw [e]; decide) (by rw [e]; rfl) (by decide) ?_
    refine PW.aload_n (pc := 75) dX1_tell_75 rfl ?_
    refine gf_X1_27 (pc := 76) dX1_tell_76 ?_
    refine PW.iload_n (pc := 79) dX1_tell_79 rfl ?_
    refine PW.ialdN (pc := 80) rfl rfl (by omega) (by decide) dX1_tell_80 ?_
    refine PW.iret (pc := 81) hY ?_ dX1_tell_81
    exact x_ri ⟨rfl, rfl⟩
  · refine PW.tswOut (pc := 1) (tgt := 82) dX1_tell_1 (by rw [e]; decide) (by decide) ?_
    refine PW.aload_n (pc := 82) dX1_tell_82 rfl ?_
    refine gf_X1_30 (pc := 83) dX1_tell_83 ?_
    refine PW.iload_n (pc := 86) dX1_tell_86 rfl ?_
    refine PW.ialdN (pc := 87) rfl rfl (by omega) (by decide) dX1_tell_87 ?_
    refine PW.iret (pc := 88) hY ?_ dX1_tell_88
    exact x_ri ⟨rfl, rfl⟩
set_option maxHeartbeats 4000000 in
set_option maxRecDepth 20000 in
theorem c_X2_write {g dd : Int32} {n : Nat} {M : xM} (hn : M.1 22 2 = nI n) (h6 : n ≤ 6) : K_X2_write [.ref 22, .int g, .int dd] M (xRi (fun x u => if 0 < n ∧ (g ≤ M.1 23 (n - 1) ∨ dd ≤ M.1 24 (n - 1)) then x = (-3) ∧ u = M else if n < 6 then x = nI (n + 1) ∧ u = xup (xup (xup M 23 n g) 24 n dd) 22 2 (nI (n + 1)) else x = (-4) ∧ u = M)) := by
  refine xMet.of (own := RX2) rfl (by decide) (Nat.le_of_ble_eq_true rfl) rfl (fun Y hY => ?_)
  have tail : ¬ (0 < n ∧ (g ≤ M.1 23 (n - 1) ∨ dd ≤ M.1 24 (n - 1))) → P_X2_write Y 40 [(0, .ref 22), (1, .int g), (2, .int dd)] [] M := by
    intro hno
    refine PW.aload_n (pc := 40) dX2_write_40 rfl ?_
    refine gf_X2_18 (pc := 41) dX2_write_41 ?_
    refine PW.bipush (pc := 44) (v := nI 6) dX2_write_44 (by decide) ?_
    refine PW.icmp_lt (pc := 46) (tgt := 52) dX2_write_46 (by decide) (fun c_46 => ?_) (fun c_46 => ?_)
    · rw [hn] at c_46
      have h : n < 6 := (nI_ltI (by omega) (by omega)).mp c_46
      refine PW.aload_n (pc := 52) dX2_write_52 rfl ?_
      refine gf_X2_9 (pc := 53) dX2_write_53 ?_
      refine PW.aload_n (pc := 56) dX2_write_56 rfl ?_
      refine gf_X2_18 (pc := 57) dX2_write_57 ?_
      refine PW.iload_n (pc := 60) dX2_write_60 rfl ?_
      refine PW.iastN (pc := 61) rfl hn h (by decide) dX2_write_61 ?_
      refine PW.aload_n (pc := 62) dX2_write_62 rfl ?_
      refine gf_X2_15 (pc := 63) dX2_write_63 ?_
      refine PW.aload_n (pc := 66) dX2_write_66 rfl ?_
      refine gf_X2_18 (pc := 67) dX2_write_67 ?_
      refine PW.iload_n (pc := 70) dX2_write_70 rfl ?_
      refine PW.iastN (pc := 71) rfl (by simp only [xup_1]; exact hn) h (by decide) dX2_write_71 ?_
      refine PW.aload_n (pc := 72) dX2_write_72 rfl ?_
      refine PW.dup (pc := 73) dX2_write_73 rfl ?_
      refine gf_X2_18 (pc := 74) dX2_write_74 ?_
      refine PW.iconst (pc := 77) (v := nI 1) dX2_write_77 (by decide) ?_
      refine PW.iadd (pc := 78) dX2_write_78 ?_
      refine pf_X2_18 (pc := 79) dX2_write_79 ?_
      refine PW.aload_n (pc := 82) dX2_write_82 rfl ?_
      refine gf_X2_18 (pc := 83) dX2_write_83 ?_
      refine PW.iret (pc := 86) hY ?_ dX2_write_86
      refine x_ri ?_
      rw [if_neg hno, if_pos h]
      simp only [xup_1]
      refine ⟨?_, ?_⟩
      · simp [hn, nI_add]
      · congr 1
        simp [hn, nI_add]
    · rw [hn] at c_46
      have h : ¬ n < 6 := fun q => c_46 ((nI_ltI (by omega) (by omega)).mpr q)
      refine PW.bipush (pc := 49) (v := (-4)) dX2_write_49 (by decide) ?_
      refine PW.iret (pc := 51) hY ?_ dX2_write_51
      refine x_ri ?_
      rw [if_neg hno, if_neg h]
      exact ⟨rfl, rfl⟩
  refine PW.aload_n (pc := 0) dX2_write_0 rfl ?_
  refine gf_X2_18 (pc := 1) dX2_write_1 ?_
  refine PW.if_le (pc := 4) (tgt := 40) dX2_write_4 (by decide) (fun c_4 => ?_) (fun c_4 => ?_)
  · rw [hn] at c_4
    refine PW.st rfl rfl rfl (tail (fun q => ?_))
    exact nI_nle q.1 (by omega) c_4
  · rw [hn] at c_4
    have h0 : 0 < n := by
      rcases Nat.eq_zero_or_pos n with h | h
      · subst h; exact absurd (Int32.le_refl _) c_4
      · exact h
    have hi : M.1 22 2 - nI 1 = nI (n - 1) := by rw [hn, pk_sub h0]
    refine PW.iload_n (pc := 7) dX2_write_7 rfl ?_
    refine PW.aload_n (pc := 8) dX2_write_8 rfl ?_
    refine gf_X2_9 (pc := 9) dX2_write_9 ?_
    refine PW.aload_n (pc := 12) dX2_write_12 rfl ?_
    refine gf_X2_18 (pc := 13) dX2_write_13 ?_
    refine PW.iconst (pc := 16) (v := nI 1) dX2_write_16 (by decide) ?_
    refine PW.isub (pc := 17) dX2_write_17 ?_
    refine PW.ialdN (pc := 18) rfl hi (by omega) (by decide) dX2_write_18 ?_
    refine PW.icmp_le (pc := 19) (tgt := 37) dX2_write_19 (by decide) (fun c_19 => ?_) (fun c_19 => ?_)
    · refine PW.bipush (pc := 37) (v := (-3)) dX2_write_37 (by decide) ?_
      refine PW.iret (pc := 39) hY ?_ dX2_write_39
      refine x_ri ?_
      rw [if_pos ⟨h0, Or.inl c_19⟩]
      exact ⟨rfl, rfl⟩
    · refine PW.iload_n (pc := 22) dX2_write_22 rfl ?_
      refine PW.aload_n (pc := 23) dX2_write_23 rfl ?_
      refine gf_X2_15 (pc := 24) dX2_write_24 ?_
      refine PW.aload_n (pc := 27) dX2_write_27 rfl ?_
      refine gf_X2_18 (pc := 28) dX2_write_28 ?_
      refine PW.iconst (pc := 31) (v := nI 1) dX2_write_31 (by decide) ?_
      refine PW.isub (pc := 32) dX2_write_32 ?_
      refine PW.ialdN (pc := 33) rfl hi (by omega) (by decide) dX2_write_33 ?_
      refine PW.icmp_gt (pc := 34) (tgt := 40) dX2_write_34 (by decide) (fun c_34 => ?_) (fun c_34 => ?_)
      · exact PW.st rfl rfl rfl (tail (fun q => q.2.elim c_19 (x_nl c_34)))
      · refine PW.bipush (pc := 37) (v := (-3)) dX2_write_37 (by decide) ?_
        refine PW.iret (pc := 39) hY ?_ dX2_write_39
        refine x_ri ?_
        rw [if_pos ⟨h0, Or.inr (x_ge c_34)⟩]
        exact ⟨rfl, rfl⟩
end
section
/-! sums over things and days; the ledger's picture -/
def nsum (f : Nat → Nat) : Nat → Nat
  | 0 => 0
  | n + 1 => nsum f n + f n
theorem nsum_congr {f g : Nat → Nat} : ∀ {n : Nat}, (∀ j, j < n → f j = g j) → nsum f n = nsum g n
  | 0, _ => rfl
  | n + 1, h => by rw [nsum, nsum, nsum_congr (fun j hj => h j (by omega)), h n (by omega)]
theorem nsum_le {f : Nat → Nat} {c : Nat} : ∀ {n : Nat}, (∀ j, j < n → f j ≤ c) → nsum f n ≤ n * c
  | 0, _ => by simp [nsum]
  | n + 1, h => by
    have h1 := nsum_le (n := n) (fun j hj => h j (by omega))
    have h2 := h n (by omega)
    rw [nsum, Nat.add_mul]
    omega
theorem nsum_mono {f g : Nat → Nat} : ∀ {n : Nat}, (∀ j, j < n → f j ≤ g j) → nsum f n ≤ nsum g n
  | 0, _ => Nat.le_refl _
  | n + 1, h => by
    have h1 := nsum_mono (n := n) (fun j hj => h j (by omega))
    have h2 := h n (by omega)
    rw [nsum, nsum]
    omega
theorem nsum_upd {f g : Nat → Nat} {k : Nat} : ∀ {n : Nat}, k < n → (∀ j, j ≠ k → g j = f j) → nsum g n + f k = nsum f n + g k
  | 0, h, _ => by omega
  | n + 1, h, hg => by
    rw [nsum, nsum]
    by_cases e : k = n
    · subst e
      rw [nsum_congr (n := k) (f := g) (g := f) (fun j hj => hg j (by omega))]
      omega
    · have h1 := nsum_upd (n := n) (f := f) (g := g) (k := k) (by omega) hg
      rw [hg n (fun q => e q.symm)]
      omega
theorem nsum_add (f g : Nat → Nat) : ∀ n, nsum (fun j => f j + g j) n = nsum f n + nsum g n
  | 0 => rfl
  | n + 1 => by rw [nsum, nsum, nsum, nsum_add f g n]; omega
theorem nsum_zero : ∀ n, nsum (fun _ => 0) n = 0
  | 0 => rfl
  | n + 1 => by rw [nsum, nsum_zero n]
theorem nsum_swap (F : Nat → Nat → Nat) (m : Nat) : ∀ n, nsum (fun i => nsum (fun j => F i j) m) n = nsum (fun j => nsum (fun i => F i j) n) m
  | 0 => (nsum_zero m).symm
  | n + 1 => by rw [nsum, nsum_swap F m n, ← nsum_add]; rfl
theorem nsum_eq0 {f : Nat → Nat} : ∀ {n : Nat}, nsum f n = 0 ↔ ∀ j, j < n → f j = 0
  | 0 => by simp [nsum]
  | n + 1 => by
    rw [nsum]
    constructor
    · intro h j hj
      by_cases e : j = n
      · subst e; omega
      · exact (nsum_eq0 (n := n)).mp (by omega) j (by omega)
    · intro h
      have h1 := (nsum_eq0 (f := f) (n := n)).mpr (fun j hj => h j (by omega))
      have h2 := h n (by omega)
      omega
def dsum (F : Nat → Nat → Nat) : Nat := nsum (fun t => nsum (F t) 66) 6
theorem dsum_congr {F G : Nat → Nat → Nat} (h : ∀ t d, t < 6 → d < 66 → F t d = G t d) : dsum F = dsum G := nsum_congr (fun t ht => nsum_congr (fun d hd => h t d ht hd))
theorem dsum_upd {F G : Nat → Nat → Nat} {t d : Nat} (ht : t < 6) (hd : d < 66) (h : ∀ t' d', ¬ (t' = t ∧ d' = d) → G t' d' = F t' d') : dsum G + F t d = dsum F + G t d := by
  have h1 : nsum (G t) 66 + F t d = nsum (F t) 66 + G t d := nsum_upd hd (fun j hj => h t j (fun q => hj q.2))
  have h2 := nsum_upd (f := fun t => nsum (F t) 66) (g := fun t => nsum (G t) 66) ht (fun j hj => nsum_congr (fun d' _ => h j d' (fun q => hj q.1)))
  unfold dsum
  omega
theorem dsum_eq0 {F : Nat → Nat → Nat} : dsum F = 0 ↔ ∀ t d, t < 6 → d < 66 → F t d = 0 := by
  unfold dsum
  rw [nsum_eq0]
  constructor
  · intro h t d ht hd
    exact nsum_eq0.mp (h t ht) d hd
  · intro h t ht
    exact nsum_eq0.mpr (fun d hd => h t d ht hd)
theorem dsum_le {F : Nat → Nat → Nat} {c : Nat} (h : ∀ t d, t < 6 → d < 66 → F t d ≤ c) : dsum F ≤ 396 * c := by
  have h1 := nsum_le (f := fun t => nsum (F t) 66) (n := 6) (c := 66 * c) (fun t ht => nsum_le (fun d hd => h t d ht hd))
  unfold dsum
  omega
theorem dsum_mono {F G : Nat → Nat → Nat} (h : ∀ t d, t < 6 → d < 66 → F t d ≤ G t d) : dsum F ≤ dsum G := nsum_mono (fun t ht => nsum_mono (fun d hd => h t d ht hd))
/-- how many things on how many days are lacking; what they cost -/
def LKs (h : Nat → Nat) (U : Nat → Nat → Nat) : Nat := dsum (fun t d => if h t < U t d then 1 else 0)
def HSs (h p : Nat → Nat) (U : Nat → Nat → Nat) : Nat := dsum (fun t d => p t * (U t d - h t))
def LR (M : xM) (h p : Nat → Nat) (U : Nat → Nat → Nat) : Prop := (∀ t d, t < 6 → d < 66 → M.1 21 (t * 66 + d) = nI (U t d)) ∧ M.1 20 2 = nI (LKs h U) ∧ M.2 20 3 = lN (HSs h p U)
def xFr (M u : xM) : Prop := ∀ q, q ≠ 20 → q ≠ 21 → u.1 q = M.1 q
theorem xFr.rf {M : xM} : xFr M M := fun _ _ _ => rfl
theorem xFr.tr {M u v : xM} (h1 : xFr M u) (h2 : xFr u v) : xFr M v := fun q a b => (h2 q a b).trans (h1 q a b)
theorem i64_sub {a b c d : Int64} (h : a + b = d + c) : a + (b - c) = d := by
  have h1 := congrArg (fun z => z - c) h
  simp only [Int64.add_sub_cancel] at h1
  rw [← h1, Int64.sub_eq_add_neg, Int64.sub_eq_add_neg, Int64.add_assoc]
theorem i32_sub {a b c d : Int32} (h : a + b = d + c) : a + (b - c) = d := by
  have h1 := congrArg (fun z => z - c) h
  simp only [Int32.add_sub_cancel] at h1
  rw [← h1, Int32.sub_eq_add_neg, Int32.sub_eq_add_neg, Int32.add_assoc]
theorem i32_aft {x y v : Int32} : x - y + v = x + v - y := by
  rw [Int32.sub_eq_add_neg, Int32.sub_eq_add_neg, Int32.add_assoc, Int32.add_assoc, Int32.add_comm (-y) v]
theorem x_subI {a b : Nat} (ha : a < 2 ^ 30) (hb : b < 2 ^ 30) : (0 < nI a - nI b) ↔ b < a := by
  rw [Int32.lt_iff_toInt_lt, pk_sub_toInt ha hb]
  show (0 : Int) < _ ↔ _
  omega
theorem x_max0 {a b : Nat} (ha : a < 2 ^ 30) (hb : b < 2 ^ 30) : (if nI 0 < nI a - nI b then nI a - nI b else nI 0) = nI (a - b) := by
  by_cases h : b < a
  · rw [if_pos (show nI 0 < nI a - nI b from (x_subI ha hb).mpr h), pk_sub (by omega)]
  · rw [if_neg (show ¬ nI 0 < nI a - nI b from fun q => h ((x_subI ha hb).mp q)), show a - b = 0 by omega]
theorem x_dif {a b : Nat} (ha : a < 2 ^ 30) (hb : b < 2 ^ 30) : (nI a - nI b).toInt64 = lN a - lN b := by
  rcases Nat.lt_or_ge a b with h | h
  · have e : nI a - nI b = -(nI (b - a)) := by
      rw [← pk_sub (by omega)]
      rw [Int32.neg_sub]
    apply Int64.toInt_inj.mp
    rw [Int32.toInt_toInt64, pk_sub_toInt ha hb, Int64.toInt_sub, pk_lT (by omega), pk_lT (by omega)]
    rw [Int.bmod_eq_of_le] <;> omega
  · rw [pk_sub h, nI_l (by omega), lN_sub h]
theorem LKs_le {h : Nat → Nat} {U : Nat → Nat → Nat} : LKs h U ≤ 396 := by
  have := dsum_le (F := fun t d => if h t < U t d then 1 else 0) (c := 1) (fun t d _ _ => by by_cases q : h t < U t d <;> simp [q])
  unfold LKs
  omega
end
section
/-! the ledger: entering a run of days -/
theorem i32_canc {a b c : Int32} (h : a + c = b + c) : a = b := by
  have h1 := congrArg (fun z => z - c) h
  simpa only [Int32.add_sub_cancel] using h1
theorem i64_canc {a b c : Int64} (h : a + c = b + c) : a = b := by
  have h1 := congrArg (fun z => z - c) h
  simpa only [Int64.add_sub_cancel] using h1
theorem LR_step {M M' : xM} {h p : Nat → Nat} {U V : Nat → Nat → Nat} {t d w : Nat} (ht : t < 6) (hd : d < 66) (hL : LR M h p U) (h1 : M'.1 21 = upd (M.1 21) (t * 66 + d) (nI w)) (hV : V t d = w) (hVo : ∀ t' d', ¬ (t' = t ∧ d' = d) → V t' d' = U t' d')
    (h2 : M'.1 20 2 + nI (if h t < U t d then 1 else 0) = M.1 20 2 + nI (if h t < w then 1 else 0)) (h3 : M'.2 20 3 + lN (p t * (U t d - h t)) = M.2 20 3 + lN (p t * (w - h t))) : LR M' h p V := by
  obtain ⟨a1, a2, a3⟩ := hL
  refine ⟨fun t' d' ht' hd' => ?_, ?_, ?_⟩
  · rw [h1, upd]
    by_cases e : t' = t ∧ d' = d
    · obtain ⟨rfl, rfl⟩ := e
      rw [if_pos rfl, hV]
    · rw [if_neg (by omega), a1 t' d' ht' hd', hVo t' d' e]
  · have e := dsum_upd (F := fun t d => if h t < U t d then 1 else 0) (G := fun t d => if h t < V t d then 1 else 0) ht hd (fun t' d' q => by simp only [hVo t' d' q])
    simp only [hV] at e
    rw [a2, nI_add] at h2
    have e2 : LKs h V + (if h t < U t d then 1 else 0) = LKs h U + (if h t < w then 1 else 0) := e
    rw [← e2, ← nI_add] at h2
    exact i32_canc h2
  · have e := dsum_upd (F := fun t d => p t * (U t d - h t)) (G := fun t d => p t * (V t d - h t)) ht hd (fun t' d' q => by simp only [hVo t' d' q])
    simp only [hV] at e
    rw [a3, lN_add] at h3
    have e2 : HSs h p V + p t * (U t d - h t) = HSs h p U + p t * (w - h t) := e
    rw [← e2, ← lN_add] at h3
    exact i64_canc h3
theorem x_bitv {P : Prop} [Decidable P] {x : Int32} (hx : x = xB (¬ (xB P = 0))) : x = nI (if P then 1 else 0) := by
  subst hx
  by_cases h : P
  · rw [if_pos h, xB_t h, xB_t (by decide)]
  · rw [if_neg h, xB_f h, xB_f (by decide)]
set_option maxHeartbeats 4000000 in
theorem LR_iter {M M2 : xM} {h p : Nat → Nat} {U V : Nat → Nat → Nat} {t d w u0 : Nat} {v : Int32} (ht : t < 6) (hd : d < 66) (hh : h t ≤ 1000) (hp : p t ≤ 1000) (hu0 : U t d = u0) (hu : u0 ≤ 5000) (hw : w ≤ 5000) (hv : nI u0 + v = nI w) (hL : LR M h p U) (hV : V t d = w) (hVo : ∀ t' d', ¬ (t' = t ∧ d' = d) → V t' d' = U t' d')
    (e1 : M2.1 21 = upd (M.1 21) (t * 66 + d) (M.1 21 (t * 66 + d) + v))
    (hc : (¬ h t < u0 ∧ ¬ h t < w ∧ M2.1 20 2 = M.1 20 2 ∧ M2.2 20 3 = M.2 20 3) ∨ (M2.1 20 2 = M.1 20 2 + (nI (if h t < w then 1 else 0) - nI (if h t < u0 then 1 else 0)) ∧ M2.2 20 3 = M.2 20 3 + (nI (p t)).toInt64 * (nI (w - h t) - nI (u0 - h t)).toInt64)) : LR M2 h p V := by
  subst hu0
  refine LR_step ht hd hL (by rw [e1, hL.1 t d ht hd, hv]) hV hVo ?_ ?_
  · rcases hc with ⟨c1, c2, c3, c4⟩ | ⟨c3, c4⟩
    · rw [c3, if_neg c1, if_neg c2]
    · rw [c3]
      rw [Int32.add_assoc, Int32.sub_add_cancel]
  · rcases hc with ⟨c1, c2, c3, c4⟩ | ⟨c3, c4⟩
    · rw [c4, show U t d - h t = 0 by omega, show w - h t = 0 by omega]
    · rw [c4, x_dif (by omega) (by omega), nI_l (by omega), Int64.mul_sub, lN_mul, lN_mul, Int64.add_assoc, Int64.sub_add_cancel]
theorem x_leI {a b : Nat} (ha : a < 2 ^ 30) (hb : b < 2 ^ 30) : (nI a - nI b ≤ 0) ↔ ¬ b < a := by
  rw [← x_subI ha hb]
  exact Int32.not_lt.symm
set_option maxHeartbeats 4000000 in
set_option maxRecDepth 20000 in
theorem c_X3_enter {t a b : Nat} {v : Int32} {h p : Nat → Nat} {U : Nat → Nat → Nat} {W : Nat → Nat} {M : xM} (ht : t < 6) (hab : a ≤ b) (hb : b < 66) (hh : h t ≤ 1000) (hp : p t ≤ 1000) (hU : ∀ d, U t d ≤ 5000) (hW : ∀ d, a ≤ d → d ≤ b → W d ≤ 5000 ∧ nI (U t d) + v = nI (W d)) (hL : LR M h p U) : K_X3_enter [.ref 20, .int (nI t), .int (nI a), .int (nI b), .int v, .int (nI (h t)), .int (nI (p t))] M (xRv (fun u => xFr M u ∧ u.1 20 1 = M.1 20 1 ∧ LR u h p (fun t' d' => if t' = t ∧ a ≤ d' ∧ d' ≤ b then W d' else U t' d'))) := by
  refine xMet.of (own := RX3) rfl (by decide) (Nat.le_of_ble_eq_true rfl) rfl (fun Y hY => ?_)
  have h0 : ∀ M', xFr M M' → M'.1 20 1 = M.1 20 1 → LR M' h p (fun t' d' => if t' = t ∧ a ≤ d' ∧ d' < b + 1 then W d' else U t' d') → P_X3_enter Y 27 [(0, .ref 20), (1, .int (nI t)), (2, .int (nI a)), (3, .int (nI b)), (4, .int v), (5, .int (nI (h t))), (6, .int (nI (p t))), (7, .int (nI (t * 66))), (8, .int (nI (b + 1)))] [] M' := by
    intro M' hF hs hL'
    refine PW.iload (pc := 27) dX3_enter_27 rfl ?_
    refine PW.iload_n (pc := 29) dX3_enter_29 rfl ?_
    refine PW.icmp_gt (pc := 30) (tgt := 152) dX3_enter_30 (by decide) (fun _ => ?_) (fun c => absurd ((nI_lt (by omega) (by omega))) c)
    refine PW.vret (pc := 152) hY ?_ dX3_enter_152
    refine x_rv ⟨hF, hs, ?_⟩
    have e : (fun t' d' => if t' = t ∧ a ≤ d' ∧ d' ≤ b then W d' else U t' d') = (fun t' d' => if t' = t ∧ a ≤ d' ∧ d' < b + 1 then W d' else U t' d') := by
      funext t' d'
      have : (d' ≤ b) ↔ (d' < b + 1) := by omega
      simp only [this]
    rw [e]; exact hL'
  have hs : ∀ d, d < b + 1 → (a ≤ d + 1 → ∀ M', xFr M M' → M'.1 20 1 = M.1 20 1 → LR M' h p (fun t' d' => if t' = t ∧ a ≤ d' ∧ d' < d + 1 then W d' else U t' d') → P_X3_enter Y 27 [(0, .ref 20), (1, .int (nI t)), (2, .int (nI a)), (3, .int (nI b)), (4, .int v), (5, .int (nI (h t))), (6, .int (nI (p t))), (7, .int (nI (t * 66))), (8, .int (nI (d + 1)))] [] M') → (a ≤ d → ∀ M', xFr M M' → M'.1 20 1 = M.1 20 1 → LR M' h p (fun t' d' => if t' = t ∧ a ≤ d' ∧ d' < d then W d' else U t' d') → P_X3_enter Y 27 [(0, .ref 20), (1, .int (nI t)), (2, .int (nI a)), (3, .int (nI b)), (4, .int v), (5, .int (nI (h t))), (6, .int (nI (p t))), (7, .int (nI (t * 66))), (8, .int (nI d))] [] M') := by
    intro d hd ih had M' hF hs' hL'
    obtain ⟨w5, wv⟩ := hW d had (by omega)
    have hUd : (fun t' d' => if t' = t ∧ a ≤ d' ∧ d' < d then W d' else U t' d') t d = U t d := by
      show (if t = t ∧ a ≤ d ∧ d < d then W d else U t d) = U t d
      rw [if_neg (by omega)]
    have hVd : (fun t' d' => if t' = t ∧ a ≤ d' ∧ d' < d + 1 then W d' else U t' d') t d = W d := by
      show (if t = t ∧ a ≤ d ∧ d < d + 1 then W d else U t d) = W d
      rw [if_pos ⟨rfl, had, by omega⟩]
    have hVo : ∀ t' d', ¬ (t' = t ∧ d' = d) → (fun t' d' => if t' = t ∧ a ≤ d' ∧ d' < d + 1 then W d' else U t' d') t' d' = (fun t' d' => if t' = t ∧ a ≤ d' ∧ d' < d then W d' else U t' d') t' d' := by
      intro t' d' q
      show (if t' = t ∧ a ≤ d' ∧ d' < d + 1 then W d' else U t' d') = (if t' = t ∧ a ≤ d' ∧ d' < d then W d' else U t' d')
      have : (t' = t ∧ a ≤ d' ∧ d' < d + 1) ↔ (t' = t ∧ a ≤ d' ∧ d' < d) := by omega
      simp only [this]
    have hM21 : M'.1 21 (t * 66 + d) = nI (U t d) := by
      rw [hL'.1 t d ht (by omega), hUd]
    have hUt := hU d
    have aft : M'.1 21 (t * 66 + d) - nI (h t) + v = nI (W d) - nI (h t) := by rw [hM21, i32_aft, wv]
    have bef : M'.1 21 (t * 66 + d) - nI (h t) = nI (U t d) - nI (h t) := by rw [hM21]
    have next : ∀ M2, xFr M M2 → M2.1 20 1 = M.1 20 1 → M2.1 21 = upd (M'.1 21) (t * 66 + d) (M'.1 21 (t * 66 + d) + v) → ((¬ h t < U t d ∧ ¬ h t < W d ∧ M2.1 20 2 = M'.1 20 2 ∧ M2.2 20 3 = M'.2 20 3) ∨ (M2.1 20 2 = M'.1 20 2 + (nI (if h t < W d then 1 else 0) - nI (if h t < U t d then 1 else 0)) ∧ M2.2 20 3 = M'.2 20 3 + (nI (p t)).toInt64 * (nI (W d - h t) - nI (U t d - h t)).toInt64)) → ∀ L, L.lookup 0 = some (.ref 20) → L.lookup 1 = some (.int (nI t)) → L.lookup 2 = some (.int (nI a)) → L.lookup 3 = some (.int (nI b)) → L.lookup 4 = some (.int v) → L.lookup 5 = some (.int (nI (h t))) → L.lookup 6 = some (.int (nI (p t))) → L.lookup 7 = some (.int (nI (t * 66))) → L.lookup 8 = some (.int (nI d)) → xcat1 L 8 = true → P_X3_enter Y 146 L [] M2 := by
      intro M2 g1 g2 g3 g4 L q0 q1 q2 q3 q4 q5 q6 q7 q8 qc
      refine PW.iinc (pc := 146) dX3_enter_146 q8 (x_inc1 _) (by decide) qc ?_
      refine PW.goto (pc := 149) (tgt := 27) dX3_enter_149 (by decide) ?_
      refine PW.locs ?_ (ih (by omega) M2 g1 g2 (LR_iter ht (by omega) hh hp hUd hUt w5 wv hL' hVd hVo g3 g4))
      simp only [List.map, List.lookup, q0, q1, q2, q3, q4, q5, q6, q7]
      rfl
    refine PW.iload (pc := 27) dX3_enter_27 rfl ?_
    refine PW.iload_n (pc := 29) dX3_enter_29 rfl ?_
    refine PW.icmp_gt (pc := 30) (tgt := 152) dX3_enter_30 (by decide) (fun c => absurd c ((nI_nlt (by omega) (by omega)))) (fun _ => ?_)
    refine PW.aload_n (pc := 33) dX3_enter_33 rfl ?_
    refine gf_X3_9 (pc := 34) dX3_enter_34 ?_
    refine PW.iload (pc := 37) dX3_enter_37 rfl ?_
    refine PW.iload (pc := 39) dX3_enter_39 rfl ?_
    refine PW.iadd (pc := 41) dX3_enter_41 ?_
    refine PW.ialdN (pc := 42) rfl (nI_add _ _) (by omega) (by decide) dX3_enter_42 ?_
    refine PW.iload (pc := 43) dX3_enter_43 rfl ?_
    refine PW.isub (pc := 45) dX3_enter_45 ?_
    refine PW.istore (pc := 46) dX3_enter_46 (by decide) rfl ?_
    refine PW.iload (pc := 48) dX3_enter_48 rfl ?_
    refine PW.iload (pc := 50) dX3_enter_50 rfl ?_
    refine PW.iadd (pc := 52) dX3_enter_52 ?_
    refine PW.istore (pc := 53) dX3_enter_53 (by decide) rfl ?_
    refine PW.aload_n (pc := 55) dX3_enter_55 rfl ?_
    refine gf_X3_9 (pc := 56) dX3_enter_56 ?_
    refine PW.iload (pc := 59) dX3_enter_59 rfl ?_
    refine PW.iload (pc := 61) dX3_enter_61 rfl ?_
    refine PW.iadd (pc := 63) dX3_enter_63 ?_
    refine PW.dup2 (pc := 64) dX3_enter_64 rfl rfl ?_
    refine PW.ialdN (pc := 65) rfl (nI_add _ _) (by omega) (by decide) dX3_enter_65 ?_
    refine PW.iload (pc := 66) dX3_enter_66 rfl ?_
    refine PW.iadd (pc := 68) dX3_enter_68 ?_
    refine PW.iastN (pc := 69) rfl (nI_add _ _) (by omega) (by decide) dX3_enter_69 ?_
    have tail83 : P_X3_enter Y 83 ((10, .int (M'.1 21 (t * 66 + d) - nI (h t) + v)) :: (9, .int (M'.1 21 (t * 66 + d) - nI (h t))) :: [(0, .ref 20), (1, .int (nI t)), (2, .int (nI a)), (3, .int (nI b)), (4, .int v), (5, .int (nI (h t))), (6, .int (nI (p t))), (7, .int (nI (t * 66))), (8, .int (nI d))]) [] (xup M' 21 (t * 66 + d) (M'.1 21 (t * 66 + d) + v)) := by
      have at138 : P_X3_enter Y 138 ((10, .int (M'.1 21 (t * 66 + d) - nI (h t) + v)) :: (9, .int (M'.1 21 (t * 66 + d) - nI (h t))) :: [(0, .ref 20), (1, .int (nI t)), (2, .int (nI a)), (3, .int (nI b)), (4, .int v), (5, .int (nI (h t))), (6, .int (nI (p t))), (7, .int (nI (t * 66))), (8, .int (nI d))]) [.int (xB (h t < U t d)), .int (nI (if h t < W d then 1 else 0)), .int (M'.1 20 2), .ref 20] (xupL (xup M' 21 (t * 66 + d) (M'.1 21 (t * 66 + d) + v)) 20 3 (M'.2 20 3 + (nI (p t)).toInt64 * (nI (W d - h t) - nI (U t d - h t)).toInt64)) := by
        refine cs_X3_42 (pc := 138) hY.rm (c_X6_bit) ⟨Nat.le_of_ble_eq_true rfl, Nat.le_of_ble_eq_true rfl⟩ dX3_enter_138 (Nat.le_of_ble_eq_true rfl) (fun x_138 u_138 h_138 => ?_)
        obtain ⟨h_138, rfl⟩ := h_138
        rw [x_bitv h_138]
        refine PW.isub (pc := 141) dX3_enter_141 ?_
        refine PW.iadd (pc := 142) dX3_enter_142 ?_
        refine pf_X3_19 (pc := 143) dX3_enter_143 ?_
        refine next _ ?_ ?_ ?_ (Or.inr ⟨?_, ?_⟩) _ rfl rfl rfl rfl rfl rfl rfl rfl rfl rfl
        · intro q a1 a2
          funext j
          simp only [xup_1, xupL_1, a1, a2, false_and, if_false]
          rw [hF q a1 a2]
        · simp [xup_1, xupL_1, hs']
        · funext j
          simp [xup_1, xupL_1, upd]
        · simp [xup_1, xupL_1]
        · simp [xup_2, xupL_2]
      have at125 : P_X3_enter Y 125 ((10, .int (M'.1 21 (t * 66 + d) - nI (h t) + v)) :: (9, .int (M'.1 21 (t * 66 + d) - nI (h t))) :: [(0, .ref 20), (1, .int (nI t)), (2, .int (nI a)), (3, .int (nI b)), (4, .int v), (5, .int (nI (h t))), (6, .int (nI (p t))), (7, .int (nI (t * 66))), (8, .int (nI d))]) [.int (xB (h t < W d)), .int (M'.1 20 2), .ref 20] (xupL (xup M' 21 (t * 66 + d) (M'.1 21 (t * 66 + d) + v)) 20 3 (M'.2 20 3 + (nI (p t)).toInt64 * (nI (W d - h t) - nI (U t d - h t)).toInt64)) := by
        refine cs_X3_42 (pc := 125) hY.rm (c_X6_bit) ⟨Nat.le_of_ble_eq_true rfl, Nat.le_of_ble_eq_true rfl⟩ dX3_enter_125 (Nat.le_of_ble_eq_true rfl) (fun x_125 u_125 h_125 => ?_)
        obtain ⟨h_125, rfl⟩ := h_125
        rw [x_bitv h_125]
        refine PW.iload (pc := 128) dX3_enter_128 rfl ?_
        refine PW.if_le (pc := 130) (tgt := 137) dX3_enter_130 (by decide) (fun c_130 => ?_) (fun c_130 => ?_)
        · rw [bef] at c_130
          have k1 : ¬ h t < U t d := (x_leI (by omega) (by omega)).mp c_130
          refine PW.iconst (pc := 137) (v := nI 0) dX3_enter_137 (by decide) ?_
          rw [xB_f k1] at at138
          exact at138
        · rw [bef] at c_130
          have k1 : h t < U t d := (x_subI (by omega) (by omega)).mp (x_gt c_130)
          refine PW.iconst (pc := 133) (v := nI 1) dX3_enter_133 (by decide) ?_
          refine PW.goto (pc := 134) (tgt := 138) dX3_enter_134 (by decide) ?_
          rw [xB_t k1] at at138
          exact at138
      refine PW.aload_n (pc := 83) dX3_enter_83 rfl ?_
      refine PW.dup (pc := 84) dX3_enter_84 rfl ?_
      refine gf_X3_22 (pc := 85) dX3_enter_85 ?_
      refine PW.iload (pc := 88) dX3_enter_88 rfl ?_
      refine PW.i2l (pc := 90) dX3_enter_90 ?_
      refine PW.iconst (pc := 91) (v := nI 0) dX3_enter_91 (by decide) ?_
      refine PW.iload (pc := 92) dX3_enter_92 rfl ?_
      refine PW.mmax (pc := 94) (idx := 36) hY.rm (by decide) (by decide) (by decide +kernel) dX3_enter_94 (Nat.le_of_ble_eq_true rfl) ?_
      refine PW.iconst (pc := 97) (v := nI 0) dX3_enter_97 (by decide) ?_
      refine PW.iload (pc := 98) dX3_enter_98 rfl ?_
      refine PW.mmax (pc := 100) (idx := 36) hY.rm (by decide) (by decide) (by decide +kernel) dX3_enter_100 (Nat.le_of_ble_eq_true rfl) ?_
      refine PW.isub (pc := 103) dX3_enter_103 ?_
      refine PW.i2l (pc := 104) dX3_enter_104 ?_
      refine PW.lmul (pc := 105) dX3_enter_105 ?_
      refine PW.ladd (pc := 106) dX3_enter_106 ?_
      refine pf_X3_22 (pc := 107) dX3_enter_107 ?_
      refine PW.aload_n (pc := 110) dX3_enter_110 rfl ?_
      refine PW.dup (pc := 111) dX3_enter_111 rfl ?_
      refine gf_X3_19 (pc := 112) dX3_enter_112 ?_
      refine PW.iload (pc := 115) dX3_enter_115 rfl ?_
      have e1 : (if nI 0 < M'.1 21 (t * 66 + d) - nI (h t) + v then M'.1 21 (t * 66 + d) - nI (h t) + v else nI 0) = nI (W d - h t) := by
        rw [aft]; exact x_max0 (by omega) (by omega)
      have e2 : (if nI 0 < M'.1 21 (t * 66 + d) - nI (h t) then M'.1 21 (t * 66 + d) - nI (h t) else nI 0) = nI (U t d - h t) := by
        rw [bef]; exact x_max0 (by omega) (by omega)
      rw [e1, e2]
      refine PW.if_le (pc := 117) (tgt := 124) dX3_enter_117 (by decide) (fun c_117 => ?_) (fun c_117 => ?_)
      · rw [aft] at c_117
        have k1 : ¬ h t < W d := (x_leI (by omega) (by omega)).mp c_117
        refine PW.iconst (pc := 124) (v := nI 0) dX3_enter_124 (by decide) ?_
        rw [xB_f k1] at at125
        refine PW.st rfl ?_ rfl at125
        simp [xup_1, xupL_1]
      · rw [aft] at c_117
        have k1 : h t < W d := (x_subI (by omega) (by omega)).mp (x_gt c_117)
        refine PW.iconst (pc := 120) (v := nI 1) dX3_enter_120 (by decide) ?_
        refine PW.goto (pc := 121) (tgt := 125) dX3_enter_121 (by decide) ?_
        rw [xB_t k1] at at125
        refine PW.st rfl ?_ rfl at125
        simp [xup_1, xupL_1]
    refine PW.iload (pc := 70) dX3_enter_70 rfl ?_
    refine PW.if_gt (pc := 72) (tgt := 83) dX3_enter_72 (by decide) (fun c_72 => ?_) (fun c_72 => ?_)
    · exact tail83
    · refine PW.iload (pc := 75) dX3_enter_75 rfl ?_
      refine PW.if_gt (pc := 77) (tgt := 83) dX3_enter_77 (by decide) (fun c_77 => ?_) (fun c_77 => ?_)
      · exact tail83
      · refine PW.goto (pc := 80) (tgt := 146) dX3_enter_80 (by decide) ?_
        rw [bef] at c_72
        rw [aft] at c_77
        have k1 := fun q => c_72 ((x_subI (by omega) (by omega)).mpr q)
        have k2 := fun q => c_77 ((x_subI (by omega) (by omega)).mpr q)
        refine next _ ?_ ?_ ?_ (Or.inl ⟨k1, k2, ?_, ?_⟩) _ rfl rfl rfl rfl rfl rfl rfl rfl rfl rfl
        · intro q a1 a2
          funext j
          simp only [xup_1, a2, false_and, if_false]
          rw [hF q a1 a2]
        · simp [xup_1, hs']
        · simp [xup]
        · simp [xup_1]
        · rfl
  refine PW.iload_n (pc := 0) dX3_enter_0 rfl ?_
  refine cs_X3_32 (pc := 1) hY.rm (c_X6_isThing) ⟨Nat.le_of_ble_eq_true rfl, Nat.le_of_ble_eq_true rfl⟩ dX3_enter_1 (Nat.le_of_ble_eq_true rfl) (fun x_1 u_1 h_1 => ?_)
  obtain ⟨h_1, rfl⟩ := h_1
  have k1 : x_1 = nI 1 := h_1.trans (xB_t ⟨nI_pos' (by omega), nI_lt ht (by omega)⟩)
  subst k1
  refine PW.if_eq (pc := 4) (tgt := 17) dX3_enter_4 (by decide) (fun c => absurd c ((by decide))) (fun _ => ?_)
  refine PW.iload_n (pc := 7) dX3_enter_7 rfl ?_
  refine PW.if_lt (pc := 8) (tgt := 17) dX3_enter_8 (by decide) (fun c => absurd c ((nI_pos (by omega)))) (fun _ => ?_)
  refine PW.iload_n (pc := 11) dX3_enter_11 rfl ?_
  refine PW.bipush (pc := 12) (v := nI 66) dX3_enter_12 (by decide) ?_
  refine PW.icmp_lt (pc := 14) (tgt := 18) dX3_enter_14 (by decide) (fun _ => ?_) (fun c => absurd ((nI_lt hb (by omega))) c)
  refine PW.iload_n (pc := 18) dX3_enter_18 rfl ?_
  refine PW.bipush (pc := 19) (v := nI 66) dX3_enter_19 (by decide) ?_
  refine PW.imul (pc := 21) dX3_enter_21 ?_
  refine PW.istore (pc := 22) dX3_enter_22 (by decide) rfl ?_
  refine PW.iload_n (pc := 24) dX3_enter_24 rfl ?_
  refine PW.istore (pc := 25) dX3_enter_25 (by decide) rfl ?_
  refine PW.st rfl rfl ?_ (x_down (n := b + 1) (P := fun d => a ≤ d → ∀ M', xFr u_1 M' → M'.1 20 1 = u_1.1 20 1 → LR M' h p (fun t' d' => if t' = t ∧ a ≤ d' ∧ d' < d then W d' else U t' d') → P_X3_enter Y 27 [(0, .ref 20), (1, .int (nI t)), (2, .int (nI a)), (3, .int (nI b)), (4, .int v), (5, .int (nI (h t))), (6, .int (nI (p t))), (7, .int (nI (t * 66))), (8, .int (nI d))] [] M') (fun _ => h0) hs a (by omega) (Nat.le_refl _) u_1 xFr.rf rfl ?_)
  · rw [show nI (t * 66) = nI t * nI 66 from (pk_mul t 66).symm]
    rfl
  · have e : (fun t' d' => if t' = t ∧ a ≤ d' ∧ d' < a then W d' else U t' d') = U := by
      funext t' d'
      rw [if_neg (by omega)]
    rw [e]; exact hL
end
section
/-! what the class counts on: ranges; what a set of fields uses -/
abbrev na (x : Int32) : Nat := x.toNatClampNeg
theorem na_nI {n : Nat} (h : n < 2 ^ 31) : na (nI n) = n := nI_clamp h
def rng (x : Int32) (b : Nat) : Prop := x = nI (na x) ∧ na x ≤ b
def FB (M : xM) (f : Nat) : Prop := rng (M.1 9 f) 60 ∧ rng (M.1 10 f) 60 ∧ na (M.1 9 f) ≤ na (M.1 10 f) ∧ rng (M.1 11 f) 100000 ∧ ∀ t, t < 6 → rng (M.1 16 (f * 6 + t)) 500
def ThB (M : xM) (t : Nat) : Prop := rng (M.1 2 t) 1000 ∧ rng (M.1 3 t) 5 ∧ rng (M.1 5 t) 1000 ∧ rng (M.1 7 t) 1000000
def TB (M : xM) (n : Nat) : Prop := M.1 8 9 = nI n ∧ n ≤ 10 ∧ (∀ f, f < 10 → FB M f) ∧ (∀ t, t < 6 → ThB M t) ∧ ∀ d, d < 61 → M.1 19 d = 0 ∨ M.1 19 d = 1
theorem TB.fr {M u : xM} {n : Nat} (h : TB M n) (hF : xFr M u) : TB u n := by
  unfold TB FB ThB at *
  rw [hF 8 (by decide) (by decide), hF 9 (by decide) (by decide), hF 10 (by decide) (by decide), hF 11 (by decide) (by decide), hF 16 (by decide) (by decide), hF 2 (by decide) (by decide), hF 3 (by decide) (by decide), hF 5 (by decide) (by decide), hF 7 (by decide) (by decide), hF 19 (by decide) (by decide)]
  exact h
def fi (M : xM) (f : Nat) : Nat := na (M.1 9 f)
def la (M : xM) (f : Nat) : Nat := na (M.1 10 f)
def ne (M : xM) (f t : Nat) : Nat := na (M.1 16 (f * 6 + t))
def un (M : xM) (f t : Nat) : Nat := la M f + (if M.1 19 (la M f) = 0 then 0 else na (M.1 3 t))
def us (M : xM) (f t d : Nat) : Nat := if fi M f ≤ d ∧ d ≤ un M f t then ne M f t else 0
def hh (M : xM) (t : Nat) : Nat := na (M.1 2 t) - na (M.1 7 t)
def pp (M : xM) (t : Nat) : Nat := na (M.1 5 t)
def SU (M : xM) (n s : Nat) (t d : Nat) : Nat := nsum (fun g => if s.testBit g = true then us M g t d else 0) n
theorem us_le {M : xM} {n f t d : Nat} (h : TB M n) (hf : f < 10) (ht : t < 6) : us M f t d ≤ 500 := by
  unfold us
  split
  · exact ((h.2.2.1 f hf).2.2.2.2 t ht).2
  · omega
theorem un_lt {M : xM} {n f t : Nat} (h : TB M n) (hf : f < 10) (ht : t < 6) : un M f t < 66 := by
  have h1 := (h.2.2.1 f hf).2.1.2
  have h2 := (h.2.2.2.1 t ht).2.1.2
  unfold un la
  split <;> omega
theorem fi_un {M : xM} {n f t : Nat} (h : TB M n) (hf : f < 10) : fi M f ≤ un M f t := by
  have h1 := (h.2.2.1 f hf).2.2.1
  unfold un la fi
  omega
theorem psum_le {M : xM} {n : Nat} (h : TB M n) (P : Nat → Bool) {t d : Nat} (ht : t < 6) : nsum (fun g => if P g = true then us M g t d else 0) n ≤ 5000 := by
  have h10 := h.2.1
  have := nsum_le (f := fun g => if P g = true then us M g t d else 0) (n := n) (c := 500) (fun j hj => by
    split
    · exact us_le h (by omega) ht
    · omega)
  omega
theorem LR.cg {M : xM} {h p : Nat → Nat} {U V : Nat → Nat → Nat} (hL : LR M h p U) (e : ∀ t d, t < 6 → d < 66 → U t d = V t d) : LR M h p V := by
  obtain ⟨a, b, c⟩ := hL
  refine ⟨fun t d ht hd => by rw [a t d ht hd, e t d ht hd], ?_, ?_⟩
  · rw [b]
    unfold LKs
    rw [dsum_congr (fun t d ht hd => by rw [e t d ht hd])]
  · rw [c]
    unfold HSs
    rw [dsum_congr (fun t d ht hd => by rw [e t d ht hd])]
theorem hh_le {M : xM} {n t : Nat} (h : TB M n) (ht : t < 6) : hh M t ≤ 1000 := by
  have := (h.2.2.2.1 t ht).1.2
  unfold hh; omega
theorem pp_le {M : xM} {n t : Nat} (h : TB M n) (ht : t < 6) : pp M t ≤ 1000 := (h.2.2.2.1 t ht).2.2.1.2
theorem hv_hh {M : xM} {n t : Nat} (h : TB M n) (ht : t < 6) : hv (M.1 2 t) (M.1 7 t) = nI (hh M t) := by
  obtain ⟨⟨a1, a2⟩, -, -, ⟨b1, b2⟩⟩ := h.2.2.2.1 t ht
  unfold hv hh
  rw [a1, b1, x_max0 (by omega) (by omega)]
  rw [na_nI (by omega), na_nI (by omega)]
theorem nI_pp {M : xM} {n t : Nat} (h : TB M n) (ht : t < 6) : M.1 5 t = nI (pp M t) := (h.2.2.2.1 t ht).2.2.1.1
theorem i32_m1 (b : Int32) : (-1 : Int32) * b = -b := by
  rw [Int32.neg_mul, Int32.one_mul]
theorem i32_addm1 {a b c : Nat} (h : b + c = a) : nI a + (-1) * nI c = nI b := by
  rw [i32_m1, ← h, ← nI_add, Int32.add_assoc, Int32.add_right_neg, Int32.add_zero]
theorem nI_inj {a b : Nat} (ha : a < 2 ^ 31) (hb : b < 2 ^ 31) (h : nI a = nI b) : a = b := (nI_eq ha hb).mp h
set_option maxHeartbeats 4000000 in
set_option maxRecDepth 20000 in
theorem c_X6_enter {f n : Nat} {sg : Int32} {U U' : Nat → Nat → Nat} {M : xM} (hB : TB M n) (hf : f < n) (hU : ∀ t d, t < 6 → U t d ≤ 5000) (hU' : ∀ t d, t < 6 → d < 66 → U' t d ≤ 5000 ∧ nI (U t d) + sg * nI (us M f t d) = nI (U' t d)) (hL : LR M (hh M) (pp M) U) : K_X6_enter [.ref 0, .int (nI f), .int sg] M (xRv (fun u => xFr M u ∧ u.1 20 1 = M.1 20 1 ∧ LR u (hh M) (pp M) U')) := by
  refine xMet.of (own := RX6) rfl (by decide) (Nat.le_of_ble_eq_true rfl) rfl (fun Y hY => ?_)
  have h10 := hB.2.1
  have hFf := hB.2.2.1 f (by omega)
  have hla : M.1 10 f = nI (la M f) := hFf.2.1.1
  have hla60 : la M f ≤ 60 := hFf.2.1.2
  have hst : ∀ t M', t ≤ 6 → xFr M M' → M'.1 20 1 = M.1 20 1 → LR M' (hh M) (pp M) (fun t' d' => if t' < t then U' t' d' else U t' d') → P_X6_enter Y 20 [(0, .ref 0), (1, .int (nI f)), (2, .int sg), (3, .int (xB (¬ M.1 19 (la M f) = 0))), (4, .int (nI t))] [] M' := by
    intro t M' ht6
    refine x_down (n := 6) (P := fun t => ∀ M', xFr M M' → M'.1 20 1 = M.1 20 1 → LR M' (hh M) (pp M) (fun t' d' => if t' < t then U' t' d' else U t' d') → P_X6_enter Y 20 [(0, .ref 0), (1, .int (nI f)), (2, .int sg), (3, .int (xB (¬ M.1 19 (la M f) = 0))), (4, .int (nI t))] [] M') ?_ ?_ t ht6 M'
    · intro M' hF hs hL'
      refine PW.iload (pc := 20) dX6_enter_20 rfl ?_
      refine PW.bipush (pc := 22) (v := nI 6) dX6_enter_22 (by decide) ?_
      refine PW.icmp_ge (pc := 24) (tgt := 127) dX6_enter_24 (by decide) (fun _ => ?_) (fun c => absurd ((nI_le (Nat.le_refl _) (by omega))) c)
      refine PW.vret (pc := 127) hY ?_ dX6_enter_127
      refine x_rv ⟨hF, hs, hL'.cg (fun t d ht hd => if_pos ht)⟩
    · intro t ht ih M' hF hs hL'
      have e16 := hF 16 (by decide) (by decide)
      have e10 := hF 10 (by decide) (by decide)
      have e9 := hF 9 (by decide) (by decide)
      have e3 := hF 3 (by decide) (by decide)
      have e5 := hF 5 (by decide) (by decide)
      have hne : M'.1 16 (f * 6 + t) = nI (ne M f t) := by rw [e16]; exact (hFf.2.2.2.2 t ht).1
      have hB' := hB.fr hF
      have hhM : hh M' t = hh M t := by unfold hh; rw [hF 2 (by decide) (by decide), hF 7 (by decide) (by decide)]
      have at70 : P_X6_enter Y 70 ((5, .int (nI (ne M f t))) :: [(0, .ref 0), (1, .int (nI f)), (2, .int sg), (3, .int (xB (¬ M.1 19 (la M f) = 0))), (4, .int (nI t))]) [.int (nI (if M.1 19 (la M f) = 0 then 0 else na (M.1 3 t))), .int (nI (la M f))] M' := by
        refine PW.iadd (pc := 70) dX6_enter_70 ?_
        rw [nI_add]
        refine PW.istore (pc := 71) dX6_enter_71 (by decide) rfl ?_
        refine PW.iload (pc := 73) dX6_enter_73 rfl ?_
        refine PW.if_le (pc := 75) (tgt := 121) dX6_enter_75 (by decide) (fun c_75 => ?_) (fun c_75 => ?_)
        · have k : ne M f t = 0 := by
            rcases Nat.eq_zero_or_pos (ne M f t) with h | h
            · exact h
            · exact absurd c_75 (nI_nle h (by have := (hFf.2.2.2.2 t ht).2; unfold ne; omega))
          refine PW.iinc (pc := 121) dX6_enter_121 rfl (x_inc1 _) (by decide) rfl ?_
          refine PW.goto (pc := 124) (tgt := 20) dX6_enter_124 (by decide) ?_
          refine PW.st rfl rfl rfl (ih M' hF hs (hL'.cg (fun t' d ht' hd => ?_)))
          by_cases e : t' = t
          · subst e
            rw [if_neg (by omega), if_pos (by omega)]
            obtain ⟨q1, q2⟩ := hU' t' d ht' hd
            have z : us M f t' d = 0 := by unfold us; rw [k]; split <;> rfl
            rw [z, show nI 0 = 0 from rfl, Int32.mul_zero, Int32.add_zero] at q2
            exact nI_inj (by have := hU t' d ht'; omega) (by omega) q2
          · have : (t' < t) ↔ (t' < t + 1) := by omega
            simp only [this]
        · refine PW.aload_n (pc := 78) dX6_enter_78 rfl ?_
          refine gf_X6_33 (pc := 79) dX6_enter_79 ?_
          refine PW.iload (pc := 82) dX6_enter_82 rfl ?_
          refine PW.aload_n (pc := 84) dX6_enter_84 rfl ?_
          refine gf_X6_19 (pc := 85) dX6_enter_85 ?_
          refine gf_X6_194 (pc := 88) dX6_enter_88 ?_
          refine PW.iload_n (pc := 91) dX6_enter_91 rfl ?_
          refine PW.ialdN (pc := 92) rfl rfl (by omega) (by decide) dX6_enter_92 ?_
          refine PW.iload (pc := 93) dX6_enter_93 rfl ?_
          refine PW.iload_n (pc := 95) dX6_enter_95 rfl ?_
          refine PW.iload (pc := 96) dX6_enter_96 rfl ?_
          refine PW.imul (pc := 98) dX6_enter_98 ?_
          refine PW.aload_n (pc := 99) dX6_enter_99 rfl ?_
          refine gf_X6_12 (pc := 100) dX6_enter_100 ?_
          refine PW.iload (pc := 103) dX6_enter_103 rfl ?_
          refine cs_X6_141 (pc := 105) hY.rm (c_X5_have ht) ⟨Nat.le_of_ble_eq_true rfl, Nat.le_of_ble_eq_true rfl⟩ dX6_enter_105 (Nat.le_of_ble_eq_true rfl) (fun x_105 u_105 h_105 => ?_)
          obtain ⟨rfl, hu_105⟩ := h_105
          replace hu_105 := hu_105.symm
          subst hu_105
          rw [hv_hh hB' ht, hhM]
          refine PW.aload_n (pc := 108) dX6_enter_108 rfl ?_
          refine gf_X6_12 (pc := 109) dX6_enter_109 ?_
          refine gf_X6_82 (pc := 112) dX6_enter_112 ?_
          refine PW.iload (pc := 115) dX6_enter_115 rfl ?_
          refine PW.ialdN (pc := 117) rfl rfl (by omega) (by decide) dX6_enter_117 ?_
          rw [show M'.1 5 t = nI (pp M t) by rw [e5]; exact nI_pp hB ht, show M'.1 9 f = nI (fi M f) by rw [e9]; exact hFf.1.1]
          have hLt : ∀ d, (if t < t then U' t d else U t d) = U t d := fun d => if_neg (by omega)
          refine cs_X6_241 (pc := 118) hY.rm (c_X3_enter (W := U' t) ht (fi_un (t := t) hB (by omega)) (un_lt hB (by omega) ht) (hh_le hB ht) (pp_le hB ht) (fun d => by rw [hLt d]; exact hU t d ht) (fun d h1 h2 => by rw [hLt d]; have q := hU' t d ht (Nat.lt_of_le_of_lt h2 (un_lt hB (by omega) ht)); rw [show us M f t d = ne M f t from if_pos ⟨h1, h2⟩] at q; exact q) hL') ⟨Nat.le_of_ble_eq_true rfl, Nat.le_of_ble_eq_true rfl⟩ dX6_enter_118 (Nat.le_of_ble_eq_true rfl) (fun u_118 h_118 => ?_)
          obtain ⟨g1, g2, g3⟩ := h_118
          refine PW.iinc (pc := 121) dX6_enter_121 rfl (x_inc1 _) (by decide) rfl ?_
          refine PW.goto (pc := 124) (tgt := 20) dX6_enter_124 (by decide) ?_
          refine PW.st rfl rfl rfl (ih u_118 (hF.tr g1) (g2.trans hs) (g3.cg (fun t' d ht' hd => ?_)))
          by_cases e : t' = t
          · subst e
            rw [if_pos (show t' < t' + 1 by omega)]
            by_cases q : fi M f ≤ d ∧ d ≤ un M f t'
            · rw [if_pos ⟨rfl, q⟩]
            · rw [if_neg (fun z => q z.2), if_neg (by omega)]
              obtain ⟨q1, q2⟩ := hU' t' d ht' hd
              rw [show us M f t' d = 0 from if_neg q, show nI 0 = 0 from rfl, Int32.mul_zero, Int32.add_zero] at q2
              exact nI_inj (by have := hU t' d ht'; omega) (by omega) q2
          · rw [if_neg (fun z => e z.1)]
            have : (t' < t) ↔ (t' < t + 1) := by omega
            simp only [this]
      refine PW.iload (pc := 20) dX6_enter_20 rfl ?_
      refine PW.bipush (pc := 22) (v := nI 6) dX6_enter_22 (by decide) ?_
      refine PW.icmp_ge (pc := 24) (tgt := 127) dX6_enter_24 (by decide) (fun c => absurd c ((nI_ge ht (by omega)))) (fun _ => ?_)
      refine PW.aload_n (pc := 27) dX6_enter_27 rfl ?_
      refine gf_X6_19 (pc := 28) dX6_enter_28 ?_
      refine gf_X6_99 (pc := 31) dX6_enter_31 ?_
      refine PW.iload_n (pc := 34) dX6_enter_34 rfl ?_
      refine PW.iload (pc := 35) dX6_enter_35 rfl ?_
      refine cs_X6_102 (pc := 37) hY.rm (c_X6_cell) ⟨Nat.le_of_ble_eq_true rfl, Nat.le_of_ble_eq_true rfl⟩ dX6_enter_37 (Nat.le_of_ble_eq_true rfl) (fun x_37 u_37 h_37 => ?_)
      obtain ⟨rfl, hu_37⟩ := h_37
      replace hu_37 := hu_37.symm
      subst hu_37
      refine PW.ialdN (pc := 40) rfl rfl (by omega) (by decide) dX6_enter_40 ?_
      refine PW.istore (pc := 41) dX6_enter_41 (by decide) rfl ?_
      refine PW.aload_n (pc := 43) dX6_enter_43 rfl ?_
      refine gf_X6_19 (pc := 44) dX6_enter_44 ?_
      refine gf_X6_197 (pc := 47) dX6_enter_47 ?_
      refine PW.iload_n (pc := 50) dX6_enter_50 rfl ?_
      refine PW.ialdN (pc := 51) rfl rfl (by omega) (by decide) dX6_enter_51 ?_
      refine PW.iload_n (pc := 52) dX6_enter_52 rfl ?_
      rw [hne, show M'.1 10 f = nI (la M f) by rw [e10]; exact hla]
      refine PW.if_eq (pc := 53) (tgt := 69) dX6_enter_53 (by decide) (fun c_53 => ?_) (fun c_53 => ?_)
      · have k : M.1 19 (la M f) = 0 := Classical.byContradiction (fun q => xB_eq (P := ¬ M.1 19 (la M f) = 0) rfl c_53 q)
        refine PW.iconst (pc := 69) (v := nI 0) dX6_enter_69 (by decide) ?_
        rw [if_pos k] at at70
        exact at70
      · have k : ¬ M.1 19 (la M f) = 0 := xB_ne (P := ¬ M.1 19 (la M f) = 0) rfl c_53
        refine PW.aload_n (pc := 56) dX6_enter_56 rfl ?_
        refine gf_X6_12 (pc := 57) dX6_enter_57 ?_
        refine gf_X6_76 (pc := 60) dX6_enter_60 ?_
        refine PW.iload (pc := 63) dX6_enter_63 rfl ?_
        refine PW.ialdN (pc := 65) rfl rfl (by omega) (by decide) dX6_enter_65 ?_
        refine PW.goto (pc := 66) (tgt := 70) dX6_enter_66 (by decide) ?_
        rw [if_neg k, ← e3, ← show M'.1 3 t = nI (na (M'.1 3 t)) by rw [e3]; exact (hB.2.2.2.1 t ht).2.1.1] at at70
        exact at70
  refine PW.aload_n (pc := 0) dX6_enter_0 rfl ?_
  refine gf_X6_26 (pc := 1) dX6_enter_1 ?_
  refine PW.aload_n (pc := 4) dX6_enter_4 rfl ?_
  refine gf_X6_19 (pc := 5) dX6_enter_5 ?_
  refine gf_X6_197 (pc := 8) dX6_enter_8 ?_
  refine PW.iload_n (pc := 11) dX6_enter_11 rfl ?_
  refine PW.ialdN (pc := 12) rfl rfl (by omega) (by decide) dX6_enter_12 ?_
  rw [hla]
  refine cs_X6_238 (pc := 13) hY.rm (c_X4_on hla60) ⟨Nat.le_of_ble_eq_true rfl, Nat.le_of_ble_eq_true rfl⟩ dX6_enter_13 (Nat.le_of_ble_eq_true rfl) (fun x_13 u_13 h_13 => ?_)
  refine PW.istore_n (pc := 16) (i := 3) dX6_enter_16 rfl (by decide) rfl ?_
  refine PW.iconst (pc := 17) (v := nI 0) dX6_enter_17 (by decide) ?_
  refine PW.istore (pc := 18) dX6_enter_18 (by decide) rfl ?_
  obtain ⟨rfl, hu_13⟩ := h_13
  replace hu_13 := hu_13.symm
  subst hu_13
  exact PW.st rfl rfl rfl (hst 0 _ (by omega) xFr.rf rfl (hL.cg (fun t d _ _ => (if_neg (by omega)).symm)))
end
section
/-! countOn, countAnew, goTogether -/
/-- the ledger holds the set s -/
def LRS (u M : xM) (n s : Nat) : Prop := u.1 20 1 = nI s ∧ LR u (hh M) (pp M) (SU M n s)
def mixs (s s0 f : Nat) (g : Nat) : Bool := if g < f then s.testBit g else s0.testBit g
def mixU (M : xM) (n s s0 f t d : Nat) : Nat := nsum (fun g => if mixs s s0 f g = true then us M g t d else 0) n
theorem mixU_0 (M : xM) (n s s0 t d : Nat) : mixU M n s s0 0 t d = SU M n s0 t d := by
  unfold mixU SU mixs
  exact nsum_congr (fun g _ => by rw [if_neg (show ¬ g < 0 by omega)])
theorem mixU_n (M : xM) (n s s0 t d : Nat) : mixU M n s s0 n t d = SU M n s t d := by
  unfold mixU SU mixs
  exact nsum_congr (fun g hg => by rw [if_pos hg])
theorem mix_ne {s s0 f g : Nat} (h : g ≠ f) : mixs s s0 (f + 1) g = mixs s s0 f g := by
  unfold mixs
  have : (g < f + 1) ↔ g < f := by omega
  simp only [this]
theorem mixU_s {M : xM} {n s s0 f t d : Nat} (hf : f < n) : mixU M n s s0 (f + 1) t d + (if s0.testBit f = true then us M f t d else 0) = mixU M n s s0 f t d + (if s.testBit f = true then us M f t d else 0) := by
  have h := nsum_upd (f := fun g => if mixs s s0 f g = true then us M g t d else 0) (g := fun g => if mixs s s0 (f + 1) g = true then us M g t d else 0) hf (fun j hj => by rw [mix_ne hj])
  have e1 : mixs s s0 f f = s0.testBit f := if_neg (by omega)
  have e2 : mixs s s0 (f + 1) f = s.testBit f := if_pos (by omega)
  rw [e1, e2] at h
  exact h
theorem LRS.M20 {u M : xM} {n s : Nat} (h : LRS u M n s) : u.1 20 1 = nI s := h.1
theorem bits_us {M u : xM} {n : Nat} (hF : xFr M u) : (∀ f t d, us u f t d = us M f t d) ∧ hh u = hh M ∧ pp u = pp M := by
  refine ⟨fun f t d => ?_, ?_, ?_⟩
  · unfold us fi un la ne
    rw [hF 9 (by decide) (by decide), hF 10 (by decide) (by decide), hF 16 (by decide) (by decide), hF 3 (by decide) (by decide), hF 19 (by decide) (by decide)]
  · funext t
    unfold hh
    rw [hF 2 (by decide) (by decide), hF 7 (by decide) (by decide)]
  · funext t
    unfold pp
    rw [hF 5 (by decide) (by decide)]
theorem SU_fr {M u : xM} {n : Nat} (hF : xFr M u) (s : Nat) : SU u n s = SU M n s := by
  funext t d
  unfold SU
  exact nsum_congr (fun g _ => by rw [(bits_us (n := n) hF).1])
theorem LRS.fr {M u v : xM} {n s : Nat} (hF : xFr M u) : LRS v u n s ↔ LRS v M n s := by
  unfold LRS
  rw [SU_fr hF, (bits_us (n := n) hF).2.1, (bits_us (n := n) hF).2.2]
set_option maxHeartbeats 4000000 in
set_option maxRecDepth 20000 in
theorem c_X6_countOn {n s s0 : Nat} {M : xM} (hB : TB M n) (h1 : s < 1024) (h2 : s0 < 1024) (hL : LRS M M n s0) : K_X6_countOn [.ref 0, .int (nI s)] M (xRv (fun u => xFr M u ∧ LRS u M n s)) := by
  refine xMet.of (own := RX6) rfl (by decide) (Nat.le_of_ble_eq_true rfl) rfl (fun Y hY => ?_)
  have h10 := hB.2.1
  have hx : (s ^^^ s0) < 1024 := Nat.xor_lt_two_pow (n := 10) h1 h2
  have hsz := hB.1
  have hst : ∀ f, f ≤ n → ∀ M', xFr M M' → M'.1 20 1 = nI s0 → LR M' (hh M) (pp M) (mixU M n s s0 f) → P_X6_countOn Y 12 [(0, .ref 0), (1, .int (nI s)), (2, .int (nI (s ^^^ s0))), (3, .int (nI f))] [] M' := by
    intro f hfn
    refine x_down (n := n) (P := fun f => ∀ M', xFr M M' → M'.1 20 1 = nI s0 → LR M' (hh M) (pp M) (mixU M n s s0 f) → P_X6_countOn Y 12 [(0, .ref 0), (1, .int (nI s)), (2, .int (nI (s ^^^ s0))), (3, .int (nI f))] [] M') ?_ ?_ f hfn
    · intro M' hF hs hL'
      refine PW.iload_n (pc := 12) dX6_countOn_12 rfl ?_
      refine PW.aload_n (pc := 13) dX6_countOn_13 rfl ?_
      refine gf_X6_19 (pc := 14) dX6_countOn_14 ?_
      refine gf_X6_193 (pc := 17) dX6_countOn_17 ?_
      refine PW.icmp_ge (pc := 20) (tgt := 57) dX6_countOn_20 (by decide) (fun _ => ?_) (fun c => absurd ((by rw [hF 8 (by decide) (by decide), hsz]; exact nI_le (Nat.le_refl _) (by omega))) c)
      refine PW.aload_n (pc := 57) dX6_countOn_57 rfl ?_
      refine gf_X6_33 (pc := 58) dX6_countOn_58 ?_
      refine PW.iload_n (pc := 61) dX6_countOn_61 rfl ?_
      refine pf_X6_232 (pc := 62) dX6_countOn_62 ?_
      refine PW.vret (pc := 65) hY ?_ dX6_countOn_65
      refine x_rv ⟨?_, ?_, ?_⟩
      · intro q a b
        funext j
        simp only [xup_1, a, false_and, if_false]
        rw [hF q a b]
      · simp [xup_1]
      · obtain ⟨b1, b2, b3⟩ := hL'.cg (fun t d _ _ => mixU_n M n s s0 t d)
        exact ⟨fun t d ht hd => by simp only [xup_1]; exact b1 t d ht hd, by simp only [xup_1]; exact b2, b3⟩
    · intro f hf ih M' hF hs hL'
      have hB' := hB.fr hF
      have hus := bits_us (n := n) hF
      have hL2 : LR M' (hh M') (pp M') (mixU M n s s0 f) := by rw [hus.2.1, hus.2.2]; exact hL'
      have next : ∀ M2, xFr M M2 → M2.1 20 1 = nI s0 → LR M2 (hh M) (pp M) (mixU M n s s0 (f + 1)) → P_X6_countOn Y 51 [(0, .ref 0), (1, .int (nI s)), (2, .int (nI (s ^^^ s0))), (3, .int (nI f))] [] M2 := by
        intro M2 g1 g2 g3
        refine PW.iinc (pc := 51) dX6_countOn_51 rfl (x_inc1 _) (by decide) rfl ?_
        refine PW.goto (pc := 54) (tgt := 12) dX6_countOn_54 (by decide) ?_
        exact PW.st rfl rfl rfl (ih M2 g1 g2 g3)
      have hm := fun t d => mixU_s (M := M) (n := n) (s := s) (s0 := s0) (t := t) (d := d) hf
      refine PW.iload_n (pc := 12) dX6_countOn_12 rfl ?_
      refine PW.aload_n (pc := 13) dX6_countOn_13 rfl ?_
      refine gf_X6_19 (pc := 14) dX6_countOn_14 ?_
      refine gf_X6_193 (pc := 17) dX6_countOn_17 ?_
      refine PW.icmp_ge (pc := 20) (tgt := 57) dX6_countOn_20 (by decide) (fun c => absurd c ((by rw [hF 8 (by decide) (by decide), hsz]; exact nI_ge hf (by omega)))) (fun _ => ?_)
      refine PW.iload_n (pc := 23) dX6_countOn_23 rfl ?_
      refine PW.iload_n (pc := 24) dX6_countOn_24 rfl ?_
      refine PW.ishr (pc := 25) dX6_countOn_25 ?_
      refine PW.iconst (pc := 26) (v := nI 1) dX6_countOn_26 (by decide) ?_
      refine PW.iand (pc := 27) dX6_countOn_27 ?_
      refine PW.iconst (pc := 28) (v := nI 1) dX6_countOn_28 (by decide) ?_
      refine PW.icmp_ne (pc := 29) (tgt := 51) dX6_countOn_29 (by decide) (fun c_29 => ?_) (fun c_29 => ?_)
      · rw [x_bit (by omega) (by omega), Nat.testBit_xor] at c_29
        refine PW.st rfl rfl rfl (next M' hF hs (hL'.cg (fun t d _ _ => ?_)))
        have h := hm t d
        cases q1 : s.testBit f <;> cases q2 : s0.testBit f <;> simp_all
      · rw [x_bit (by omega) (by omega), Nat.testBit_xor] at c_29
        refine PW.aload_n (pc := 32) dX6_countOn_32 rfl ?_
        refine PW.iload_n (pc := 33) dX6_countOn_33 rfl ?_
        refine PW.iload_n (pc := 34) dX6_countOn_34 rfl ?_
        refine PW.iload_n (pc := 35) dX6_countOn_35 rfl ?_
        refine PW.ishr (pc := 36) dX6_countOn_36 ?_
        refine PW.iconst (pc := 37) (v := nI 1) dX6_countOn_37 (by decide) ?_
        refine PW.iand (pc := 38) dX6_countOn_38 ?_
        refine PW.iconst (pc := 39) (v := nI 1) dX6_countOn_39 (by decide) ?_
        refine PW.icmp_ne (pc := 40) (tgt := 47) dX6_countOn_40 (by decide) (fun c_40 => ?_) (fun c_40 => ?_)
        · rw [x_bit (by omega) (by omega)] at c_40
          refine PW.iconst (pc := 47) (v := (-1)) dX6_countOn_47 (by decide) ?_
          refine cs_X6_235 (pc := 48) hY.rm (c_X6_enter (U := mixU M n s s0 f) (U' := mixU M n s s0 (f + 1)) hB' hf (fun t d ht => psum_le hB _ ht) (fun t d ht hd => ⟨psum_le hB _ ht, by rw [hus.1]; refine i32_addm1 ?_; have h := hm t d; cases q1 : s.testBit f <;> cases q2 : s0.testBit f <;> simp_all⟩) hL2) ⟨Nat.le_of_ble_eq_true rfl, Nat.le_of_ble_eq_true rfl⟩ dX6_countOn_48 (Nat.le_of_ble_eq_true rfl) (fun u_48 h_48 => ?_)
          obtain ⟨g1, g2, g3⟩ := h_48
          rw [hus.2.1, hus.2.2] at g3
          exact PW.st rfl rfl rfl (next u_48 (hF.tr g1) (g2.trans hs) g3)
        · rw [x_bit (by omega) (by omega)] at c_40
          refine PW.iconst (pc := 43) (v := nI 1) dX6_countOn_43 (by decide) ?_
          refine PW.goto (pc := 44) (tgt := 48) dX6_countOn_44 (by decide) ?_
          refine cs_X6_235 (pc := 48) hY.rm (c_X6_enter (U := mixU M n s s0 f) (U' := mixU M n s s0 (f + 1)) hB' hf (fun t d ht => psum_le hB _ ht) (fun t d ht hd => ⟨psum_le hB _ ht, by rw [hus.1, pk_mul, Nat.one_mul, nI_add]; have h := hm t d; cases q1 : s.testBit f <;> cases q2 : s0.testBit f <;> simp_all⟩) hL2) ⟨Nat.le_of_ble_eq_true rfl, Nat.le_of_ble_eq_true rfl⟩ dX6_countOn_48 (Nat.le_of_ble_eq_true rfl) (fun u_48 h_48 => ?_)
          obtain ⟨g1, g2, g3⟩ := h_48
          rw [hus.2.1, hus.2.2] at g3
          exact PW.st rfl rfl rfl (next u_48 (hF.tr g1) (g2.trans hs) g3)
  refine PW.iload_n (pc := 0) dX6_countOn_0 rfl ?_
  refine PW.aload_n (pc := 1) dX6_countOn_1 rfl ?_
  refine gf_X6_33 (pc := 2) dX6_countOn_2 ?_
  refine gf_X6_232 (pc := 5) dX6_countOn_5 ?_
  refine PW.ixor (pc := 8) dX6_countOn_8 ?_
  rw [hL.1, fa_xor]
  refine PW.istore_n (pc := 9) (i := 2) dX6_countOn_9 rfl (by decide) rfl ?_
  refine PW.iconst (pc := 10) (v := nI 0) dX6_countOn_10 (by decide) ?_
  refine PW.istore_n (pc := 11) (i := 3) dX6_countOn_11 rfl (by decide) rfl ?_
  exact PW.st rfl rfl rfl (hst 0 (Nat.zero_le _) M xFr.rf hL.1 (hL.2.cg (fun t d _ _ => (mixU_0 M n s s0 t d).symm)))
theorem SU_zero (M : xM) (n t d : Nat) : SU M n 0 t d = 0 := by
  unfold SU
  rw [nsum_congr (g := fun _ => 0) (fun g _ => by simp), nsum_zero]
set_option maxHeartbeats 4000000 in
set_option maxRecDepth 20000 in
theorem c_X6_countAnew {n s : Nat} {M : xM} (hB : TB M n) (h1 : s < 1024) : K_X6_countAnew [.ref 0, .int (nI s)] M (xRv (fun u => xFr M u ∧ LRS u M n s)) := by
  refine xMet.of (own := RX6) rfl (by decide) (Nat.le_of_ble_eq_true rfl) rfl (fun Y hY => ?_)
  refine PW.aload_n (pc := 0) dX6_countAnew_0 rfl ?_
  refine gf_X6_33 (pc := 1) dX6_countAnew_1 ?_
  refine cs_X6_229 (pc := 4) hY.rm (c_X3_clear) ⟨Nat.le_of_ble_eq_true rfl, Nat.le_of_ble_eq_true rfl⟩ dX6_countAnew_4 (Nat.le_of_ble_eq_true rfl) (fun u_4 h_4 => ?_)
  have hF : xFr M u_4 := by
    intro q a b
    rw [h_4]
    funext j
    simp only [xupL_1, xup_1, xupA_1, a, b, false_and, if_false]
  have hL : LRS u_4 M n 0 := by
    refine ⟨by rw [h_4]; simp [xupL_1, xup_1], ?_, ?_, ?_⟩
    · intro t d ht hd
      rw [h_4, SU_zero]
      simp only [xupL_1, xup_1, xupA_1]
      have : t * 66 + d < 396 := by omega
      simp [this]
    · have : LKs (hh M) (SU M n 0) = 0 := dsum_eq0.mpr (fun t d _ _ => by rw [SU_zero]; simp)
      rw [this, h_4]
      simp [xupL_1, xup_1]
    · have : HSs (hh M) (pp M) (SU M n 0) = 0 := dsum_eq0.mpr (fun t d _ _ => by rw [SU_zero]; simp)
      rw [this, h_4]
      simp [xupL_2]
  refine PW.aload_n (pc := 7) dX6_countAnew_7 rfl ?_
  refine PW.iload_n (pc := 8) dX6_countAnew_8 rfl ?_
  refine cs_X6_155 (pc := 9) hY.rm (c_X6_countOn (s0 := 0) (hB.fr hF) h1 (by omega) ((LRS.fr hF).mpr hL)) ⟨Nat.le_of_ble_eq_true rfl, Nat.le_of_ble_eq_true rfl⟩ dX6_countAnew_9 (Nat.le_of_ble_eq_true rfl) (fun u_9 h_9 => ?_)
  refine PW.vret (pc := 12) hY ?_ dX6_countAnew_12
  exact x_rv ⟨hF.tr h_9.1, (LRS.fr hF).mp h_9.2⟩
/-- the set s fits: nothing lacks -/
def fitS (M : xM) (n s : Nat) : Prop := LKs (hh M) (SU M n s) = 0
theorem LRS.lack {u M : xM} {n s : Nat} (h : LRS u M n s) : u.1 20 2 = nI (LKs (hh M) (SU M n s)) := h.2.2.1
theorem LRS.fit {u M : xM} {n s : Nat} (h : LRS u M n s) : u.1 20 2 = 0 ↔ fitS M n s := by
  rw [h.lack]
  unfold fitS
  have := LKs_le (h := hh M) (U := SU M n s)
  rw [show (0 : Int32) = nI 0 from rfl, nI_eq (by omega) (by omega)]
set_option maxHeartbeats 4000000 in
set_option maxRecDepth 20000 in
theorem c_X6_goTogether {n s : Nat} {M : xM} (hB : TB M n) (h1 : s < 1024) : K_X6_goTogether [.ref 0, .int (nI s)] M (xRi (fun x u => x = xB (u.1 20 2 = 0) ∧ xFr M u ∧ LRS u M n s)) := by
  refine xMet.of (own := RX6) rfl (by decide) (Nat.le_of_ble_eq_true rfl) rfl (fun Y hY => ?_)
  refine PW.aload_n (pc := 0) dX6_goTogether_0 rfl ?_
  refine PW.iload_n (pc := 1) dX6_goTogether_1 rfl ?_
  refine cs_X6_117 (pc := 2) hY.rm (c_X6_countAnew hB h1) ⟨Nat.le_of_ble_eq_true rfl, Nat.le_of_ble_eq_true rfl⟩ dX6_goTogether_2 (Nat.le_of_ble_eq_true rfl) (fun u_2 h_2 => ?_)
  refine PW.aload_n (pc := 5) dX6_goTogether_5 rfl ?_
  refine gf_X6_33 (pc := 6) dX6_goTogether_6 ?_
  refine gf_X6_158 (pc := 9) dX6_goTogether_9 ?_
  refine PW.if_ne (pc := 12) (tgt := 19) dX6_goTogether_12 (by decide) (fun c_12 => ?_) (fun c_12 => ?_)
  · refine PW.iconst (pc := 19) (v := nI 0) dX6_goTogether_19 (by decide) ?_
    refine PW.zret (pc := 20) hY (by decide) ?_ dX6_goTogether_20
    exact x_ri ⟨(xB_f c_12).symm, h_2⟩
  · refine PW.iconst (pc := 15) (v := nI 1) dX6_goTogether_15 (by decide) ?_
    refine PW.goto (pc := 16) (tgt := 20) dX6_goTogether_16 (by decide) ?_
    refine PW.zret (pc := 20) hY (by decide) ?_ dX6_goTogether_20
    exact x_ri ⟨(xB_t c_12).symm, h_2⟩
end
section
/-! searches over sets, as numbers -/
theorem i32_subs (x y : Int32) : (x &&& (y ^^^ (-1)) = 0) ↔ (x &&& y = x) := by
  rw [← Int32.toBitVec_inj, ← Int32.toBitVec_inj]
  show x.toBitVec &&& (y.toBitVec ^^^ BitVec.allOnes 32) = 0#32 ↔ x.toBitVec &&& y.toBitVec = x.toBitVec
  constructor
  · intro h
    apply BitVec.eq_of_getLsbD_eq
    intro i hi
    have := congrArg (fun z => z.getLsbD i) h
    simp only [BitVec.getLsbD_and, BitVec.getLsbD_xor, BitVec.getLsbD_allOnes, BitVec.getLsbD_zero, hi, decide_true] at this
    simp only [BitVec.getLsbD_and]
    revert this
    cases x.toBitVec.getLsbD i <;> cases y.toBitVec.getLsbD i <;> simp
  · intro h
    apply BitVec.eq_of_getLsbD_eq
    intro i hi
    have := congrArg (fun z => z.getLsbD i) h
    simp only [BitVec.getLsbD_and] at this
    simp only [BitVec.getLsbD_and, BitVec.getLsbD_xor, BitVec.getLsbD_allOnes, BitVec.getLsbD_zero, hi, decide_true]
    revert this
    cases x.toBitVec.getLsbD i <;> cases y.toBitVec.getLsbD i <;> simp
theorem x_sub {s a : Nat} (hs : s < 2 ^ 31) : (nI s &&& (nI a ^^^ (-1)) = 0) ↔ s &&& a = s := by
  rw [i32_subs, fa_and, nI_eq (by have := Nat.and_le_left (n := s) (m := a); omega) hs]
theorem x_minus {t s : Nat} (ht : t < 1024) : nI t &&& (nI s ^^^ (-1)) = nI (t &&& (1023 ^^^ s)) := by
  apply Int32.toBitVec_inj.1
  show BitVec.ofNat 32 t &&& (BitVec.ofNat 32 s ^^^ BitVec.allOnes 32) = BitVec.ofNat 32 (t &&& (1023 ^^^ s))
  apply BitVec.eq_of_getLsbD_eq
  intro i hi
  simp only [BitVec.getLsbD_and, BitVec.getLsbD_xor, BitVec.getLsbD_ofNat, BitVec.getLsbD_allOnes, Nat.testBit_and, Nat.testBit_xor, hi, decide_true, Bool.true_and]
  by_cases h : i < 10
  · have : (1023 : Nat).testBit i = true := by
      rw [show (1023 : Nat) = 2 ^ 10 - 1 from rfl, Nat.testBit_two_pow_sub_one]; simp [h]
    rw [this]
    cases t.testBit i <;> cases s.testBit i <;> rfl
  · have : t.testBit i = false := Nat.testBit_lt_two_pow (Nat.lt_of_lt_of_le ht (show 2 ^ 10 ≤ 2 ^ i from Nat.pow_le_pow_right (by omega) (by omega)))
    rw [this]; simp
theorem sub_le {s a : Nat} (h : s &&& a = s) : s ≤ a := by rw [← h]; exact Nat.and_le_right
theorem or_lt {a b : Nat} (ha : a < 1024) (hb : b < 1024) : a ||| b < 1024 := Nat.or_lt_two_pow (n := 10) ha hb
theorem and_lt {a b : Nat} (ha : a < 1024) : a &&& b < 1024 := Nat.lt_of_le_of_lt Nat.and_le_left ha
/-- the best of the sets under k -/
def bestF (P : Nat → Bool) (pr : Nat → Int32) : Nat → Nat
  | 0 => 0
  | k + 1 => if k ≠ 0 ∧ P k = true ∧ pr (bestF P pr k) < pr k then k else bestF P pr k
theorem bestF_one (P : Nat → Bool) (pr : Nat → Int32) : bestF P pr 1 = 0 := by simp [bestF]
theorem bestF_up {P : Nat → Bool} {pr : Nat → Int32} {a : Nat} : ∀ {b : Nat}, a ≤ b → (∀ k, a ≤ k → k < b → P k = false) → bestF P pr b = bestF P pr a
  | 0, h, _ => by rw [show a = 0 by omega]
  | b + 1, h, hP => by
    by_cases e : a = b + 1
    · rw [e]
    · rw [bestF, if_neg (by rw [hP b (by omega) (by omega)]; simp), bestF_up (by omega) (fun k h1 h2 => hP k h1 (by omega))]
theorem bestF_congr {P Q : Nat → Bool} {p q : Nat → Int32} (hP : ∀ k, P k = Q k) (hp : ∀ k, p k = q k) (n : Nat) : bestF P p n = bestF Q q n := by
  rw [show P = Q from funext hP, show p = q from funext hp]
/-- the dearest of the sets under k, and its worth -/
def dearF (P : Nat → Bool) (wo : Nat → Int64) : Nat → Nat × Int64
  | 0 => (0, lN 0)
  | k + 1 => if k ≠ 0 ∧ P k = true ∧ (dearF P wo k).2 < wo k then (k, wo k) else dearF P wo k
theorem dearF_one (P : Nat → Bool) (wo : Nat → Int64) : dearF P wo 1 = (0, lN 0) := by simp [dearF]
theorem dearF_up {P : Nat → Bool} {wo : Nat → Int64} {a : Nat} : ∀ {b : Nat}, a ≤ b → (∀ k, a ≤ k → k < b → P k = false) → dearF P wo b = dearF P wo a
  | 0, h, _ => by rw [show a = 0 by omega]
  | b + 1, h, hP => by
    by_cases e : a = b + 1
    · rw [e]
    · rw [dearF, if_neg (by rw [hP b (by omega) (by omega)]; simp), dearF_up (by omega) (fun k h1 h2 => hP k h1 (by omega))]
theorem dearF_lt {P : Nat → Bool} {wo : Nat → Int64} : ∀ k, (dearF P wo k).1 < k + 1
  | 0 => by simp [dearF]
  | k + 1 => by
    rw [dearF]
    have := dearF_lt (P := P) (wo := wo) k
    split
    · show k < _; omega
    · omega
theorem bestF_lt {P : Nat → Bool} {pr : Nat → Int32} : ∀ k, bestF P pr k < k + 1
  | 0 => by simp [bestF]
  | k + 1 => by
    rw [bestF]
    have := bestF_lt (P := P) (pr := pr) k
    split <;> omega
/-- the fewest: from t on, the sets from 'a' on, k of them -/
def fewF (P : Nat → Bool) (ah : Nat → Nat → Bool) (t a : Nat) : Nat → Nat
  | 0 => t
  | k + 1 => if P (a + k) = true ∧ ah (a + k) (fewF P ah t a k) = true then a + k else fewF P ah t a k
theorem pcn_mono {s t : Nat} (h : s &&& t = s) : ∀ n, pcn s n ≤ pcn t n
  | 0 => Nat.le_refl _
  | n + 1 => by
    have h1 := pcn_mono h n
    have h2 : s.testBit n = true → t.testBit n = true := by
      intro q
      rw [← h, Nat.testBit_and] at q
      simp at q
      exact q.2
    rw [pcn, pcn]
    by_cases q : s.testBit n = true
    · rw [if_pos q, if_pos (h2 q)]; omega
    · rw [if_neg q]; split <;> omega
theorem pcn_lt {s t : Nat} (h : s &&& t = s) : ∀ {n : Nat}, (∃ i, i < n ∧ s.testBit i ≠ t.testBit i) → pcn s n < pcn t n
  | 0, ⟨i, hi, _⟩ => by omega
  | n + 1, ⟨i, hi, hne⟩ => by
    have h2 : s.testBit n = true → t.testBit n = true := by
      intro q
      rw [← h, Nat.testBit_and] at q
      simp at q
      exact q.2
    have h1 := pcn_mono h n
    rw [pcn, pcn]
    by_cases e : i = n
    · subst e
      cases q1 : s.testBit i <;> cases q2 : t.testBit i
      · exact absurd (q1.trans q2.symm) hne
      · simp; omega
      · have := h2 q1; rw [q2] at this; cases this
      · exact absurd (q1.trans q2.symm) hne
    · have h3 := pcn_lt h (n := n) ⟨i, by omega, hne⟩
      by_cases q : s.testBit n = true
      · rw [if_pos q, if_pos (h2 q)]; omega
      · rw [if_neg q]; split <;> omega
theorem pcn_slt {s t : Nat} (hs : s < 1024) (ht : t < 1024) (h : s &&& t = s) (hne : s ≠ t) : pcn s 10 < pcn t 10 := by
  refine pcn_lt h ?_
  refine Classical.byContradiction (fun hno => hne (Nat.eq_of_testBit_eq (fun i => ?_)))
  by_cases hi : i < 10
  · exact Classical.byContradiction (fun q => hno ⟨i, hi, q⟩)
  · have hb : 2 ^ 10 ≤ 2 ^ i := Nat.pow_le_pow_right (by omega) (by omega)
    rw [Nat.testBit_lt_two_pow (by omega), Nat.testBit_lt_two_pow (by omega)]
theorem pcn_0 : ∀ n, pcn 0 n = 0
  | 0 => rfl
  | n + 1 => by rw [pcn, pcn_0 n]; simp
theorem pcn_pos {s : Nat} (hs : s < 1024) (h : s ≠ 0) : 0 < pcn s 10 := by
  have := pcn_slt (s := 0) (t := s) (by omega) hs (by simp) (fun q => h q.symm)
  rw [pcn_0] at this
  exact this
theorem pcn_le (s : Nat) : ∀ n, pcn s n ≤ n
  | 0 => Nat.le_refl _
  | n + 1 => by rw [pcn]; have := pcn_le s n; split <;> omega
end
section
/-! the class's searches -/
theorem TB.has {M : xM} {n : Nat} (h : TB M n) : M.1 8 9 = nI n := h.1
theorem TB.n10 {M : xM} {n : Nat} (h : TB M n) : n ≤ 10 := h.2.1
def TK (M : xM) (n : Nat) : Nat := xset (M.1 12) (nI 1) n
def AS (M : xM) (n : Nat) : Nat := xset (M.1 12) (nI 0) n
def LKn (M : xM) (n s : Nat) : Nat := LKs (hh M) (SU M n s)
def HSn (M : xM) (n s : Nat) : Nat := HSs (hh M) (pp M) (SU M n s)
def bestP (M : xM) (n : Nat) (s : Nat) : Bool := decide (s &&& AS M n = s) && decide (LKn M n (TK M n ||| s) = 0)
def prM (M : xM) (n : Nat) (s : Nat) : Int32 := prs (M.1 11) s n
def bestT (M : xM) (n : Nat) : Nat := bestF (bestP M n) (prM M n) (AS M n + 1)
theorem TK_lt {M : xM} {n : Nat} (h : TB M n) : TK M n < 1024 := xset_lt _ _ h.n10
theorem AS_lt {M : xM} {n : Nat} (h : TB M n) : AS M n < 1024 := xset_lt _ _ h.n10
theorem LRS.fit2 {u M : xM} {n s : Nat} (h : LRS u M n s) : u.1 20 2 = 0 ↔ LKn M n s = 0 := h.fit
theorem prs_0 (p : Nat → Int32) : ∀ n, prs p 0 n = nI 0
  | 0 => rfl
  | n + 1 => by rw [prs, if_neg (by simp), prs_0 p n]
set_option maxHeartbeats 4000000 in
set_option maxRecDepth 20000 in
theorem c_X6_best {n : Nat} {M : xM} (hB : TB M n) : K_X6_best [.ref 0] M (xRi (fun x u => (if LKn M n (TK M n) = 0 then x = nI (bestT M n) else x = (-3)) ∧ xFr M u)) := by
  refine xMet.of (own := RX6) rfl (by decide) (Nat.le_of_ble_eq_true rfl) rfl (fun Y hY => ?_)
  have hn := hB.has
  have h10 := hB.n10
  have ht := TK_lt hB
  have ha := AS_lt hB
  refine PW.aload_n (pc := 0) dX6_best_0 rfl ?_
  refine gf_X6_19 (pc := 1) dX6_best_1 ?_
  refine PW.iconst (pc := 4) (v := nI 1) dX6_best_4 (by decide) ?_
  refine cs_X6_110 (pc := 5) hY.rm (c_X1_setOf hn h10) ⟨Nat.le_of_ble_eq_true rfl, Nat.le_of_ble_eq_true rfl⟩ dX6_best_5 (Nat.le_of_ble_eq_true rfl) (fun x_5 u_5 h_5 => ?_)
  obtain ⟨rfl, hu_5⟩ := h_5
  replace hu_5 := hu_5.symm
  subst hu_5
  refine PW.istore_n (pc := 8) (i := 1) dX6_best_8 rfl (by decide) rfl ?_
  refine PW.aload_n (pc := 9) dX6_best_9 rfl ?_
  refine gf_X6_19 (pc := 10) dX6_best_10 ?_
  refine PW.iconst (pc := 13) (v := nI 0) dX6_best_13 (by decide) ?_
  refine cs_X6_110 (pc := 14) hY.rm (c_X1_setOf hn h10) ⟨Nat.le_of_ble_eq_true rfl, Nat.le_of_ble_eq_true rfl⟩ dX6_best_14 (Nat.le_of_ble_eq_true rfl) (fun x_14 u_14 h_14 => ?_)
  obtain ⟨rfl, hu_14⟩ := h_14
  replace hu_14 := hu_14.symm
  subst hu_14
  rw [show xset (M.1 12) (nI 1) n = TK M n from rfl, show xset (M.1 12) (nI 0) n = AS M n from rfl]
  refine PW.istore_n (pc := 17) (i := 2) dX6_best_17 rfl (by decide) rfl ?_
  refine PW.aload_n (pc := 18) dX6_best_18 rfl ?_
  refine PW.iload_n (pc := 19) dX6_best_19 rfl ?_
  refine cs_X6_114 (pc := 20) hY.rm (c_X6_goTogether hB ht) ⟨Nat.le_of_ble_eq_true rfl, Nat.le_of_ble_eq_true rfl⟩ dX6_best_20 (Nat.le_of_ble_eq_true rfl) (fun x_20 u_20 h_20 => ?_)
  obtain ⟨hx, hF0, hL0⟩ := h_20
  refine PW.if_ne (pc := 23) (tgt := 29) dX6_best_23 (by decide) (fun c_23 => ?_) (fun c_23 => ?_)
  · have hfit := (hL0.fit2).mp (xB_ne hx c_23)
    refine PW.iconst (pc := 29) (v := nI 0) dX6_best_29 (by decide) ?_
    refine PW.istore_n (pc := 30) (i := 3) dX6_best_30 rfl (by decide) rfl ?_
    refine PW.iconst (pc := 31) (v := nI 0) dX6_best_31 (by decide) ?_
    refine PW.istore (pc := 32) dX6_best_32 (by decide) rfl ?_
    refine PW.iconst (pc := 34) (v := nI 1) dX6_best_34 (by decide) ?_
    refine PW.istore (pc := 35) dX6_best_35 (by decide) rfl ?_
    have loop : ∀ k, k ≤ AS M n + 1 → (1 ≤ k → ∀ M', xFr M M' → (∃ s0, s0 < 1024 ∧ LRS M' M n s0) → P_X6_best Y 37 [(0, .ref 0), (1, .int (nI (TK M n))), (2, .int (nI (AS M n))), (3, .int (nI (bestF (bestP M n) (prM M n) k))), (4, .int (prM M n (bestF (bestP M n) (prM M n) k))), (5, .int (nI k))] [] M') := by
      refine x_down ?_ ?_
      · intro _ M' hF _
        refine PW.iload (pc := 37) dX6_best_37 rfl ?_
        refine PW.iload_n (pc := 39) dX6_best_39 rfl ?_
        refine PW.icmp_gt (pc := 40) (tgt := 104) dX6_best_40 (by decide) (fun _ => ?_) (fun c => absurd ((nI_lt (by omega) (by omega))) c)
        refine PW.iload_n (pc := 104) dX6_best_104 rfl ?_
        refine PW.iret (pc := 105) hY ?_ dX6_best_105
        refine x_ri ⟨?_, hF⟩
        rw [if_pos hfit]; rfl
      · intro k hk ih hk1 M' hF hL
        obtain ⟨s0, hs0, hL⟩ := hL
        have hB' := hB.fr hF
        have next : ∀ M2 fd, xFr M M2 → (∃ s0, s0 < 1024 ∧ LRS M2 M n s0) → fd = bestF (bestP M n) (prM M n) (k + 1) → P_X6_best Y 98 [(0, .ref 0), (1, .int (nI (TK M n))), (2, .int (nI (AS M n))), (3, .int (nI fd)), (4, .int (prM M n fd)), (5, .int (nI k))] [] M2 := by
          intro M2 fd g1 g2 g3
          refine PW.iinc (pc := 98) dX6_best_98 rfl (x_inc1 _) (by decide) rfl ?_
          refine PW.goto (pc := 101) (tgt := 37) dX6_best_101 (by decide) ?_
          rw [g3]
          exact PW.st rfl rfl rfl (ih (by omega) M2 g1 g2)
        refine PW.iload (pc := 37) dX6_best_37 rfl ?_
        refine PW.iload_n (pc := 39) dX6_best_39 rfl ?_
        refine PW.icmp_gt (pc := 40) (tgt := 104) dX6_best_40 (by decide) (fun c => absurd c ((nI_nlt (by omega) (by omega)))) (fun _ => ?_)
        refine PW.aload_n (pc := 43) dX6_best_43 rfl ?_
        refine gf_X6_19 (pc := 44) dX6_best_44 ?_
        refine PW.iload (pc := 47) dX6_best_47 rfl ?_
        refine cs_X6_152 (pc := 49) hY.rm (c_X1_priceOf hB'.has h10 (by omega)) ⟨Nat.le_of_ble_eq_true rfl, Nat.le_of_ble_eq_true rfl⟩ dX6_best_49 (Nat.le_of_ble_eq_true rfl) (fun x_49 u_49 h_49 => ?_)
        obtain ⟨rfl, hu_49⟩ := h_49
        replace hu_49 := hu_49.symm
        subst hu_49
        rw [show prs (M'.1 11) k n = prM M n k by rw [hF 11 (by decide) (by decide)]; rfl]
        refine PW.istore (pc := 52) dX6_best_52 (by decide) rfl ?_
        refine PW.iload (pc := 54) dX6_best_54 rfl ?_
        refine PW.iload_n (pc := 56) dX6_best_56 rfl ?_
        refine PW.iconst (pc := 57) (v := (-1)) dX6_best_57 (by decide) ?_
        refine PW.ixor (pc := 58) dX6_best_58 ?_
        refine PW.iand (pc := 59) dX6_best_59 ?_
        refine PW.if_ne (pc := 60) (tgt := 98) dX6_best_60 (by decide) (fun c_60 => ?_) (fun c_60 => ?_)
        · rw [x_sub (by omega)] at c_60
          refine PW.st rfl rfl rfl (next M' (bestF (bestP M n) (prM M n) k) hF ⟨s0, hs0, hL⟩ ?_)
          rw [bestF, if_neg]
          rintro ⟨-, q, -⟩
          simp [bestP, c_60] at q
        · rw [x_sub (by omega)] at c_60
          refine PW.iload (pc := 63) dX6_best_63 rfl ?_
          refine PW.iload (pc := 65) dX6_best_65 rfl ?_
          refine PW.icmp_gt (pc := 67) (tgt := 73) dX6_best_67 (by decide) (fun c_67 => ?_) (fun c_67 => ?_)
          · refine PW.aload_n (pc := 73) dX6_best_73 rfl ?_
            refine PW.iload_n (pc := 74) dX6_best_74 rfl ?_
            refine PW.iload (pc := 75) dX6_best_75 rfl ?_
            refine PW.ior (pc := 77) dX6_best_77 ?_
            rw [fa_or]
            refine cs_X6_155 (pc := 78) hY.rm (c_X6_countOn hB' (or_lt ht (by omega)) hs0 ((LRS.fr hF).mpr hL)) ⟨Nat.le_of_ble_eq_true rfl, Nat.le_of_ble_eq_true rfl⟩ dX6_best_78 (Nat.le_of_ble_eq_true rfl) (fun u_78 h_78 => ?_)
            obtain ⟨g1, g2⟩ := h_78
            have g2 := (LRS.fr hF).mp g2
            refine PW.aload_n (pc := 81) dX6_best_81 rfl ?_
            refine gf_X6_33 (pc := 82) dX6_best_82 ?_
            refine gf_X6_158 (pc := 85) dX6_best_85 ?_
            refine PW.if_ne (pc := 88) (tgt := 98) dX6_best_88 (by decide) (fun c_88 => ?_) (fun c_88 => ?_)
            · rw [g2.fit2] at c_88
              refine PW.st rfl rfl rfl (next u_78 (bestF (bestP M n) (prM M n) k) (hF.tr g1) ⟨_, or_lt ht (by omega), g2⟩ ?_)
              rw [bestF, if_neg]
              rintro ⟨-, q, -⟩
              simp [bestP, c_88] at q
            · rw [g2.fit2] at c_88
              refine PW.iload (pc := 91) dX6_best_91 rfl ?_
              refine PW.istore_n (pc := 93) (i := 3) dX6_best_93 rfl (by decide) rfl ?_
              refine PW.iload (pc := 94) dX6_best_94 rfl ?_
              refine PW.istore (pc := 96) dX6_best_96 (by decide) rfl ?_
              refine PW.st rfl rfl rfl (next u_78 k (hF.tr g1) ⟨_, or_lt ht (by omega), g2⟩ ?_)
              rw [bestF, if_pos ⟨by omega, by simp [bestP, c_88, c_60], c_67⟩]
          · refine PW.goto (pc := 70) (tgt := 98) dX6_best_70 (by decide) ?_
            refine PW.st rfl rfl rfl (next M' (bestF (bestP M n) (prM M n) k) hF ⟨s0, hs0, hL⟩ ?_)
            rw [bestF, if_neg]
            rintro ⟨-, -, q⟩
            exact c_67 q
    have h1 := loop 1 (by omega) (Nat.le_refl _) u_20 hF0 ⟨_, ht, hL0⟩
    rw [bestF_one] at h1
    refine PW.st rfl rfl ?_ h1
    rw [show prM M n 0 = nI 0 from prs_0 _ _]
    rfl
  · have hfit := xB_eq hx c_23
    rw [hL0.fit2] at hfit
    refine PW.bipush (pc := 26) (v := (-3)) dX6_best_26 (by decide) ?_
    refine PW.iret (pc := 28) hY ?_ dX6_best_28
    refine x_ri ⟨?_, hF0⟩
    rw [if_neg hfit]
/-! the dearest -/
def prN (M : xM) (n s : Nat) : Nat := nsum (fun g => if s.testBit g = true then na (M.1 11 g) else 0) n
theorem prN_le {M : xM} {n : Nat} (h : TB M n) (s : Nat) : prN M n s ≤ 1000000 := by
  have h10 := h.n10
  have := nsum_le (f := fun g => if s.testBit g = true then na (M.1 11 g) else 0) (n := n) (c := 100000) (fun j hj => by
    have := (h.2.2.1 j (by omega)).2.2.2.1.2
    split
    · exact this
    · omega)
  unfold prN
  omega
theorem prM_N {M : xM} {n : Nat} (h : TB M n) (s : Nat) : prM M n s = nI (prN M n s) := by
  have h10 := h.n10
  have : ∀ k, k ≤ n → prs (M.1 11) s k = nI (nsum (fun g => if s.testBit g = true then na (M.1 11 g) else 0) k) := by
    intro k
    induction k with
    | zero => intro _; rfl
    | succ k ih =>
      intro hk
      have hp := (h.2.2.1 k (by omega)).2.2.2.1.1
      rw [prs, nsum, ih (by omega)]
      by_cases q : s.testBit k = true
      · rw [if_pos q, if_pos q, ← nI_add, ← hp]
      · rw [if_neg q, if_neg q, Nat.add_zero]
  exact this n (Nat.le_refl _)
theorem HSn_le {M : xM} {n : Nat} (h : TB M n) (s : Nat) : HSn M n s ≤ 396 * 5000000 := by
  refine dsum_le (fun t d ht hd => ?_)
  have h1 := pp_le h ht
  have h2 := psum_le (d := d) h (fun g => s.testBit g) ht
  calc pp M t * (SU M n s t d - hh M t) ≤ 1000 * 5000 := Nat.mul_le_mul h1 (Nat.le_trans (Nat.sub_le _ _) h2)
    _ = 5000000 := rfl
theorem SU_mono {M : xM} {n s s' : Nat} (h : ∀ g, s.testBit g = true → s'.testBit g = true) (t d : Nat) : SU M n s t d ≤ SU M n s' t d := by
  refine nsum_mono (fun g _ => ?_)
  by_cases q : s.testBit g = true
  · rw [if_pos q, if_pos (h g q)]; exact Nat.le_refl _
  · rw [if_neg q]; omega
theorem HSn_mono {M : xM} {n s s' : Nat} (h : ∀ g, s.testBit g = true → s'.testBit g = true) : HSn M n s ≤ HSn M n s' :=
  dsum_mono (fun t d _ _ => Nat.mul_le_mul_left _ (Nat.sub_le_sub_right (SU_mono h t d) _))
def woM (M : xM) (n s : Nat) : Int64 := (prM M n s).toInt64 - (lN (HSn M n (TK M n ||| s)) - lN (HSn M n (TK M n)))
theorem woM_le {M : xM} {n : Nat} (h : TB M n) (s : Nat) : woM M n s ≤ (prM M n s).toInt64 := by
  have h1 := prN_le h s
  have h2 := HSn_le h (TK M n ||| s)
  have h3 : HSn M n (TK M n) ≤ HSn M n (TK M n ||| s) := HSn_mono (fun g q => by rw [Nat.testBit_or, q]; rfl)
  unfold woM
  rw [prM_N h, nI_l (by omega), lN_sub h3, Int64.le_iff_toInt_le, Int64.toInt_sub, pk_lT (by omega), pk_lT (by omega), Int.bmod_eq_of_le] <;> omega
theorem lg_gt (x y : Int64) : 0 < lg_cmp x y ↔ y < x := by
  unfold lg_cmp
  by_cases h : x > y
  · rw [if_pos h]
    exact ⟨fun _ => h, fun _ => by decide⟩
  · rw [if_neg h]
    constructor
    · intro q
      split at q <;> exact absurd q (by decide)
    · intro q; exact absurd q h
theorem i64_trans {a b c : Int64} (h1 : ¬ a < b) (h2 : c ≤ b) : ¬ a < c := by
  rw [Int64.lt_iff_toInt_lt] at *
  rw [Int64.le_iff_toInt_le] at h2
  omega
def dearP (M : xM) (n s : Nat) : Bool := decide (s &&& AS M n = s)
def dearT (M : xM) (n k : Nat) : Nat × Int64 := dearF (dearP M n) (woM M n) k
set_option maxHeartbeats 4000000 in
set_option maxRecDepth 20000 in
theorem c_X6_dearest {n : Nat} {M : xM} (hB : TB M n) : K_X6_dearest [.ref 0] M (xRi (fun x u => x = nI (dearT M n (AS M n + 1)).1 ∧ xFr M u)) := by
  refine xMet.of (own := RX6) rfl (by decide) (Nat.le_of_ble_eq_true rfl) rfl (fun Y hY => ?_)
  have hn := hB.has
  have h10 := hB.n10
  have ht := TK_lt hB
  have ha := AS_lt hB
  refine PW.aload_n (pc := 0) dX6_dearest_0 rfl ?_
  refine gf_X6_19 (pc := 1) dX6_dearest_1 ?_
  refine PW.iconst (pc := 4) (v := nI 1) dX6_dearest_4 (by decide) ?_
  refine cs_X6_110 (pc := 5) hY.rm (c_X1_setOf hn h10) ⟨Nat.le_of_ble_eq_true rfl, Nat.le_of_ble_eq_true rfl⟩ dX6_dearest_5 (Nat.le_of_ble_eq_true rfl) (fun x_5 u_5 h_5 => ?_)
  obtain ⟨rfl, hu_5⟩ := h_5
  replace hu_5 := hu_5.symm
  subst hu_5
  refine PW.istore_n (pc := 8) (i := 1) dX6_dearest_8 rfl (by decide) rfl ?_
  refine PW.aload_n (pc := 9) dX6_dearest_9 rfl ?_
  refine gf_X6_19 (pc := 10) dX6_dearest_10 ?_
  refine PW.iconst (pc := 13) (v := nI 0) dX6_dearest_13 (by decide) ?_
  refine cs_X6_110 (pc := 14) hY.rm (c_X1_setOf hn h10) ⟨Nat.le_of_ble_eq_true rfl, Nat.le_of_ble_eq_true rfl⟩ dX6_dearest_14 (Nat.le_of_ble_eq_true rfl) (fun x_14 u_14 h_14 => ?_)
  obtain ⟨rfl, hu_14⟩ := h_14
  replace hu_14 := hu_14.symm
  subst hu_14
  rw [show xset (M.1 12) (nI 1) n = TK M n from rfl, show xset (M.1 12) (nI 0) n = AS M n from rfl]
  refine PW.istore_n (pc := 17) (i := 2) dX6_dearest_17 rfl (by decide) rfl ?_
  refine PW.aload_n (pc := 18) dX6_dearest_18 rfl ?_
  refine PW.iload_n (pc := 19) dX6_dearest_19 rfl ?_
  refine cs_X6_117 (pc := 20) hY.rm (c_X6_countAnew hB ht) ⟨Nat.le_of_ble_eq_true rfl, Nat.le_of_ble_eq_true rfl⟩ dX6_dearest_20 (Nat.le_of_ble_eq_true rfl) (fun u_20 h_20 => ?_)
  refine PW.aload_n (pc := 23) dX6_dearest_23 rfl ?_
  refine gf_X6_33 (pc := 24) dX6_dearest_24 ?_
  refine gf_X6_121 (pc := 27) dX6_dearest_27 ?_
  obtain ⟨hF0, hL0⟩ := h_20
  rw [show u_20.2 20 3 = lN (HSn M n (TK M n)) from hL0.2.2.2]
  refine PW.lstore_n (pc := 30) (i := 3) dX6_dearest_30 rfl (by decide) rfl rfl ?_
  refine PW.lconst (pc := 31) (v := lN 0) dX6_dearest_31 rfl ?_
  refine PW.lstore (pc := 32) dX6_dearest_32 (by decide) rfl rfl ?_
  refine PW.iconst (pc := 34) (v := nI 0) dX6_dearest_34 (by decide) ?_
  refine PW.istore (pc := 35) dX6_dearest_35 (by decide) rfl ?_
  refine PW.iconst (pc := 37) (v := nI 1) dX6_dearest_37 (by decide) ?_
  refine PW.istore (pc := 38) dX6_dearest_38 (by decide) rfl ?_
  have loop : ∀ k, k ≤ AS M n + 1 → (1 ≤ k → ∀ M', xFr M M' → (∃ s0, s0 < 1024 ∧ LRS M' M n s0) → P_X6_dearest Y 40 [(0, .ref 0), (1, .int (nI (TK M n))), (2, .int (nI (AS M n))), (3, .long (lN (HSn M n (TK M n)))), (5, .long (dearT M n k).2), (7, .int (nI (dearT M n k).1)), (8, .int (nI k))] [] M') := by
    refine x_down ?_ ?_
    · intro _ M' hF _
      refine PW.iload (pc := 40) dX6_dearest_40 rfl ?_
      refine PW.iload_n (pc := 42) dX6_dearest_42 rfl ?_
      refine PW.icmp_gt (pc := 43) (tgt := 123) dX6_dearest_43 (by decide) (fun _ => ?_) (fun c => absurd ((nI_lt (by omega) (by omega))) c)
      refine PW.iload (pc := 123) dX6_dearest_123 rfl ?_
      refine PW.iret (pc := 125) hY ?_ dX6_dearest_125
      exact x_ri ⟨rfl, hF⟩
    · intro k hk ih hk1 M' hF hL
      obtain ⟨s0, hs0, hL⟩ := hL
      have hB' := hB.fr hF
      have next : ∀ M2 fd, xFr M M2 → (∃ s0, s0 < 1024 ∧ LRS M2 M n s0) → fd = dearT M n (k + 1) → P_X6_dearest Y 117 [(0, .ref 0), (1, .int (nI (TK M n))), (2, .int (nI (AS M n))), (3, .long (lN (HSn M n (TK M n)))), (5, .long fd.2), (7, .int (nI fd.1)), (8, .int (nI k))] [] M2 := by
        intro M2 fd g1 g2 g3
        refine PW.iinc (pc := 117) dX6_dearest_117 rfl (x_inc1 _) (by decide) rfl ?_
        refine PW.goto (pc := 120) (tgt := 40) dX6_dearest_120 (by decide) ?_
        rw [g3]
        exact PW.st rfl rfl rfl (ih (by omega) M2 g1 g2)
      refine PW.iload (pc := 40) dX6_dearest_40 rfl ?_
      refine PW.iload_n (pc := 42) dX6_dearest_42 rfl ?_
      refine PW.icmp_gt (pc := 43) (tgt := 123) dX6_dearest_43 (by decide) (fun c => absurd c ((nI_nlt (by omega) (by omega)))) (fun _ => ?_)
      refine PW.aload_n (pc := 46) dX6_dearest_46 rfl ?_
      refine gf_X6_19 (pc := 47) dX6_dearest_47 ?_
      refine PW.iload (pc := 50) dX6_dearest_50 rfl ?_
      refine cs_X6_152 (pc := 52) hY.rm (c_X1_priceOf hB'.has h10 (by omega)) ⟨Nat.le_of_ble_eq_true rfl, Nat.le_of_ble_eq_true rfl⟩ dX6_dearest_52 (Nat.le_of_ble_eq_true rfl) (fun x_52 u_52 h_52 => ?_)
      obtain ⟨rfl, hu_52⟩ := h_52
      replace hu_52 := hu_52.symm
      subst hu_52
      rw [show prs (M'.1 11) k n = prM M n k by rw [hF 11 (by decide) (by decide)]; rfl]
      refine PW.istore (pc := 55) dX6_dearest_55 (by decide) rfl ?_
      refine PW.iload (pc := 57) dX6_dearest_57 rfl ?_
      refine PW.iload_n (pc := 59) dX6_dearest_59 rfl ?_
      refine PW.iconst (pc := 60) (v := (-1)) dX6_dearest_60 (by decide) ?_
      refine PW.ixor (pc := 61) dX6_dearest_61 ?_
      refine PW.iand (pc := 62) dX6_dearest_62 ?_
      refine PW.if_ne (pc := 63) (tgt := 117) dX6_dearest_63 (by decide) (fun c_63 => ?_) (fun c_63 => ?_)
      · rw [x_sub (by omega)] at c_63
        refine PW.st rfl rfl rfl (next M' (dearT M n k) hF ⟨s0, hs0, hL⟩ ?_)
        unfold dearT
        rw [dearF, if_neg]
        rintro ⟨-, q, -⟩
        simp [dearP, c_63] at q
      · rw [x_sub (by omega)] at c_63
        refine PW.iload (pc := 66) dX6_dearest_66 rfl ?_
        refine PW.i2l (pc := 68) dX6_dearest_68 ?_
        refine PW.lload (pc := 69) dX6_dearest_69 rfl ?_
        refine PW.lcmp (pc := 71) dX6_dearest_71 ?_
        refine PW.if_gt (pc := 72) (tgt := 78) dX6_dearest_72 (by decide) (fun c_72 => ?_) (fun c_72 => ?_)
        · refine PW.aload_n (pc := 78) dX6_dearest_78 rfl ?_
          refine PW.iload_n (pc := 79) dX6_dearest_79 rfl ?_
          refine PW.iload (pc := 80) dX6_dearest_80 rfl ?_
          refine PW.ior (pc := 82) dX6_dearest_82 ?_
          rw [fa_or]
          refine cs_X6_155 (pc := 83) hY.rm (c_X6_countOn hB' (or_lt ht (by omega)) hs0 ((LRS.fr hF).mpr hL)) ⟨Nat.le_of_ble_eq_true rfl, Nat.le_of_ble_eq_true rfl⟩ dX6_dearest_83 (Nat.le_of_ble_eq_true rfl) (fun u_83 h_83 => ?_)
          refine PW.iload (pc := 86) dX6_dearest_86 rfl ?_
          refine PW.i2l (pc := 88) dX6_dearest_88 ?_
          refine PW.aload_n (pc := 89) dX6_dearest_89 rfl ?_
          refine gf_X6_33 (pc := 90) dX6_dearest_90 ?_
          refine gf_X6_121 (pc := 93) dX6_dearest_93 ?_
          obtain ⟨g1, g2⟩ := h_83
          have g2 := (LRS.fr hF).mp g2
          rw [show u_83.2 20 3 = lN (HSn M n (TK M n ||| k)) from g2.2.2.2]
          refine PW.lload_n (pc := 96) dX6_dearest_96 rfl ?_
          refine PW.lsub (pc := 97) dX6_dearest_97 ?_
          refine PW.lsub (pc := 98) dX6_dearest_98 ?_
          rw [show (prM M n k).toInt64 - (lN (HSn M n (TK M n ||| k)) - lN (HSn M n (TK M n))) = woM M n k from rfl]
          refine PW.lstore (pc := 99) dX6_dearest_99 (by decide) rfl rfl ?_
          refine PW.lload (pc := 101) dX6_dearest_101 rfl ?_
          refine PW.lload (pc := 103) dX6_dearest_103 rfl ?_
          refine PW.lcmp (pc := 105) dX6_dearest_105 ?_
          refine PW.if_le (pc := 106) (tgt := 117) dX6_dearest_106 (by decide) (fun c_106 => ?_) (fun c_106 => ?_)
          · refine PW.st rfl rfl rfl (next u_83 (dearT M n k) (hF.tr g1) ⟨_, or_lt ht (by omega), g2⟩ ?_)
            unfold dearT at c_106 ⊢
            rw [dearF, if_neg]
            rintro ⟨-, -, q⟩
            exact x_ng c_106 ((lg_gt _ _).mpr q)
          · refine PW.iload (pc := 109) dX6_dearest_109 rfl ?_
            refine PW.istore (pc := 111) dX6_dearest_111 (by decide) rfl ?_
            refine PW.lload (pc := 113) dX6_dearest_113 rfl ?_
            refine PW.lstore (pc := 115) dX6_dearest_115 (by decide) rfl rfl ?_
            refine PW.st rfl rfl rfl (next u_83 (k, woM M n k) (hF.tr g1) ⟨_, or_lt ht (by omega), g2⟩ ?_)
            unfold dearT at c_106 ⊢
            rw [dearF, if_pos ⟨by omega, by simp [dearP, c_63], (lg_gt _ _).mp (x_gt c_106)⟩]
        · refine PW.goto (pc := 75) (tgt := 117) dX6_dearest_75 (by decide) ?_
          refine PW.st rfl rfl rfl (next M' (dearT M n k) hF ⟨s0, hs0, hL⟩ ?_)
          rw [lg_gt] at c_72
          unfold dearT at c_72 ⊢
          rw [dearF, if_neg]
          rintro ⟨-, -, q⟩
          exact i64_trans c_72 (woM_le hB k) q
  have h1 := loop 1 (by omega) (Nat.le_refl _) u_20 hF0 ⟨_, ht, hL0⟩
  unfold dearT at h1
  rw [dearF_one] at h1
  exact PW.st rfl rfl rfl h1
end
section
/-! the fewest -/
def fewP (M : xM) (n s : Nat) : Bool := decide (s &&& TK M n = s) && decide (LKn M n (TK M n &&& (1023 ^^^ s)) = 0)
def fewA (M : xM) (n s b : Nat) : Bool := decide (pcn s 10 < pcn b 10) || (decide (pcn s 10 = pcn b 10) && decide (prM M n s < prM M n b))
def fewT (M : xM) (n k : Nat) : Nat := fewF (fewP M n) (fewA M n) (TK M n) 1 k
theorem fewT_lt {M : xM} {n : Nat} (hB : TB M n) : ∀ k, 1 + k ≤ 1024 → fewT M n k < 1024
  | 0, _ => TK_lt hB
  | k + 1, h => by
    have := fewT_lt hB k (by omega)
    unfold fewT at this ⊢
    rw [fewF]
    split <;> omega
set_option maxHeartbeats 4000000 in
set_option maxRecDepth 20000 in
theorem c_X6_fewest {n : Nat} {M : xM} (hB : TB M n) : K_X6_fewest [.ref 0] M (xRi (fun x u => x = nI (if LKn M n (TK M n) = 0 then 0 else fewT M n (TK M n - 1)) ∧ xFr M u)) := by
  refine xMet.of (own := RX6) rfl (by decide) (Nat.le_of_ble_eq_true rfl) rfl (fun Y hY => ?_)
  have hn := hB.has
  have h10 := hB.n10
  have ht := TK_lt hB
  refine PW.aload_n (pc := 0) dX6_fewest_0 rfl ?_
  refine gf_X6_19 (pc := 1) dX6_fewest_1 ?_
  refine PW.iconst (pc := 4) (v := nI 1) dX6_fewest_4 (by decide) ?_
  refine cs_X6_110 (pc := 5) hY.rm (c_X1_setOf hn h10) ⟨Nat.le_of_ble_eq_true rfl, Nat.le_of_ble_eq_true rfl⟩ dX6_fewest_5 (Nat.le_of_ble_eq_true rfl) (fun x_5 u_5 h_5 => ?_)
  obtain ⟨rfl, hu_5⟩ := h_5
  replace hu_5 := hu_5.symm
  subst hu_5
  rw [show xset (M.1 12) (nI 1) n = TK M n from rfl]
  refine PW.istore_n (pc := 8) (i := 1) dX6_fewest_8 rfl (by decide) rfl ?_
  refine PW.aload_n (pc := 9) dX6_fewest_9 rfl ?_
  refine PW.iload_n (pc := 10) dX6_fewest_10 rfl ?_
  refine cs_X6_114 (pc := 11) hY.rm (c_X6_goTogether hB ht) ⟨Nat.le_of_ble_eq_true rfl, Nat.le_of_ble_eq_true rfl⟩ dX6_fewest_11 (Nat.le_of_ble_eq_true rfl) (fun x_11 u_11 h_11 => ?_)
  obtain ⟨hx, hF0, hL0⟩ := h_11
  refine PW.if_eq (pc := 14) (tgt := 19) dX6_fewest_14 (by decide) (fun c_14 => ?_) (fun c_14 => ?_)
  · have hfit := xB_eq hx c_14
    rw [hL0.fit2] at hfit
    have ht0 : TK M n ≠ 0 := by
      intro q
      refine hfit (dsum_eq0.mpr (fun t d _ _ => ?_))
      rw [q, SU_zero]; simp
    have hB0 := hB.fr hF0
    refine PW.iload_n (pc := 19) dX6_fewest_19 rfl ?_
    refine PW.istore_n (pc := 20) (i := 2) dX6_fewest_20 rfl (by decide) rfl ?_
    refine PW.iload_n (pc := 21) dX6_fewest_21 rfl ?_
    refine cs_X6_163 (pc := 22) hY.rm (c_J6_bitCount_0f7a4 ht) ⟨Nat.le_of_ble_eq_true rfl, Nat.le_of_ble_eq_true rfl⟩ dX6_fewest_22 (Nat.le_of_ble_eq_true rfl) (fun x_22 u_22 h_22 => ?_)
    obtain ⟨rfl, hu_22⟩ := h_22
    replace hu_22 := hu_22.symm
    subst hu_22
    refine PW.istore_n (pc := 25) (i := 3) dX6_fewest_25 rfl (by decide) rfl ?_
    refine PW.aload_n (pc := 26) dX6_fewest_26 rfl ?_
    refine gf_X6_19 (pc := 27) dX6_fewest_27 ?_
    refine PW.iload_n (pc := 30) dX6_fewest_30 rfl ?_
    refine cs_X6_152 (pc := 31) hY.rm (c_X1_priceOf hB0.has h10 (by omega)) ⟨Nat.le_of_ble_eq_true rfl, Nat.le_of_ble_eq_true rfl⟩ dX6_fewest_31 (Nat.le_of_ble_eq_true rfl) (fun x_31 u_31 h_31 => ?_)
    obtain ⟨rfl, hu_31⟩ := h_31
    replace hu_31 := hu_31.symm
    subst hu_31
    rw [show prs (u_11.1 11) (TK M n) n = prM M n (TK M n) by rw [hF0 11 (by decide) (by decide)]; rfl]
    refine PW.istore (pc := 34) dX6_fewest_34 (by decide) rfl ?_
    refine PW.iconst (pc := 36) (v := nI 1) dX6_fewest_36 (by decide) ?_
    refine PW.istore (pc := 37) dX6_fewest_37 (by decide) rfl ?_
    have loop : ∀ k, k ≤ TK M n - 1 → (∀ M', xFr M M' → (∃ s0, s0 < 1024 ∧ LRS M' M n s0) → P_X6_fewest Y 39 [(0, .ref 0), (1, .int (nI (TK M n))), (2, .int (nI (fewT M n k))), (3, .int (nI (pcn (fewT M n k) 10))), (4, .int (prM M n (fewT M n k))), (5, .int (nI (1 + k)))] [] M') := by
      refine x_down ?_ ?_
      · intro M' hF _
        refine PW.iload (pc := 39) dX6_fewest_39 rfl ?_
        refine PW.iload_n (pc := 41) dX6_fewest_41 rfl ?_
        refine PW.icmp_ge (pc := 42) (tgt := 130) dX6_fewest_42 (by decide) (fun _ => ?_) (fun c => absurd ((by rw [show 1 + (TK M n - 1) = TK M n by omega]; exact nI_le (Nat.le_refl _) (by omega))) c)
        refine PW.iload_n (pc := 130) dX6_fewest_130 rfl ?_
        refine PW.iret (pc := 131) hY ?_ dX6_fewest_131
        refine x_ri ⟨?_, hF⟩
        rw [if_neg hfit]
      · intro k hk ih M' hF hL
        obtain ⟨s0, hs0, hL⟩ := hL
        have hB' := hB.fr hF
        have hfl := fewT_lt hB k (by omega)
        have next : ∀ M2 fd, xFr M M2 → (∃ s0, s0 < 1024 ∧ LRS M2 M n s0) → fd = fewT M n (k + 1) → P_X6_fewest Y 124 [(0, .ref 0), (1, .int (nI (TK M n))), (2, .int (nI fd)), (3, .int (nI (pcn fd 10))), (4, .int (prM M n fd)), (5, .int (nI (1 + k)))] [] M2 := by
          intro M2 fd g1 g2 g3
          refine PW.iinc (pc := 124) dX6_fewest_124 rfl (x_inc1 _) (by decide) rfl ?_
          refine PW.goto (pc := 127) (tgt := 39) dX6_fewest_127 (by decide) ?_
          rw [g3]
          exact PW.st rfl rfl rfl (ih M2 g1 g2)
        have hns : fewP M n (1 + k) = false ∨ fewA M n (1 + k) (fewT M n k) = false → fewT M n k = fewT M n (k + 1) := by
          intro q
          unfold fewT at q ⊢
          rw [fewF, if_neg]
          rintro ⟨q1, q2⟩
          rcases q with q | q
          · rw [q1] at q; cases q
          · rw [q2] at q; cases q
        have hp1 := pcn_le (1 + k) 10
        have hp2 := pcn_le (fewT M n k) 10
        refine PW.iload (pc := 39) dX6_fewest_39 rfl ?_
        refine PW.iload_n (pc := 41) dX6_fewest_41 rfl ?_
        refine PW.icmp_ge (pc := 42) (tgt := 130) dX6_fewest_42 (by decide) (fun c => absurd c ((nI_ge (by omega) (by omega)))) (fun _ => ?_)
        refine PW.iload (pc := 45) dX6_fewest_45 rfl ?_
        refine cs_X6_163 (pc := 47) hY.rm (c_J6_bitCount_0f7a4 (show 1 + k < 1024 by omega)) ⟨Nat.le_of_ble_eq_true rfl, Nat.le_of_ble_eq_true rfl⟩ dX6_fewest_47 (Nat.le_of_ble_eq_true rfl) (fun x_47 u_47 h_47 => ?_)
        obtain ⟨rfl, hu_47⟩ := h_47
        replace hu_47 := hu_47.symm
        subst hu_47
        refine PW.istore (pc := 50) dX6_fewest_50 (by decide) rfl ?_
        refine PW.aload_n (pc := 52) dX6_fewest_52 rfl ?_
        refine gf_X6_19 (pc := 53) dX6_fewest_53 ?_
        refine PW.iload (pc := 56) dX6_fewest_56 rfl ?_
        refine cs_X6_152 (pc := 58) hY.rm (c_X1_priceOf hB'.has h10 (by omega)) ⟨Nat.le_of_ble_eq_true rfl, Nat.le_of_ble_eq_true rfl⟩ dX6_fewest_58 (Nat.le_of_ble_eq_true rfl) (fun x_58 u_58 h_58 => ?_)
        obtain ⟨rfl, hu_58⟩ := h_58
        replace hu_58 := hu_58.symm
        subst hu_58
        rw [show prs (M'.1 11) (1 + k) n = prM M n (1 + k) by rw [hF 11 (by decide) (by decide)]; rfl]
        have at94 : (1 + k) &&& TK M n = 1 + k → fewA M n (1 + k) (fewT M n k) = true → P_X6_fewest Y 94 [(0, .ref 0), (1, .int (nI (TK M n))), (2, .int (nI (fewT M n k))), (3, .int (nI (pcn (fewT M n k) 10))), (4, .int (prM M n (fewT M n k))), (5, .int (nI (1 + k))), (6, .int (nI (pcn (1 + k) 10))), (7, .int (prM M n (1 + k)))] [] M' := by
          intro k1 k2
          refine PW.aload_n (pc := 94) dX6_fewest_94 rfl ?_
          refine PW.iload_n (pc := 95) dX6_fewest_95 rfl ?_
          refine PW.iload (pc := 96) dX6_fewest_96 rfl ?_
          refine PW.iconst (pc := 98) (v := (-1)) dX6_fewest_98 (by decide) ?_
          refine PW.ixor (pc := 99) dX6_fewest_99 ?_
          refine PW.iand (pc := 100) dX6_fewest_100 ?_
          rw [x_minus ht]
          refine cs_X6_155 (pc := 101) hY.rm (c_X6_countOn hB' (and_lt ht) hs0 ((LRS.fr hF).mpr hL)) ⟨Nat.le_of_ble_eq_true rfl, Nat.le_of_ble_eq_true rfl⟩ dX6_fewest_101 (Nat.le_of_ble_eq_true rfl) (fun u_101 h_101 => ?_)
          obtain ⟨g1, g2⟩ := h_101
          have g2 := (LRS.fr hF).mp g2
          refine PW.aload_n (pc := 104) dX6_fewest_104 rfl ?_
          refine gf_X6_33 (pc := 105) dX6_fewest_105 ?_
          refine gf_X6_158 (pc := 108) dX6_fewest_108 ?_
          refine PW.if_ne (pc := 111) (tgt := 124) dX6_fewest_111 (by decide) (fun c_111 => ?_) (fun c_111 => ?_)
          · rw [g2.fit2] at c_111
            refine PW.st rfl rfl rfl (next u_101 (fewT M n k) (hF.tr g1) ⟨_, and_lt ht, g2⟩ (hns (Or.inl ?_)))
            simp [fewP, c_111]
          · rw [g2.fit2] at c_111
            refine PW.iload (pc := 114) dX6_fewest_114 rfl ?_
            refine PW.istore_n (pc := 116) (i := 2) dX6_fewest_116 rfl (by decide) rfl ?_
            refine PW.iload (pc := 117) dX6_fewest_117 rfl ?_
            refine PW.istore_n (pc := 119) (i := 3) dX6_fewest_119 rfl (by decide) rfl ?_
            refine PW.iload (pc := 120) dX6_fewest_120 rfl ?_
            refine PW.istore (pc := 122) dX6_fewest_122 (by decide) rfl ?_
            refine PW.st rfl rfl rfl (next u_101 (1 + k) (hF.tr g1) ⟨_, and_lt ht, g2⟩ ?_)
            unfold fewT at k2 ⊢
            rw [fewF, if_pos ⟨by simp [fewP, k1, c_111], k2⟩]
        refine PW.istore (pc := 61) dX6_fewest_61 (by decide) rfl ?_
        refine PW.iload (pc := 63) dX6_fewest_63 rfl ?_
        refine PW.iload_n (pc := 65) dX6_fewest_65 rfl ?_
        refine PW.iconst (pc := 66) (v := (-1)) dX6_fewest_66 (by decide) ?_
        refine PW.ixor (pc := 67) dX6_fewest_67 ?_
        refine PW.iand (pc := 68) dX6_fewest_68 ?_
        refine PW.if_ne (pc := 69) (tgt := 124) dX6_fewest_69 (by decide) (fun c_69 => ?_) (fun c_69 => ?_)
        · rw [x_sub (by omega)] at c_69
          refine PW.st rfl rfl rfl (next M' (fewT M n k) hF ⟨s0, hs0, hL⟩ (hns (Or.inl ?_)))
          simp [fewP, c_69]
        · rw [x_sub (by omega)] at c_69
          refine PW.iload (pc := 72) dX6_fewest_72 rfl ?_
          refine PW.iload_n (pc := 74) dX6_fewest_74 rfl ?_
          refine PW.icmp_gt (pc := 75) (tgt := 124) dX6_fewest_75 (by decide) (fun c_75 => ?_) (fun c_75 => ?_)
          · rw [nI_ltI (by omega) (by omega)] at c_75
            refine PW.st rfl rfl rfl (next M' (fewT M n k) hF ⟨s0, hs0, hL⟩ (hns (Or.inr ?_)))
            simp [fewA]
            omega
          · rw [nI_ltI (by omega) (by omega)] at c_75
            refine PW.iload (pc := 78) dX6_fewest_78 rfl ?_
            refine PW.iload_n (pc := 80) dX6_fewest_80 rfl ?_
            refine PW.icmp_ne (pc := 81) (tgt := 94) dX6_fewest_81 (by decide) (fun c_81 => ?_) (fun c_81 => ?_)
            · rw [nI_eq (by omega) (by omega)] at c_81
              exact PW.st rfl rfl rfl (at94 c_69 (by simp [fewA]; omega))
            · rw [nI_eq (by omega) (by omega)] at c_81
              refine PW.iload (pc := 84) dX6_fewest_84 rfl ?_
              refine PW.iload (pc := 86) dX6_fewest_86 rfl ?_
              refine PW.icmp_lt (pc := 88) (tgt := 94) dX6_fewest_88 (by decide) (fun c_88 => ?_) (fun c_88 => ?_)
              · exact PW.st rfl rfl rfl (at94 c_69 (by simp [fewA, c_81, c_88]))
              · refine PW.goto (pc := 91) (tgt := 124) dX6_fewest_91 (by decide) ?_
                refine PW.st rfl rfl rfl (next M' (fewT M n k) hF ⟨s0, hs0, hL⟩ (hns (Or.inr ?_)))
                simp [fewA, c_81, c_88]
    exact PW.st rfl rfl rfl (loop 0 (by omega) u_11 hF0 ⟨_, ht, hL0⟩)
  · have hfit := (hL0.fit2).mp (xB_ne hx c_14)
    refine PW.iconst (pc := 17) (v := nI 0) dX6_fewest_17 (by decide) ?_
    refine PW.iret (pc := 18) hY ?_ dX6_fewest_18
    refine x_ri ⟨?_, hF0⟩
    rw [if_pos hfit]
end
section
/-! the class's calls: things, fields, needs, rain, what comes back -/
abbrev inr (v a b : Int32) : Prop := a ≤ v ∧ v ≤ b
abbrev isT (k : Int32) : Prop := 0 ≤ k ∧ k < nI 6
abbrev okF (f : Int32) (n : Nat) : Prop := 0 ≤ f ∧ f < nI n
theorem out_t {v a b : Int32} (c : ¬ xB (v < a ∨ b < v) = 0) : ¬ inr v a b := by
  have h := xB_ne rfl c
  rintro ⟨h1, h2⟩
  rcases h with h | h
  · exact x_ng h1 h
  · exact x_ng h2 h
theorem out_f {v a b : Int32} (c : xB (v < a ∨ b < v) = 0) : inr v a b := by
  have h := xB_eq rfl c
  exact ⟨x_ge (fun q => h (Or.inl q)), x_ge (fun q => h (Or.inr q))⟩
theorem bool_t {P : Prop} [Decidable P] (c : ¬ xB P = 0) : P := xB_ne rfl c
theorem bool_f {P : Prop} [Decidable P] (c : xB P = 0) : ¬ P := xB_eq rfl c
theorem has_t {f v : Int32} {n : Nat} (hn : v = nI n) (c : ¬ xB (0 ≤ f ∧ f < v) = 0) : okF f n := by rw [hn] at c; exact xB_ne rfl c
theorem has_f {f v : Int32} {n : Nat} (hn : v = nI n) (c : xB (0 ≤ f ∧ f < v) = 0) : ¬ okF f n := by rw [hn] at c; exact xB_eq rfl c
theorem x_pos {x : Int32} (h : 0 ≤ x) : x = nI (na x) := by
  obtain ⟨j, h1, h2⟩ := nI_of (x_ng h)
  rw [h2, na_nI h1]
theorem na_lt {x : Int32} {n : Nat} (h : 0 ≤ x) (h2 : x < nI n) (hn : n < 2 ^ 31) : na x < n := by
  obtain ⟨j, h1, rfl⟩ := nI_of (x_ng h)
  rw [na_nI h1]
  exact (nI_ltI h1 hn).mp h2
theorem na_le {x : Int32} {n : Nat} (h : 0 ≤ x) (h2 : x ≤ nI n) (hn : n < 2 ^ 31) : na x ≤ n := by
  obtain ⟨j, h1, rfl⟩ := nI_of (x_ng h)
  rw [na_nI h1]
  exact (nI_leI h1 hn).mp h2
set_option maxHeartbeats 4000000 in
set_option maxRecDepth 20000 in
theorem c_X6_thing {k ow dr we hi co : Int32} {M : xM} : K_X6_thing [.ref 0, .int k, .int ow, .int dr, .int we, .int hi, .int co] M (xRi (fun x u => if isT k ∧ inr ow (nI 0) (nI 1000) ∧ inr dr (nI 0) (nI 5) ∧ inr we (nI 1) (nI 100) ∧ inr hi (nI 0) (nI 1000) ∧ inr co (nI 0) (nI 10000) then x = nI 1 ∧ u = xup (xup (xup (xup (xup M 2 (na k) ow) 3 (na k) dr) 4 (na k) we) 5 (na k) hi) 6 (na k) co else x = (-2) ∧ u = M)) := by
  refine xMet.of (own := RX6) rfl (by decide) (Nat.le_of_ble_eq_true rfl) rfl (fun Y hY => ?_)
  have bad27 : ¬ (isT k ∧ inr ow (nI 0) (nI 1000) ∧ inr dr (nI 0) (nI 5) ∧ inr we (nI 1) (nI 100) ∧ inr hi (nI 0) (nI 1000) ∧ inr co (nI 0) (nI 10000)) → P_X6_thing Y 27 [] [] M := by
    intro h
    refine PW.bipush (pc := 27) (v := (-2)) dX6_thing_27 (by decide) ?_
    refine PW.iret (pc := 29) hY ?_ dX6_thing_29
    refine x_ri ?_
    rw [if_neg h]; exact ⟨rfl, rfl⟩
  have bad65 : ¬ (isT k ∧ inr ow (nI 0) (nI 1000) ∧ inr dr (nI 0) (nI 5) ∧ inr we (nI 1) (nI 100) ∧ inr hi (nI 0) (nI 1000) ∧ inr co (nI 0) (nI 10000)) → P_X6_thing Y 65 [] [] M := by
    intro h
    refine PW.bipush (pc := 65) (v := (-2)) dX6_thing_65 (by decide) ?_
    refine PW.iret (pc := 67) hY ?_ dX6_thing_67
    refine x_ri ?_
    rw [if_neg h]; exact ⟨rfl, rfl⟩
  refine PW.iload_n (pc := 0) dX6_thing_0 rfl ?_
  refine cs_X6_65 (pc := 1) hY.rm (c_X6_isThing) ⟨Nat.le_of_ble_eq_true rfl, Nat.le_of_ble_eq_true rfl⟩ dX6_thing_1 (Nat.le_of_ble_eq_true rfl) (fun x_1 u_1 h_1 => ?_)
  obtain ⟨rfl, hu_1⟩ := h_1
  replace hu_1 := hu_1.symm
  subst hu_1
  refine PW.if_eq (pc := 4) (tgt := 27) dX6_thing_4 (by decide) (fun c_4 => PW.st rfl rfl rfl (bad27 (fun h => bool_f c_4 h.1))) (fun c_4 => ?_)
  refine PW.iload_n (pc := 7) dX6_thing_7 rfl ?_
  refine PW.iconst (pc := 8) (v := nI 0) dX6_thing_8 (by decide) ?_
  refine PW.sipush (pc := 9) (v := nI 1000) dX6_thing_9 (by decide) ?_
  refine cs_X6_69 (pc := 12) hY.rm (c_X6_outside) ⟨Nat.le_of_ble_eq_true rfl, Nat.le_of_ble_eq_true rfl⟩ dX6_thing_12 (Nat.le_of_ble_eq_true rfl) (fun x_12 u_12 h_12 => ?_)
  obtain ⟨rfl, hu_12⟩ := h_12
  replace hu_12 := hu_12.symm
  subst hu_12
  refine PW.if_ne (pc := 15) (tgt := 27) dX6_thing_15 (by decide) (fun c_15 => PW.st rfl rfl rfl (bad27 (fun h => out_t c_15 h.2.1))) (fun c_15 => ?_)
  refine PW.iload_n (pc := 18) dX6_thing_18 rfl ?_
  refine PW.iconst (pc := 19) (v := nI 0) dX6_thing_19 (by decide) ?_
  refine PW.iconst (pc := 20) (v := nI 5) dX6_thing_20 (by decide) ?_
  refine cs_X6_69 (pc := 21) hY.rm (c_X6_outside) ⟨Nat.le_of_ble_eq_true rfl, Nat.le_of_ble_eq_true rfl⟩ dX6_thing_21 (Nat.le_of_ble_eq_true rfl) (fun x_21 u_21 h_21 => ?_)
  obtain ⟨rfl, hu_21⟩ := h_21
  replace hu_21 := hu_21.symm
  subst hu_21
  refine PW.if_eq (pc := 24) (tgt := 30) dX6_thing_24 (by decide) (fun c_24 => ?_) (fun c_24 => PW.st rfl rfl rfl (bad27 (fun h => out_t c_24 h.2.2.1)))
  refine PW.iload (pc := 30) dX6_thing_30 rfl ?_
  refine PW.iconst (pc := 32) (v := nI 1) dX6_thing_32 (by decide) ?_
  refine PW.bipush (pc := 33) (v := nI 100) dX6_thing_33 (by decide) ?_
  refine cs_X6_69 (pc := 35) hY.rm (c_X6_outside) ⟨Nat.le_of_ble_eq_true rfl, Nat.le_of_ble_eq_true rfl⟩ dX6_thing_35 (Nat.le_of_ble_eq_true rfl) (fun x_35 u_35 h_35 => ?_)
  obtain ⟨rfl, hu_35⟩ := h_35
  replace hu_35 := hu_35.symm
  subst hu_35
  refine PW.if_ne (pc := 38) (tgt := 65) dX6_thing_38 (by decide) (fun c_38 => PW.st rfl rfl rfl (bad65 (fun h => out_t c_38 h.2.2.2.1))) (fun c_38 => ?_)
  refine PW.iload (pc := 41) dX6_thing_41 rfl ?_
  refine PW.iconst (pc := 43) (v := nI 0) dX6_thing_43 (by decide) ?_
  refine PW.sipush (pc := 44) (v := nI 1000) dX6_thing_44 (by decide) ?_
  refine cs_X6_69 (pc := 47) hY.rm (c_X6_outside) ⟨Nat.le_of_ble_eq_true rfl, Nat.le_of_ble_eq_true rfl⟩ dX6_thing_47 (Nat.le_of_ble_eq_true rfl) (fun x_47 u_47 h_47 => ?_)
  obtain ⟨rfl, hu_47⟩ := h_47
  replace hu_47 := hu_47.symm
  subst hu_47
  refine PW.if_ne (pc := 50) (tgt := 65) dX6_thing_50 (by decide) (fun c_50 => PW.st rfl rfl rfl (bad65 (fun h => out_t c_50 h.2.2.2.2.1))) (fun c_50 => ?_)
  refine PW.iload (pc := 53) dX6_thing_53 rfl ?_
  refine PW.iconst (pc := 55) (v := nI 0) dX6_thing_55 (by decide) ?_
  refine PW.sipush (pc := 56) (v := nI 10000) dX6_thing_56 (by decide) ?_
  refine cs_X6_69 (pc := 59) hY.rm (c_X6_outside) ⟨Nat.le_of_ble_eq_true rfl, Nat.le_of_ble_eq_true rfl⟩ dX6_thing_59 (Nat.le_of_ble_eq_true rfl) (fun x_59 u_59 h_59 => ?_)
  obtain ⟨rfl, hu_59⟩ := h_59
  replace hu_59 := hu_59.symm
  subst hu_59
  refine PW.if_eq (pc := 62) (tgt := 68) dX6_thing_62 (by decide) (fun c_62 => ?_) (fun c_62 => PW.st rfl rfl rfl (bad65 (fun h => out_t c_62 h.2.2.2.2.2)))
  have hk := bool_t c_4
  have h1 := x_pos hk.1
  have h2 := na_lt hk.1 hk.2 (by omega)
  refine PW.aload_n (pc := 68) dX6_thing_68 rfl ?_
  refine gf_X6_12 (pc := 69) dX6_thing_69 ?_
  refine gf_X6_73 (pc := 72) dX6_thing_72 ?_
  refine PW.iload_n (pc := 75) dX6_thing_75 rfl ?_
  refine PW.iload_n (pc := 76) dX6_thing_76 rfl ?_
  refine PW.iastN (pc := 77) rfl h1 h2 (by decide) dX6_thing_77 ?_
  refine PW.aload_n (pc := 78) dX6_thing_78 rfl ?_
  refine gf_X6_12 (pc := 79) dX6_thing_79 ?_
  refine gf_X6_76 (pc := 82) dX6_thing_82 ?_
  refine PW.iload_n (pc := 85) dX6_thing_85 rfl ?_
  refine PW.iload_n (pc := 86) dX6_thing_86 rfl ?_
  refine PW.iastN (pc := 87) rfl h1 h2 (by decide) dX6_thing_87 ?_
  refine PW.aload_n (pc := 88) dX6_thing_88 rfl ?_
  refine gf_X6_12 (pc := 89) dX6_thing_89 ?_
  refine gf_X6_79 (pc := 92) dX6_thing_92 ?_
  refine PW.iload_n (pc := 95) dX6_thing_95 rfl ?_
  refine PW.iload (pc := 96) dX6_thing_96 rfl ?_
  refine PW.iastN (pc := 98) rfl h1 h2 (by decide) dX6_thing_98 ?_
  refine PW.aload_n (pc := 99) dX6_thing_99 rfl ?_
  refine gf_X6_12 (pc := 100) dX6_thing_100 ?_
  refine gf_X6_82 (pc := 103) dX6_thing_103 ?_
  refine PW.iload_n (pc := 106) dX6_thing_106 rfl ?_
  refine PW.iload (pc := 107) dX6_thing_107 rfl ?_
  refine PW.iastN (pc := 109) rfl h1 h2 (by decide) dX6_thing_109 ?_
  refine PW.aload_n (pc := 110) dX6_thing_110 rfl ?_
  refine gf_X6_12 (pc := 111) dX6_thing_111 ?_
  refine gf_X6_85 (pc := 114) dX6_thing_114 ?_
  refine PW.iload_n (pc := 117) dX6_thing_117 rfl ?_
  refine PW.iload (pc := 118) dX6_thing_118 rfl ?_
  refine PW.iastN (pc := 120) rfl h1 h2 (by decide) dX6_thing_120 ?_
  refine PW.iconst (pc := 121) (v := nI 1) dX6_thing_121 (by decide) ?_
  refine PW.iret (pc := 122) hY ?_ dX6_thing_122
  refine x_ri ?_
  rw [if_pos ⟨hk, out_f c_15, out_f c_24, out_f c_38, out_f c_50, out_f c_62⟩]
  exact ⟨rfl, rfl⟩
set_option maxHeartbeats 4000000 in
set_option maxRecDepth 20000 in
theorem c_X6_field {a b v : Int32} {n : Nat} {M : xM} (hn : M.1 8 9 = nI n) (h10 : n ≤ 10) : K_X6_field [.ref 0, .int a, .int b, .int v] M (xRi (fun x u => if inr a (nI 0) (nI 60) ∧ inr b a (nI 60) ∧ inr v (nI 0) (nI 100000) then (if n < 10 then x = nI n ∧ u = xup (xup (xup (xup M 9 n a) 10 n b) 11 n v) 8 9 (nI (n + 1)) else x = (-4) ∧ u = M) else x = (-2) ∧ u = M)) := by
  refine xMet.of (own := RX6) rfl (by decide) (Nat.le_of_ble_eq_true rfl) rfl (fun Y hY => ?_)
  have bad30 : ¬ (inr a (nI 0) (nI 60) ∧ inr b a (nI 60) ∧ inr v (nI 0) (nI 100000)) → P_X6_field Y 30 [] [] M := by
    intro h
    refine PW.bipush (pc := 30) (v := (-2)) dX6_field_30 (by decide) ?_
    refine PW.iret (pc := 32) hY ?_ dX6_field_32
    refine x_ri ?_
    rw [if_neg h]; exact ⟨rfl, rfl⟩
  refine PW.iload_n (pc := 0) dX6_field_0 rfl ?_
  refine PW.iconst (pc := 1) (v := nI 0) dX6_field_1 (by decide) ?_
  refine PW.bipush (pc := 2) (v := nI 60) dX6_field_2 (by decide) ?_
  refine cs_X6_69 (pc := 4) hY.rm (c_X6_outside) ⟨Nat.le_of_ble_eq_true rfl, Nat.le_of_ble_eq_true rfl⟩ dX6_field_4 (Nat.le_of_ble_eq_true rfl) (fun x_4 u_4 h_4 => ?_)
  obtain ⟨rfl, hu_4⟩ := h_4
  replace hu_4 := hu_4.symm
  subst hu_4
  refine PW.if_ne (pc := 7) (tgt := 30) dX6_field_7 (by decide) (fun c_7 => PW.st rfl rfl rfl (bad30 (fun h => out_t c_7 h.1))) (fun c_7 => ?_)
  refine PW.iload_n (pc := 10) dX6_field_10 rfl ?_
  refine PW.iload_n (pc := 11) dX6_field_11 rfl ?_
  refine PW.bipush (pc := 12) (v := nI 60) dX6_field_12 (by decide) ?_
  refine cs_X6_69 (pc := 14) hY.rm (c_X6_outside) ⟨Nat.le_of_ble_eq_true rfl, Nat.le_of_ble_eq_true rfl⟩ dX6_field_14 (Nat.le_of_ble_eq_true rfl) (fun x_14 u_14 h_14 => ?_)
  obtain ⟨rfl, hu_14⟩ := h_14
  replace hu_14 := hu_14.symm
  subst hu_14
  refine PW.if_ne (pc := 17) (tgt := 30) dX6_field_17 (by decide) (fun c_17 => PW.st rfl rfl rfl (bad30 (fun h => out_t c_17 h.2.1))) (fun c_17 => ?_)
  refine PW.iload_n (pc := 20) dX6_field_20 rfl ?_
  refine PW.iconst (pc := 21) (v := nI 0) dX6_field_21 (by decide) ?_
  refine PW.ldc (pc := 22) (v := nI 100000) (by decide +kernel) dX6_field_22 ?_
  refine cs_X6_69 (pc := 24) hY.rm (c_X6_outside) ⟨Nat.le_of_ble_eq_true rfl, Nat.le_of_ble_eq_true rfl⟩ dX6_field_24 (Nat.le_of_ble_eq_true rfl) (fun x_24 u_24 h_24 => ?_)
  obtain ⟨rfl, hu_24⟩ := h_24
  replace hu_24 := hu_24.symm
  subst hu_24
  refine PW.if_eq (pc := 27) (tgt := 33) dX6_field_27 (by decide) (fun c_27 => ?_) (fun c_27 => PW.st rfl rfl rfl (bad30 (fun h => out_t c_27 h.2.2)))
  refine PW.aload_n (pc := 33) dX6_field_33 rfl ?_
  refine gf_X6_19 (pc := 34) dX6_field_34 ?_
  refine PW.iload_n (pc := 37) dX6_field_37 rfl ?_
  refine PW.iload_n (pc := 38) dX6_field_38 rfl ?_
  refine PW.iload_n (pc := 39) dX6_field_39 rfl ?_
  refine cs_X6_89 (pc := 40) hY.rm (c_X1_ask hn h10) ⟨Nat.le_of_ble_eq_true rfl, Nat.le_of_ble_eq_true rfl⟩ dX6_field_40 (Nat.le_of_ble_eq_true rfl) (fun x_40 u_40 h_40 => ?_)
  refine PW.iret (pc := 43) hY ?_ dX6_field_43
  refine x_ri ?_
  rw [if_pos ⟨out_f c_7, out_f c_17, out_f c_27⟩]
  exact h_40
set_option maxHeartbeats 4000000 in
set_option maxRecDepth 20000 in
theorem c_X6_need {f k v : Int32} {n : Nat} {M : xM} (hn : M.1 8 9 = nI n) (h10 : n ≤ 10) : K_X6_need [.ref 0, .int f, .int k, .int v] M (xRi (fun x u => if okF f n ∧ isT k ∧ inr v (nI 0) (nI 500) then (if M.1 12 (na f) = 0 then x = M.1 16 (na f * 6 + na k) ∧ u = xup M 16 (na f * 6 + na k) v else x = (-3) ∧ u = M) else x = (-2) ∧ u = M)) := by
  refine xMet.of (own := RX6) rfl (by decide) (Nat.le_of_ble_eq_true rfl) rfl (fun Y hY => ?_)
  have bad29 : ¬ (okF f n ∧ isT k ∧ inr v (nI 0) (nI 500)) → P_X6_need Y 29 [] [] M := by
    intro h
    refine PW.bipush (pc := 29) (v := (-2)) dX6_need_29 (by decide) ?_
    refine PW.iret (pc := 31) hY ?_ dX6_need_31
    refine x_ri ?_
    rw [if_neg h]; exact ⟨rfl, rfl⟩
  refine PW.aload_n (pc := 0) dX6_need_0 rfl ?_
  refine gf_X6_19 (pc := 1) dX6_need_1 ?_
  refine PW.iload_n (pc := 4) dX6_need_4 rfl ?_
  refine cs_X6_93 (pc := 5) hY.rm (c_X1_has) ⟨Nat.le_of_ble_eq_true rfl, Nat.le_of_ble_eq_true rfl⟩ dX6_need_5 (Nat.le_of_ble_eq_true rfl) (fun x_5 u_5 h_5 => ?_)
  obtain ⟨rfl, hu_5⟩ := h_5
  replace hu_5 := hu_5.symm
  subst hu_5
  refine PW.if_eq (pc := 8) (tgt := 29) dX6_need_8 (by decide) (fun c_8 => PW.st rfl rfl rfl (bad29 (fun h => has_f hn c_8 h.1))) (fun c_8 => ?_)
  refine PW.iload_n (pc := 11) dX6_need_11 rfl ?_
  refine cs_X6_65 (pc := 12) hY.rm (c_X6_isThing) ⟨Nat.le_of_ble_eq_true rfl, Nat.le_of_ble_eq_true rfl⟩ dX6_need_12 (Nat.le_of_ble_eq_true rfl) (fun x_12 u_12 h_12 => ?_)
  obtain ⟨rfl, hu_12⟩ := h_12
  replace hu_12 := hu_12.symm
  subst hu_12
  refine PW.if_eq (pc := 15) (tgt := 29) dX6_need_15 (by decide) (fun c_15 => PW.st rfl rfl rfl (bad29 (fun h => bool_f c_15 h.2.1))) (fun c_15 => ?_)
  refine PW.iload_n (pc := 18) dX6_need_18 rfl ?_
  refine PW.iconst (pc := 19) (v := nI 0) dX6_need_19 (by decide) ?_
  refine PW.sipush (pc := 20) (v := nI 500) dX6_need_20 (by decide) ?_
  refine cs_X6_69 (pc := 23) hY.rm (c_X6_outside) ⟨Nat.le_of_ble_eq_true rfl, Nat.le_of_ble_eq_true rfl⟩ dX6_need_23 (Nat.le_of_ble_eq_true rfl) (fun x_23 u_23 h_23 => ?_)
  obtain ⟨rfl, hu_23⟩ := h_23
  replace hu_23 := hu_23.symm
  subst hu_23
  refine PW.if_eq (pc := 26) (tgt := 32) dX6_need_26 (by decide) (fun c_26 => ?_) (fun c_26 => PW.st rfl rfl rfl (bad29 (fun h => out_t c_26 h.2.2)))
  have hf := has_t hn c_8
  have hk := bool_t c_15
  have f1 := x_pos hf.1
  have f2 := na_lt hf.1 hf.2 (by omega)
  have k1 := x_pos hk.1
  have k2 := na_lt hk.1 hk.2 (by omega)
  have G : okF f n ∧ isT k ∧ inr v (nI 0) (nI 500) := ⟨hf, hk, out_f c_26⟩
  clear bad29 c_8 c_15 c_26
  revert f1 k1
  generalize na f = fN at *
  generalize na k = kN at *
  intro f1 k1
  refine PW.aload_n (pc := 32) dX6_need_32 rfl ?_
  refine gf_X6_19 (pc := 33) dX6_need_33 ?_
  refine gf_X6_96 (pc := 36) dX6_need_36 ?_
  refine PW.iload_n (pc := 39) dX6_need_39 rfl ?_
  refine PW.ialdN (pc := 40) rfl f1 (by omega) (by decide) dX6_need_40 ?_
  refine PW.if_eq (pc := 41) (tgt := 47) dX6_need_41 (by decide) (fun c_41 => ?_) (fun c_41 => ?_)
  · subst f1
    subst k1
    refine PW.aload_n (pc := 47) dX6_need_47 rfl ?_
    refine gf_X6_19 (pc := 48) dX6_need_48 ?_
    refine gf_X6_99 (pc := 51) dX6_need_51 ?_
    refine PW.iload_n (pc := 54) dX6_need_54 rfl ?_
    refine PW.iload_n (pc := 55) dX6_need_55 rfl ?_
    refine cs_X6_102 (pc := 56) hY.rm (c_X6_cell) ⟨Nat.le_of_ble_eq_true rfl, Nat.le_of_ble_eq_true rfl⟩ dX6_need_56 (Nat.le_of_ble_eq_true rfl) (fun x_56 u_56 h_56 => ?_)
    obtain ⟨rfl, hu_56⟩ := h_56
    replace hu_56 := hu_56.symm
    subst hu_56
    refine PW.ialdN (pc := 59) rfl rfl (by omega) (by decide) dX6_need_59 ?_
    refine PW.istore (pc := 60) dX6_need_60 (by decide) rfl ?_
    refine PW.aload_n (pc := 62) dX6_need_62 rfl ?_
    refine gf_X6_19 (pc := 63) dX6_need_63 ?_
    refine gf_X6_99 (pc := 66) dX6_need_66 ?_
    refine PW.iload_n (pc := 69) dX6_need_69 rfl ?_
    refine PW.iload_n (pc := 70) dX6_need_70 rfl ?_
    refine cs_X6_102 (pc := 71) hY.rm (c_X6_cell) ⟨Nat.le_of_ble_eq_true rfl, Nat.le_of_ble_eq_true rfl⟩ dX6_need_71 (Nat.le_of_ble_eq_true rfl) (fun x_71 u_71 h_71 => ?_)
    obtain ⟨rfl, hu_71⟩ := h_71
    replace hu_71 := hu_71.symm
    subst hu_71
    refine PW.iload_n (pc := 74) dX6_need_74 rfl ?_
    refine PW.iastN (pc := 75) rfl rfl (by omega) (by decide) dX6_need_75 ?_
    refine PW.iload (pc := 76) dX6_need_76 rfl ?_
    refine PW.iret (pc := 78) hY ?_ dX6_need_78
    refine x_ri ?_
    rw [if_pos G, if_pos c_41]
    exact ⟨rfl, rfl⟩
  · refine PW.bipush (pc := 44) (v := (-3)) dX6_need_44 (by decide) ?_
    refine PW.iret (pc := 46) hY ?_ dX6_need_46
    refine x_ri ?_
    rw [if_pos G, if_neg c_41]
    exact ⟨rfl, rfl⟩
end
section
/-! the class's calls, more -/
theorem okF_nat {f : Int32} {n : Nat} (h : okF f n) (h10 : n ≤ 10) : f = nI (na f) ∧ na f < n := ⟨x_pos h.1, na_lt h.1 h.2 (by omega)⟩
set_option maxHeartbeats 4000000 in
set_option maxRecDepth 20000 in
theorem c_X6_rain {d b : Int32} {M : xM} (hb : b = 0 ∨ b = 1) : K_X6_rain [.ref 0, .int d, .int b] M (xRi (fun x u => if inr d (nI 0) (nI 60) then x = nI 1 ∧ u = (if M.1 19 (na d) = b then M else xup (xup M 19 (na d) b) 18 1 (M.1 18 1 + (if b = 0 then (-1) else nI 1))) else x = (-2) ∧ u = M)) := by
  refine xMet.of (own := RX6) rfl (by decide) (Nat.le_of_ble_eq_true rfl) rfl (fun Y hY => ?_)
  have bad : ¬ inr d (nI 0) (nI 60) → P_X6_rain Y 10 [] [] M := by
    intro h
    refine PW.bipush (pc := 10) (v := (-2)) dX6_rain_10 (by decide) ?_
    refine PW.iret (pc := 12) hY ?_ dX6_rain_12
    refine x_ri ?_
    rw [if_neg h]; exact ⟨rfl, rfl⟩
  refine PW.iload_n (pc := 0) dX6_rain_0 rfl ?_
  refine PW.iconst (pc := 1) (v := nI 0) dX6_rain_1 (by decide) ?_
  refine PW.bipush (pc := 2) (v := nI 60) dX6_rain_2 (by decide) ?_
  refine cs_X6_69 (pc := 4) hY.rm (c_X6_outside) ⟨Nat.le_of_ble_eq_true rfl, Nat.le_of_ble_eq_true rfl⟩ dX6_rain_4 (Nat.le_of_ble_eq_true rfl) (fun x_4 u_4 h_4 => ?_)
  obtain ⟨rfl, hu_4⟩ := h_4
  replace hu_4 := hu_4.symm
  subst hu_4
  refine PW.if_eq (pc := 7) (tgt := 13) dX6_rain_7 (by decide) (fun c_7 => ?_) (fun c_7 => PW.st rfl rfl rfl (bad (out_t c_7)))
  have G := out_f c_7
  have d1 := x_pos G.1
  have d2 := na_le G.1 G.2 (by omega)
  clear c_7 bad
  revert d1 d2
  generalize na d = dN at *
  intro d1 d2
  subst d1
  refine PW.aload_n (pc := 13) dX6_rain_13 rfl ?_
  refine gf_X6_26 (pc := 14) dX6_rain_14 ?_
  refine PW.iload_n (pc := 17) dX6_rain_17 rfl ?_
  refine PW.iload_n (pc := 18) dX6_rain_18 rfl ?_
  refine cs_X6_106 (pc := 19) hY.rm (c_X4_tell d2 hb) ⟨Nat.le_of_ble_eq_true rfl, Nat.le_of_ble_eq_true rfl⟩ dX6_rain_19 (Nat.le_of_ble_eq_true rfl) (fun u_19 h_19 => ?_)
  refine PW.iconst (pc := 22) (v := nI 1) dX6_rain_22 (by decide) ?_
  refine PW.iret (pc := 23) hY ?_ dX6_rain_23
  refine x_ri ?_
  rw [if_pos G]
  exact ⟨rfl, h_19⟩
set_option maxHeartbeats 4000000 in
set_option maxRecDepth 20000 in
theorem c_X6_giveUp {f : Int32} {n : Nat} {M : xM} (hn : M.1 8 9 = nI n) (h10 : n ≤ 10) : K_X6_giveUp [.ref 0, .int f] M (xRi (fun x u => if okF f n then (if M.1 12 (na f) = 0 ∨ M.1 12 (na f) = nI 1 then x = nI 1 ∧ u = xup M 12 (na f) (nI 2) else x = (-3) ∧ u = M) else x = (-2) ∧ u = M)) := by
  refine xMet.of (own := RX6) rfl (by decide) (Nat.le_of_ble_eq_true rfl) rfl (fun Y hY => ?_)
  have bad : ¬ okF f n → P_X6_giveUp Y 11 [] [] M := by
    intro h
    refine PW.bipush (pc := 11) (v := (-2)) dX6_giveUp_11 (by decide) ?_
    refine PW.iret (pc := 13) hY ?_ dX6_giveUp_13
    refine x_ri ?_
    rw [if_neg h]; exact ⟨rfl, rfl⟩
  refine PW.aload_n (pc := 0) dX6_giveUp_0 rfl ?_
  refine gf_X6_19 (pc := 1) dX6_giveUp_1 ?_
  refine PW.iload_n (pc := 4) dX6_giveUp_4 rfl ?_
  refine cs_X6_93 (pc := 5) hY.rm (c_X1_has) ⟨Nat.le_of_ble_eq_true rfl, Nat.le_of_ble_eq_true rfl⟩ dX6_giveUp_5 (Nat.le_of_ble_eq_true rfl) (fun x_5 u_5 h_5 => ?_)
  obtain ⟨rfl, hu_5⟩ := h_5
  replace hu_5 := hu_5.symm
  subst hu_5
  refine PW.if_ne (pc := 8) (tgt := 14) dX6_giveUp_8 (by decide) (fun c_8 => ?_) (fun c_8 => PW.st rfl rfl rfl (bad (has_f hn c_8)))
  have G := has_t hn c_8
  obtain ⟨f1, f2⟩ := okF_nat G h10
  clear c_8 bad
  revert f1 f2
  generalize na f = fN at *
  intro f1 f2
  subst f1
  have good : (M.1 12 fN = 0 ∨ M.1 12 fN = nI 1) → P_X6_giveUp Y 42 [(0, .ref 0), (1, .int (nI fN))] [] M := by
    intro h
    refine PW.aload_n (pc := 42) dX6_giveUp_42 rfl ?_
    refine gf_X6_19 (pc := 43) dX6_giveUp_43 ?_
    refine gf_X6_96 (pc := 46) dX6_giveUp_46 ?_
    refine PW.iload_n (pc := 49) dX6_giveUp_49 rfl ?_
    refine PW.iconst (pc := 50) (v := nI 2) dX6_giveUp_50 (by decide) ?_
    refine PW.iastN (pc := 51) rfl rfl (by omega) (by decide) dX6_giveUp_51 ?_
    refine PW.iconst (pc := 52) (v := nI 1) dX6_giveUp_52 (by decide) ?_
    refine PW.iret (pc := 53) hY ?_ dX6_giveUp_53
    refine x_ri ?_
    rw [if_pos G, if_pos h]
    exact ⟨rfl, rfl⟩
  refine PW.aload_n (pc := 14) dX6_giveUp_14 rfl ?_
  refine gf_X6_19 (pc := 15) dX6_giveUp_15 ?_
  refine gf_X6_96 (pc := 18) dX6_giveUp_18 ?_
  refine PW.iload_n (pc := 21) dX6_giveUp_21 rfl ?_
  refine PW.ialdN (pc := 22) rfl rfl (by omega) (by decide) dX6_giveUp_22 ?_
  refine PW.if_eq (pc := 23) (tgt := 42) dX6_giveUp_23 (by decide) (fun c_23 => ?_) (fun c_23 => ?_)
  · exact PW.st rfl rfl rfl (good (Or.inl c_23))
  · refine PW.aload_n (pc := 26) dX6_giveUp_26 rfl ?_
    refine gf_X6_19 (pc := 27) dX6_giveUp_27 ?_
    refine gf_X6_96 (pc := 30) dX6_giveUp_30 ?_
    refine PW.iload_n (pc := 33) dX6_giveUp_33 rfl ?_
    refine PW.ialdN (pc := 34) rfl rfl (by omega) (by decide) dX6_giveUp_34 ?_
    refine PW.iconst (pc := 35) (v := nI 1) dX6_giveUp_35 (by decide) ?_
    refine PW.icmp_eq (pc := 36) (tgt := 42) dX6_giveUp_36 (by decide) (fun c_36 => ?_) (fun c_36 => ?_)
    · exact PW.st rfl rfl rfl (good (Or.inr c_36))
    · refine PW.bipush (pc := 39) (v := (-3)) dX6_giveUp_39 (by decide) ?_
      refine PW.iret (pc := 41) hY ?_ dX6_giveUp_41
      refine x_ri ?_
      rw [if_pos G, if_neg (fun q => q.elim c_23 c_36)]
      exact ⟨rfl, rfl⟩
set_option maxHeartbeats 4000000 in
set_option maxRecDepth 20000 in
theorem c_X6_back {f : Int32} {n : Nat} {M : xM} (hn : M.1 8 9 = nI n) (h10 : n ≤ 10) : K_X6_back [.ref 0, .int f] M (xRi (fun x u => if okF f n then (if M.1 12 (na f) = nI 1 then x = nI 1 ∧ u = xup M 12 (na f) (nI 3) else x = (-3) ∧ u = M) else x = (-2) ∧ u = M)) := by
  refine xMet.of (own := RX6) rfl (by decide) (Nat.le_of_ble_eq_true rfl) rfl (fun Y hY => ?_)
  have bad : ¬ okF f n → P_X6_back Y 11 [] [] M := by
    intro h
    refine PW.bipush (pc := 11) (v := (-2)) dX6_back_11 (by decide) ?_
    refine PW.iret (pc := 13) hY ?_ dX6_back_13
    refine x_ri ?_
    rw [if_neg h]; exact ⟨rfl, rfl⟩
  refine PW.aload_n (pc := 0) dX6_back_0 rfl ?_
  refine gf_X6_19 (pc := 1) dX6_back_1 ?_
  refine PW.iload_n (pc := 4) dX6_back_4 rfl ?_
  refine cs_X6_93 (pc := 5) hY.rm (c_X1_has) ⟨Nat.le_of_ble_eq_true rfl, Nat.le_of_ble_eq_true rfl⟩ dX6_back_5 (Nat.le_of_ble_eq_true rfl) (fun x_5 u_5 h_5 => ?_)
  obtain ⟨rfl, hu_5⟩ := h_5
  replace hu_5 := hu_5.symm
  subst hu_5
  refine PW.if_ne (pc := 8) (tgt := 14) dX6_back_8 (by decide) (fun c_8 => ?_) (fun c_8 => PW.st rfl rfl rfl (bad (has_f hn c_8)))
  have G := has_t hn c_8
  obtain ⟨f1, f2⟩ := okF_nat G h10
  clear c_8 bad
  revert f1 f2
  generalize na f = fN at *
  intro f1 f2
  subst f1
  refine PW.aload_n (pc := 14) dX6_back_14 rfl ?_
  refine gf_X6_19 (pc := 15) dX6_back_15 ?_
  refine gf_X6_96 (pc := 18) dX6_back_18 ?_
  refine PW.iload_n (pc := 21) dX6_back_21 rfl ?_
  refine PW.ialdN (pc := 22) rfl rfl (by omega) (by decide) dX6_back_22 ?_
  refine PW.iconst (pc := 23) (v := nI 1) dX6_back_23 (by decide) ?_
  refine PW.icmp_eq (pc := 24) (tgt := 30) dX6_back_24 (by decide) (fun c_24 => ?_) (fun c_24 => ?_)
  · refine PW.aload_n (pc := 30) dX6_back_30 rfl ?_
    refine gf_X6_19 (pc := 31) dX6_back_31 ?_
    refine gf_X6_96 (pc := 34) dX6_back_34 ?_
    refine PW.iload_n (pc := 37) dX6_back_37 rfl ?_
    refine PW.iconst (pc := 38) (v := nI 3) dX6_back_38 (by decide) ?_
    refine PW.iastN (pc := 39) rfl rfl (by omega) (by decide) dX6_back_39 ?_
    refine PW.iconst (pc := 40) (v := nI 1) dX6_back_40 (by decide) ?_
    refine PW.iret (pc := 41) hY ?_ dX6_back_41
    refine x_ri ?_
    rw [if_pos G, if_pos c_24]
    exact ⟨rfl, rfl⟩
  · refine PW.bipush (pc := 27) (v := (-3)) dX6_back_27 (by decide) ?_
    refine PW.iret (pc := 29) hY ?_ dX6_back_29
    refine x_ri ?_
    rw [if_pos G, if_neg c_24]
    exact ⟨rfl, rfl⟩
set_option maxHeartbeats 4000000 in
set_option maxRecDepth 20000 in
theorem c_X6_missing {f k v : Int32} {n : Nat} {M : xM} (hn : M.1 8 9 = nI n) (h10 : n ≤ 10) : K_X6_missing [.ref 0, .int f, .int k, .int v] M (xRi (fun x u => if okF f n ∧ isT k ∧ inr v (nI 0) (M.1 16 (na f * 6 + na k)) then (if M.1 12 (na f) = nI 3 ∧ M.1 17 (na f * 6 + na k) = 0 then x = M.1 6 (na k) * v ∧ u = xup (xup (xup M 17 (na f * 6 + na k) (nI 1)) 7 (na k) (M.1 7 (na k) + v)) 0 7 (M.1 0 7 + M.1 6 (na k) * v) else x = (-3) ∧ u = M) else x = (-2) ∧ u = M)) := by
  refine xMet.of (own := RX6) rfl (by decide) (Nat.le_of_ble_eq_true rfl) rfl (fun Y hY => ?_)
  have bad : ¬ (okF f n ∧ isT k ∧ inr v (nI 0) (M.1 16 (na f * 6 + na k))) → P_X6_missing Y 39 [] [] M := by
    intro h
    refine PW.bipush (pc := 39) (v := (-2)) dX6_missing_39 (by decide) ?_
    refine PW.iret (pc := 41) hY ?_ dX6_missing_41
    refine x_ri ?_
    rw [if_neg h]; exact ⟨rfl, rfl⟩
  refine PW.aload_n (pc := 0) dX6_missing_0 rfl ?_
  refine gf_X6_19 (pc := 1) dX6_missing_1 ?_
  refine PW.iload_n (pc := 4) dX6_missing_4 rfl ?_
  refine cs_X6_93 (pc := 5) hY.rm (c_X1_has) ⟨Nat.le_of_ble_eq_true rfl, Nat.le_of_ble_eq_true rfl⟩ dX6_missing_5 (Nat.le_of_ble_eq_true rfl) (fun x_5 u_5 h_5 => ?_)
  obtain ⟨rfl, hu_5⟩ := h_5
  replace hu_5 := hu_5.symm
  subst hu_5
  refine PW.if_eq (pc := 8) (tgt := 39) dX6_missing_8 (by decide) (fun c_8 => PW.st rfl rfl rfl (bad (fun h => has_f hn c_8 h.1))) (fun c_8 => ?_)
  refine PW.iload_n (pc := 11) dX6_missing_11 rfl ?_
  refine cs_X6_65 (pc := 12) hY.rm (c_X6_isThing) ⟨Nat.le_of_ble_eq_true rfl, Nat.le_of_ble_eq_true rfl⟩ dX6_missing_12 (Nat.le_of_ble_eq_true rfl) (fun x_12 u_12 h_12 => ?_)
  obtain ⟨rfl, hu_12⟩ := h_12
  replace hu_12 := hu_12.symm
  subst hu_12
  refine PW.if_eq (pc := 15) (tgt := 39) dX6_missing_15 (by decide) (fun c_15 => PW.st rfl rfl rfl (bad (fun h => bool_f c_15 h.2.1))) (fun c_15 => ?_)
  have hf := has_t hn c_8
  have hk := bool_t c_15
  have f1 := x_pos hf.1
  have f2 := na_lt hf.1 hf.2 (by omega)
  have k1 := x_pos hk.1
  have k2 := na_lt hk.1 hk.2 (by omega)
  clear c_8 c_15
  revert f1 k1
  generalize na f = fN at *
  generalize na k = kN at *
  intro f1 k1
  subst f1
  subst k1
  refine PW.iload_n (pc := 18) dX6_missing_18 rfl ?_
  refine PW.iconst (pc := 19) (v := nI 0) dX6_missing_19 (by decide) ?_
  refine PW.aload_n (pc := 20) dX6_missing_20 rfl ?_
  refine gf_X6_19 (pc := 21) dX6_missing_21 ?_
  refine gf_X6_99 (pc := 24) dX6_missing_24 ?_
  refine PW.iload_n (pc := 27) dX6_missing_27 rfl ?_
  refine PW.iload_n (pc := 28) dX6_missing_28 rfl ?_
  refine cs_X6_102 (pc := 29) hY.rm (c_X6_cell) ⟨Nat.le_of_ble_eq_true rfl, Nat.le_of_ble_eq_true rfl⟩ dX6_missing_29 (Nat.le_of_ble_eq_true rfl) (fun x_29 u_29 h_29 => ?_)
  obtain ⟨rfl, hu_29⟩ := h_29
  replace hu_29 := hu_29.symm
  subst hu_29
  refine PW.ialdN (pc := 32) rfl rfl (by omega) (by decide) dX6_missing_32 ?_
  refine cs_X6_69 (pc := 33) hY.rm (c_X6_outside) ⟨Nat.le_of_ble_eq_true rfl, Nat.le_of_ble_eq_true rfl⟩ dX6_missing_33 (Nat.le_of_ble_eq_true rfl) (fun x_33 u_33 h_33 => ?_)
  obtain ⟨rfl, hu_33⟩ := h_33
  replace hu_33 := hu_33.symm
  subst hu_33
  refine PW.if_eq (pc := 36) (tgt := 42) dX6_missing_36 (by decide) (fun c_36 => ?_) (fun c_36 => PW.st rfl rfl rfl (bad (fun h => out_t c_36 h.2.2)))
  have G : okF (nI fN) n ∧ isT (nI kN) ∧ inr v (nI 0) (M.1 16 (fN * 6 + kN)) := ⟨hf, hk, out_f c_36⟩
  refine PW.aload_n (pc := 42) dX6_missing_42 rfl ?_
  refine gf_X6_19 (pc := 43) dX6_missing_43 ?_
  refine gf_X6_96 (pc := 46) dX6_missing_46 ?_
  refine PW.iload_n (pc := 49) dX6_missing_49 rfl ?_
  refine PW.ialdN (pc := 50) rfl rfl (by omega) (by decide) dX6_missing_50 ?_
  refine PW.iconst (pc := 51) (v := nI 3) dX6_missing_51 (by decide) ?_
  refine PW.icmp_ne (pc := 52) (tgt := 71) dX6_missing_52 (by decide) (fun c_52 => ?_) (fun c_52 => ?_)
  · refine PW.bipush (pc := 71) (v := (-3)) dX6_missing_71 (by decide) ?_
    refine PW.iret (pc := 73) hY ?_ dX6_missing_73
    refine x_ri ?_
    rw [if_pos G, if_neg (fun q => c_52 q.1)]
    exact ⟨rfl, rfl⟩
  · refine PW.aload_n (pc := 55) dX6_missing_55 rfl ?_
    refine gf_X6_19 (pc := 56) dX6_missing_56 ?_
    refine gf_X6_129 (pc := 59) dX6_missing_59 ?_
    refine PW.iload_n (pc := 62) dX6_missing_62 rfl ?_
    refine PW.iload_n (pc := 63) dX6_missing_63 rfl ?_
    refine cs_X6_102 (pc := 64) hY.rm (c_X6_cell) ⟨Nat.le_of_ble_eq_true rfl, Nat.le_of_ble_eq_true rfl⟩ dX6_missing_64 (Nat.le_of_ble_eq_true rfl) (fun x_64 u_64 h_64 => ?_)
    obtain ⟨rfl, hu_64⟩ := h_64
    replace hu_64 := hu_64.symm
    subst hu_64
    refine PW.zaldN (pc := 67) rfl rfl (by omega) (by decide) dX6_missing_67 ?_
    refine PW.if_eq (pc := 68) (tgt := 74) dX6_missing_68 (by decide) (fun c_68 => ?_) (fun c_68 => ?_)
    · refine PW.aload_n (pc := 74) dX6_missing_74 rfl ?_
      refine gf_X6_12 (pc := 75) dX6_missing_75 ?_
      refine gf_X6_85 (pc := 78) dX6_missing_78 ?_
      refine PW.iload_n (pc := 81) dX6_missing_81 rfl ?_
      refine PW.ialdN (pc := 82) rfl rfl (by omega) (by decide) dX6_missing_82 ?_
      refine PW.iload_n (pc := 83) dX6_missing_83 rfl ?_
      refine PW.imul (pc := 84) dX6_missing_84 ?_
      refine PW.istore (pc := 85) dX6_missing_85 (by decide) rfl ?_
      refine PW.aload_n (pc := 87) dX6_missing_87 rfl ?_
      refine gf_X6_19 (pc := 88) dX6_missing_88 ?_
      refine gf_X6_129 (pc := 91) dX6_missing_91 ?_
      refine PW.iload_n (pc := 94) dX6_missing_94 rfl ?_
      refine PW.iload_n (pc := 95) dX6_missing_95 rfl ?_
      refine cs_X6_102 (pc := 96) hY.rm (c_X6_cell) ⟨Nat.le_of_ble_eq_true rfl, Nat.le_of_ble_eq_true rfl⟩ dX6_missing_96 (Nat.le_of_ble_eq_true rfl) (fun x_96 u_96 h_96 => ?_)
      obtain ⟨rfl, hu_96⟩ := h_96
      replace hu_96 := hu_96.symm
      subst hu_96
      refine PW.iconst (pc := 99) (v := nI 1) dX6_missing_99 (by decide) ?_
      refine PW.zastN (pc := 100) rfl rfl (by omega) (by decide) (by first | assumption | decide) dX6_missing_100 ?_
      refine PW.aload_n (pc := 101) dX6_missing_101 rfl ?_
      refine gf_X6_12 (pc := 102) dX6_missing_102 ?_
      refine gf_X6_133 (pc := 105) dX6_missing_105 ?_
      refine PW.iload_n (pc := 108) dX6_missing_108 rfl ?_
      refine PW.dup2 (pc := 109) dX6_missing_109 rfl rfl ?_
      refine PW.ialdN (pc := 110) rfl rfl (by omega) (by decide) dX6_missing_110 ?_
      refine PW.iload_n (pc := 111) dX6_missing_111 rfl ?_
      refine PW.iadd (pc := 112) dX6_missing_112 ?_
      refine PW.iastN (pc := 113) rfl rfl (by omega) (by decide) dX6_missing_113 ?_
      refine PW.aload_n (pc := 114) dX6_missing_114 rfl ?_
      refine PW.dup (pc := 115) dX6_missing_115 rfl ?_
      refine gf_X6_61 (pc := 116) dX6_missing_116 ?_
      refine PW.iload (pc := 119) dX6_missing_119 rfl ?_
      refine PW.iadd (pc := 121) dX6_missing_121 ?_
      refine pf_X6_61 (pc := 122) dX6_missing_122 ?_
      refine PW.iload (pc := 125) dX6_missing_125 rfl ?_
      refine PW.iret (pc := 127) hY ?_ dX6_missing_127
      refine x_ri ?_
      rw [if_pos G, if_pos ⟨c_52, c_68⟩]
      refine ⟨rfl, ?_⟩
      simp [xup_1]
    · refine PW.bipush (pc := 71) (v := (-3)) dX6_missing_71 (by decide) ?_
      refine PW.iret (pc := 73) hY ?_ dX6_missing_73
      refine x_ri ?_
      rw [if_pos G, if_neg (fun q => c_68 q.2)]
      exact ⟨rfl, rfl⟩
set_option maxHeartbeats 4000000 in
set_option maxRecDepth 20000 in
theorem c_X6_mend {k v : Int32} {M : xM} : K_X6_mend [.ref 0, .int k, .int v] M (xRi (fun x u => if isT k ∧ inr v (nI 0) (nI 1000) then (if v ≤ M.1 7 (na k) then x = M.1 7 (na k) - v ∧ u = xup M 7 (na k) (M.1 7 (na k) - v) else x = (-3) ∧ u = M) else x = (-2) ∧ u = M)) := by
  refine xMet.of (own := RX6) rfl (by decide) (Nat.le_of_ble_eq_true rfl) rfl (fun Y hY => ?_)
  have bad : ¬ (isT k ∧ inr v (nI 0) (nI 1000)) → P_X6_mend Y 18 [] [] M := by
    intro h
    refine PW.bipush (pc := 18) (v := (-2)) dX6_mend_18 (by decide) ?_
    refine PW.iret (pc := 20) hY ?_ dX6_mend_20
    refine x_ri ?_
    rw [if_neg h]; exact ⟨rfl, rfl⟩
  refine PW.iload_n (pc := 0) dX6_mend_0 rfl ?_
  refine cs_X6_65 (pc := 1) hY.rm (c_X6_isThing) ⟨Nat.le_of_ble_eq_true rfl, Nat.le_of_ble_eq_true rfl⟩ dX6_mend_1 (Nat.le_of_ble_eq_true rfl) (fun x_1 u_1 h_1 => ?_)
  obtain ⟨rfl, hu_1⟩ := h_1
  replace hu_1 := hu_1.symm
  subst hu_1
  refine PW.if_eq (pc := 4) (tgt := 18) dX6_mend_4 (by decide) (fun c_4 => PW.st rfl rfl rfl (bad (fun h => bool_f c_4 h.1))) (fun c_4 => ?_)
  refine PW.iload_n (pc := 7) dX6_mend_7 rfl ?_
  refine PW.iconst (pc := 8) (v := nI 0) dX6_mend_8 (by decide) ?_
  refine PW.sipush (pc := 9) (v := nI 1000) dX6_mend_9 (by decide) ?_
  refine cs_X6_69 (pc := 12) hY.rm (c_X6_outside) ⟨Nat.le_of_ble_eq_true rfl, Nat.le_of_ble_eq_true rfl⟩ dX6_mend_12 (Nat.le_of_ble_eq_true rfl) (fun x_12 u_12 h_12 => ?_)
  obtain ⟨rfl, hu_12⟩ := h_12
  replace hu_12 := hu_12.symm
  subst hu_12
  refine PW.if_eq (pc := 15) (tgt := 21) dX6_mend_15 (by decide) (fun c_15 => ?_) (fun c_15 => PW.st rfl rfl rfl (bad (fun h => out_t c_15 h.2)))
  have hk := bool_t c_4
  have G : isT k ∧ inr v (nI 0) (nI 1000) := ⟨hk, out_f c_15⟩
  have k1 := x_pos hk.1
  have k2 := na_lt hk.1 hk.2 (by omega)
  clear c_4 c_15 bad
  revert k1
  generalize na k = kN at *
  intro k1
  subst k1
  refine PW.iload_n (pc := 21) dX6_mend_21 rfl ?_
  refine PW.aload_n (pc := 22) dX6_mend_22 rfl ?_
  refine gf_X6_12 (pc := 23) dX6_mend_23 ?_
  refine gf_X6_133 (pc := 26) dX6_mend_26 ?_
  refine PW.iload_n (pc := 29) dX6_mend_29 rfl ?_
  refine PW.ialdN (pc := 30) rfl rfl (by omega) (by decide) dX6_mend_30 ?_
  refine PW.icmp_le (pc := 31) (tgt := 37) dX6_mend_31 (by decide) (fun c_31 => ?_) (fun c_31 => ?_)
  · refine PW.aload_n (pc := 37) dX6_mend_37 rfl ?_
    refine gf_X6_12 (pc := 38) dX6_mend_38 ?_
    refine gf_X6_133 (pc := 41) dX6_mend_41 ?_
    refine PW.iload_n (pc := 44) dX6_mend_44 rfl ?_
    refine PW.dup2 (pc := 45) dX6_mend_45 rfl rfl ?_
    refine PW.ialdN (pc := 46) rfl rfl (by omega) (by decide) dX6_mend_46 ?_
    refine PW.iload_n (pc := 47) dX6_mend_47 rfl ?_
    refine PW.isub (pc := 48) dX6_mend_48 ?_
    refine PW.iastN (pc := 49) rfl rfl (by omega) (by decide) dX6_mend_49 ?_
    refine PW.aload_n (pc := 50) dX6_mend_50 rfl ?_
    refine gf_X6_12 (pc := 51) dX6_mend_51 ?_
    refine gf_X6_133 (pc := 54) dX6_mend_54 ?_
    refine PW.iload_n (pc := 57) dX6_mend_57 rfl ?_
    refine PW.ialdN (pc := 58) rfl rfl (by omega) (by decide) dX6_mend_58 ?_
    refine PW.iret (pc := 59) hY ?_ dX6_mend_59
    refine x_ri ?_
    rw [if_pos G, if_pos c_31]
    refine ⟨?_, rfl⟩
    simp [xup_1]
  · refine PW.bipush (pc := 34) (v := (-3)) dX6_mend_34 (by decide) ?_
    refine PW.iret (pc := 36) hY ?_ dX6_mend_36
    refine x_ri ?_
    rw [if_pos G, if_neg c_31]
    exact ⟨rfl, rfl⟩
set_option maxHeartbeats 4000000 in
set_option maxRecDepth 20000 in
theorem c_X6_about {f w : Int32} {n : Nat} {M : xM} (hn : M.1 8 9 = nI n) (h10 : n ≤ 10) : K_X6_about [.ref 0, .int f, .int w] M (xRi (fun x u => (x = if okF f n ∧ inr w (nI 0) (nI 6) then tellv M (na f) (na w) else (-2)) ∧ u = M)) := by
  refine xMet.of (own := RX6) rfl (by decide) (Nat.le_of_ble_eq_true rfl) rfl (fun Y hY => ?_)
  have bad : ¬ (okF f n ∧ inr w (nI 0) (nI 6)) → P_X6_about Y 21 [] [] M := by
    intro h
    refine PW.bipush (pc := 21) (v := (-2)) dX6_about_21 (by decide) ?_
    refine PW.iret (pc := 23) hY ?_ dX6_about_23
    refine x_ri ?_
    rw [if_neg h]; exact ⟨rfl, rfl⟩
  refine PW.aload_n (pc := 0) dX6_about_0 rfl ?_
  refine gf_X6_19 (pc := 1) dX6_about_1 ?_
  refine PW.iload_n (pc := 4) dX6_about_4 rfl ?_
  refine cs_X6_93 (pc := 5) hY.rm (c_X1_has) ⟨Nat.le_of_ble_eq_true rfl, Nat.le_of_ble_eq_true rfl⟩ dX6_about_5 (Nat.le_of_ble_eq_true rfl) (fun x_5 u_5 h_5 => ?_)
  obtain ⟨rfl, hu_5⟩ := h_5
  replace hu_5 := hu_5.symm
  subst hu_5
  refine PW.if_eq (pc := 8) (tgt := 21) dX6_about_8 (by decide) (fun c_8 => PW.st rfl rfl rfl (bad (fun h => has_f hn c_8 h.1))) (fun c_8 => ?_)
  refine PW.iload_n (pc := 11) dX6_about_11 rfl ?_
  refine PW.iconst (pc := 12) (v := nI 0) dX6_about_12 (by decide) ?_
  refine PW.bipush (pc := 13) (v := nI 6) dX6_about_13 (by decide) ?_
  refine cs_X6_69 (pc := 15) hY.rm (c_X6_outside) ⟨Nat.le_of_ble_eq_true rfl, Nat.le_of_ble_eq_true rfl⟩ dX6_about_15 (Nat.le_of_ble_eq_true rfl) (fun x_15 u_15 h_15 => ?_)
  obtain ⟨rfl, hu_15⟩ := h_15
  replace hu_15 := hu_15.symm
  subst hu_15
  refine PW.if_eq (pc := 18) (tgt := 24) dX6_about_18 (by decide) (fun c_18 => ?_) (fun c_18 => PW.st rfl rfl rfl (bad (fun h => out_t c_18 h.2)))
  have hf := has_t hn c_8
  have hw := out_f c_18
  have f1 := x_pos hf.1
  have f2 := na_lt hf.1 hf.2 (by omega)
  have w1 := x_pos hw.1
  have w2 := na_le hw.1 hw.2 (by omega)
  clear c_8 c_18 bad
  revert f1 w1
  generalize na f = fN at *
  generalize na w = wN at *
  intro f1 w1
  subst f1
  subst w1
  refine PW.aload_n (pc := 24) dX6_about_24 rfl ?_
  refine gf_X6_19 (pc := 25) dX6_about_25 ?_
  refine PW.iload_n (pc := 28) dX6_about_28 rfl ?_
  refine PW.iload_n (pc := 29) dX6_about_29 rfl ?_
  refine cs_X6_136 (pc := 30) hY.rm (c_X1_tell (by omega) w2) ⟨Nat.le_of_ble_eq_true rfl, Nat.le_of_ble_eq_true rfl⟩ dX6_about_30 (Nat.le_of_ble_eq_true rfl) (fun x_30 u_30 h_30 => ?_)
  obtain ⟨rfl, hu_30⟩ := h_30
  replace hu_30 := hu_30.symm
  subst hu_30
  refine PW.iret (pc := 33) hY ?_ dX6_about_33
  refine x_ri ?_
  rw [if_pos ⟨hf, hw⟩]
  exact ⟨rfl, rfl⟩
set_option maxHeartbeats 4000000 in
set_option maxRecDepth 20000 in
theorem c_X6_bays {g s : Int32} {M : xM} : K_X6_bays [.ref 0, .int g, .int s] M (xRi (fun x u => (x = if inr g (nI 1) (nI 5000) ∧ inr s (nI 4) (nI 60) then (g + s - nI 1) / s else (-2)) ∧ u = M)) := by
  refine xMet.of (own := RX6) rfl (by decide) (Nat.le_of_ble_eq_true rfl) rfl (fun Y hY => ?_)
  have bad : ¬ (inr g (nI 1) (nI 5000) ∧ inr s (nI 4) (nI 60)) → P_X6_bays Y 21 [] [] M := by
    intro h
    refine PW.bipush (pc := 21) (v := (-2)) dX6_bays_21 (by decide) ?_
    refine PW.iret (pc := 23) hY ?_ dX6_bays_23
    refine x_ri ?_
    rw [if_neg h]; exact ⟨rfl, rfl⟩
  refine PW.iload_n (pc := 0) dX6_bays_0 rfl ?_
  refine PW.iconst (pc := 1) (v := nI 1) dX6_bays_1 (by decide) ?_
  refine PW.sipush (pc := 2) (v := nI 5000) dX6_bays_2 (by decide) ?_
  refine cs_X6_69 (pc := 5) hY.rm (c_X6_outside) ⟨Nat.le_of_ble_eq_true rfl, Nat.le_of_ble_eq_true rfl⟩ dX6_bays_5 (Nat.le_of_ble_eq_true rfl) (fun x_5 u_5 h_5 => ?_)
  obtain ⟨rfl, hu_5⟩ := h_5
  replace hu_5 := hu_5.symm
  subst hu_5
  refine PW.if_ne (pc := 8) (tgt := 21) dX6_bays_8 (by decide) (fun c_8 => PW.st rfl rfl rfl (bad (fun h => out_t c_8 h.1))) (fun c_8 => ?_)
  refine PW.iload_n (pc := 11) dX6_bays_11 rfl ?_
  refine PW.iconst (pc := 12) (v := nI 4) dX6_bays_12 (by decide) ?_
  refine PW.bipush (pc := 13) (v := nI 60) dX6_bays_13 (by decide) ?_
  refine cs_X6_69 (pc := 15) hY.rm (c_X6_outside) ⟨Nat.le_of_ble_eq_true rfl, Nat.le_of_ble_eq_true rfl⟩ dX6_bays_15 (Nat.le_of_ble_eq_true rfl) (fun x_15 u_15 h_15 => ?_)
  obtain ⟨rfl, hu_15⟩ := h_15
  replace hu_15 := hu_15.symm
  subst hu_15
  refine PW.if_eq (pc := 18) (tgt := 24) dX6_bays_18 (by decide) (fun c_18 => ?_) (fun c_18 => PW.st rfl rfl rfl (bad (fun h => out_t c_18 h.2)))
  have h4 := out_f c_18
  have h1 : ¬ s < nI 1 := by
    intro q
    have q2 := h4.1
    rw [Int32.lt_iff_toInt_lt] at q
    rw [Int32.le_iff_toInt_le] at q2
    have e1 : (nI 1).toInt = 1 := rfl
    have e4 : (nI 4).toInt = 4 := rfl
    omega
  refine PW.iload_n (pc := 24) dX6_bays_24 rfl ?_
  refine PW.iload_n (pc := 25) dX6_bays_25 rfl ?_
  refine cs_X6_168 (pc := 26) hY.rm (c_X6_cutUp) ⟨Nat.le_of_ble_eq_true rfl, Nat.le_of_ble_eq_true rfl⟩ dX6_bays_26 (Nat.le_of_ble_eq_true rfl) (fun x_26 u_26 h_26 => ?_)
  obtain ⟨rfl, hu_26⟩ := h_26
  replace hu_26 := hu_26.symm
  subst hu_26
  rw [if_neg h1]
  refine PW.iret (pc := 29) hY ?_ dX6_bays_29
  refine x_ri ?_
  rw [if_pos ⟨out_f c_8, h4⟩]
  exact ⟨rfl, rfl⟩
set_option maxHeartbeats 4000000 in
set_option maxRecDepth 20000 in
theorem c_X6_law {g d : Int32} {n : Nat} {M : xM} (hn : M.1 22 2 = nI n) (h6 : n ≤ 6) : K_X6_law [.ref 0, .int g, .int d] M (xRi (fun x u => if inr g (nI 1) (nI 5000) ∧ inr d (nI 1) (nI 200) then (if 0 < n ∧ (g ≤ M.1 23 (n - 1) ∨ d ≤ M.1 24 (n - 1)) then x = (-3) ∧ u = M else if n < 6 then x = nI (n + 1) ∧ u = xup (xup (xup M 23 n g) 24 n d) 22 2 (nI (n + 1)) else x = (-4) ∧ u = M) else x = (-2) ∧ u = M)) := by
  refine xMet.of (own := RX6) rfl (by decide) (Nat.le_of_ble_eq_true rfl) rfl (fun Y hY => ?_)
  have bad : ¬ (inr g (nI 1) (nI 5000) ∧ inr d (nI 1) (nI 200)) → P_X6_law Y 22 [] [] M := by
    intro h
    refine PW.bipush (pc := 22) (v := (-2)) dX6_law_22 (by decide) ?_
    refine PW.iret (pc := 24) hY ?_ dX6_law_24
    refine x_ri ?_
    rw [if_neg h]; exact ⟨rfl, rfl⟩
  refine PW.iload_n (pc := 0) dX6_law_0 rfl ?_
  refine PW.iconst (pc := 1) (v := nI 1) dX6_law_1 (by decide) ?_
  refine PW.sipush (pc := 2) (v := nI 5000) dX6_law_2 (by decide) ?_
  refine cs_X6_69 (pc := 5) hY.rm (c_X6_outside) ⟨Nat.le_of_ble_eq_true rfl, Nat.le_of_ble_eq_true rfl⟩ dX6_law_5 (Nat.le_of_ble_eq_true rfl) (fun x_5 u_5 h_5 => ?_)
  obtain ⟨rfl, hu_5⟩ := h_5
  replace hu_5 := hu_5.symm
  subst hu_5
  refine PW.if_ne (pc := 8) (tgt := 22) dX6_law_8 (by decide) (fun c_8 => PW.st rfl rfl rfl (bad (fun h => out_t c_8 h.1))) (fun c_8 => ?_)
  refine PW.iload_n (pc := 11) dX6_law_11 rfl ?_
  refine PW.iconst (pc := 12) (v := nI 1) dX6_law_12 (by decide) ?_
  refine PW.sipush (pc := 13) (v := nI 200) dX6_law_13 (by decide) ?_
  refine cs_X6_69 (pc := 16) hY.rm (c_X6_outside) ⟨Nat.le_of_ble_eq_true rfl, Nat.le_of_ble_eq_true rfl⟩ dX6_law_16 (Nat.le_of_ble_eq_true rfl) (fun x_16 u_16 h_16 => ?_)
  obtain ⟨rfl, hu_16⟩ := h_16
  replace hu_16 := hu_16.symm
  subst hu_16
  refine PW.if_eq (pc := 19) (tgt := 25) dX6_law_19 (by decide) (fun c_19 => ?_) (fun c_19 => PW.st rfl rfl rfl (bad (fun h => out_t c_19 h.2)))
  refine PW.aload_n (pc := 25) dX6_law_25 rfl ?_
  refine gf_X6_40 (pc := 26) dX6_law_26 ?_
  refine PW.iload_n (pc := 29) dX6_law_29 rfl ?_
  refine PW.iload_n (pc := 30) dX6_law_30 rfl ?_
  refine cs_X6_171 (pc := 31) hY.rm (c_X2_write hn h6) ⟨Nat.le_of_ble_eq_true rfl, Nat.le_of_ble_eq_true rfl⟩ dX6_law_31 (Nat.le_of_ble_eq_true rfl) (fun x_31 u_31 h_31 => ?_)
  refine PW.iret (pc := 34) hY ?_ dX6_law_34
  refine x_ri ?_
  rw [if_pos ⟨out_f c_8, out_f c_19⟩]
  exact h_31
set_option maxHeartbeats 4000000 in
set_option maxRecDepth 20000 in
theorem c_X6_unlaw {M : xM} : K_X6_unlaw [.ref 0] M (xRi (fun x u => x = M.1 22 2 ∧ u = xup M 22 2 (nI 0))) := by
  refine xMet.of (own := RX6) rfl (by decide) (Nat.le_of_ble_eq_true rfl) rfl (fun Y hY => ?_)
  refine PW.aload_n (pc := 0) dX6_unlaw_0 rfl ?_
  refine gf_X6_40 (pc := 1) dX6_unlaw_1 ?_
  refine gf_X6_174 (pc := 4) dX6_unlaw_4 ?_
  refine PW.istore_n (pc := 7) (i := 1) dX6_unlaw_7 rfl (by decide) rfl ?_
  refine PW.aload_n (pc := 8) dX6_unlaw_8 rfl ?_
  refine gf_X6_40 (pc := 9) dX6_unlaw_9 ?_
  refine PW.iconst (pc := 12) (v := nI 0) dX6_unlaw_12 (by decide) ?_
  refine pf_X6_174 (pc := 13) dX6_unlaw_13 ?_
  refine PW.iload_n (pc := 16) dX6_unlaw_16 rfl ?_
  refine PW.iret (pc := 17) hY ?_ dX6_unlaw_17
  exact x_ri ⟨rfl, rfl⟩
set_option maxHeartbeats 4000000 in
set_option maxRecDepth 20000 in
theorem c_X6_doors {g : Int32} {n : Nat} {M : xM} (hn : M.1 22 2 = nI n) (h6 : n ≤ 6) : K_X6_doors [.ref 0, .int g] M (xRi (fun x u => (x = if inr g (nI 1) (nI 5000) then dfor (M.1 23) (M.1 24) g n else (-2)) ∧ u = M)) := by
  refine xMet.of (own := RX6) rfl (by decide) (Nat.le_of_ble_eq_true rfl) rfl (fun Y hY => ?_)
  refine PW.iload_n (pc := 0) dX6_doors_0 rfl ?_
  refine PW.iconst (pc := 1) (v := nI 1) dX6_doors_1 (by decide) ?_
  refine PW.sipush (pc := 2) (v := nI 5000) dX6_doors_2 (by decide) ?_
  refine cs_X6_69 (pc := 5) hY.rm (c_X6_outside) ⟨Nat.le_of_ble_eq_true rfl, Nat.le_of_ble_eq_true rfl⟩ dX6_doors_5 (Nat.le_of_ble_eq_true rfl) (fun x_5 u_5 h_5 => ?_)
  obtain ⟨rfl, hu_5⟩ := h_5
  replace hu_5 := hu_5.symm
  subst hu_5
  refine PW.if_eq (pc := 8) (tgt := 16) dX6_doors_8 (by decide) (fun c_8 => ?_) (fun c_8 => ?_)
  · refine PW.aload_n (pc := 16) dX6_doors_16 rfl ?_
    refine gf_X6_40 (pc := 17) dX6_doors_17 ?_
    refine PW.iload_n (pc := 20) dX6_doors_20 rfl ?_
    refine cs_X6_177 (pc := 21) hY.rm (c_X2_doorsFor hn h6) ⟨Nat.le_of_ble_eq_true rfl, Nat.le_of_ble_eq_true rfl⟩ dX6_doors_21 (Nat.le_of_ble_eq_true rfl) (fun x_21 u_21 h_21 => ?_)
    obtain ⟨rfl, hu_21⟩ := h_21
    replace hu_21 := hu_21.symm
    subst hu_21
    refine PW.iret (pc := 24) hY ?_ dX6_doors_24
    refine x_ri ?_
    rw [if_pos (out_f c_8)]
    exact ⟨rfl, rfl⟩
  · refine PW.bipush (pc := 11) (v := (-2)) dX6_doors_11 (by decide) ?_
    refine PW.goto (pc := 13) (tgt := 24) dX6_doors_13 (by decide) ?_
    refine PW.iret (pc := 24) hY ?_ dX6_doors_24
    refine x_ri ?_
    rw [if_neg (out_t c_8)]
    exact ⟨rfl, rfl⟩
set_option maxHeartbeats 4000000 in
set_option maxRecDepth 20000 in
theorem c_X6_keeps {g b : Int32} {n : Nat} {M : xM} (hn : M.1 22 2 = nI n) (h6 : n ≤ 6) : K_X6_keeps [.ref 0, .int g, .int b] M (xRi (fun x u => (x = if inr g (nI 1) (nI 5000) ∧ inr b (nI 1) (nI 2000) then xB (dfor (M.1 23) (M.1 24) g n ≤ nI 2 * b + nI 2) else (-2)) ∧ u = M)) := by
  refine xMet.of (own := RX6) rfl (by decide) (Nat.le_of_ble_eq_true rfl) rfl (fun Y hY => ?_)
  have bad : ¬ (inr g (nI 1) (nI 5000) ∧ inr b (nI 1) (nI 2000)) → P_X6_keeps Y 22 [] [] M := by
    intro h
    refine PW.bipush (pc := 22) (v := (-2)) dX6_keeps_22 (by decide) ?_
    refine PW.iret (pc := 24) hY ?_ dX6_keeps_24
    refine x_ri ?_
    rw [if_neg h]; exact ⟨rfl, rfl⟩
  refine PW.iload_n (pc := 0) dX6_keeps_0 rfl ?_
  refine PW.iconst (pc := 1) (v := nI 1) dX6_keeps_1 (by decide) ?_
  refine PW.sipush (pc := 2) (v := nI 5000) dX6_keeps_2 (by decide) ?_
  refine cs_X6_69 (pc := 5) hY.rm (c_X6_outside) ⟨Nat.le_of_ble_eq_true rfl, Nat.le_of_ble_eq_true rfl⟩ dX6_keeps_5 (Nat.le_of_ble_eq_true rfl) (fun x_5 u_5 h_5 => ?_)
  obtain ⟨rfl, hu_5⟩ := h_5
  replace hu_5 := hu_5.symm
  subst hu_5
  refine PW.if_ne (pc := 8) (tgt := 22) dX6_keeps_8 (by decide) (fun c_8 => PW.st rfl rfl rfl (bad (fun h => out_t c_8 h.1))) (fun c_8 => ?_)
  refine PW.iload_n (pc := 11) dX6_keeps_11 rfl ?_
  refine PW.iconst (pc := 12) (v := nI 1) dX6_keeps_12 (by decide) ?_
  refine PW.sipush (pc := 13) (v := nI 2000) dX6_keeps_13 (by decide) ?_
  refine cs_X6_69 (pc := 16) hY.rm (c_X6_outside) ⟨Nat.le_of_ble_eq_true rfl, Nat.le_of_ble_eq_true rfl⟩ dX6_keeps_16 (Nat.le_of_ble_eq_true rfl) (fun x_16 u_16 h_16 => ?_)
  obtain ⟨rfl, hu_16⟩ := h_16
  replace hu_16 := hu_16.symm
  subst hu_16
  refine PW.if_eq (pc := 19) (tgt := 25) dX6_keeps_19 (by decide) (fun c_19 => ?_) (fun c_19 => PW.st rfl rfl rfl (bad (fun h => out_t c_19 h.2)))
  have G : inr g (nI 1) (nI 5000) ∧ inr b (nI 1) (nI 2000) := ⟨out_f c_8, out_f c_19⟩
  refine PW.aload_n (pc := 25) dX6_keeps_25 rfl ?_
  refine gf_X6_40 (pc := 26) dX6_keeps_26 ?_
  refine PW.iload_n (pc := 29) dX6_keeps_29 rfl ?_
  refine cs_X6_177 (pc := 30) hY.rm (c_X2_doorsFor hn h6) ⟨Nat.le_of_ble_eq_true rfl, Nat.le_of_ble_eq_true rfl⟩ dX6_keeps_30 (Nat.le_of_ble_eq_true rfl) (fun x_30 u_30 h_30 => ?_)
  obtain ⟨rfl, hu_30⟩ := h_30
  replace hu_30 := hu_30.symm
  subst hu_30
  refine PW.iconst (pc := 33) (v := nI 2) dX6_keeps_33 (by decide) ?_
  refine PW.iload_n (pc := 34) dX6_keeps_34 rfl ?_
  refine PW.imul (pc := 35) dX6_keeps_35 ?_
  refine PW.iconst (pc := 36) (v := nI 2) dX6_keeps_36 (by decide) ?_
  refine PW.iadd (pc := 37) dX6_keeps_37 ?_
  refine PW.icmp_gt (pc := 38) (tgt := 45) dX6_keeps_38 (by decide) (fun c_38 => ?_) (fun c_38 => ?_)
  · refine PW.iconst (pc := 45) (v := nI 0) dX6_keeps_45 (by decide) ?_
    refine cs_X6_125 (pc := 46) hY.rm (c_X6_bit) ⟨Nat.le_of_ble_eq_true rfl, Nat.le_of_ble_eq_true rfl⟩ dX6_keeps_46 (Nat.le_of_ble_eq_true rfl) (fun x_46 u_46 h_46 => ?_)
    obtain ⟨rfl, hu_46⟩ := h_46
    replace hu_46 := hu_46.symm
    subst hu_46
    refine PW.iret (pc := 49) hY ?_ dX6_keeps_49
    refine x_ri ?_
    rw [if_pos G, xB_f (x_nl c_38)]
    exact ⟨by decide, rfl⟩
  · refine PW.iconst (pc := 41) (v := nI 1) dX6_keeps_41 (by decide) ?_
    refine PW.goto (pc := 42) (tgt := 46) dX6_keeps_42 (by decide) ?_
    refine cs_X6_125 (pc := 46) hY.rm (c_X6_bit) ⟨Nat.le_of_ble_eq_true rfl, Nat.le_of_ble_eq_true rfl⟩ dX6_keeps_46 (Nat.le_of_ble_eq_true rfl) (fun x_46 u_46 h_46 => ?_)
    obtain ⟨rfl, hu_46⟩ := h_46
    replace hu_46 := hu_46.symm
    subst hu_46
    refine PW.iret (pc := 49) hY ?_ dX6_keeps_49
    refine x_ri ?_
    rw [if_pos G, xB_t (x_ge c_38)]
    exact ⟨by decide, rfl⟩
set_option maxHeartbeats 4000000 in
set_option maxRecDepth 20000 in
theorem c_X6_soil {s h : Int32} {M : xM} : K_X6_soil [.ref 0, .int s, .int h] M (xRi (fun x u => if inr s (nI 0) (nI 3) ∧ inr h (nI 1) (nI 1000) then x = M.1 31 (na s) ∧ u = xup M 31 (na s) h else x = (-2) ∧ u = M)) := by
  refine xMet.of (own := RX6) rfl (by decide) (Nat.le_of_ble_eq_true rfl) rfl (fun Y hY => ?_)
  have bad : ¬ (inr s (nI 0) (nI 3) ∧ inr h (nI 1) (nI 1000)) → P_X6_soil Y 20 [] [] M := by
    intro h
    refine PW.bipush (pc := 20) (v := (-2)) dX6_soil_20 (by decide) ?_
    refine PW.iret (pc := 22) hY ?_ dX6_soil_22
    refine x_ri ?_
    rw [if_neg h]; exact ⟨rfl, rfl⟩
  refine PW.iload_n (pc := 0) dX6_soil_0 rfl ?_
  refine PW.iconst (pc := 1) (v := nI 0) dX6_soil_1 (by decide) ?_
  refine PW.iconst (pc := 2) (v := nI 3) dX6_soil_2 (by decide) ?_
  refine cs_X6_69 (pc := 3) hY.rm (c_X6_outside) ⟨Nat.le_of_ble_eq_true rfl, Nat.le_of_ble_eq_true rfl⟩ dX6_soil_3 (Nat.le_of_ble_eq_true rfl) (fun x_3 u_3 h_3 => ?_)
  obtain ⟨rfl, hu_3⟩ := h_3
  replace hu_3 := hu_3.symm
  subst hu_3
  refine PW.if_ne (pc := 6) (tgt := 20) dX6_soil_6 (by decide) (fun c_6 => PW.st rfl rfl rfl (bad (fun h => out_t c_6 h.1))) (fun c_6 => ?_)
  refine PW.iload_n (pc := 9) dX6_soil_9 rfl ?_
  refine PW.iconst (pc := 10) (v := nI 1) dX6_soil_10 (by decide) ?_
  refine PW.sipush (pc := 11) (v := nI 1000) dX6_soil_11 (by decide) ?_
  refine cs_X6_69 (pc := 14) hY.rm (c_X6_outside) ⟨Nat.le_of_ble_eq_true rfl, Nat.le_of_ble_eq_true rfl⟩ dX6_soil_14 (Nat.le_of_ble_eq_true rfl) (fun x_14 u_14 h_14 => ?_)
  obtain ⟨rfl, hu_14⟩ := h_14
  replace hu_14 := hu_14.symm
  subst hu_14
  refine PW.if_eq (pc := 17) (tgt := 23) dX6_soil_17 (by decide) (fun c_17 => ?_) (fun c_17 => PW.st rfl rfl rfl (bad (fun h => out_t c_17 h.2)))
  have hs := out_f c_6
  have s1 := x_pos hs.1
  have s2 := na_le hs.1 hs.2 (by omega)
  refine PW.aload_n (pc := 23) dX6_soil_23 rfl ?_
  refine gf_X6_51 (pc := 24) dX6_soil_24 ?_
  refine PW.iload_n (pc := 27) dX6_soil_27 rfl ?_
  refine PW.ialdN (pc := 28) rfl s1 (by omega) (by decide) dX6_soil_28 ?_
  refine PW.istore_n (pc := 29) (i := 3) dX6_soil_29 rfl (by decide) rfl ?_
  refine PW.aload_n (pc := 30) dX6_soil_30 rfl ?_
  refine gf_X6_51 (pc := 31) dX6_soil_31 ?_
  refine PW.iload_n (pc := 34) dX6_soil_34 rfl ?_
  refine PW.iload_n (pc := 35) dX6_soil_35 rfl ?_
  refine PW.iastN (pc := 36) rfl s1 (by omega) (by decide) dX6_soil_36 ?_
  refine PW.iload_n (pc := 37) dX6_soil_37 rfl ?_
  refine PW.iret (pc := 38) hY ?_ dX6_soil_38
  refine x_ri ?_
  rw [if_pos ⟨hs, out_f c_17⟩]
  exact ⟨rfl, rfl⟩
set_option maxHeartbeats 4000000 in
set_option maxRecDepth 20000 in
theorem c_X6_pitch {f s b k : Int32} {n : Nat} {M : xM} (hn : M.1 8 9 = nI n) (h10 : n ≤ 10) : K_X6_pitch [.ref 0, .int f, .int s, .int b, .int k] M (xRi (fun x u => if okF f n ∧ inr s (nI 0) (nI 3) ∧ inr b (nI 0) (nI 99) ∧ inr k (nI 0) (nI 999) then x = nI 1 ∧ u = xup (xup (xup M 13 (na f) s) 14 (na f) b) 15 (na f) k else x = (-2) ∧ u = M)) := by
  refine xMet.of (own := RX6) rfl (by decide) (Nat.le_of_ble_eq_true rfl) rfl (fun Y hY => ?_)
  have bad20 : ¬ (okF f n ∧ inr s (nI 0) (nI 3) ∧ inr b (nI 0) (nI 99) ∧ inr k (nI 0) (nI 999)) → P_X6_pitch Y 20 [] [] M := by
    intro h
    refine PW.bipush (pc := 20) (v := (-2)) dX6_pitch_20 (by decide) ?_
    refine PW.iret (pc := 22) hY ?_ dX6_pitch_22
    refine x_ri ?_
    rw [if_neg h]; exact ⟨rfl, rfl⟩
  have bad45 : ¬ (okF f n ∧ inr s (nI 0) (nI 3) ∧ inr b (nI 0) (nI 99) ∧ inr k (nI 0) (nI 999)) → P_X6_pitch Y 45 [] [] M := by
    intro h
    refine PW.bipush (pc := 45) (v := (-2)) dX6_pitch_45 (by decide) ?_
    refine PW.iret (pc := 47) hY ?_ dX6_pitch_47
    refine x_ri ?_
    rw [if_neg h]; exact ⟨rfl, rfl⟩
  refine PW.aload_n (pc := 0) dX6_pitch_0 rfl ?_
  refine gf_X6_19 (pc := 1) dX6_pitch_1 ?_
  refine PW.iload_n (pc := 4) dX6_pitch_4 rfl ?_
  refine cs_X6_93 (pc := 5) hY.rm (c_X1_has) ⟨Nat.le_of_ble_eq_true rfl, Nat.le_of_ble_eq_true rfl⟩ dX6_pitch_5 (Nat.le_of_ble_eq_true rfl) (fun x_5 u_5 h_5 => ?_)
  obtain ⟨rfl, hu_5⟩ := h_5
  replace hu_5 := hu_5.symm
  subst hu_5
  refine PW.if_eq (pc := 8) (tgt := 20) dX6_pitch_8 (by decide) (fun c_8 => PW.st rfl rfl rfl (bad20 (fun h => has_f hn c_8 h.1))) (fun c_8 => ?_)
  refine PW.iload_n (pc := 11) dX6_pitch_11 rfl ?_
  refine PW.iconst (pc := 12) (v := nI 0) dX6_pitch_12 (by decide) ?_
  refine PW.iconst (pc := 13) (v := nI 3) dX6_pitch_13 (by decide) ?_
  refine cs_X6_69 (pc := 14) hY.rm (c_X6_outside) ⟨Nat.le_of_ble_eq_true rfl, Nat.le_of_ble_eq_true rfl⟩ dX6_pitch_14 (Nat.le_of_ble_eq_true rfl) (fun x_14 u_14 h_14 => ?_)
  obtain ⟨rfl, hu_14⟩ := h_14
  replace hu_14 := hu_14.symm
  subst hu_14
  refine PW.if_eq (pc := 17) (tgt := 23) dX6_pitch_17 (by decide) (fun c_17 => ?_) (fun c_17 => PW.st rfl rfl rfl (bad20 (fun h => out_t c_17 h.2.1)))
  refine PW.iload_n (pc := 23) dX6_pitch_23 rfl ?_
  refine PW.iconst (pc := 24) (v := nI 0) dX6_pitch_24 (by decide) ?_
  refine PW.bipush (pc := 25) (v := nI 99) dX6_pitch_25 (by decide) ?_
  refine cs_X6_69 (pc := 27) hY.rm (c_X6_outside) ⟨Nat.le_of_ble_eq_true rfl, Nat.le_of_ble_eq_true rfl⟩ dX6_pitch_27 (Nat.le_of_ble_eq_true rfl) (fun x_27 u_27 h_27 => ?_)
  obtain ⟨rfl, hu_27⟩ := h_27
  replace hu_27 := hu_27.symm
  subst hu_27
  refine PW.if_ne (pc := 30) (tgt := 45) dX6_pitch_30 (by decide) (fun c_30 => PW.st rfl rfl rfl (bad45 (fun h => out_t c_30 h.2.2.1))) (fun c_30 => ?_)
  refine PW.iload (pc := 33) dX6_pitch_33 rfl ?_
  refine PW.iconst (pc := 35) (v := nI 0) dX6_pitch_35 (by decide) ?_
  refine PW.sipush (pc := 36) (v := nI 999) dX6_pitch_36 (by decide) ?_
  refine cs_X6_69 (pc := 39) hY.rm (c_X6_outside) ⟨Nat.le_of_ble_eq_true rfl, Nat.le_of_ble_eq_true rfl⟩ dX6_pitch_39 (Nat.le_of_ble_eq_true rfl) (fun x_39 u_39 h_39 => ?_)
  obtain ⟨rfl, hu_39⟩ := h_39
  replace hu_39 := hu_39.symm
  subst hu_39
  refine PW.if_eq (pc := 42) (tgt := 48) dX6_pitch_42 (by decide) (fun c_42 => ?_) (fun c_42 => PW.st rfl rfl rfl (bad45 (fun h => out_t c_42 h.2.2.2)))
  have hf := has_t hn c_8
  obtain ⟨f1, f2⟩ := okF_nat hf h10
  refine PW.aload_n (pc := 48) dX6_pitch_48 rfl ?_
  refine gf_X6_19 (pc := 49) dX6_pitch_49 ?_
  refine gf_X6_180 (pc := 52) dX6_pitch_52 ?_
  refine PW.iload_n (pc := 55) dX6_pitch_55 rfl ?_
  refine PW.iload_n (pc := 56) dX6_pitch_56 rfl ?_
  refine PW.iastN (pc := 57) rfl f1 (by omega) (by decide) dX6_pitch_57 ?_
  refine PW.aload_n (pc := 58) dX6_pitch_58 rfl ?_
  refine gf_X6_19 (pc := 59) dX6_pitch_59 ?_
  refine gf_X6_183 (pc := 62) dX6_pitch_62 ?_
  refine PW.iload_n (pc := 65) dX6_pitch_65 rfl ?_
  refine PW.iload_n (pc := 66) dX6_pitch_66 rfl ?_
  refine PW.iastN (pc := 67) rfl f1 (by omega) (by decide) dX6_pitch_67 ?_
  refine PW.aload_n (pc := 68) dX6_pitch_68 rfl ?_
  refine gf_X6_19 (pc := 69) dX6_pitch_69 ?_
  refine gf_X6_186 (pc := 72) dX6_pitch_72 ?_
  refine PW.iload_n (pc := 75) dX6_pitch_75 rfl ?_
  refine PW.iload (pc := 76) dX6_pitch_76 rfl ?_
  refine PW.iastN (pc := 78) rfl f1 (by omega) (by decide) dX6_pitch_78 ?_
  refine PW.iconst (pc := 79) (v := nI 1) dX6_pitch_79 (by decide) ?_
  refine PW.iret (pc := 80) hY ?_ dX6_pitch_80
  refine x_ri ?_
  rw [if_pos ⟨hf, out_f c_17, out_f c_30, out_f c_42⟩]
  exact ⟨rfl, rfl⟩
end
section
/-! the class's calls that use the ledger -/
theorem TB.up {M : xM} {n : Nat} {p k : Nat} {x : Int32} (h : TB M n) (hp : p ≠ 8 ∧ p ≠ 9 ∧ p ≠ 10 ∧ p ≠ 11 ∧ p ≠ 16 ∧ p ≠ 2 ∧ p ≠ 3 ∧ p ≠ 5 ∧ p ≠ 7 ∧ p ≠ 19) : TB (xup M p k x) n := by
  have e : ∀ q, q ≠ p → (xup M p k x).1 q = M.1 q := fun q hq => by simp [xup, hq]
  unfold TB FB ThB at *
  rw [e 8 (by omega), e 9 (by omega), e 10 (by omega), e 11 (by omega), e 16 (by omega), e 2 (by omega), e 3 (by omega), e 5 (by omega), e 7 (by omega), e 19 (by omega)]
  exact h
theorem TB.up16 {M : xM} {n j : Nat} {x : Int32} (h : TB M n) (hx : inr x (nI 0) (nI 500)) : TB (xup M 16 j x) n := by
  have e : ∀ q, q ≠ 16 → (xup M 16 j x).1 q = M.1 q := fun q hq => by simp [xup, hq]
  have h2 := h
  unfold TB FB ThB at *
  rw [e 8 (by omega), e 9 (by omega), e 10 (by omega), e 11 (by omega), e 2 (by omega), e 3 (by omega), e 5 (by omega), e 7 (by omega), e 19 (by omega)]
  refine ⟨h.1, h.2.1, fun f hf => ?_, h.2.2.2⟩
  obtain ⟨a1, a2, a3, a4, a5⟩ := h.2.2.1 f hf
  refine ⟨a1, a2, a3, a4, fun t ht => ?_⟩
  rw [xup_1]
  by_cases q : f * 6 + t = j
  · rw [if_pos ⟨rfl, q⟩]
    exact ⟨x_pos hx.1, na_le hx.1 hx.2 (by omega)⟩
  · rw [if_neg (fun z => q z.2)]
    exact a5 t ht
theorem pow_lt10 {j n : Nat} (hj : j < n) (h10 : n ≤ 10) : 2 ^ j < 1024 := Nat.pow_lt_pow_right (a := 2) (n := 10) (by omega) (by omega)
set_option maxHeartbeats 4000000 in
set_option maxRecDepth 20000 in
theorem c_X6_take {f : Int32} {n : Nat} {M : xM} (hB : TB M n) : K_X6_take [.ref 0, .int f] M (xRi (fun x u => if okF f n then (if M.1 12 (na f) = 0 ∧ LKn M n (TK M n ||| 2 ^ na f) = 0 then x = nI 1 ∧ ∃ v, xFr M v ∧ u = xup v 12 (na f) (nI 1) else x = (-3) ∧ xFr M u) else x = (-2) ∧ xFr M u)) := by
  refine xMet.of (own := RX6) rfl (by decide) (Nat.le_of_ble_eq_true rfl) rfl (fun Y hY => ?_)
  have hn := hB.has
  have h10 := hB.n10
  have bad : ¬ okF f n → P_X6_take Y 11 [] [] M := by
    intro h
    refine PW.bipush (pc := 11) (v := (-2)) dX6_take_11 (by decide) ?_
    refine PW.iret (pc := 13) hY ?_ dX6_take_13
    refine x_ri ?_
    rw [if_neg h]; exact ⟨rfl, xFr.rf⟩
  refine PW.aload_n (pc := 0) dX6_take_0 rfl ?_
  refine gf_X6_19 (pc := 1) dX6_take_1 ?_
  refine PW.iload_n (pc := 4) dX6_take_4 rfl ?_
  refine cs_X6_93 (pc := 5) hY.rm (c_X1_has) ⟨Nat.le_of_ble_eq_true rfl, Nat.le_of_ble_eq_true rfl⟩ dX6_take_5 (Nat.le_of_ble_eq_true rfl) (fun x_5 u_5 h_5 => ?_)
  obtain ⟨rfl, hu_5⟩ := h_5
  replace hu_5 := hu_5.symm
  subst hu_5
  refine PW.if_ne (pc := 8) (tgt := 14) dX6_take_8 (by decide) (fun c_8 => ?_) (fun c_8 => PW.st rfl rfl rfl (bad (has_f hn c_8)))
  have G := has_t hn c_8
  obtain ⟨f1, f2⟩ := okF_nat G h10
  clear c_8 bad
  revert f1 f2
  generalize na f = fN at *
  intro f1 f2
  subst f1
  refine PW.aload_n (pc := 14) dX6_take_14 rfl ?_
  refine gf_X6_19 (pc := 15) dX6_take_15 ?_
  refine gf_X6_96 (pc := 18) dX6_take_18 ?_
  refine PW.iload_n (pc := 21) dX6_take_21 rfl ?_
  refine PW.ialdN (pc := 22) rfl rfl (by omega) (by decide) dX6_take_22 ?_
  refine PW.if_ne (pc := 23) (tgt := 45) dX6_take_23 (by decide) (fun c_23 => ?_) (fun c_23 => ?_)
  · refine PW.bipush (pc := 45) (v := (-3)) dX6_take_45 (by decide) ?_
    refine PW.iret (pc := 47) hY ?_ dX6_take_47
    refine x_ri ?_
    rw [if_pos G, if_neg (fun q => c_23 q.1)]
    exact ⟨rfl, xFr.rf⟩
  · refine PW.aload_n (pc := 26) dX6_take_26 rfl ?_
    refine PW.aload_n (pc := 27) dX6_take_27 rfl ?_
    refine gf_X6_19 (pc := 28) dX6_take_28 ?_
    refine PW.iconst (pc := 31) (v := nI 1) dX6_take_31 (by decide) ?_
    refine cs_X6_110 (pc := 32) hY.rm (c_X1_setOf hn h10) ⟨Nat.le_of_ble_eq_true rfl, Nat.le_of_ble_eq_true rfl⟩ dX6_take_32 (Nat.le_of_ble_eq_true rfl) (fun x_32 u_32 h_32 => ?_)
    obtain ⟨rfl, hu_32⟩ := h_32
    replace hu_32 := hu_32.symm
    subst hu_32
    refine PW.iconst (pc := 35) (v := nI 1) dX6_take_35 (by decide) ?_
    refine PW.iload_n (pc := 36) dX6_take_36 rfl ?_
    refine PW.ishl (pc := 37) dX6_take_37 ?_
    rw [x_shl1 (by omega)]
    refine PW.ior (pc := 38) dX6_take_38 ?_
    rw [fa_or, show xset (M.1 12) (nI 1) n = TK M n from rfl]
    refine cs_X6_114 (pc := 39) hY.rm (c_X6_goTogether hB (or_lt (TK_lt hB) (pow_lt10 f2 h10))) ⟨Nat.le_of_ble_eq_true rfl, Nat.le_of_ble_eq_true rfl⟩ dX6_take_39 (Nat.le_of_ble_eq_true rfl) (fun x_39 u_39 h_39 => ?_)
    obtain ⟨hx, hF, hL⟩ := h_39
    subst hx
    refine PW.if_ne (pc := 42) (tgt := 48) dX6_take_42 (by decide) (fun c_42 => ?_) (fun c_42 => ?_)
    · have k := (hL.fit2).mp (bool_t c_42)
      refine PW.aload_n (pc := 48) dX6_take_48 rfl ?_
      refine gf_X6_19 (pc := 49) dX6_take_49 ?_
      refine gf_X6_96 (pc := 52) dX6_take_52 ?_
      refine PW.iload_n (pc := 55) dX6_take_55 rfl ?_
      refine PW.iconst (pc := 56) (v := nI 1) dX6_take_56 (by decide) ?_
      refine PW.iastN (pc := 57) rfl rfl (by omega) (by decide) dX6_take_57 ?_
      refine PW.iconst (pc := 58) (v := nI 1) dX6_take_58 (by decide) ?_
      refine PW.iret (pc := 59) hY ?_ dX6_take_59
      refine x_ri ?_
      rw [if_pos G, if_pos ⟨c_23, k⟩]
      exact ⟨rfl, _, hF, rfl⟩
    · have k := bool_f c_42
      rw [hL.fit2] at k
      refine PW.bipush (pc := 45) (v := (-3)) dX6_take_45 (by decide) ?_
      refine PW.iret (pc := 47) hY ?_ dX6_take_47
      refine x_ri ?_
      rw [if_pos G, if_neg (fun q => k q.2)]
      exact ⟨rfl, hF⟩
set_option maxHeartbeats 4000000 in
set_option maxRecDepth 20000 in
theorem c_X6_hire {f : Int32} {n : Nat} {M : xM} (hB : TB M n) : K_X6_hire [.ref 0, .int f] M (xRi (fun x u => if okF f n then (if M.1 12 (na f) = 0 then x = (lN (HSn (xup M 12 (na f) (nI 1)) n (TK (xup M 12 (na f) (nI 1)) n))).toInt32 ∧ xFr (xup M 12 (na f) (nI 1)) u else x = (-3) ∧ xFr M u) else x = (-2) ∧ xFr M u)) := by
  refine xMet.of (own := RX6) rfl (by decide) (Nat.le_of_ble_eq_true rfl) rfl (fun Y hY => ?_)
  have hn := hB.has
  have h10 := hB.n10
  have bad : ¬ okF f n → P_X6_hire Y 11 [] [] M := by
    intro h
    refine PW.bipush (pc := 11) (v := (-2)) dX6_hire_11 (by decide) ?_
    refine PW.iret (pc := 13) hY ?_ dX6_hire_13
    refine x_ri ?_
    rw [if_neg h]; exact ⟨rfl, xFr.rf⟩
  refine PW.aload_n (pc := 0) dX6_hire_0 rfl ?_
  refine gf_X6_19 (pc := 1) dX6_hire_1 ?_
  refine PW.iload_n (pc := 4) dX6_hire_4 rfl ?_
  refine cs_X6_93 (pc := 5) hY.rm (c_X1_has) ⟨Nat.le_of_ble_eq_true rfl, Nat.le_of_ble_eq_true rfl⟩ dX6_hire_5 (Nat.le_of_ble_eq_true rfl) (fun x_5 u_5 h_5 => ?_)
  obtain ⟨rfl, hu_5⟩ := h_5
  replace hu_5 := hu_5.symm
  subst hu_5
  refine PW.if_ne (pc := 8) (tgt := 14) dX6_hire_8 (by decide) (fun c_8 => ?_) (fun c_8 => PW.st rfl rfl rfl (bad (has_f hn c_8)))
  have G := has_t hn c_8
  obtain ⟨f1, f2⟩ := okF_nat G h10
  clear c_8 bad
  revert f1 f2
  generalize na f = fN at *
  intro f1 f2
  subst f1
  have hB1 : TB (xup M 12 fN (nI 1)) n := hB.up (by decide)
  refine PW.aload_n (pc := 14) dX6_hire_14 rfl ?_
  refine gf_X6_19 (pc := 15) dX6_hire_15 ?_
  refine gf_X6_96 (pc := 18) dX6_hire_18 ?_
  refine PW.iload_n (pc := 21) dX6_hire_21 rfl ?_
  refine PW.ialdN (pc := 22) rfl rfl (by omega) (by decide) dX6_hire_22 ?_
  refine PW.if_eq (pc := 23) (tgt := 29) dX6_hire_23 (by decide) (fun c_23 => ?_) (fun c_23 => ?_)
  · refine PW.aload_n (pc := 29) dX6_hire_29 rfl ?_
    refine gf_X6_19 (pc := 30) dX6_hire_30 ?_
    refine gf_X6_96 (pc := 33) dX6_hire_33 ?_
    refine PW.iload_n (pc := 36) dX6_hire_36 rfl ?_
    refine PW.iconst (pc := 37) (v := nI 1) dX6_hire_37 (by decide) ?_
    refine PW.iastN (pc := 38) rfl rfl (by omega) (by decide) dX6_hire_38 ?_
    refine PW.aload_n (pc := 39) dX6_hire_39 rfl ?_
    refine PW.aload_n (pc := 40) dX6_hire_40 rfl ?_
    refine gf_X6_19 (pc := 41) dX6_hire_41 ?_
    refine PW.iconst (pc := 44) (v := nI 1) dX6_hire_44 (by decide) ?_
    refine cs_X6_110 (pc := 45) hY.rm (c_X1_setOf hB1.has h10) ⟨Nat.le_of_ble_eq_true rfl, Nat.le_of_ble_eq_true rfl⟩ dX6_hire_45 (Nat.le_of_ble_eq_true rfl) (fun x_45 u_45 h_45 => ?_)
    obtain ⟨rfl, hu_45⟩ := h_45
    replace hu_45 := hu_45.symm
    subst hu_45
    rw [show xset ((xup M 12 fN (nI 1)).1 12) (nI 1) n = TK (xup M 12 fN (nI 1)) n from rfl]
    refine cs_X6_117 (pc := 48) hY.rm (c_X6_countAnew hB1 (TK_lt hB1)) ⟨Nat.le_of_ble_eq_true rfl, Nat.le_of_ble_eq_true rfl⟩ dX6_hire_48 (Nat.le_of_ble_eq_true rfl) (fun u_48 h_48 => ?_)
    obtain ⟨hF, hL⟩ := h_48
    refine PW.aload_n (pc := 51) dX6_hire_51 rfl ?_
    refine gf_X6_33 (pc := 52) dX6_hire_52 ?_
    refine gf_X6_121 (pc := 55) dX6_hire_55 ?_
    rw [show u_48.2 20 3 = lN (HSn (xup M 12 fN (nI 1)) n (TK (xup M 12 fN (nI 1)) n)) from hL.2.2.2]
    refine PW.l2i (pc := 58) dX6_hire_58 ?_
    refine PW.iret (pc := 59) hY ?_ dX6_hire_59
    refine x_ri ?_
    rw [if_pos G, if_pos c_23]
    exact ⟨rfl, hF⟩
  · refine PW.bipush (pc := 26) (v := (-3)) dX6_hire_26 (by decide) ?_
    refine PW.iret (pc := 28) hY ?_ dX6_hire_28
    refine x_ri ?_
    rw [if_pos G, if_neg c_23]
    exact ⟨rfl, xFr.rf⟩
set_option maxHeartbeats 4000000 in
set_option maxRecDepth 20000 in
theorem c_X6_change {f k v : Int32} {n : Nat} {M : xM} (hB : TB M n) : K_X6_change [.ref 0, .int f, .int k, .int v] M (xRi (fun x u => if okF f n ∧ isT k ∧ inr v (nI 0) (nI 500) then (if M.1 12 (na f) = nI 1 then x = xB (LKn (xup M 16 (na f * 6 + na k) v) n (TK M n) = 0) ∧ xFr (xup M 16 (na f * 6 + na k) v) u else x = (-3) ∧ xFr M u) else x = (-2) ∧ xFr M u)) := by
  refine xMet.of (own := RX6) rfl (by decide) (Nat.le_of_ble_eq_true rfl) rfl (fun Y hY => ?_)
  have hn := hB.has
  have h10 := hB.n10
  have bad29 : ¬ (okF f n ∧ isT k ∧ inr v (nI 0) (nI 500)) → P_X6_change Y 29 [] [] M := by
    intro h
    refine PW.bipush (pc := 29) (v := (-2)) dX6_change_29 (by decide) ?_
    refine PW.iret (pc := 31) hY ?_ dX6_change_31
    refine x_ri ?_
    rw [if_neg h]; exact ⟨rfl, xFr.rf⟩
  refine PW.aload_n (pc := 0) dX6_change_0 rfl ?_
  refine gf_X6_19 (pc := 1) dX6_change_1 ?_
  refine PW.iload_n (pc := 4) dX6_change_4 rfl ?_
  refine cs_X6_93 (pc := 5) hY.rm (c_X1_has) ⟨Nat.le_of_ble_eq_true rfl, Nat.le_of_ble_eq_true rfl⟩ dX6_change_5 (Nat.le_of_ble_eq_true rfl) (fun x_5 u_5 h_5 => ?_)
  obtain ⟨rfl, hu_5⟩ := h_5
  replace hu_5 := hu_5.symm
  subst hu_5
  refine PW.if_eq (pc := 8) (tgt := 29) dX6_change_8 (by decide) (fun c_8 => PW.st rfl rfl rfl (bad29 (fun h => has_f hn c_8 h.1))) (fun c_8 => ?_)
  refine PW.iload_n (pc := 11) dX6_change_11 rfl ?_
  refine cs_X6_65 (pc := 12) hY.rm (c_X6_isThing) ⟨Nat.le_of_ble_eq_true rfl, Nat.le_of_ble_eq_true rfl⟩ dX6_change_12 (Nat.le_of_ble_eq_true rfl) (fun x_12 u_12 h_12 => ?_)
  obtain ⟨rfl, hu_12⟩ := h_12
  replace hu_12 := hu_12.symm
  subst hu_12
  refine PW.if_eq (pc := 15) (tgt := 29) dX6_change_15 (by decide) (fun c_15 => PW.st rfl rfl rfl (bad29 (fun h => bool_f c_15 h.2.1))) (fun c_15 => ?_)
  refine PW.iload_n (pc := 18) dX6_change_18 rfl ?_
  refine PW.iconst (pc := 19) (v := nI 0) dX6_change_19 (by decide) ?_
  refine PW.sipush (pc := 20) (v := nI 500) dX6_change_20 (by decide) ?_
  refine cs_X6_69 (pc := 23) hY.rm (c_X6_outside) ⟨Nat.le_of_ble_eq_true rfl, Nat.le_of_ble_eq_true rfl⟩ dX6_change_23 (Nat.le_of_ble_eq_true rfl) (fun x_23 u_23 h_23 => ?_)
  obtain ⟨rfl, hu_23⟩ := h_23
  replace hu_23 := hu_23.symm
  subst hu_23
  refine PW.if_eq (pc := 26) (tgt := 32) dX6_change_26 (by decide) (fun c_26 => ?_) (fun c_26 => PW.st rfl rfl rfl (bad29 (fun h => out_t c_26 h.2.2)))
  have hf := has_t hn c_8
  have hk := bool_t c_15
  have hv := out_f c_26
  have f1 := x_pos hf.1
  have f2 := na_lt hf.1 hf.2 (by omega)
  have k1 := x_pos hk.1
  have k2 := na_lt hk.1 hk.2 (by omega)
  have G : okF f n ∧ isT k ∧ inr v (nI 0) (nI 500) := ⟨hf, hk, hv⟩
  clear bad29 c_8 c_15 c_26
  revert f1 k1
  generalize na f = fN at *
  generalize na k = kN at *
  intro f1 k1
  subst f1
  subst k1
  have hB1 : TB (xup M 16 (fN * 6 + kN) v) n := hB.up16 hv
  refine PW.aload_n (pc := 32) dX6_change_32 rfl ?_
  refine gf_X6_19 (pc := 33) dX6_change_33 ?_
  refine gf_X6_96 (pc := 36) dX6_change_36 ?_
  refine PW.iload_n (pc := 39) dX6_change_39 rfl ?_
  refine PW.ialdN (pc := 40) rfl rfl (by omega) (by decide) dX6_change_40 ?_
  refine PW.iconst (pc := 41) (v := nI 1) dX6_change_41 (by decide) ?_
  refine PW.icmp_eq (pc := 42) (tgt := 48) dX6_change_42 (by decide) (fun c_42 => ?_) (fun c_42 => ?_)
  · refine PW.aload_n (pc := 48) dX6_change_48 rfl ?_
    refine gf_X6_19 (pc := 49) dX6_change_49 ?_
    refine gf_X6_99 (pc := 52) dX6_change_52 ?_
    refine PW.iload_n (pc := 55) dX6_change_55 rfl ?_
    refine PW.iload_n (pc := 56) dX6_change_56 rfl ?_
    refine cs_X6_102 (pc := 57) hY.rm (c_X6_cell) ⟨Nat.le_of_ble_eq_true rfl, Nat.le_of_ble_eq_true rfl⟩ dX6_change_57 (Nat.le_of_ble_eq_true rfl) (fun x_57 u_57 h_57 => ?_)
    obtain ⟨rfl, hu_57⟩ := h_57
    replace hu_57 := hu_57.symm
    subst hu_57
    refine PW.iload_n (pc := 60) dX6_change_60 rfl ?_
    refine PW.iastN (pc := 61) rfl rfl (by omega) (by decide) dX6_change_61 ?_
    refine PW.aload_n (pc := 62) dX6_change_62 rfl ?_
    refine PW.aload_n (pc := 63) dX6_change_63 rfl ?_
    refine gf_X6_19 (pc := 64) dX6_change_64 ?_
    refine PW.iconst (pc := 67) (v := nI 1) dX6_change_67 (by decide) ?_
    refine cs_X6_110 (pc := 68) hY.rm (c_X1_setOf hB1.has h10) ⟨Nat.le_of_ble_eq_true rfl, Nat.le_of_ble_eq_true rfl⟩ dX6_change_68 (Nat.le_of_ble_eq_true rfl) (fun x_68 u_68 h_68 => ?_)
    obtain ⟨rfl, hu_68⟩ := h_68
    replace hu_68 := hu_68.symm
    subst hu_68
    rw [show xset ((xup M 16 (fN * 6 + kN) v).1 12) (nI 1) n = TK M n from rfl]
    refine cs_X6_114 (pc := 71) hY.rm (c_X6_goTogether hB1 (TK_lt hB)) ⟨Nat.le_of_ble_eq_true rfl, Nat.le_of_ble_eq_true rfl⟩ dX6_change_71 (Nat.le_of_ble_eq_true rfl) (fun x_71 u_71 h_71 => ?_)
    obtain ⟨hx, hF, hL⟩ := h_71
    subst hx
    refine cs_X6_125 (pc := 74) hY.rm (c_X6_bit) ⟨Nat.le_of_ble_eq_true rfl, Nat.le_of_ble_eq_true rfl⟩ dX6_change_74 (Nat.le_of_ble_eq_true rfl) (fun x_74 u_74 h_74 => ?_)
    obtain ⟨hx, hu⟩ := h_74
    rw [hu]
    refine PW.iret (pc := 77) hY ?_ dX6_change_77
    refine x_ri ?_
    rw [if_pos G, if_pos c_42]
    refine ⟨?_, hF⟩
    rw [hx]
    refine xB_iff ?_
    rw [← hL.fit2]
    constructor
    · intro q; exact xB_ne (P := u_71.1 20 2 = 0) rfl q
    · intro q; rw [xB_t q]; decide
  · refine PW.bipush (pc := 45) (v := (-3)) dX6_change_45 (by decide) ?_
    refine PW.iret (pc := 47) hY ?_ dX6_change_47
    refine x_ri ?_
    rw [if_pos G, if_neg c_42]
    exact ⟨rfl, xFr.rf⟩
set_option maxHeartbeats 4000000 in
set_option maxRecDepth 20000 in
theorem c_X6_lack {k d : Int32} {n : Nat} {M : xM} (hB : TB M n) : K_X6_lack [.ref 0, .int k, .int d] M (xRi (fun x u => (x = if isT k ∧ inr d (nI 0) (nI 65) then nI (SU M n (TK M n) (na k) (na d) - hh M (na k)) else (-2)) ∧ xFr M u)) := by
  refine xMet.of (own := RX6) rfl (by decide) (Nat.le_of_ble_eq_true rfl) rfl (fun Y hY => ?_)
  have hn := hB.has
  have h10 := hB.n10
  have bad : ¬ (isT k ∧ inr d (nI 0) (nI 65)) → P_X6_lack Y 17 [] [] M := by
    intro h
    refine PW.bipush (pc := 17) (v := (-2)) dX6_lack_17 (by decide) ?_
    refine PW.iret (pc := 19) hY ?_ dX6_lack_19
    refine x_ri ?_
    rw [if_neg h]; exact ⟨rfl, xFr.rf⟩
  refine PW.iload_n (pc := 0) dX6_lack_0 rfl ?_
  refine cs_X6_65 (pc := 1) hY.rm (c_X6_isThing) ⟨Nat.le_of_ble_eq_true rfl, Nat.le_of_ble_eq_true rfl⟩ dX6_lack_1 (Nat.le_of_ble_eq_true rfl) (fun x_1 u_1 h_1 => ?_)
  obtain ⟨rfl, hu_1⟩ := h_1
  replace hu_1 := hu_1.symm
  subst hu_1
  refine PW.if_eq (pc := 4) (tgt := 17) dX6_lack_4 (by decide) (fun c_4 => PW.st rfl rfl rfl (bad (fun h => bool_f c_4 h.1))) (fun c_4 => ?_)
  refine PW.iload_n (pc := 7) dX6_lack_7 rfl ?_
  refine PW.iconst (pc := 8) (v := nI 0) dX6_lack_8 (by decide) ?_
  refine PW.bipush (pc := 9) (v := nI 65) dX6_lack_9 (by decide) ?_
  refine cs_X6_69 (pc := 11) hY.rm (c_X6_outside) ⟨Nat.le_of_ble_eq_true rfl, Nat.le_of_ble_eq_true rfl⟩ dX6_lack_11 (Nat.le_of_ble_eq_true rfl) (fun x_11 u_11 h_11 => ?_)
  obtain ⟨rfl, hu_11⟩ := h_11
  replace hu_11 := hu_11.symm
  subst hu_11
  refine PW.if_eq (pc := 14) (tgt := 20) dX6_lack_14 (by decide) (fun c_14 => ?_) (fun c_14 => PW.st rfl rfl rfl (bad (fun h => out_t c_14 h.2)))
  have hk := bool_t c_4
  have hd := out_f c_14
  have k1 := x_pos hk.1
  have k2 := na_lt hk.1 hk.2 (by omega)
  have d1 := x_pos hd.1
  have d2 := na_le hd.1 hd.2 (by omega)
  have G : isT k ∧ inr d (nI 0) (nI 65) := ⟨hk, hd⟩
  clear bad c_4 c_14
  revert d1 k1
  generalize na d = dN at *
  generalize na k = kN at *
  intro d1 k1
  subst d1
  subst k1
  refine PW.aload_n (pc := 20) dX6_lack_20 rfl ?_
  refine PW.aload_n (pc := 21) dX6_lack_21 rfl ?_
  refine gf_X6_19 (pc := 22) dX6_lack_22 ?_
  refine PW.iconst (pc := 25) (v := nI 1) dX6_lack_25 (by decide) ?_
  refine cs_X6_110 (pc := 26) hY.rm (c_X1_setOf hn h10) ⟨Nat.le_of_ble_eq_true rfl, Nat.le_of_ble_eq_true rfl⟩ dX6_lack_26 (Nat.le_of_ble_eq_true rfl) (fun x_26 u_26 h_26 => ?_)
  obtain ⟨rfl, hu_26⟩ := h_26
  replace hu_26 := hu_26.symm
  subst hu_26
  rw [show xset (M.1 12) (nI 1) n = TK M n from rfl]
  refine cs_X6_117 (pc := 29) hY.rm (c_X6_countAnew hB (TK_lt hB)) ⟨Nat.le_of_ble_eq_true rfl, Nat.le_of_ble_eq_true rfl⟩ dX6_lack_29 (Nat.le_of_ble_eq_true rfl) (fun u_29 h_29 => ?_)
  obtain ⟨hF, hL⟩ := h_29
  refine PW.iconst (pc := 32) (v := nI 0) dX6_lack_32 (by decide) ?_
  refine PW.aload_n (pc := 33) dX6_lack_33 rfl ?_
  refine gf_X6_33 (pc := 34) dX6_lack_34 ?_
  refine gf_X6_138 (pc := 37) dX6_lack_37 ?_
  refine PW.iload_n (pc := 40) dX6_lack_40 rfl ?_
  refine PW.bipush (pc := 41) (v := nI 66) dX6_lack_41 (by decide) ?_
  refine PW.imul (pc := 43) dX6_lack_43 ?_
  refine PW.iload_n (pc := 44) dX6_lack_44 rfl ?_
  refine PW.iadd (pc := 45) dX6_lack_45 ?_
  refine PW.ialdN (pc := 46) rfl (by rw [pk_mul, nI_add]) (by omega) (by decide) dX6_lack_46 ?_
  refine PW.aload_n (pc := 47) dX6_lack_47 rfl ?_
  refine gf_X6_12 (pc := 48) dX6_lack_48 ?_
  refine PW.iload_n (pc := 51) dX6_lack_51 rfl ?_
  refine cs_X6_141 (pc := 52) hY.rm (c_X5_have k2) ⟨Nat.le_of_ble_eq_true rfl, Nat.le_of_ble_eq_true rfl⟩ dX6_lack_52 (Nat.le_of_ble_eq_true rfl) (fun x_52 u_52 h_52 => ?_)
  obtain ⟨rfl, hu_52⟩ := h_52
  replace hu_52 := hu_52.symm
  subst hu_52
  rw [hv_hh (hB.fr hF) k2, (bits_us (n := n) hF).2.1, hL.2.1 kN dN k2 (by omega)]
  refine PW.isub (pc := 55) dX6_lack_55 ?_
  refine PW.mmax (pc := 56) (idx := 144) hY.rm (by decide) (by decide) (by decide +kernel) dX6_lack_56 (Nat.le_of_ble_eq_true rfl) ?_
  have h5 := psum_le (d := dN) hB (fun g => (TK M n).testBit g) k2
  have h6 := hh_le hB k2
  rw [show (if nI 0 < nI (SU M n (TK M n) kN dN) - nI (hh M kN) then nI (SU M n (TK M n) kN dN) - nI (hh M kN) else nI 0) = nI (SU M n (TK M n) kN dN - hh M kN) from x_max0 (show nsum _ n < 2 ^ 30 by omega) (by omega)]
  refine PW.iret (pc := 59) hY ?_ dX6_lack_59
  refine x_ri ?_
  rw [if_pos G]
  exact ⟨rfl, hF⟩
abbrev okS (s : Int32) (n : Nat) : Prop := 0 ≤ s ∧ s < nI (2 ^ n)
theorem okS_nat {s : Int32} {n : Nat} (h : okS s n) (h10 : n ≤ 10) : s = nI (na s) ∧ na s < 1024 := by
  have : 2 ^ n ≤ 1024 := Nat.pow_le_pow_right (show 0 < 2 by omega) h10
  exact ⟨x_pos h.1, Nat.lt_of_lt_of_le (na_lt h.1 h.2 (by omega)) this⟩
theorem all_t {s v : Int32} {n : Nat} (hn : v = nI n) (h10 : n ≤ 10) (c : ¬ xB (0 ≤ s ∧ s < (nI 1 <<< (v &&& 31))) = 0) : okS s n := by
  rw [hn, x_shl1 (by omega)] at c; exact xB_ne rfl c
theorem all_f {s v : Int32} {n : Nat} (hn : v = nI n) (h10 : n ≤ 10) (c : xB (0 ≤ s ∧ s < (nI 1 <<< (v &&& 31))) = 0) : ¬ okS s n := by
  rw [hn, x_shl1 (by omega)] at c; exact xB_eq rfl c
set_option maxHeartbeats 4000000 in
set_option maxRecDepth 20000 in
theorem c_X6_fits {s : Int32} {n : Nat} {M : xM} (hB : TB M n) : K_X6_fits [.ref 0, .int s] M (xRi (fun x u => (x = if okS s n then xB (LKn M n (na s) = 0) else (-2)) ∧ xFr M u)) := by
  refine xMet.of (own := RX6) rfl (by decide) (Nat.le_of_ble_eq_true rfl) rfl (fun Y hY => ?_)
  have hn := hB.has
  have h10 := hB.n10
  have bad : ¬ okS s n → P_X6_fits Y 22 [] [] M := by
    intro h
    refine PW.bipush (pc := 22) (v := (-2)) dX6_fits_22 (by decide) ?_
    refine PW.iret (pc := 24) hY ?_ dX6_fits_24
    refine x_ri ?_
    rw [if_neg h]; exact ⟨rfl, xFr.rf⟩
  refine PW.aload_n (pc := 0) dX6_fits_0 rfl ?_
  refine gf_X6_19 (pc := 1) dX6_fits_1 ?_
  refine PW.iload_n (pc := 4) dX6_fits_4 rfl ?_
  refine cs_X6_149 (pc := 5) hY.rm (c_X1_hasAll) ⟨Nat.le_of_ble_eq_true rfl, Nat.le_of_ble_eq_true rfl⟩ dX6_fits_5 (Nat.le_of_ble_eq_true rfl) (fun x_5 u_5 h_5 => ?_)
  obtain ⟨rfl, hu_5⟩ := h_5
  replace hu_5 := hu_5.symm
  subst hu_5
  refine PW.if_eq (pc := 8) (tgt := 22) dX6_fits_8 (by decide) (fun c_8 => PW.st rfl rfl rfl (bad (all_f hn h10 c_8))) (fun c_8 => ?_)
  have G := all_t hn h10 c_8
  obtain ⟨s1, s2⟩ := okS_nat G h10
  clear bad c_8
  revert s1
  generalize na s = sN at *
  intro s1
  subst s1
  refine PW.aload_n (pc := 11) dX6_fits_11 rfl ?_
  refine PW.iload_n (pc := 12) dX6_fits_12 rfl ?_
  refine cs_X6_114 (pc := 13) hY.rm (c_X6_goTogether hB s2) ⟨Nat.le_of_ble_eq_true rfl, Nat.le_of_ble_eq_true rfl⟩ dX6_fits_13 (Nat.le_of_ble_eq_true rfl) (fun x_13 u_13 h_13 => ?_)
  obtain ⟨hx, hF, hL⟩ := h_13
  subst hx
  refine cs_X6_125 (pc := 16) hY.rm (c_X6_bit) ⟨Nat.le_of_ble_eq_true rfl, Nat.le_of_ble_eq_true rfl⟩ dX6_fits_16 (Nat.le_of_ble_eq_true rfl) (fun x_16 u_16 h_16 => ?_)
  obtain ⟨hx, hu⟩ := h_16
  rw [hu]
  refine PW.goto (pc := 19) (tgt := 24) dX6_fits_19 (by decide) ?_
  refine PW.iret (pc := 24) hY ?_ dX6_fits_24
  refine x_ri ?_
  rw [if_pos G]
  refine ⟨?_, hF⟩
  rw [hx]
  refine xB_iff ?_
  rw [← hL.fit2]
  constructor
  · intro q; exact xB_ne (P := u_13.1 20 2 = 0) rfl q
  · intro q; rw [xB_t q]; decide
set_option maxHeartbeats 4000000 in
set_option maxRecDepth 20000 in
theorem c_X6_hired {s : Int32} {n : Nat} {M : xM} (hB : TB M n) : K_X6_hired [.ref 0, .int s] M (xRl (fun x u => (x = if okS s n then lN (HSn M n (na s)) else (-2)) ∧ xFr M u)) := by
  refine xMet.of (own := RX6) rfl (by decide) (Nat.le_of_ble_eq_true rfl) rfl (fun Y hY => ?_)
  have hn := hB.has
  have h10 := hB.n10
  have bad : ¬ okS s n → P_X6_hired Y 11 [] [] M := by
    intro h
    refine PW.ldc2 (pc := 11) (v := (-2)) (by decide +kernel) dX6_hired_11 ?_
    refine PW.lret (pc := 14) hY ?_ dX6_hired_14
    refine x_rl ?_
    rw [if_neg h]; exact ⟨rfl, xFr.rf⟩
  refine PW.aload_n (pc := 0) dX6_hired_0 rfl ?_
  refine gf_X6_19 (pc := 1) dX6_hired_1 ?_
  refine PW.iload_n (pc := 4) dX6_hired_4 rfl ?_
  refine cs_X6_149 (pc := 5) hY.rm (c_X1_hasAll) ⟨Nat.le_of_ble_eq_true rfl, Nat.le_of_ble_eq_true rfl⟩ dX6_hired_5 (Nat.le_of_ble_eq_true rfl) (fun x_5 u_5 h_5 => ?_)
  obtain ⟨rfl, hu_5⟩ := h_5
  replace hu_5 := hu_5.symm
  subst hu_5
  refine PW.if_ne (pc := 8) (tgt := 15) dX6_hired_8 (by decide) (fun c_8 => ?_) (fun c_8 => PW.st rfl rfl rfl (bad (all_f hn h10 c_8)))
  have G := all_t hn h10 c_8
  obtain ⟨s1, s2⟩ := okS_nat G h10
  clear bad c_8
  revert s1
  generalize na s = sN at *
  intro s1
  subst s1
  refine PW.aload_n (pc := 15) dX6_hired_15 rfl ?_
  refine PW.iload_n (pc := 16) dX6_hired_16 rfl ?_
  refine cs_X6_117 (pc := 17) hY.rm (c_X6_countAnew hB s2) ⟨Nat.le_of_ble_eq_true rfl, Nat.le_of_ble_eq_true rfl⟩ dX6_hired_17 (Nat.le_of_ble_eq_true rfl) (fun u_17 h_17 => ?_)
  obtain ⟨hF, hL⟩ := h_17
  refine PW.aload_n (pc := 20) dX6_hired_20 rfl ?_
  refine gf_X6_33 (pc := 21) dX6_hired_21 ?_
  refine gf_X6_121 (pc := 24) dX6_hired_24 ?_
  rw [show u_17.2 20 3 = lN (HSn M n sN) from hL.2.2.2]
  refine PW.lret (pc := 27) hY ?_ dX6_hired_27
  refine x_rl ?_
  rw [if_pos G]
  exact ⟨rfl, hF⟩
end
section
/-! gusts, loads, counts, the digest -/
def TC (M : xM) : Prop := (∀ j, j < 10 → rng (M.1 13 j) 3 ∧ rng (M.1 14 j) 99 ∧ rng (M.1 15 j) 999) ∧ ∀ s, s < 4 → rng (M.1 31 s) 1000
abbrev stP (ba ho so sk : Nat → Int32) (j : Nat) (v : Int32) : Prop := v * v * ba j ≤ ho (na (so j)) * sk j
set_option maxHeartbeats 4000000 in
set_option maxRecDepth 20000 in
theorem c_X6_stands {j : Nat} {v : Int32} {M : xM} (hC : TC M) (hj : j < 10) : K_X6_stands [.ref 0, .int (nI j), .int v] M (xRi (fun x u => x = xB (stP (M.1 14) (M.1 31) (M.1 13) (M.1 15) j v) ∧ u = M)) := by
  refine xMet.of (own := RX6) rfl (by decide) (Nat.le_of_ble_eq_true rfl) rfl (fun Y hY => ?_)
  obtain ⟨s1, s2⟩ := (hC.1 j hj).1
  refine PW.iload_n (pc := 0) dX6_stands_0 rfl ?_
  refine PW.iload_n (pc := 1) dX6_stands_1 rfl ?_
  refine PW.imul (pc := 2) dX6_stands_2 ?_
  refine PW.aload_n (pc := 3) dX6_stands_3 rfl ?_
  refine gf_X6_19 (pc := 4) dX6_stands_4 ?_
  refine gf_X6_183 (pc := 7) dX6_stands_7 ?_
  refine PW.iload_n (pc := 10) dX6_stands_10 rfl ?_
  refine PW.ialdN (pc := 11) rfl rfl (by omega) (by decide) dX6_stands_11 ?_
  refine PW.imul (pc := 12) dX6_stands_12 ?_
  refine PW.aload_n (pc := 13) dX6_stands_13 rfl ?_
  refine gf_X6_51 (pc := 14) dX6_stands_14 ?_
  refine PW.aload_n (pc := 17) dX6_stands_17 rfl ?_
  refine gf_X6_19 (pc := 18) dX6_stands_18 ?_
  refine gf_X6_180 (pc := 21) dX6_stands_21 ?_
  refine PW.iload_n (pc := 24) dX6_stands_24 rfl ?_
  refine PW.ialdN (pc := 25) rfl rfl (by omega) (by decide) dX6_stands_25 ?_
  refine PW.ialdN (pc := 26) rfl s1 (by omega) (by decide) dX6_stands_26 ?_
  refine PW.aload_n (pc := 27) dX6_stands_27 rfl ?_
  refine gf_X6_19 (pc := 28) dX6_stands_28 ?_
  refine gf_X6_186 (pc := 31) dX6_stands_31 ?_
  refine PW.iload_n (pc := 34) dX6_stands_34 rfl ?_
  refine PW.ialdN (pc := 35) rfl rfl (by omega) (by decide) dX6_stands_35 ?_
  refine PW.imul (pc := 36) dX6_stands_36 ?_
  refine PW.icmp_gt (pc := 37) (tgt := 44) dX6_stands_37 (by decide) (fun c_37 => ?_) (fun c_37 => ?_)
  · refine PW.iconst (pc := 44) (v := nI 0) dX6_stands_44 (by decide) ?_
    refine PW.zret (pc := 45) hY (by decide) ?_ dX6_stands_45
    exact x_zf (x_nl c_37)
  · refine PW.iconst (pc := 40) (v := nI 1) dX6_stands_40 (by decide) ?_
    refine PW.goto (pc := 41) (tgt := 45) dX6_stands_41 (by decide) ?_
    refine PW.zret (pc := 45) hY (by decide) ?_ dX6_stands_45
    exact x_zt (x_ge c_37)
/-- the greatest v at most k of which P holds, 0 if none -/
def topF (P : Nat → Bool) : Nat → Nat
  | 0 => 0
  | v + 1 => if P (v + 1) = true then v + 1 else topF P v
set_option maxHeartbeats 4000000 in
set_option maxRecDepth 20000 in
theorem c_X6_bears {f : Int32} {n : Nat} {M : xM} (hn : M.1 8 9 = nI n) (h10 : n ≤ 10) (hC : TC M) : K_X6_bears [.ref 0, .int f] M (xRi (fun x u => (x = if okF f n then nI (topF (fun v => decide (stP (M.1 14) (M.1 31) (M.1 13) (M.1 15) (na f) (nI v))) 60) else (-2)) ∧ u = M)) := by
  refine xMet.of (own := RX6) rfl (by decide) (Nat.le_of_ble_eq_true rfl) rfl (fun Y hY => ?_)
  have bad : ¬ okF f n → P_X6_bears Y 11 [] [] M := by
    intro h
    refine PW.bipush (pc := 11) (v := (-2)) dX6_bears_11 (by decide) ?_
    refine PW.iret (pc := 13) hY ?_ dX6_bears_13
    refine x_ri ?_
    rw [if_neg h]; exact ⟨rfl, rfl⟩
  refine PW.aload_n (pc := 0) dX6_bears_0 rfl ?_
  refine gf_X6_19 (pc := 1) dX6_bears_1 ?_
  refine PW.iload_n (pc := 4) dX6_bears_4 rfl ?_
  refine cs_X6_93 (pc := 5) hY.rm (c_X1_has) ⟨Nat.le_of_ble_eq_true rfl, Nat.le_of_ble_eq_true rfl⟩ dX6_bears_5 (Nat.le_of_ble_eq_true rfl) (fun x_5 u_5 h_5 => ?_)
  obtain ⟨rfl, hu_5⟩ := h_5
  replace hu_5 := hu_5.symm
  subst hu_5
  refine PW.if_ne (pc := 8) (tgt := 14) dX6_bears_8 (by decide) (fun c_8 => ?_) (fun c_8 => PW.st rfl rfl rfl (bad (has_f hn c_8)))
  have G := has_t hn c_8
  obtain ⟨f1, f2⟩ := okF_nat G h10
  clear c_8 bad
  revert f1 f2
  generalize na f = fN at *
  intro f1 f2
  subst f1
  have loop : ∀ v, v ≤ 60 → topF (fun v => decide (stP (M.1 14) (M.1 31) (M.1 13) (M.1 15) fN (nI v))) v = topF (fun v => decide (stP (M.1 14) (M.1 31) (M.1 13) (M.1 15) fN (nI v))) 60 → P_X6_bears Y 17 [(0, .ref 0), (1, .int (nI fN)), (2, .int (nI v))] [] M := by
    intro v
    induction v with
    | zero =>
      intro _ e
      refine PW.iload_n (pc := 17) dX6_bears_17 rfl ?_
      refine PW.if_le (pc := 18) (tgt := 36) dX6_bears_18 (by decide) (fun _ => ?_) (fun c => absurd ((Int32.le_refl _)) c)
      refine PW.iload_n (pc := 36) dX6_bears_36 rfl ?_
      refine PW.iret (pc := 37) hY ?_ dX6_bears_37
      refine x_ri ?_
      rw [if_pos G, ← e]
      exact ⟨rfl, rfl⟩
    | succ v ih =>
      intro hv e
      refine PW.iload_n (pc := 17) dX6_bears_17 rfl ?_
      refine PW.if_le (pc := 18) (tgt := 36) dX6_bears_18 (by decide) (fun c => absurd c ((nI_nle (by omega) (by omega)))) (fun _ => ?_)
      refine PW.aload_n (pc := 21) dX6_bears_21 rfl ?_
      refine PW.iload_n (pc := 22) dX6_bears_22 rfl ?_
      refine PW.iload_n (pc := 23) dX6_bears_23 rfl ?_
      refine cs_X6_189 (pc := 24) hY.rm (c_X6_stands hC (by omega)) ⟨Nat.le_of_ble_eq_true rfl, Nat.le_of_ble_eq_true rfl⟩ dX6_bears_24 (Nat.le_of_ble_eq_true rfl) (fun x_24 u_24 h_24 => ?_)
      obtain ⟨rfl, hu_24⟩ := h_24
      replace hu_24 := hu_24.symm
      subst hu_24
      refine PW.if_ne (pc := 27) (tgt := 36) dX6_bears_27 (by decide) (fun c_27 => ?_) (fun c_27 => ?_)
      · have k := bool_t c_27
        refine PW.iload_n (pc := 36) dX6_bears_36 rfl ?_
        refine PW.iret (pc := 37) hY ?_ dX6_bears_37
        refine x_ri ?_
        rw [if_pos G, ← e, topF, if_pos (by simp [k])]
        exact ⟨rfl, rfl⟩
      · have k := bool_f c_27
        refine PW.iinc (pc := 30) dX6_bears_30 rfl (x_dec1 v) (by decide) rfl ?_
        refine PW.goto (pc := 33) (tgt := 17) dX6_bears_33 (by decide) ?_
        refine PW.st rfl rfl rfl (ih (by omega) ?_)
        rw [← e, topF, if_neg (by simp [k])]
  refine PW.bipush (pc := 14) (v := nI 60) dX6_bears_14 (by decide) ?_
  refine PW.istore_n (pc := 16) (i := 2) dX6_bears_16 rfl (by decide) rfl ?_
  exact PW.st rfl rfl rfl (loop 60 (Nat.le_refl _) rfl)
def guP (st fr ls ba ho so sk : Nat → Int32) (d v : Int32) (g : Nat) : Bool := decide (st g = nI 1 ∧ fr g ≤ d ∧ d ≤ ls g ∧ ¬ stP ba ho so sk g v)
set_option maxHeartbeats 4000000 in
set_option maxRecDepth 20000 in
theorem c_X6_gust {d v : Int32} {n : Nat} {M : xM} (hn : M.1 8 9 = nI n) (h10 : n ≤ 10) (hC : TC M) : K_X6_gust [.ref 0, .int d, .int v] M (xRi (fun x u => (x = if inr d (nI 0) (nI 60) ∧ inr v (nI 0) (nI 60) then nI (bset (guP (M.1 12) (M.1 9) (M.1 10) (M.1 14) (M.1 31) (M.1 13) (M.1 15) d v) n) else (-2)) ∧ u = M)) := by
  refine xMet.of (own := RX6) rfl (by decide) (Nat.le_of_ble_eq_true rfl) rfl (fun Y hY => ?_)
  have bad : ¬ (inr d (nI 0) (nI 60) ∧ inr v (nI 0) (nI 60)) → P_X6_gust Y 20 [] [] M := by
    intro h
    refine PW.bipush (pc := 20) (v := (-2)) dX6_gust_20 (by decide) ?_
    refine PW.iret (pc := 22) hY ?_ dX6_gust_22
    refine x_ri ?_
    rw [if_neg h]; exact ⟨rfl, rfl⟩
  refine PW.iload_n (pc := 0) dX6_gust_0 rfl ?_
  refine PW.iconst (pc := 1) (v := nI 0) dX6_gust_1 (by decide) ?_
  refine PW.bipush (pc := 2) (v := nI 60) dX6_gust_2 (by decide) ?_
  refine cs_X6_69 (pc := 4) hY.rm (c_X6_outside) ⟨Nat.le_of_ble_eq_true rfl, Nat.le_of_ble_eq_true rfl⟩ dX6_gust_4 (Nat.le_of_ble_eq_true rfl) (fun x_4 u_4 h_4 => ?_)
  obtain ⟨rfl, hu_4⟩ := h_4
  replace hu_4 := hu_4.symm
  subst hu_4
  refine PW.if_ne (pc := 7) (tgt := 20) dX6_gust_7 (by decide) (fun c_7 => PW.st rfl rfl rfl (bad (fun h => out_t c_7 h.1))) (fun c_7 => ?_)
  refine PW.iload_n (pc := 10) dX6_gust_10 rfl ?_
  refine PW.iconst (pc := 11) (v := nI 0) dX6_gust_11 (by decide) ?_
  refine PW.bipush (pc := 12) (v := nI 60) dX6_gust_12 (by decide) ?_
  refine cs_X6_69 (pc := 14) hY.rm (c_X6_outside) ⟨Nat.le_of_ble_eq_true rfl, Nat.le_of_ble_eq_true rfl⟩ dX6_gust_14 (Nat.le_of_ble_eq_true rfl) (fun x_14 u_14 h_14 => ?_)
  obtain ⟨rfl, hu_14⟩ := h_14
  replace hu_14 := hu_14.symm
  subst hu_14
  refine PW.if_eq (pc := 17) (tgt := 23) dX6_gust_17 (by decide) (fun c_17 => ?_) (fun c_17 => PW.st rfl rfl rfl (bad (fun h => out_t c_17 h.2)))
  have G : inr d (nI 0) (nI 60) ∧ inr v (nI 0) (nI 60) := ⟨out_f c_7, out_f c_17⟩
  clear bad c_7 c_17
  generalize hP : guP (M.1 12) (M.1 9) (M.1 10) (M.1 14) (M.1 31) (M.1 13) (M.1 15) d v = P at *
  have loop : ∀ g, g ≤ n → P_X6_gust Y 28 [(0, .ref 0), (1, .int d), (2, .int v), (3, .int (nI (bset P g))), (4, .int (nI g))] [] M := by
    refine x_down ?_ ?_
    · refine PW.iload (pc := 28) dX6_gust_28 rfl ?_
      refine PW.aload_n (pc := 30) dX6_gust_30 rfl ?_
      refine gf_X6_19 (pc := 31) dX6_gust_31 ?_
      refine gf_X6_193 (pc := 34) dX6_gust_34 ?_
      refine PW.icmp_ge (pc := 37) (tgt := 117) dX6_gust_37 (by decide) (fun _ => ?_) (fun c => absurd ((by rw [hn]; exact nI_le (Nat.le_refl _) (by omega))) c)
      refine PW.iload_n (pc := 117) dX6_gust_117 rfl ?_
      refine PW.iret (pc := 118) hY ?_ dX6_gust_118
      refine x_ri ?_
      rw [if_pos G]
      exact ⟨rfl, rfl⟩
    · intro g hg ih
      have at111 : ∀ w, nI w = nI (bset P (g + 1)) → P_X6_gust Y 111 [(0, .ref 0), (1, .int d), (2, .int v), (3, .int (nI w)), (4, .int (nI g))] [] M := by
        intro w hw
        rw [hw]
        refine PW.iinc (pc := 111) dX6_gust_111 rfl (x_inc1 _) (by decide) rfl ?_
        refine PW.goto (pc := 114) (tgt := 28) dX6_gust_114 (by decide) ?_
        exact PW.st rfl rfl rfl ih
      have no : P g = false → nI (bset P g) = nI (bset P (g + 1)) := by
        intro q
        rw [bset, if_neg (by rw [q]; simp), Nat.or_zero]
      have at86 : P g = false → P_X6_gust Y 86 [(0, .ref 0), (1, .int d), (2, .int v), (3, .int (nI (bset P g))), (4, .int (nI g))] [] M := by
        intro q
        refine PW.iconst (pc := 86) (v := nI 0) dX6_gust_86 (by decide) ?_
        refine PW.istore (pc := 87) dX6_gust_87 (by decide) rfl ?_
        refine PW.iload (pc := 89) dX6_gust_89 rfl ?_
        refine PW.if_eq (pc := 91) (tgt := 111) dX6_gust_91 (by decide) (fun _ => ?_) (fun c => absurd (rfl) c)
        exact PW.st rfl rfl rfl (at111 _ (no q))
      refine PW.iload (pc := 28) dX6_gust_28 rfl ?_
      refine PW.aload_n (pc := 30) dX6_gust_30 rfl ?_
      refine gf_X6_19 (pc := 31) dX6_gust_31 ?_
      refine gf_X6_193 (pc := 34) dX6_gust_34 ?_
      refine PW.icmp_ge (pc := 37) (tgt := 117) dX6_gust_37 (by decide) (fun c => absurd c ((by rw [hn]; exact nI_ge hg (by omega)))) (fun _ => ?_)
      refine PW.aload_n (pc := 40) dX6_gust_40 rfl ?_
      refine gf_X6_19 (pc := 41) dX6_gust_41 ?_
      refine gf_X6_96 (pc := 44) dX6_gust_44 ?_
      refine PW.iload (pc := 47) dX6_gust_47 rfl ?_
      refine PW.ialdN (pc := 49) rfl rfl (by omega) (by decide) dX6_gust_49 ?_
      refine PW.iconst (pc := 50) (v := nI 1) dX6_gust_50 (by decide) ?_
      refine PW.icmp_ne (pc := 51) (tgt := 86) dX6_gust_51 (by decide) (fun c_51 => ?_) (fun c_51 => ?_)
      · exact PW.st rfl rfl rfl (at86 (by rw [← hP]; simp [guP, c_51]))
      · refine PW.aload_n (pc := 54) dX6_gust_54 rfl ?_
        refine gf_X6_19 (pc := 55) dX6_gust_55 ?_
        refine gf_X6_194 (pc := 58) dX6_gust_58 ?_
        refine PW.iload (pc := 61) dX6_gust_61 rfl ?_
        refine PW.ialdN (pc := 63) rfl rfl (by omega) (by decide) dX6_gust_63 ?_
        refine PW.iload_n (pc := 64) dX6_gust_64 rfl ?_
        refine PW.icmp_gt (pc := 65) (tgt := 86) dX6_gust_65 (by decide) (fun c_65 => ?_) (fun c_65 => ?_)
        · exact PW.st rfl rfl rfl (at86 (by rw [← hP]; simp [guP, x_nl c_65]))
        · refine PW.iload_n (pc := 68) dX6_gust_68 rfl ?_
          refine PW.aload_n (pc := 69) dX6_gust_69 rfl ?_
          refine gf_X6_19 (pc := 70) dX6_gust_70 ?_
          refine gf_X6_197 (pc := 73) dX6_gust_73 ?_
          refine PW.iload (pc := 76) dX6_gust_76 rfl ?_
          refine PW.ialdN (pc := 78) rfl rfl (by omega) (by decide) dX6_gust_78 ?_
          refine PW.icmp_gt (pc := 79) (tgt := 86) dX6_gust_79 (by decide) (fun c_79 => ?_) (fun c_79 => ?_)
          · exact PW.st rfl rfl rfl (at86 (by rw [← hP]; simp [guP, x_nl c_79]))
          · refine PW.iconst (pc := 82) (v := nI 1) dX6_gust_82 (by decide) ?_
            refine PW.goto (pc := 83) (tgt := 87) dX6_gust_83 (by decide) ?_
            refine PW.istore (pc := 87) dX6_gust_87 (by decide) rfl ?_
            refine PW.iload (pc := 89) dX6_gust_89 rfl ?_
            refine PW.if_eq (pc := 91) (tgt := 111) dX6_gust_91 (by decide) (fun c => absurd c ((by decide))) (fun _ => ?_)
            refine PW.aload_n (pc := 94) dX6_gust_94 rfl ?_
            refine PW.iload (pc := 95) dX6_gust_95 rfl ?_
            refine PW.iload_n (pc := 97) dX6_gust_97 rfl ?_
            refine cs_X6_189 (pc := 98) hY.rm (c_X6_stands hC (by omega)) ⟨Nat.le_of_ble_eq_true rfl, Nat.le_of_ble_eq_true rfl⟩ dX6_gust_98 (Nat.le_of_ble_eq_true rfl) (fun x_98 u_98 h_98 => ?_)
            obtain ⟨rfl, hu_98⟩ := h_98
            replace hu_98 := hu_98.symm
            subst hu_98
            refine PW.if_ne (pc := 101) (tgt := 111) dX6_gust_101 (by decide) (fun c_101 => ?_) (fun c_101 => ?_)
            · have k := bool_t c_101
              exact PW.st rfl rfl rfl (at111 _ (no (by rw [← hP]; simp [guP, k])))
            · have k := bool_f c_101
              refine PW.iload_n (pc := 104) dX6_gust_104 rfl ?_
              refine PW.iconst (pc := 105) (v := nI 1) dX6_gust_105 (by decide) ?_
              refine PW.iload (pc := 106) dX6_gust_106 rfl ?_
              refine PW.ishl (pc := 108) dX6_gust_108 ?_
              refine PW.ior (pc := 109) dX6_gust_109 ?_
              rw [x_shl1 (by omega), fa_or]
              refine PW.istore_n (pc := 110) (i := 3) dX6_gust_110 rfl (by decide) rfl ?_
              refine PW.st rfl rfl rfl (at111 _ ?_)
              rw [bset, if_pos (by rw [← hP]; simp only [guP, decide_eq_true_eq]; exact ⟨c_51, x_ge c_65, x_ge c_79, k⟩)]
  refine PW.iconst (pc := 23) (v := nI 0) dX6_gust_23 (by decide) ?_
  refine PW.istore_n (pc := 24) (i := 3) dX6_gust_24 rfl (by decide) rfl ?_
  refine PW.iconst (pc := 25) (v := nI 0) dX6_gust_25 (by decide) ?_
  refine PW.istore (pc := 26) dX6_gust_26 (by decide) rfl ?_
  exact PW.st rfl rfl rfl (loop 0 (Nat.zero_le _))
/-- weights of what a field needs -/
def wgt (nd we : Nat → Int32) (f : Nat) : Nat → Int32
  | 0 => nI 0
  | t + 1 => wgt nd we f t + nd (f * 6 + t) * we t
set_option maxHeartbeats 4000000 in
set_option maxRecDepth 20000 in
theorem c_X6_weightOf {f : Nat} {M : xM} (hf : f < 10) : K_X6_weightOf [.ref 0, .int (nI f)] M (xRi (fun x u => x = wgt (M.1 16) (M.1 4) f 6 ∧ u = M)) := by
  refine xMet.of (own := RX6) rfl (by decide) (Nat.le_of_ble_eq_true rfl) rfl (fun Y hY => ?_)
  refine x_loop (n := 6) (P := fun t => P_X6_weightOf Y 4 [(0, .ref 0), (1, .int (nI f)), (2, .int (wgt (M.1 16) (M.1 4) f t)), (3, .int (nI t))] [] M) (fun h => ?_) ?_ (fun t ht ih => ?_)
  · refine PW.iconst (pc := 0) (v := nI 0) dX6_weightOf_0 (by decide) ?_
    refine PW.istore_n (pc := 1) (i := 2) dX6_weightOf_1 rfl (by decide) rfl ?_
    refine PW.iconst (pc := 2) (v := nI 0) dX6_weightOf_2 (by decide) ?_
    refine PW.istore_n (pc := 3) (i := 3) dX6_weightOf_3 rfl (by decide) rfl ?_
    exact PW.st rfl rfl rfl h
  · refine PW.iload_n (pc := 4) dX6_weightOf_4 rfl ?_
    refine PW.bipush (pc := 5) (v := nI 6) dX6_weightOf_5 (by decide) ?_
    refine PW.icmp_ge (pc := 7) (tgt := 42) dX6_weightOf_7 (by decide) (fun _ => ?_) (fun c => absurd ((nI_le (Nat.le_refl _) (by omega))) c)
    refine PW.iload_n (pc := 42) dX6_weightOf_42 rfl ?_
    refine PW.iret (pc := 43) hY ?_ dX6_weightOf_43
    exact x_ri ⟨rfl, rfl⟩
  · refine PW.iload_n (pc := 4) dX6_weightOf_4 rfl ?_
    refine PW.bipush (pc := 5) (v := nI 6) dX6_weightOf_5 (by decide) ?_
    refine PW.icmp_ge (pc := 7) (tgt := 42) dX6_weightOf_7 (by decide) (fun c => absurd c ((nI_ge ht (by omega)))) (fun _ => ?_)
    refine PW.iload_n (pc := 10) dX6_weightOf_10 rfl ?_
    refine PW.aload_n (pc := 11) dX6_weightOf_11 rfl ?_
    refine gf_X6_19 (pc := 12) dX6_weightOf_12 ?_
    refine gf_X6_99 (pc := 15) dX6_weightOf_15 ?_
    refine PW.iload_n (pc := 18) dX6_weightOf_18 rfl ?_
    refine PW.iload_n (pc := 19) dX6_weightOf_19 rfl ?_
    refine cs_X6_102 (pc := 20) hY.rm (c_X6_cell) ⟨Nat.le_of_ble_eq_true rfl, Nat.le_of_ble_eq_true rfl⟩ dX6_weightOf_20 (Nat.le_of_ble_eq_true rfl) (fun x_20 u_20 h_20 => ?_)
    obtain ⟨rfl, hu_20⟩ := h_20
    replace hu_20 := hu_20.symm
    subst hu_20
    refine PW.ialdN (pc := 23) rfl rfl (by omega) (by decide) dX6_weightOf_23 ?_
    refine PW.aload_n (pc := 24) dX6_weightOf_24 rfl ?_
    refine gf_X6_12 (pc := 25) dX6_weightOf_25 ?_
    refine gf_X6_79 (pc := 28) dX6_weightOf_28 ?_
    refine PW.iload_n (pc := 31) dX6_weightOf_31 rfl ?_
    refine PW.ialdN (pc := 32) rfl rfl (by omega) (by decide) dX6_weightOf_32 ?_
    refine PW.imul (pc := 33) dX6_weightOf_33 ?_
    refine PW.iadd (pc := 34) dX6_weightOf_34 ?_
    refine PW.istore_n (pc := 35) (i := 2) dX6_weightOf_35 rfl (by decide) rfl ?_
    refine PW.iinc (pc := 36) dX6_weightOf_36 rfl (x_inc1 _) (by decide) rfl ?_
    refine PW.goto (pc := 39) (tgt := 4) dX6_weightOf_39 (by decide) ?_
    exact PW.st rfl rfl rfl ih
abbrev wkP (st fr ls : Nat → Int32) (d : Int32) (g : Nat) : Prop := st g = nI 1 ∧ (fr g = d ∨ ls g = d)
def lds (st fr ls nd we : Nat → Int32) (d : Int32) : Nat → Int32
  | 0 => nI 0
  | g + 1 => if wkP st fr ls d g then lds st fr ls nd we d g + wgt nd we g 6 else lds st fr ls nd we d g
set_option maxHeartbeats 4000000 in
set_option maxRecDepth 20000 in
theorem c_X6_loads {d r : Int32} {n : Nat} {M : xM} (hn : M.1 8 9 = nI n) (h10 : n ≤ 10) : K_X6_loads [.ref 0, .int d, .int r] M (xRi (fun x u => (x = if inr d (nI 0) (nI 60) ∧ inr r (nI 1) (nI 100000) then (lds (M.1 12) (M.1 9) (M.1 10) (M.1 16) (M.1 4) d n + r - nI 1) / r else (-2)) ∧ u = M)) := by
  refine xMet.of (own := RX6) rfl (by decide) (Nat.le_of_ble_eq_true rfl) rfl (fun Y hY => ?_)
  have bad : ¬ (inr d (nI 0) (nI 60) ∧ inr r (nI 1) (nI 100000)) → P_X6_loads Y 20 [] [] M := by
    intro h
    refine PW.bipush (pc := 20) (v := (-2)) dX6_loads_20 (by decide) ?_
    refine PW.iret (pc := 22) hY ?_ dX6_loads_22
    refine x_ri ?_
    rw [if_neg h]; exact ⟨rfl, rfl⟩
  refine PW.iload_n (pc := 0) dX6_loads_0 rfl ?_
  refine PW.iconst (pc := 1) (v := nI 0) dX6_loads_1 (by decide) ?_
  refine PW.bipush (pc := 2) (v := nI 60) dX6_loads_2 (by decide) ?_
  refine cs_X6_69 (pc := 4) hY.rm (c_X6_outside) ⟨Nat.le_of_ble_eq_true rfl, Nat.le_of_ble_eq_true rfl⟩ dX6_loads_4 (Nat.le_of_ble_eq_true rfl) (fun x_4 u_4 h_4 => ?_)
  obtain ⟨rfl, hu_4⟩ := h_4
  replace hu_4 := hu_4.symm
  subst hu_4
  refine PW.if_ne (pc := 7) (tgt := 20) dX6_loads_7 (by decide) (fun c_7 => PW.st rfl rfl rfl (bad (fun h => out_t c_7 h.1))) (fun c_7 => ?_)
  refine PW.iload_n (pc := 10) dX6_loads_10 rfl ?_
  refine PW.iconst (pc := 11) (v := nI 1) dX6_loads_11 (by decide) ?_
  refine PW.ldc (pc := 12) (v := nI 100000) (by decide +kernel) dX6_loads_12 ?_
  refine cs_X6_69 (pc := 14) hY.rm (c_X6_outside) ⟨Nat.le_of_ble_eq_true rfl, Nat.le_of_ble_eq_true rfl⟩ dX6_loads_14 (Nat.le_of_ble_eq_true rfl) (fun x_14 u_14 h_14 => ?_)
  obtain ⟨rfl, hu_14⟩ := h_14
  replace hu_14 := hu_14.symm
  subst hu_14
  refine PW.if_eq (pc := 17) (tgt := 23) dX6_loads_17 (by decide) (fun c_17 => ?_) (fun c_17 => PW.st rfl rfl rfl (bad (fun h => out_t c_17 h.2)))
  have G : inr d (nI 0) (nI 60) ∧ inr r (nI 1) (nI 100000) := ⟨out_f c_7, out_f c_17⟩
  clear bad c_7 c_17
  refine x_loop (n := n) (P := fun g => P_X6_loads Y 28 [(0, .ref 0), (1, .int d), (2, .int r), (3, .int (lds (M.1 12) (M.1 9) (M.1 10) (M.1 16) (M.1 4) d g)), (4, .int (nI g))] [] M) (fun h => ?_) ?_ (fun g hg ih => ?_)
  · refine PW.iconst (pc := 23) (v := nI 0) dX6_loads_23 (by decide) ?_
    refine PW.istore_n (pc := 24) (i := 3) dX6_loads_24 rfl (by decide) rfl ?_
    refine PW.iconst (pc := 25) (v := nI 0) dX6_loads_25 (by decide) ?_
    refine PW.istore (pc := 26) dX6_loads_26 (by decide) rfl ?_
    exact PW.st rfl rfl rfl h
  · refine PW.iload (pc := 28) dX6_loads_28 rfl ?_
    refine PW.aload_n (pc := 30) dX6_loads_30 rfl ?_
    refine gf_X6_19 (pc := 31) dX6_loads_31 ?_
    refine gf_X6_193 (pc := 34) dX6_loads_34 ?_
    refine PW.icmp_ge (pc := 37) (tgt := 68) dX6_loads_37 (by decide) (fun _ => ?_) (fun c => absurd ((by rw [hn]; exact nI_le (Nat.le_refl _) (by omega))) c)
    refine PW.iload_n (pc := 68) dX6_loads_68 rfl ?_
    refine PW.iload_n (pc := 69) dX6_loads_69 rfl ?_
    refine cs_X6_168 (pc := 70) hY.rm (c_X6_cutUp) ⟨Nat.le_of_ble_eq_true rfl, Nat.le_of_ble_eq_true rfl⟩ dX6_loads_70 (Nat.le_of_ble_eq_true rfl) (fun x_70 u_70 h_70 => ?_)
    obtain ⟨rfl, hu_70⟩ := h_70
    replace hu_70 := hu_70.symm
    subst hu_70
    rw [if_neg (x_ng G.2.1)]
    refine PW.iret (pc := 73) hY ?_ dX6_loads_73
    refine x_ri ?_
    rw [if_pos G]
    exact ⟨rfl, rfl⟩
  · refine PW.iload (pc := 28) dX6_loads_28 rfl ?_
    refine PW.aload_n (pc := 30) dX6_loads_30 rfl ?_
    refine gf_X6_19 (pc := 31) dX6_loads_31 ?_
    refine gf_X6_193 (pc := 34) dX6_loads_34 ?_
    refine PW.icmp_ge (pc := 37) (tgt := 68) dX6_loads_37 (by decide) (fun c => absurd c ((by rw [hn]; exact nI_ge hg (by omega)))) (fun _ => ?_)
    refine PW.aload_n (pc := 40) dX6_loads_40 rfl ?_
    refine gf_X6_19 (pc := 41) dX6_loads_41 ?_
    refine PW.iload (pc := 44) dX6_loads_44 rfl ?_
    refine PW.iload_n (pc := 46) dX6_loads_46 rfl ?_
    refine cs_X6_210 (pc := 47) hY.rm (c_X1_worksOn (by omega)) ⟨Nat.le_of_ble_eq_true rfl, Nat.le_of_ble_eq_true rfl⟩ dX6_loads_47 (Nat.le_of_ble_eq_true rfl) (fun x_47 u_47 h_47 => ?_)
    obtain ⟨rfl, hu_47⟩ := h_47
    replace hu_47 := hu_47.symm
    subst hu_47
    refine PW.if_eq (pc := 50) (tgt := 62) dX6_loads_50 (by decide) (fun c_50 => ?_) (fun c_50 => ?_)
    · have k := bool_f c_50
      refine PW.iinc (pc := 62) dX6_loads_62 rfl (x_inc1 _) (by decide) rfl ?_
      refine PW.goto (pc := 65) (tgt := 28) dX6_loads_65 (by decide) ?_
      refine PW.st rfl rfl ?_ ih
      rw [lds, if_neg k]; rfl
    · have k := bool_t c_50
      refine PW.iload_n (pc := 53) dX6_loads_53 rfl ?_
      refine PW.aload_n (pc := 54) dX6_loads_54 rfl ?_
      refine PW.iload (pc := 55) dX6_loads_55 rfl ?_
      refine cs_X6_213 (pc := 57) hY.rm (c_X6_weightOf (by omega)) ⟨Nat.le_of_ble_eq_true rfl, Nat.le_of_ble_eq_true rfl⟩ dX6_loads_57 (Nat.le_of_ble_eq_true rfl) (fun x_57 u_57 h_57 => ?_)
      obtain ⟨rfl, hu_57⟩ := h_57
      replace hu_57 := hu_57.symm
      subst hu_57
      refine PW.iadd (pc := 60) dX6_loads_60 ?_
      refine PW.istore_n (pc := 61) (i := 3) dX6_loads_61 rfl (by decide) rfl ?_
      refine PW.iinc (pc := 62) dX6_loads_62 rfl (x_inc1 _) (by decide) rfl ?_
      refine PW.goto (pc := 65) (tgt := 28) dX6_loads_65 (by decide) ?_
      refine PW.st rfl rfl ?_ ih
      rw [lds, if_pos k]; rfl
def totv (M : xM) (n : Nat) : Nat → Int32
  | 0 => M.1 8 9
  | 1 => nI (pcn (TK M n) 10)
  | 2 => M.1 22 2
  | 3 => M.1 18 1
  | 4 => gsum (M.1 7) 6
  | _ => M.1 0 7
set_option maxHeartbeats 4000000 in
set_option maxRecDepth 20000 in
theorem c_X6_total {w n : Nat} {M : xM} (hn : M.1 8 9 = nI n) (h10 : n ≤ 10) (hw : w ≤ 5) : K_X6_total [.ref 0, .int (nI w)] M (xRi (fun x u => x = totv M n w ∧ u = M)) := by
  refine xMet.of (own := RX6) rfl (by decide) (Nat.le_of_ble_eq_true rfl) rfl (fun Y hY => ?_)
  refine PW.iload_n (pc := 0) dX6_total_0 rfl ?_
  have e : (nI w).toInt = (w : Int) := nI_toInt (by omega)
  rcases (show w = 0 ∨ w = 1 ∨ w = 2 ∨ w = 3 ∨ w = 4 ∨ w = 5 by omega) with rfl | rfl | rfl | rfl | rfl | rfl
  · refine PW.tswIn (pc := 1) (tgt := 36) dX6_total_1 (by rw [e]; decide) (by rw [e]; decide) (by rw [e]; rfl) (by decide) ?_
    refine PW.aload_n (pc := 36) dX6_total_36 rfl ?_
    refine gf_X6_19 (pc := 37) dX6_total_37 ?_
    refine gf_X6_193 (pc := 40) dX6_total_40 ?_
    refine PW.iret (pc := 43) hY ?_ dX6_total_43
    exact x_ri ⟨rfl, rfl⟩
  · refine PW.tswIn (pc := 1) (tgt := 44) dX6_total_1 (by rw [e]; decide) (by rw [e]; decide) (by rw [e]; rfl) (by decide) ?_
    refine PW.aload_n (pc := 44) dX6_total_44 rfl ?_
    refine gf_X6_19 (pc := 45) dX6_total_45 ?_
    refine PW.iconst (pc := 48) (v := nI 1) dX6_total_48 (by decide) ?_
    refine cs_X6_110 (pc := 49) hY.rm (c_X1_setOf hn h10) ⟨Nat.le_of_ble_eq_true rfl, Nat.le_of_ble_eq_true rfl⟩ dX6_total_49 (Nat.le_of_ble_eq_true rfl) (fun x_49 u_49 h_49 => ?_)
    obtain ⟨rfl, hu_49⟩ := h_49
    replace hu_49 := hu_49.symm
    subst hu_49
    refine cs_X6_163 (pc := 52) hY.rm (c_J6_bitCount_0f7a4 (xset_lt _ _ h10)) ⟨Nat.le_of_ble_eq_true rfl, Nat.le_of_ble_eq_true rfl⟩ dX6_total_52 (Nat.le_of_ble_eq_true rfl) (fun x_52 u_52 h_52 => ?_)
    obtain ⟨rfl, hu_52⟩ := h_52
    replace hu_52 := hu_52.symm
    subst hu_52
    refine PW.iret (pc := 55) hY ?_ dX6_total_55
    exact x_ri ⟨rfl, rfl⟩
  · refine PW.tswIn (pc := 1) (tgt := 56) dX6_total_1 (by rw [e]; decide) (by rw [e]; decide) (by rw [e]; rfl) (by decide) ?_
    refine PW.aload_n (pc := 56) dX6_total_56 rfl ?_
    refine gf_X6_40 (pc := 57) dX6_total_57 ?_
    refine gf_X6_174 (pc := 60) dX6_total_60 ?_
    refine PW.iret (pc := 63) hY ?_ dX6_total_63
    exact x_ri ⟨rfl, rfl⟩
  · refine PW.tswIn (pc := 1) (tgt := 64) dX6_total_1 (by rw [e]; decide) (by rw [e]; decide) (by rw [e]; rfl) (by decide) ?_
    refine PW.aload_n (pc := 64) dX6_total_64 rfl ?_
    refine gf_X6_26 (pc := 65) dX6_total_65 ?_
    refine gf_X6_251 (pc := 68) dX6_total_68 ?_
    refine PW.iret (pc := 71) hY ?_ dX6_total_71
    exact x_ri ⟨rfl, rfl⟩
  · refine PW.tswIn (pc := 1) (tgt := 72) dX6_total_1 (by rw [e]; decide) (by rw [e]; decide) (by rw [e]; rfl) (by decide) ?_
    refine PW.aload_n (pc := 72) dX6_total_72 rfl ?_
    refine gf_X6_12 (pc := 73) dX6_total_73 ?_
    refine cs_X6_254 (pc := 76) hY.rm (c_X5_allGone) ⟨Nat.le_of_ble_eq_true rfl, Nat.le_of_ble_eq_true rfl⟩ dX6_total_76 (Nat.le_of_ble_eq_true rfl) (fun x_76 u_76 h_76 => ?_)
    obtain ⟨rfl, hu_76⟩ := h_76
    replace hu_76 := hu_76.symm
    subst hu_76
    refine PW.iret (pc := 79) hY ?_ dX6_total_79
    exact x_ri ⟨rfl, rfl⟩
  · refine PW.tswOut (pc := 1) (tgt := 80) dX6_total_1 (by rw [e]; decide) (by decide) ?_
    refine PW.aload_n (pc := 80) dX6_total_80 rfl ?_
    refine gf_X6_61 (pc := 81) dX6_total_81 ?_
    refine PW.iret (pc := 84) hY ?_ dX6_total_84
    exact x_ri ⟨rfl, rfl⟩
set_option maxHeartbeats 4000000 in
set_option maxRecDepth 20000 in
theorem c_X6_count {w : Int32} {n : Nat} {M : xM} (hn : M.1 8 9 = nI n) (h10 : n ≤ 10) : K_X6_count [.ref 0, .int w] M (xRi (fun x u => (x = if inr w (nI 0) (nI 5) then totv M n (na w) else (-2)) ∧ u = M)) := by
  refine xMet.of (own := RX6) rfl (by decide) (Nat.le_of_ble_eq_true rfl) rfl (fun Y hY => ?_)
  refine PW.iload_n (pc := 0) dX6_count_0 rfl ?_
  refine PW.iconst (pc := 1) (v := nI 0) dX6_count_1 (by decide) ?_
  refine PW.iconst (pc := 2) (v := nI 5) dX6_count_2 (by decide) ?_
  refine cs_X6_69 (pc := 3) hY.rm (c_X6_outside) ⟨Nat.le_of_ble_eq_true rfl, Nat.le_of_ble_eq_true rfl⟩ dX6_count_3 (Nat.le_of_ble_eq_true rfl) (fun x_3 u_3 h_3 => ?_)
  obtain ⟨rfl, hu_3⟩ := h_3
  replace hu_3 := hu_3.symm
  subst hu_3
  refine PW.if_eq (pc := 6) (tgt := 14) dX6_count_6 (by decide) (fun c_6 => ?_) (fun c_6 => ?_)
  · have G := out_f c_6
    have w1 := x_pos G.1
    have w2 := na_le G.1 G.2 (by omega)
    clear c_6
    revert w1 w2
    generalize na w = wN at *
    intro w1 w2
    subst w1
    refine PW.aload_n (pc := 14) dX6_count_14 rfl ?_
    refine PW.iload_n (pc := 15) dX6_count_15 rfl ?_
    refine cs_X6_216 (pc := 16) hY.rm (c_X6_total hn h10 w2) ⟨Nat.le_of_ble_eq_true rfl, Nat.le_of_ble_eq_true rfl⟩ dX6_count_16 (Nat.le_of_ble_eq_true rfl) (fun x_16 u_16 h_16 => ?_)
    obtain ⟨rfl, hu_16⟩ := h_16
    replace hu_16 := hu_16.symm
    subst hu_16
    refine PW.iret (pc := 19) hY ?_ dX6_count_19
    refine x_ri ?_
    rw [if_pos G]
    exact ⟨rfl, rfl⟩
  · refine PW.bipush (pc := 9) (v := (-2)) dX6_count_9 (by decide) ?_
    refine PW.goto (pc := 11) (tgt := 19) dX6_count_11 (by decide) ?_
    refine PW.iret (pc := 19) hY ?_ dX6_count_19
    refine x_ri ?_
    rw [if_neg (out_t c_6)]
    exact ⟨rfl, rfl⟩
/-- a chain of numbers -/
def itr (g : Nat → Int64 → Int64) (h : Int64) : Nat → Int64
  | 0 => h
  | k + 1 => g k (itr g h k)
def dgs (f : Nat → Int32) (j : Nat) (h : Int64) : Int64 := lN 31 * h + (f j).toInt64
def dg2 (f g : Nat → Int32) (j : Nat) (h : Int64) : Int64 := lN 31 * (lN 31 * h + (f j).toInt64) + (g j).toInt64
def dgF (tel nd : Nat → Nat → Int32) (f : Nat) (h : Int64) : Int64 := itr (dgs (nd f)) (itr (dgs (tel f)) h 7) 6
def dg (n k : Nat) (tot : Nat → Int32) (tel nd : Nat → Nat → Int32) (ow go fr dd ho : Nat → Int32) : Int64 :=
  itr (dgs ho) (itr (dg2 fr dd) (itr (dg2 ow go) (itr (dgF tel nd) (itr (dgs tot) (lN 179) 6) n) 6) k) 4
set_option maxHeartbeats 4000000 in
set_option maxRecDepth 20000 in
theorem c_X6_digest {n k : Nat} {M : xM} (hn : M.1 8 9 = nI n) (h10 : n ≤ 10) (hk : M.1 22 2 = nI k) (h6 : k ≤ 6) : K_X6_digest [.ref 0] M (xRl (fun x u => x = dg n k (totv M n) (tellv M) (fun f t => M.1 16 (f * 6 + t)) (M.1 2) (M.1 7) (M.1 23) (M.1 24) (M.1 31) ∧ u = M)) := by
  unfold dg
  refine xMet.of (own := RX6) rfl (by decide) (Nat.le_of_ble_eq_true rfl) rfl (fun Y hY => ?_)
  generalize hh1 : itr (dgs (totv M n)) (lN 179) 6 = h1 at *
  generalize hh2 : itr (dgF (tellv M) (fun f t => M.1 16 (f * 6 + t))) h1 n = h2 at *
  generalize hh3 : itr (dg2 (M.1 2) (M.1 7)) h2 6 = h3 at *
  generalize hh4 : itr (dg2 (M.1 23) (M.1 24)) h3 k = h4 at *
  refine x_loop (n := 6) (P := fun j => P_X6_digest Y 6 [(0, .ref 0), (1, .long (itr (dgs (totv M n)) (lN 179) j)), (3, .int (nI j))] [] M) (fun h => ?_) ?_ (fun j hj ih => ?_)
  · refine PW.ldc2 (pc := 0) (v := lN 179) (by decide +kernel) dX6_digest_0 ?_
    refine PW.lstore_n (pc := 3) (i := 1) dX6_digest_3 rfl (by decide) rfl rfl ?_
    refine PW.iconst (pc := 4) (v := nI 0) dX6_digest_4 (by decide) ?_
    refine PW.istore_n (pc := 5) (i := 3) dX6_digest_5 rfl (by decide) rfl ?_
    exact PW.st rfl rfl rfl h
  · rw [hh1]
    refine x_loop (n := n) (P := fun j => P_X6_digest Y 32 [(0, .ref 0), (1, .long (itr (dgF (tellv M) (fun f t => M.1 16 (f * 6 + t))) h1 j)), (3, .int (nI j))] [] M) (fun h => ?_) ?_ (fun j hj ih => ?_)
    · refine PW.iload_n (pc := 6) dX6_digest_6 rfl ?_
      refine PW.iconst (pc := 7) (v := nI 5) dX6_digest_7 (by decide) ?_
      refine PW.icmp_gt (pc := 8) (tgt := 30) dX6_digest_8 (by decide) (fun _ => ?_) (fun c => absurd ((nI_lt (by omega) (by omega))) c)
      refine PW.iconst (pc := 30) (v := nI 0) dX6_digest_30 (by decide) ?_
      refine PW.istore_n (pc := 31) (i := 3) dX6_digest_31 rfl (by decide) rfl ?_
      exact PW.st rfl rfl rfl h
    · rw [hh2]
      refine x_loop (n := 6) (P := fun j => P_X6_digest Y 123 [(0, .ref 0), (1, .long (itr (dg2 (M.1 2) (M.1 7)) h2 j)), (3, .int (nI j))] [] M) (fun h => ?_) ?_ (fun j hj ih => ?_)
      · refine PW.iload_n (pc := 32) dX6_digest_32 rfl ?_
        refine PW.aload_n (pc := 33) dX6_digest_33 rfl ?_
        refine gf_X6_19 (pc := 34) dX6_digest_34 ?_
        refine gf_X6_193 (pc := 37) dX6_digest_37 ?_
        refine PW.icmp_ge (pc := 40) (tgt := 121) dX6_digest_40 (by decide) (fun _ => ?_) (fun c => absurd ((by rw [hn]; exact nI_le (Nat.le_refl _) (by omega))) c)
        refine PW.iconst (pc := 121) (v := nI 0) dX6_digest_121 (by decide) ?_
        refine PW.istore_n (pc := 122) (i := 3) dX6_digest_122 rfl (by decide) rfl ?_
        exact PW.st rfl rfl rfl h
      · rw [hh3]
        refine x_loop (n := k) (P := fun j => P_X6_digest Y 169 [(0, .ref 0), (1, .long (itr (dg2 (M.1 23) (M.1 24)) h3 j)), (3, .int (nI j))] [] M) (fun h => ?_) ?_ (fun j hj ih => ?_)
        · refine PW.iload_n (pc := 123) dX6_digest_123 rfl ?_
          refine PW.bipush (pc := 124) (v := nI 6) dX6_digest_124 (by decide) ?_
          refine PW.icmp_ge (pc := 126) (tgt := 167) dX6_digest_126 (by decide) (fun _ => ?_) (fun c => absurd ((nI_le (Nat.le_refl _) (by omega))) c)
          refine PW.iconst (pc := 167) (v := nI 0) dX6_digest_167 (by decide) ?_
          refine PW.istore_n (pc := 168) (i := 3) dX6_digest_168 rfl (by decide) rfl ?_
          exact PW.st rfl rfl rfl h
        · rw [hh4]
          refine x_loop (n := 4) (P := fun j => P_X6_digest Y 220 [(0, .ref 0), (1, .long (itr (dgs (M.1 31)) h4 j)), (3, .int (nI j))] [] M) (fun h => ?_) ?_ (fun j hj ih => ?_)
          · refine PW.iload_n (pc := 169) dX6_digest_169 rfl ?_
            refine PW.aload_n (pc := 170) dX6_digest_170 rfl ?_
            refine gf_X6_40 (pc := 171) dX6_digest_171 ?_
            refine gf_X6_174 (pc := 174) dX6_digest_174 ?_
            refine PW.icmp_ge (pc := 177) (tgt := 218) dX6_digest_177 (by decide) (fun _ => ?_) (fun c => absurd ((by rw [hk]; exact nI_le (Nat.le_refl _) (by omega))) c)
            refine PW.iconst (pc := 218) (v := nI 0) dX6_digest_218 (by decide) ?_
            refine PW.istore_n (pc := 219) (i := 3) dX6_digest_219 rfl (by decide) rfl ?_
            exact PW.st rfl rfl rfl h
          · refine PW.iload_n (pc := 220) dX6_digest_220 rfl ?_
            refine PW.iconst (pc := 221) (v := nI 4) dX6_digest_221 (by decide) ?_
            refine PW.icmp_ge (pc := 222) (tgt := 245) dX6_digest_222 (by decide) (fun _ => ?_) (fun c => absurd ((nI_le (Nat.le_refl _) (by omega))) c)
            refine PW.lload_n (pc := 245) dX6_digest_245 rfl ?_
            refine PW.lret (pc := 246) hY ?_ dX6_digest_246
            exact x_rl ⟨rfl, rfl⟩
          · refine PW.iload_n (pc := 220) dX6_digest_220 rfl ?_
            refine PW.iconst (pc := 221) (v := nI 4) dX6_digest_221 (by decide) ?_
            refine PW.icmp_ge (pc := 222) (tgt := 245) dX6_digest_222 (by decide) (fun c => absurd c ((nI_ge hj (by omega)))) (fun _ => ?_)
            refine PW.ldc2 (pc := 225) (v := lN 31) (by decide +kernel) dX6_digest_225 ?_
            refine PW.lload_n (pc := 228) dX6_digest_228 rfl ?_
            refine PW.lmul (pc := 229) dX6_digest_229 ?_
            refine PW.aload_n (pc := 230) dX6_digest_230 rfl ?_
            refine gf_X6_51 (pc := 231) dX6_digest_231 ?_
            refine PW.iload_n (pc := 234) dX6_digest_234 rfl ?_
            refine PW.ialdN (pc := 235) rfl rfl (by omega) (by decide) dX6_digest_235 ?_
            refine PW.i2l (pc := 236) dX6_digest_236 ?_
            refine PW.ladd (pc := 237) dX6_digest_237 ?_
            refine PW.lstore_n (pc := 238) (i := 1) dX6_digest_238 rfl (by decide) rfl rfl ?_
            refine PW.iinc (pc := 239) dX6_digest_239 rfl (x_inc1 _) (by decide) rfl ?_
            refine PW.goto (pc := 242) (tgt := 220) dX6_digest_242 (by decide) ?_
            exact PW.st rfl rfl rfl ih
        · refine PW.iload_n (pc := 169) dX6_digest_169 rfl ?_
          refine PW.aload_n (pc := 170) dX6_digest_170 rfl ?_
          refine gf_X6_40 (pc := 171) dX6_digest_171 ?_
          refine gf_X6_174 (pc := 174) dX6_digest_174 ?_
          refine PW.icmp_ge (pc := 177) (tgt := 218) dX6_digest_177 (by decide) (fun c => absurd c ((by rw [hk]; exact nI_ge hj (by omega)))) (fun _ => ?_)
          refine PW.ldc2 (pc := 180) (v := lN 31) (by decide +kernel) dX6_digest_180 ?_
          refine PW.ldc2 (pc := 183) (v := lN 31) (by decide +kernel) dX6_digest_183 ?_
          refine PW.lload_n (pc := 186) dX6_digest_186 rfl ?_
          refine PW.lmul (pc := 187) dX6_digest_187 ?_
          refine PW.aload_n (pc := 188) dX6_digest_188 rfl ?_
          refine gf_X6_40 (pc := 189) dX6_digest_189 ?_
          refine gf_X6_223 (pc := 192) dX6_digest_192 ?_
          refine PW.iload_n (pc := 195) dX6_digest_195 rfl ?_
          refine PW.ialdN (pc := 196) rfl rfl (by omega) (by decide) dX6_digest_196 ?_
          refine PW.i2l (pc := 197) dX6_digest_197 ?_
          refine PW.ladd (pc := 198) dX6_digest_198 ?_
          refine PW.lmul (pc := 199) dX6_digest_199 ?_
          refine PW.aload_n (pc := 200) dX6_digest_200 rfl ?_
          refine gf_X6_40 (pc := 201) dX6_digest_201 ?_
          refine gf_X6_226 (pc := 204) dX6_digest_204 ?_
          refine PW.iload_n (pc := 207) dX6_digest_207 rfl ?_
          refine PW.ialdN (pc := 208) rfl rfl (by omega) (by decide) dX6_digest_208 ?_
          refine PW.i2l (pc := 209) dX6_digest_209 ?_
          refine PW.ladd (pc := 210) dX6_digest_210 ?_
          refine PW.lstore_n (pc := 211) (i := 1) dX6_digest_211 rfl (by decide) rfl rfl ?_
          refine PW.iinc (pc := 212) dX6_digest_212 rfl (x_inc1 _) (by decide) rfl ?_
          refine PW.goto (pc := 215) (tgt := 169) dX6_digest_215 (by decide) ?_
          exact PW.st rfl rfl rfl ih
      · refine PW.iload_n (pc := 123) dX6_digest_123 rfl ?_
        refine PW.bipush (pc := 124) (v := nI 6) dX6_digest_124 (by decide) ?_
        refine PW.icmp_ge (pc := 126) (tgt := 167) dX6_digest_126 (by decide) (fun c => absurd c ((nI_ge hj (by omega)))) (fun _ => ?_)
        refine PW.ldc2 (pc := 129) (v := lN 31) (by decide +kernel) dX6_digest_129 ?_
        refine PW.ldc2 (pc := 132) (v := lN 31) (by decide +kernel) dX6_digest_132 ?_
        refine PW.lload_n (pc := 135) dX6_digest_135 rfl ?_
        refine PW.lmul (pc := 136) dX6_digest_136 ?_
        refine PW.aload_n (pc := 137) dX6_digest_137 rfl ?_
        refine gf_X6_12 (pc := 138) dX6_digest_138 ?_
        refine gf_X6_73 (pc := 141) dX6_digest_141 ?_
        refine PW.iload_n (pc := 144) dX6_digest_144 rfl ?_
        refine PW.ialdN (pc := 145) rfl rfl (by omega) (by decide) dX6_digest_145 ?_
        refine PW.i2l (pc := 146) dX6_digest_146 ?_
        refine PW.ladd (pc := 147) dX6_digest_147 ?_
        refine PW.lmul (pc := 148) dX6_digest_148 ?_
        refine PW.aload_n (pc := 149) dX6_digest_149 rfl ?_
        refine gf_X6_12 (pc := 150) dX6_digest_150 ?_
        refine gf_X6_133 (pc := 153) dX6_digest_153 ?_
        refine PW.iload_n (pc := 156) dX6_digest_156 rfl ?_
        refine PW.ialdN (pc := 157) rfl rfl (by omega) (by decide) dX6_digest_157 ?_
        refine PW.i2l (pc := 158) dX6_digest_158 ?_
        refine PW.ladd (pc := 159) dX6_digest_159 ?_
        refine PW.lstore_n (pc := 160) (i := 1) dX6_digest_160 rfl (by decide) rfl rfl ?_
        refine PW.iinc (pc := 161) dX6_digest_161 rfl (x_inc1 _) (by decide) rfl ?_
        refine PW.goto (pc := 164) (tgt := 123) dX6_digest_164 (by decide) ?_
        exact PW.st rfl rfl rfl ih
    · refine x_loop (n := 7) (P := fun i => P_X6_digest Y 46 [(0, .ref 0), (1, .long (itr (dgs (tellv M j)) (itr (dgF (tellv M) (fun f t => M.1 16 (f * 6 + t))) h1 j) i)), (3, .int (nI j)), (4, .int (nI i))] [] M) (fun h => ?_) ?_ (fun i hi ih2 => ?_)
      · refine PW.iload_n (pc := 32) dX6_digest_32 rfl ?_
        refine PW.aload_n (pc := 33) dX6_digest_33 rfl ?_
        refine gf_X6_19 (pc := 34) dX6_digest_34 ?_
        refine gf_X6_193 (pc := 37) dX6_digest_37 ?_
        refine PW.icmp_ge (pc := 40) (tgt := 121) dX6_digest_40 (by decide) (fun c => absurd c ((by rw [hn]; exact nI_ge hj (by omega)))) (fun _ => ?_)
        refine PW.iconst (pc := 43) (v := nI 0) dX6_digest_43 (by decide) ?_
        refine PW.istore (pc := 44) dX6_digest_44 (by decide) rfl ?_
        exact PW.st rfl rfl rfl h
      · refine x_loop (n := 6) (P := fun i => P_X6_digest Y 80 [(0, .ref 0), (1, .long (itr (dgs (fun t => M.1 16 (j * 6 + t))) (itr (dgs (tellv M j)) (itr (dgF (tellv M) (fun f t => M.1 16 (f * 6 + t))) h1 j) 7) i)), (3, .int (nI j)), (4, .int (nI i))] [] M) (fun h => ?_) ?_ (fun i hi ih2 => ?_)
        · refine PW.iload (pc := 46) dX6_digest_46 rfl ?_
          refine PW.bipush (pc := 48) (v := nI 6) dX6_digest_48 (by decide) ?_
          refine PW.icmp_gt (pc := 50) (tgt := 77) dX6_digest_50 (by decide) (fun _ => ?_) (fun c => absurd ((nI_lt (by omega) (by omega))) c)
          refine PW.iconst (pc := 77) (v := nI 0) dX6_digest_77 (by decide) ?_
          refine PW.istore (pc := 78) dX6_digest_78 (by decide) rfl ?_
          exact PW.st rfl rfl rfl h
        · refine PW.iload (pc := 80) dX6_digest_80 rfl ?_
          refine PW.bipush (pc := 82) (v := nI 6) dX6_digest_82 (by decide) ?_
          refine PW.icmp_ge (pc := 84) (tgt := 115) dX6_digest_84 (by decide) (fun _ => ?_) (fun c => absurd ((nI_le (Nat.le_refl _) (by omega))) c)
          refine PW.iinc (pc := 115) dX6_digest_115 rfl (x_inc1 _) (by decide) rfl ?_
          refine PW.goto (pc := 118) (tgt := 32) dX6_digest_118 (by decide) ?_
          exact PW.st rfl rfl rfl ih
        · refine PW.iload (pc := 80) dX6_digest_80 rfl ?_
          refine PW.bipush (pc := 82) (v := nI 6) dX6_digest_82 (by decide) ?_
          refine PW.icmp_ge (pc := 84) (tgt := 115) dX6_digest_84 (by decide) (fun c => absurd c ((nI_ge hi (by omega)))) (fun _ => ?_)
          refine PW.ldc2 (pc := 87) (v := lN 31) (by decide +kernel) dX6_digest_87 ?_
          refine PW.lload_n (pc := 90) dX6_digest_90 rfl ?_
          refine PW.lmul (pc := 91) dX6_digest_91 ?_
          refine PW.aload_n (pc := 92) dX6_digest_92 rfl ?_
          refine gf_X6_19 (pc := 93) dX6_digest_93 ?_
          refine gf_X6_99 (pc := 96) dX6_digest_96 ?_
          refine PW.iload_n (pc := 99) dX6_digest_99 rfl ?_
          refine PW.iload (pc := 100) dX6_digest_100 rfl ?_
          refine cs_X6_102 (pc := 102) hY.rm (c_X6_cell) ⟨Nat.le_of_ble_eq_true rfl, Nat.le_of_ble_eq_true rfl⟩ dX6_digest_102 (Nat.le_of_ble_eq_true rfl) (fun x_102 u_102 h_102 => ?_)
          obtain ⟨rfl, hu_102⟩ := h_102
          replace hu_102 := hu_102.symm
          subst hu_102
          refine PW.ialdN (pc := 105) rfl rfl (by omega) (by decide) dX6_digest_105 ?_
          refine PW.i2l (pc := 106) dX6_digest_106 ?_
          refine PW.ladd (pc := 107) dX6_digest_107 ?_
          refine PW.lstore_n (pc := 108) (i := 1) dX6_digest_108 rfl (by decide) rfl rfl ?_
          refine PW.iinc (pc := 109) dX6_digest_109 rfl (x_inc1 _) (by decide) rfl ?_
          refine PW.goto (pc := 112) (tgt := 80) dX6_digest_112 (by decide) ?_
          exact PW.st rfl rfl rfl ih2
      · refine PW.iload (pc := 46) dX6_digest_46 rfl ?_
        refine PW.bipush (pc := 48) (v := nI 6) dX6_digest_48 (by decide) ?_
        refine PW.icmp_gt (pc := 50) (tgt := 77) dX6_digest_50 (by decide) (fun c => absurd c ((nI_nlt (by omega) (by omega)))) (fun _ => ?_)
        refine PW.ldc2 (pc := 53) (v := lN 31) (by decide +kernel) dX6_digest_53 ?_
        refine PW.lload_n (pc := 56) dX6_digest_56 rfl ?_
        refine PW.lmul (pc := 57) dX6_digest_57 ?_
        refine PW.aload_n (pc := 58) dX6_digest_58 rfl ?_
        refine gf_X6_19 (pc := 59) dX6_digest_59 ?_
        refine PW.iload_n (pc := 62) dX6_digest_62 rfl ?_
        refine PW.iload (pc := 63) dX6_digest_63 rfl ?_
        refine cs_X6_136 (pc := 65) hY.rm (c_X1_tell (by omega) (by omega)) ⟨Nat.le_of_ble_eq_true rfl, Nat.le_of_ble_eq_true rfl⟩ dX6_digest_65 (Nat.le_of_ble_eq_true rfl) (fun x_65 u_65 h_65 => ?_)
        obtain ⟨rfl, hu_65⟩ := h_65
        replace hu_65 := hu_65.symm
        subst hu_65
        refine PW.i2l (pc := 68) dX6_digest_68 ?_
        refine PW.ladd (pc := 69) dX6_digest_69 ?_
        refine PW.lstore_n (pc := 70) (i := 1) dX6_digest_70 rfl (by decide) rfl rfl ?_
        refine PW.iinc (pc := 71) dX6_digest_71 rfl (x_inc1 _) (by decide) rfl ?_
        refine PW.goto (pc := 74) (tgt := 46) dX6_digest_74 (by decide) ?_
        exact PW.st rfl rfl rfl ih2
  · refine PW.iload_n (pc := 6) dX6_digest_6 rfl ?_
    refine PW.iconst (pc := 7) (v := nI 5) dX6_digest_7 (by decide) ?_
    refine PW.icmp_gt (pc := 8) (tgt := 30) dX6_digest_8 (by decide) (fun c => absurd c ((nI_nlt (by omega) (by omega)))) (fun _ => ?_)
    refine PW.ldc2 (pc := 11) (v := lN 31) (by decide +kernel) dX6_digest_11 ?_
    refine PW.lload_n (pc := 14) dX6_digest_14 rfl ?_
    refine PW.lmul (pc := 15) dX6_digest_15 ?_
    refine PW.aload_n (pc := 16) dX6_digest_16 rfl ?_
    refine PW.iload_n (pc := 17) dX6_digest_17 rfl ?_
    refine cs_X6_216 (pc := 18) hY.rm (c_X6_total hn h10 (by omega)) ⟨Nat.le_of_ble_eq_true rfl, Nat.le_of_ble_eq_true rfl⟩ dX6_digest_18 (Nat.le_of_ble_eq_true rfl) (fun x_18 u_18 h_18 => ?_)
    obtain ⟨rfl, hu_18⟩ := h_18
    replace hu_18 := hu_18.symm
    subst hu_18
    refine PW.i2l (pc := 21) dX6_digest_21 ?_
    refine PW.ladd (pc := 22) dX6_digest_22 ?_
    refine PW.lstore_n (pc := 23) (i := 1) dX6_digest_23 rfl (by decide) rfl rfl ?_
    refine PW.iinc (pc := 24) dX6_digest_24 rfl (x_inc1 _) (by decide) rfl ?_
    refine PW.goto (pc := 27) (tgt := 6) dX6_digest_27 (by decide) ?_
    exact PW.st rfl rfl rfl ih
end
section
theorem zz_end : True := trivial
end
