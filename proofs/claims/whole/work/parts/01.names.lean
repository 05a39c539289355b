-- ===== PART A: goes FIRST, ahead of the names: the tables' words, and 'selects' of the private methods out of them =====
/-- a private method of a class that the tables say can be made, by its rows of tables_1 -/
def lw_okq (q : MethodName × Nat) : Prop := (q.1.cls ≠ "java/lang/invoke/MethodHandle" ∧ q.1.cls ≠ "java/lang/invoke/VarHandle") ∧ Cond.instantiable q.1.cls q.2 ∈ tables_1 ∧ Cond.privateMethod q.1 ∈ tables_1 ∧ Cond.instanceMethod q.1 ∈ tables_1
theorem lw_p0 : lw_okq (⟨"TentYard", "goTogether", "(I)Z"⟩, 8) := ⟨⟨by decide +kernel, by decide +kernel⟩, List.mem_of_getElem? (i := 14) (by decide +kernel), List.mem_of_getElem? (i := 261) (by decide +kernel), List.mem_of_getElem? (i := 262) (by decide +kernel)⟩
theorem lw_p1 : lw_okq (⟨"TentYard", "countAnew", "(I)V"⟩, 8) := ⟨⟨by decide +kernel, by decide +kernel⟩, List.mem_of_getElem? (i := 14) (by decide +kernel), List.mem_of_getElem? (i := 265) (by decide +kernel), List.mem_of_getElem? (i := 266) (by decide +kernel)⟩
theorem lw_p2 : lw_okq (⟨"TentYard", "countOn", "(I)V"⟩, 8) := ⟨⟨by decide +kernel, by decide +kernel⟩, List.mem_of_getElem? (i := 14) (by decide +kernel), List.mem_of_getElem? (i := 274) (by decide +kernel), List.mem_of_getElem? (i := 275) (by decide +kernel)⟩
theorem lw_p3 : lw_okq (⟨"TentYard", "enter", "(II)V"⟩, 8) := ⟨⟨by decide +kernel, by decide +kernel⟩, List.mem_of_getElem? (i := 14) (by decide +kernel), List.mem_of_getElem? (i := 278) (by decide +kernel), List.mem_of_getElem? (i := 279) (by decide +kernel)⟩
theorem lw_p4 : lw_okq (⟨"TentYard", "stands", "(II)Z"⟩, 8) := ⟨⟨by decide +kernel, by decide +kernel⟩, List.mem_of_getElem? (i := 14) (by decide +kernel), List.mem_of_getElem? (i := 418) (by decide +kernel), List.mem_of_getElem? (i := 419) (by decide +kernel)⟩
theorem lw_p5 : lw_okq (⟨"TentYard", "sendCrews", "(II)V"⟩, 8) := ⟨⟨by decide +kernel, by decide +kernel⟩, List.mem_of_getElem? (i := 14) (by decide +kernel), List.mem_of_getElem? (i := 430) (by decide +kernel), List.mem_of_getElem? (i := 431) (by decide +kernel)⟩
theorem lw_p6 : lw_okq (⟨"TentYard$Crews", "startWithOne", "()V"⟩, 7) := ⟨⟨by decide +kernel, by decide +kernel⟩, List.mem_of_getElem? (i := 160) (by decide +kernel), List.mem_of_getElem? (i := 450) (by decide +kernel), List.mem_of_getElem? (i := 451) (by decide +kernel)⟩
theorem lw_p7 : lw_okq (⟨"TentYard$Crews", "nextWay", "(I)V"⟩, 7) := ⟨⟨by decide +kernel, by decide +kernel⟩, List.mem_of_getElem? (i := 160) (by decide +kernel), List.mem_of_getElem? (i := 455) (by decide +kernel), List.mem_of_getElem? (i := 456) (by decide +kernel)⟩
theorem lw_p8 : lw_okq (⟨"TentYard$Crews", "greatestSum", "()I"⟩, 7) := ⟨⟨by decide +kernel, by decide +kernel⟩, List.mem_of_getElem? (i := 160) (by decide +kernel), List.mem_of_getElem? (i := 459) (by decide +kernel), List.mem_of_getElem? (i := 460) (by decide +kernel)⟩
theorem lw_p9 : lw_okq (⟨"TentYard", "weightOf", "(I)I"⟩, 8) := ⟨⟨by decide +kernel, by decide +kernel⟩, List.mem_of_getElem? (i := 14) (by decide +kernel), List.mem_of_getElem? (i := 479) (by decide +kernel), List.mem_of_getElem? (i := 480) (by decide +kernel)⟩
theorem lw_p10 : lw_okq (⟨"TentYard", "total", "(I)I"⟩, 8) := ⟨⟨by decide +kernel, by decide +kernel⟩, List.mem_of_getElem? (i := 14) (by decide +kernel), List.mem_of_getElem? (i := 487) (by decide +kernel), List.mem_of_getElem? (i := 488) (by decide +kernel)⟩
theorem lw_p11 : lw_okq (⟨"TentYardModel", "isField", "(I)Z"⟩, 28) := ⟨⟨by decide +kernel, by decide +kernel⟩, List.mem_of_getElem? (i := 501) (by decide +kernel), List.mem_of_getElem? (i := 614) (by decide +kernel), List.mem_of_getElem? (i := 615) (by decide +kernel)⟩
theorem lw_p12 : lw_okq (⟨"TentYardModel", "findUses", "()V"⟩, 28) := ⟨⟨by decide +kernel, by decide +kernel⟩, List.mem_of_getElem? (i := 501) (by decide +kernel), List.mem_of_getElem? (i := 626) (by decide +kernel), List.mem_of_getElem? (i := 627) (by decide +kernel)⟩
theorem lw_p13 : lw_okq (⟨"TentYardModel", "all", "(I)I"⟩, 28) := ⟨⟨by decide +kernel, by decide +kernel⟩, List.mem_of_getElem? (i := 501) (by decide +kernel), List.mem_of_getElem? (i := 630) (by decide +kernel), List.mem_of_getElem? (i := 631) (by decide +kernel)⟩
theorem lw_p14 : lw_okq (⟨"TentYardModel", "isFit", "(I)Z"⟩, 28) := ⟨⟨by decide +kernel, by decide +kernel⟩, List.mem_of_getElem? (i := 501) (by decide +kernel), List.mem_of_getElem? (i := 634) (by decide +kernel), List.mem_of_getElem? (i := 635) (by decide +kernel)⟩
theorem lw_p15 : lw_okq (⟨"TentYardModel", "lackOf", "(III)I"⟩, 28) := ⟨⟨by decide +kernel, by decide +kernel⟩, List.mem_of_getElem? (i := 501) (by decide +kernel), List.mem_of_getElem? (i := 638) (by decide +kernel), List.mem_of_getElem? (i := 639) (by decide +kernel)⟩
def lw_privs_1 : List (MethodName × Nat) := [(⟨"TentYard", "goTogether", "(I)Z"⟩, 8), (⟨"TentYard", "countAnew", "(I)V"⟩, 8), (⟨"TentYard", "countOn", "(I)V"⟩, 8), (⟨"TentYard", "enter", "(II)V"⟩, 8), (⟨"TentYard", "stands", "(II)Z"⟩, 8), (⟨"TentYard", "sendCrews", "(II)V"⟩, 8), (⟨"TentYard$Crews", "startWithOne", "()V"⟩, 7), (⟨"TentYard$Crews", "nextWay", "(I)V"⟩, 7), (⟨"TentYard$Crews", "greatestSum", "()I"⟩, 7), (⟨"TentYard", "weightOf", "(I)I"⟩, 8), (⟨"TentYard", "total", "(I)I"⟩, 8), (⟨"TentYardModel", "isField", "(I)Z"⟩, 28), (⟨"TentYardModel", "findUses", "()V"⟩, 28), (⟨"TentYardModel", "all", "(I)I"⟩, 28), (⟨"TentYardModel", "isFit", "(I)Z"⟩, 28), (⟨"TentYardModel", "lackOf", "(III)I"⟩, 28)]
theorem lw_r1 : ∀ q ∈ lw_privs_1, lw_okq q := List.forall_mem_cons.mpr ⟨lw_p0, List.forall_mem_cons.mpr ⟨lw_p1, List.forall_mem_cons.mpr ⟨lw_p2, List.forall_mem_cons.mpr ⟨lw_p3, List.forall_mem_cons.mpr ⟨lw_p4, List.forall_mem_cons.mpr ⟨lw_p5, List.forall_mem_cons.mpr ⟨lw_p6, List.forall_mem_cons.mpr ⟨lw_p7, List.forall_mem_cons.mpr ⟨lw_p8, List.forall_mem_cons.mpr ⟨lw_p9, List.forall_mem_cons.mpr ⟨lw_p10, List.forall_mem_cons.mpr ⟨lw_p11, List.forall_mem_cons.mpr ⟨lw_p12, List.forall_mem_cons.mpr ⟨lw_p13, List.forall_mem_cons.mpr ⟨lw_p14, List.forall_mem_cons.mpr ⟨lw_p15, fun _ h => absurd h List.not_mem_nil⟩⟩⟩⟩⟩⟩⟩⟩⟩⟩⟩⟩⟩⟩⟩⟩
theorem lw_p16 : lw_okq (⟨"TentYardModel", "hiredFor", "(I)J"⟩, 28) := ⟨⟨by decide +kernel, by decide +kernel⟩, List.mem_of_getElem? (i := 501) (by decide +kernel), List.mem_of_getElem? (i := 646) (by decide +kernel), List.mem_of_getElem? (i := 647) (by decide +kernel)⟩
theorem lw_p17 : lw_okq (⟨"TentYardModel", "aboutOf", "(II)I"⟩, 28) := ⟨⟨by decide +kernel, by decide +kernel⟩, List.mem_of_getElem? (i := 501) (by decide +kernel), List.mem_of_getElem? (i := 674) (by decide +kernel), List.mem_of_getElem? (i := 675) (by decide +kernel)⟩
theorem lw_p18 : lw_okq (⟨"TentYardModel", "isSet", "(I)Z"⟩, 28) := ⟨⟨by decide +kernel, by decide +kernel⟩, List.mem_of_getElem? (i := 501) (by decide +kernel), List.mem_of_getElem? (i := 686) (by decide +kernel), List.mem_of_getElem? (i := 687) (by decide +kernel)⟩
theorem lw_p19 : lw_okq (⟨"TentYardModel", "prices", "(I)I"⟩, 28) := ⟨⟨by decide +kernel, by decide +kernel⟩, List.mem_of_getElem? (i := 501) (by decide +kernel), List.mem_of_getElem? (i := 694) (by decide +kernel), List.mem_of_getElem? (i := 695) (by decide +kernel)⟩
theorem lw_p20 : lw_okq (⟨"TentYardModel", "doorsFor", "(I)I"⟩, 28) := ⟨⟨by decide +kernel, by decide +kernel⟩, List.mem_of_getElem? (i := 501) (by decide +kernel), List.mem_of_getElem? (i := 733) (by decide +kernel), List.mem_of_getElem? (i := 734) (by decide +kernel)⟩
theorem lw_p21 : lw_okq (⟨"TentYardModel", "doesBear", "(II)Z"⟩, 28) := ⟨⟨by decide +kernel, by decide +kernel⟩, List.mem_of_getElem? (i := 501) (by decide +kernel), List.mem_of_getElem? (i := 753) (by decide +kernel), List.mem_of_getElem? (i := 754) (by decide +kernel)⟩
theorem lw_p22 : lw_okq (⟨"TentYardModel", "deals", "(II)I"⟩, 28) := ⟨⟨by decide +kernel, by decide +kernel⟩, List.mem_of_getElem? (i := 501) (by decide +kernel), List.mem_of_getElem? (i := 765) (by decide +kernel), List.mem_of_getElem? (i := 766) (by decide +kernel)⟩
theorem lw_p23 : lw_okq (⟨"TentYardModel", "isOfDay", "(II)Z"⟩, 28) := ⟨⟨by decide +kernel, by decide +kernel⟩, List.mem_of_getElem? (i := 501) (by decide +kernel), List.mem_of_getElem? (i := 769) (by decide +kernel), List.mem_of_getElem? (i := 770) (by decide +kernel)⟩
theorem lw_p24 : lw_okq (⟨"TentYardModel", "greatest", "(II)I"⟩, 28) := ⟨⟨by decide +kernel, by decide +kernel⟩, List.mem_of_getElem? (i := 501) (by decide +kernel), List.mem_of_getElem? (i := 773) (by decide +kernel), List.mem_of_getElem? (i := 774) (by decide +kernel)⟩
def lw_privs_2 : List (MethodName × Nat) := [(⟨"TentYardModel", "hiredFor", "(I)J"⟩, 28), (⟨"TentYardModel", "aboutOf", "(II)I"⟩, 28), (⟨"TentYardModel", "isSet", "(I)Z"⟩, 28), (⟨"TentYardModel", "prices", "(I)I"⟩, 28), (⟨"TentYardModel", "doorsFor", "(I)I"⟩, 28), (⟨"TentYardModel", "doesBear", "(II)Z"⟩, 28), (⟨"TentYardModel", "deals", "(II)I"⟩, 28), (⟨"TentYardModel", "isOfDay", "(II)Z"⟩, 28), (⟨"TentYardModel", "greatest", "(II)I"⟩, 28)]
theorem lw_r2 : ∀ q ∈ lw_privs_2, lw_okq q := List.forall_mem_cons.mpr ⟨lw_p16, List.forall_mem_cons.mpr ⟨lw_p17, List.forall_mem_cons.mpr ⟨lw_p18, List.forall_mem_cons.mpr ⟨lw_p19, List.forall_mem_cons.mpr ⟨lw_p20, List.forall_mem_cons.mpr ⟨lw_p21, List.forall_mem_cons.mpr ⟨lw_p22, List.forall_mem_cons.mpr ⟨lw_p23, List.forall_mem_cons.mpr ⟨lw_p24, fun _ h => absurd h List.not_mem_nil⟩⟩⟩⟩⟩⟩⟩⟩⟩
def lw_privs : List (MethodName × Nat) := lw_privs_1 ++ (lw_privs_2)
def lw_tbl : List Cond := k2_sels lw_privs ++ tables_1
theorem lw_privs_ok : ∀ q ∈ lw_privs, lw_okq q := by
  show ∀ q ∈ lw_privs_1 ++ (lw_privs_2), lw_okq q
  exact List.forall_mem_append.mpr ⟨lw_r1, lw_r2⟩
-- ===== end of PART A; then your names; then what follows =====
def RX0 : String := "TentYard$Crews"
def TX0 : u_T := fun k => match k with
  | 0 => ("TentYard$Crews", "field", "[I", true)
  | 1 => ("TentYard$Crews", "work", "[I", true)
  | 2 => ("TentYard$Crews", "way", "[I", true)
  | 3 => ("TentYard$Crews", "bestWay", "[I", true)
  | 4 => ("TentYard$Crews", "sums", "[I", true)
  | 5 => ("TentYard$Crews", "size", "I", false)
  | _ => ("TentYard$Crews", "least", "I", false)
def tyX0 : Nat → FieldType := fun k => match k with
  | 0 => .array .int
  | 1 => .array .int
  | 2 => .array .int
  | 3 => .array .int
  | 4 => .array .int
  | 5 => .int
  | _ => .int
theorem nmX0 : ∀ a, a < 7 → ∀ b, b < 7 → a ≠ b → (TX0 a).2.1 ≠ (TX0 b).2.1 := by decide +kernel
theorem tyX0_ok : ∀ k, k < 7 → parseFieldDescriptor (TX0 k).2.2.1 = some (tyX0 k) := by decide +kernel
abbrev cX0_init : ByteArray := prog_2_method_1_code
def yX0_init : MethodName := ⟨RX0, "<init>", "()V"⟩
abbrev cX0_clear : ByteArray := prog_2_method_2_code
def yX0_clear : MethodName := ⟨RX0, "clear", "()V"⟩
abbrev cX0_add : ByteArray := prog_2_method_3_code
def yX0_add : MethodName := ⟨RX0, "add", "(II)V"⟩
abbrev cX0_share : ByteArray := prog_2_method_4_code
def yX0_share : MethodName := ⟨RX0, "share", "(I)V"⟩
abbrev cX0_startWithOne : ByteArray := prog_2_method_5_code
def yX0_startWithOne : MethodName := ⟨RX0, "startWithOne", "()V"⟩
abbrev cX0_nextWay : ByteArray := prog_2_method_6_code
def yX0_nextWay : MethodName := ⟨RX0, "nextWay", "(I)V"⟩
abbrev cX0_greatestSum : ByteArray := prog_2_method_7_code
def yX0_greatestSum : MethodName := ⟨RX0, "greatestSum", "()I"⟩
abbrev cX0_crewOf : ByteArray := prog_2_method_8_code
def yX0_crewOf : MethodName := ⟨RX0, "crewOf", "(I)I"⟩
def RX1 : String := "TentYard$Fields"
def TX1 : u_T := fun k => match k with
  | 0 => ("TentYard$Fields", "first", "[I", true)
  | 1 => ("TentYard$Fields", "last", "[I", true)
  | 2 => ("TentYard$Fields", "price", "[I", true)
  | 3 => ("TentYard$Fields", "state", "[I", true)
  | 4 => ("TentYard$Fields", "soil", "[I", true)
  | 5 => ("TentYard$Fields", "bays", "[I", true)
  | 6 => ("TentYard$Fields", "stakes", "[I", true)
  | 7 => ("TentYard$Fields", "needs", "[I", true)
  | 8 => ("TentYard$Fields", "told", "[Z", true)
  | _ => ("TentYard$Fields", "size", "I", false)
def tyX1 : Nat → FieldType := fun k => match k with
  | 0 => .array .int
  | 1 => .array .int
  | 2 => .array .int
  | 3 => .array .int
  | 4 => .array .int
  | 5 => .array .int
  | 6 => .array .int
  | 7 => .array .int
  | 8 => .array .boolean
  | _ => .int
theorem nmX1 : ∀ a, a < 10 → ∀ b, b < 10 → a ≠ b → (TX1 a).2.1 ≠ (TX1 b).2.1 := by decide +kernel
theorem tyX1_ok : ∀ k, k < 10 → parseFieldDescriptor (TX1 k).2.2.1 = some (tyX1 k) := by decide +kernel
abbrev cX1_init : ByteArray := prog_3_method_1_code
def yX1_init : MethodName := ⟨RX1, "<init>", "()V"⟩
abbrev cX1_has : ByteArray := prog_3_method_2_code
def yX1_has : MethodName := ⟨RX1, "has", "(I)Z"⟩
abbrev cX1_hasAll : ByteArray := prog_3_method_3_code
def yX1_hasAll : MethodName := ⟨RX1, "hasAll", "(I)Z"⟩
abbrev cX1_ask : ByteArray := prog_3_method_4_code
def yX1_ask : MethodName := ⟨RX1, "ask", "(III)I"⟩
abbrev cX1_setOf : ByteArray := prog_3_method_5_code
def yX1_setOf : MethodName := ⟨RX1, "setOf", "(I)I"⟩
abbrev cX1_priceOf : ByteArray := prog_3_method_6_code
def yX1_priceOf : MethodName := ⟨RX1, "priceOf", "(I)I"⟩
abbrev cX1_worksOn : ByteArray := prog_3_method_7_code
def yX1_worksOn : MethodName := ⟨RX1, "worksOn", "(II)Z"⟩
abbrev cX1_tell : ByteArray := prog_3_method_8_code
def yX1_tell : MethodName := ⟨RX1, "tell", "(II)I"⟩
def RX2 : String := "TentYard$Law"
def TX2 : u_T := fun k => match k with
  | 0 => ("TentYard$Law", "from", "[I", true)
  | 1 => ("TentYard$Law", "doors", "[I", true)
  | _ => ("TentYard$Law", "size", "I", false)
def tyX2 : Nat → FieldType := fun k => match k with
  | 0 => .array .int
  | 1 => .array .int
  | _ => .int
theorem nmX2 : ∀ a, a < 3 → ∀ b, b < 3 → a ≠ b → (TX2 a).2.1 ≠ (TX2 b).2.1 := by decide +kernel
theorem tyX2_ok : ∀ k, k < 3 → parseFieldDescriptor (TX2 k).2.2.1 = some (tyX2 k) := by decide +kernel
abbrev cX2_init : ByteArray := prog_4_method_1_code
def yX2_init : MethodName := ⟨RX2, "<init>", "()V"⟩
abbrev cX2_write : ByteArray := prog_4_method_2_code
def yX2_write : MethodName := ⟨RX2, "write", "(II)I"⟩
abbrev cX2_doorsFor : ByteArray := prog_4_method_3_code
def yX2_doorsFor : MethodName := ⟨RX2, "doorsFor", "(I)I"⟩
def RX3 : String := "TentYard$Ledger"
def TX3 : u_T := fun k => match k with
  | 0 => ("TentYard$Ledger", "used", "[I", true)
  | 1 => ("TentYard$Ledger", "set", "I", false)
  | 2 => ("TentYard$Ledger", "lacking", "I", false)
  | _ => ("TentYard$Ledger", "hireSum", "J", false)
def tyX3 : Nat → FieldType := fun k => match k with
  | 0 => .array .int
  | 1 => .int
  | 2 => .int
  | _ => .long
theorem nmX3 : ∀ a, a < 4 → ∀ b, b < 4 → a ≠ b → (TX3 a).2.1 ≠ (TX3 b).2.1 := by decide +kernel
theorem tyX3_ok : ∀ k, k < 4 → parseFieldDescriptor (TX3 k).2.2.1 = some (tyX3 k) := by decide +kernel
abbrev cX3_init : ByteArray := prog_5_method_1_code
def yX3_init : MethodName := ⟨RX3, "<init>", "()V"⟩
abbrev cX3_clear : ByteArray := prog_5_method_2_code
def yX3_clear : MethodName := ⟨RX3, "clear", "()V"⟩
abbrev cX3_enter : ByteArray := prog_5_method_3_code
def yX3_enter : MethodName := ⟨RX3, "enter", "(IIIIII)V"⟩
def RX4 : String := "TentYard$Rain"
def TX4 : u_T := fun k => match k with
  | 0 => ("TentYard$Rain", "falls", "[Z", true)
  | _ => ("TentYard$Rain", "days", "I", false)
def tyX4 : Nat → FieldType := fun k => match k with
  | 0 => .array .boolean
  | _ => .int
theorem nmX4 : ∀ a, a < 2 → ∀ b, b < 2 → a ≠ b → (TX4 a).2.1 ≠ (TX4 b).2.1 := by decide +kernel
theorem tyX4_ok : ∀ k, k < 2 → parseFieldDescriptor (TX4 k).2.2.1 = some (tyX4 k) := by decide +kernel
abbrev cX4_init : ByteArray := prog_6_method_1_code
def yX4_init : MethodName := ⟨RX4, "<init>", "()V"⟩
abbrev cX4_on : ByteArray := prog_6_method_2_code
def yX4_on : MethodName := ⟨RX4, "on", "(I)Z"⟩
abbrev cX4_tell : ByteArray := prog_6_method_3_code
def yX4_tell : MethodName := ⟨RX4, "tell", "(IZ)V"⟩
def RX5 : String := "TentYard$Things"
def TX5 : u_T := fun k => match k with
  | 0 => ("TentYard$Things", "own", "[I", true)
  | 1 => ("TentYard$Things", "drying", "[I", true)
  | 2 => ("TentYard$Things", "weight", "[I", true)
  | 3 => ("TentYard$Things", "hire", "[I", true)
  | 4 => ("TentYard$Things", "cost", "[I", true)
  | _ => ("TentYard$Things", "gone", "[I", true)
def tyX5 : Nat → FieldType := fun k => match k with
  | 0 => .array .int
  | 1 => .array .int
  | 2 => .array .int
  | 3 => .array .int
  | 4 => .array .int
  | _ => .array .int
theorem nmX5 : ∀ a, a < 6 → ∀ b, b < 6 → a ≠ b → (TX5 a).2.1 ≠ (TX5 b).2.1 := by decide +kernel
theorem tyX5_ok : ∀ k, k < 6 → parseFieldDescriptor (TX5 k).2.2.1 = some (tyX5 k) := by decide +kernel
abbrev cX5_init : ByteArray := prog_7_method_1_code
def yX5_init : MethodName := ⟨RX5, "<init>", "()V"⟩
abbrev cX5_have : ByteArray := prog_7_method_2_code
def yX5_have : MethodName := ⟨RX5, "have", "(I)I"⟩
abbrev cX5_allGone : ByteArray := prog_7_method_3_code
def yX5_allGone : MethodName := ⟨RX5, "allGone", "()I"⟩
def RX6 : String := "TentYard"
def TX6 : u_T := fun k => match k with
  | 0 => ("TentYard", "things", "LTentYard$Things;", true)
  | 1 => ("TentYard", "fields", "LTentYard$Fields;", true)
  | 2 => ("TentYard", "rain", "LTentYard$Rain;", true)
  | 3 => ("TentYard", "ledger", "LTentYard$Ledger;", true)
  | 4 => ("TentYard", "law", "LTentYard$Law;", true)
  | 5 => ("TentYard", "crews", "LTentYard$Crews;", true)
  | 6 => ("TentYard", "holds", "[I", true)
  | _ => ("TentYard", "bills", "I", false)
def tyX6 : Nat → FieldType := fun k => match k with
  | 0 => .object "TentYard$Things"
  | 1 => .object "TentYard$Fields"
  | 2 => .object "TentYard$Rain"
  | 3 => .object "TentYard$Ledger"
  | 4 => .object "TentYard$Law"
  | 5 => .object "TentYard$Crews"
  | 6 => .array .int
  | _ => .int
theorem nmX6 : ∀ a, a < 8 → ∀ b, b < 8 → a ≠ b → (TX6 a).2.1 ≠ (TX6 b).2.1 := by decide +kernel
theorem tyX6_ok : ∀ k, k < 8 → parseFieldDescriptor (TX6 k).2.2.1 = some (tyX6 k) := by decide +kernel
abbrev cX6_init : ByteArray := prog_1_method_1_code
def yX6_init : MethodName := ⟨RX6, "<init>", "()V"⟩
abbrev cX6_thing : ByteArray := prog_1_method_2_code
def yX6_thing : MethodName := ⟨RX6, "thing", "(IIIIII)I"⟩
abbrev cX6_field : ByteArray := prog_1_method_3_code
def yX6_field : MethodName := ⟨RX6, "field", "(III)I"⟩
abbrev cX6_need : ByteArray := prog_1_method_4_code
def yX6_need : MethodName := ⟨RX6, "need", "(III)I"⟩
abbrev cX6_rain : ByteArray := prog_1_method_5_code
def yX6_rain : MethodName := ⟨RX6, "rain", "(IZ)I"⟩
abbrev cX6_take : ByteArray := prog_1_method_6_code
def yX6_take : MethodName := ⟨RX6, "take", "(I)I"⟩
abbrev cX6_hire : ByteArray := prog_1_method_7_code
def yX6_hire : MethodName := ⟨RX6, "hire", "(I)I"⟩
abbrev cX6_giveUp : ByteArray := prog_1_method_8_code
def yX6_giveUp : MethodName := ⟨RX6, "giveUp", "(I)I"⟩
abbrev cX6_change : ByteArray := prog_1_method_9_code
def yX6_change : MethodName := ⟨RX6, "change", "(III)I"⟩
abbrev cX6_back : ByteArray := prog_1_method_10_code
def yX6_back : MethodName := ⟨RX6, "back", "(I)I"⟩
abbrev cX6_missing : ByteArray := prog_1_method_11_code
def yX6_missing : MethodName := ⟨RX6, "missing", "(III)I"⟩
abbrev cX6_mend : ByteArray := prog_1_method_12_code
def yX6_mend : MethodName := ⟨RX6, "mend", "(II)I"⟩
abbrev cX6_about : ByteArray := prog_1_method_13_code
def yX6_about : MethodName := ⟨RX6, "about", "(II)I"⟩
abbrev cX6_lack : ByteArray := prog_1_method_14_code
def yX6_lack : MethodName := ⟨RX6, "lack", "(II)I"⟩
abbrev cX6_fits : ByteArray := prog_1_method_15_code
def yX6_fits : MethodName := ⟨RX6, "fits", "(I)I"⟩
abbrev cX6_best : ByteArray := prog_1_method_16_code
def yX6_best : MethodName := ⟨RX6, "best", "()I"⟩
abbrev cX6_dearest : ByteArray := prog_1_method_17_code
def yX6_dearest : MethodName := ⟨RX6, "dearest", "()I"⟩
abbrev cX6_hired : ByteArray := prog_1_method_18_code
def yX6_hired : MethodName := ⟨RX6, "hired", "(I)J"⟩
abbrev cX6_fewest : ByteArray := prog_1_method_19_code
def yX6_fewest : MethodName := ⟨RX6, "fewest", "()I"⟩
abbrev cX6_bays : ByteArray := prog_1_method_20_code
def yX6_bays : MethodName := ⟨RX6, "bays", "(II)I"⟩
abbrev cX6_law : ByteArray := prog_1_method_21_code
def yX6_law : MethodName := ⟨RX6, "law", "(II)I"⟩
abbrev cX6_unlaw : ByteArray := prog_1_method_22_code
def yX6_unlaw : MethodName := ⟨RX6, "unlaw", "()I"⟩
abbrev cX6_doors : ByteArray := prog_1_method_23_code
def yX6_doors : MethodName := ⟨RX6, "doors", "(I)I"⟩
abbrev cX6_keeps : ByteArray := prog_1_method_24_code
def yX6_keeps : MethodName := ⟨RX6, "keeps", "(II)I"⟩
abbrev cX6_soil : ByteArray := prog_1_method_25_code
def yX6_soil : MethodName := ⟨RX6, "soil", "(II)I"⟩
abbrev cX6_pitch : ByteArray := prog_1_method_26_code
def yX6_pitch : MethodName := ⟨RX6, "pitch", "(IIII)I"⟩
abbrev cX6_bears : ByteArray := prog_1_method_27_code
def yX6_bears : MethodName := ⟨RX6, "bears", "(I)I"⟩
abbrev cX6_gust : ByteArray := prog_1_method_28_code
def yX6_gust : MethodName := ⟨RX6, "gust", "(II)I"⟩
abbrev cX6_hours : ByteArray := prog_1_method_29_code
def yX6_hours : MethodName := ⟨RX6, "hours", "(II)I"⟩
abbrev cX6_crew : ByteArray := prog_1_method_30_code
def yX6_crew : MethodName := ⟨RX6, "crew", "(III)I"⟩
abbrev cX6_loads : ByteArray := prog_1_method_31_code
def yX6_loads : MethodName := ⟨RX6, "loads", "(II)I"⟩
abbrev cX6_count : ByteArray := prog_1_method_32_code
def yX6_count : MethodName := ⟨RX6, "count", "(I)I"⟩
abbrev cX6_digest : ByteArray := prog_1_method_33_code
def yX6_digest : MethodName := ⟨RX6, "digest", "()J"⟩
abbrev cX6_outside : ByteArray := prog_1_method_34_code
def yX6_outside : MethodName := ⟨RX6, "outside", "(III)Z"⟩
abbrev cX6_isThing : ByteArray := prog_1_method_35_code
def yX6_isThing : MethodName := ⟨RX6, "isThing", "(I)Z"⟩
abbrev cX6_bit : ByteArray := prog_1_method_36_code
def yX6_bit : MethodName := ⟨RX6, "bit", "(Z)I"⟩
abbrev cX6_cell : ByteArray := prog_1_method_37_code
def yX6_cell : MethodName := ⟨RX6, "cell", "(II)I"⟩
abbrev cX6_cutUp : ByteArray := prog_1_method_38_code
def yX6_cutUp : MethodName := ⟨RX6, "cutUp", "(II)I"⟩
abbrev cX6_goTogether : ByteArray := prog_1_method_39_code
def yX6_goTogether : MethodName := ⟨RX6, "goTogether", "(I)Z"⟩
abbrev cX6_countAnew : ByteArray := prog_1_method_40_code
def yX6_countAnew : MethodName := ⟨RX6, "countAnew", "(I)V"⟩
abbrev cX6_countOn : ByteArray := prog_1_method_41_code
def yX6_countOn : MethodName := ⟨RX6, "countOn", "(I)V"⟩
abbrev cX6_enter : ByteArray := prog_1_method_42_code
def yX6_enter : MethodName := ⟨RX6, "enter", "(II)V"⟩
abbrev cX6_stands : ByteArray := prog_1_method_43_code
def yX6_stands : MethodName := ⟨RX6, "stands", "(II)Z"⟩
abbrev cX6_sendCrews : ByteArray := prog_1_method_44_code
def yX6_sendCrews : MethodName := ⟨RX6, "sendCrews", "(II)V"⟩
abbrev cX6_weightOf : ByteArray := prog_1_method_45_code
def yX6_weightOf : MethodName := ⟨RX6, "weightOf", "(I)I"⟩
abbrev cX6_total : ByteArray := prog_1_method_46_code
def yX6_total : MethodName := ⟨RX6, "total", "(I)I"⟩
def RX7 : String := "TentYardModel"
def TX7 : u_T := fun k => match k with
  | 0 => ("TentYardModel", "own", "[I", true)
  | 1 => ("TentYardModel", "drying", "[I", true)
  | 2 => ("TentYardModel", "weight", "[I", true)
  | 3 => ("TentYardModel", "price", "[I", true)
  | 4 => ("TentYardModel", "cost", "[I", true)
  | 5 => ("TentYardModel", "gone", "[I", true)
  | 6 => ("TentYardModel", "fields", "I", false)
  | 7 => ("TentYardModel", "first", "[I", true)
  | 8 => ("TentYardModel", "last", "[I", true)
  | 9 => ("TentYardModel", "paid", "[I", true)
  | 10 => ("TentYardModel", "stands", "[I", true)
  | 11 => ("TentYardModel", "need", "[I", true)
  | 12 => ("TentYardModel", "isTold", "[Z", true)
  | 13 => ("TentYardModel", "soilOf", "[I", true)
  | 14 => ("TentYardModel", "baysOf", "[I", true)
  | 15 => ("TentYardModel", "stakes", "[I", true)
  | 16 => ("TentYardModel", "isRain", "[Z", true)
  | 17 => ("TentYardModel", "bills", "I", false)
  | 18 => ("TentYardModel", "lines", "I", false)
  | 19 => ("TentYardModel", "lineFrom", "[I", true)
  | 20 => ("TentYardModel", "lineDoors", "[I", true)
  | 21 => ("TentYardModel", "holds", "[I", true)
  | 22 => ("TentYardModel", "uses", "[I", true)
  | 23 => ("TentYardModel", "working", "I", false)
  | 24 => ("TentYardModel", "worker", "[I", true)
  | 25 => ("TentYardModel", "crewOf", "[I", true)
  | 26 => ("TentYardModel", "bestCrew", "[I", true)
  | _ => ("TentYardModel", "sum", "[I", true)
def tyX7 : Nat → FieldType := fun k => match k with
  | 0 => .array .int
  | 1 => .array .int
  | 2 => .array .int
  | 3 => .array .int
  | 4 => .array .int
  | 5 => .array .int
  | 6 => .int
  | 7 => .array .int
  | 8 => .array .int
  | 9 => .array .int
  | 10 => .array .int
  | 11 => .array .int
  | 12 => .array .boolean
  | 13 => .array .int
  | 14 => .array .int
  | 15 => .array .int
  | 16 => .array .boolean
  | 17 => .int
  | 18 => .int
  | 19 => .array .int
  | 20 => .array .int
  | 21 => .array .int
  | 22 => .array .int
  | 23 => .int
  | 24 => .array .int
  | 25 => .array .int
  | 26 => .array .int
  | _ => .array .int
theorem nmX7 : ∀ a, a < 28 → ∀ b, b < 28 → a ≠ b → (TX7 a).2.1 ≠ (TX7 b).2.1 := by decide +kernel
theorem tyX7_ok : ∀ k, k < 28 → parseFieldDescriptor (TX7 k).2.2.1 = some (tyX7 k) := by decide +kernel
abbrev cX7_init : ByteArray := prog_9_method_1_code
def yX7_init : MethodName := ⟨RX7, "<init>", "()V"⟩
abbrev cX7_in : ByteArray := prog_9_method_3_code
def yX7_in : MethodName := ⟨RX7, "in", "(III)Z"⟩
abbrev cX7_isThing : ByteArray := prog_9_method_4_code
def yX7_isThing : MethodName := ⟨RX7, "isThing", "(I)Z"⟩
abbrev cX7_isField : ByteArray := prog_9_method_5_code
def yX7_isField : MethodName := ⟨RX7, "isField", "(I)Z"⟩
abbrev cX7_isDay : ByteArray := prog_9_method_6_code
def yX7_isDay : MethodName := ⟨RX7, "isDay", "(I)Z"⟩
abbrev cX7_thing : ByteArray := prog_9_method_7_code
def yX7_thing : MethodName := ⟨RX7, "thing", "(IIIIII)I"⟩
abbrev cX7_field : ByteArray := prog_9_method_8_code
def yX7_field : MethodName := ⟨RX7, "field", "(III)I"⟩
abbrev cX7_need : ByteArray := prog_9_method_9_code
def yX7_need : MethodName := ⟨RX7, "need", "(III)I"⟩
abbrev cX7_rain : ByteArray := prog_9_method_10_code
def yX7_rain : MethodName := ⟨RX7, "rain", "(IZ)I"⟩
abbrev cX7_findUses : ByteArray := prog_9_method_11_code
def yX7_findUses : MethodName := ⟨RX7, "findUses", "()V"⟩
abbrev cX7_lackOf : ByteArray := prog_9_method_12_code
def yX7_lackOf : MethodName := ⟨RX7, "lackOf", "(III)I"⟩
abbrev cX7_isFit : ByteArray := prog_9_method_13_code
def yX7_isFit : MethodName := ⟨RX7, "isFit", "(I)Z"⟩
abbrev cX7_hiredFor : ByteArray := prog_9_method_14_code
def yX7_hiredFor : MethodName := ⟨RX7, "hiredFor", "(I)J"⟩
abbrev cX7_all : ByteArray := prog_9_method_15_code
def yX7_all : MethodName := ⟨RX7, "all", "(I)I"⟩
abbrev cX7_isSet : ByteArray := prog_9_method_16_code
def yX7_isSet : MethodName := ⟨RX7, "isSet", "(I)Z"⟩
abbrev cX7_prices : ByteArray := prog_9_method_17_code
def yX7_prices : MethodName := ⟨RX7, "prices", "(I)I"⟩
abbrev cX7_many : ByteArray := prog_9_method_18_code
def yX7_many : MethodName := ⟨RX7, "many", "(I)I"⟩
abbrev cX7_take : ByteArray := prog_9_method_19_code
def yX7_take : MethodName := ⟨RX7, "take", "(I)I"⟩
abbrev cX7_hire : ByteArray := prog_9_method_20_code
def yX7_hire : MethodName := ⟨RX7, "hire", "(I)I"⟩
abbrev cX7_giveUp : ByteArray := prog_9_method_21_code
def yX7_giveUp : MethodName := ⟨RX7, "giveUp", "(I)I"⟩
abbrev cX7_change : ByteArray := prog_9_method_22_code
def yX7_change : MethodName := ⟨RX7, "change", "(III)I"⟩
abbrev cX7_back : ByteArray := prog_9_method_23_code
def yX7_back : MethodName := ⟨RX7, "back", "(I)I"⟩
abbrev cX7_missing : ByteArray := prog_9_method_24_code
def yX7_missing : MethodName := ⟨RX7, "missing", "(III)I"⟩
abbrev cX7_mend : ByteArray := prog_9_method_25_code
def yX7_mend : MethodName := ⟨RX7, "mend", "(II)I"⟩
abbrev cX7_aboutOf : ByteArray := prog_9_method_26_code
def yX7_aboutOf : MethodName := ⟨RX7, "aboutOf", "(II)I"⟩
abbrev cX7_about : ByteArray := prog_9_method_27_code
def yX7_about : MethodName := ⟨RX7, "about", "(II)I"⟩
abbrev cX7_lack : ByteArray := prog_9_method_28_code
def yX7_lack : MethodName := ⟨RX7, "lack", "(II)I"⟩
abbrev cX7_fits : ByteArray := prog_9_method_29_code
def yX7_fits : MethodName := ⟨RX7, "fits", "(I)I"⟩
abbrev cX7_best : ByteArray := prog_9_method_30_code
def yX7_best : MethodName := ⟨RX7, "best", "()I"⟩
abbrev cX7_dearest : ByteArray := prog_9_method_31_code
def yX7_dearest : MethodName := ⟨RX7, "dearest", "()I"⟩
abbrev cX7_hired : ByteArray := prog_9_method_32_code
def yX7_hired : MethodName := ⟨RX7, "hired", "(I)J"⟩
abbrev cX7_fewest : ByteArray := prog_9_method_33_code
def yX7_fewest : MethodName := ⟨RX7, "fewest", "()I"⟩
abbrev cX7_isGuests : ByteArray := prog_9_method_34_code
def yX7_isGuests : MethodName := ⟨RX7, "isGuests", "(I)Z"⟩
abbrev cX7_bays : ByteArray := prog_9_method_35_code
def yX7_bays : MethodName := ⟨RX7, "bays", "(II)I"⟩
abbrev cX7_law : ByteArray := prog_9_method_36_code
def yX7_law : MethodName := ⟨RX7, "law", "(II)I"⟩
abbrev cX7_unlaw : ByteArray := prog_9_method_37_code
def yX7_unlaw : MethodName := ⟨RX7, "unlaw", "()I"⟩
abbrev cX7_doorsFor : ByteArray := prog_9_method_38_code
def yX7_doorsFor : MethodName := ⟨RX7, "doorsFor", "(I)I"⟩
abbrev cX7_doors : ByteArray := prog_9_method_39_code
def yX7_doors : MethodName := ⟨RX7, "doors", "(I)I"⟩
abbrev cX7_keeps : ByteArray := prog_9_method_40_code
def yX7_keeps : MethodName := ⟨RX7, "keeps", "(II)I"⟩
abbrev cX7_soil : ByteArray := prog_9_method_41_code
def yX7_soil : MethodName := ⟨RX7, "soil", "(II)I"⟩
abbrev cX7_pitch : ByteArray := prog_9_method_42_code
def yX7_pitch : MethodName := ⟨RX7, "pitch", "(IIII)I"⟩
abbrev cX7_doesBear : ByteArray := prog_9_method_43_code
def yX7_doesBear : MethodName := ⟨RX7, "doesBear", "(II)Z"⟩
abbrev cX7_bears : ByteArray := prog_9_method_44_code
def yX7_bears : MethodName := ⟨RX7, "bears", "(I)I"⟩
abbrev cX7_gust : ByteArray := prog_9_method_45_code
def yX7_gust : MethodName := ⟨RX7, "gust", "(II)I"⟩
abbrev cX7_isOfDay : ByteArray := prog_9_method_46_code
def yX7_isOfDay : MethodName := ⟨RX7, "isOfDay", "(II)Z"⟩
abbrev cX7_greatest : ByteArray := prog_9_method_47_code
def yX7_greatest : MethodName := ⟨RX7, "greatest", "(II)I"⟩
abbrev cX7_deals : ByteArray := prog_9_method_48_code
def yX7_deals : MethodName := ⟨RX7, "deals", "(II)I"⟩
abbrev cX7_hours : ByteArray := prog_9_method_49_code
def yX7_hours : MethodName := ⟨RX7, "hours", "(II)I"⟩
abbrev cX7_crew : ByteArray := prog_9_method_50_code
def yX7_crew : MethodName := ⟨RX7, "crew", "(III)I"⟩
abbrev cX7_loads : ByteArray := prog_9_method_51_code
def yX7_loads : MethodName := ⟨RX7, "loads", "(II)I"⟩
abbrev cX7_count : ByteArray := prog_9_method_52_code
def yX7_count : MethodName := ⟨RX7, "count", "(I)I"⟩
abbrev cX7_digest : ByteArray := prog_9_method_53_code
def yX7_digest : MethodName := ⟨RX7, "digest", "()J"⟩
def RJ6 : String := "java/lang/Integer"
def TJ6 : u_T := fun k => match k with
  | _ => ("", "", "", false)
def tyJ6 : Nat → FieldType := fun k => match k with
  | _ => .int
theorem nmJ6 : ∀ a, a < 0 → ∀ b, b < 0 → a ≠ b → (TJ6 a).2.1 ≠ (TJ6 b).2.1 := by decide +kernel
theorem tyJ6_ok : ∀ k, k < 0 → parseFieldDescriptor (TJ6 k).2.2.1 = some (tyJ6 k) := by decide +kernel
abbrev cJ6_bitCount_0f7a4 : ByteArray := prog_10_method_49_code
def yJ6_bitCount_0f7a4 : MethodName := ⟨RJ6, "bitCount", "(I)I"⟩
def RJ9 : String := "java/lang/Math"
def TJ9 : u_T := fun k => match k with
  | _ => ("", "", "", false)
def tyJ9 : Nat → FieldType := fun k => match k with
  | _ => .int
theorem nmJ9 : ∀ a, a < 0 → ∀ b, b < 0 → a ≠ b → (TJ9 a).2.1 ≠ (TJ9 b).2.1 := by decide +kernel
theorem tyJ9_ok : ∀ k, k < 0 → parseFieldDescriptor (TJ9 k).2.2.1 = some (tyJ9 k) := by decide +kernel
abbrev cJ9_max_7cf53 : ByteArray := prog_11_method_65_code
def yJ9_max_7cf53 : MethodName := ⟨RJ9, "max", "(II)I"⟩
def RJ10 : String := "java/lang/System"
def TJ10 : u_T := fun k => match k with
  | _ => ("", "", "", false)
def tyJ10 : Nat → FieldType := fun k => match k with
  | _ => .int
theorem nmJ10 : ∀ a, a < 0 → ∀ b, b < 0 → a ≠ b → (TJ10 a).2.1 ≠ (TJ10 b).2.1 := by decide +kernel
theorem tyJ10_ok : ∀ k, k < 0 → parseFieldDescriptor (TJ10 k).2.2.1 = some (tyJ10 k) := by decide +kernel
def RJ7 : String := "java/util/Arrays"
def TJ7 : u_T := fun k => match k with
  | _ => ("", "", "", false)
def tyJ7 : Nat → FieldType := fun k => match k with
  | _ => .int
theorem nmJ7 : ∀ a, a < 0 → ∀ b, b < 0 → a ≠ b → (TJ7 a).2.1 ≠ (TJ7 b).2.1 := by decide +kernel
theorem tyJ7_ok : ∀ k, k < 0 → parseFieldDescriptor (TJ7 k).2.2.1 = some (tyJ7 k) := by decide +kernel
abbrev cJ7_fill_53178 : ByteArray := prog_13_method_103_code
def yJ7_fill_53178 : MethodName := ⟨RJ7, "fill", "([II)V"⟩
def RL : String := "TentYardLaw"
abbrev cL_law : ByteArray := code
def yL_law : MethodName := ⟨RL, "law", "([I)Z"⟩
abbrev vwCl : List vw_C := [(RX0, TX0, 7), (RX1, TX1, 10), (RX2, TX2, 3), (RX3, TX3, 4), (RX4, TX4, 2), (RX5, TX5, 6), (RX6, TX6, 8), (RX7, TX7, 28)]
