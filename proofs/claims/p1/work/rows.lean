section
-- ===== PART A: goes FIRST, ahead of the names: the tables' words, and 'selects' of the private methods out of them =====
/-- a private method of a class that the tables say can be made, by its rows of tables_1 -/
def lw_okq (q : MethodName × Nat) : Prop := (q.1.cls ≠ "java/lang/invoke/MethodHandle" ∧ q.1.cls ≠ "java/lang/invoke/VarHandle") ∧ Cond.instantiable q.1.cls q.2 ∈ tables_1 ∧ Cond.privateMethod q.1 ∈ tables_1 ∧ Cond.instanceMethod q.1 ∈ tables_1
theorem lw_p0 : lw_okq (⟨"DoorNet$Ways", "walk", "(IIIII)V"⟩, 5) := ⟨⟨by decide +kernel, by decide +kernel⟩, List.mem_of_getElem? (i := 73) (by decide +kernel), List.mem_of_getElem? (i := 300) (by decide +kernel), List.mem_of_getElem? (i := 301) (by decide +kernel)⟩
theorem lw_p1 : lw_okq (⟨"DoorNet$Ways", "offer", "(I)V"⟩, 5) := ⟨⟨by decide +kernel, by decide +kernel⟩, List.mem_of_getElem? (i := 73) (by decide +kernel), List.mem_of_getElem? (i := 315) (by decide +kernel), List.mem_of_getElem? (i := 316) (by decide +kernel)⟩
theorem lw_p2 : lw_okq (⟨"DoorNet", "isPeriod", "(I)Z"⟩, 6) := ⟨⟨by decide +kernel, by decide +kernel⟩, List.mem_of_getElem? (i := 15) (by decide +kernel), List.mem_of_getElem? (i := 333) (by decide +kernel), List.mem_of_getElem? (i := 334) (by decide +kernel)⟩
theorem lw_p3 : lw_okq (⟨"DoorNet", "findChoices", "(LDoorNet$Stream;III)V"⟩, 6) := ⟨⟨by decide +kernel, by decide +kernel⟩, List.mem_of_getElem? (i := 15) (by decide +kernel), List.mem_of_getElem? (i := 382) (by decide +kernel), List.mem_of_getElem? (i := 383) (by decide +kernel)⟩
theorem lw_p4 : lw_okq (⟨"DoorNet$Planner", "giveDoors", "(I)V"⟩, 8) := ⟨⟨by decide +kernel, by decide +kernel⟩, List.mem_of_getElem? (i := 148) (by decide +kernel), List.mem_of_getElem? (i := 418) (by decide +kernel), List.mem_of_getElem? (i := 419) (by decide +kernel)⟩
theorem lw_p5 : lw_okq (⟨"DoorNet$Ring", "includeTurned", "(JJI)V"⟩, 3) := ⟨⟨by decide +kernel, by decide +kernel⟩, List.mem_of_getElem? (i := 119) (by decide +kernel), List.mem_of_getElem? (i := 454) (by decide +kernel), List.mem_of_getElem? (i := 455) (by decide +kernel)⟩
theorem lw_p6 : lw_okq (⟨"DoorNet$Planner", "search", "(I)I"⟩, 8) := ⟨⟨by decide +kernel, by decide +kernel⟩, List.mem_of_getElem? (i := 148) (by decide +kernel), List.mem_of_getElem? (i := 486) (by decide +kernel), List.mem_of_getElem? (i := 487) (by decide +kernel)⟩
theorem lw_p7 : lw_okq (⟨"DoorNet$Planner", "searchTicks", "(ILDoorNet$Stream;I)I"⟩, 8) := ⟨⟨by decide +kernel, by decide +kernel⟩, List.mem_of_getElem? (i := 148) (by decide +kernel), List.mem_of_getElem? (i := 504) (by decide +kernel), List.mem_of_getElem? (i := 505) (by decide +kernel)⟩
theorem lw_p8 : lw_okq (⟨"DoorNet$Planner", "keepPlaces", "()V"⟩, 8) := ⟨⟨by decide +kernel, by decide +kernel⟩, List.mem_of_getElem? (i := 148) (by decide +kernel), List.mem_of_getElem? (i := 513) (by decide +kernel), List.mem_of_getElem? (i := 514) (by decide +kernel)⟩
theorem lw_p9 : lw_okq (⟨"DoorNet$Post", "setOutAll", "()V"⟩, 9) := ⟨⟨by decide +kernel, by decide +kernel⟩, List.mem_of_getElem? (i := 183) (by decide +kernel), List.mem_of_getElem? (i := 698) (by decide +kernel), List.mem_of_getElem? (i := 699) (by decide +kernel)⟩
theorem lw_p10 : lw_okq (⟨"DoorNet$Post", "findHead", "(I)V"⟩, 9) := ⟨⟨by decide +kernel, by decide +kernel⟩, List.mem_of_getElem? (i := 183) (by decide +kernel), List.mem_of_getElem? (i := 712) (by decide +kernel), List.mem_of_getElem? (i := 713) (by decide +kernel)⟩
theorem lw_p11 : lw_okq (⟨"DoorNet$Post", "beginOf", "(LDoorNet$Letter;I)I"⟩, 9) := ⟨⟨by decide +kernel, by decide +kernel⟩, List.mem_of_getElem? (i := 183) (by decide +kernel), List.mem_of_getElem? (i := 729) (by decide +kernel), List.mem_of_getElem? (i := 730) (by decide +kernel)⟩
theorem lw_p12 : lw_okq (⟨"DoorNet$Post", "earliestWire", "()I"⟩, 9) := ⟨⟨by decide +kernel, by decide +kernel⟩, List.mem_of_getElem? (i := 183) (by decide +kernel), List.mem_of_getElem? (i := 739) (by decide +kernel), List.mem_of_getElem? (i := 740) (by decide +kernel)⟩
theorem lw_p13 : lw_okq (⟨"DoorNet$Post", "beginOn", "(I)V"⟩, 9) := ⟨⟨by decide +kernel, by decide +kernel⟩, List.mem_of_getElem? (i := 183) (by decide +kernel), List.mem_of_getElem? (i := 743) (by decide +kernel), List.mem_of_getElem? (i := 744) (by decide +kernel)⟩
theorem lw_p14 : lw_okq (⟨"DoorNet$Post", "waitingAt", "(II)I"⟩, 9) := ⟨⟨by decide +kernel, by decide +kernel⟩, List.mem_of_getElem? (i := 183) (by decide +kernel), List.mem_of_getElem? (i := 767) (by decide +kernel), List.mem_of_getElem? (i := 768) (by decide +kernel)⟩
theorem lw_p15 : lw_okq (⟨"DoorNetModel", "isBox", "(I)Z"⟩, 42) := ⟨⟨by decide +kernel, by decide +kernel⟩, List.mem_of_getElem? (i := 785) (by decide +kernel), List.mem_of_getElem? (i := 927) (by decide +kernel), List.mem_of_getElem? (i := 928) (by decide +kernel)⟩
def lw_privs_1 : List (MethodName × Nat) := [(⟨"DoorNet$Ways", "walk", "(IIIII)V"⟩, 5), (⟨"DoorNet$Ways", "offer", "(I)V"⟩, 5), (⟨"DoorNet", "isPeriod", "(I)Z"⟩, 6), (⟨"DoorNet", "findChoices", "(LDoorNet$Stream;III)V"⟩, 6), (⟨"DoorNet$Planner", "giveDoors", "(I)V"⟩, 8), (⟨"DoorNet$Ring", "includeTurned", "(JJI)V"⟩, 3), (⟨"DoorNet$Planner", "search", "(I)I"⟩, 8), (⟨"DoorNet$Planner", "searchTicks", "(ILDoorNet$Stream;I)I"⟩, 8), (⟨"DoorNet$Planner", "keepPlaces", "()V"⟩, 8), (⟨"DoorNet$Post", "setOutAll", "()V"⟩, 9), (⟨"DoorNet$Post", "findHead", "(I)V"⟩, 9), (⟨"DoorNet$Post", "beginOf", "(LDoorNet$Letter;I)I"⟩, 9), (⟨"DoorNet$Post", "earliestWire", "()I"⟩, 9), (⟨"DoorNet$Post", "beginOn", "(I)V"⟩, 9), (⟨"DoorNet$Post", "waitingAt", "(II)I"⟩, 9), (⟨"DoorNetModel", "isBox", "(I)Z"⟩, 42)]
theorem lw_r1 : ∀ q ∈ lw_privs_1, lw_okq q := List.forall_mem_cons.mpr ⟨lw_p0, List.forall_mem_cons.mpr ⟨lw_p1, List.forall_mem_cons.mpr ⟨lw_p2, List.forall_mem_cons.mpr ⟨lw_p3, List.forall_mem_cons.mpr ⟨lw_p4, List.forall_mem_cons.mpr ⟨lw_p5, List.forall_mem_cons.mpr ⟨lw_p6, List.forall_mem_cons.mpr ⟨lw_p7, List.forall_mem_cons.mpr ⟨lw_p8, List.forall_mem_cons.mpr ⟨lw_p9, List.forall_mem_cons.mpr ⟨lw_p10, List.forall_mem_cons.mpr ⟨lw_p11, List.forall_mem_cons.mpr ⟨lw_p12, List.forall_mem_cons.mpr ⟨lw_p13, List.forall_mem_cons.mpr ⟨lw_p14, List.forall_mem_cons.mpr ⟨lw_p15, fun _ h => absurd h List.not_mem_nil⟩⟩⟩⟩⟩⟩⟩⟩⟩⟩⟩⟩⟩⟩⟩⟩
theorem lw_p16 : lw_okq (⟨"DoorNetModel", "findWays", "(III)V"⟩, 42) := ⟨⟨by decide +kernel, by decide +kernel⟩, List.mem_of_getElem? (i := 785) (by decide +kernel), List.mem_of_getElem? (i := 946) (by decide +kernel), List.mem_of_getElem? (i := 947) (by decide +kernel)⟩
theorem lw_p17 : lw_okq (⟨"DoorNetModel", "isSeen", "(III)Z"⟩, 42) := ⟨⟨by decide +kernel, by decide +kernel⟩, List.mem_of_getElem? (i := 785) (by decide +kernel), List.mem_of_getElem? (i := 950) (by decide +kernel), List.mem_of_getElem? (i := 951) (by decide +kernel)⟩
theorem lw_p18 : lw_okq (⟨"DoorNetModel", "keep", "(II)V"⟩, 42) := ⟨⟨by decide +kernel, by decide +kernel⟩, List.mem_of_getElem? (i := 785) (by decide +kernel), List.mem_of_getElem? (i := 954) (by decide +kernel), List.mem_of_getElem? (i := 955) (by decide +kernel)⟩
theorem lw_p19 : lw_okq (⟨"DoorNetModel", "late", "([IIII)I"⟩, 42) := ⟨⟨by decide +kernel, by decide +kernel⟩, List.mem_of_getElem? (i := 785) (by decide +kernel), List.mem_of_getElem? (i := 958) (by decide +kernel), List.mem_of_getElem? (i := 959) (by decide +kernel)⟩
theorem lw_p20 : lw_okq (⟨"DoorNetModel", "isBehind", "(III)Z"⟩, 42) := ⟨⟨by decide +kernel, by decide +kernel⟩, List.mem_of_getElem? (i := 785) (by decide +kernel), List.mem_of_getElem? (i := 962) (by decide +kernel), List.mem_of_getElem? (i := 963) (by decide +kernel)⟩
theorem lw_p21 : lw_okq (⟨"DoorNetModel", "lay", "()V"⟩, 42) := ⟨⟨by decide +kernel, by decide +kernel⟩, List.mem_of_getElem? (i := 785) (by decide +kernel), List.mem_of_getElem? (i := 974) (by decide +kernel), List.mem_of_getElem? (i := 975) (by decide +kernel)⟩
theorem lw_p22 : lw_okq (⟨"DoorNetModel", "put", "(IIII)V"⟩, 42) := ⟨⟨by decide +kernel, by decide +kernel⟩, List.mem_of_getElem? (i := 785) (by decide +kernel), List.mem_of_getElem? (i := 978) (by decide +kernel), List.mem_of_getElem? (i := 979) (by decide +kernel)⟩
theorem lw_p23 : lw_okq (⟨"DoorNetModel", "start", "(IIII)I"⟩, 42) := ⟨⟨by decide +kernel, by decide +kernel⟩, List.mem_of_getElem? (i := 785) (by decide +kernel), List.mem_of_getElem? (i := 982) (by decide +kernel), List.mem_of_getElem? (i := 983) (by decide +kernel)⟩
theorem lw_p24 : lw_okq (⟨"DoorNetModel", "seekWith", "(I)I"⟩, 42) := ⟨⟨by decide +kernel, by decide +kernel⟩, List.mem_of_getElem? (i := 785) (by decide +kernel), List.mem_of_getElem? (i := 990) (by decide +kernel), List.mem_of_getElem? (i := 991) (by decide +kernel)⟩
theorem lw_p25 : lw_okq (⟨"DoorNetModel", "seek", "()I"⟩, 42) := ⟨⟨by decide +kernel, by decide +kernel⟩, List.mem_of_getElem? (i := 785) (by decide +kernel), List.mem_of_getElem? (i := 994) (by decide +kernel), List.mem_of_getElem? (i := 995) (by decide +kernel)⟩
theorem lw_p26 : lw_okq (⟨"DoorNetModel", "meets", "(III)Z"⟩, 42) := ⟨⟨by decide +kernel, by decide +kernel⟩, List.mem_of_getElem? (i := 785) (by decide +kernel), List.mem_of_getElem? (i := 999) (by decide +kernel), List.mem_of_getElem? (i := 1000) (by decide +kernel)⟩
theorem lw_p27 : lw_okq (⟨"DoorNetModel", "placed", "()I"⟩, 42) := ⟨⟨by decide +kernel, by decide +kernel⟩, List.mem_of_getElem? (i := 785) (by decide +kernel), List.mem_of_getElem? (i := 1011) (by decide +kernel), List.mem_of_getElem? (i := 1012) (by decide +kernel)⟩
theorem lw_p28 : lw_okq (⟨"DoorNetModel", "nextSet", "(III)I"⟩, 42) := ⟨⟨by decide +kernel, by decide +kernel⟩, List.mem_of_getElem? (i := 785) (by decide +kernel), List.mem_of_getElem? (i := 1015) (by decide +kernel), List.mem_of_getElem? (i := 1016) (by decide +kernel)⟩
theorem lw_p29 : lw_okq (⟨"DoorNetModel", "isPlace", "(I)Z"⟩, 42) := ⟨⟨by decide +kernel, by decide +kernel⟩, List.mem_of_getElem? (i := 785) (by decide +kernel), List.mem_of_getElem? (i := 1029) (by decide +kernel), List.mem_of_getElem? (i := 1030) (by decide +kernel)⟩
theorem lw_p30 : lw_okq (⟨"DoorNetModel", "isWire", "(I)Z"⟩, 42) := ⟨⟨by decide +kernel, by decide +kernel⟩, List.mem_of_getElem? (i := 785) (by decide +kernel), List.mem_of_getElem? (i := 1041) (by decide +kernel), List.mem_of_getElem? (i := 1042) (by decide +kernel)⟩
theorem lw_p31 : lw_okq (⟨"DoorNetModel", "isOpen", "(III)Z"⟩, 42) := ⟨⟨by decide +kernel, by decide +kernel⟩, List.mem_of_getElem? (i := 785) (by decide +kernel), List.mem_of_getElem? (i := 1049) (by decide +kernel), List.mem_of_getElem? (i := 1050) (by decide +kernel)⟩
def lw_privs_2 : List (MethodName × Nat) := [(⟨"DoorNetModel", "findWays", "(III)V"⟩, 42), (⟨"DoorNetModel", "isSeen", "(III)Z"⟩, 42), (⟨"DoorNetModel", "keep", "(II)V"⟩, 42), (⟨"DoorNetModel", "late", "([IIII)I"⟩, 42), (⟨"DoorNetModel", "isBehind", "(III)Z"⟩, 42), (⟨"DoorNetModel", "lay", "()V"⟩, 42), (⟨"DoorNetModel", "put", "(IIII)V"⟩, 42), (⟨"DoorNetModel", "start", "(IIII)I"⟩, 42), (⟨"DoorNetModel", "seekWith", "(I)I"⟩, 42), (⟨"DoorNetModel", "seek", "()I"⟩, 42), (⟨"DoorNetModel", "meets", "(III)Z"⟩, 42), (⟨"DoorNetModel", "placed", "()I"⟩, 42), (⟨"DoorNetModel", "nextSet", "(III)I"⟩, 42), (⟨"DoorNetModel", "isPlace", "(I)Z"⟩, 42), (⟨"DoorNetModel", "isWire", "(I)Z"⟩, 42), (⟨"DoorNetModel", "isOpen", "(III)Z"⟩, 42)]
theorem lw_r2 : ∀ q ∈ lw_privs_2, lw_okq q := List.forall_mem_cons.mpr ⟨lw_p16, List.forall_mem_cons.mpr ⟨lw_p17, List.forall_mem_cons.mpr ⟨lw_p18, List.forall_mem_cons.mpr ⟨lw_p19, List.forall_mem_cons.mpr ⟨lw_p20, List.forall_mem_cons.mpr ⟨lw_p21, List.forall_mem_cons.mpr ⟨lw_p22, List.forall_mem_cons.mpr ⟨lw_p23, List.forall_mem_cons.mpr ⟨lw_p24, List.forall_mem_cons.mpr ⟨lw_p25, List.forall_mem_cons.mpr ⟨lw_p26, List.forall_mem_cons.mpr ⟨lw_p27, List.forall_mem_cons.mpr ⟨lw_p28, List.forall_mem_cons.mpr ⟨lw_p29, List.forall_mem_cons.mpr ⟨lw_p30, List.forall_mem_cons.mpr ⟨lw_p31, fun _ h => absurd h List.not_mem_nil⟩⟩⟩⟩⟩⟩⟩⟩⟩⟩⟩⟩⟩⟩⟩⟩
theorem lw_p32 : lw_okq (⟨"DoorNetModel", "rest", "(I)I"⟩, 42) := ⟨⟨by decide +kernel, by decide +kernel⟩, List.mem_of_getElem? (i := 785) (by decide +kernel), List.mem_of_getElem? (i := 1053) (by decide +kernel), List.mem_of_getElem? (i := 1054) (by decide +kernel)⟩
theorem lw_p33 : lw_okq (⟨"DoorNetModel", "leave", "(III)I"⟩, 42) := ⟨⟨by decide +kernel, by decide +kernel⟩, List.mem_of_getElem? (i := 785) (by decide +kernel), List.mem_of_getElem? (i := 1074) (by decide +kernel), List.mem_of_getElem? (i := 1075) (by decide +kernel)⟩
theorem lw_p34 : lw_okq (⟨"DoorNetModel", "follow", "()V"⟩, 42) := ⟨⟨by decide +kernel, by decide +kernel⟩, List.mem_of_getElem? (i := 785) (by decide +kernel), List.mem_of_getElem? (i := 1086) (by decide +kernel), List.mem_of_getElem? (i := 1087) (by decide +kernel)⟩
theorem lw_p35 : lw_okq (⟨"DoorNetModel", "look", "(II)V"⟩, 42) := ⟨⟨by decide +kernel, by decide +kernel⟩, List.mem_of_getElem? (i := 785) (by decide +kernel), List.mem_of_getElem? (i := 1091) (by decide +kernel), List.mem_of_getElem? (i := 1092) (by decide +kernel)⟩
theorem lw_p36 : lw_okq (⟨"DoorNetModel", "go", "(III)V"⟩, 42) := ⟨⟨by decide +kernel, by decide +kernel⟩, List.mem_of_getElem? (i := 785) (by decide +kernel), List.mem_of_getElem? (i := 1095) (by decide +kernel), List.mem_of_getElem? (i := 1096) (by decide +kernel)⟩
def lw_privs_3 : List (MethodName × Nat) := [(⟨"DoorNetModel", "rest", "(I)I"⟩, 42), (⟨"DoorNetModel", "leave", "(III)I"⟩, 42), (⟨"DoorNetModel", "follow", "()V"⟩, 42), (⟨"DoorNetModel", "look", "(II)V"⟩, 42), (⟨"DoorNetModel", "go", "(III)V"⟩, 42)]
theorem lw_r3 : ∀ q ∈ lw_privs_3, lw_okq q := List.forall_mem_cons.mpr ⟨lw_p32, List.forall_mem_cons.mpr ⟨lw_p33, List.forall_mem_cons.mpr ⟨lw_p34, List.forall_mem_cons.mpr ⟨lw_p35, List.forall_mem_cons.mpr ⟨lw_p36, fun _ h => absurd h List.not_mem_nil⟩⟩⟩⟩⟩
def lw_privs : List (MethodName × Nat) := lw_privs_1 ++ (lw_privs_2 ++ (lw_privs_3))
def lw_tbl : List Cond := k2_sels lw_privs ++ tables_1
theorem lw_privs_ok : ∀ q ∈ lw_privs, lw_okq q := by
  show ∀ q ∈ lw_privs_1 ++ (lw_privs_2 ++ (lw_privs_3)), lw_okq q
  exact List.forall_mem_append.mpr ⟨lw_r1, List.forall_mem_append.mpr ⟨lw_r2, lw_r3⟩⟩

def RX0 : String := "DoorNet$Doors"
def TX0 : u_T := fun k => match k with
  | 0 => ("DoorNet$Doors", "net", "LDoorNet$Net;", true)
  | 1 => ("DoorNet$Doors", "taken", "[LDoorNet$Ring;", true)
  | 2 => ("DoorNet$Doors", "letters", "LDoorNet$Ring;", true)
  | _ => ("DoorNet$Doors", "oneMeets", "LDoorNet$Ring;", true)
def tyX0 : Nat → FieldType := fun k => match k with
  | 0 => .object "DoorNet$Net"
  | 1 => .array (.object "DoorNet$Ring")
  | 2 => .object "DoorNet$Ring"
  | _ => .object "DoorNet$Ring"
theorem nmX0 : ∀ a, a < 4 → ∀ b, b < 4 → a ≠ b → (TX0 a).2.1 ≠ (TX0 b).2.1 := by decide +kernel
theorem tyX0_ok : ∀ k, k < 4 → parseFieldDescriptor (TX0 k).2.2.1 = some (tyX0 k) := by decide +kernel
abbrev cX0_init : ByteArray := prog_2_method_1_code
def yX0_init : MethodName := ⟨RX0, "<init>", "(LDoorNet$Net;)V"⟩
abbrev cX0_clear : ByteArray := prog_2_method_2_code
def yX0_clear : MethodName := ⟨RX0, "clear", "()V"⟩
abbrev cX0_hand : ByteArray := prog_2_method_3_code
def yX0_hand : MethodName := ⟨RX0, "hand", "(LDoorNet$Stream;IIZ)V"⟩
abbrev cX0_findMeetings : ByteArray := prog_2_method_4_code
def yX0_findMeetings : MethodName := ⟨RX0, "findMeetings", "(LDoorNet$Ring;LDoorNet$Stream;I)V"⟩
abbrev cX0_waitFrom : ByteArray := prog_2_method_5_code
def yX0_waitFrom : MethodName := ⟨RX0, "waitFrom", "(III)I"⟩
def RX1 : String := "DoorNet$Letter"
def TX1 : u_T := fun k => match k with
  | 0 => ("DoorNet$Letter", "sent", "I", true)
  | 1 => ("DoorNet$Letter", "from", "I", true)
  | 2 => ("DoorNet$Letter", "to", "I", true)
  | 3 => ("DoorNet$Letter", "size", "I", true)
  | 4 => ("DoorNet$Letter", "waited", "[I", true)
  | 5 => ("DoorNet$Letter", "begun", "[I", true)
  | 6 => ("DoorNet$Letter", "way", "I", false)
  | 7 => ("DoorNet$Letter", "hop", "I", false)
  | _ => ("DoorNet$Letter", "end", "I", false)
def tyX1 : Nat → FieldType := fun k => match k with
  | 0 => .int
  | 1 => .int
  | 2 => .int
  | 3 => .int
  | 4 => .array .int
  | 5 => .array .int
  | 6 => .int
  | 7 => .int
  | _ => .int
theorem nmX1 : ∀ a, a < 9 → ∀ b, b < 9 → a ≠ b → (TX1 a).2.1 ≠ (TX1 b).2.1 := by decide +kernel
theorem tyX1_ok : ∀ k, k < 9 → parseFieldDescriptor (TX1 k).2.2.1 = some (tyX1 k) := by decide +kernel
abbrev cX1_init : ByteArray := prog_3_method_1_code
def yX1_init : MethodName := ⟨RX1, "<init>", "(IIII)V"⟩
abbrev cX1_setOut : ByteArray := prog_3_method_2_code
def yX1_setOut : MethodName := ⟨RX1, "setOut", "(I)V"⟩
abbrev cX1_nextWire : ByteArray := prog_3_method_3_code
def yX1_nextWire : MethodName := ⟨RX1, "nextWire", "()I"⟩
abbrev cX1_readyAt : ByteArray := prog_3_method_4_code
def yX1_readyAt : MethodName := ⟨RX1, "readyAt", "()I"⟩
abbrev cX1_goesAheadOf : ByteArray := prog_3_method_5_code
def yX1_goesAheadOf : MethodName := ⟨RX1, "goesAheadOf", "(LDoorNet$Letter;)Z"⟩
abbrev cX1_readyFor : ByteArray := prog_3_method_6_code
def yX1_readyFor : MethodName := ⟨RX1, "readyFor", "(I)I"⟩
abbrev cX1_waitsFor : ByteArray := prog_3_method_7_code
def yX1_waitsFor : MethodName := ⟨RX1, "waitsFor", "(II)Z"⟩
def RX2 : String := "DoorNet$Net"
def TX2 : u_T := fun k => match k with
  | 0 => ("DoorNet$Net", "hold", "[I", true)
  | 1 => ("DoorNet$Net", "off", "[I", true)
  | 2 => ("DoorNet$Net", "from", "[I", true)
  | 3 => ("DoorNet$Net", "to", "[I", true)
  | 4 => ("DoorNet$Net", "length", "[I", true)
  | 5 => ("DoorNet$Net", "speed", "[I", true)
  | 6 => ("DoorNet$Net", "boxes", "I", false)
  | 7 => ("DoorNet$Net", "wires", "I", false)
  | 8 => ("DoorNet$Net", "ticks", "I", false)
  | _ => ("DoorNet$Net", "slack", "I", false)
def tyX2 : Nat → FieldType := fun k => match k with
  | 0 => .array .int
  | 1 => .array .int
  | 2 => .array .int
  | 3 => .array .int
  | 4 => .array .int
  | 5 => .array .int
  | 6 => .int
  | 7 => .int
  | 8 => .int
  | _ => .int
theorem nmX2 : ∀ a, a < 10 → ∀ b, b < 10 → a ≠ b → (TX2 a).2.1 ≠ (TX2 b).2.1 := by decide +kernel
theorem tyX2_ok : ∀ k, k < 10 → parseFieldDescriptor (TX2 k).2.2.1 = some (tyX2 k) := by decide +kernel
abbrev cX2_init : ByteArray := prog_4_method_1_code
def yX2_init : MethodName := ⟨RX2, "<init>", "()V"⟩
abbrev cX2_hasBox : ByteArray := prog_4_method_2_code
def yX2_hasBox : MethodName := ⟨RX2, "hasBox", "(I)Z"⟩
abbrev cX2_hasPair : ByteArray := prog_4_method_3_code
def yX2_hasPair : MethodName := ⟨RX2, "hasPair", "(II)Z"⟩
abbrev cX2_hasWire : ByteArray := prog_4_method_4_code
def yX2_hasWire : MethodName := ⟨RX2, "hasWire", "(I)Z"⟩
abbrev cX2_hasTick : ByteArray := prog_4_method_5_code
def yX2_hasTick : MethodName := ⟨RX2, "hasTick", "(I)Z"⟩
abbrev cX2_makeBox : ByteArray := prog_4_method_6_code
def yX2_makeBox : MethodName := ⟨RX2, "makeBox", "(I)I"⟩
abbrev cX2_makeWire : ByteArray := prog_4_method_7_code
def yX2_makeWire : MethodName := ⟨RX2, "makeWire", "(IIII)I"⟩
abbrev cX2_rightClocks : ByteArray := prog_4_method_8_code
def yX2_rightClocks : MethodName := ⟨RX2, "rightClocks", "()V"⟩
abbrev cX2_timeOn : ByteArray := prog_4_method_9_code
def yX2_timeOn : MethodName := ⟨RX2, "timeOn", "(II)I"⟩
abbrev cX2_crossing : ByteArray := prog_4_method_10_code
def yX2_crossing : MethodName := ⟨RX2, "crossing", "(II)I"⟩
abbrev cX2_holdBehind : ByteArray := prog_4_method_11_code
def yX2_holdBehind : MethodName := ⟨RX2, "holdBehind", "(I)I"⟩
abbrev cX2_stayBehind : ByteArray := prog_4_method_12_code
def yX2_stayBehind : MethodName := ⟨RX2, "stayBehind", "(I)I"⟩
abbrev cX2_offAt : ByteArray := prog_4_method_13_code
def yX2_offAt : MethodName := ⟨RX2, "offAt", "(I)I"⟩
abbrev cX2_startOf : ByteArray := prog_4_method_14_code
def yX2_startOf : MethodName := ⟨RX2, "startOf", "(LDoorNet$Stream;I)I"⟩
abbrev cX2_beginOf : ByteArray := prog_4_method_15_code
def yX2_beginOf : MethodName := ⟨RX2, "beginOf", "(LDoorNet$Stream;II)I"⟩
abbrev cX2_hasDoor : ByteArray := prog_4_method_16_code
def yX2_hasDoor : MethodName := ⟨RX2, "hasDoor", "(LDoorNet$Stream;II)Z"⟩
def RX3 : String := "DoorNet$Planner"
def TX3 : u_T := fun k => match k with
  | 0 => ("DoorNet$Planner", "streams", "LDoorNet$Streams;", true)
  | 1 => ("DoorNet$Planner", "doors", "LDoorNet$Doors;", true)
  | 2 => ("DoorNet$Planner", "sought", "[LDoorNet$Stream;", true)
  | 3 => ("DoorNet$Planner", "meetings", "[LDoorNet$Ring;", true)
  | 4 => ("DoorNet$Planner", "choices", "[I", true)
  | 5 => ("DoorNet$Planner", "ticks", "[I", true)
  | 6 => ("DoorNet$Planner", "many", "I", false)
  | _ => ("DoorNet$Planner", "made", "I", false)
def tyX3 : Nat → FieldType := fun k => match k with
  | 0 => .object "DoorNet$Streams"
  | 1 => .object "DoorNet$Doors"
  | 2 => .array (.object "DoorNet$Stream")
  | 3 => .array (.object "DoorNet$Ring")
  | 4 => .array .int
  | 5 => .array .int
  | 6 => .int
  | _ => .int
theorem nmX3 : ∀ a, a < 8 → ∀ b, b < 8 → a ≠ b → (TX3 a).2.1 ≠ (TX3 b).2.1 := by decide +kernel
theorem tyX3_ok : ∀ k, k < 8 → parseFieldDescriptor (TX3 k).2.2.1 = some (tyX3 k) := by decide +kernel
abbrev cX3_init : ByteArray := prog_5_method_1_code
def yX3_init : MethodName := ⟨RX3, "<init>", "(LDoorNet$Net;LDoorNet$Streams;LDoorNet$Doors;)V"⟩
abbrev cX3_begin : ByteArray := prog_5_method_2_code
def yX3_begin : MethodName := ⟨RX3, "begin", "()V"⟩
abbrev cX3_fitFewest : ByteArray := prog_5_method_3_code
def yX3_fitFewest : MethodName := ⟨RX3, "fitFewest", "()I"⟩
abbrev cX3_mirrored : ByteArray := prog_5_method_4_code
def yX3_mirrored : MethodName := ⟨RX3, "mirrored", "(I)I"⟩
abbrev cX3_fit : ByteArray := prog_5_method_5_code
def yX3_fit : MethodName := ⟨RX3, "fit", "(I)I"⟩
abbrev cX3_showDoors : ByteArray := prog_5_method_6_code
def yX3_showDoors : MethodName := ⟨RX3, "showDoors", "()V"⟩
abbrev cX3_giveDoors : ByteArray := prog_5_method_7_code
def yX3_giveDoors : MethodName := ⟨RX3, "giveDoors", "(I)V"⟩
abbrev cX3_keepPlaces : ByteArray := prog_5_method_8_code
def yX3_keepPlaces : MethodName := ⟨RX3, "keepPlaces", "()V"⟩
abbrev cX3_search : ByteArray := prog_5_method_9_code
def yX3_search : MethodName := ⟨RX3, "search", "(I)I"⟩
abbrev cX3_searchTicks : ByteArray := prog_5_method_10_code
def yX3_searchTicks : MethodName := ⟨RX3, "searchTicks", "(ILDoorNet$Stream;I)I"⟩
def RX4 : String := "DoorNet$Post"
def TX4 : u_T := fun k => match k with
  | 0 => ("DoorNet$Post", "net", "LDoorNet$Net;", true)
  | 1 => ("DoorNet$Post", "ways", "LDoorNet$Ways;", true)
  | 2 => ("DoorNet$Post", "doors", "LDoorNet$Doors;", true)
  | 3 => ("DoorNet$Post", "letters", "[LDoorNet$Letter;", true)
  | 4 => ("DoorNet$Post", "heads", "[LDoorNet$Letter;", true)
  | 5 => ("DoorNet$Post", "headBegins", "[I", true)
  | 6 => ("DoorNet$Post", "freeFrom", "[I", true)
  | 7 => ("DoorNet$Post", "told", "I", false)
  | _ => ("DoorNet$Post", "stale", "Z", false)
def tyX4 : Nat → FieldType := fun k => match k with
  | 0 => .object "DoorNet$Net"
  | 1 => .object "DoorNet$Ways"
  | 2 => .object "DoorNet$Doors"
  | 3 => .array (.object "DoorNet$Letter")
  | 4 => .array (.object "DoorNet$Letter")
  | 5 => .array .int
  | 6 => .array .int
  | 7 => .int
  | _ => .boolean
theorem nmX4 : ∀ a, a < 9 → ∀ b, b < 9 → a ≠ b → (TX4 a).2.1 ≠ (TX4 b).2.1 := by decide +kernel
theorem tyX4_ok : ∀ k, k < 9 → parseFieldDescriptor (TX4 k).2.2.1 = some (tyX4 k) := by decide +kernel
abbrev cX4_init : ByteArray := prog_6_method_1_code
def yX4_init : MethodName := ⟨RX4, "<init>", "(LDoorNet$Net;LDoorNet$Ways;LDoorNet$Doors;)V"⟩
abbrev cX4_tell : ByteArray := prog_6_method_2_code
def yX4_tell : MethodName := ⟨RX4, "tell", "(LDoorNet$Letter;)I"⟩
abbrev cX4_letter : ByteArray := prog_6_method_3_code
def yX4_letter : MethodName := ⟨RX4, "letter", "(I)LDoorNet$Letter;"⟩
abbrev cX4_settle : ByteArray := prog_6_method_4_code
def yX4_settle : MethodName := ⟨RX4, "settle", "()V"⟩
abbrev cX4_setOutAll : ByteArray := prog_6_method_5_code
def yX4_setOutAll : MethodName := ⟨RX4, "setOutAll", "()V"⟩
abbrev cX4_findHead : ByteArray := prog_6_method_6_code
def yX4_findHead : MethodName := ⟨RX4, "findHead", "(I)V"⟩
abbrev cX4_beginOf : ByteArray := prog_6_method_7_code
def yX4_beginOf : MethodName := ⟨RX4, "beginOf", "(LDoorNet$Letter;I)I"⟩
abbrev cX4_earliestWire : ByteArray := prog_6_method_8_code
def yX4_earliestWire : MethodName := ⟨RX4, "earliestWire", "()I"⟩
abbrev cX4_beginOn : ByteArray := prog_6_method_9_code
def yX4_beginOn : MethodName := ⟨RX4, "beginOn", "(I)V"⟩
abbrev cX4_longestRow : ByteArray := prog_6_method_10_code
def yX4_longestRow : MethodName := ⟨RX4, "longestRow", "(I)I"⟩
abbrev cX4_waitingAt : ByteArray := prog_6_method_11_code
def yX4_waitingAt : MethodName := ⟨RX4, "waitingAt", "(II)I"⟩
abbrev cX4_ended : ByteArray := prog_6_method_12_code
def yX4_ended : MethodName := ⟨RX4, "ended", "()I"⟩
def RX5 : String := "DoorNet$Ring"
def TX5 : u_T := fun k => match k with
  | 0 => ("DoorNet$Ring", "net", "LDoorNet$Net;", true)
  | 1 => ("DoorNet$Ring", "low", "J", false)
  | _ => ("DoorNet$Ring", "high", "J", false)
def tyX5 : Nat → FieldType := fun k => match k with
  | 0 => .object "DoorNet$Net"
  | 1 => .long
  | _ => .long
theorem nmX5 : ∀ a, a < 3 → ∀ b, b < 3 → a ≠ b → (TX5 a).2.1 ≠ (TX5 b).2.1 := by decide +kernel
theorem tyX5_ok : ∀ k, k < 3 → parseFieldDescriptor (TX5 k).2.2.1 = some (tyX5 k) := by decide +kernel
abbrev cX5_init : ByteArray := prog_7_method_1_code
def yX5_init : MethodName := ⟨RX5, "<init>", "(LDoorNet$Net;)V"⟩
abbrev cX5_clear : ByteArray := prog_7_method_2_code
def yX5_clear : MethodName := ⟨RX5, "clear", "()V"⟩
abbrev cX5_fill : ByteArray := prog_7_method_3_code
def yX5_fill : MethodName := ⟨RX5, "fill", "()V"⟩
abbrev cX5_has : ByteArray := prog_7_method_4_code
def yX5_has : MethodName := ⟨RX5, "has", "(I)Z"⟩
abbrev cX5_include : ByteArray := prog_7_method_5_code
def yX5_include : MethodName := ⟨RX5, "include", "(LDoorNet$Ring;)V"⟩
abbrev cX5_exclude : ByteArray := prog_7_method_6_code
def yX5_exclude : MethodName := ⟨RX5, "exclude", "(LDoorNet$Ring;)V"⟩
abbrev cX5_includePutOff : ByteArray := prog_7_method_7_code
def yX5_includePutOff : MethodName := ⟨RX5, "includePutOff", "(LDoorNet$Ring;I)V"⟩
abbrev cX5_becomeLetters : ByteArray := prog_7_method_8_code
def yX5_becomeLetters : MethodName := ⟨RX5, "becomeLetters", "(III)V"⟩
abbrev cX5_lettersOf : ByteArray := prog_7_method_9_code
def yX5_lettersOf : MethodName := ⟨RX5, "lettersOf", "(I)I"⟩
abbrev cX5_includeTurned : ByteArray := prog_7_method_10_code
def yX5_includeTurned : MethodName := ⟨RX5, "includeTurned", "(JJI)V"⟩
def RX6 : String := "DoorNet$Stream"
def TX6 : u_T := fun k => match k with
  | 0 => ("DoorNet$Stream", "size", "I", true)
  | 1 => ("DoorNet$Stream", "period", "I", true)
  | 2 => ("DoorNet$Stream", "ways", "[I", true)
  | 3 => ("DoorNet$Stream", "choices", "I", false)
  | 4 => ("DoorNet$Stream", "choice", "I", false)
  | _ => ("DoorNet$Stream", "tick", "I", false)
def tyX6 : Nat → FieldType := fun k => match k with
  | 0 => .int
  | 1 => .int
  | 2 => .array .int
  | 3 => .int
  | 4 => .int
  | _ => .int
theorem nmX6 : ∀ a, a < 6 → ∀ b, b < 6 → a ≠ b → (TX6 a).2.1 ≠ (TX6 b).2.1 := by decide +kernel
theorem tyX6_ok : ∀ k, k < 6 → parseFieldDescriptor (TX6 k).2.2.1 = some (tyX6 k) := by decide +kernel
abbrev cX6_init : ByteArray := prog_8_method_1_code
def yX6_init : MethodName := ⟨RX6, "<init>", "(II)V"⟩
abbrev cX6_offer : ByteArray := prog_8_method_2_code
def yX6_offer : MethodName := ⟨RX6, "offer", "(I)V"⟩
abbrev cX6_wayOf : ByteArray := prog_8_method_3_code
def yX6_wayOf : MethodName := ⟨RX6, "wayOf", "(I)I"⟩
abbrev cX6_wayNow : ByteArray := prog_8_method_4_code
def yX6_wayNow : MethodName := ⟨RX6, "wayNow", "()I"⟩
def RX7 : String := "DoorNet$Streams"
def TX7 : u_T := fun k => match k with
  | 0 => ("DoorNet$Streams", "all", "[LDoorNet$Stream;", true)
  | _ => ("DoorNet$Streams", "told", "I", false)
def tyX7 : Nat → FieldType := fun k => match k with
  | 0 => .array (.object "DoorNet$Stream")
  | _ => .int
theorem nmX7 : ∀ a, a < 2 → ∀ b, b < 2 → a ≠ b → (TX7 a).2.1 ≠ (TX7 b).2.1 := by decide +kernel
theorem tyX7_ok : ∀ k, k < 2 → parseFieldDescriptor (TX7 k).2.2.1 = some (tyX7 k) := by decide +kernel
abbrev cX7_init : ByteArray := prog_9_method_1_code
def yX7_init : MethodName := ⟨RX7, "<init>", "()V"⟩
abbrev cX7_tell : ByteArray := prog_9_method_2_code
def yX7_tell : MethodName := ⟨RX7, "tell", "(LDoorNet$Stream;)I"⟩
abbrev cX7_one : ByteArray := prog_9_method_3_code
def yX7_one : MethodName := ⟨RX7, "one", "(I)LDoorNet$Stream;"⟩
abbrev cX7_placedOne : ByteArray := prog_9_method_4_code
def yX7_placedOne : MethodName := ⟨RX7, "placedOne", "(I)LDoorNet$Stream;"⟩
abbrev cX7_allOfThem : ByteArray := prog_9_method_5_code
def yX7_allOfThem : MethodName := ⟨RX7, "allOfThem", "()I"⟩
abbrev cX7_withPlace : ByteArray := prog_9_method_6_code
def yX7_withPlace : MethodName := ⟨RX7, "withPlace", "()I"⟩
abbrev cX7_withoutPlace : ByteArray := prog_9_method_7_code
def yX7_withoutPlace : MethodName := ⟨RX7, "withoutPlace", "()I"⟩
def RX8 : String := "DoorNet$Ways"
def TX8 : u_T := fun k => match k with
  | 0 => ("DoorNet$Ways", "net", "LDoorNet$Net;", true)
  | 1 => ("DoorNet$Ways", "goal", "I", false)
  | 2 => ("DoorNet$Ways", "size", "I", false)
  | 3 => ("DoorNet$Ways", "behind", "I", false)
  | _ => ("DoorNet$Ways", "least", "I", false)
def tyX8 : Nat → FieldType := fun k => match k with
  | 0 => .object "DoorNet$Net"
  | 1 => .int
  | 2 => .int
  | 3 => .int
  | _ => .int
theorem nmX8 : ∀ a, a < 5 → ∀ b, b < 5 → a ≠ b → (TX8 a).2.1 ≠ (TX8 b).2.1 := by decide +kernel
theorem tyX8_ok : ∀ k, k < 5 → parseFieldDescriptor (TX8 k).2.2.1 = some (tyX8 k) := by decide +kernel
abbrev cX8_init : ByteArray := prog_10_method_1_code
def yX8_init : MethodName := ⟨RX8, "<init>", "(LDoorNet$Net;)V"⟩
abbrev cX8_latenessOf : ByteArray := prog_10_method_2_code
def yX8_latenessOf : MethodName := ⟨RX8, "latenessOf", "(I)I"⟩
abbrev cX8_wireAt : ByteArray := prog_10_method_3_code
def yX8_wireAt : MethodName := ⟨RX8, "wireAt", "(II)I"⟩
abbrev cX8_wiresIn : ByteArray := prog_10_method_4_code
def yX8_wiresIn : MethodName := ⟨RX8, "wiresIn", "(I)I"⟩
abbrev cX8_hasHop : ByteArray := prog_10_method_5_code
def yX8_hasHop : MethodName := ⟨RX8, "hasHop", "(II)Z"⟩
abbrev cX8_hopOn : ByteArray := prog_10_method_6_code
def yX8_hopOn : MethodName := ⟨RX8, "hopOn", "(II)I"⟩
abbrev cX8_shiftOf : ByteArray := prog_10_method_7_code
def yX8_shiftOf : MethodName := ⟨RX8, "shiftOf", "(I)I"⟩
abbrev cX8_atRank : ByteArray := prog_10_method_8_code
def yX8_atRank : MethodName := ⟨RX8, "atRank", "(IIII)I"⟩
abbrev cX8_nextBehind : ByteArray := prog_10_method_9_code
def yX8_nextBehind : MethodName := ⟨RX8, "nextBehind", "(IIII)I"⟩
abbrev cX8_walk : ByteArray := prog_10_method_10_code
def yX8_walk : MethodName := ⟨RX8, "walk", "(IIIII)V"⟩
abbrev cX8_offer : ByteArray := prog_10_method_11_code
def yX8_offer : MethodName := ⟨RX8, "offer", "(I)V"⟩
def RX9 : String := "DoorNet"
def TX9 : u_T := fun k => match k with
  | 0 => ("DoorNet", "net", "LDoorNet$Net;", true)
  | 1 => ("DoorNet", "ways", "LDoorNet$Ways;", true)
  | 2 => ("DoorNet", "streams", "LDoorNet$Streams;", true)
  | 3 => ("DoorNet", "doors", "LDoorNet$Doors;", true)
  | 4 => ("DoorNet", "planner", "LDoorNet$Planner;", true)
  | _ => ("DoorNet", "post", "LDoorNet$Post;", true)
def tyX9 : Nat → FieldType := fun k => match k with
  | 0 => .object "DoorNet$Net"
  | 1 => .object "DoorNet$Ways"
  | 2 => .object "DoorNet$Streams"
  | 3 => .object "DoorNet$Doors"
  | 4 => .object "DoorNet$Planner"
  | _ => .object "DoorNet$Post"
theorem nmX9 : ∀ a, a < 6 → ∀ b, b < 6 → a ≠ b → (TX9 a).2.1 ≠ (TX9 b).2.1 := by decide +kernel
theorem tyX9_ok : ∀ k, k < 6 → parseFieldDescriptor (TX9 k).2.2.1 = some (tyX9 k) := by decide +kernel
abbrev cX9_init : ByteArray := prog_1_method_1_code
def yX9_init : MethodName := ⟨RX9, "<init>", "()V"⟩
abbrev cX9_box : ByteArray := prog_1_method_2_code
def yX9_box : MethodName := ⟨RX9, "box", "(I)I"⟩
abbrev cX9_wire : ByteArray := prog_1_method_3_code
def yX9_wire : MethodName := ⟨RX9, "wire", "(IIII)I"⟩
abbrev cX9_cycle : ByteArray := prog_1_method_4_code
def yX9_cycle : MethodName := ⟨RX9, "cycle", "(I)Z"⟩
abbrev cX9_drift : ByteArray := prog_1_method_5_code
def yX9_drift : MethodName := ⟨RX9, "drift", "(I)Z"⟩
abbrev cX9_way : ByteArray := prog_1_method_6_code
def yX9_way : MethodName := ⟨RX9, "way", "(IIIII)I"⟩
abbrev cX9_stream : ByteArray := prog_1_method_7_code
def yX9_stream : MethodName := ⟨RX9, "stream", "(IIIII)I"⟩
abbrev cX9_strike : ByteArray := prog_1_method_8_code
def yX9_strike : MethodName := ⟨RX9, "strike", "(I)Z"⟩
abbrev cX9_plan : ByteArray := prog_1_method_9_code
def yX9_plan : MethodName := ⟨RX9, "plan", "()I"⟩
abbrev cX9_add : ByteArray := prog_1_method_10_code
def yX9_add : MethodName := ⟨RX9, "add", "()I"⟩
abbrev cX9_stir : ByteArray := prog_1_method_11_code
def yX9_stir : MethodName := ⟨RX9, "stir", "()I"⟩
abbrev cX9_place : ByteArray := prog_1_method_12_code
def yX9_place : MethodName := ⟨RX9, "place", "(II)I"⟩
abbrev cX9_tries : ByteArray := prog_1_method_13_code
def yX9_tries : MethodName := ⟨RX9, "tries", "()I"⟩
abbrev cX9_door : ByteArray := prog_1_method_14_code
def yX9_door : MethodName := ⟨RX9, "door", "(II)I"⟩
abbrev cX9_waits : ByteArray := prog_1_method_15_code
def yX9_waits : MethodName := ⟨RX9, "waits", "(III)I"⟩
abbrev cX9_worst : ByteArray := prog_1_method_16_code
def yX9_worst : MethodName := ⟨RX9, "worst", "(II)I"⟩
abbrev cX9_clock : ByteArray := prog_1_method_17_code
def yX9_clock : MethodName := ⟨RX9, "clock", "(II)Z"⟩
abbrev cX9_send : ByteArray := prog_1_method_18_code
def yX9_send : MethodName := ⟨RX9, "send", "(IIII)I"⟩
abbrev cX9_leaves : ByteArray := prog_1_method_19_code
def yX9_leaves : MethodName := ⟨RX9, "leaves", "(III)I"⟩
abbrev cX9_room : ByteArray := prog_1_method_20_code
def yX9_room : MethodName := ⟨RX9, "room", "(III)I"⟩
abbrev cX9_plain : ByteArray := prog_1_method_21_code
def yX9_plain : MethodName := ⟨RX9, "plain", "(II)I"⟩
abbrev cX9_most : ByteArray := prog_1_method_22_code
def yX9_most : MethodName := ⟨RX9, "most", "(I)I"⟩
abbrev cX9_count : ByteArray := prog_1_method_23_code
def yX9_count : MethodName := ⟨RX9, "count", "(I)I"⟩
abbrev cX9_findChoices : ByteArray := prog_1_method_24_code
def yX9_findChoices : MethodName := ⟨RX9, "findChoices", "(LDoorNet$Stream;III)V"⟩
abbrev cX9_isPeriod : ByteArray := prog_1_method_25_code
def yX9_isPeriod : MethodName := ⟨RX9, "isPeriod", "(I)Z"⟩
abbrev cX9_isInTime : ByteArray := prog_1_method_26_code
def yX9_isInTime : MethodName := ⟨RX9, "isInTime", "(II)Z"⟩
abbrev cX9_isCycle : ByteArray := prog_1_method_27_code
def yX9_isCycle : MethodName := ⟨RX9, "isCycle", "(I)Z"⟩
abbrev cX9_isSize : ByteArray := prog_1_method_28_code
def yX9_isSize : MethodName := ⟨RX9, "isSize", "(I)Z"⟩
abbrev cX9_within : ByteArray := prog_1_method_29_code
def yX9_within : MethodName := ⟨RX9, "within", "(III)Z"⟩
abbrev cX9_aheadOfEnd : ByteArray := prog_1_method_30_code
def yX9_aheadOfEnd : MethodName := ⟨RX9, "aheadOfEnd", "(I)I"⟩
def RX10 : String := "DoorNetModel"
def TX10 : u_T := fun k => match k with
  | 0 => ("DoorNetModel", "boxes", "I", false)
  | 1 => ("DoorNetModel", "hold", "[I", true)
  | 2 => ("DoorNetModel", "off", "[I", true)
  | 3 => ("DoorNetModel", "wires", "I", false)
  | 4 => ("DoorNetModel", "fromBox", "[I", true)
  | 5 => ("DoorNetModel", "toBox", "[I", true)
  | 6 => ("DoorNetModel", "length", "[I", true)
  | 7 => ("DoorNetModel", "speed", "[I", true)
  | 8 => ("DoorNetModel", "cycle", "I", false)
  | 9 => ("DoorNetModel", "drift", "I", false)
  | 10 => ("DoorNetModel", "streams", "I", false)
  | 11 => ("DoorNetModel", "size", "[I", true)
  | 12 => ("DoorNetModel", "period", "[I", true)
  | 13 => ("DoorNetModel", "choices", "[I", true)
  | 14 => ("DoorNetModel", "choiceLength", "[I", true)
  | 15 => ("DoorNetModel", "choiceWire", "[I", true)
  | 16 => ("DoorNetModel", "choiceLate", "[I", true)
  | 17 => ("DoorNetModel", "isPlaced", "[Z", true)
  | 18 => ("DoorNetModel", "choice", "[I", true)
  | 19 => ("DoorNetModel", "tick", "[I", true)
  | 20 => ("DoorNetModel", "tried", "I", false)
  | 21 => ("DoorNetModel", "has", "[I", true)
  | 22 => ("DoorNetModel", "plain", "I", false)
  | 23 => ("DoorNetModel", "plainTick", "[I", true)
  | 24 => ("DoorNetModel", "plainSize", "[I", true)
  | 25 => ("DoorNetModel", "plainLength", "[I", true)
  | 26 => ("DoorNetModel", "plainWire", "[I", true)
  | 27 => ("DoorNetModel", "ways", "I", false)
  | 28 => ("DoorNetModel", "wayLength", "[I", true)
  | 29 => ("DoorNetModel", "wayWire", "[I", true)
  | 30 => ("DoorNetModel", "wayLate", "[I", true)
  | 31 => ("DoorNetModel", "going", "[I", true)
  | 32 => ("DoorNetModel", "sought", "[I", true)
  | 33 => ("DoorNetModel", "trying", "[I", true)
  | 34 => ("DoorNetModel", "seeks", "I", false)
  | 35 => ("DoorNetModel", "changed", "Z", false)
  | 36 => ("DoorNetModel", "ready", "[I", true)
  | 37 => ("DoorNetModel", "begins", "[I", true)
  | 38 => ("DoorNetModel", "ends", "[I", true)
  | 39 => ("DoorNetModel", "next", "[I", true)
  | 40 => ("DoorNetModel", "free", "[I", true)
  | _ => ("DoorNetModel", "mostWaits", "[I", true)
def tyX10 : Nat → FieldType := fun k => match k with
  | 0 => .int
  | 1 => .array .int
  | 2 => .array .int
  | 3 => .int
  | 4 => .array .int
  | 5 => .array .int
  | 6 => .array .int
  | 7 => .array .int
  | 8 => .int
  | 9 => .int
  | 10 => .int
  | 11 => .array .int
  | 12 => .array .int
  | 13 => .array .int
  | 14 => .array .int
  | 15 => .array .int
  | 16 => .array .int
  | 17 => .array .boolean
  | 18 => .array .int
  | 19 => .array .int
  | 20 => .int
  | 21 => .array .int
  | 22 => .int
  | 23 => .array .int
  | 24 => .array .int
  | 25 => .array .int
  | 26 => .array .int
  | 27 => .int
  | 28 => .array .int
  | 29 => .array .int
  | 30 => .array .int
  | 31 => .array .int
  | 32 => .array .int
  | 33 => .array .int
  | 34 => .int
  | 35 => .boolean
  | 36 => .array .int
  | 37 => .array .int
  | 38 => .array .int
  | 39 => .array .int
  | 40 => .array .int
  | _ => .array .int
theorem nmX10 : ∀ a, a < 42 → ∀ b, b < 42 → a ≠ b → (TX10 a).2.1 ≠ (TX10 b).2.1 := by decide +kernel
theorem tyX10_ok : ∀ k, k < 42 → parseFieldDescriptor (TX10 k).2.2.1 = some (tyX10 k) := by decide +kernel
abbrev cX10_init : ByteArray := prog_12_method_1_code
def yX10_init : MethodName := ⟨RX10, "<init>", "()V"⟩
abbrev cX10_isBox : ByteArray := prog_12_method_2_code
def yX10_isBox : MethodName := ⟨RX10, "isBox", "(I)Z"⟩
abbrev cX10_isWire : ByteArray := prog_12_method_3_code
def yX10_isWire : MethodName := ⟨RX10, "isWire", "(I)Z"⟩
abbrev cX10_box : ByteArray := prog_12_method_4_code
def yX10_box : MethodName := ⟨RX10, "box", "(I)I"⟩
abbrev cX10_wire : ByteArray := prog_12_method_5_code
def yX10_wire : MethodName := ⟨RX10, "wire", "(IIII)I"⟩
abbrev cX10_cycle : ByteArray := prog_12_method_6_code
def yX10_cycle : MethodName := ⟨RX10, "cycle", "(I)Z"⟩
abbrev cX10_drift : ByteArray := prog_12_method_7_code
def yX10_drift : MethodName := ⟨RX10, "drift", "(I)Z"⟩
abbrev cX10_late : ByteArray := prog_12_method_8_code
def yX10_late : MethodName := ⟨RX10, "late", "([IIII)I"⟩
abbrev cX10_isSeen : ByteArray := prog_12_method_9_code
def yX10_isSeen : MethodName := ⟨RX10, "isSeen", "(III)Z"⟩
abbrev cX10_findWays : ByteArray := prog_12_method_10_code
def yX10_findWays : MethodName := ⟨RX10, "findWays", "(III)V"⟩
abbrev cX10_keep : ByteArray := prog_12_method_11_code
def yX10_keep : MethodName := ⟨RX10, "keep", "(II)V"⟩
abbrev cX10_isBehind : ByteArray := prog_12_method_12_code
def yX10_isBehind : MethodName := ⟨RX10, "isBehind", "(III)Z"⟩
abbrev cX10_isSize : ByteArray := prog_12_method_13_code
def yX10_isSize : MethodName := ⟨RX10, "isSize", "(I)Z"⟩
abbrev cX10_way : ByteArray := prog_12_method_14_code
def yX10_way : MethodName := ⟨RX10, "way", "(IIIII)I"⟩
abbrev cX10_stream : ByteArray := prog_12_method_15_code
def yX10_stream : MethodName := ⟨RX10, "stream", "(IIIII)I"⟩
abbrev cX10_strike : ByteArray := prog_12_method_16_code
def yX10_strike : MethodName := ⟨RX10, "strike", "(I)Z"⟩
abbrev cX10_start : ByteArray := prog_12_method_17_code
def yX10_start : MethodName := ⟨RX10, "start", "(IIII)I"⟩
abbrev cX10_meets : ByteArray := prog_12_method_18_code
def yX10_meets : MethodName := ⟨RX10, "meets", "(III)Z"⟩
abbrev cX10_put : ByteArray := prog_12_method_19_code
def yX10_put : MethodName := ⟨RX10, "put", "(IIII)V"⟩
abbrev cX10_lay : ByteArray := prog_12_method_20_code
def yX10_lay : MethodName := ⟨RX10, "lay", "()V"⟩
abbrev cX10_seek : ByteArray := prog_12_method_21_code
def yX10_seek : MethodName := ⟨RX10, "seek", "()I"⟩
abbrev cX10_seekWith : ByteArray := prog_12_method_22_code
def yX10_seekWith : MethodName := ⟨RX10, "seekWith", "(I)I"⟩
abbrev cX10_plan : ByteArray := prog_12_method_23_code
def yX10_plan : MethodName := ⟨RX10, "plan", "()I"⟩
abbrev cX10_add : ByteArray := prog_12_method_24_code
def yX10_add : MethodName := ⟨RX10, "add", "()I"⟩
abbrev cX10_placed : ByteArray := prog_12_method_25_code
def yX10_placed : MethodName := ⟨RX10, "placed", "()I"⟩
abbrev cX10_bits : ByteArray := prog_12_method_26_code
def yX10_bits : MethodName := ⟨RX10, "bits", "(I)I"⟩
abbrev cX10_isAhead : ByteArray := prog_12_method_27_code
def yX10_isAhead : MethodName := ⟨RX10, "isAhead", "(II)Z"⟩
abbrev cX10_nextSet : ByteArray := prog_12_method_28_code
def yX10_nextSet : MethodName := ⟨RX10, "nextSet", "(III)I"⟩
abbrev cX10_stir : ByteArray := prog_12_method_29_code
def yX10_stir : MethodName := ⟨RX10, "stir", "()I"⟩
abbrev cX10_isPlace : ByteArray := prog_12_method_30_code
def yX10_isPlace : MethodName := ⟨RX10, "isPlace", "(I)Z"⟩
abbrev cX10_place : ByteArray := prog_12_method_31_code
def yX10_place : MethodName := ⟨RX10, "place", "(II)I"⟩
abbrev cX10_tries : ByteArray := prog_12_method_32_code
def yX10_tries : MethodName := ⟨RX10, "tries", "()I"⟩
abbrev cX10_door : ByteArray := prog_12_method_33_code
def yX10_door : MethodName := ⟨RX10, "door", "(II)I"⟩
abbrev cX10_rest : ByteArray := prog_12_method_34_code
def yX10_rest : MethodName := ⟨RX10, "rest", "(I)I"⟩
abbrev cX10_isOpen : ByteArray := prog_12_method_35_code
def yX10_isOpen : MethodName := ⟨RX10, "isOpen", "(III)Z"⟩
abbrev cX10_waits : ByteArray := prog_12_method_36_code
def yX10_waits : MethodName := ⟨RX10, "waits", "(III)I"⟩
abbrev cX10_worst : ByteArray := prog_12_method_37_code
def yX10_worst : MethodName := ⟨RX10, "worst", "(II)I"⟩
abbrev cX10_clock : ByteArray := prog_12_method_38_code
def yX10_clock : MethodName := ⟨RX10, "clock", "(II)Z"⟩
abbrev cX10_send : ByteArray := prog_12_method_39_code
def yX10_send : MethodName := ⟨RX10, "send", "(IIII)I"⟩
abbrev cX10_leave : ByteArray := prog_12_method_40_code
def yX10_leave : MethodName := ⟨RX10, "leave", "(III)I"⟩
abbrev cX10_leaves : ByteArray := prog_12_method_41_code
def yX10_leaves : MethodName := ⟨RX10, "leaves", "(III)I"⟩
abbrev cX10_room : ByteArray := prog_12_method_42_code
def yX10_room : MethodName := ⟨RX10, "room", "(III)I"⟩
abbrev cX10_follow : ByteArray := prog_12_method_43_code
def yX10_follow : MethodName := ⟨RX10, "follow", "()V"⟩
abbrev cX10_look : ByteArray := prog_12_method_44_code
def yX10_look : MethodName := ⟨RX10, "look", "(II)V"⟩
abbrev cX10_go : ByteArray := prog_12_method_45_code
def yX10_go : MethodName := ⟨RX10, "go", "(III)V"⟩
abbrev cX10_ahead : ByteArray := prog_12_method_46_code
def yX10_ahead : MethodName := ⟨RX10, "ahead", "(I)I"⟩
abbrev cX10_plain : ByteArray := prog_12_method_47_code
def yX10_plain : MethodName := ⟨RX10, "plain", "(II)I"⟩
abbrev cX10_most : ByteArray := prog_12_method_48_code
def yX10_most : MethodName := ⟨RX10, "most", "(I)I"⟩
abbrev cX10_count : ByteArray := prog_12_method_49_code
def yX10_count : MethodName := ⟨RX10, "count", "(I)I"⟩
def RJ6 : String := "java/lang/Integer"
def TJ6 : u_T := fun k => match k with
  | _ => ("", "", "", false)
def tyJ6 : Nat → FieldType := fun k => match k with
  | _ => .int
theorem nmJ6 : ∀ a, a < 0 → ∀ b, b < 0 → a ≠ b → (TJ6 a).2.1 ≠ (TJ6 b).2.1 := by decide +kernel
theorem tyJ6_ok : ∀ k, k < 0 → parseFieldDescriptor (TJ6 k).2.2.1 = some (tyJ6 k) := by decide +kernel
abbrev cJ6_bitCount_0f7a4 : ByteArray := prog_13_method_49_code
def yJ6_bitCount_0f7a4 : MethodName := ⟨RJ6, "bitCount", "(I)I"⟩
def RJ9 : String := "java/lang/Math"
def TJ9 : u_T := fun k => match k with
  | _ => ("", "", "", false)
def tyJ9 : Nat → FieldType := fun k => match k with
  | _ => .int
theorem nmJ9 : ∀ a, a < 0 → ∀ b, b < 0 → a ≠ b → (TJ9 a).2.1 ≠ (TJ9 b).2.1 := by decide +kernel
theorem tyJ9_ok : ∀ k, k < 0 → parseFieldDescriptor (TJ9 k).2.2.1 = some (tyJ9 k) := by decide +kernel
abbrev cJ9_floorMod_7cf53 : ByteArray := prog_14_method_50_code
def yJ9_floorMod_7cf53 : MethodName := ⟨RJ9, "floorMod", "(II)I"⟩
abbrev cJ9_max_7cf53 : ByteArray := prog_14_method_65_code
def yJ9_max_7cf53 : MethodName := ⟨RJ9, "max", "(II)I"⟩
abbrev cJ9_min_7cf53 : ByteArray := prog_14_method_69_code
def yJ9_min_7cf53 : MethodName := ⟨RJ9, "min", "(II)I"⟩
def RL : String := "DoorNetLaw"
abbrev cL_law : ByteArray := code
def yL_law : MethodName := ⟨RL, "law", "([I)Z"⟩
end
section
abbrev ai_cl : List vw_C := [(RX0, TX0, 4), (RX1, TX1, 9), (RX2, TX2, 10), (RX3, TX3, 8), (RX4, TX4, 9), (RX5, TX5, 3), (RX6, TX6, 6), (RX7, TX7, 2), (RX8, TX8, 5), (RX9, TX9, 6), (RX10, TX10, 42)]
def ai_Rn : Nat → String := fun k => match k with
  | 0 => RX0
  | 1 => RX1
  | 2 => RX2
  | 3 => RX3
  | 4 => RX4
  | 5 => RX5
  | 6 => RX6
  | 7 => RX7
  | 8 => RX8
  | 9 => RX9
  | 10 => RX10
  | 11 => RJ6
  | 12 => RJ9
  | _ => RL
def ai_ft : Nat → Nat → FieldType := fun c => match c with
  | 0 => tyX0
  | 1 => tyX1
  | 2 => tyX2
  | 3 => tyX3
  | 4 => tyX4
  | 5 => tyX5
  | 6 => tyX6
  | 7 => tyX7
  | 8 => tyX8
  | 9 => tyX9
  | _ => tyX10
def ai_M : List (MethodName × ByteArray × Nat × Option FieldType × Nat) := [(yX0_init, cX0_init, 3, none, 0),
  (yX0_clear, cX0_clear, 2, none, 0),
  (yX0_hand, cX0_hand, 8, none, 0),
  (yX0_findMeetings, cX0_findMeetings, 9, none, 0),
  (yX0_waitFrom, cX0_waitFrom, 6, (some .int), 0),
  (yX1_init, cX1_init, 5, none, 1),
  (yX1_setOut, cX1_setOut, 3, none, 1),
  (yX1_nextWire, cX1_nextWire, 1, (some .int), 1),
  (yX1_readyAt, cX1_readyAt, 1, (some .int), 1),
  (yX1_goesAheadOf, cX1_goesAheadOf, 2, (some .boolean), 1),
  (yX1_readyFor, cX1_readyFor, 3, (some .int), 1),
  (yX1_waitsFor, cX1_waitsFor, 4, (some .boolean), 1),
  (yX2_init, cX2_init, 1, none, 2),
  (yX2_hasBox, cX2_hasBox, 2, (some .boolean), 2),
  (yX2_hasPair, cX2_hasPair, 3, (some .boolean), 2),
  (yX2_hasWire, cX2_hasWire, 2, (some .boolean), 2),
  (yX2_hasTick, cX2_hasTick, 2, (some .boolean), 2),
  (yX2_makeBox, cX2_makeBox, 2, (some .int), 2),
  (yX2_makeWire, cX2_makeWire, 5, (some .int), 2),
  (yX2_rightClocks, cX2_rightClocks, 2, none, 2),
  (yX2_timeOn, cX2_timeOn, 3, (some .int), 2),
  (yX2_crossing, cX2_crossing, 3, (some .int), 2),
  (yX2_holdBehind, cX2_holdBehind, 2, (some .int), 2),
  (yX2_stayBehind, cX2_stayBehind, 2, (some .int), 2),
  (yX2_offAt, cX2_offAt, 2, (some .int), 2),
  (yX2_startOf, cX2_startOf, 6, (some .int), 2),
  (yX2_beginOf, cX2_beginOf, 4, (some .int), 2),
  (yX2_hasDoor, cX2_hasDoor, 5, (some .boolean), 2),
  (yX3_init, cX3_init, 5, none, 3),
  (yX3_begin, cX3_begin, 1, none, 3),
  (yX3_fitFewest, cX3_fitFewest, 7, (some .int), 3),
  (yX3_mirrored, cX3_mirrored, 3, (some .int), 3),
  (yX3_fit, cX3_fit, 3, (some .int), 3),
  (yX3_showDoors, cX3_showDoors, 2, none, 3),
  (yX3_giveDoors, cX3_giveDoors, 3, none, 3),
  (yX3_keepPlaces, cX3_keepPlaces, 3, none, 3),
  (yX3_search, cX3_search, 5, (some .int), 3),
  (yX3_searchTicks, cX3_searchTicks, 6, (some .int), 3),
  (yX4_init, cX4_init, 4, none, 4),
  (yX4_tell, cX4_tell, 2, (some .int), 4),
  (yX4_letter, cX4_letter, 2, (some (.object "DoorNet$Letter")), 4),
  (yX4_settle, cX4_settle, 3, none, 4),
  (yX4_setOutAll, cX4_setOutAll, 3, none, 4),
  (yX4_findHead, cX4_findHead, 5, none, 4),
  (yX4_beginOf, cX4_beginOf, 6, (some .int), 4),
  (yX4_earliestWire, cX4_earliestWire, 4, (some .int), 4),
  (yX4_beginOn, cX4_beginOn, 6, none, 4),
  (yX4_longestRow, cX4_longestRow, 5, (some .int), 4),
  (yX4_waitingAt, cX4_waitingAt, 6, (some .int), 4),
  (yX4_ended, cX4_ended, 4, (some .int), 4),
  (yX5_init, cX5_init, 2, none, 5),
  (yX5_clear, cX5_clear, 1, none, 5),
  (yX5_fill, cX5_fill, 1, none, 5),
  (yX5_has, cX5_has, 3, (some .boolean), 5),
  (yX5_include, cX5_include, 2, none, 5),
  (yX5_exclude, cX5_exclude, 2, none, 5),
  (yX5_includePutOff, cX5_includePutOff, 3, none, 5),
  (yX5_becomeLetters, cX5_becomeLetters, 10, none, 5),
  (yX5_lettersOf, cX5_lettersOf, 2, (some .int), 5),
  (yX5_includeTurned, cX5_includeTurned, 17, none, 5),
  (yX6_init, cX6_init, 3, none, 6),
  (yX6_offer, cX6_offer, 2, none, 6),
  (yX6_wayOf, cX6_wayOf, 2, (some .int), 6),
  (yX6_wayNow, cX6_wayNow, 1, (some .int), 6),
  (yX7_init, cX7_init, 1, none, 7),
  (yX7_tell, cX7_tell, 2, (some .int), 7),
  (yX7_one, cX7_one, 2, (some (.object "DoorNet$Stream")), 7),
  (yX7_placedOne, cX7_placedOne, 3, (some (.object "DoorNet$Stream")), 7),
  (yX7_allOfThem, cX7_allOfThem, 1, (some .int), 7),
  (yX7_withPlace, cX7_withPlace, 3, (some .int), 7),
  (yX7_withoutPlace, cX7_withoutPlace, 1, (some .int), 7),
  (yX8_init, cX8_init, 2, none, 8),
  (yX8_latenessOf, cX8_latenessOf, 1, (some .int), 8),
  (yX8_wireAt, cX8_wireAt, 2, (some .int), 8),
  (yX8_wiresIn, cX8_wiresIn, 3, (some .int), 8),
  (yX8_hasHop, cX8_hasHop, 2, (some .boolean), 8),
  (yX8_hopOn, cX8_hopOn, 3, (some .int), 8),
  (yX8_shiftOf, cX8_shiftOf, 1, (some .int), 8),
  (yX8_atRank, cX8_atRank, 7, (some .int), 8),
  (yX8_nextBehind, cX8_nextBehind, 5, (some .int), 8),
  (yX8_walk, cX8_walk, 10, none, 8),
  (yX8_offer, cX8_offer, 2, none, 8),
  (yX9_init, cX9_init, 1, none, 9),
  (yX9_box, cX9_box, 2, (some .int), 9),
  (yX9_wire, cX9_wire, 5, (some .int), 9),
  (yX9_cycle, cX9_cycle, 2, (some .boolean), 9),
  (yX9_drift, cX9_drift, 2, (some .boolean), 9),
  (yX9_way, cX9_way, 7, (some .int), 9),
  (yX9_stream, cX9_stream, 7, (some .int), 9),
  (yX9_strike, cX9_strike, 3, (some .boolean), 9),
  (yX9_plan, cX9_plan, 2, (some .int), 9),
  (yX9_add, cX9_add, 2, (some .int), 9),
  (yX9_stir, cX9_stir, 2, (some .int), 9),
  (yX9_place, cX9_place, 5, (some .int), 9),
  (yX9_tries, cX9_tries, 1, (some .int), 9),
  (yX9_door, cX9_door, 5, (some .int), 9),
  (yX9_waits, cX9_waits, 4, (some .int), 9),
  (yX9_worst, cX9_worst, 6, (some .int), 9),
  (yX9_clock, cX9_clock, 3, (some .boolean), 9),
  (yX9_send, cX9_send, 5, (some .int), 9),
  (yX9_leaves, cX9_leaves, 7, (some .int), 9),
  (yX9_room, cX9_room, 8, (some .int), 9),
  (yX9_plain, cX9_plain, 4, (some .int), 9),
  (yX9_most, cX9_most, 2, (some .int), 9),
  (yX9_count, cX9_count, 2, (some .int), 9),
  (yX9_findChoices, cX9_findChoices, 7, none, 9),
  (yX9_isPeriod, cX9_isPeriod, 2, (some .boolean), 9),
  (yX9_isInTime, cX9_isInTime, 2, (some .boolean), 9),
  (yX9_isCycle, cX9_isCycle, 5, (some .boolean), 9),
  (yX9_isSize, cX9_isSize, 1, (some .boolean), 9),
  (yX9_within, cX9_within, 3, (some .boolean), 9),
  (yX9_aheadOfEnd, cX9_aheadOfEnd, 1, (some .int), 9),
  (yX10_init, cX10_init, 1, none, 10),
  (yX10_isBox, cX10_isBox, 2, (some .boolean), 10),
  (yX10_isWire, cX10_isWire, 2, (some .boolean), 10),
  (yX10_box, cX10_box, 2, (some .int), 10),
  (yX10_wire, cX10_wire, 5, (some .int), 10),
  (yX10_cycle, cX10_cycle, 2, (some .boolean), 10),
  (yX10_drift, cX10_drift, 3, (some .boolean), 10),
  (yX10_late, cX10_late, 8, (some .int), 10),
  (yX10_isSeen, cX10_isSeen, 5, (some .boolean), 10),
  (yX10_findWays, cX10_findWays, 7, none, 10),
  (yX10_keep, cX10_keep, 7, none, 10),
  (yX10_isBehind, cX10_isBehind, 5, (some .boolean), 10),
  (yX10_isSize, cX10_isSize, 1, (some .boolean), 10),
  (yX10_way, cX10_way, 6, (some .int), 10),
  (yX10_stream, cX10_stream, 9, (some .int), 10),
  (yX10_strike, cX10_strike, 2, (some .boolean), 10),
  (yX10_start, cX10_start, 8, (some .int), 10),
  (yX10_meets, cX10_meets, 10, (some .boolean), 10),
  (yX10_put, cX10_put, 10, none, 10),
  (yX10_lay, cX10_lay, 2, none, 10),
  (yX10_seek, cX10_seek, 5, (some .int), 10),
  (yX10_seekWith, cX10_seekWith, 5, (some .int), 10),
  (yX10_plan, cX10_plan, 1, (some .int), 10),
  (yX10_add, cX10_add, 1, (some .int), 10),
  (yX10_placed, cX10_placed, 3, (some .int), 10),
  (yX10_bits, cX10_bits, 3, (some .int), 10),
  (yX10_isAhead, cX10_isAhead, 3, (some .boolean), 10),
  (yX10_nextSet, cX10_nextSet, 7, (some .int), 10),
  (yX10_stir, cX10_stir, 5, (some .int), 10),
  (yX10_isPlace, cX10_isPlace, 2, (some .boolean), 10),
  (yX10_place, cX10_place, 5, (some .int), 10),
  (yX10_tries, cX10_tries, 1, (some .int), 10),
  (yX10_door, cX10_door, 3, (some .int), 10),
  (yX10_rest, cX10_rest, 3, (some .int), 10),
  (yX10_isOpen, cX10_isOpen, 5, (some .boolean), 10),
  (yX10_waits, cX10_waits, 5, (some .int), 10),
  (yX10_worst, cX10_worst, 6, (some .int), 10),
  (yX10_clock, cX10_clock, 3, (some .boolean), 10),
  (yX10_send, cX10_send, 6, (some .int), 10),
  (yX10_leave, cX10_leave, 5, (some .int), 10),
  (yX10_leaves, cX10_leaves, 6, (some .int), 10),
  (yX10_room, cX10_room, 5, (some .int), 10),
  (yX10_follow, cX10_follow, 3, none, 10),
  (yX10_look, cX10_look, 7, none, 10),
  (yX10_go, cX10_go, 5, none, 10),
  (yX10_ahead, cX10_ahead, 1, (some .int), 10),
  (yX10_plain, cX10_plain, 4, (some .int), 10),
  (yX10_most, cX10_most, 2, (some .int), 10),
  (yX10_count, cX10_count, 4, (some .int), 10),
  (yJ6_bitCount_0f7a4, cJ6_bitCount_0f7a4, 1, (some .int), 11),
  (yJ9_floorMod_7cf53, cJ9_floorMod_7cf53, 3, (some .int), 12),
  (yJ9_max_7cf53, cJ9_max_7cf53, 2, (some .int), 12),
  (yJ9_min_7cf53, cJ9_min_7cf53, 2, (some .int), 12),
  (yL_law, cL_law, 4, (some .boolean), 13)]
def ai_F : List ((Nat × Nat) × Nat × Nat) := [((0, 11), 0, 1), ((0, 17), 0, 0), ((0, 24), 0, 2), ((0, 28), 0, 3), ((0, 46), 6, 0), ((0, 55), 6, 1), ((0, 86), 2, 8), ((1, 9), 1, 4), ((1, 15), 1, 5), ((1, 18), 1, 6), ((1, 22), 1, 7), ((1, 25), 1, 8), ((1, 28), 1, 0), ((1, 31), 1, 1), ((1, 34), 1, 2), ((1, 37), 1, 3), ((2, 9), 2, 0), ((2, 15), 2, 1), ((2, 18), 2, 2), ((2, 21), 2, 3), ((2, 24), 2, 4), ((2, 27), 2, 5), ((2, 30), 2, 6), ((2, 34), 2, 7), ((2, 37), 2, 8), ((2, 40), 2, 9), ((2, 50), 6, 5), ((2, 65), 6, 0), ((2, 79), 6, 1), ((3, 11), 3, 2), ((3, 19), 3, 3), ((3, 23), 3, 4), ((3, 27), 3, 5), ((3, 30), 3, 6), ((3, 34), 3, 7), ((3, 37), 3, 0), ((3, 41), 3, 1), ((3, 74), 7, 1), ((3, 100), 6, 5), ((3, 107), 6, 4), ((3, 110), 6, 3), ((3, 123), 6, 1), ((4, 11), 4, 3), ((4, 17), 4, 4), ((4, 20), 4, 5), ((4, 24), 4, 6), ((4, 27), 4, 7), ((4, 31), 4, 8), ((4, 35), 4, 0), ((4, 39), 4, 1), ((4, 43), 4, 2), ((4, 62), 1, 1), ((4, 65), 1, 2), ((4, 68), 1, 3), ((4, 86), 2, 7), ((4, 112), 2, 8), ((4, 130), 1, 7), ((4, 136), 1, 5), ((4, 143), 1, 8), ((4, 146), 1, 4), ((5, 7), 5, 1), ((5, 13), 5, 2), ((5, 16), 5, 0), ((5, 20), 2, 8), ((6, 9), 6, 2), ((6, 15), 6, 3), ((6, 19), 6, 4), ((6, 22), 6, 5), ((6, 25), 6, 0), ((6, 34), 6, 1), ((7, 11), 7, 0), ((7, 17), 7, 1), ((7, 25), 6, 4), ((8, 11), 8, 1), ((8, 15), 8, 2), ((8, 18), 8, 3), ((8, 21), 8, 4), ((8, 24), 8, 0), ((8, 44), 2, 7), ((8, 49), 2, 3), ((8, 53), 2, 2), ((9, 10), 9, 0), ((9, 21), 9, 1), ((9, 28), 9, 2), ((9, 35), 9, 3), ((9, 44), 9, 4), ((9, 53), 9, 5), ((9, 69), 7, 1), ((9, 73), 4, 7), ((9, 82), 2, 8), ((9, 85), 2, 9), ((9, 91), 4, 8), ((9, 137), 6, 4), ((9, 162), 6, 5), ((9, 175), 3, 7), ((9, 200), 2, 1), ((9, 216), 6, 0), ((9, 232), 1, 6), ((9, 235), 1, 8), ((9, 241), 1, 5), ((9, 244), 1, 4), ((9, 250), 2, 6), ((9, 253), 2, 7), ((10, 7), 10, 1), ((10, 13), 10, 2), ((10, 16), 10, 4), ((10, 19), 10, 5), ((10, 22), 10, 6), ((10, 25), 10, 7), ((10, 28), 10, 8), ((10, 32), 10, 11), ((10, 35), 10, 12), ((10, 38), 10, 13), ((10, 41), 10, 14), ((10, 44), 10, 15), ((10, 47), 10, 16), ((10, 50), 10, 17), ((10, 54), 10, 18), ((10, 57), 10, 19), ((10, 60), 10, 21), ((10, 63), 10, 23), ((10, 66), 10, 24), ((10, 69), 10, 25), ((10, 72), 10, 26), ((10, 75), 10, 28), ((10, 78), 10, 29), ((10, 81), 10, 30), ((10, 84), 10, 31), ((10, 87), 10, 32), ((10, 90), 10, 33), ((10, 93), 10, 35), ((10, 97), 10, 36), ((10, 100), 10, 37), ((10, 103), 10, 38), ((10, 106), 10, 39), ((10, 109), 10, 40), ((10, 112), 10, 41), ((10, 115), 10, 0), ((10, 118), 10, 3), ((10, 125), 10, 10), ((10, 128), 10, 22), ((10, 131), 10, 9), ((10, 134), 10, 27), ((10, 170), 10, 34), ((10, 173), 10, 20)]
def ai_G : List ((Nat × Nat) × Nat × Nat) := [((0, 21), 50, 1), ((0, 31), 51, 0), ((0, 34), 73, 2), ((0, 40), 15, 1), ((0, 52), 20, 2), ((0, 58), 57, 3), ((0, 62), 54, 1), ((0, 66), 55, 1), ((0, 69), 21, 2), ((0, 72), 23, 1), ((0, 76), 52, 0), ((0, 79), 56, 2), ((0, 83), 58, 1), ((0, 89), 53, 1), ((1, 40), 73, 2), ((1, 46), 8, 0), ((1, 50), 76, 2), ((2, 43), 13, 1), ((2, 47), 15, 1), ((2, 55), 63, 0), ((2, 59), 73, 2), ((2, 68), 21, 2), ((2, 71), 23, 1), ((2, 75), 25, 2), ((2, 82), 24, 1), ((2, 85), 76, 2), ((2, 88), 162, 2), ((2, 93), 20, 2), ((3, 45), 50, 1), ((3, 48), 69, 0), ((3, 54), 70, 0), ((3, 57), 31, 1), ((3, 61), 161, 1), ((3, 66), 32, 1), ((3, 69), 1, 0), ((3, 77), 34, 1), ((3, 81), 66, 1), ((3, 85), 36, 1), ((3, 88), 35, 0), ((3, 91), 33, 0), ((3, 94), 67, 1), ((3, 97), 63, 0), ((3, 103), 2, 4), ((3, 112), 62, 1), ((3, 115), 3, 3), ((3, 119), 37, 3), ((3, 127), 53, 1), ((4, 47), 42, 0), ((4, 50), 45, 0), ((4, 54), 46, 1), ((4, 58), 40, 1), ((4, 71), 79, 4), ((4, 83), 6, 1), ((4, 91), 43, 1), ((4, 94), 7, 0), ((4, 97), 9, 1), ((4, 101), 44, 2), ((4, 105), 8, 0), ((4, 108), 24, 1), ((4, 115), 162, 2), ((4, 118), 20, 2), ((4, 121), 4, 3), ((4, 133), 21, 2), ((4, 139), 15, 1), ((4, 149), 22, 1), ((4, 152), 10, 1), ((4, 155), 48, 2), ((4, 158), 11, 2), ((5, 28), 59, 3), ((5, 32), 51, 0), ((5, 44), 58, 1), ((6, 37), 62, 1), ((7, 21), 66, 1), ((7, 28), 67, 1), ((7, 31), 68, 0), ((7, 35), 69, 0), ((8, 28), 77, 1), ((8, 32), 73, 2), ((8, 36), 79, 4), ((8, 40), 80, 5), ((8, 56), 21, 2), ((8, 59), 81, 1), ((8, 63), 23, 1), ((9, 18), 71, 1), ((9, 34), 0, 1), ((9, 41), 28, 3), ((9, 50), 38, 3), ((9, 57), 110, 3), ((9, 61), 17, 1), ((9, 65), 14, 2), ((9, 74), 18, 4), ((9, 78), 108, 1), ((9, 88), 19, 0), ((9, 95), 13, 1), ((9, 98), 109, 1), ((9, 101), 78, 4), ((9, 104), 72, 1), ((9, 107), 73, 2), ((9, 111), 106, 1), ((9, 114), 79, 4), ((9, 117), 107, 2), ((9, 122), 60, 2), ((9, 125), 105, 4), ((9, 129), 65, 1), ((9, 133), 67, 1), ((9, 140), 33, 0), ((9, 143), 29, 0), ((9, 146), 68, 0), ((9, 150), 32, 1), ((9, 153), 70, 0), ((9, 156), 30, 0), ((9, 159), 63, 0), ((9, 165), 74, 1), ((9, 168), 75, 2), ((9, 171), 25, 2), ((9, 178), 15, 1), ((9, 181), 16, 1), ((9, 184), 27, 3), ((9, 188), 20, 2), ((9, 191), 4, 3), ((9, 206), 5, 4), ((9, 209), 39, 1), ((9, 212), 26, 3), ((9, 219), 21, 2), ((9, 222), 22, 1), ((9, 225), 41, 0), ((9, 228), 40, 1), ((9, 238), 111, 1), ((9, 247), 47, 1), ((9, 256), 69, 0), ((9, 259), 161, 1), ((9, 264), 49, 0), ((9, 267), 61, 1), ((10, 121), 113, 1), ((10, 137), 120, 3), ((10, 141), 122, 2), ((10, 145), 119, 4), ((10, 149), 123, 3), ((10, 152), 124, 1), ((10, 155), 121, 3), ((10, 159), 131, 0), ((10, 162), 128, 4), ((10, 166), 130, 4), ((10, 177), 129, 3), ((10, 180), 132, 0), ((10, 184), 133, 1), ((10, 188), 137, 1), ((10, 191), 138, 2), ((10, 195), 136, 0), ((10, 198), 139, 3), ((10, 202), 141, 1), ((10, 205), 114, 1), ((10, 208), 145, 1), ((10, 211), 146, 3), ((10, 214), 147, 3), ((10, 217), 151, 3), ((10, 221), 155, 2), ((10, 224), 156, 3), ((10, 227), 154, 0), ((10, 230), 157, 1), ((13, 9), 82, 0), ((13, 12), 112, 0), ((13, 13), 83, 1), ((13, 17), 115, 1), ((13, 18), 84, 4), ((13, 22), 116, 4), ((13, 23), 85, 1), ((13, 27), 117, 1), ((13, 28), 86, 1), ((13, 31), 118, 1), ((13, 32), 87, 5), ((13, 36), 125, 5), ((13, 37), 88, 5), ((13, 40), 126, 5), ((13, 41), 89, 1), ((13, 44), 127, 1), ((13, 45), 90, 0), ((13, 49), 134, 0), ((13, 50), 91, 0), ((13, 53), 135, 0), ((13, 54), 92, 0), ((13, 57), 140, 0), ((13, 58), 93, 2), ((13, 62), 142, 2), ((13, 63), 94, 0), ((13, 66), 143, 0), ((13, 67), 95, 2), ((13, 70), 144, 2), ((13, 71), 96, 3), ((13, 75), 147, 3), ((13, 76), 97, 2), ((13, 79), 148, 2), ((13, 80), 98, 2), ((13, 84), 149, 2), ((13, 85), 99, 4), ((13, 88), 150, 4), ((13, 89), 100, 3), ((13, 92), 152, 3), ((13, 93), 101, 3), ((13, 96), 153, 3), ((13, 97), 102, 2), ((13, 100), 158, 2), ((13, 101), 103, 1), ((13, 104), 159, 1), ((13, 105), 104, 1), ((13, 108), 160, 1)]
def ai_N : List ((Nat × Nat) × Nat) := [((0, 9), 5), ((3, 9), 6), ((3, 17), 5), ((4, 9), 1), ((7, 9), 6), ((9, 7), 2), ((9, 16), 8), ((9, 25), 7), ((9, 32), 0), ((9, 39), 3), ((9, 48), 4), ((9, 120), 6), ((9, 204), 1), ((13, 7), 9), ((13, 10), 10)]
def ai_O : List (Nat × Nat) := [(0, 3), (1, 3), (2, 3), (3, 3), (4, 3), (5, 1), (6, 3), (7, 3), (8, 5), (9, 1), (10, 1)]
def ai_K : List ((Nat × Nat) × Int32) := [((3, 126), 40000), ((10, 176), 40000), ((10, 220), 1000000), ((11, 265), 1431655765), ((11, 266), 858993459), ((11, 267), 252645135)]
def ai_J : List ((Nat × Nat) × Int64) := [((5, 26), -1)]
def ai_Z : List (Nat × Nat) := [(9, 271)]
end
section
def ai_t0 : List (Option Instr) := [some (.aload_n 0), some (.invokespecial 3), none, none, some (.aload_n 0), some (.bipush 12), none, some (.anewarray 9), none, none, some (.putfield 11), none, none, some (.aload_n 0), some (.aload_n 1), some (.putfield 17), none, none, some (.aload_n 0), some (.new 9), none, none, some (.dup), some (.aload_n 1), some (.invokespecial 21), none, none, some (.putfield 24), none, none, some (.aload_n 0), some (.new 9), none, none, some (.dup), some (.aload_n 1), some (.invokespecial 21), none, none, some (.putfield 28), none, none, some (.iconst 0), some (.istore_n 2), some (.iload_n 2), some (.bipush 12), none, some (.if_icmp .ge 23), none, none, some (.aload_n 0), some (.getfield 11), none, none, some (.iload_n 2), some (.new 9), none, none, some (.dup), some (.aload_n 1), some (.invokespecial 21), none, none, some (.aastore), some (.iinc 2 1), none, none, some (.goto (-23)), none, none, some (.return_)]
def ai_t1 : List (Option Instr) := [some (.iconst 0), some (.istore_n 1), some (.iload_n 1), some (.bipush 12), none, some (.if_icmp .ge 18), none, none, some (.aload_n 0), some (.getfield 11), none, none, some (.iload_n 1), some (.aaload), some (.invokevirtual 31), none, none, some (.iinc 1 1), none, none, some (.goto (-18)), none, none, some (.return_)]
def ai_t2 : List (Option Instr) := [some (.iload_n 3), some (.istore 5), none, some (.iconst 0), some (.istore 6), none, some (.iload 6), none, some (.iconst 4), some (.if_icmp .ge 120), none, none, some (.iload_n 2), some (.iload 6), none, some (.invokestatic 34), none, none, some (.istore 7), none, some (.aload_n 0), some (.getfield 17), none, none, some (.iload 7), none, some (.invokevirtual 40), none, none, some (.ifCond .ne 4), none, none, some (.return_), some (.aload_n 0), some (.getfield 24), none, none, some (.iload 5), none, some (.aload_n 0), some (.getfield 17), none, none, some (.iload 7), none, some (.aload_n 1), some (.getfield 46), none, none, some (.invokevirtual 52), none, none, some (.aload_n 1), some (.getfield 55), none, none, some (.invokevirtual 58), none, none, some (.iload 4), none, some (.ifCond .eq 20), none, none, some (.aload_n 0), some (.getfield 11), none, none, some (.iload 7), none, some (.aaload), some (.aload_n 0), some (.getfield 24), none, none, some (.invokevirtual 62), none, none, some (.goto 17), none, none, some (.aload_n 0), some (.getfield 11), none, none, some (.iload 7), none, some (.aaload), some (.aload_n 0), some (.getfield 24), none, none, some (.invokevirtual 66), none, none, some (.iload 5), none, some (.aload_n 0), some (.getfield 17), none, none, some (.iload 7), none, some (.aload_n 1), some (.getfield 46), none, none, some (.invokevirtual 69), none, none, some (.aload_n 0), some (.getfield 17), none, none, some (.iload 7), none, some (.invokevirtual 72), none, none, some (.iadd), some (.iadd), some (.istore 5), none, some (.iinc 6 1), none, none, some (.goto (-120)), none, none, some (.return_)]
def ai_t3 : List (Option Instr) := [some (.aload_n 1), some (.invokevirtual 31), none, none, some (.aload_n 0), some (.getfield 28), none, none, some (.invokevirtual 31), none, none, some (.iconst 0), some (.istore 4), none, some (.iconst 0), some (.istore 5), none, some (.iload 5), none, some (.iconst 4), some (.if_icmp .ge 125), none, none, some (.iload_n 3), some (.iload 5), none, some (.invokestatic 34), none, none, some (.istore 6), none, some (.aload_n 0), some (.getfield 17), none, none, some (.iload 6), none, some (.invokevirtual 40), none, none, some (.ifCond .ne 6), none, none, some (.goto 102), none, none, some (.aload_n 0), some (.getfield 17), none, none, some (.iload 6), none, some (.aload_n 2), some (.getfield 46), none, none, some (.invokevirtual 52), none, none, some (.istore 7), none, some (.iload 7), none, some (.aload_n 2), some (.getfield 55), none, none, some (.if_icmp .le 8), none, none, some (.aload_n 1), some (.invokevirtual 76), none, none, some (.return_), some (.iconst 0), some (.istore 8), none, some (.iload 8), none, some (.iload 7), none, some (.if_icmp .ge 29), none, none, some (.aload_n 0), some (.getfield 28), none, none, some (.aload_n 0), some (.getfield 11), none, none, some (.iload 6), none, some (.aaload), some (.iload 4), none, some (.iload 8), none, some (.iadd), some (.ineg), some (.invokevirtual 79), none, none, some (.iinc 8 1), none, none, some (.goto (-30)), none, none, some (.iload 4), none, some (.aload_n 0), some (.getfield 17), none, none, some (.iload 6), none, some (.aload_n 2), some (.getfield 46), none, none, some (.invokevirtual 69), none, none, some (.aload_n 0), some (.getfield 17), none, none, some (.iload 6), none, some (.invokevirtual 72), none, none, some (.iadd), some (.iadd), some (.istore 4), none, some (.iinc 5 1), none, none, some (.goto (-125)), none, none, some (.iconst 0), some (.istore 5), none, some (.iload 5), none, some (.aload_n 0), some (.getfield 28), none, none, some (.aload_n 2), some (.getfield 55), none, none, some (.invokevirtual 83), none, none, some (.if_icmp .ge 24), none, none, some (.aload_n 1), some (.aload_n 0), some (.getfield 28), none, none, some (.iload 5), none, some (.aload_n 2), some (.getfield 55), none, none, some (.imul), some (.invokevirtual 79), none, none, some (.iinc 5 1), none, none, some (.goto (-34)), none, none, some (.return_)]
def ai_t4 : List (Option Instr) := [some (.aload_n 0), some (.getfield 17), none, none, some (.iload_n 1), some (.invokevirtual 40), none, none, some (.ifCond .ne 5), none, none, some (.iconst (-1)), some (.ireturn), some (.iconst 0), some (.istore 4), none, some (.iconst 0), some (.istore 5), none, some (.iload 5), none, some (.aload_n 0), some (.getfield 17), none, none, some (.getfield 86), none, none, some (.iload_n 3), some (.iadd), some (.if_icmp .ge 56), none, none, some (.aload_n 0), some (.getfield 11), none, none, some (.iload_n 1), some (.aaload), some (.iload_n 2), some (.iload 5), none, some (.iadd), some (.aload_n 0), some (.getfield 17), none, none, some (.getfield 86), none, none, some (.irem), some (.invokevirtual 89), none, none, some (.ifCond .eq 7), none, none, some (.iconst 0), some (.goto 7), none, none, some (.iload 4), none, some (.iconst 1), some (.iadd), some (.istore 4), none, some (.iload 4), none, some (.iload_n 3), some (.if_icmp .lt 10), none, none, some (.iload 5), none, some (.iconst 1), some (.iadd), some (.iload_n 3), some (.isub), some (.ireturn), some (.iinc 5 1), none, none, some (.goto (-64)), none, none, some (.iconst (-1)), some (.ireturn)]
def ai_t5 : List (Option Instr) := [some (.aload_n 0), some (.invokespecial 3), none, none, some (.aload_n 0), some (.iconst 4), some (.newarray .int), none, some (.putfield 9), none, none, some (.aload_n 0), some (.iconst 4), some (.newarray .int), none, some (.putfield 15), none, none, some (.aload_n 0), some (.iconst 0), some (.putfield 18), none, none, some (.aload_n 0), some (.iconst 0), some (.putfield 22), none, none, some (.aload_n 0), some (.sipush 3000), none, none, some (.putfield 25), none, none, some (.aload_n 0), some (.iload_n 1), some (.putfield 28), none, none, some (.aload_n 0), some (.iload_n 2), some (.putfield 31), none, none, some (.aload_n 0), some (.iload_n 3), some (.putfield 34), none, none, some (.aload_n 0), some (.iload 4), none, some (.putfield 37), none, none, some (.return_)]
def ai_t6 : List (Option Instr) := [some (.aload_n 0), some (.iload_n 1), some (.putfield 18), none, none, some (.aload_n 0), some (.iconst 0), some (.putfield 22), none, none, some (.aload_n 0), some (.sipush 3000), none, none, some (.putfield 25), none, none, some (.iconst 0), some (.istore_n 2), some (.iload_n 2), some (.iconst 4), some (.if_icmp .ge 27), none, none, some (.aload_n 0), some (.getfield 9), none, none, some (.iload_n 2), some (.sipush 3000), none, none, some (.iastore), some (.aload_n 0), some (.getfield 15), none, none, some (.iload_n 2), some (.sipush 3000), none, none, some (.iastore), some (.iinc 2 1), none, none, some (.goto (-26)), none, none, some (.aload_n 0), some (.getfield 9), none, none, some (.iconst 0), some (.aload_n 0), some (.getfield 28), none, none, some (.iastore), some (.return_)]
def ai_t7 : List (Option Instr) := [some (.aload_n 0), some (.getfield 18), none, none, some (.aload_n 0), some (.getfield 22), none, none, some (.invokestatic 40), none, none, some (.ireturn)]
def ai_t8 : List (Option Instr) := [some (.aload_n 0), some (.getfield 22), none, none, some (.iconst 4), some (.if_icmp .ge 15), none, none, some (.aload_n 0), some (.getfield 9), none, none, some (.aload_n 0), some (.getfield 22), none, none, some (.iaload), some (.goto 6), none, none, some (.sipush 3000), none, none, some (.ireturn)]
def ai_t9 : List (Option Instr) := [some (.aload_n 1), some (.ifnull 14), none, none, some (.aload_n 0), some (.invokevirtual 46), none, none, some (.aload_n 1), some (.invokevirtual 46), none, none, some (.if_icmp .ge 7), none, none, some (.iconst 1), some (.goto 4), none, none, some (.iconst 0), some (.ireturn)]
def ai_t10 : List (Option Instr) := [some (.aload_n 0), some (.getfield 18), none, none, some (.iload_n 1), some (.invokestatic 50), none, none, some (.istore_n 2), some (.iload_n 2), some (.iconst (-1)), some (.if_icmp .ne 9), none, none, some (.sipush 3000), none, none, some (.goto 9), none, none, some (.aload_n 0), some (.getfield 9), none, none, some (.iload_n 2), some (.iaload), some (.ireturn)]
def ai_t11 : List (Option Instr) := [some (.aload_n 0), some (.getfield 18), none, none, some (.iload_n 1), some (.invokestatic 50), none, none, some (.istore_n 3), some (.iload_n 3), some (.iconst (-1)), some (.if_icmp .eq 27), none, none, some (.aload_n 0), some (.getfield 9), none, none, some (.iload_n 3), some (.iaload), some (.iload_n 2), some (.if_icmp .gt 17), none, none, some (.iload_n 2), some (.aload_n 0), some (.getfield 15), none, none, some (.iload_n 3), some (.iaload), some (.if_icmp .ge 7), none, none, some (.iconst 1), some (.goto 4), none, none, some (.iconst 0), some (.ireturn)]
def ai_t12 : List (Option Instr) := [some (.aload_n 0), some (.invokespecial 3), none, none, some (.aload_n 0), some (.bipush 6), none, some (.newarray .int), none, some (.putfield 9), none, none, some (.aload_n 0), some (.bipush 6), none, some (.newarray .int), none, some (.putfield 15), none, none, some (.aload_n 0), some (.bipush 12), none, some (.newarray .int), none, some (.putfield 18), none, none, some (.aload_n 0), some (.bipush 12), none, some (.newarray .int), none, some (.putfield 21), none, none, some (.aload_n 0), some (.bipush 12), none, some (.newarray .int), none, some (.putfield 24), none, none, some (.aload_n 0), some (.bipush 12), none, some (.newarray .int), none, some (.putfield 27), none, none, some (.aload_n 0), some (.iconst 0), some (.putfield 30), none, none, some (.aload_n 0), some (.iconst 0), some (.putfield 34), none, none, some (.aload_n 0), some (.bipush 12), none, some (.putfield 37), none, none, some (.aload_n 0), some (.iconst 0), some (.putfield 40), none, none, some (.return_)]
def ai_t13 : List (Option Instr) := [some (.iload_n 1), some (.ifCond .lt 15), none, none, some (.iload_n 1), some (.aload_n 0), some (.getfield 30), none, none, some (.if_icmp .ge 7), none, none, some (.iconst 1), some (.goto 4), none, none, some (.iconst 0), some (.ireturn)]
def ai_t14 : List (Option Instr) := [some (.aload_n 0), some (.iload_n 1), some (.invokevirtual 43), none, none, some (.ifCond .eq 20), none, none, some (.aload_n 0), some (.iload_n 2), some (.invokevirtual 43), none, none, some (.ifCond .eq 12), none, none, some (.iload_n 1), some (.iload_n 2), some (.if_icmp .eq 7), none, none, some (.iconst 1), some (.goto 4), none, none, some (.iconst 0), some (.ireturn)]
def ai_t15 : List (Option Instr) := [some (.iload_n 1), some (.ifCond .lt 15), none, none, some (.iload_n 1), some (.aload_n 0), some (.getfield 34), none, none, some (.if_icmp .ge 7), none, none, some (.iconst 1), some (.goto 4), none, none, some (.iconst 0), some (.ireturn)]
def ai_t16 : List (Option Instr) := [some (.iload_n 1), some (.ifCond .lt 15), none, none, some (.iload_n 1), some (.aload_n 0), some (.getfield 37), none, none, some (.if_icmp .ge 7), none, none, some (.iconst 1), some (.goto 4), none, none, some (.iconst 0), some (.ireturn)]
def ai_t17 : List (Option Instr) := [some (.aload_n 0), some (.getfield 30), none, none, some (.bipush 6), none, some (.if_icmp .lt 5), none, none, some (.iconst (-1)), some (.ireturn), some (.aload_n 0), some (.getfield 9), none, none, some (.aload_n 0), some (.getfield 30), none, none, some (.iload_n 1), some (.iastore), some (.aload_n 0), some (.dup), some (.getfield 30), none, none, some (.iconst 1), some (.iadd), some (.putfield 30), none, none, some (.aload_n 0), some (.getfield 30), none, none, some (.iconst 1), some (.isub), some (.ireturn)]
def ai_t18 : List (Option Instr) := [some (.aload_n 0), some (.getfield 34), none, none, some (.bipush 12), none, some (.if_icmp .lt 5), none, none, some (.iconst (-1)), some (.ireturn), some (.aload_n 0), some (.getfield 18), none, none, some (.aload_n 0), some (.getfield 34), none, none, some (.iload_n 1), some (.iastore), some (.aload_n 0), some (.getfield 21), none, none, some (.aload_n 0), some (.getfield 34), none, none, some (.iload_n 2), some (.iastore), some (.aload_n 0), some (.getfield 24), none, none, some (.aload_n 0), some (.getfield 34), none, none, some (.iload_n 3), some (.iastore), some (.aload_n 0), some (.getfield 27), none, none, some (.aload_n 0), some (.getfield 34), none, none, some (.iload 4), none, some (.iastore), some (.aload_n 0), some (.dup), some (.getfield 34), none, none, some (.iconst 1), some (.iadd), some (.putfield 34), none, none, some (.aload_n 0), some (.getfield 34), none, none, some (.iconst 1), some (.isub), some (.ireturn)]
def ai_t19 : List (Option Instr) := [some (.iconst 0), some (.istore_n 1), some (.iload_n 1), some (.bipush 6), none, some (.if_icmp .ge 16), none, none, some (.aload_n 0), some (.getfield 15), none, none, some (.iload_n 1), some (.iconst 0), some (.iastore), some (.iinc 1 1), none, none, some (.goto (-16)), none, none, some (.return_)]
def ai_t20 : List (Option Instr) := [some (.aload_n 0), some (.iload_n 1), some (.invokevirtual 47), none, none, some (.ifCond .eq 14), none, none, some (.iload_n 2), some (.aload_n 0), some (.getfield 27), none, none, some (.iload_n 1), some (.iaload), some (.imul), some (.goto 4), none, none, some (.iconst 0), some (.ireturn)]
def ai_t21 : List (Option Instr) := [some (.aload_n 0), some (.iload_n 1), some (.invokevirtual 47), none, none, some (.ifCond .eq 21), none, none, some (.iload_n 2), some (.aload_n 0), some (.getfield 27), none, none, some (.iload_n 1), some (.iaload), some (.imul), some (.aload_n 0), some (.getfield 24), none, none, some (.iload_n 1), some (.iaload), some (.iadd), some (.goto 4), none, none, some (.iconst 0), some (.ireturn)]
def ai_t22 : List (Option Instr) := [some (.aload_n 0), some (.iload_n 1), some (.invokevirtual 47), none, none, some (.ifCond .eq 30), none, none, some (.aload_n 0), some (.aload_n 0), some (.getfield 21), none, none, some (.iload_n 1), some (.iaload), some (.invokevirtual 43), none, none, some (.ifCond .eq 17), none, none, some (.aload_n 0), some (.getfield 9), none, none, some (.aload_n 0), some (.getfield 21), none, none, some (.iload_n 1), some (.iaload), some (.iaload), some (.goto 4), none, none, some (.iconst 0), some (.ireturn)]
def ai_t23 : List (Option Instr) := [some (.aload_n 0), some (.iload_n 1), some (.invokevirtual 47), none, none, some (.ifCond .eq 37), none, none, some (.aload_n 0), some (.aload_n 0), some (.getfield 21), none, none, some (.iload_n 1), some (.iaload), some (.invokevirtual 43), none, none, some (.ifCond .eq 24), none, none, some (.aload_n 0), some (.getfield 9), none, none, some (.aload_n 0), some (.getfield 21), none, none, some (.iload_n 1), some (.iaload), some (.iaload), some (.iconst 2), some (.aload_n 0), some (.getfield 40), none, none, some (.imul), some (.iadd), some (.goto 4), none, none, some (.iconst 0), some (.ireturn)]
def ai_t24 : List (Option Instr) := [some (.aload_n 0), some (.iload_n 1), some (.invokevirtual 47), none, none, some (.ifCond .eq 30), none, none, some (.aload_n 0), some (.aload_n 0), some (.getfield 18), none, none, some (.iload_n 1), some (.iaload), some (.invokevirtual 43), none, none, some (.ifCond .eq 17), none, none, some (.aload_n 0), some (.getfield 15), none, none, some (.aload_n 0), some (.getfield 18), none, none, some (.iload_n 1), some (.iaload), some (.iaload), some (.goto 4), none, none, some (.iconst 0), some (.ireturn)]
def ai_t25 : List (Option Instr) := [some (.aload_n 1), some (.getfield 50), none, none, some (.istore_n 3), some (.iconst 0), some (.istore 4), none, some (.iload 4), none, some (.iload_n 2), some (.if_icmp .ge 46), none, none, some (.iload 4), none, some (.iconst 4), some (.if_icmp .ge 40), none, none, some (.aload_n 1), some (.invokevirtual 55), none, none, some (.iload 4), none, some (.invokestatic 59), none, none, some (.istore 5), none, some (.iload_n 3), some (.aload_n 0), some (.iload 5), none, some (.aload_n 1), some (.getfield 65), none, none, some (.invokevirtual 68), none, none, some (.aload_n 0), some (.iload 5), none, some (.invokevirtual 71), none, none, some (.iadd), some (.iadd), some (.istore_n 3), some (.iinc 4 1), none, none, some (.goto (-46)), none, none, some (.iload_n 3), some (.ireturn)]
def ai_t26 : List (Option Instr) := [some (.aload_n 0), some (.aload_n 1), some (.iload_n 3), some (.invokevirtual 75), none, none, some (.iload_n 2), some (.aload_n 1), some (.getfield 79), none, none, some (.imul), some (.iadd), some (.aload_n 0), some (.aload_n 1), some (.invokevirtual 55), none, none, some (.iload_n 3), some (.invokestatic 59), none, none, some (.invokevirtual 82), none, none, some (.iadd), some (.ireturn)]
def ai_t27 : List (Option Instr) := [some (.aload_n 1), some (.invokevirtual 55), none, none, some (.iload_n 2), some (.invokestatic 85), none, none, some (.istore 4), none, some (.iload 4), none, some (.iconst (-1)), some (.if_icmp .eq 35), none, none, some (.iload_n 3), some (.aload_n 0), some (.aload_n 1), some (.iload 4), none, some (.invokevirtual 75), none, none, some (.isub), some (.aload_n 1), some (.getfield 79), none, none, some (.invokestatic 88), none, none, some (.aload_n 0), some (.iload_n 2), some (.aload_n 1), some (.getfield 65), none, none, some (.invokevirtual 93), none, none, some (.if_icmp .ge 7), none, none, some (.iconst 1), some (.goto 4), none, none, some (.iconst 0), some (.ireturn)]
def ai_t28 : List (Option Instr) := [some (.aload_n 0), some (.invokespecial 3), none, none, some (.aload_n 0), some (.bipush 8), none, some (.anewarray 9), none, none, some (.putfield 11), none, none, some (.aload_n 0), some (.bipush 8), none, some (.anewarray 17), none, none, some (.putfield 19), none, none, some (.aload_n 0), some (.bipush 8), none, some (.newarray .int), none, some (.putfield 23), none, none, some (.aload_n 0), some (.bipush 8), none, some (.newarray .int), none, some (.putfield 27), none, none, some (.aload_n 0), some (.iconst 0), some (.putfield 30), none, none, some (.aload_n 0), some (.iconst 0), some (.putfield 34), none, none, some (.aload_n 0), some (.aload_n 2), some (.putfield 37), none, none, some (.aload_n 0), some (.aload_n 3), some (.putfield 41), none, none, some (.iconst 0), some (.istore 4), none, some (.iload 4), none, some (.bipush 8), none, some (.if_icmp .ge 24), none, none, some (.aload_n 0), some (.getfield 19), none, none, some (.iload 4), none, some (.new 17), none, none, some (.dup), some (.aload_n 1), some (.invokespecial 45), none, none, some (.aastore), some (.iinc 4 1), none, none, some (.goto (-25)), none, none, some (.return_)]
def ai_t29 : List (Option Instr) := [some (.aload_n 0), some (.iconst 0), some (.putfield 34), none, none, some (.return_)]
def ai_t30 : List (Option Instr) := [some (.aload_n 0), some (.getfield 37), none, none, some (.invokevirtual 48), none, none, some (.istore_n 1), some (.aload_n 0), some (.getfield 37), none, none, some (.invokevirtual 54), none, none, some (.istore_n 2), some (.iconst 0), some (.istore_n 3), some (.iload_n 3), some (.iconst 3), some (.if_icmp .gt 81), none, none, some (.sipush 255), none, none, some (.istore 4), none, some (.iload 4), none, some (.ifCond .lt 65), none, none, some (.iload 4), none, some (.invokestatic 57), none, none, some (.istore 5), none, some (.iload 5), none, some (.iload_n 1), some (.iconst (-1)), some (.ixor), some (.iand), some (.ifCond .ne 43), none, none, some (.iload 5), none, some (.invokestatic 61), none, none, some (.iload_n 3), some (.if_icmp .eq 6), none, none, some (.goto 31), none, none, some (.aload_n 0), some (.iload 5), none, some (.iload_n 2), some (.ior), some (.invokevirtual 66), none, none, some (.istore 6), none, some (.iload 6), none, some (.ifCond .eq 16), none, none, some (.iload 6), none, some (.iconst 1), some (.if_icmp .ne 7), none, none, some (.iload_n 3), some (.goto 5), none, none, some (.iload 6), none, some (.ireturn), some (.iinc 4 (-1)), none, none, some (.goto (-64)), none, none, some (.iinc 3 1), none, none, some (.goto (-80)), none, none, some (.iconst (-1)), some (.ireturn)]
def ai_t31 : List (Option Instr) := [some (.iconst 0), some (.istore_n 1), some (.iconst 0), some (.istore_n 2), some (.iload_n 2), some (.bipush 8), none, some (.if_icmp .ge 22), none, none, some (.iload_n 1), some (.iload_n 0), some (.bipush 7), none, some (.iload_n 2), some (.isub), some (.ishr), some (.iconst 1), some (.iand), some (.iload_n 2), some (.ishl), some (.ior), some (.istore_n 1), some (.iinc 2 1), none, none, some (.goto (-22)), none, none, some (.iload_n 1), some (.ireturn)]
def ai_t32 : List (Option Instr) := [some (.aload_n 0), some (.getfield 41), none, none, some (.invokevirtual 69), none, none, some (.aload_n 0), some (.iconst 0), some (.putfield 30), none, none, some (.iconst 0), some (.istore_n 2), some (.iload_n 2), some (.aload_n 0), some (.getfield 37), none, none, some (.getfield 74), none, none, some (.if_icmp .ge 61), none, none, some (.iload_n 1), some (.iload_n 2), some (.ishr), some (.iconst 1), some (.iand), some (.ifCond .ne 11), none, none, some (.aload_n 0), some (.iload_n 2), some (.invokevirtual 77), none, none, some (.goto 39), none, none, some (.aload_n 0), some (.getfield 30), none, none, some (.bipush 8), none, some (.if_icmp .ge 30), none, none, some (.aload_n 0), some (.getfield 11), none, none, some (.aload_n 0), some (.getfield 30), none, none, some (.aload_n 0), some (.getfield 37), none, none, some (.iload_n 2), some (.invokevirtual 81), none, none, some (.aastore), some (.aload_n 0), some (.dup), some (.getfield 30), none, none, some (.iconst 1), some (.iadd), some (.putfield 30), none, none, some (.iinc 2 1), none, none, some (.goto (-66)), none, none, some (.aload_n 0), some (.iconst 0), some (.invokevirtual 85), none, none, some (.istore_n 2), some (.iload_n 2), some (.iconst 1), some (.if_icmp .ne 7), none, none, some (.aload_n 0), some (.invokevirtual 88), none, none, some (.aload_n 0), some (.invokevirtual 91), none, none, some (.iload_n 2), some (.ireturn)]
def ai_t33 : List (Option Instr) := [some (.aload_n 0), some (.getfield 41), none, none, some (.invokevirtual 69), none, none, some (.iconst 0), some (.istore_n 1), some (.iload_n 1), some (.aload_n 0), some (.getfield 37), none, none, some (.getfield 74), none, none, some (.if_icmp .ge 14), none, none, some (.aload_n 0), some (.iload_n 1), some (.invokevirtual 77), none, none, some (.iinc 1 1), none, none, some (.goto (-19)), none, none, some (.return_)]
def ai_t34 : List (Option Instr) := [some (.aload_n 0), some (.getfield 37), none, none, some (.iload_n 1), some (.invokevirtual 94), none, none, some (.astore_n 2), some (.aload_n 2), some (.ifnull 20), none, none, some (.aload_n 0), some (.getfield 41), none, none, some (.aload_n 2), some (.aload_n 2), some (.invokevirtual 97), none, none, some (.aload_n 2), some (.getfield 100), none, none, some (.iconst 1), some (.invokevirtual 103), none, none, some (.return_)]
def ai_t35 : List (Option Instr) := [some (.iconst 0), some (.istore_n 1), some (.iload_n 1), some (.aload_n 0), some (.getfield 30), none, none, some (.if_icmp .ge 40), none, none, some (.aload_n 0), some (.getfield 11), none, none, some (.iload_n 1), some (.aaload), some (.astore_n 2), some (.aload_n 2), some (.ifnull 23), none, none, some (.aload_n 2), some (.aload_n 0), some (.getfield 23), none, none, some (.iload_n 1), some (.iaload), some (.putfield 107), none, none, some (.aload_n 2), some (.aload_n 0), some (.getfield 27), none, none, some (.iload_n 1), some (.iaload), some (.putfield 100), none, none, some (.iinc 1 1), none, none, some (.goto (-42)), none, none, some (.return_)]
def ai_t36 : List (Option Instr) := [some (.iload_n 1), some (.aload_n 0), some (.getfield 30), none, none, some (.if_icmp .ge 18), none, none, some (.iload_n 1), some (.bipush 8), none, some (.if_icmp .ge 12), none, none, some (.aload_n 0), some (.getfield 11), none, none, some (.iload_n 1), some (.aaload), some (.ifnonnull 5), none, none, some (.iconst 1), some (.ireturn), some (.aload_n 0), some (.getfield 11), none, none, some (.iload_n 1), some (.aaload), some (.astore_n 2), some (.iconst 0), some (.istore_n 3), some (.iload_n 3), some (.aload_n 2), some (.getfield 110), none, none, some (.if_icmp .ge 56), none, none, some (.aload_n 0), some (.getfield 23), none, none, some (.iload_n 1), some (.iload_n 3), some (.iastore), some (.aload_n 0), some (.getfield 41), none, none, some (.aload_n 0), some (.getfield 19), none, none, some (.iload_n 1), some (.aaload), some (.aload_n 2), some (.aload_n 2), some (.iload_n 3), some (.invokevirtual 112), none, none, some (.invokevirtual 115), none, none, some (.aload_n 0), some (.iload_n 1), some (.aload_n 2), some (.aload_n 2), some (.iload_n 3), some (.invokevirtual 112), none, none, some (.invokevirtual 119), none, none, some (.istore 4), none, some (.iload 4), none, some (.ifCond .eq 6), none, none, some (.iload 4), none, some (.ireturn), some (.iinc 3 1), none, none, some (.goto (-58)), none, none, some (.iconst 0), some (.ireturn)]
def ai_t37 : List (Option Instr) := [some (.iconst 0), some (.istore 4), none, some (.iload 4), none, some (.aload_n 2), some (.getfield 123), none, none, some (.if_icmp .ge 97), none, none, some (.aload_n 0), some (.getfield 34), none, none, some (.ldc 126), none, some (.if_icmp .lt 6), none, none, some (.bipush (-2)), none, some (.ireturn), some (.aload_n 0), some (.dup), some (.getfield 34), none, none, some (.iconst 1), some (.iadd), some (.putfield 34), none, none, some (.aload_n 0), some (.getfield 19), none, none, some (.iload_n 1), some (.aaload), some (.iload 4), none, some (.invokevirtual 127), none, none, some (.ifCond .eq 6), none, none, some (.goto 52), none, none, some (.aload_n 0), some (.getfield 27), none, none, some (.iload_n 1), some (.iload 4), none, some (.iastore), some (.aload_n 0), some (.getfield 41), none, none, some (.aload_n 2), some (.iload_n 3), some (.iload 4), none, some (.iconst 1), some (.invokevirtual 103), none, none, some (.aload_n 0), some (.iload_n 1), some (.iconst 1), some (.iadd), some (.invokevirtual 85), none, none, some (.istore 5), none, some (.iload 5), none, some (.ifCond .eq 6), none, none, some (.iload 5), none, some (.ireturn), some (.aload_n 0), some (.getfield 41), none, none, some (.aload_n 2), some (.iload_n 3), some (.iload 4), none, some (.iconst 0), some (.invokevirtual 103), none, none, some (.iinc 4 1), none, none, some (.goto (-100)), none, none, some (.iconst 0), some (.ireturn)]
def ai_t38 : List (Option Instr) := [some (.aload_n 0), some (.invokespecial 3), none, none, some (.aload_n 0), some (.bipush 60), none, some (.anewarray 9), none, none, some (.putfield 11), none, none, some (.aload_n 0), some (.bipush 12), none, some (.anewarray 9), none, none, some (.putfield 17), none, none, some (.aload_n 0), some (.bipush 12), none, some (.newarray .int), none, some (.putfield 20), none, none, some (.aload_n 0), some (.bipush 12), none, some (.newarray .int), none, some (.putfield 24), none, none, some (.aload_n 0), some (.iconst 0), some (.putfield 27), none, none, some (.aload_n 0), some (.iconst 0), some (.putfield 31), none, none, some (.aload_n 0), some (.aload_n 1), some (.putfield 35), none, none, some (.aload_n 0), some (.aload_n 2), some (.putfield 39), none, none, some (.aload_n 0), some (.aload_n 3), some (.putfield 43), none, none, some (.return_)]
def ai_t39 : List (Option Instr) := [some (.aload_n 0), some (.getfield 27), none, none, some (.bipush 60), none, some (.if_icmp .lt 5), none, none, some (.iconst (-1)), some (.ireturn), some (.aload_n 0), some (.getfield 11), none, none, some (.aload_n 0), some (.getfield 27), none, none, some (.aload_n 1), some (.aastore), some (.aload_n 0), some (.dup), some (.getfield 27), none, none, some (.iconst 1), some (.iadd), some (.putfield 27), none, none, some (.aload_n 0), some (.iconst 1), some (.putfield 31), none, none, some (.aload_n 0), some (.getfield 27), none, none, some (.iconst 1), some (.isub), some (.ireturn)]
def ai_t40 : List (Option Instr) := [some (.iload_n 1), some (.ifCond .lt 20), none, none, some (.iload_n 1), some (.aload_n 0), some (.getfield 27), none, none, some (.if_icmp .ge 12), none, none, some (.aload_n 0), some (.getfield 11), none, none, some (.iload_n 1), some (.aaload), some (.goto 4), none, none, some (.aconst_null), some (.areturn)]
def ai_t41 : List (Option Instr) := [some (.aload_n 0), some (.getfield 31), none, none, some (.ifCond .ne 4), none, none, some (.return_), some (.aload_n 0), some (.iconst 0), some (.putfield 31), none, none, some (.aload_n 0), some (.invokevirtual 47), none, none, some (.iconst 0), some (.istore_n 1), some (.iload_n 1), some (.sipush 240), none, none, some (.if_icmp .ge 25), none, none, some (.aload_n 0), some (.invokevirtual 50), none, none, some (.istore_n 2), some (.iload_n 2), some (.iconst (-1)), some (.if_icmp .ne 4), none, none, some (.return_), some (.aload_n 0), some (.iload_n 2), some (.invokevirtual 54), none, none, some (.iinc 1 1), none, none, some (.goto (-26)), none, none, some (.return_)]
def ai_t42 : List (Option Instr) := [some (.iconst 0), some (.istore_n 1), some (.iload_n 1), some (.aload_n 0), some (.getfield 27), none, none, some (.if_icmp .ge 47), none, none, some (.aload_n 0), some (.iload_n 1), some (.invokevirtual 58), none, none, some (.astore_n 2), some (.aload_n 2), some (.ifnull 31), none, none, some (.aload_n 2), some (.aload_n 0), some (.getfield 39), none, none, some (.aload_n 2), some (.getfield 62), none, none, some (.aload_n 2), some (.getfield 65), none, none, some (.aload_n 2), some (.getfield 68), none, none, some (.iconst (-1)), some (.invokevirtual 71), none, none, some (.iconst 0), some (.invokestatic 77), none, none, some (.invokevirtual 83), none, none, some (.iinc 1 1), none, none, some (.goto (-49)), none, none, some (.iconst 0), some (.istore_n 1), some (.iload_n 1), some (.aload_n 0), some (.getfield 35), none, none, some (.getfield 86), none, none, some (.if_icmp .ge 21), none, none, some (.aload_n 0), some (.getfield 24), none, none, some (.iload_n 1), some (.iconst 0), some (.iastore), some (.aload_n 0), some (.iload_n 1), some (.invokevirtual 91), none, none, some (.iinc 1 1), none, none, some (.goto (-26)), none, none, some (.return_)]
def ai_t43 : List (Option Instr) := [some (.aconst_null), some (.astore_n 2), some (.iconst 0), some (.istore_n 3), some (.iload_n 3), some (.aload_n 0), some (.getfield 27), none, none, some (.if_icmp .ge 42), none, none, some (.aload_n 0), some (.iload_n 3), some (.invokevirtual 58), none, none, some (.astore 4), none, some (.aload 4), none, some (.ifnull 24), none, none, some (.aload 4), none, some (.invokevirtual 94), none, none, some (.iload_n 1), some (.if_icmp .ne 15), none, none, some (.aload 4), none, some (.aload_n 2), some (.invokevirtual 97), none, none, some (.ifCond .eq 6), none, none, some (.aload 4), none, some (.astore_n 2), some (.iinc 3 1), none, none, some (.goto (-44)), none, none, some (.aload_n 0), some (.getfield 17), none, none, some (.iload_n 1), some (.aload_n 2), some (.aastore), some (.aload_n 0), some (.getfield 20), none, none, some (.iload_n 1), some (.aload_n 2), some (.ifnonnull 9), none, none, some (.sipush 3000), none, none, some (.goto 9), none, none, some (.aload_n 0), some (.aload_n 2), some (.iload_n 1), some (.invokevirtual 101), none, none, some (.iastore), some (.return_)]
def ai_t44 : List (Option Instr) := [some (.aload_n 1), some (.invokevirtual 105), none, none, some (.aload_n 0), some (.getfield 24), none, none, some (.iload_n 2), some (.iaload), some (.invokestatic 77), none, none, some (.istore_n 3), some (.iload_n 3), some (.aload_n 0), some (.getfield 35), none, none, some (.iload_n 2), some (.invokevirtual 108), none, none, some (.isub), some (.aload_n 0), some (.getfield 35), none, none, some (.getfield 112), none, none, some (.invokestatic 115), none, none, some (.istore 4), none, some (.aload_n 0), some (.getfield 43), none, none, some (.iload_n 2), some (.iload 4), none, some (.aload_n 0), some (.getfield 35), none, none, some (.iload_n 2), some (.aload_n 1), some (.getfield 68), none, none, some (.invokevirtual 118), none, none, some (.invokevirtual 121), none, none, some (.istore 5), none, some (.iload 5), none, some (.iconst (-1)), some (.if_icmp .ne 9), none, none, some (.sipush 3000), none, none, some (.goto 13), none, none, some (.iload_n 3), some (.iload 5), none, some (.iadd), some (.sipush 3000), none, none, some (.invokestatic 127), none, none, some (.ireturn)]
def ai_t45 : List (Option Instr) := [some (.iconst (-1)), some (.istore_n 1), some (.sipush 3000), none, none, some (.istore_n 2), some (.iconst 0), some (.istore_n 3), some (.iload_n 3), some (.aload_n 0), some (.getfield 35), none, none, some (.getfield 86), none, none, some (.if_icmp .ge 28), none, none, some (.aload_n 0), some (.getfield 20), none, none, some (.iload_n 3), some (.iaload), some (.iload_n 2), some (.if_icmp .ge 12), none, none, some (.aload_n 0), some (.getfield 20), none, none, some (.iload_n 3), some (.iaload), some (.istore_n 2), some (.iload_n 3), some (.istore_n 1), some (.iinc 3 1), none, none, some (.goto (-33)), none, none, some (.iload_n 1), some (.ireturn)]
def ai_t46 : List (Option Instr) := [some (.aload_n 0), some (.getfield 17), none, none, some (.iload_n 1), some (.aaload), some (.astore_n 2), some (.aload_n 2), some (.ifnull 11), none, none, some (.aload_n 2), some (.getfield 130), none, none, some (.iconst 4), some (.if_icmp .lt 4), none, none, some (.return_), some (.aload_n 0), some (.getfield 20), none, none, some (.iload_n 1), some (.iaload), some (.istore_n 3), some (.iload_n 3), some (.aload_n 0), some (.getfield 35), none, none, some (.iload_n 1), some (.aload_n 2), some (.getfield 68), none, none, some (.invokevirtual 133), none, none, some (.iadd), some (.istore 4), none, some (.aload_n 2), some (.getfield 136), none, none, some (.aload_n 2), some (.getfield 130), none, none, some (.iload_n 3), some (.iastore), some (.aload_n 2), some (.dup), some (.getfield 130), none, none, some (.iconst 1), some (.iadd), some (.putfield 130), none, none, some (.aload_n 0), some (.getfield 24), none, none, some (.iload_n 1), some (.iload_n 3), some (.aload_n 0), some (.getfield 35), none, none, some (.iload_n 1), some (.aload_n 2), some (.getfield 68), none, none, some (.invokevirtual 118), none, none, some (.iadd), some (.iastore), some (.aload_n 0), some (.iload_n 1), some (.invokevirtual 91), none, none, some (.aload_n 2), some (.invokevirtual 94), none, none, some (.istore 5), none, some (.aload_n 0), some (.getfield 35), none, none, some (.iload 5), none, some (.invokevirtual 139), none, none, some (.ifCond .ne 10), none, none, some (.aload_n 2), some (.iload 4), none, some (.putfield 143), none, none, some (.return_), some (.aload_n 2), some (.getfield 146), none, none, some (.aload_n 2), some (.getfield 130), none, none, some (.iload 4), none, some (.aload_n 0), some (.getfield 35), none, none, some (.iload_n 1), some (.invokevirtual 149), none, none, some (.iadd), some (.iastore), some (.aload_n 0), some (.iload 5), none, some (.invokevirtual 91), none, none, some (.return_)]
def ai_t47 : List (Option Instr) := [some (.iconst 0), some (.istore_n 2), some (.iconst 0), some (.istore_n 3), some (.iload_n 3), some (.aload_n 0), some (.getfield 27), none, none, some (.if_icmp .ge 37), none, none, some (.aload_n 0), some (.iload_n 3), some (.invokevirtual 58), none, none, some (.astore 4), none, some (.aload 4), none, some (.ifnull 19), none, none, some (.iload_n 2), some (.aload_n 0), some (.iload_n 1), some (.aload 4), none, some (.iload_n 1), some (.invokevirtual 152), none, none, some (.invokevirtual 155), none, none, some (.invokestatic 77), none, none, some (.istore_n 2), some (.iinc 3 1), none, none, some (.goto (-39)), none, none, some (.iload_n 2), some (.ireturn)]
def ai_t48 : List (Option Instr) := [some (.iconst 0), some (.istore_n 3), some (.iconst 0), some (.istore 4), none, some (.iload 4), none, some (.aload_n 0), some (.getfield 27), none, none, some (.if_icmp .ge 42), none, none, some (.aload_n 0), some (.iload 4), none, some (.invokevirtual 58), none, none, some (.astore 5), none, some (.aload 5), none, some (.ifnull 23), none, none, some (.iload_n 2), some (.sipush 3000), none, none, some (.if_icmp .ge 16), none, none, some (.aload 5), none, some (.iload_n 1), some (.iload_n 2), some (.invokevirtual 158), none, none, some (.ifCond .eq 6), none, none, some (.iinc 3 1), none, none, some (.iinc 4 1), none, none, some (.goto (-45)), none, none, some (.iload_n 3), some (.ireturn)]
def ai_t49 : List (Option Instr) := [some (.iconst 0), some (.istore_n 1), some (.iconst 0), some (.istore_n 2), some (.iload_n 2), some (.aload_n 0), some (.getfield 27), none, none, some (.if_icmp .ge 32), none, none, some (.aload_n 0), some (.iload_n 2), some (.invokevirtual 58), none, none, some (.astore_n 3), some (.aload_n 3), some (.ifnull 16), none, none, some (.aload_n 3), some (.getfield 143), none, none, some (.sipush 3000), none, none, some (.if_icmp .ge 6), none, none, some (.iinc 1 1), none, none, some (.iinc 2 1), none, none, some (.goto (-34)), none, none, some (.iload_n 1), some (.ireturn)]
def ai_t50 : List (Option Instr) := [some (.aload_n 0), some (.invokespecial 1), none, none, some (.aload_n 0), some (.lconst 0), some (.putfield 7), none, none, some (.aload_n 0), some (.lconst 0), some (.putfield 13), none, none, some (.aload_n 0), some (.aload_n 1), some (.putfield 16), none, none, some (.return_)]
def ai_t51 : List (Option Instr) := [some (.aload_n 0), some (.lconst 0), some (.putfield 7), none, none, some (.aload_n 0), some (.lconst 0), some (.putfield 13), none, none, some (.return_)]
def ai_t52 : List (Option Instr) := [some (.aload_n 0), some (.lconst 1), some (.aload_n 0), some (.getfield 16), none, none, some (.getfield 20), none, none, some (.iconst 2), some (.idiv), some (.lshl), some (.lconst 1), some (.lsub), some (.putfield 7), none, none, some (.aload_n 0), some (.aload_n 0), some (.getfield 7), none, none, some (.putfield 13), none, none, some (.return_)]
def ai_t53 : List (Option Instr) := [some (.aload_n 0), some (.getfield 16), none, none, some (.getfield 20), none, none, some (.iconst 2), some (.idiv), some (.istore_n 2), some (.iload_n 1), some (.iload_n 2), some (.if_icmp .ge 12), none, none, some (.aload_n 0), some (.getfield 7), none, none, some (.iload_n 1), some (.lshr), some (.goto 11), none, none, some (.aload_n 0), some (.getfield 13), none, none, some (.iload_n 1), some (.iload_n 2), some (.isub), some (.lshr), some (.lconst 1), some (.land), some (.lconst 1), some (.lcmp), some (.ifCond .ne 7), none, none, some (.iconst 1), some (.goto 4), none, none, some (.iconst 0), some (.ireturn)]
def ai_t54 : List (Option Instr) := [some (.aload_n 0), some (.dup), some (.getfield 7), none, none, some (.aload_n 1), some (.getfield 7), none, none, some (.lor), some (.putfield 7), none, none, some (.aload_n 0), some (.dup), some (.getfield 13), none, none, some (.aload_n 1), some (.getfield 13), none, none, some (.lor), some (.putfield 13), none, none, some (.return_)]
def ai_t55 : List (Option Instr) := [some (.aload_n 0), some (.aload_n 0), some (.getfield 7), none, none, some (.aload_n 1), some (.getfield 7), none, none, some (.ldc2_w 26), none, none, some (.lxor), some (.land), some (.putfield 7), none, none, some (.aload_n 0), some (.aload_n 0), some (.getfield 13), none, none, some (.aload_n 1), some (.getfield 13), none, none, some (.ldc2_w 26), none, none, some (.lxor), some (.land), some (.putfield 13), none, none, some (.return_)]
def ai_t56 : List (Option Instr) := [some (.aload_n 0), some (.aload_n 1), some (.getfield 7), none, none, some (.aload_n 1), some (.getfield 13), none, none, some (.iload_n 2), some (.invokevirtual 28), none, none, some (.return_)]
def ai_t57 : List (Option Instr) := [some (.aload_n 0), some (.invokevirtual 32), none, none, some (.aload_n 0), some (.getfield 16), none, none, some (.getfield 20), none, none, some (.iconst 2), some (.idiv), some (.istore 4), none, some (.lconst 1), some (.iload_n 2), some (.iload 4), none, some (.invokestatic 35), none, none, some (.lshl), some (.lconst 1), some (.lsub), some (.lstore 5), none, some (.lconst 1), some (.iload_n 2), some (.iload 4), none, some (.isub), some (.iconst 0), some (.invokestatic 41), none, none, some (.lshl), some (.lconst 1), some (.lsub), some (.lstore 7), none, some (.iconst 0), some (.istore 9), none, some (.iload 9), none, some (.aload_n 0), some (.iload_n 3), some (.invokevirtual 44), none, none, some (.if_icmp .ge 23), none, none, some (.aload_n 0), some (.lload 5), none, some (.lload 7), none, some (.iload_n 1), some (.iload 9), none, some (.iload_n 3), some (.imul), some (.iadd), some (.invokevirtual 28), none, none, some (.iinc 9 1), none, none, some (.goto (-27)), none, none, some (.return_)]
def ai_t58 : List (Option Instr) := [some (.iload_n 1), some (.ifCond .le 15), none, none, some (.aload_n 0), some (.getfield 16), none, none, some (.getfield 20), none, none, some (.iload_n 1), some (.idiv), some (.goto 4), none, none, some (.iconst 0), some (.ireturn)]
def ai_t59 : List (Option Instr) := [some (.aload_n 0), some (.getfield 16), none, none, some (.getfield 20), none, none, some (.iconst 2), some (.idiv), some (.istore 6), none, some (.iload 5), none, some (.aload_n 0), some (.getfield 16), none, none, some (.getfield 20), none, none, some (.irem), some (.istore 7), none, some (.iload 7), none, some (.ifCond .ge 16), none, none, some (.iload 7), none, some (.aload_n 0), some (.getfield 16), none, none, some (.getfield 20), none, none, some (.iadd), some (.goto 5), none, none, some (.iload 7), none, some (.istore 8), none, some (.iload 8), none, some (.iload 6), none, some (.if_icmp .lt 7), none, none, some (.iconst 1), some (.goto 4), none, none, some (.iconst 0), some (.istore 9), none, some (.iload 9), none, some (.ifCond .eq 11), none, none, some (.iload 8), none, some (.iload 6), none, some (.isub), some (.goto 5), none, none, some (.iload 8), none, some (.istore 10), none, some (.iload 9), none, some (.ifCond .eq 7), none, none, some (.lload_n 3), some (.goto 4), none, none, some (.lload_n 1), some (.lstore 11), none, some (.iload 9), none, some (.ifCond .eq 7), none, none, some (.lload_n 1), some (.goto 4), none, none, some (.lload_n 3), some (.lstore 13), none, some (.lconst 1), some (.iload 6), none, some (.lshl), some (.lconst 1), some (.lsub), some (.lstore 15), none, some (.aload_n 0), some (.dup), some (.getfield 7), none, none, some (.lload 11), none, some (.iload 10), none, some (.lshl), some (.lload 13), none, some (.iload 6), none, some (.iload 10), none, some (.isub), some (.lushr), some (.lor), some (.lload 15), none, some (.land), some (.lor), some (.putfield 7), none, none, some (.aload_n 0), some (.dup), some (.getfield 13), none, none, some (.lload 13), none, some (.iload 10), none, some (.lshl), some (.lload 11), none, some (.iload 6), none, some (.iload 10), none, some (.isub), some (.lushr), some (.lor), some (.lload 15), none, some (.land), some (.lor), some (.putfield 13), none, none, some (.return_)]
def ai_t60 : List (Option Instr) := [some (.aload_n 0), some (.invokespecial 3), none, none, some (.aload_n 0), some (.iconst 3), some (.newarray .int), none, some (.putfield 9), none, none, some (.aload_n 0), some (.iconst 0), some (.putfield 15), none, none, some (.aload_n 0), some (.iconst (-1)), some (.putfield 19), none, none, some (.aload_n 0), some (.iconst 0), some (.putfield 22), none, none, some (.aload_n 0), some (.iload_n 1), some (.putfield 25), none, none, some (.aload_n 0), some (.iload_n 2), some (.iconst 2), some (.invokestatic 28), none, none, some (.putfield 34), none, none, some (.return_)]
def ai_t61 : List (Option Instr) := [some (.aload_n 0), some (.getfield 15), none, none, some (.iconst 3), some (.if_icmp .ge 23), none, none, some (.aload_n 0), some (.getfield 9), none, none, some (.aload_n 0), some (.getfield 15), none, none, some (.iload_n 1), some (.iastore), some (.aload_n 0), some (.dup), some (.getfield 15), none, none, some (.iconst 1), some (.iadd), some (.putfield 15), none, none, some (.return_)]
def ai_t62 : List (Option Instr) := [some (.iload_n 1), some (.ifCond .lt 20), none, none, some (.iload_n 1), some (.aload_n 0), some (.getfield 15), none, none, some (.if_icmp .ge 12), none, none, some (.aload_n 0), some (.getfield 9), none, none, some (.iload_n 1), some (.iaload), some (.goto 4), none, none, some (.iconst 0), some (.ireturn)]
def ai_t63 : List (Option Instr) := [some (.aload_n 0), some (.aload_n 0), some (.getfield 19), none, none, some (.invokevirtual 37), none, none, some (.ireturn)]
def ai_t64 : List (Option Instr) := [some (.aload_n 0), some (.invokespecial 3), none, none, some (.aload_n 0), some (.bipush 8), none, some (.anewarray 9), none, none, some (.putfield 11), none, none, some (.aload_n 0), some (.iconst 0), some (.putfield 17), none, none, some (.return_)]
def ai_t65 : List (Option Instr) := [some (.aload_n 0), some (.getfield 17), none, none, some (.bipush 8), none, some (.if_icmp .lt 5), none, none, some (.iconst (-1)), some (.ireturn), some (.aload_n 0), some (.getfield 11), none, none, some (.aload_n 0), some (.getfield 17), none, none, some (.aload_n 1), some (.aastore), some (.aload_n 0), some (.dup), some (.getfield 17), none, none, some (.iconst 1), some (.iadd), some (.putfield 17), none, none, some (.aload_n 0), some (.getfield 17), none, none, some (.iconst 1), some (.isub), some (.ireturn)]
def ai_t66 : List (Option Instr) := [some (.iload_n 1), some (.ifCond .lt 20), none, none, some (.iload_n 1), some (.aload_n 0), some (.getfield 17), none, none, some (.if_icmp .ge 12), none, none, some (.aload_n 0), some (.getfield 11), none, none, some (.iload_n 1), some (.aaload), some (.goto 4), none, none, some (.aconst_null), some (.areturn)]
def ai_t67 : List (Option Instr) := [some (.aload_n 0), some (.iload_n 1), some (.invokevirtual 21), none, none, some (.astore_n 2), some (.aload_n 2), some (.ifnull 15), none, none, some (.aload_n 2), some (.getfield 25), none, none, some (.iconst (-1)), some (.if_icmp .eq 7), none, none, some (.aload_n 2), some (.goto 4), none, none, some (.aconst_null), some (.areturn)]
def ai_t68 : List (Option Instr) := [some (.iconst 1), some (.aload_n 0), some (.getfield 17), none, none, some (.ishl), some (.iconst 1), some (.isub), some (.ireturn)]
def ai_t69 : List (Option Instr) := [some (.iconst 0), some (.istore_n 1), some (.iconst 0), some (.istore_n 2), some (.iload_n 2), some (.aload_n 0), some (.getfield 17), none, none, some (.if_icmp .ge 23), none, none, some (.aload_n 0), some (.iload_n 2), some (.invokevirtual 28), none, none, some (.ifnull 9), none, none, some (.iload_n 1), some (.iconst 1), some (.iload_n 2), some (.ishl), some (.ior), some (.istore_n 1), some (.iinc 2 1), none, none, some (.goto (-25)), none, none, some (.iload_n 1), some (.ireturn)]
def ai_t70 : List (Option Instr) := [some (.aload_n 0), some (.invokevirtual 31), none, none, some (.aload_n 0), some (.invokevirtual 35), none, none, some (.iconst (-1)), some (.ixor), some (.iand), some (.ireturn)]
def ai_t71 : List (Option Instr) := [some (.aload_n 0), some (.invokespecial 5), none, none, some (.aload_n 0), some (.iconst 0), some (.putfield 11), none, none, some (.aload_n 0), some (.iconst 1), some (.putfield 15), none, none, some (.aload_n 0), some (.iconst (-1)), some (.putfield 18), none, none, some (.aload_n 0), some (.iconst (-1)), some (.putfield 21), none, none, some (.aload_n 0), some (.aload_n 1), some (.putfield 24), none, none, some (.return_)]
def ai_t72 : List (Option Instr) := [some (.iload_n 0), some (.bipush 16), none, some (.ishr), some (.ireturn)]
def ai_t73 : List (Option Instr) := [some (.iload_n 1), some (.ifCond .lt 8), none, none, some (.iload_n 1), some (.iconst 4), some (.if_icmp .lt 5), none, none, some (.iconst (-1)), some (.ireturn), some (.iload_n 0), some (.iload_n 1), some (.invokestatic 28), none, none, some (.ishr), some (.bipush 15), none, some (.iand), some (.iconst 1), some (.isub), some (.ireturn)]
def ai_t74 : List (Option Instr) := [some (.iconst 0), some (.istore_n 1), some (.iconst 0), some (.istore_n 2), some (.iload_n 2), some (.iconst 4), some (.if_icmp .ge 21), none, none, some (.iload_n 0), some (.iload_n 2), some (.invokestatic 32), none, none, some (.iconst (-1)), some (.if_icmp .eq 6), none, none, some (.iinc 1 1), none, none, some (.iinc 2 1), none, none, some (.goto (-20)), none, none, some (.iload_n 1), some (.ireturn)]
def ai_t75 : List (Option Instr) := [some (.iload_n 0), some (.iload_n 1), some (.invokestatic 32), none, none, some (.iconst (-1)), some (.if_icmp .eq 7), none, none, some (.iconst 1), some (.goto 4), none, none, some (.iconst 0), some (.ireturn)]
def ai_t76 : List (Option Instr) := [some (.iconst 0), some (.istore_n 2), some (.iload_n 2), some (.iconst 4), some (.if_icmp .ge 25), none, none, some (.iload_n 1), some (.iconst (-1)), some (.if_icmp .eq 14), none, none, some (.iload_n 0), some (.iload_n 2), some (.invokestatic 32), none, none, some (.iload_n 1), some (.if_icmp .ne 5), none, none, some (.iload_n 2), some (.ireturn), some (.iinc 2 1), none, none, some (.goto (-24)), none, none, some (.iconst (-1)), some (.ireturn)]
def ai_t77 : List (Option Instr) := [some (.bipush 12), none, some (.iconst 4), some (.iload_n 0), some (.imul), some (.isub), some (.ireturn)]
def ai_t78 : List (Option Instr) := [some (.aload_n 0), some (.iload_n 1), some (.iload_n 2), some (.iload_n 3), some (.iconst (-1)), some (.invokevirtual 36), none, none, some (.istore 5), none, some (.iconst 0), some (.istore 6), none, some (.iload 6), none, some (.iload 4), none, some (.if_icmp .ge 26), none, none, some (.iload 5), none, some (.iconst (-1)), some (.if_icmp .eq 20), none, none, some (.aload_n 0), some (.iload_n 1), some (.iload_n 2), some (.iload_n 3), some (.iload 5), none, some (.invokevirtual 36), none, none, some (.istore 5), none, some (.iinc 6 1), none, none, some (.goto (-27)), none, none, some (.iload 5), none, some (.ireturn)]
def ai_t79 : List (Option Instr) := [some (.aload_n 0), some (.iload_n 2), some (.putfield 11), none, none, some (.aload_n 0), some (.iload_n 3), some (.putfield 15), none, none, some (.aload_n 0), some (.iload 4), none, some (.putfield 18), none, none, some (.aload_n 0), some (.iconst (-1)), some (.putfield 21), none, none, some (.aload_n 0), some (.iload_n 1), some (.iconst 1), some (.iload_n 1), some (.ishl), some (.iconst 0), some (.iconst 0), some (.iconst 0), some (.invokevirtual 40), none, none, some (.aload_n 0), some (.getfield 21), none, none, some (.ireturn)]
def ai_t80 : List (Option Instr) := [some (.iload 5), none, some (.iconst 4), some (.if_icmp .lt 4), none, none, some (.return_), some (.iconst 0), some (.istore 6), none, some (.iload 6), none, some (.aload_n 0), some (.getfield 24), none, none, some (.getfield 44), none, none, some (.if_icmp .ge 134), none, none, some (.aload_n 0), some (.getfield 24), none, none, some (.getfield 49), none, none, some (.iload 6), none, some (.iaload), some (.istore 7), none, some (.aload_n 0), some (.getfield 24), none, none, some (.getfield 53), none, none, some (.iload 6), none, some (.iaload), some (.iload_n 1), some (.if_icmp .ne 102), none, none, some (.iload_n 2), some (.iload 7), none, some (.ishr), some (.iconst 1), some (.iand), some (.iconst 1), some (.if_icmp .ne 6), none, none, some (.goto 89), none, none, some (.iload_n 3), some (.aload_n 0), some (.getfield 24), none, none, some (.iload 6), none, some (.aload_n 0), some (.getfield 15), none, none, some (.invokevirtual 56), none, none, some (.iadd), some (.istore 8), none, some (.iload 4), none, some (.iload 6), none, some (.iconst 1), some (.iadd), some (.iload 5), none, some (.invokestatic 28), none, none, some (.ishl), some (.ior), some (.istore 9), none, some (.iload 7), none, some (.aload_n 0), some (.getfield 11), none, none, some (.if_icmp .ne 18), none, none, some (.aload_n 0), some (.iload 8), none, some (.bipush 16), none, some (.ishl), some (.iload 9), none, some (.ior), some (.invokevirtual 59), none, none, some (.goto 33), none, none, some (.aload_n 0), some (.iload 7), none, some (.iload_n 2), some (.iconst 1), some (.iload 7), none, some (.ishl), some (.ior), some (.iload 8), none, some (.aload_n 0), some (.getfield 24), none, none, some (.iload 6), none, some (.invokevirtual 63), none, none, some (.iadd), some (.iload 9), none, some (.iload 5), none, some (.iconst 1), some (.iadd), some (.invokevirtual 40), none, none, some (.iinc 6 1), none, none, some (.goto (-140)), none, none, some (.return_)]
def ai_t81 : List (Option Instr) := [some (.iload_n 1), some (.aload_n 0), some (.getfield 18), none, none, some (.if_icmp .le 24), none, none, some (.aload_n 0), some (.getfield 21), none, none, some (.iconst (-1)), some (.if_icmp .eq 11), none, none, some (.iload_n 1), some (.aload_n 0), some (.getfield 21), none, none, some (.if_icmp .ge 8), none, none, some (.aload_n 0), some (.iload_n 1), some (.putfield 21), none, none, some (.return_)]
def ai_t82 : List (Option Instr) := [some (.aload_n 0), some (.invokespecial 1), none, none, some (.aload_n 0), some (.new 7), none, none, some (.dup), some (.invokespecial 9), none, none, some (.putfield 10), none, none, some (.aload_n 0), some (.new 16), none, none, some (.dup), some (.aload_n 0), some (.getfield 10), none, none, some (.invokespecial 18), none, none, some (.putfield 21), none, none, some (.aload_n 0), some (.new 25), none, none, some (.dup), some (.invokespecial 27), none, none, some (.putfield 28), none, none, some (.aload_n 0), some (.new 32), none, none, some (.dup), some (.aload_n 0), some (.getfield 10), none, none, some (.invokespecial 34), none, none, some (.putfield 35), none, none, some (.aload_n 0), some (.new 39), none, none, some (.dup), some (.aload_n 0), some (.getfield 10), none, none, some (.aload_n 0), some (.getfield 28), none, none, some (.aload_n 0), some (.getfield 35), none, none, some (.invokespecial 41), none, none, some (.putfield 44), none, none, some (.aload_n 0), some (.new 48), none, none, some (.dup), some (.aload_n 0), some (.getfield 10), none, none, some (.aload_n 0), some (.getfield 21), none, none, some (.aload_n 0), some (.getfield 35), none, none, some (.invokespecial 50), none, none, some (.putfield 53), none, none, some (.return_)]
def ai_t83 : List (Option Instr) := [some (.iload_n 1), some (.iconst 0), some (.iconst 5), some (.invokestatic 57), none, none, some (.ifCond .eq 14), none, none, some (.aload_n 0), some (.getfield 10), none, none, some (.iload_n 1), some (.invokevirtual 61), none, none, some (.goto 4), none, none, some (.iconst (-1)), some (.ireturn)]
def ai_t84 : List (Option Instr) := [some (.aload_n 0), some (.getfield 10), none, none, some (.iload_n 1), some (.iload_n 2), some (.invokevirtual 65), none, none, some (.ifCond .eq 23), none, none, some (.aload_n 0), some (.getfield 28), none, none, some (.getfield 69), none, none, some (.ifCond .gt 13), none, none, some (.aload_n 0), some (.getfield 53), none, none, some (.getfield 73), none, none, some (.ifCond .le 5), none, none, some (.iconst (-1)), some (.ireturn), some (.iload_n 3), some (.iconst 0), some (.bipush 9), none, some (.invokestatic 57), none, none, some (.ifCond .eq 13), none, none, some (.iload 4), none, some (.iconst 1), some (.iconst 3), some (.invokestatic 57), none, none, some (.ifCond .ne 5), none, none, some (.iconst (-1)), some (.ireturn), some (.aload_n 0), some (.getfield 10), none, none, some (.iload_n 1), some (.iload_n 2), some (.iload_n 3), some (.iload 4), none, some (.invokevirtual 74), none, none, some (.ireturn)]
def ai_t85 : List (Option Instr) := [some (.aload_n 0), some (.getfield 28), none, none, some (.getfield 69), none, none, some (.ifCond .gt 10), none, none, some (.iload_n 1), some (.invokestatic 78), none, none, some (.ifCond .ne 5), none, none, some (.iconst 0), some (.ireturn), some (.aload_n 0), some (.getfield 10), none, none, some (.iload_n 1), some (.putfield 82), none, none, some (.iconst 1), some (.ireturn)]
def ai_t86 : List (Option Instr) := [some (.aload_n 0), some (.getfield 28), none, none, some (.getfield 69), none, none, some (.ifCond .gt 12), none, none, some (.iload_n 1), some (.iconst 0), some (.iconst 3), some (.invokestatic 57), none, none, some (.ifCond .ne 5), none, none, some (.iconst 0), some (.ireturn), some (.aload_n 0), some (.getfield 10), none, none, some (.iload_n 1), some (.putfield 85), none, none, some (.aload_n 0), some (.getfield 10), none, none, some (.invokevirtual 88), none, none, some (.aload_n 0), some (.getfield 53), none, none, some (.iconst 1), some (.putfield 91), none, none, some (.iconst 1), some (.ireturn)]
def ai_t87 : List (Option Instr) := [some (.aload_n 0), some (.getfield 10), none, none, some (.iload_n 1), some (.invokevirtual 95), none, none, some (.ifCond .eq 33), none, none, some (.aload_n 0), some (.getfield 10), none, none, some (.iload_n 2), some (.invokevirtual 95), none, none, some (.ifCond .eq 22), none, none, some (.iload_n 3), some (.invokestatic 98), none, none, some (.ifCond .eq 15), none, none, some (.iload 4), none, some (.iconst 0), some (.sipush 792), none, none, some (.invokestatic 57), none, none, some (.ifCond .ne 5), none, none, some (.iconst (-1)), some (.ireturn), some (.aload_n 0), some (.getfield 21), none, none, some (.iload_n 1), some (.iload_n 2), some (.iload_n 3), some (.iload 4), none, some (.invokevirtual 101), none, none, some (.istore 6), none, some (.iload 6), none, some (.iconst (-1)), some (.if_icmp .ne 5), none, none, some (.iconst (-1)), some (.ireturn), some (.iload 5), none, some (.iconst 4), some (.if_icmp .ne 11), none, none, some (.iload 6), none, some (.invokestatic 104), none, none, some (.goto 10), none, none, some (.iload 6), none, some (.iload 5), none, some (.invokestatic 107), none, none, some (.ireturn)]
def ai_t88 : List (Option Instr) := [some (.aload_n 0), some (.getfield 28), none, none, some (.getfield 69), none, none, some (.bipush 8), none, some (.if_icmp .ge 22), none, none, some (.aload_n 0), some (.getfield 10), none, none, some (.iload_n 1), some (.iload_n 2), some (.invokevirtual 65), none, none, some (.ifCond .eq 10), none, none, some (.iload_n 3), some (.invokestatic 98), none, none, some (.ifCond .ne 5), none, none, some (.iconst (-1)), some (.ireturn), some (.aload_n 0), some (.iload 4), none, some (.invokevirtual 111), none, none, some (.ifCond .eq 15), none, none, some (.iload 5), none, some (.iconst 1), some (.sipush 200), none, none, some (.invokestatic 57), none, none, some (.ifCond .ne 5), none, none, some (.iconst (-1)), some (.ireturn), some (.aload_n 0), some (.getfield 21), none, none, some (.iload_n 1), some (.iload_n 2), some (.iload_n 3), some (.iconst (-1)), some (.invokevirtual 114), none, none, some (.iload 5), none, some (.invokestatic 117), none, none, some (.ifCond .ne 6), none, none, some (.bipush (-2)), none, some (.ireturn), some (.new 120), none, none, some (.dup), some (.iload_n 3), some (.iload 4), none, some (.invokespecial 122), none, none, some (.astore 6), none, some (.aload_n 0), some (.aload 6), none, some (.iload_n 1), some (.iload_n 2), some (.iload 5), none, some (.invokevirtual 125), none, none, some (.aload_n 0), some (.getfield 28), none, none, some (.aload 6), none, some (.invokevirtual 129), none, none, some (.ireturn)]
def ai_t89 : List (Option Instr) := [some (.aload_n 0), some (.getfield 28), none, none, some (.iload_n 1), some (.invokevirtual 133), none, none, some (.astore_n 2), some (.aload_n 2), some (.ifnonnull 5), none, none, some (.iconst 0), some (.ireturn), some (.aload_n 2), some (.iconst (-1)), some (.putfield 137), none, none, some (.aload_n 0), some (.getfield 44), none, none, some (.invokevirtual 140), none, none, some (.aload_n 0), some (.getfield 53), none, none, some (.iconst 1), some (.putfield 91), none, none, some (.iconst 1), some (.ireturn)]
def ai_t90 : List (Option Instr) := [some (.aload_n 0), some (.getfield 44), none, none, some (.invokevirtual 143), none, none, some (.aload_n 0), some (.getfield 44), none, none, some (.aload_n 0), some (.getfield 28), none, none, some (.invokevirtual 146), none, none, some (.invokevirtual 150), none, none, some (.istore_n 1), some (.aload_n 0), some (.getfield 53), none, none, some (.iconst 1), some (.putfield 91), none, none, some (.iload_n 1), some (.ireturn)]
def ai_t91 : List (Option Instr) := [some (.aload_n 0), some (.getfield 44), none, none, some (.invokevirtual 143), none, none, some (.aload_n 0), some (.getfield 44), none, none, some (.aload_n 0), some (.getfield 28), none, none, some (.invokevirtual 153), none, none, some (.invokevirtual 150), none, none, some (.istore_n 1), some (.aload_n 0), some (.getfield 53), none, none, some (.iconst 1), some (.putfield 91), none, none, some (.iload_n 1), some (.ireturn)]
def ai_t92 : List (Option Instr) := [some (.aload_n 0), some (.getfield 44), none, none, some (.invokevirtual 143), none, none, some (.aload_n 0), some (.getfield 44), none, none, some (.invokevirtual 156), none, none, some (.istore_n 1), some (.aload_n 0), some (.getfield 53), none, none, some (.iconst 1), some (.putfield 91), none, none, some (.iload_n 1), some (.ireturn)]
def ai_t93 : List (Option Instr) := [some (.aload_n 0), some (.getfield 28), none, none, some (.iload_n 1), some (.invokevirtual 133), none, none, some (.astore_n 3), some (.aload_n 3), some (.ifnonnull 5), none, none, some (.iconst (-1)), some (.ireturn), some (.aload_n 3), some (.invokevirtual 159), none, none, some (.istore 4), none, some (.iload_n 2), some (.tableswitch 52 0 3 #[30, 35, 40, 46]), none, none, none, none, none, none, none, none, none, none, none, none, none, none, none, none, none, none, none, none, none, none, none, none, none, none, none, none, none, some (.aload_n 3), some (.getfield 137), none, none, some (.ireturn), some (.aload_n 3), some (.getfield 162), none, none, some (.ireturn), some (.iload 4), none, some (.invokestatic 165), none, none, some (.ireturn), some (.iload 4), none, some (.invokestatic 104), none, none, some (.ireturn), some (.iload_n 2), some (.bipush 10), none, some (.bipush 13), none, some (.invokestatic 57), none, none, some (.ifCond .eq 13), none, none, some (.iload 4), none, some (.iload_n 2), some (.bipush 10), none, some (.isub), some (.invokestatic 107), none, none, some (.ireturn), some (.iload 4), none, some (.iload_n 2), some (.bipush 20), none, some (.isub), some (.invokestatic 168), none, none, some (.ifCond .eq 18), none, none, some (.aload_n 0), some (.getfield 10), none, none, some (.aload_n 3), some (.iload_n 2), some (.bipush 20), none, some (.isub), some (.invokevirtual 171), none, none, some (.goto 4), none, none, some (.iconst (-1)), some (.ireturn)]
def ai_t94 : List (Option Instr) := [some (.aload_n 0), some (.getfield 44), none, none, some (.getfield 175), none, none, some (.ireturn)]
def ai_t95 : List (Option Instr) := [some (.aload_n 0), some (.getfield 10), none, none, some (.iload_n 1), some (.invokevirtual 178), none, none, some (.ifCond .eq 14), none, none, some (.aload_n 0), some (.getfield 10), none, none, some (.iload_n 2), some (.invokevirtual 181), none, none, some (.ifCond .ne 6), none, none, some (.bipush (-2)), none, some (.ireturn), some (.iconst 0), some (.istore_n 3), some (.iload_n 3), some (.aload_n 0), some (.getfield 28), none, none, some (.getfield 69), none, none, some (.if_icmp .ge 40), none, none, some (.aload_n 0), some (.getfield 28), none, none, some (.iload_n 3), some (.invokevirtual 133), none, none, some (.astore 4), none, some (.aload 4), none, some (.ifnull 19), none, none, some (.aload_n 0), some (.getfield 10), none, none, some (.aload 4), none, some (.iload_n 1), some (.iload_n 2), some (.invokevirtual 184), none, none, some (.ifCond .eq 5), none, none, some (.iload_n 3), some (.ireturn), some (.iinc 3 1), none, none, some (.goto (-45)), none, none, some (.iconst (-1)), some (.ireturn)]
def ai_t96 : List (Option Instr) := [some (.aload_n 0), some (.getfield 10), none, none, some (.iload_n 1), some (.invokevirtual 178), none, none, some (.ifCond .eq 21), none, none, some (.aload_n 0), some (.getfield 10), none, none, some (.iload_n 2), some (.invokevirtual 181), none, none, some (.ifCond .eq 10), none, none, some (.iload_n 3), some (.invokestatic 98), none, none, some (.ifCond .ne 6), none, none, some (.bipush (-2)), none, some (.ireturn), some (.aload_n 0), some (.getfield 35), none, none, some (.iload_n 1), some (.iload_n 2), some (.aload_n 0), some (.getfield 10), none, none, some (.iload_n 1), some (.iload_n 3), some (.invokevirtual 188), none, none, some (.invokevirtual 191), none, none, some (.ireturn)]
def ai_t97 : List (Option Instr) := [some (.aload_n 0), some (.getfield 10), none, none, some (.iload_n 1), some (.invokevirtual 178), none, none, some (.ifCond .eq 10), none, none, some (.iload_n 2), some (.invokestatic 98), none, none, some (.ifCond .ne 6), none, none, some (.bipush (-2)), none, some (.ireturn), some (.iconst 0), some (.istore_n 3), some (.iconst 0), some (.istore 4), none, some (.iload 4), none, some (.aload_n 0), some (.getfield 10), none, none, some (.getfield 82), none, none, some (.if_icmp .ge 45), none, none, some (.aload_n 0), some (.getfield 35), none, none, some (.iload_n 1), some (.iload 4), none, some (.aload_n 0), some (.getfield 10), none, none, some (.iload_n 1), some (.iload_n 2), some (.invokevirtual 188), none, none, some (.invokevirtual 191), none, none, some (.istore 5), none, some (.iload 5), none, some (.iconst (-1)), some (.if_icmp .ne 5), none, none, some (.iconst (-1)), some (.ireturn), some (.iload_n 3), some (.iload 5), none, some (.invokestatic 195), none, none, some (.istore_n 3), some (.iinc 4 1), none, none, some (.goto (-51)), none, none, some (.iload_n 3), some (.ireturn)]
def ai_t98 : List (Option Instr) := [some (.aload_n 0), some (.getfield 10), none, none, some (.iload_n 1), some (.invokevirtual 95), none, none, some (.ifCond .eq 25), none, none, some (.iload_n 2), some (.aload_n 0), some (.getfield 10), none, none, some (.getfield 85), none, none, some (.ineg), some (.aload_n 0), some (.getfield 10), none, none, some (.getfield 85), none, none, some (.invokestatic 57), none, none, some (.ifCond .ne 5), none, none, some (.iconst 0), some (.ireturn), some (.aload_n 0), some (.getfield 10), none, none, some (.getfield 200), none, none, some (.iload_n 1), some (.iload_n 2), some (.iastore), some (.aload_n 0), some (.getfield 53), none, none, some (.iconst 1), some (.putfield 91), none, none, some (.iconst 1), some (.ireturn)]
def ai_t99 : List (Option Instr) := [some (.aload_n 0), some (.getfield 53), none, none, some (.getfield 73), none, none, some (.bipush 60), none, some (.if_icmp .ge 14), none, none, some (.iload_n 1), some (.iconst 0), some (.sipush 999), none, none, some (.invokestatic 57), none, none, some (.ifCond .ne 5), none, none, some (.iconst (-1)), some (.ireturn), some (.aload_n 0), some (.getfield 10), none, none, some (.iload_n 2), some (.iload_n 3), some (.invokevirtual 65), none, none, some (.ifCond .eq 11), none, none, some (.iload 4), none, some (.invokestatic 98), none, none, some (.ifCond .ne 5), none, none, some (.iconst (-1)), some (.ireturn), some (.aload_n 0), some (.getfield 21), none, none, some (.iload_n 2), some (.iload_n 3), some (.iload 4), none, some (.iconst (-1)), some (.invokevirtual 114), none, none, some (.iconst (-1)), some (.if_icmp .ne 6), none, none, some (.bipush (-2)), none, some (.ireturn), some (.aload_n 0), some (.getfield 53), none, none, some (.new 204), none, none, some (.dup), some (.iload_n 1), some (.iload_n 2), some (.iload_n 3), some (.iload 4), none, some (.invokespecial 206), none, none, some (.invokevirtual 209), none, none, some (.ireturn)]
def ai_t100 : List (Option Instr) := [some (.aload_n 0), some (.getfield 28), none, none, some (.iload_n 1), some (.invokevirtual 133), none, none, some (.astore 4), none, some (.aload 4), none, some (.ifnull 13), none, none, some (.iload_n 2), some (.iconst 0), some (.bipush 99), none, some (.invokestatic 57), none, none, some (.ifCond .ne 7), none, none, some (.sipush (-1000)), none, none, some (.ireturn), some (.aload 4), none, some (.invokevirtual 159), none, none, some (.istore 5), none, some (.iload_n 3), some (.bipush 9), none, some (.if_icmp .ne 45), none, none, some (.iload 5), none, some (.invokestatic 165), none, none, some (.iconst 1), some (.isub), some (.istore 6), none, some (.aload_n 0), some (.getfield 10), none, none, some (.aload 4), none, some (.iload_n 2), some (.iload 6), none, some (.invokevirtual 212), none, none, some (.aload_n 0), some (.getfield 10), none, none, some (.iload 5), none, some (.iload 6), none, some (.invokestatic 107), none, none, some (.aload 4), none, some (.getfield 216), none, none, some (.invokevirtual 219), none, none, some (.iadd), some (.ireturn), some (.iload 5), none, some (.iload_n 3), some (.invokestatic 168), none, none, some (.ifCond .eq 17), none, none, some (.aload_n 0), some (.getfield 10), none, none, some (.aload 4), none, some (.iload_n 2), some (.iload_n 3), some (.invokevirtual 212), none, none, some (.goto 6), none, none, some (.sipush (-1000)), none, none, some (.ireturn)]
def ai_t101 : List (Option Instr) := [some (.aload_n 0), some (.getfield 28), none, none, some (.iload_n 1), some (.invokevirtual 133), none, none, some (.astore 4), none, some (.aload 4), none, some (.ifnull 13), none, none, some (.iload_n 2), some (.iconst 0), some (.bipush 99), none, some (.invokestatic 57), none, none, some (.ifCond .ne 7), none, none, some (.sipush (-1000)), none, none, some (.ireturn), some (.aload 4), none, some (.invokevirtual 159), none, none, some (.istore 5), none, some (.iload_n 3), some (.iconst 1), some (.if_icmp .lt 12), none, none, some (.iload 5), none, some (.iload_n 3), some (.invokestatic 168), none, none, some (.ifCond .ne 7), none, none, some (.sipush (-1000)), none, none, some (.ireturn), some (.iload 5), none, some (.iload_n 3), some (.iconst 1), some (.isub), some (.invokestatic 107), none, none, some (.istore 6), none, some (.aload_n 0), some (.getfield 10), none, none, some (.aload 4), none, some (.iload_n 2), some (.iload_n 3), some (.iconst 1), some (.isub), some (.invokevirtual 212), none, none, some (.aload_n 0), some (.getfield 10), none, none, some (.iload 6), none, some (.aload 4), none, some (.getfield 216), none, none, some (.invokevirtual 219), none, none, some (.iadd), some (.istore 7), none, some (.aload_n 0), some (.getfield 10), none, none, some (.aload 4), none, some (.iload_n 2), some (.iload_n 3), some (.invokevirtual 212), none, none, some (.iload 7), none, some (.isub), some (.aload_n 0), some (.getfield 10), none, none, some (.iload 6), none, some (.invokevirtual 222), none, none, some (.isub), some (.ireturn)]
def ai_t102 : List (Option Instr) := [some (.aload_n 0), some (.getfield 53), none, none, some (.invokevirtual 225), none, none, some (.aload_n 0), some (.getfield 53), none, none, some (.iload_n 1), some (.invokevirtual 228), none, none, some (.astore_n 3), some (.aload_n 3), some (.ifnonnull 5), none, none, some (.iconst (-1)), some (.ireturn), some (.iload_n 2), some (.ifCond .ne 11), none, none, some (.aload_n 3), some (.getfield 232), none, none, some (.invokestatic 165), none, none, some (.ireturn), some (.iload_n 2), some (.iconst 1), some (.if_icmp .ne 11), none, none, some (.aload_n 3), some (.getfield 235), none, none, some (.invokestatic 238), none, none, some (.ireturn), some (.iload_n 2), some (.bipush 10), none, some (.bipush 13), none, some (.invokestatic 57), none, none, some (.ifCond .eq 15), none, none, some (.aload_n 3), some (.getfield 232), none, none, some (.iload_n 2), some (.bipush 10), none, some (.isub), some (.invokestatic 107), none, none, some (.ireturn), some (.aload_n 3), some (.getfield 232), none, none, some (.iload_n 2), some (.bipush 20), none, some (.isub), some (.invokestatic 168), none, none, some (.ifCond .eq 16), none, none, some (.aload_n 3), some (.getfield 241), none, none, some (.iload_n 2), some (.bipush 20), none, some (.isub), some (.iaload), some (.invokestatic 238), none, none, some (.ireturn), some (.aload_n 3), some (.getfield 232), none, none, some (.iload_n 2), some (.bipush 30), none, some (.isub), some (.invokestatic 168), none, none, some (.ifCond .eq 18), none, none, some (.aload_n 3), some (.getfield 244), none, none, some (.iload_n 2), some (.bipush 30), none, some (.isub), some (.iaload), some (.invokestatic 238), none, none, some (.goto 4), none, none, some (.iconst (-1)), some (.ireturn)]
def ai_t103 : List (Option Instr) := [some (.aload_n 0), some (.getfield 10), none, none, some (.iload_n 1), some (.invokevirtual 178), none, none, some (.ifCond .ne 5), none, none, some (.iconst (-1)), some (.ireturn), some (.aload_n 0), some (.getfield 53), none, none, some (.invokevirtual 225), none, none, some (.aload_n 0), some (.getfield 53), none, none, some (.iload_n 1), some (.invokevirtual 247), none, none, some (.ireturn)]
def ai_t104 : List (Option Instr) := [some (.iload_n 1), some (.tableswitch 121 0 7 #[47, 55, 63, 71, 79, 87, 98, 106]), none, none, none, none, none, none, none, none, none, none, none, none, none, none, none, none, none, none, none, none, none, none, none, none, none, none, none, none, none, none, none, none, none, none, none, none, none, none, none, none, none, none, none, none, none, none, some (.aload_n 0), some (.getfield 10), none, none, some (.getfield 250), none, none, some (.ireturn), some (.aload_n 0), some (.getfield 10), none, none, some (.getfield 253), none, none, some (.ireturn), some (.aload_n 0), some (.getfield 10), none, none, some (.getfield 82), none, none, some (.ireturn), some (.aload_n 0), some (.getfield 10), none, none, some (.getfield 85), none, none, some (.ireturn), some (.aload_n 0), some (.getfield 28), none, none, some (.getfield 69), none, none, some (.ireturn), some (.aload_n 0), some (.getfield 28), none, none, some (.invokevirtual 256), none, none, some (.invokestatic 259), none, none, some (.ireturn), some (.aload_n 0), some (.getfield 53), none, none, some (.getfield 73), none, none, some (.ireturn), some (.aload_n 0), some (.getfield 53), none, none, some (.invokevirtual 225), none, none, some (.aload_n 0), some (.getfield 53), none, none, some (.invokevirtual 264), none, none, some (.ireturn), some (.iconst (-1)), some (.ireturn)]
def ai_t105 : List (Option Instr) := [some (.aload_n 0), some (.getfield 21), none, none, some (.iload_n 2), some (.iload_n 3), some (.aload_n 1), some (.getfield 216), none, none, some (.iconst (-1)), some (.invokevirtual 114), none, none, some (.istore 5), none, some (.iconst 0), some (.istore 6), none, some (.iload 6), none, some (.iconst 3), some (.if_icmp .ge 42), none, none, some (.iload 5), none, some (.iload 4), none, some (.invokestatic 117), none, none, some (.ifCond .eq 32), none, none, some (.aload_n 1), some (.iload 5), none, some (.invokevirtual 267), none, none, some (.aload_n 0), some (.getfield 21), none, none, some (.iload_n 2), some (.iload_n 3), some (.aload_n 1), some (.getfield 216), none, none, some (.iload 5), none, some (.invokevirtual 114), none, none, some (.istore 5), none, some (.iinc 6 1), none, none, some (.goto (-42)), none, none, some (.return_)]
def ai_t106 : List (Option Instr) := [some (.iload_n 1), some (.iconst 2), some (.if_icmp .lt 19), none, none, some (.aload_n 0), some (.getfield 10), none, none, some (.getfield 82), none, none, some (.iload_n 1), some (.irem), some (.ifCond .ne 7), none, none, some (.iconst 1), some (.goto 4), none, none, some (.iconst 0), some (.ireturn)]
def ai_t107 : List (Option Instr) := [some (.iload_n 0), some (.iconst (-1)), some (.if_icmp .eq 15), none, none, some (.iload_n 0), some (.invokestatic 104), none, none, some (.iload_n 1), some (.if_icmp .gt 7), none, none, some (.iconst 1), some (.goto 4), none, none, some (.iconst 0), some (.ireturn)]
def ai_t108 : List (Option Instr) := [some (.getstatic 271), none, none, some (.astore_n 1), some (.aload_n 1), some (.arraylength), some (.istore_n 2), some (.iconst 0), some (.istore_n 3), some (.iload_n 3), some (.iload_n 2), some (.if_icmp .ge 22), none, none, some (.aload_n 1), some (.iload_n 3), some (.iaload), some (.istore 4), none, some (.iload 4), none, some (.iload_n 0), some (.if_icmp .ne 5), none, none, some (.iconst 1), some (.ireturn), some (.iinc 3 1), none, none, some (.goto (-21)), none, none, some (.iconst 0), some (.ireturn)]
def ai_t109 : List (Option Instr) := [some (.iload_n 0), some (.iconst 1), some (.bipush 8), none, some (.invokestatic 57), none, none, some (.ireturn)]
def ai_t110 : List (Option Instr) := [some (.iload_n 0), some (.iload_n 1), some (.if_icmp .lt 12), none, none, some (.iload_n 0), some (.iload_n 2), some (.if_icmp .gt 7), none, none, some (.iconst 1), some (.goto 4), none, none, some (.iconst 0), some (.ireturn)]
def ai_t111 : List (Option Instr) := [some (.iload_n 0), some (.sipush 3000), none, none, some (.if_icmp .ge 7), none, none, some (.iload_n 0), some (.goto 5), none, none, some (.bipush (-3)), none, some (.ireturn)]
def ai_t112 : List (Option Instr) := [some (.aload_n 0), some (.invokespecial 1), none, none, some (.aload_n 0), some (.bipush 6), none, some (.newarray .int), none, some (.putfield 7), none, none, some (.aload_n 0), some (.bipush 6), none, some (.newarray .int), none, some (.putfield 13), none, none, some (.aload_n 0), some (.bipush 12), none, some (.newarray .int), none, some (.putfield 16), none, none, some (.aload_n 0), some (.bipush 12), none, some (.newarray .int), none, some (.putfield 19), none, none, some (.aload_n 0), some (.bipush 12), none, some (.newarray .int), none, some (.putfield 22), none, none, some (.aload_n 0), some (.bipush 12), none, some (.newarray .int), none, some (.putfield 25), none, none, some (.aload_n 0), some (.bipush 12), none, some (.putfield 28), none, none, some (.aload_n 0), some (.bipush 8), none, some (.newarray .int), none, some (.putfield 32), none, none, some (.aload_n 0), some (.bipush 8), none, some (.newarray .int), none, some (.putfield 35), none, none, some (.aload_n 0), some (.bipush 8), none, some (.newarray .int), none, some (.putfield 38), none, none, some (.aload_n 0), some (.bipush 24), none, some (.newarray .int), none, some (.putfield 41), none, none, some (.aload_n 0), some (.bipush 96), none, some (.newarray .int), none, some (.putfield 44), none, none, some (.aload_n 0), some (.bipush 24), none, some (.newarray .int), none, some (.putfield 47), none, none, some (.aload_n 0), some (.bipush 8), none, some (.newarray .boolean), none, some (.putfield 50), none, none, some (.aload_n 0), some (.bipush 8), none, some (.newarray .int), none, some (.putfield 54), none, none, some (.aload_n 0), some (.bipush 8), none, some (.newarray .int), none, some (.putfield 57), none, none, some (.aload_n 0), some (.sipush 1440), none, none, some (.newarray .int), none, some (.putfield 60), none, none, some (.aload_n 0), some (.bipush 60), none, some (.newarray .int), none, some (.putfield 63), none, none, some (.aload_n 0), some (.bipush 60), none, some (.newarray .int), none, some (.putfield 66), none, none, some (.aload_n 0), some (.bipush 60), none, some (.newarray .int), none, some (.putfield 69), none, none, some (.aload_n 0), some (.sipush 240), none, none, some (.newarray .int), none, some (.putfield 72), none, none, some (.aload_n 0), some (.sipush 512), none, none, some (.newarray .int), none, some (.putfield 75), none, none, some (.aload_n 0), some (.sipush 2048), none, none, some (.newarray .int), none, some (.putfield 78), none, none, some (.aload_n 0), some (.sipush 512), none, none, some (.newarray .int), none, some (.putfield 81), none, none, some (.aload_n 0), some (.iconst 5), some (.newarray .int), none, some (.putfield 84), none, none, some (.aload_n 0), some (.bipush 8), none, some (.newarray .int), none, some (.putfield 87), none, none, some (.aload_n 0), some (.bipush 9), none, some (.newarray .int), none, some (.putfield 90), none, none, some (.aload_n 0), some (.iconst 1), some (.putfield 93), none, none, some (.aload_n 0), some (.sipush 240), none, none, some (.newarray .int), none, some (.putfield 97), none, none, some (.aload_n 0), some (.sipush 240), none, none, some (.newarray .int), none, some (.putfield 100), none, none, some (.aload_n 0), some (.bipush 60), none, some (.newarray .int), none, some (.putfield 103), none, none, some (.aload_n 0), some (.bipush 60), none, some (.newarray .int), none, some (.putfield 106), none, none, some (.aload_n 0), some (.bipush 12), none, some (.newarray .int), none, some (.putfield 109), none, none, some (.aload_n 0), some (.bipush 12), none, some (.newarray .int), none, some (.putfield 112), none, none, some (.return_)]
def ai_t113 : List (Option Instr) := [some (.iload_n 1), some (.ifCond .lt 15), none, none, some (.iload_n 1), some (.aload_n 0), some (.getfield 115), none, none, some (.if_icmp .ge 7), none, none, some (.iconst 1), some (.goto 4), none, none, some (.iconst 0), some (.ireturn)]
def ai_t114 : List (Option Instr) := [some (.iload_n 1), some (.ifCond .lt 15), none, none, some (.iload_n 1), some (.aload_n 0), some (.getfield 118), none, none, some (.if_icmp .ge 7), none, none, some (.iconst 1), some (.goto 4), none, none, some (.iconst 0), some (.ireturn)]
def ai_t115 : List (Option Instr) := [some (.aload_n 0), some (.getfield 115), none, none, some (.bipush 6), none, some (.if_icmp .eq 12), none, none, some (.iload_n 1), some (.ifCond .lt 8), none, none, some (.iload_n 1), some (.iconst 5), some (.if_icmp .le 5), none, none, some (.iconst (-1)), some (.ireturn), some (.aload_n 0), some (.getfield 7), none, none, some (.aload_n 0), some (.getfield 115), none, none, some (.iload_n 1), some (.iastore), some (.aload_n 0), some (.dup), some (.getfield 115), none, none, some (.iconst 1), some (.iadd), some (.putfield 115), none, none, some (.aload_n 0), some (.iconst 1), some (.putfield 93), none, none, some (.aload_n 0), some (.getfield 115), none, none, some (.iconst 1), some (.isub), some (.ireturn)]
def ai_t116 : List (Option Instr) := [some (.aload_n 0), some (.getfield 118), none, none, some (.bipush 12), none, some (.if_icmp .eq 60), none, none, some (.aload_n 0), some (.iload_n 1), some (.invokevirtual 121), none, none, some (.ifCond .eq 52), none, none, some (.aload_n 0), some (.iload_n 2), some (.invokevirtual 121), none, none, some (.ifCond .eq 44), none, none, some (.iload_n 1), some (.iload_n 2), some (.if_icmp .eq 39), none, none, some (.iload_n 3), some (.ifCond .lt 35), none, none, some (.iload_n 3), some (.bipush 9), none, some (.if_icmp .gt 29), none, none, some (.iload 4), none, some (.iconst 1), some (.if_icmp .lt 23), none, none, some (.iload 4), none, some (.iconst 3), some (.if_icmp .gt 17), none, none, some (.aload_n 0), some (.getfield 125), none, none, some (.ifCond .gt 10), none, none, some (.aload_n 0), some (.getfield 128), none, none, some (.ifCond .le 5), none, none, some (.iconst (-1)), some (.ireturn), some (.aload_n 0), some (.getfield 16), none, none, some (.aload_n 0), some (.getfield 118), none, none, some (.iload_n 1), some (.iastore), some (.aload_n 0), some (.getfield 19), none, none, some (.aload_n 0), some (.getfield 118), none, none, some (.iload_n 2), some (.iastore), some (.aload_n 0), some (.getfield 22), none, none, some (.aload_n 0), some (.getfield 118), none, none, some (.iload_n 3), some (.iastore), some (.aload_n 0), some (.getfield 25), none, none, some (.aload_n 0), some (.getfield 118), none, none, some (.iload 4), none, some (.iastore), some (.aload_n 0), some (.dup), some (.getfield 118), none, none, some (.iconst 1), some (.iadd), some (.putfield 118), none, none, some (.aload_n 0), some (.getfield 118), none, none, some (.iconst 1), some (.isub), some (.ireturn)]
def ai_t117 : List (Option Instr) := [some (.aload_n 0), some (.getfield 125), none, none, some (.ifCond .gt 33), none, none, some (.iload_n 1), some (.bipush 12), none, some (.if_icmp .eq 29), none, none, some (.iload_n 1), some (.bipush 24), none, some (.if_icmp .eq 23), none, none, some (.iload_n 1), some (.bipush 48), none, some (.if_icmp .eq 17), none, none, some (.iload_n 1), some (.bipush 60), none, some (.if_icmp .eq 11), none, none, some (.iload_n 1), some (.bipush 120), none, some (.if_icmp .eq 5), none, none, some (.iconst 0), some (.ireturn), some (.aload_n 0), some (.iload_n 1), some (.putfield 28), none, none, some (.aload_n 0), some (.iconst 1), some (.putfield 93), none, none, some (.iconst 1), some (.ireturn)]
def ai_t118 : List (Option Instr) := [some (.aload_n 0), some (.getfield 125), none, none, some (.ifCond .gt 12), none, none, some (.iload_n 1), some (.ifCond .lt 8), none, none, some (.iload_n 1), some (.iconst 3), some (.if_icmp .le 5), none, none, some (.iconst 0), some (.ireturn), some (.aload_n 0), some (.iload_n 1), some (.putfield 131), none, none, some (.iconst 0), some (.istore_n 2), some (.iload_n 2), some (.bipush 6), none, some (.if_icmp .ge 16), none, none, some (.aload_n 0), some (.getfield 13), none, none, some (.iload_n 2), some (.iconst 0), some (.iastore), some (.iinc 2 1), none, none, some (.goto (-16)), none, none, some (.aload_n 0), some (.iconst 1), some (.putfield 93), none, none, some (.iconst 1), some (.ireturn)]
def ai_t119 : List (Option Instr) := [some (.iconst 0), some (.istore 5), none, some (.iconst 0), some (.istore 6), none, some (.iload 6), none, some (.iload_n 3), some (.if_icmp .ge 72), none, none, some (.aload_n 1), some (.iload_n 2), some (.iload 6), none, some (.iadd), some (.iaload), some (.istore 7), none, some (.iload 5), none, some (.iload 4), none, some (.aload_n 0), some (.getfield 25), none, none, some (.iload 7), none, some (.iaload), some (.imul), some (.aload_n 0), some (.getfield 22), none, none, some (.iload 7), none, some (.iaload), some (.iadd), some (.iadd), some (.istore 5), none, some (.iload 6), none, some (.iload_n 3), some (.iconst 1), some (.isub), some (.if_icmp .ge 27), none, none, some (.iload 5), none, some (.aload_n 0), some (.getfield 7), none, none, some (.aload_n 0), some (.getfield 19), none, none, some (.iload 7), none, some (.iaload), some (.iaload), some (.iconst 2), some (.aload_n 0), some (.getfield 131), none, none, some (.imul), some (.iadd), some (.iadd), some (.istore 5), none, some (.iinc 6 1), none, none, some (.goto (-72)), none, none, some (.iload 5), none, some (.ireturn)]
def ai_t120 : List (Option Instr) := [some (.iload_n 3), some (.iload_n 1), some (.if_icmp .ne 5), none, none, some (.iconst 1), some (.ireturn), some (.iconst 0), some (.istore 4), none, some (.iload 4), none, some (.iload_n 2), some (.if_icmp .ge 27), none, none, some (.aload_n 0), some (.getfield 19), none, none, some (.aload_n 0), some (.getfield 84), none, none, some (.iload 4), none, some (.iaload), some (.iaload), some (.iload_n 3), some (.if_icmp .ne 5), none, none, some (.iconst 1), some (.ireturn), some (.iinc 4 1), none, none, some (.goto (-27)), none, none, some (.iconst 0), some (.ireturn)]
def ai_t121 : List (Option Instr) := [some (.aload_n 0), some (.iconst 0), some (.putfield 134), none, none, some (.iconst 0), some (.istore 4), none, some (.aload_n 0), some (.getfield 84), none, none, some (.iconst 0), some (.iconst 0), some (.iastore), some (.iload 4), none, some (.ifCond .lt 179), none, none, some (.aload_n 0), some (.getfield 84), none, none, some (.iload 4), none, some (.iaload), some (.istore 5), none, some (.iload 4), none, some (.ifCond .ne 7), none, none, some (.iload_n 1), some (.goto 17), none, none, some (.aload_n 0), some (.getfield 19), none, none, some (.aload_n 0), some (.getfield 84), none, none, some (.iload 4), none, some (.iconst 1), some (.isub), some (.iaload), some (.iaload), some (.istore 6), none, some (.iload 5), none, some (.aload_n 0), some (.getfield 118), none, none, some (.if_icmp .lt 25), none, none, some (.iinc 4 (-1)), none, none, some (.iload 4), none, some (.ifCond .lt 125), none, none, some (.aload_n 0), some (.getfield 84), none, none, some (.iload 4), none, some (.dup2), some (.iaload), some (.iconst 1), some (.iadd), some (.iastore), some (.goto 111), none, none, some (.aload_n 0), some (.getfield 16), none, none, some (.iload 5), none, some (.iaload), some (.iload 6), none, some (.if_icmp .ne 20), none, none, some (.aload_n 0), some (.iload_n 1), some (.iload 4), none, some (.aload_n 0), some (.getfield 19), none, none, some (.iload 5), none, some (.iaload), some (.invokevirtual 137), none, none, some (.ifCond .eq 17), none, none, some (.aload_n 0), some (.getfield 84), none, none, some (.iload 4), none, some (.dup2), some (.iaload), some (.iconst 1), some (.iadd), some (.iastore), some (.goto 68), none, none, some (.aload_n 0), some (.getfield 19), none, none, some (.iload 5), none, some (.iaload), some (.iload_n 2), some (.if_icmp .ne 26), none, none, some (.aload_n 0), some (.iload 4), none, some (.iconst 1), some (.iadd), some (.iload_n 3), some (.invokevirtual 141), none, none, some (.aload_n 0), some (.getfield 84), none, none, some (.iload 4), none, some (.dup2), some (.iaload), some (.iconst 1), some (.iadd), some (.iastore), some (.goto 34), none, none, some (.iload 4), none, some (.iconst 3), some (.if_icmp .ge 17), none, none, some (.iinc 4 1), none, none, some (.aload_n 0), some (.getfield 84), none, none, some (.iload 4), none, some (.iconst 0), some (.iastore), some (.goto 14), none, none, some (.aload_n 0), some (.getfield 84), none, none, some (.iload 4), none, some (.dup2), some (.iaload), some (.iconst 1), some (.iadd), some (.iastore), some (.goto (-178)), none, none, some (.return_)]
def ai_t122 : List (Option Instr) := [some (.aload_n 0), some (.aload_n 0), some (.getfield 84), none, none, some (.iconst 0), some (.iload_n 1), some (.iload_n 2), some (.invokevirtual 145), none, none, some (.istore_n 3), some (.aload_n 0), some (.getfield 134), none, none, some (.istore 4), none, some (.iload 4), none, some (.ifCond .le 7), none, none, some (.iconst 1), some (.goto 4), none, none, some (.iconst 0), some (.istore 5), none, some (.iload 5), none, some (.ifCond .eq 111), none, none, some (.aload_n 0), some (.iload 4), none, some (.iconst 1), some (.isub), some (.iload_n 3), some (.iload_n 1), some (.invokevirtual 149), none, none, some (.istore 5), none, some (.iload 5), none, some (.ifCond .eq (-19)), none, none, some (.aload_n 0), some (.getfield 75), none, none, some (.iload 4), none, some (.aload_n 0), some (.getfield 75), none, none, some (.iload 4), none, some (.iconst 1), some (.isub), some (.iaload), some (.iastore), some (.aload_n 0), some (.getfield 81), none, none, some (.iload 4), none, some (.aload_n 0), some (.getfield 81), none, none, some (.iload 4), none, some (.iconst 1), some (.isub), some (.iaload), some (.iastore), some (.iconst 0), some (.istore 6), none, some (.iload 6), none, some (.iconst 4), some (.if_icmp .ge 35), none, none, some (.aload_n 0), some (.getfield 78), none, none, some (.iconst 4), some (.iload 4), none, some (.imul), some (.iload 6), none, some (.iadd), some (.aload_n 0), some (.getfield 78), none, none, some (.iconst 4), some (.iload 4), none, some (.iconst 1), some (.isub), some (.imul), some (.iload 6), none, some (.iadd), some (.iaload), some (.iastore), some (.iinc 6 1), none, none, some (.goto (-35)), none, none, some (.iinc 4 (-1)), none, none, some (.iload 4), none, some (.ifCond .le 7), none, none, some (.iconst 1), some (.goto 4), none, none, some (.iconst 0), some (.istore 5), none, some (.goto (-110)), none, none, some (.aload_n 0), some (.getfield 75), none, none, some (.iload 4), none, some (.iload_n 1), some (.iastore), some (.aload_n 0), some (.getfield 81), none, none, some (.iload 4), none, some (.iload_n 3), some (.iastore), some (.iconst 0), some (.istore 6), none, some (.iload 6), none, some (.iload_n 1), some (.if_icmp .ge 28), none, none, some (.aload_n 0), some (.getfield 78), none, none, some (.iconst 4), some (.iload 4), none, some (.imul), some (.iload 6), none, some (.iadd), some (.aload_n 0), some (.getfield 84), none, none, some (.iload 6), none, some (.iaload), some (.iastore), some (.iinc 6 1), none, none, some (.goto (-28)), none, none, some (.aload_n 0), some (.dup), some (.getfield 134), none, none, some (.iconst 1), some (.iadd), some (.putfield 134), none, none, some (.return_)]
def ai_t123 : List (Option Instr) := [some (.aload_n 0), some (.getfield 81), none, none, some (.iload_n 1), some (.iaload), some (.iload_n 2), some (.if_icmp .eq 19), none, none, some (.aload_n 0), some (.getfield 81), none, none, some (.iload_n 1), some (.iaload), some (.iload_n 2), some (.if_icmp .le 7), none, none, some (.iconst 1), some (.goto 4), none, none, some (.iconst 0), some (.ireturn), some (.iconst 0), some (.istore 4), none, some (.iload 4), none, some (.iload_n 3), some (.if_icmp .ge 68), none, none, some (.iload 4), none, some (.aload_n 0), some (.getfield 75), none, none, some (.iload_n 1), some (.iaload), some (.if_icmp .ge 57), none, none, some (.aload_n 0), some (.getfield 78), none, none, some (.iconst 4), some (.iload_n 1), some (.imul), some (.iload 4), none, some (.iadd), some (.iaload), some (.aload_n 0), some (.getfield 84), none, none, some (.iload 4), none, some (.iaload), some (.if_icmp .eq 30), none, none, some (.aload_n 0), some (.getfield 78), none, none, some (.iconst 4), some (.iload_n 1), some (.imul), some (.iload 4), none, some (.iadd), some (.iaload), some (.aload_n 0), some (.getfield 84), none, none, some (.iload 4), none, some (.iaload), some (.if_icmp .le 7), none, none, some (.iconst 1), some (.goto 4), none, none, some (.iconst 0), some (.ireturn), some (.iinc 4 1), none, none, some (.goto (-68)), none, none, some (.aload_n 0), some (.getfield 75), none, none, some (.iload_n 1), some (.iaload), some (.iload_n 3), some (.if_icmp .le 7), none, none, some (.iconst 1), some (.goto 4), none, none, some (.iconst 0), some (.ireturn)]
def ai_t124 : List (Option Instr) := [some (.iload_n 0), some (.iconst 1), some (.if_icmp .lt 13), none, none, some (.iload_n 0), some (.bipush 8), none, some (.if_icmp .gt 7), none, none, some (.iconst 1), some (.goto 4), none, none, some (.iconst 0), some (.ireturn)]
def ai_t125 : List (Option Instr) := [some (.aload_n 0), some (.iload_n 1), some (.invokevirtual 121), none, none, some (.ifCond .eq 34), none, none, some (.aload_n 0), some (.iload_n 2), some (.invokevirtual 121), none, none, some (.ifCond .eq 26), none, none, some (.iload_n 3), some (.invokestatic 152), none, none, some (.ifCond .eq 19), none, none, some (.iload 4), none, some (.ifCond .lt 14), none, none, some (.iload 5), none, some (.ifCond .lt 9), none, none, some (.iload 5), none, some (.iconst 4), some (.if_icmp .le 5), none, none, some (.iconst (-1)), some (.ireturn), some (.aload_n 0), some (.iload_n 1), some (.iload_n 2), some (.iload_n 3), some (.invokevirtual 155), none, none, some (.iload 4), none, some (.aload_n 0), some (.getfield 134), none, none, some (.if_icmp .lt 5), none, none, some (.iconst (-1)), some (.ireturn), some (.iload 5), none, some (.iconst 4), some (.if_icmp .ne 13), none, none, some (.aload_n 0), some (.getfield 81), none, none, some (.iload 4), none, some (.iaload), some (.goto 31), none, none, some (.iload 5), none, some (.aload_n 0), some (.getfield 75), none, none, some (.iload 4), none, some (.iaload), some (.if_icmp .ge 18), none, none, some (.aload_n 0), some (.getfield 78), none, none, some (.iconst 4), some (.iload 4), none, some (.imul), some (.iload 5), none, some (.iadd), some (.iaload), some (.goto 4), none, none, some (.iconst (-1)), some (.ireturn)]
def ai_t126 : List (Option Instr) := [some (.aload_n 0), some (.getfield 125), none, none, some (.bipush 8), none, some (.if_icmp .eq 70), none, none, some (.aload_n 0), some (.iload_n 1), some (.invokevirtual 121), none, none, some (.ifCond .eq 62), none, none, some (.aload_n 0), some (.iload_n 2), some (.invokevirtual 121), none, none, some (.ifCond .eq 54), none, none, some (.iload_n 1), some (.iload_n 2), some (.if_icmp .eq 49), none, none, some (.iload_n 3), some (.invokestatic 152), none, none, some (.ifCond .eq 42), none, none, some (.iload 4), none, some (.iconst 2), some (.if_icmp .lt 36), none, none, some (.iload 4), none, some (.aload_n 0), some (.getfield 28), none, none, some (.if_icmp .gt 27), none, none, some (.aload_n 0), some (.getfield 28), none, none, some (.iload 4), none, some (.irem), some (.ifCond .ne 17), none, none, some (.iload 5), none, some (.iconst 1), some (.if_icmp .lt 11), none, none, some (.iload 5), none, some (.sipush 200), none, none, some (.if_icmp .le 5), none, none, some (.iconst (-1)), some (.ireturn), some (.aload_n 0), some (.iload_n 1), some (.iload_n 2), some (.iload_n 3), some (.invokevirtual 155), none, none, some (.iconst 0), some (.istore 6), none, some (.iload 6), none, some (.iconst 3), some (.if_icmp .ge 114), none, none, some (.iload 6), none, some (.aload_n 0), some (.getfield 134), none, none, some (.if_icmp .ge 105), none, none, some (.aload_n 0), some (.getfield 81), none, none, some (.iload 6), none, some (.iaload), some (.iload 5), none, some (.if_icmp .gt 93), none, none, some (.iconst 3), some (.aload_n 0), some (.getfield 125), none, none, some (.imul), some (.iload 6), none, some (.iadd), some (.istore 7), none, some (.aload_n 0), some (.getfield 41), none, none, some (.iload 7), none, some (.aload_n 0), some (.getfield 75), none, none, some (.iload 6), none, some (.iaload), some (.iastore), some (.aload_n 0), some (.getfield 47), none, none, some (.iload 7), none, some (.aload_n 0), some (.getfield 81), none, none, some (.iload 6), none, some (.iaload), some (.iastore), some (.iconst 0), some (.istore 8), none, some (.iload 8), none, some (.aload_n 0), some (.getfield 75), none, none, some (.iload 6), none, some (.iaload), some (.if_icmp .ge 33), none, none, some (.aload_n 0), some (.getfield 44), none, none, some (.iconst 4), some (.iload 7), none, some (.imul), some (.iload 8), none, some (.iadd), some (.aload_n 0), some (.getfield 78), none, none, some (.iconst 4), some (.iload 6), none, some (.imul), some (.iload 8), none, some (.iadd), some (.iaload), some (.iastore), some (.iinc 8 1), none, none, some (.goto (-39)), none, none, some (.iinc 6 1), none, none, some (.goto (-114)), none, none, some (.iload 6), none, some (.ifCond .ne 6), none, none, some (.bipush (-2)), none, some (.ireturn), some (.aload_n 0), some (.getfield 32), none, none, some (.aload_n 0), some (.getfield 125), none, none, some (.iload_n 3), some (.iastore), some (.aload_n 0), some (.getfield 35), none, none, some (.aload_n 0), some (.getfield 125), none, none, some (.iload 4), none, some (.iastore), some (.aload_n 0), some (.getfield 38), none, none, some (.aload_n 0), some (.getfield 125), none, none, some (.iload 6), none, some (.iastore), some (.aload_n 0), some (.getfield 50), none, none, some (.aload_n 0), some (.getfield 125), none, none, some (.iconst 0), some (.bastore), some (.aload_n 0), some (.dup), some (.getfield 125), none, none, some (.iconst 1), some (.iadd), some (.putfield 125), none, none, some (.aload_n 0), some (.getfield 125), none, none, some (.iconst 1), some (.isub), some (.ireturn)]
def ai_t127 : List (Option Instr) := [some (.iload_n 1), some (.ifCond .lt 20), none, none, some (.iload_n 1), some (.aload_n 0), some (.getfield 125), none, none, some (.if_icmp .ge 12), none, none, some (.aload_n 0), some (.getfield 50), none, none, some (.iload_n 1), some (.baload), some (.ifCond .ne 5), none, none, some (.iconst 0), some (.ireturn), some (.aload_n 0), some (.getfield 50), none, none, some (.iload_n 1), some (.iconst 0), some (.bastore), some (.aload_n 0), some (.invokevirtual 159), none, none, some (.iconst 1), some (.ireturn)]
def ai_t128 : List (Option Instr) := [some (.iload_n 3), some (.istore 5), none, some (.iconst 0), some (.istore 6), none, some (.iload 6), none, some (.iload 4), none, some (.if_icmp .ge 73), none, none, some (.aload_n 0), some (.getfield 44), none, none, some (.iconst 4), some (.iconst 3), some (.iload_n 1), some (.imul), some (.iload_n 2), some (.iadd), some (.imul), some (.iload 6), none, some (.iadd), some (.iaload), some (.istore 7), none, some (.iload 5), none, some (.aload_n 0), some (.getfield 32), none, none, some (.iload_n 1), some (.iaload), some (.aload_n 0), some (.getfield 25), none, none, some (.iload 7), none, some (.iaload), some (.imul), some (.aload_n 0), some (.getfield 22), none, none, some (.iload 7), none, some (.iaload), some (.iadd), some (.aload_n 0), some (.getfield 7), none, none, some (.aload_n 0), some (.getfield 19), none, none, some (.iload 7), none, some (.iaload), some (.iaload), some (.iadd), some (.iconst 2), some (.aload_n 0), some (.getfield 131), none, none, some (.imul), some (.iadd), some (.iadd), some (.istore 5), none, some (.iinc 6 1), none, none, some (.goto (-74)), none, none, some (.iload 5), none, some (.ireturn)]
def ai_t129 : List (Option Instr) := [some (.iconst 0), some (.istore 4), none, some (.iload 4), none, some (.aload_n 0), some (.getfield 41), none, none, some (.iconst 3), some (.iload_n 1), some (.imul), some (.iload_n 2), some (.iadd), some (.iaload), some (.if_icmp .ge 137), none, none, some (.aload_n 0), some (.getfield 44), none, none, some (.iconst 4), some (.iconst 3), some (.iload_n 1), some (.imul), some (.iload_n 2), some (.iadd), some (.imul), some (.iload 4), none, some (.iadd), some (.iaload), some (.istore 5), none, some (.aload_n 0), some (.getfield 32), none, none, some (.iload_n 1), some (.iaload), some (.aload_n 0), some (.getfield 25), none, none, some (.iload 5), none, some (.iaload), some (.imul), some (.istore 6), none, some (.iload 6), none, some (.aload_n 0), some (.getfield 35), none, none, some (.iload_n 1), some (.iaload), some (.if_icmp .le 5), none, none, some (.iconst 1), some (.ireturn), some (.aload_n 0), some (.iload_n 1), some (.iload_n 2), some (.iload_n 3), some (.iload 4), none, some (.invokevirtual 162), none, none, some (.istore 7), none, some (.iconst 0), some (.istore 8), none, some (.iload 8), none, some (.aload_n 0), some (.getfield 28), none, none, some (.if_icmp .ge 62), none, none, some (.iconst 0), some (.istore 9), none, some (.iload 9), none, some (.iload 6), none, some (.if_icmp .ge 38), none, none, some (.aload_n 0), some (.getfield 60), none, none, some (.bipush 120), none, some (.iload 5), none, some (.imul), some (.iload 7), none, some (.iload 8), none, some (.iadd), some (.iload 9), none, some (.iadd), some (.aload_n 0), some (.getfield 28), none, none, some (.irem), some (.iadd), some (.iaload), some (.ifCond .eq 5), none, none, some (.iconst 1), some (.ireturn), some (.iinc 9 1), none, none, some (.goto (-39)), none, none, some (.iload 8), none, some (.aload_n 0), some (.getfield 35), none, none, some (.iload_n 1), some (.iaload), some (.iadd), some (.istore 8), none, some (.goto (-65)), none, none, some (.iinc 4 1), none, none, some (.goto (-146)), none, none, some (.iconst 0), some (.ireturn)]
def ai_t130 : List (Option Instr) := [some (.iconst 0), some (.istore 5), none, some (.iload 5), none, some (.aload_n 0), some (.getfield 41), none, none, some (.iconst 3), some (.iload_n 1), some (.imul), some (.iload_n 2), some (.iadd), some (.iaload), some (.if_icmp .ge 117), none, none, some (.aload_n 0), some (.getfield 44), none, none, some (.iconst 4), some (.iconst 3), some (.iload_n 1), some (.imul), some (.iload_n 2), some (.iadd), some (.imul), some (.iload 5), none, some (.iadd), some (.iaload), some (.istore 6), none, some (.aload_n 0), some (.iload_n 1), some (.iload_n 2), some (.iload_n 3), some (.iload 5), none, some (.invokevirtual 162), none, none, some (.istore 7), none, some (.iconst 0), some (.istore 8), none, some (.iload 8), none, some (.aload_n 0), some (.getfield 28), none, none, some (.if_icmp .ge 71), none, none, some (.iconst 0), some (.istore 9), none, some (.iload 9), none, some (.aload_n 0), some (.getfield 32), none, none, some (.iload_n 1), some (.iaload), some (.aload_n 0), some (.getfield 25), none, none, some (.iload 6), none, some (.iaload), some (.imul), some (.if_icmp .ge 35), none, none, some (.aload_n 0), some (.getfield 60), none, none, some (.bipush 120), none, some (.iload 6), none, some (.imul), some (.iload 7), none, some (.iload 8), none, some (.iadd), some (.iload 9), none, some (.iadd), some (.aload_n 0), some (.getfield 28), none, none, some (.irem), some (.iadd), some (.iload 4), none, some (.iastore), some (.iinc 9 1), none, none, some (.goto (-48)), none, none, some (.iload 8), none, some (.aload_n 0), some (.getfield 35), none, none, some (.iload_n 1), some (.iaload), some (.iadd), some (.istore 8), none, some (.goto (-74)), none, none, some (.iinc 5 1), none, none, some (.goto (-126)), none, none, some (.return_)]
def ai_t131 : List (Option Instr) := [some (.iconst 0), some (.istore_n 1), some (.iload_n 1), some (.sipush 1440), none, none, some (.if_icmp .ge 16), none, none, some (.aload_n 0), some (.getfield 60), none, none, some (.iload_n 1), some (.iconst 0), some (.iastore), some (.iinc 1 1), none, none, some (.goto (-17)), none, none, some (.iconst 0), some (.istore_n 1), some (.iload_n 1), some (.aload_n 0), some (.getfield 125), none, none, some (.if_icmp .ge 38), none, none, some (.aload_n 0), some (.getfield 50), none, none, some (.iload_n 1), some (.baload), some (.ifCond .eq 23), none, none, some (.aload_n 0), some (.iload_n 1), some (.aload_n 0), some (.getfield 54), none, none, some (.iload_n 1), some (.iaload), some (.aload_n 0), some (.getfield 57), none, none, some (.iload_n 1), some (.iaload), some (.iload_n 1), some (.iconst 1), some (.iadd), some (.invokevirtual 166), none, none, some (.iinc 1 1), none, none, some (.goto (-40)), none, none, some (.aload_n 0), some (.iconst 1), some (.putfield 93), none, none, some (.return_)]
def ai_t132 : List (Option Instr) := [some (.iconst 0), some (.istore_n 1), some (.aload_n 0), some (.getfield 90), none, none, some (.iconst 0), some (.iconst 0), some (.iastore), some (.iload_n 1), some (.aload_n 0), some (.getfield 170), none, none, some (.if_icmp .ge 233), none, none, some (.aload_n 0), some (.getfield 87), none, none, some (.iload_n 1), some (.iaload), some (.istore_n 2), some (.iconst 0), some (.istore_n 3), some (.iload_n 3), some (.ifCond .ne 104), none, none, some (.aload_n 0), some (.getfield 90), none, none, some (.iload_n 1), some (.iaload), some (.aload_n 0), some (.getfield 38), none, none, some (.iload_n 2), some (.iaload), some (.aload_n 0), some (.getfield 35), none, none, some (.iload_n 2), some (.iaload), some (.imul), some (.if_icmp .ge 82), none, none, some (.aload_n 0), some (.getfield 173), none, none, some (.ldc 176), none, some (.if_icmp .ne 6), none, none, some (.bipush (-2)), none, some (.ireturn), some (.aload_n 0), some (.dup), some (.getfield 173), none, none, some (.iconst 1), some (.iadd), some (.putfield 173), none, none, some (.aload_n 0), some (.iload_n 2), some (.aload_n 0), some (.getfield 90), none, none, some (.iload_n 1), some (.iaload), some (.aload_n 0), some (.getfield 35), none, none, some (.iload_n 2), some (.iaload), some (.idiv), some (.aload_n 0), some (.getfield 90), none, none, some (.iload_n 1), some (.iaload), some (.aload_n 0), some (.getfield 35), none, none, some (.iload_n 2), some (.iaload), some (.irem), some (.invokevirtual 177), none, none, some (.ifCond .ne 7), none, none, some (.iconst 1), some (.goto 4), none, none, some (.iconst 0), some (.istore_n 3), some (.iload_n 3), some (.ifCond .ne (-89)), none, none, some (.aload_n 0), some (.getfield 90), none, none, some (.iload_n 1), some (.dup2), some (.iaload), some (.iconst 1), some (.iadd), some (.iastore), some (.goto (-102)), none, none, some (.iload_n 3), some (.ifCond .eq 50), none, none, some (.aload_n 0), some (.iload_n 2), some (.aload_n 0), some (.getfield 90), none, none, some (.iload_n 1), some (.iaload), some (.aload_n 0), some (.getfield 35), none, none, some (.iload_n 2), some (.iaload), some (.idiv), some (.aload_n 0), some (.getfield 90), none, none, some (.iload_n 1), some (.iaload), some (.aload_n 0), some (.getfield 35), none, none, some (.iload_n 2), some (.iaload), some (.irem), some (.iload_n 2), some (.iconst 1), some (.iadd), some (.invokevirtual 166), none, none, some (.iinc 1 1), none, none, some (.aload_n 0), some (.getfield 90), none, none, some (.iload_n 1), some (.iconst 0), some (.iastore), some (.goto 65), none, none, some (.iinc 1 (-1)), none, none, some (.iload_n 1), some (.ifCond .ge 5), none, none, some (.iconst 0), some (.ireturn), some (.aload_n 0), some (.getfield 87), none, none, some (.iload_n 1), some (.iaload), some (.istore 4), none, some (.aload_n 0), some (.iload 4), none, some (.aload_n 0), some (.getfield 90), none, none, some (.iload_n 1), some (.iaload), some (.aload_n 0), some (.getfield 35), none, none, some (.iload 4), none, some (.iaload), some (.idiv), some (.aload_n 0), some (.getfield 90), none, none, some (.iload_n 1), some (.iaload), some (.aload_n 0), some (.getfield 35), none, none, some (.iload 4), none, some (.iaload), some (.irem), some (.iconst 0), some (.invokevirtual 166), none, none, some (.aload_n 0), some (.getfield 90), none, none, some (.iload_n 1), some (.dup2), some (.iaload), some (.iconst 1), some (.iadd), some (.iastore), some (.goto (-235)), none, none, some (.iconst 1), some (.ireturn)]
def ai_t133 : List (Option Instr) := [some (.iconst 0), some (.istore_n 2), some (.iload_n 2), some (.sipush 1440), none, none, some (.if_icmp .ge 16), none, none, some (.aload_n 0), some (.getfield 60), none, none, some (.iload_n 2), some (.iconst 0), some (.iastore), some (.iinc 2 1), none, none, some (.goto (-17)), none, none, some (.aload_n 0), some (.iconst 0), some (.putfield 170), none, none, some (.iconst 0), some (.istore_n 2), some (.iload_n 2), some (.aload_n 0), some (.getfield 125), none, none, some (.if_icmp .ge 70), none, none, some (.aload_n 0), some (.getfield 50), none, none, some (.iload_n 2), some (.baload), some (.ifCond .eq 12), none, none, some (.iload_n 1), some (.iload_n 2), some (.ishr), some (.iconst 1), some (.iand), some (.iconst 1), some (.if_icmp .ne 26), none, none, some (.aload_n 0), some (.getfield 87), none, none, some (.aload_n 0), some (.getfield 170), none, none, some (.iload_n 2), some (.iastore), some (.aload_n 0), some (.dup), some (.getfield 170), none, none, some (.iconst 1), some (.iadd), some (.putfield 170), none, none, some (.goto 23), none, none, some (.aload_n 0), some (.iload_n 2), some (.aload_n 0), some (.getfield 54), none, none, some (.iload_n 2), some (.iaload), some (.aload_n 0), some (.getfield 57), none, none, some (.iload_n 2), some (.iaload), some (.iload_n 2), some (.iconst 1), some (.iadd), some (.invokevirtual 166), none, none, some (.iinc 2 1), none, none, some (.goto (-72)), none, none, some (.aload_n 0), some (.invokevirtual 180), none, none, some (.istore_n 2), some (.iconst 0), some (.istore_n 3), some (.iload_n 3), some (.aload_n 0), some (.getfield 170), none, none, some (.if_icmp .ge 72), none, none, some (.iload_n 2), some (.iconst 1), some (.if_icmp .ne 67), none, none, some (.aload_n 0), some (.getfield 87), none, none, some (.iload_n 3), some (.iaload), some (.istore 4), none, some (.aload_n 0), some (.getfield 50), none, none, some (.iload 4), none, some (.iconst 1), some (.bastore), some (.aload_n 0), some (.getfield 54), none, none, some (.iload 4), none, some (.aload_n 0), some (.getfield 90), none, none, some (.iload_n 3), some (.iaload), some (.aload_n 0), some (.getfield 35), none, none, some (.iload 4), none, some (.iaload), some (.idiv), some (.iastore), some (.aload_n 0), some (.getfield 57), none, none, some (.iload 4), none, some (.aload_n 0), some (.getfield 90), none, none, some (.iload_n 3), some (.iaload), some (.aload_n 0), some (.getfield 35), none, none, some (.iload 4), none, some (.iaload), some (.irem), some (.iastore), some (.iinc 3 1), none, none, some (.goto (-74)), none, none, some (.aload_n 0), some (.invokevirtual 159), none, none, some (.iload_n 2), some (.ireturn)]
def ai_t134 : List (Option Instr) := [some (.aload_n 0), some (.iconst 0), some (.putfield 173), none, none, some (.aload_n 0), some (.sipush 255), none, none, some (.invokevirtual 184), none, none, some (.ireturn)]
def ai_t135 : List (Option Instr) := [some (.aload_n 0), some (.iconst 0), some (.putfield 173), none, none, some (.aload_n 0), some (.iconst 0), some (.invokevirtual 184), none, none, some (.ireturn)]
def ai_t136 : List (Option Instr) := [some (.iconst 0), some (.istore_n 1), some (.iconst 0), some (.istore_n 2), some (.iload_n 2), some (.aload_n 0), some (.getfield 125), none, none, some (.if_icmp .ge 28), none, none, some (.aload_n 0), some (.getfield 50), none, none, some (.iload_n 2), some (.baload), some (.ifCond .eq 11), none, none, some (.iload_n 1), some (.iconst 1), some (.iload_n 2), some (.ishl), some (.ior), some (.goto 4), none, none, some (.iload_n 1), some (.istore_n 1), some (.iinc 2 1), none, none, some (.goto (-30)), none, none, some (.iload_n 1), some (.ireturn)]
def ai_t137 : List (Option Instr) := [some (.iconst 0), some (.istore_n 1), some (.iconst 0), some (.istore_n 2), some (.iload_n 2), some (.bipush 8), none, some (.if_icmp .ge 17), none, none, some (.iload_n 1), some (.iload_n 0), some (.iload_n 2), some (.ishr), some (.iconst 1), some (.iand), some (.iadd), some (.istore_n 1), some (.iinc 2 1), none, none, some (.goto (-17)), none, none, some (.iload_n 1), some (.ireturn)]
def ai_t138 : List (Option Instr) := [some (.iconst 0), some (.istore_n 2), some (.iload_n 2), some (.bipush 8), none, some (.if_icmp .ge 37), none, none, some (.iload_n 0), some (.iload_n 2), some (.ishr), some (.iconst 1), some (.iand), some (.iload_n 1), some (.iload_n 2), some (.ishr), some (.iconst 1), some (.iand), some (.if_icmp .eq 18), none, none, some (.iload_n 0), some (.iload_n 2), some (.ishr), some (.iconst 1), some (.iand), some (.iconst 1), some (.if_icmp .ne 7), none, none, some (.iconst 1), some (.goto 4), none, none, some (.iconst 0), some (.ireturn), some (.iinc 2 1), none, none, some (.goto (-37)), none, none, some (.iconst 0), some (.ireturn)]
def ai_t139 : List (Option Instr) := [some (.iconst (-1)), some (.istore 4), none, some (.iconst 0), some (.istore 5), none, some (.iload 5), none, some (.sipush 256), none, none, some (.if_icmp .ge 71), none, none, some (.iload 5), none, some (.iload_n 1), some (.iconst (-1)), some (.ixor), some (.iand), some (.ifCond .ne 29), none, none, some (.iload 5), none, some (.invokestatic 188), none, none, some (.iload_n 2), some (.if_icmp .ne 20), none, none, some (.iload_n 3), some (.ifCond .lt 12), none, none, some (.iload_n 3), some (.iload 5), none, some (.invokestatic 191), none, none, some (.ifCond .eq 7), none, none, some (.iconst 1), some (.goto 4), none, none, some (.iconst 0), some (.istore 6), none, some (.iload 6), none, some (.ifCond .eq 22), none, none, some (.iload 4), none, some (.ifCond .lt 13), none, none, some (.iload 5), none, some (.iload 4), none, some (.invokestatic 191), none, none, some (.ifCond .eq 7), none, none, some (.iload 5), none, some (.istore 4), none, some (.iinc 5 1), none, none, some (.goto (-73)), none, none, some (.iload 4), none, some (.ireturn)]
def ai_t140 : List (Option Instr) := [some (.aload_n 0), some (.iconst 0), some (.putfield 173), none, none, some (.aload_n 0), some (.invokevirtual 195), none, none, some (.istore_n 1), some (.iconst 0), some (.istore_n 2), some (.iload_n 2), some (.iconst 4), some (.if_icmp .ge 57), none, none, some (.aload_n 0), some (.iload_n 1), some (.iload_n 2), some (.iconst (-1)), some (.invokevirtual 198), none, none, some (.istore_n 3), some (.iload_n 3), some (.ifCond .lt 39), none, none, some (.aload_n 0), some (.iload_n 3), some (.invokevirtual 184), none, none, some (.istore 4), none, some (.iload 4), none, some (.ifCond .eq 16), none, none, some (.iload 4), none, some (.iconst 1), some (.if_icmp .ne 7), none, none, some (.iload_n 2), some (.goto 5), none, none, some (.bipush (-2)), none, some (.ireturn), some (.aload_n 0), some (.iload_n 1), some (.iload_n 2), some (.iload_n 3), some (.invokevirtual 198), none, none, some (.istore_n 3), some (.goto (-37)), none, none, some (.iinc 2 1), none, none, some (.goto (-56)), none, none, some (.iconst (-1)), some (.ireturn)]
def ai_t141 : List (Option Instr) := [some (.iload_n 1), some (.ifCond .lt 24), none, none, some (.iload_n 1), some (.aload_n 0), some (.getfield 125), none, none, some (.if_icmp .ge 16), none, none, some (.aload_n 0), some (.getfield 50), none, none, some (.iload_n 1), some (.baload), some (.ifCond .eq 7), none, none, some (.iconst 1), some (.goto 4), none, none, some (.iconst 0), some (.ireturn)]
def ai_t142 : List (Option Instr) := [some (.aload_n 0), some (.iload_n 1), some (.invokevirtual 202), none, none, some (.ifCond .ne 5), none, none, some (.iconst (-1)), some (.ireturn), some (.iconst 3), some (.iload_n 1), some (.imul), some (.aload_n 0), some (.getfield 54), none, none, some (.iload_n 1), some (.iaload), some (.iadd), some (.istore_n 3), some (.aload_n 0), some (.getfield 41), none, none, some (.iload_n 3), some (.iaload), some (.istore 4), none, some (.iload_n 2), some (.bipush 10), none, some (.if_icmp .lt 26), none, none, some (.iload_n 2), some (.bipush 10), none, some (.iload 4), none, some (.iadd), some (.if_icmp .ge 17), none, none, some (.aload_n 0), some (.getfield 44), none, none, some (.iconst 4), some (.iload_n 3), some (.imul), some (.iload_n 2), some (.iadd), some (.bipush 10), none, some (.isub), some (.iaload), some (.ireturn), some (.iload_n 2), some (.bipush 20), none, some (.if_icmp .lt 34), none, none, some (.iload_n 2), some (.bipush 20), none, some (.iload 4), none, some (.iadd), some (.if_icmp .ge 25), none, none, some (.aload_n 0), some (.iload_n 1), some (.aload_n 0), some (.getfield 54), none, none, some (.iload_n 1), some (.iaload), some (.aload_n 0), some (.getfield 57), none, none, some (.iload_n 1), some (.iaload), some (.iload_n 2), some (.bipush 20), none, some (.isub), some (.invokevirtual 162), none, none, some (.ireturn), some (.iload_n 2), some (.tableswitch 56 0 3 #[32, 39, 46, 49]), none, none, none, none, none, none, none, none, none, none, none, none, none, none, none, none, none, none, none, none, none, none, none, none, none, none, none, none, none, none, none, some (.aload_n 0), some (.getfield 54), none, none, some (.iload_n 1), some (.iaload), some (.ireturn), some (.aload_n 0), some (.getfield 57), none, none, some (.iload_n 1), some (.iaload), some (.ireturn), some (.iload 4), none, some (.ireturn), some (.aload_n 0), some (.getfield 47), none, none, some (.iload_n 3), some (.iaload), some (.ireturn), some (.iconst (-1)), some (.ireturn)]
def ai_t143 : List (Option Instr) := [some (.aload_n 0), some (.getfield 173), none, none, some (.ireturn)]
def ai_t144 : List (Option Instr) := [some (.aload_n 0), some (.iload_n 1), some (.invokevirtual 205), none, none, some (.ifCond .eq 15), none, none, some (.iload_n 2), some (.ifCond .lt 11), none, none, some (.iload_n 2), some (.aload_n 0), some (.getfield 28), none, none, some (.if_icmp .lt 6), none, none, some (.bipush (-2)), none, some (.ireturn), some (.aload_n 0), some (.getfield 60), none, none, some (.bipush 120), none, some (.iload_n 1), some (.imul), some (.iload_n 2), some (.iadd), some (.iaload), some (.iconst 1), some (.isub), some (.ireturn)]
def ai_t145 : List (Option Instr) := [some (.iload_n 1), some (.aload_n 0), some (.getfield 28), none, none, some (.irem), some (.istore_n 2), some (.iload_n 2), some (.ifCond .ge 12), none, none, some (.iload_n 2), some (.aload_n 0), some (.getfield 28), none, none, some (.iadd), some (.goto 4), none, none, some (.iload_n 2), some (.ireturn)]
def ai_t146 : List (Option Instr) := [some (.iconst 0), some (.istore 4), none, some (.iload 4), none, some (.iload_n 3), some (.if_icmp .ge 41), none, none, some (.iload 4), none, some (.aload_n 0), some (.getfield 28), none, none, some (.if_icmp .ge 32), none, none, some (.aload_n 0), some (.getfield 60), none, none, some (.bipush 120), none, some (.iload_n 1), some (.imul), some (.aload_n 0), some (.iload_n 2), some (.iload 4), none, some (.iadd), some (.invokevirtual 208), none, none, some (.iadd), some (.iaload), some (.ifCond .eq 5), none, none, some (.iconst 0), some (.ireturn), some (.iinc 4 1), none, none, some (.goto (-41)), none, none, some (.iconst 1), some (.ireturn)]
def ai_t147 : List (Option Instr) := [some (.aload_n 0), some (.iload_n 1), some (.invokevirtual 205), none, none, some (.ifCond .eq 22), none, none, some (.iload_n 2), some (.ifCond .lt 18), none, none, some (.iload_n 2), some (.aload_n 0), some (.getfield 28), none, none, some (.if_icmp .ge 10), none, none, some (.iload_n 3), some (.invokestatic 152), none, none, some (.ifCond .ne 6), none, none, some (.bipush (-2)), none, some (.ireturn), some (.iconst 0), some (.istore 4), none, some (.iload 4), none, some (.aload_n 0), some (.getfield 28), none, none, some (.if_icmp .ge 32), none, none, some (.aload_n 0), some (.iload_n 1), some (.iload_n 2), some (.iload 4), none, some (.iadd), some (.iload_n 3), some (.aload_n 0), some (.getfield 25), none, none, some (.iload_n 1), some (.iaload), some (.imul), some (.invokevirtual 211), none, none, some (.ifCond .eq 6), none, none, some (.iload 4), none, some (.ireturn), some (.iinc 4 1), none, none, some (.goto (-35)), none, none, some (.iconst (-1)), some (.ireturn)]
def ai_t148 : List (Option Instr) := [some (.aload_n 0), some (.iload_n 1), some (.invokevirtual 205), none, none, some (.ifCond .eq 10), none, none, some (.iload_n 2), some (.invokestatic 152), none, none, some (.ifCond .ne 6), none, none, some (.bipush (-2)), none, some (.ireturn), some (.iconst 0), some (.istore_n 3), some (.iconst 0), some (.istore 4), none, some (.iload 4), none, some (.aload_n 0), some (.getfield 28), none, none, some (.if_icmp .ge 45), none, none, some (.iload_n 3), some (.ifCond .lt 41), none, none, some (.aload_n 0), some (.iload_n 1), some (.iload 4), none, some (.iload_n 2), some (.invokevirtual 214), none, none, some (.istore 5), none, some (.iload 5), none, some (.ifCond .ge 7), none, none, some (.iconst (-1)), some (.goto 15), none, none, some (.iload 5), none, some (.iload_n 3), some (.if_icmp .le 8), none, none, some (.iload 5), none, some (.goto 4), none, none, some (.iload_n 3), some (.istore_n 3), some (.iinc 4 1), none, none, some (.goto (-48)), none, none, some (.iload_n 3), some (.ireturn)]
def ai_t149 : List (Option Instr) := [some (.aload_n 0), some (.iload_n 1), some (.invokevirtual 121), none, none, some (.ifCond .eq 20), none, none, some (.iload_n 2), some (.aload_n 0), some (.getfield 131), none, none, some (.ineg), some (.if_icmp .lt 11), none, none, some (.iload_n 2), some (.aload_n 0), some (.getfield 131), none, none, some (.if_icmp .le 5), none, none, some (.iconst 0), some (.ireturn), some (.aload_n 0), some (.getfield 13), none, none, some (.iload_n 1), some (.iload_n 2), some (.iastore), some (.aload_n 0), some (.iconst 1), some (.putfield 93), none, none, some (.iconst 1), some (.ireturn)]
def ai_t150 : List (Option Instr) := [some (.aload_n 0), some (.getfield 128), none, none, some (.bipush 60), none, some (.if_icmp .eq 43), none, none, some (.iload_n 1), some (.ifCond .lt 39), none, none, some (.iload_n 1), some (.sipush 999), none, none, some (.if_icmp .gt 32), none, none, some (.aload_n 0), some (.iload_n 2), some (.invokevirtual 121), none, none, some (.ifCond .eq 24), none, none, some (.aload_n 0), some (.iload_n 3), some (.invokevirtual 121), none, none, some (.ifCond .eq 16), none, none, some (.iload_n 2), some (.iload_n 3), some (.if_icmp .eq 11), none, none, some (.iload 4), none, some (.invokestatic 152), none, none, some (.ifCond .ne 5), none, none, some (.iconst (-1)), some (.ireturn), some (.aload_n 0), some (.iload_n 2), some (.iload_n 3), some (.iload 4), none, some (.invokevirtual 155), none, none, some (.aload_n 0), some (.getfield 134), none, none, some (.ifCond .ne 6), none, none, some (.bipush (-2)), none, some (.ireturn), some (.aload_n 0), some (.getfield 63), none, none, some (.aload_n 0), some (.getfield 128), none, none, some (.iload_n 1), some (.iastore), some (.aload_n 0), some (.getfield 66), none, none, some (.aload_n 0), some (.getfield 128), none, none, some (.iload 4), none, some (.iastore), some (.aload_n 0), some (.getfield 69), none, none, some (.aload_n 0), some (.getfield 128), none, none, some (.aload_n 0), some (.getfield 75), none, none, some (.iconst 0), some (.iaload), some (.iastore), some (.iconst 0), some (.istore 5), none, some (.iload 5), none, some (.aload_n 0), some (.getfield 75), none, none, some (.iconst 0), some (.iaload), some (.if_icmp .ge 30), none, none, some (.aload_n 0), some (.getfield 72), none, none, some (.iconst 4), some (.aload_n 0), some (.getfield 128), none, none, some (.imul), some (.iload 5), none, some (.iadd), some (.aload_n 0), some (.getfield 78), none, none, some (.iload 5), none, some (.iaload), some (.iastore), some (.iinc 5 1), none, none, some (.goto (-35)), none, none, some (.aload_n 0), some (.dup), some (.getfield 128), none, none, some (.iconst 1), some (.iadd), some (.putfield 128), none, none, some (.aload_n 0), some (.iconst 1), some (.putfield 93), none, none, some (.aload_n 0), some (.getfield 128), none, none, some (.iconst 1), some (.isub), some (.ireturn)]
def ai_t151 : List (Option Instr) := [some (.aload_n 0), some (.getfield 44), none, none, some (.iconst 4), some (.iconst 3), some (.iload_n 1), some (.imul), some (.aload_n 0), some (.getfield 54), none, none, some (.iload_n 1), some (.iaload), some (.iadd), some (.imul), some (.iload_n 3), some (.iadd), some (.iaload), some (.istore 4), none, some (.aload_n 0), some (.iload_n 1), some (.aload_n 0), some (.getfield 54), none, none, some (.iload_n 1), some (.iaload), some (.aload_n 0), some (.getfield 57), none, none, some (.iload_n 1), some (.iaload), some (.iload_n 3), some (.invokevirtual 162), none, none, some (.iload_n 2), some (.aload_n 0), some (.getfield 35), none, none, some (.iload_n 1), some (.iaload), some (.imul), some (.iadd), some (.aload_n 0), some (.getfield 13), none, none, some (.aload_n 0), some (.getfield 16), none, none, some (.iload 4), none, some (.iaload), some (.iaload), some (.iadd), some (.ireturn)]
def ai_t152 : List (Option Instr) := [some (.aload_n 0), some (.iload_n 1), some (.invokevirtual 202), none, none, some (.ifCond .eq 13), none, none, some (.iload_n 2), some (.ifCond .lt 9), none, none, some (.iload_n 2), some (.bipush 99), none, some (.if_icmp .le 7), none, none, some (.sipush (-1000)), none, none, some (.ireturn), some (.aload_n 0), some (.getfield 41), none, none, some (.iconst 3), some (.iload_n 1), some (.imul), some (.aload_n 0), some (.getfield 54), none, none, some (.iload_n 1), some (.iaload), some (.iadd), some (.iaload), some (.istore 4), none, some (.iload_n 3), some (.bipush 9), none, some (.if_icmp .ne 61), none, none, some (.aload_n 0), some (.getfield 44), none, none, some (.iconst 4), some (.iconst 3), some (.iload_n 1), some (.imul), some (.aload_n 0), some (.getfield 54), none, none, some (.iload_n 1), some (.iaload), some (.iadd), some (.imul), some (.iload 4), none, some (.iadd), some (.iconst 1), some (.isub), some (.iaload), some (.istore 5), none, some (.aload_n 0), some (.iload_n 1), some (.iload_n 2), some (.iload 4), none, some (.iconst 1), some (.isub), some (.invokevirtual 217), none, none, some (.aload_n 0), some (.getfield 32), none, none, some (.iload_n 1), some (.iaload), some (.aload_n 0), some (.getfield 25), none, none, some (.iload 5), none, some (.iaload), some (.imul), some (.iadd), some (.aload_n 0), some (.getfield 22), none, none, some (.iload 5), none, some (.iaload), some (.iadd), some (.ireturn), some (.iload_n 3), some (.ifCond .lt 9), none, none, some (.iload_n 3), some (.iload 4), none, some (.if_icmp .lt 9), none, none, some (.sipush (-1000)), none, none, some (.goto 10), none, none, some (.aload_n 0), some (.iload_n 1), some (.iload_n 2), some (.iload_n 3), some (.invokevirtual 217), none, none, some (.ireturn)]
def ai_t153 : List (Option Instr) := [some (.aload_n 0), some (.iload_n 1), some (.invokevirtual 202), none, none, some (.ifCond .eq 37), none, none, some (.iload_n 2), some (.ifCond .lt 33), none, none, some (.iload_n 2), some (.bipush 99), none, some (.if_icmp .gt 27), none, none, some (.iload_n 3), some (.iconst 1), some (.if_icmp .lt 22), none, none, some (.iload_n 3), some (.aload_n 0), some (.getfield 41), none, none, some (.iconst 3), some (.iload_n 1), some (.imul), some (.aload_n 0), some (.getfield 54), none, none, some (.iload_n 1), some (.iaload), some (.iadd), some (.iaload), some (.if_icmp .lt 7), none, none, some (.sipush (-1000)), none, none, some (.ireturn), some (.aload_n 0), some (.getfield 44), none, none, some (.iconst 4), some (.iconst 3), some (.iload_n 1), some (.imul), some (.aload_n 0), some (.getfield 54), none, none, some (.iload_n 1), some (.iaload), some (.iadd), some (.imul), some (.iload_n 3), some (.iadd), some (.iconst 1), some (.isub), some (.iaload), some (.istore 4), none, some (.aload_n 0), some (.iload_n 1), some (.iload_n 2), some (.iload_n 3), some (.invokevirtual 217), none, none, some (.aload_n 0), some (.iload_n 1), some (.iload_n 2), some (.iload_n 3), some (.iconst 1), some (.isub), some (.invokevirtual 217), none, none, some (.isub), some (.aload_n 0), some (.getfield 32), none, none, some (.iload_n 1), some (.iaload), some (.aload_n 0), some (.getfield 25), none, none, some (.iload 4), none, some (.iaload), some (.imul), some (.isub), some (.aload_n 0), some (.getfield 22), none, none, some (.iload 4), none, some (.iaload), some (.isub), some (.aload_n 0), some (.getfield 7), none, none, some (.aload_n 0), some (.getfield 19), none, none, some (.iload 4), none, some (.iaload), some (.iaload), some (.isub), some (.ireturn)]
def ai_t154 : List (Option Instr) := [some (.aload_n 0), some (.getfield 93), none, none, some (.ifCond .ne 4), none, none, some (.return_), some (.aload_n 0), some (.iconst 0), some (.putfield 93), none, none, some (.iconst 0), some (.istore_n 1), some (.iload_n 1), some (.sipush 240), none, none, some (.if_icmp .ge 25), none, none, some (.aload_n 0), some (.getfield 97), none, none, some (.iload_n 1), some (.ldc 220), none, some (.iastore), some (.aload_n 0), some (.getfield 100), none, none, some (.iload_n 1), some (.ldc 220), none, some (.iastore), some (.iinc 1 1), none, none, some (.goto (-26)), none, none, some (.iconst 0), some (.istore_n 1), some (.iload_n 1), some (.aload_n 0), some (.getfield 128), none, none, some (.if_icmp .ge 38), none, none, some (.aload_n 0), some (.getfield 97), none, none, some (.iconst 4), some (.iload_n 1), some (.imul), some (.aload_n 0), some (.getfield 63), none, none, some (.iload_n 1), some (.iaload), some (.iastore), some (.aload_n 0), some (.getfield 103), none, none, some (.iload_n 1), some (.ldc 220), none, some (.iastore), some (.aload_n 0), some (.getfield 106), none, none, some (.iload_n 1), some (.iconst 0), some (.iastore), some (.iinc 1 1), none, none, some (.goto (-40)), none, none, some (.iconst 0), some (.istore_n 1), some (.iload_n 1), some (.bipush 12), none, some (.if_icmp .ge 23), none, none, some (.aload_n 0), some (.getfield 109), none, none, some (.iload_n 1), some (.iconst 0), some (.iastore), some (.aload_n 0), some (.getfield 112), none, none, some (.iload_n 1), some (.iconst 0), some (.iastore), some (.iinc 1 1), none, none, some (.goto (-23)), none, none, some (.iconst 0), some (.istore_n 1), some (.iload_n 1), some (.sipush 3000), none, none, some (.if_icmp .ge 31), none, none, some (.iconst 0), some (.istore_n 2), some (.iload_n 2), some (.aload_n 0), some (.getfield 118), none, none, some (.if_icmp .ge 15), none, none, some (.aload_n 0), some (.iload_n 2), some (.iload_n 1), some (.invokevirtual 221), none, none, some (.iinc 2 1), none, none, some (.goto (-17)), none, none, some (.iinc 1 1), none, none, some (.goto (-32)), none, none, some (.return_)]
def ai_t155 : List (Option Instr) := [some (.iconst (-1)), some (.istore_n 3), some (.iconst 0), some (.istore 4), none, some (.iconst 0), some (.istore 5), none, some (.iload 5), none, some (.aload_n 0), some (.getfield 128), none, none, some (.if_icmp .ge 129), none, none, some (.aload_n 0), some (.getfield 106), none, none, some (.iload 5), none, some (.iaload), some (.aload_n 0), some (.getfield 69), none, none, some (.iload 5), none, some (.iaload), some (.if_icmp .ge 49), none, none, some (.aload_n 0), some (.getfield 72), none, none, some (.iconst 4), some (.iload 5), none, some (.imul), some (.aload_n 0), some (.getfield 106), none, none, some (.iload 5), none, some (.iaload), some (.iadd), some (.iaload), some (.iload_n 1), some (.if_icmp .ne 28), none, none, some (.aload_n 0), some (.getfield 97), none, none, some (.iconst 4), some (.iload 5), none, some (.imul), some (.aload_n 0), some (.getfield 106), none, none, some (.iload 5), none, some (.iaload), some (.iadd), some (.iaload), some (.iload_n 2), some (.if_icmp .gt 7), none, none, some (.iconst 1), some (.goto 4), none, none, some (.iconst 0), some (.istore 6), none, some (.iload 6), none, some (.ifCond .eq 52), none, none, some (.iinc 4 1), none, none, some (.iload_n 3), some (.ifCond .lt 38), none, none, some (.aload_n 0), some (.getfield 97), none, none, some (.iconst 4), some (.iload 5), none, some (.imul), some (.aload_n 0), some (.getfield 106), none, none, some (.iload 5), none, some (.iaload), some (.iadd), some (.iaload), some (.aload_n 0), some (.getfield 97), none, none, some (.iconst 4), some (.iload_n 3), some (.imul), some (.aload_n 0), some (.getfield 106), none, none, some (.iload_n 3), some (.iaload), some (.iadd), some (.iaload), some (.if_icmp .ge 8), none, none, some (.iload 5), none, some (.goto 4), none, none, some (.iload_n 3), some (.istore_n 3), some (.iinc 5 1), none, none, some (.goto (-132)), none, none, some (.iload_n 3), some (.ifCond .lt 57), none, none, some (.aload_n 0), some (.getfield 109), none, none, some (.iload_n 1), some (.iaload), some (.iload_n 2), some (.if_icmp .gt 47), none, none, some (.aload_n 0), some (.iload_n 1), some (.iload_n 2), some (.aload_n 0), some (.getfield 13), none, none, some (.aload_n 0), some (.getfield 16), none, none, some (.iload_n 1), some (.iaload), some (.iaload), some (.isub), some (.aload_n 0), some (.getfield 66), none, none, some (.iload_n 3), some (.iaload), some (.aload_n 0), some (.getfield 25), none, none, some (.iload_n 1), some (.iaload), some (.imul), some (.invokevirtual 211), none, none, some (.ifCond .eq 13), none, none, some (.aload_n 0), some (.iload_n 3), some (.iload_n 1), some (.iload_n 2), some (.invokevirtual 224), none, none, some (.iinc 4 (-1)), none, none, some (.aload_n 0), some (.getfield 112), none, none, some (.iload_n 1), some (.iload 4), none, some (.aload_n 0), some (.getfield 112), none, none, some (.iload_n 1), some (.iaload), some (.if_icmp .le 8), none, none, some (.iload 4), none, some (.goto 9), none, none, some (.aload_n 0), some (.getfield 112), none, none, some (.iload_n 1), some (.iaload), some (.iastore), some (.return_)]
def ai_t156 : List (Option Instr) := [some (.aload_n 0), some (.getfield 66), none, none, some (.iload_n 1), some (.iaload), some (.aload_n 0), some (.getfield 25), none, none, some (.iload_n 2), some (.iaload), some (.imul), some (.istore 4), none, some (.aload_n 0), some (.getfield 100), none, none, some (.iconst 4), some (.iload_n 1), some (.imul), some (.aload_n 0), some (.getfield 106), none, none, some (.iload_n 1), some (.iaload), some (.iadd), some (.iload_n 3), some (.iastore), some (.aload_n 0), some (.getfield 109), none, none, some (.iload_n 2), some (.iload_n 3), some (.iload 4), none, some (.iadd), some (.iastore), some (.aload_n 0), some (.getfield 106), none, none, some (.iload_n 1), some (.dup2), some (.iaload), some (.iconst 1), some (.iadd), some (.iastore), some (.aload_n 0), some (.getfield 106), none, none, some (.iload_n 1), some (.iaload), some (.aload_n 0), some (.getfield 69), none, none, some (.iload_n 1), some (.iaload), some (.if_icmp .ge 44), none, none, some (.aload_n 0), some (.getfield 97), none, none, some (.iconst 4), some (.iload_n 1), some (.imul), some (.aload_n 0), some (.getfield 106), none, none, some (.iload_n 1), some (.iaload), some (.iadd), some (.iload_n 3), some (.iload 4), none, some (.iadd), some (.aload_n 0), some (.getfield 22), none, none, some (.iload_n 2), some (.iaload), some (.iadd), some (.aload_n 0), some (.getfield 7), none, none, some (.aload_n 0), some (.getfield 19), none, none, some (.iload_n 2), some (.iaload), some (.iaload), some (.iadd), some (.iastore), some (.goto 20), none, none, some (.aload_n 0), some (.getfield 103), none, none, some (.iload_n 1), some (.iload_n 3), some (.iload 4), none, some (.iadd), some (.aload_n 0), some (.getfield 22), none, none, some (.iload_n 2), some (.iaload), some (.iadd), some (.iastore), some (.return_)]
def ai_t157 : List (Option Instr) := [some (.iload_n 0), some (.sipush 3000), none, none, some (.if_icmp .ge 7), none, none, some (.iload_n 0), some (.goto 5), none, none, some (.bipush (-3)), none, some (.ireturn)]
def ai_t158 : List (Option Instr) := [some (.iload_n 1), some (.ifCond .lt 11), none, none, some (.iload_n 1), some (.aload_n 0), some (.getfield 128), none, none, some (.if_icmp .lt 5), none, none, some (.iconst (-1)), some (.ireturn), some (.aload_n 0), some (.getfield 69), none, none, some (.iload_n 1), some (.iaload), some (.istore_n 3), some (.iload_n 2), some (.ifCond .ne 5), none, none, some (.iload_n 3), some (.ireturn), some (.iload_n 2), some (.bipush 10), none, some (.if_icmp .lt 25), none, none, some (.iload_n 2), some (.bipush 10), none, some (.iload_n 3), some (.iadd), some (.if_icmp .ge 17), none, none, some (.aload_n 0), some (.getfield 72), none, none, some (.iconst 4), some (.iload_n 1), some (.imul), some (.iload_n 2), some (.iadd), some (.bipush 10), none, some (.isub), some (.iaload), some (.ireturn), some (.aload_n 0), some (.invokevirtual 227), none, none, some (.iload_n 2), some (.iconst 1), some (.if_icmp .ne 13), none, none, some (.aload_n 0), some (.getfield 103), none, none, some (.iload_n 1), some (.iaload), some (.invokestatic 230), none, none, some (.ireturn), some (.iload_n 2), some (.bipush 20), none, some (.if_icmp .lt 28), none, none, some (.iload_n 2), some (.bipush 20), none, some (.iload_n 3), some (.iadd), some (.if_icmp .ge 20), none, none, some (.aload_n 0), some (.getfield 100), none, none, some (.iconst 4), some (.iload_n 1), some (.imul), some (.iload_n 2), some (.iadd), some (.bipush 20), none, some (.isub), some (.iaload), some (.invokestatic 230), none, none, some (.ireturn), some (.iload_n 2), some (.bipush 30), none, some (.if_icmp .lt 30), none, none, some (.iload_n 2), some (.bipush 30), none, some (.iload_n 3), some (.iadd), some (.if_icmp .ge 22), none, none, some (.aload_n 0), some (.getfield 97), none, none, some (.iconst 4), some (.iload_n 1), some (.imul), some (.iload_n 2), some (.iadd), some (.bipush 30), none, some (.isub), some (.iaload), some (.invokestatic 230), none, none, some (.goto 4), none, none, some (.iconst (-1)), some (.ireturn)]
def ai_t159 : List (Option Instr) := [some (.aload_n 0), some (.iload_n 1), some (.invokevirtual 205), none, none, some (.ifCond .ne 5), none, none, some (.iconst (-1)), some (.ireturn), some (.aload_n 0), some (.invokevirtual 227), none, none, some (.aload_n 0), some (.getfield 112), none, none, some (.iload_n 1), some (.iaload), some (.ireturn)]
def ai_t160 : List (Option Instr) := [some (.iconst 0), some (.istore_n 2), some (.iload_n 1), some (.tableswitch 152 0 7 #[45, 50, 55, 60, 65, 70, 105, 110]), none, none, none, none, none, none, none, none, none, none, none, none, none, none, none, none, none, none, none, none, none, none, none, none, none, none, none, none, none, none, none, none, none, none, none, none, none, none, none, none, none, none, none, none, some (.aload_n 0), some (.getfield 115), none, none, some (.ireturn), some (.aload_n 0), some (.getfield 118), none, none, some (.ireturn), some (.aload_n 0), some (.getfield 28), none, none, some (.ireturn), some (.aload_n 0), some (.getfield 131), none, none, some (.ireturn), some (.aload_n 0), some (.getfield 125), none, none, some (.ireturn), some (.iconst 0), some (.istore_n 3), some (.iload_n 3), some (.aload_n 0), some (.getfield 125), none, none, some (.if_icmp .ge 26), none, none, some (.aload_n 0), some (.getfield 50), none, none, some (.iload_n 3), some (.baload), some (.ifCond .eq 9), none, none, some (.iload_n 2), some (.iconst 1), some (.iadd), some (.goto 4), none, none, some (.iload_n 2), some (.istore_n 2), some (.iinc 3 1), none, none, some (.goto (-28)), none, none, some (.iload_n 2), some (.ireturn), some (.aload_n 0), some (.getfield 128), none, none, some (.ireturn), some (.aload_n 0), some (.invokevirtual 227), none, none, some (.iconst 0), some (.istore_n 3), some (.iload_n 3), some (.aload_n 0), some (.getfield 128), none, none, some (.if_icmp .ge 29), none, none, some (.aload_n 0), some (.getfield 103), none, none, some (.iload_n 3), some (.iaload), some (.sipush 3000), none, none, some (.if_icmp .ge 9), none, none, some (.iload_n 2), some (.iconst 1), some (.iadd), some (.goto 4), none, none, some (.iload_n 2), some (.istore_n 2), some (.iinc 3 1), none, none, some (.goto (-31)), none, none, some (.iload_n 2), some (.ireturn), some (.iconst (-1)), some (.ireturn)]
def ai_t161 : List (Option Instr) := [some (.iload_n 0), some (.iload_n 0), some (.iconst 1), some (.iushr), some (.ldc_w 265), none, none, some (.iand), some (.isub), some (.istore_n 0), some (.iload_n 0), some (.ldc_w 266), none, none, some (.iand), some (.iload_n 0), some (.iconst 2), some (.iushr), some (.ldc_w 266), none, none, some (.iand), some (.iadd), some (.istore_n 0), some (.iload_n 0), some (.iload_n 0), some (.iconst 4), some (.iushr), some (.iadd), some (.ldc_w 267), none, none, some (.iand), some (.istore_n 0), some (.iload_n 0), some (.iload_n 0), some (.bipush 8), none, some (.iushr), some (.iadd), some (.istore_n 0), some (.iload_n 0), some (.iload_n 0), some (.bipush 16), none, some (.iushr), some (.iadd), some (.istore_n 0), some (.iload_n 0), some (.bipush 63), none, some (.iand), some (.ireturn)]
def ai_t162 : List (Option Instr) := [some (.iload_n 0), some (.iload_n 1), some (.irem), some (.istore_n 2), some (.iload_n 0), some (.iload_n 1), some (.ixor), some (.ifCond .ge 11), none, none, some (.iload_n 2), some (.ifCond .eq 7), none, none, some (.iload_n 2), some (.iload_n 1), some (.iadd), some (.ireturn), some (.iload_n 2), some (.ireturn)]
def ai_t163 : List (Option Instr) := [some (.iload_n 0), some (.iload_n 1), some (.if_icmp .lt 7), none, none, some (.iload_n 0), some (.goto 4), none, none, some (.iload_n 1), some (.ireturn)]
def ai_t164 : List (Option Instr) := [some (.iload_n 0), some (.iload_n 1), some (.if_icmp .gt 7), none, none, some (.iload_n 0), some (.goto 4), none, none, some (.iload_n 1), some (.ireturn)]
def ai_t165 : List (Option Instr) := [some (.new 7), none, none, some (.dup), some (.invokespecial 9), none, none, some (.astore_n 1), some (.new 10), none, none, some (.dup), some (.invokespecial 12), none, none, some (.astore_n 2), some (.iconst 0), some (.istore_n 3), some (.iload_n 3), some (.aload_n 0), some (.arraylength), some (.bipush 6), none, some (.isub), some (.if_icmp .gt 834), none, none, some (.aload_n 0), some (.iload_n 3), some (.iaload), some (.bipush 31), none, some (.iand), some (.tableswitch 819 0 21 #[103, 126, 179, 202, 225, 288, 351, 374, 387, 400, 413, 446, 459, 492, 535, 568, 601, 654, 697, 740, 773, 796]), none, none, none, none, none, none, none, none, none, none, none, none, none, none, none, none, none, none, none, none, none, none, none, none, none, none, none, none, none, none, none, none, none, none, none, none, none, none, none, none, none, none, none, none, none, none, none, none, none, none, none, none, none, none, none, none, none, none, none, none, none, none, none, none, none, none, none, none, none, none, none, none, none, none, none, none, none, none, none, none, none, none, none, none, none, none, none, none, none, none, none, none, none, none, none, none, none, none, none, none, none, none, some (.aload_n 1), some (.aload_n 0), some (.iload_n 3), some (.iconst 1), some (.iadd), some (.iaload), some (.invokevirtual 13), none, none, some (.aload_n 2), some (.aload_n 0), some (.iload_n 3), some (.iconst 1), some (.iadd), some (.iaload), some (.invokevirtual 17), none, none, some (.if_icmp .eq 698), none, none, some (.iconst 0), some (.ireturn), some (.aload_n 1), some (.aload_n 0), some (.iload_n 3), some (.iconst 1), some (.iadd), some (.iaload), some (.aload_n 0), some (.iload_n 3), some (.iconst 2), some (.iadd), some (.iaload), some (.aload_n 0), some (.iload_n 3), some (.iconst 3), some (.iadd), some (.iaload), some (.aload_n 0), some (.iload_n 3), some (.iconst 4), some (.iadd), some (.iaload), some (.invokevirtual 18), none, none, some (.aload_n 2), some (.aload_n 0), some (.iload_n 3), some (.iconst 1), some (.iadd), some (.iaload), some (.aload_n 0), some (.iload_n 3), some (.iconst 2), some (.iadd), some (.iaload), some (.aload_n 0), some (.iload_n 3), some (.iconst 3), some (.iadd), some (.iaload), some (.aload_n 0), some (.iload_n 3), some (.iconst 4), some (.iadd), some (.iaload), some (.invokevirtual 22), none, none, some (.if_icmp .eq 645), none, none, some (.iconst 0), some (.ireturn), some (.aload_n 1), some (.aload_n 0), some (.iload_n 3), some (.iconst 1), some (.iadd), some (.iaload), some (.invokevirtual 23), none, none, some (.aload_n 2), some (.aload_n 0), some (.iload_n 3), some (.iconst 1), some (.iadd), some (.iaload), some (.invokevirtual 27), none, none, some (.if_icmp .eq 622), none, none, some (.iconst 0), some (.ireturn), some (.aload_n 1), some (.aload_n 0), some (.iload_n 3), some (.iconst 1), some (.iadd), some (.iaload), some (.invokevirtual 28), none, none, some (.aload_n 2), some (.aload_n 0), some (.iload_n 3), some (.iconst 1), some (.iadd), some (.iaload), some (.invokevirtual 31), none, none, some (.if_icmp .eq 599), none, none, some (.iconst 0), some (.ireturn), some (.aload_n 1), some (.aload_n 0), some (.iload_n 3), some (.iconst 1), some (.iadd), some (.iaload), some (.aload_n 0), some (.iload_n 3), some (.iconst 2), some (.iadd), some (.iaload), some (.aload_n 0), some (.iload_n 3), some (.iconst 3), some (.iadd), some (.iaload), some (.aload_n 0), some (.iload_n 3), some (.iconst 4), some (.iadd), some (.iaload), some (.aload_n 0), some (.iload_n 3), some (.iconst 5), some (.iadd), some (.iaload), some (.invokevirtual 32), none, none, some (.aload_n 2), some (.aload_n 0), some (.iload_n 3), some (.iconst 1), some (.iadd), some (.iaload), some (.aload_n 0), some (.iload_n 3), some (.iconst 2), some (.iadd), some (.iaload), some (.aload_n 0), some (.iload_n 3), some (.iconst 3), some (.iadd), some (.iaload), some (.aload_n 0), some (.iload_n 3), some (.iconst 4), some (.iadd), some (.iaload), some (.aload_n 0), some (.iload_n 3), some (.iconst 5), some (.iadd), some (.iaload), some (.invokevirtual 36), none, none, some (.if_icmp .eq 536), none, none, some (.iconst 0), some (.ireturn), some (.aload_n 1), some (.aload_n 0), some (.iload_n 3), some (.iconst 1), some (.iadd), some (.iaload), some (.aload_n 0), some (.iload_n 3), some (.iconst 2), some (.iadd), some (.iaload), some (.aload_n 0), some (.iload_n 3), some (.iconst 3), some (.iadd), some (.iaload), some (.aload_n 0), some (.iload_n 3), some (.iconst 4), some (.iadd), some (.iaload), some (.aload_n 0), some (.iload_n 3), some (.iconst 5), some (.iadd), some (.iaload), some (.invokevirtual 37), none, none, some (.aload_n 2), some (.aload_n 0), some (.iload_n 3), some (.iconst 1), some (.iadd), some (.iaload), some (.aload_n 0), some (.iload_n 3), some (.iconst 2), some (.iadd), some (.iaload), some (.aload_n 0), some (.iload_n 3), some (.iconst 3), some (.iadd), some (.iaload), some (.aload_n 0), some (.iload_n 3), some (.iconst 4), some (.iadd), some (.iaload), some (.aload_n 0), some (.iload_n 3), some (.iconst 5), some (.iadd), some (.iaload), some (.invokevirtual 40), none, none, some (.if_icmp .eq 473), none, none, some (.iconst 0), some (.ireturn), some (.aload_n 1), some (.aload_n 0), some (.iload_n 3), some (.iconst 1), some (.iadd), some (.iaload), some (.invokevirtual 41), none, none, some (.aload_n 2), some (.aload_n 0), some (.iload_n 3), some (.iconst 1), some (.iadd), some (.iaload), some (.invokevirtual 44), none, none, some (.if_icmp .eq 450), none, none, some (.iconst 0), some (.ireturn), some (.aload_n 1), some (.invokevirtual 45), none, none, some (.aload_n 2), some (.invokevirtual 49), none, none, some (.if_icmp .eq 437), none, none, some (.iconst 0), some (.ireturn), some (.aload_n 1), some (.invokevirtual 50), none, none, some (.aload_n 2), some (.invokevirtual 53), none, none, some (.if_icmp .eq 424), none, none, some (.iconst 0), some (.ireturn), some (.aload_n 1), some (.invokevirtual 54), none, none, some (.aload_n 2), some (.invokevirtual 57), none, none, some (.if_icmp .eq 411), none, none, some (.iconst 0), some (.ireturn), some (.aload_n 1), some (.aload_n 0), some (.iload_n 3), some (.iconst 1), some (.iadd), some (.iaload), some (.aload_n 0), some (.iload_n 3), some (.iconst 2), some (.iadd), some (.iaload), some (.invokevirtual 58), none, none, some (.aload_n 2), some (.aload_n 0), some (.iload_n 3), some (.iconst 1), some (.iadd), some (.iaload), some (.aload_n 0), some (.iload_n 3), some (.iconst 2), some (.iadd), some (.iaload), some (.invokevirtual 62), none, none, some (.if_icmp .eq 378), none, none, some (.iconst 0), some (.ireturn), some (.aload_n 1), some (.invokevirtual 63), none, none, some (.aload_n 2), some (.invokevirtual 66), none, none, some (.if_icmp .eq 365), none, none, some (.iconst 0), some (.ireturn), some (.aload_n 1), some (.aload_n 0), some (.iload_n 3), some (.iconst 1), some (.iadd), some (.iaload), some (.aload_n 0), some (.iload_n 3), some (.iconst 2), some (.iadd), some (.iaload), some (.invokevirtual 67), none, none, some (.aload_n 2), some (.aload_n 0), some (.iload_n 3), some (.iconst 1), some (.iadd), some (.iaload), some (.aload_n 0), some (.iload_n 3), some (.iconst 2), some (.iadd), some (.iaload), some (.invokevirtual 70), none, none, some (.if_icmp .eq 332), none, none, some (.iconst 0), some (.ireturn), some (.aload_n 1), some (.aload_n 0), some (.iload_n 3), some (.iconst 1), some (.iadd), some (.iaload), some (.aload_n 0), some (.iload_n 3), some (.iconst 2), some (.iadd), some (.iaload), some (.aload_n 0), some (.iload_n 3), some (.iconst 3), some (.iadd), some (.iaload), some (.invokevirtual 71), none, none, some (.aload_n 2), some (.aload_n 0), some (.iload_n 3), some (.iconst 1), some (.iadd), some (.iaload), some (.aload_n 0), some (.iload_n 3), some (.iconst 2), some (.iadd), some (.iaload), some (.aload_n 0), some (.iload_n 3), some (.iconst 3), some (.iadd), some (.iaload), some (.invokevirtual 75), none, none, some (.if_icmp .eq 289), none, none, some (.iconst 0), some (.ireturn), some (.aload_n 1), some (.aload_n 0), some (.iload_n 3), some (.iconst 1), some (.iadd), some (.iaload), some (.aload_n 0), some (.iload_n 3), some (.iconst 2), some (.iadd), some (.iaload), some (.invokevirtual 76), none, none, some (.aload_n 2), some (.aload_n 0), some (.iload_n 3), some (.iconst 1), some (.iadd), some (.iaload), some (.aload_n 0), some (.iload_n 3), some (.iconst 2), some (.iadd), some (.iaload), some (.invokevirtual 79), none, none, some (.if_icmp .eq 256), none, none, some (.iconst 0), some (.ireturn), some (.aload_n 1), some (.aload_n 0), some (.iload_n 3), some (.iconst 1), some (.iadd), some (.iaload), some (.aload_n 0), some (.iload_n 3), some (.iconst 2), some (.iadd), some (.iaload), some (.invokevirtual 80), none, none, some (.aload_n 2), some (.aload_n 0), some (.iload_n 3), some (.iconst 1), some (.iadd), some (.iaload), some (.aload_n 0), some (.iload_n 3), some (.iconst 2), some (.iadd), some (.iaload), some (.invokevirtual 84), none, none, some (.if_icmp .eq 223), none, none, some (.iconst 0), some (.ireturn), some (.aload_n 1), some (.aload_n 0), some (.iload_n 3), some (.iconst 1), some (.iadd), some (.iaload), some (.aload_n 0), some (.iload_n 3), some (.iconst 2), some (.iadd), some (.iaload), some (.aload_n 0), some (.iload_n 3), some (.iconst 3), some (.iadd), some (.iaload), some (.aload_n 0), some (.iload_n 3), some (.iconst 4), some (.iadd), some (.iaload), some (.invokevirtual 85), none, none, some (.aload_n 2), some (.aload_n 0), some (.iload_n 3), some (.iconst 1), some (.iadd), some (.iaload), some (.aload_n 0), some (.iload_n 3), some (.iconst 2), some (.iadd), some (.iaload), some (.aload_n 0), some (.iload_n 3), some (.iconst 3), some (.iadd), some (.iaload), some (.aload_n 0), some (.iload_n 3), some (.iconst 4), some (.iadd), some (.iaload), some (.invokevirtual 88), none, none, some (.if_icmp .eq 170), none, none, some (.iconst 0), some (.ireturn), some (.aload_n 1), some (.aload_n 0), some (.iload_n 3), some (.iconst 1), some (.iadd), some (.iaload), some (.aload_n 0), some (.iload_n 3), some (.iconst 2), some (.iadd), some (.iaload), some (.aload_n 0), some (.iload_n 3), some (.iconst 3), some (.iadd), some (.iaload), some (.invokevirtual 89), none, none, some (.aload_n 2), some (.aload_n 0), some (.iload_n 3), some (.iconst 1), some (.iadd), some (.iaload), some (.aload_n 0), some (.iload_n 3), some (.iconst 2), some (.iadd), some (.iaload), some (.aload_n 0), some (.iload_n 3), some (.iconst 3), some (.iadd), some (.iaload), some (.invokevirtual 92), none, none, some (.if_icmp .eq 127), none, none, some (.iconst 0), some (.ireturn), some (.aload_n 1), some (.aload_n 0), some (.iload_n 3), some (.iconst 1), some (.iadd), some (.iaload), some (.aload_n 0), some (.iload_n 3), some (.iconst 2), some (.iadd), some (.iaload), some (.aload_n 0), some (.iload_n 3), some (.iconst 3), some (.iadd), some (.iaload), some (.invokevirtual 93), none, none, some (.aload_n 2), some (.aload_n 0), some (.iload_n 3), some (.iconst 1), some (.iadd), some (.iaload), some (.aload_n 0), some (.iload_n 3), some (.iconst 2), some (.iadd), some (.iaload), some (.aload_n 0), some (.iload_n 3), some (.iconst 3), some (.iadd), some (.iaload), some (.invokevirtual 96), none, none, some (.if_icmp .eq 84), none, none, some (.iconst 0), some (.ireturn), some (.aload_n 1), some (.aload_n 0), some (.iload_n 3), some (.iconst 1), some (.iadd), some (.iaload), some (.aload_n 0), some (.iload_n 3), some (.iconst 2), some (.iadd), some (.iaload), some (.invokevirtual 97), none, none, some (.aload_n 2), some (.aload_n 0), some (.iload_n 3), some (.iconst 1), some (.iadd), some (.iaload), some (.aload_n 0), some (.iload_n 3), some (.iconst 2), some (.iadd), some (.iaload), some (.invokevirtual 100), none, none, some (.if_icmp .eq 51), none, none, some (.iconst 0), some (.ireturn), some (.aload_n 1), some (.aload_n 0), some (.iload_n 3), some (.iconst 1), some (.iadd), some (.iaload), some (.invokevirtual 101), none, none, some (.aload_n 2), some (.aload_n 0), some (.iload_n 3), some (.iconst 1), some (.iadd), some (.iaload), some (.invokevirtual 104), none, none, some (.if_icmp .eq 28), none, none, some (.iconst 0), some (.ireturn), some (.aload_n 1), some (.aload_n 0), some (.iload_n 3), some (.iconst 1), some (.iadd), some (.iaload), some (.invokevirtual 105), none, none, some (.aload_n 2), some (.aload_n 0), some (.iload_n 3), some (.iconst 1), some (.iadd), some (.iaload), some (.invokevirtual 108), none, none, some (.if_icmp .eq 5), none, none, some (.iconst 0), some (.ireturn), some (.iinc 3 6), none, none, some (.goto (-837)), none, none, some (.iconst 1), some (.ireturn)]
def ai_T : List (List (Option Instr)) := [ai_t0, ai_t1, ai_t2, ai_t3, ai_t4, ai_t5, ai_t6, ai_t7, ai_t8, ai_t9, ai_t10, ai_t11, ai_t12, ai_t13, ai_t14, ai_t15, ai_t16, ai_t17, ai_t18, ai_t19, ai_t20, ai_t21, ai_t22, ai_t23, ai_t24, ai_t25, ai_t26, ai_t27, ai_t28, ai_t29, ai_t30, ai_t31, ai_t32, ai_t33, ai_t34, ai_t35, ai_t36, ai_t37, ai_t38, ai_t39, ai_t40, ai_t41, ai_t42, ai_t43, ai_t44, ai_t45, ai_t46, ai_t47, ai_t48, ai_t49, ai_t50, ai_t51, ai_t52, ai_t53, ai_t54, ai_t55, ai_t56, ai_t57, ai_t58, ai_t59, ai_t60, ai_t61, ai_t62, ai_t63, ai_t64, ai_t65, ai_t66, ai_t67, ai_t68, ai_t69, ai_t70, ai_t71, ai_t72, ai_t73, ai_t74, ai_t75, ai_t76, ai_t77, ai_t78, ai_t79, ai_t80, ai_t81, ai_t82, ai_t83, ai_t84, ai_t85, ai_t86, ai_t87, ai_t88, ai_t89, ai_t90, ai_t91, ai_t92, ai_t93, ai_t94, ai_t95, ai_t96, ai_t97, ai_t98, ai_t99, ai_t100, ai_t101, ai_t102, ai_t103, ai_t104, ai_t105, ai_t106, ai_t107, ai_t108, ai_t109, ai_t110, ai_t111, ai_t112, ai_t113, ai_t114, ai_t115, ai_t116, ai_t117, ai_t118, ai_t119, ai_t120, ai_t121, ai_t122, ai_t123, ai_t124, ai_t125, ai_t126, ai_t127, ai_t128, ai_t129, ai_t130, ai_t131, ai_t132, ai_t133, ai_t134, ai_t135, ai_t136, ai_t137, ai_t138, ai_t139, ai_t140, ai_t141, ai_t142, ai_t143, ai_t144, ai_t145, ai_t146, ai_t147, ai_t148, ai_t149, ai_t150, ai_t151, ai_t152, ai_t153, ai_t154, ai_t155, ai_t156, ai_t157, ai_t158, ai_t159, ai_t160, ai_t161, ai_t162, ai_t163, ai_t164, ai_t165]
end
section
/-! An abstract interpreter of the program: one heap as a list of cells (address: a start and the place), calls big-step. -/
abbrev ai_C : Type := (Nat × Nat × ((Nat → Int32) ⊕ (Nat → Option Nat))) ⊕ (Nat × List Value)
abbrev ai_H : Type := List ai_C × Nat
abbrev ai_L : Type := List (Nat × Value)
abbrev ai_S : Type := Nat × (Nat → Int32)
abbrev ai_R : Type := (Nat × ai_L × List Value × ai_H) ⊕ ((Nat × List Value × List Value) ⊕ Option Value)
def ai_cyc : Nat → Int32 := fun j => match j with
  | 0 => 12
  | 1 => 24
  | 2 => 48
  | 3 => 60
  | _ => 120
def ai_ext (S : ai_S) (u : UInt32) : ai_S := if u = 0 then S else (5, ai_cyc)
/-- array types: number, component -/
def ai_at : Nat → FieldType := fun t => match t with
  | 0 => .int
  | 1 => .boolean
  | 2 => .object RX5
  | 3 => .object RX6
  | _ => .object RX1
/-- the array type over a class -/
def ai_ao : Nat → Option Nat := fun c => match c with
  | 5 => some 2
  | 6 => some 3
  | 1 => some 4
  | _ => none
def ai_get {α : Type} (l : List ((Nat × Nat) × α)) (o i : Nat) : Option α := (l.find? (fun q => q.1.1 == o && q.1.2 == i)).map (·.2)
theorem ai_get_mem {α : Type} {l : List ((Nat × Nat) × α)} {o i : Nat} {x : α} (h : ai_get l o i = some x) : ((o, i), x) ∈ l := by
  unfold ai_get at h
  obtain ⟨q, hq, rfl⟩ := Option.map_eq_some_iff.mp h
  have h1 := List.find?_some hq
  have h2 := List.mem_of_find?_eq_some hq
  simp only [Bool.and_eq_true, beq_iff_eq] at h1
  obtain ⟨⟨a, b⟩, c⟩ := q
  obtain ⟨rfl, rfl⟩ := h1
  exact h2
def ai_I (mn pc : Nat) : Option Instr := match ai_T[mn]? with
  | some t => (match t[pc]? with
    | some (some i) => some i
    | _ => none)
  | none => none
def ai_look (L : ai_L) (i : Nat) : Option Value := (L.find? (fun q => q.1 == i)).map (·.2)
def ai_sort (i : Nat) (v : Value) : ai_L → ai_L
  | [] => [(i, v)]
  | (j, w) :: t => if i < j then (i, v) :: (j, w) :: t else (j, w) :: ai_sort i v t
def ai_put (i : Nat) (v : Value) (L : ai_L) : ai_L := ai_sort i v (L.filter (fun q => !(q.1 == i) && !(q.1 + 1 == i && q.2.category == 2)))
def ai_put2 (i : Nat) (v : Value) (L : ai_L) : ai_L := ai_sort i v (L.filter (fun q => !(q.1 == i) && (!(q.1 == i + 1) && !(q.1 + 1 == i && q.2.category == 2))))
theorem ai_sort_mem {i : Nat} {v : Value} {L : ai_L} {q : Nat × Value} (h : q ∈ ai_sort i v L) : q ∈ (i, v) :: L := by
  induction L with
  | nil => exact h
  | cons a t ih =>
    obtain ⟨j, w⟩ := a
    unfold ai_sort at h
    split at h
    · exact h
    · rcases List.mem_cons.mp h with rfl | h
      · simp
      · rcases List.mem_cons.mp (ih h) with rfl | h
        · simp
        · simp [h]
def ai_nx (pc : Nat) (L : ai_L) (st : List Value) (h : ai_H) : Option ai_R := some (.inl (pc, L, st, h))
def ai_m1 (st : List Value) (f : Int32 → List Value → Option ai_R) : Option ai_R := match st with
  | .int x :: r => f x r
  | _ => none
def ai_m2 (st : List Value) (f : Int32 → Int32 → List Value → Option ai_R) : Option ai_R := match st with
  | .int y :: .int x :: r => f x y r
  | _ => none
def ai_l2 (st : List Value) (f : Int64 → Int64 → List Value → Option ai_R) : Option ai_R := match st with
  | .long y :: .long x :: r => f x y r
  | _ => none
def ai_lh (st : List Value) (f : Int64 → Int32 → List Value → Option ai_R) : Option ai_R := match st with
  | .int y :: .long x :: r => f x y r
  | _ => none
def ai_g (c : Bool) (x : Option ai_R) : Option ai_R := match c with
  | true => x
  | false => none
def ai_o {α : Type} (o : Option α) (f : α → Option ai_R) : Option ai_R := match o with
  | some a => f a
  | none => none
theorem ai_m1_s {st : List Value} {f : Int32 → List Value → Option ai_R} {z : ai_R} (h : ai_m1 st f = some z) : ∃ x r, st = .int x :: r ∧ f x r = some z := by
  unfold ai_m1 at h; split at h
  · exact ⟨_, _, rfl, h⟩
  · cases h
theorem ai_m2_s {st : List Value} {f : Int32 → Int32 → List Value → Option ai_R} {z : ai_R} (h : ai_m2 st f = some z) : ∃ x y r, st = .int y :: .int x :: r ∧ f x y r = some z := by
  unfold ai_m2 at h; split at h
  · exact ⟨_, _, _, rfl, h⟩
  · cases h
theorem ai_l2_s {st : List Value} {f : Int64 → Int64 → List Value → Option ai_R} {z : ai_R} (h : ai_l2 st f = some z) : ∃ x y r, st = .long y :: .long x :: r ∧ f x y r = some z := by
  unfold ai_l2 at h; split at h
  · exact ⟨_, _, _, rfl, h⟩
  · cases h
theorem ai_lh_s {st : List Value} {f : Int64 → Int32 → List Value → Option ai_R} {z : ai_R} (h : ai_lh st f = some z) : ∃ x y r, st = .int y :: .long x :: r ∧ f x y r = some z := by
  unfold ai_lh at h; split at h
  · exact ⟨_, _, _, rfl, h⟩
  · cases h
theorem ai_g_s {c : Bool} {x : Option ai_R} {z : ai_R} (h : ai_g c x = some z) : c = true ∧ x = some z := by
  unfold ai_g at h; split at h
  · exact ⟨rfl, h⟩
  · cases h
theorem ai_o_s {α : Type} {o : Option α} {f : α → Option ai_R} {z : ai_R} (h : ai_o o f = some z) : ∃ a, o = some a ∧ f a = some z := by
  unfold ai_o at h; split at h
  · exact ⟨_, rfl, h⟩
  · cases h
def ai_cnd (c : Jvm.ClassFile.Cond) (x y : Int32) : Bool := match c with
  | .eq => decide (x = y)
  | .ne => decide (¬ x = y)
  | .lt => decide (x < y)
  | .ge => decide (y ≤ x)
  | .gt => decide (y < x)
  | .le => decide (x ≤ y)
/-- a branch -/
def ai_br (pc : Nat) (off : Int) (c : Bool) (L : ai_L) (st : List Value) (h : ai_H) : Option ai_R := ai_g (decide (0 ≤ (pc : Int) + off)) (ai_nx (if c = true then ((pc : Int) + off).toNat else pc + 3) L st h)
def ai_in (i : Int32) (n : Nat) : Bool := decide (¬ (i < 0 ∨ n ≤ i.toNatClampNeg))
theorem ai_in_s {i : Int32} {n : Nat} (h : ai_in i n = true) : ¬ (i < 0 ∨ n ≤ i.toNatClampNeg) := of_decide_eq_true h
def ai_iref (v : Value) : Bool := match v with
  | .ref _ => true
  | .null => true
  | .float _ => true
  | _ => false
def ai_ldi (v : Value) (f : Int32 → Option ai_R) : Option ai_R := match v with
  | .int x => f x
  | _ => none
def ai_ldl (v : Value) (f : Int64 → Option ai_R) : Option ai_R := match v with
  | .long x => f x
  | _ => none
theorem ai_ldi_s {v : Value} {f : Int32 → Option ai_R} {z : ai_R} (h : ai_ldi v f = some z) : ∃ x, v = .int x ∧ f x = some z := by
  unfold ai_ldi at h; split at h
  · exact ⟨_, rfl, h⟩
  · cases h
theorem ai_ldl_s {v : Value} {f : Int64 → Option ai_R} {z : ai_R} (h : ai_ldl v f = some z) : ∃ x, v = .long x ∧ f x = some z := by
  unfold ai_ldl at h; split at h
  · exact ⟨_, rfl, h⟩
  · cases h
/-- an object's fields -/
def ai_obj (h : ai_H) (a ci : Nat) : Option (List Value) := match h.1[a]? with
  | some (.inr (c, fs)) => if c = ci then some fs else none
  | _ => none
/-- an array of ints (0) or booleans (1) -/
def ai_arr (h : ai_H) (a t : Nat) : Option (Nat × (Nat → Int32)) := match h.1[a]? with
  | some (.inl (t', n, .inl f)) => if t' = t then some (n, f) else none
  | _ => none
/-- an array of references -/
def ai_arq (h : ai_H) (a : Nat) : Option (Nat × Nat × (Nat → Option Nat)) := match h.1[a]? with
  | some (.inl (t, n, .inr f)) => some (t, n, f)
  | _ => none
def ai_alen (h : ai_H) (a : Nat) : Option Nat := match h.1[a]? with
  | some (.inl (_, n, _)) => some n
  | _ => none
theorem ai_obj_s {h : ai_H} {a ci : Nat} {fs : List Value} (q : ai_obj h a ci = some fs) : h.1[a]? = some (.inr (ci, fs)) := by
  unfold ai_obj at q
  split at q
  next c f e =>
    split at q
    next hc => subst hc; cases q; exact e
    next => cases q
  next => cases q
theorem ai_arr_s {h : ai_H} {a t : Nat} {x : Nat × (Nat → Int32)} (q : ai_arr h a t = some x) : h.1[a]? = some (.inl (t, x.1, .inl x.2)) := by
  unfold ai_arr at q
  split at q
  next c n f e =>
    split at q
    next hc => subst hc; cases q; exact e
    next => cases q
  next => cases q
theorem ai_arq_s {h : ai_H} {a : Nat} {x : Nat × Nat × (Nat → Option Nat)} (q : ai_arq h a = some x) : h.1[a]? = some (.inl (x.1, x.2.1, .inr x.2.2)) := by
  unfold ai_arq at q
  split at q
  next c n f e => cases q; exact e
  next => cases q
theorem ai_alen_s {h : ai_H} {a n : Nat} (q : ai_alen h a = some n) : ∃ t x, h.1[a]? = some (.inl (t, n, x)) := by
  unfold ai_alen at q
  split at q
  next c n' f e => cases q; exact ⟨_, _, e⟩
  next => cases q
def ai_nf (c : Nat) : Nat := match ai_cl[c]? with
  | some r => r.2.2
  | none => 0
def ai_fs0 (c : Nat) : List Value := (List.range (ai_nf c)).map (fun k => defaultValue (ai_ft c k))
def ai_fin (c k : Nat) : Bool := match ai_cl[c]? with
  | some r => (r.2.1 k).2.2.2
  | none => false
def ai_okp (nm : MethodName) (c k : Nat) (v : Value) : Bool := (match ai_fin c k with
  | true => decide (nm.name = "<init>" ∧ nm.cls = ai_Rn c)
  | false => true) && (decide (narrow (ai_ft c k) v = v) && fits (ai_ft c k) v)
def ai_sum (st : List Value) : Nat := (st.map fun v => v.category).sum
def ai_ow (mn : Nat) : Nat := match ai_M[mn]? with
  | some q => q.2.2.2.2
  | none => 99
def ai_ml (mn : Nat) : Nat := match ai_M[mn]? with
  | some q => q.2.2.1
  | none => 0
def ai_rt (mn : Nat) : Option FieldType := match ai_M[mn]? with
  | some q => q.2.2.2.1
  | none => none
def ai_nm (mn : Nat) : MethodName := match ai_M[mn]? with
  | some q => q.1
  | none => yL_law
def ai_bc (mn : Nat) : ByteArray := match ai_M[mn]? with
  | some q => q.2.1
  | none => code
def ai_ref (v : Value) (f : Nat → Option ai_R) : Option ai_R := match v with
  | .ref a => f a
  | _ => none
theorem ai_ref_s {v : Value} {f : Nat → Option ai_R} {z : ai_R} (h : ai_ref v f = some z) : ∃ x, v = .ref x ∧ f x = some z := by
  unfold ai_ref at h; split at h
  · exact ⟨_, rfl, h⟩
  · cases h
def ai_c1 (st : List Value) (f : Value → List Value → Option ai_R) : Option ai_R := match st with
  | v :: r => f v r
  | _ => none
theorem ai_c1_s {st : List Value} {f : Value → List Value → Option ai_R} {z : ai_R} (h : ai_c1 st f = some z) : ∃ v r, st = v :: r ∧ f v r = some z := by
  unfold ai_c1 at h; split at h
  · exact ⟨_, _, rfl, h⟩
  · cases h
/-- a call: the parameters off the stack -/
def ai_cll (h : ai_H) (mn n : Nat) (vir : Bool) (ini : Bool) (st : List Value) : Option ai_R :=
  ai_c1 (st.drop n) fun v rest => ai_ref v fun a => ai_g (decide (ai_sum rest ≤ 8) && (decide ((lg_sl (.ref a :: (st.take n).reverse)).length ≤ ai_ml mn) && (decide (((ai_nm mn).name = "<init>") ↔ ini = true) && (match vir with
    | true => (ai_obj h a (ai_ow mn)).isSome
    | false => true)))) (some (.inr (.inl (mn, .ref a :: (st.take n).reverse, rest))))
def ai_do (S : ai_S) (mn pc : Nat) (L : ai_L) (st : List Value) (h : ai_H) : Instr → Option ai_R
  | .iconst n => ai_nx (pc + 1) L (.int (Int32.ofInt n) :: st) h
  | .bipush n => ai_nx (pc + 2) L (.int (Int8.ofInt n).toInt32 :: st) h
  | .sipush n => ai_nx (pc + 3) L (.int (Int16.ofInt n).toInt32 :: st) h
  | .lconst n => ai_nx (pc + 1) L (.long (Int64.ofNat (n : Nat)) :: st) h
  | .aconst_null => ai_nx (pc + 1) L (.null :: st) h
  | .ldc i => ai_o (ai_get ai_K (ai_ow mn) i) fun v => ai_nx (pc + 2) L (.int v :: st) h
  | .ldc_w i => ai_o (ai_get ai_K (ai_ow mn) i) fun v => ai_nx (pc + 3) L (.int v :: st) h
  | .ldc2_w i => ai_o (ai_get ai_J (ai_ow mn) i) fun v => ai_nx (pc + 3) L (.long v :: st) h
  | .iload_n k => ai_o (ai_look L (k : Nat)) fun v => ai_ldi v fun x => ai_nx (pc + 1) L (.int x :: st) h
  | .iload k => ai_o (ai_look L k) fun v => ai_ldi v fun x => ai_nx (pc + 2) L (.int x :: st) h
  | .lload_n k => ai_o (ai_look L (k : Nat)) fun v => ai_ldl v fun x => ai_nx (pc + 1) L (.long x :: st) h
  | .lload k => ai_o (ai_look L k) fun v => ai_ldl v fun x => ai_nx (pc + 2) L (.long x :: st) h
  | .aload_n k => ai_o (ai_look L (k : Nat)) fun v => ai_g (ai_iref v) (ai_nx (pc + 1) L (v :: st) h)
  | .aload k => ai_o (ai_look L k) fun v => ai_g (ai_iref v) (ai_nx (pc + 2) L (v :: st) h)
  | .istore_n k => ai_m1 st fun x r => ai_g (decide ((k : Nat) < ai_ml mn)) (ai_nx (pc + 1) (ai_put k (.int x) L) r h)
  | .istore k => ai_m1 st fun x r => ai_g (decide (k < ai_ml mn)) (ai_nx (pc + 2) (ai_put k (.int x) L) r h)
  | .lstore k => ai_c1 st fun v r => ai_ldl v fun x => ai_g (decide (k + 1 < ai_ml mn)) (ai_nx (pc + 2) (ai_put2 k (.long x) L) r h)
  | .astore_n k => ai_c1 st fun v r => ai_g (decide ((k : Nat) < ai_ml mn) && ai_iref v) (ai_nx (pc + 1) (ai_put k v L) r h)
  | .astore k => ai_c1 st fun v r => ai_g (decide (k < ai_ml mn) && ai_iref v) (ai_nx (pc + 2) (ai_put k v L) r h)
  | .iinc k n => ai_o (ai_look L k) fun v => ai_ldi v fun x => ai_g (decide (k < ai_ml mn)) (ai_nx (pc + 3) (ai_put k (.int (x + Int32.ofInt n)) L) st h)
  | .iadd => ai_m2 st fun x y r => ai_nx (pc + 1) L (.int (x + y) :: r) h
  | .isub => ai_m2 st fun x y r => ai_nx (pc + 1) L (.int (x - y) :: r) h
  | .imul => ai_m2 st fun x y r => ai_nx (pc + 1) L (.int (x * y) :: r) h
  | .iand => ai_m2 st fun x y r => ai_nx (pc + 1) L (.int (x &&& y) :: r) h
  | .ior => ai_m2 st fun x y r => ai_nx (pc + 1) L (.int (x ||| y) :: r) h
  | .ixor => ai_m2 st fun x y r => ai_nx (pc + 1) L (.int (x ^^^ y) :: r) h
  | .idiv => ai_m2 st fun x y r => ai_g (decide (¬ y = 0)) (ai_nx (pc + 1) L (.int (x / y) :: r) h)
  | .irem => ai_m2 st fun x y r => ai_g (decide (¬ y = 0)) (ai_nx (pc + 1) L (.int (x - x / y * y) :: r) h)
  | .ineg => ai_m1 st fun x r => ai_nx (pc + 1) L (.int (-x) :: r) h
  | .ishl => ai_m2 st fun x y r => ai_nx (pc + 1) L (.int (x <<< (y &&& 31)) :: r) h
  | .ishr => ai_m2 st fun x y r => ai_nx (pc + 1) L (.int (x >>> (y &&& 31)) :: r) h
  | .iushr => ai_m2 st fun x y r => ai_nx (pc + 1) L (.int (x.toUInt32 >>> (y.toUInt32 &&& Int32.toUInt32 31)).toInt32 :: r) h
  | .lsub => ai_l2 st fun x y r => ai_nx (pc + 1) L (.long (x - y) :: r) h
  | .land => ai_l2 st fun x y r => ai_nx (pc + 1) L (.long (x &&& y) :: r) h
  | .lor => ai_l2 st fun x y r => ai_nx (pc + 1) L (.long (x ||| y) :: r) h
  | .lxor => ai_l2 st fun x y r => ai_nx (pc + 1) L (.long (x ^^^ y) :: r) h
  | .lcmp => ai_l2 st fun x y r => ai_nx (pc + 1) L (.int (lg_cmp x y) :: r) h
  | .lshl => ai_lh st fun x y r => ai_nx (pc + 1) L (.long (x <<< (y.toInt64 &&& 63)) :: r) h
  | .lshr => ai_lh st fun x y r => ai_nx (pc + 1) L (.long (x >>> (y.toInt64 &&& 63)) :: r) h
  | .lushr => ai_lh st fun x y r => ai_nx (pc + 1) L (.long (x.toUInt64 >>> (y.toInt64.toUInt64 &&& Int64.toUInt64 63)).toInt64 :: r) h
  | .dup => ai_c1 st fun v r => ai_g (decide (v.category = 1)) (ai_nx (pc + 1) L (v :: v :: r) h)
  | .dup2 => ai_c1 st fun v r => ai_c1 r fun w q => ai_g (decide (v.category = 1) && decide (w.category = 1)) (ai_nx (pc + 1) L (v :: w :: v :: w :: q) h)
  | .goto off => ai_br pc off true L st h
  | .ifCond c off => ai_m1 st fun x r => ai_br pc off (ai_cnd c x 0) L r h
  | .if_icmp c off => ai_m2 st fun x y r => ai_br pc off (ai_cnd c x y) L r h
  | .ifnull off => ai_c1 st fun v r => (match v with
    | .ref _ => ai_br pc off false L r h
    | .null => ai_br pc off true L r h
    | _ => none)
  | .ifnonnull off => ai_c1 st fun v r => (match v with
    | .ref _ => ai_br pc off true L r h
    | .null => ai_br pc off false L r h
    | _ => none)
  | .tableswitch d lo hi offs => ai_m1 st fun x r => if x.toInt < lo ∨ hi < x.toInt then ai_br pc d true L r h else ai_o (offs[(x.toInt - lo).toNat]?) fun off => ai_br pc off true L r h
  | .getfield i => ai_c1 st fun v r => ai_ref v fun a => ai_o (ai_get ai_F (ai_ow mn) i) fun q => ai_o (ai_obj h a q.1) fun fs => ai_o (fs[q.2]?) fun w => ai_nx (pc + 3) L (w :: r) h
  | .putfield i => ai_c1 st fun v r => ai_c1 r fun u r => ai_ref u fun a => ai_o (ai_get ai_F (ai_ow mn) i) fun q => ai_o (ai_obj h a q.1) fun fs => ai_g (decide (q.2 < fs.length) && ai_okp (ai_nm mn) q.1 q.2 v) (ai_nx (pc + 3) L r (h.1.set a (.inr (q.1, fs.set q.2 v)), h.2))
  | .getstatic i => ai_g (ai_Z.contains (ai_ow mn, i)) (ai_nx (pc + 3) L (.float 1 :: st) h)
  | .iaload => ai_m1 st fun i r => ai_c1 r fun u r => (match u with
    | .ref a => ai_o (ai_arr h a 0) fun q => ai_g (ai_in i q.1) (ai_nx (pc + 1) L (.int (q.2 i.toNatClampNeg) :: r) h)
    | .float u => ai_g (ai_in i (ai_ext S u).1) (ai_nx (pc + 1) L (.int ((ai_ext S u).2 i.toNatClampNeg) :: r) h)
    | _ => none)
  | .baload => ai_m1 st fun i r => ai_c1 r fun u r => ai_ref u fun a => ai_o (ai_arr h a 1) fun q => ai_g (ai_in i q.1) (ai_nx (pc + 1) L (.int (q.2 i.toNatClampNeg) :: r) h)
  | .iastore => ai_m2 st fun i x r => ai_c1 r fun u r => ai_ref u fun a => ai_o (ai_arr h a 0) fun q => ai_g (ai_in i q.1) (ai_nx (pc + 1) L r (h.1.set a (.inl (0, q.1, .inl (upd q.2 i.toNatClampNeg x))), h.2))
  | .bastore => ai_m2 st fun i x r => ai_c1 r fun u r => ai_ref u fun a => ai_o (ai_arr h a 1) fun q => ai_g (ai_in i q.1 && decide (x &&& 1 = x)) (ai_nx (pc + 1) L r (h.1.set a (.inl (1, q.1, .inl (upd q.2 i.toNatClampNeg x))), h.2))
  | .aaload => ai_m1 st fun i r => ai_c1 r fun u r => ai_ref u fun a => ai_o (ai_arq h a) fun q => ai_g (ai_in i q.2.1 && (decide (2 ≤ q.1) && decide (q.1 < 5))) (ai_nx (pc + 1) L (va_rf (q.2.2 i.toNatClampNeg) :: r) h)
  | .aastore => ai_c1 st fun v r => ai_m1 r fun i r => ai_c1 r fun u r => ai_ref u fun a => ai_o (ai_arq h a) fun q => ai_g (ai_in i q.2.1 && (decide (2 ≤ q.1) && decide (q.1 < 5))) (match v with
    | .null => ai_nx (pc + 1) L r (h.1.set a (.inl (q.1, q.2.1, .inr (va_up q.2.2 i.toNatClampNeg none))), h.2)
    | .ref w => (match h.1[w]? with
      | some (.inr (c, _)) => ai_g (decide (ai_ao c = some q.1)) (ai_nx (pc + 1) L r (h.1.set a (.inl (q.1, q.2.1, .inr (va_up q.2.2 i.toNatClampNeg (some w)))), h.2))
      | _ => none)
    | _ => none)
  | .arraylength => ai_c1 st fun u r => (match u with
    | .ref a => ai_o (ai_alen h a) fun n => ai_nx (pc + 1) L (.int (Int32.ofNat n) :: r) h
    | .float u => ai_nx (pc + 1) L (.int (Int32.ofNat (ai_ext S u).1) :: r) h
    | _ => none)
  | .new i => ai_o (ai_get ai_N (ai_ow mn) i) fun c => ai_g (decide (c < 11)) (ai_nx (pc + 3) L (.ref h.1.length :: st) (h.1 ++ [.inr (c, ai_fs0 c)], h.2 + ai_nf c))
  | .newarray t => ai_m1 st fun n r => ai_g (decide (¬ n < 0) && decide (n.toNatClampNeg ≤ 100000)) (match t with
    | .int => ai_nx (pc + 2) L (.ref h.1.length :: r) (h.1 ++ [.inl (0, n.toNatClampNeg, .inl (fun _ => 0))], h.2 + n.toNatClampNeg)
    | .boolean => ai_nx (pc + 2) L (.ref h.1.length :: r) (h.1 ++ [.inl (1, n.toNatClampNeg, .inl (fun _ => 0))], h.2 + n.toNatClampNeg)
    | _ => none)
  | .anewarray i => ai_m1 st fun n r => ai_g (decide (¬ n < 0) && decide (n.toNatClampNeg ≤ 100000)) (ai_o (ai_get ai_N (ai_ow mn) i) fun c => ai_o (ai_ao c) fun t => ai_nx (pc + 3) L (.ref h.1.length :: r) (h.1 ++ [.inl (t, n.toNatClampNeg, .inr (fun _ => none))], h.2 + n.toNatClampNeg))
  | .invokevirtual i => ai_o (ai_get ai_G (ai_ow mn) i) fun q => ai_cll h q.1 q.2 true false st
  | .invokespecial i => if ai_O.contains (ai_ow mn, i) = true then (ai_c1 st fun v r => ai_ref v fun _ => ai_g (decide (ai_sum r ≤ 8)) (ai_nx (pc + 3) L r h)) else ai_o (ai_get ai_G (ai_ow mn) i) fun q => ai_cll h q.1 q.2 false true st
  | .invokestatic i => ai_o (ai_get ai_G (ai_ow mn) i) fun q => ai_g (decide (q.2 ≤ st.length) && (decide (ai_sum (st.drop q.2) ≤ 8) && decide ((lg_sl (st.take q.2).reverse).length ≤ ai_ml q.1))) (some (.inr (.inl (q.1, (st.take q.2).reverse, st.drop q.2))))
  | .return_ => (match st with
    | [] => ai_g (decide (ai_rt mn = none)) (some (.inr (.inr none)))
    | _ => none)
  | .ireturn => (match st with
    | [.int x] => ai_g (decide (ai_rt mn = some .int) || (decide (ai_rt mn = some .boolean) && decide (x &&& 1 = x))) (some (.inr (.inr (some (.int x)))))
    | _ => none)
  | .areturn => (match st with
    | [.ref a] => (match ai_rt mn with
      | some (.object _) => some (.inr (.inr (some (.ref a))))
      | _ => none)
    | [.null] => (match ai_rt mn with
      | some (.object _) => some (.inr (.inr (some .null)))
      | _ => none)
    | _ => none)
  | _ => none
def ai_step (S : ai_S) (mn pc : Nat) (L : ai_L) (st : List Value) (h : ai_H) : Option ai_R := match ai_I mn pc with
  | some i => ai_do S mn pc L st h i
  | none => none
def ai_run (S : ai_S) : Nat → Nat → Nat → Nat → ai_L → List Value → ai_H → Option (Option Value × ai_H)
  | 0, _, _, _, _, _, _ => none
  | n + 1, d, mn, pc, L, st, h => match ai_step S mn pc L st h with
    | none => none
    | some (.inl q) => ai_run S n d mn q.1 q.2.1 q.2.2.1 q.2.2.2
    | some (.inr (.inl q)) => (match d with
      | 0 => none
      | d' + 1 => (match ai_run S n d' q.1 0 (lv_args 0 q.2.1) [] h with
        | none => none
        | some x => ai_run S n (d' + 1) mn (pc + 3) L (x.1.toList ++ q.2.2) x.2))
    | some (.inr (.inr r)) => some (r, h)
theorem ai_run_succ {S : ai_S} : ∀ (n d mn pc : Nat) (L : ai_L) (st : List Value) (h : ai_H) (x : Option Value × ai_H), ai_run S n d mn pc L st h = some x → ai_run S (n + 1) d mn pc L st h = some x := by
  intro n
  induction n with
  | zero => intro d mn pc L st h x e; simp [ai_run] at e
  | succ n ih =>
    intro d mn pc L st h x e
    rw [ai_run] at e ⊢
    cases hs : ai_step S mn pc L st h with
    | none => rw [hs] at e; cases e
    | some q =>
      rw [hs] at e
      rcases q with q | q | q
      · exact ih _ _ _ _ _ _ _ e
      · cases d with
        | zero => cases e
        | succ d =>
          dsimp only at e ⊢
          cases hr : ai_run S n d q.1 0 (lv_args 0 q.2.1) [] h with
          | none => rw [hr] at e; cases e
          | some y =>
            rw [hr] at e
            rw [ih _ _ _ _ _ _ _ hr]
            exact ih _ _ _ _ _ _ _ e
      · exact e
theorem ai_run_le {S : ai_S} {n k d mn pc : Nat} {L : ai_L} {st : List Value} {h : ai_H} {x : Option Value × ai_H} (hk : n ≤ k) (e : ai_run S n d mn pc L st h = some x) : ai_run S k d mn pc L st h = some x := by
  induction hk with
  | refl => exact e
  | step _ ih => exact ai_run_succ _ _ _ _ _ _ _ _ ih
/-- from here the method comes to an end with Q -/
def RR (S : ai_S) (d mn pc : Nat) (L : ai_L) (st : List Value) (h : ai_H) (Q : Option Value → ai_H → Prop) : Prop := ∃ n x, ai_run S n d mn pc L st h = some x ∧ Q x.1 x.2
theorem RR.next {S : ai_S} {d mn pc : Nat} {L : ai_L} {st : List Value} {h : ai_H} {Q : Option Value → ai_H → Prop} {q : Nat × ai_L × List Value × ai_H} (hs : ai_step S mn pc L st h = some (.inl q)) : RR S d mn pc L st h Q = RR S d mn q.1 q.2.1 q.2.2.1 q.2.2.2 Q := by
  refine propext ⟨fun ⟨n, x, e, hq⟩ => ?_, fun ⟨n, x, e, hq⟩ => ⟨n + 1, x, ?_, hq⟩⟩
  · cases n with
    | zero => simp [ai_run] at e
    | succ n => rw [ai_run, hs] at e; exact ⟨n, x, e, hq⟩
  · rw [ai_run, hs]; exact e
theorem RR.ret {S : ai_S} {d mn pc : Nat} {L : ai_L} {st : List Value} {h : ai_H} {Q : Option Value → ai_H → Prop} {r : Option Value} (hs : ai_step S mn pc L st h = some (.inr (.inr r))) : RR S d mn pc L st h Q = Q r h := by
  refine propext ⟨fun ⟨n, x, e, hq⟩ => ?_, fun hq => ⟨1, (r, h), ?_, hq⟩⟩
  · cases n with
    | zero => simp [ai_run] at e
    | succ n => rw [ai_run, hs] at e; cases e; exact hq
  · rw [ai_run, hs]
theorem RR.call {S : ai_S} {d mn pc : Nat} {L : ai_L} {st : List Value} {h : ai_H} {Q : Option Value → ai_H → Prop} {q : Nat × List Value × List Value} (hs : ai_step S mn pc L st h = some (.inr (.inl q))) :
    RR S (d + 1) mn pc L st h Q = RR S d q.1 0 (lv_args 0 q.2.1) [] h (fun r h1 => RR S (d + 1) mn (pc + 3) L (r.toList ++ q.2.2) h1 Q) := by
  refine propext ⟨fun ⟨n, x, e, hq⟩ => ?_, fun ⟨n, x, e, k, y, e2, hq⟩ => ⟨n + k + 1, y, ?_, hq⟩⟩
  · cases n with
    | zero => simp [ai_run] at e
    | succ n =>
      rw [ai_run, hs] at e
      dsimp only at e
      cases hr : ai_run S n d q.1 0 (lv_args 0 q.2.1) [] h with
      | none => rw [hr] at e; cases e
      | some y => rw [hr] at e; exact ⟨n, y, hr, n, x, e, hq⟩
  · rw [ai_run, hs]
    dsimp only
    rw [ai_run_le (Nat.le_add_right n k) e]
    exact ai_run_le (Nat.le_add_left k n) e2
/-- one result: R as an equation -/
theorem RR.val {S : ai_S} {d mn pc : Nat} {L : ai_L} {st : List Value} {h h' : ai_H} {r : Option Value} (e : RR S d mn pc L st h (fun r1 h1 => r1 = r ∧ h1 = h')) (Q : Option Value → ai_H → Prop) : RR S d mn pc L st h Q = Q r h' := by
  obtain ⟨n, x, e, e1, e2⟩ := e
  refine propext ⟨fun ⟨k, y, e3, hq⟩ => ?_, fun hq => ⟨n, x, e, by rw [e1, e2]; exact hq⟩⟩
  have a := ai_run_le (Nat.le_add_right n k) e
  have b := ai_run_le (Nat.le_add_left k n) e3
  rw [a] at b
  cases b
  rw [← e1, ← e2]; exact hq
theorem RR.mono {S : ai_S} {d mn pc : Nat} {L : ai_L} {st : List Value} {h : ai_H} {Q Q' : Option Value → ai_H → Prop} (e : RR S d mn pc L st h Q) (hq : ∀ r h1, Q r h1 → Q' r h1) : RR S d mn pc L st h Q' := by
  obtain ⟨n, x, e, q⟩ := e
  exact ⟨n, x, e, hq _ _ q⟩
end
