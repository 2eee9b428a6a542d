-- ===== PART A: goes FIRST, ahead of the names: the tables' words, and 'selects' of the private methods out of them =====
/-- a private method of a class that the tables say can be made, by its rows of tables_1 -/
def lw_okq (q : MethodName × Nat) : Prop := (q.1.cls ≠ "java/lang/invoke/MethodHandle" ∧ q.1.cls ≠ "java/lang/invoke/VarHandle") ∧ Cond.instantiable q.1.cls q.2 ∈ tables_1 ∧ Cond.privateMethod q.1 ∈ tables_1 ∧ Cond.instanceMethod q.1 ∈ tables_1
theorem lw_p0 : lw_okq (⟨"DoorNet$Ways", "walk", "(IIIII)V"⟩, 5) := ⟨⟨by decide +kernel, by decide +kernel⟩, List.mem_of_getElem? (i := 73) (by decide +kernel), List.mem_of_getElem? (i := 300) (by decide +kernel), List.mem_of_getElem? (i := 301) (by decide +kernel)⟩
theorem lw_p1 : lw_okq (⟨"DoorNet$Ways", "offer", "(I)V"⟩, 5) := ⟨⟨by decide +kernel, by decide +kernel⟩, List.mem_of_getElem? (i := 73) (by decide +kernel), List.mem_of_getElem? (i := 315) (by decide +kernel), List.mem_of_getElem? (i := 316) (by decide +kernel)⟩
theorem lw_p2 : lw_okq (⟨"DoorNet", "isPeriod", "(I)Z"⟩, 6) := ⟨⟨by decide +kernel, by decide +kernel⟩, List.mem_of_getElem? (i := 15) (by decide +kernel), List.mem_of_getElem? (i := 333) (by decide +kernel), List.mem_of_getElem? (i := 334) (by decide +kernel)⟩
theorem lw_p3 : lw_okq (⟨"DoorNet", "findChoices", "(LDoorNet$Stream;III)V"⟩, 6) := ⟨⟨by decide +kernel, by decide +kernel⟩, List.mem_of_getElem? (i := 15) (by decide +kernel), List.mem_of_getElem? (i := 382) (by decide +kernel), List.mem_of_getElem? (i := 383) (by decide +kernel)⟩
theorem lw_p4 : lw_okq (⟨"DoorNet$Planner", "giveDoors", "(I)V"⟩, 8) := ⟨⟨by decide +kernel, by decide +kernel⟩, List.mem_of_getElem? (i := 148) (by decide +kernel), List.mem_of_getElem? (i := 418) (by decide +kernel), List.mem_of_getElem? (i := 419) (by decide +kernel)⟩
theorem lw_p5 : lw_okq (⟨"DoorNet$Ring", "includeTurned", "(JJI)V"⟩, 3) := ⟨⟨by decide +kernel, by decide +kernel⟩, List.mem_of_getElem? (i := 119) (by decide +kernel), List.mem_of_getElem? (i := 454) (by decide +kernel), List.mem_of_getElem? (i := 455) (by decide +kernel)⟩
theorem lw_p6 : lw_okq (⟨"DoorNet$Planner", "search", "(I)I"⟩, 8) := ⟨⟨by decide +kernel, by decide +kernel⟩, List.mem_of_getElem? (i := 148) (by decide +kernel), List.mem_of_getElem? (i := 486) (by decide +kernel), List.mem_of_getElem? (i := 487) (by decide +kernel)⟩
theorem lw_p7 : lw_okq (⟨"DoorNet$Planner", "searchTicks", "(ILDoorNet$Stream;I)I"⟩, 8) := ⟨⟨by decide +kernel, by decide +kernel⟩, List.mem_of_getElem? (i := 148) (by decide +kernel), List.mem_of_getElem? (i := 504) (by decide +kernel), List.mem_of_getElem? (i := 505) (by decide +kernel)⟩
theorem lw_p8 : lw_okq (⟨"DoorNet$Planner", "keepPlaces", "()V"⟩, 8) := ⟨⟨by decide +kernel, by decide +kernel⟩, List.mem_of_getElem? (i := 148) (by decide +kernel), List.mem_of_getElem? (i := 513) (by decide +kernel), List.mem_of_getElem? (i := 514) (by decide +kernel)⟩
theorem lw_p9 : lw_okq (⟨"DoorNet$Post", "setOutAll", "()V"⟩, 9) := ⟨⟨by decide +kernel, by decide +kernel⟩, List.mem_of_getElem? (i := 183) (by decide +kernel), List.mem_of_getElem? (i := 698) (by decide +kernel), List.mem_of_getElem? (i := 699) (by decide +kernel)⟩
theorem lw_p10 : lw_okq (⟨"DoorNet$Post", "findHead", "(I)V"⟩, 9) := ⟨⟨by decide +kernel, by decide +kernel⟩, List.mem_of_getElem? (i := 183) (by decide +kernel), List.mem_of_getElem? (i := 712) (by decide +kernel), List.mem_of_getElem? (i := 713) (by decide +kernel)⟩
theorem lw_p11 : lw_okq (⟨"DoorNet$Post", "beginOf", "(LDoorNet$Letter;I)I"⟩, 9) := ⟨⟨by decide +kernel, by decide +kernel⟩, List.mem_of_getElem? (i := 183) (by decide +kernel), List.mem_of_getElem? (i := 729) (by decide +kernel), List.mem_of_getElem? (i := 730) (by decide +kernel)⟩
theorem lw_p12 : lw_okq (⟨"DoorNet$Post", "earliestWire", "()I"⟩, 9) := ⟨⟨by decide +kernel, by decide +kernel⟩, List.mem_of_getElem? (i := 183) (by decide +kernel), List.mem_of_getElem? (i := 739) (by decide +kernel), List.mem_of_getElem? (i := 740) (by decide +kernel)⟩
theorem lw_p13 : lw_okq (⟨"DoorNet$Post", "beginOn", "(I)V"⟩, 9) := ⟨⟨by decide +kernel, by decide +kernel⟩, List.mem_of_getElem? (i := 183) (by decide +kernel), List.mem_of_getElem? (i := 743) (by decide +kernel), List.mem_of_getElem? (i := 744) (by decide +kernel)⟩
theorem lw_p14 : lw_okq (⟨"DoorNet$Post", "waitingAt", "(II)I"⟩, 9) := ⟨⟨by decide +kernel, by decide +kernel⟩, List.mem_of_getElem? (i := 183) (by decide +kernel), List.mem_of_getElem? (i := 767) (by decide +kernel), List.mem_of_getElem? (i := 768) (by decide +kernel)⟩
theorem lw_p15 : lw_okq (⟨"DoorNetModel", "isBox", "(I)Z"⟩, 42) := ⟨⟨by decide +kernel, by decide +kernel⟩, List.mem_of_getElem? (i := 785) (by decide +kernel), List.mem_of_getElem? (i := 927) (by decide +kernel), List.mem_of_getElem? (i := 928) (by decide +kernel)⟩
def lw_privs_1 : List (MethodName × Nat) := [(⟨"DoorNet$Ways", "walk", "(IIIII)V"⟩, 5), (⟨"DoorNet$Ways", "offer", "(I)V"⟩, 5), (⟨"DoorNet", "isPeriod", "(I)Z"⟩, 6), (⟨"DoorNet", "findChoices", "(LDoorNet$Stream;III)V"⟩, 6), (⟨"DoorNet$Planner", "giveDoors", "(I)V"⟩, 8), (⟨"DoorNet$Ring", "includeTurned", "(JJI)V"⟩, 3), (⟨"DoorNet$Planner", "search", "(I)I"⟩, 8), (⟨"DoorNet$Planner", "searchTicks", "(ILDoorNet$Stream;I)I"⟩, 8), (⟨"DoorNet$Planner", "keepPlaces", "()V"⟩, 8), (⟨"DoorNet$Post", "setOutAll", "()V"⟩, 9), (⟨"DoorNet$Post", "findHead", "(I)V"⟩, 9), (⟨"DoorNet$Post", "beginOf", "(LDoorNet$Letter;I)I"⟩, 9), (⟨"DoorNet$Post", "earliestWire", "()I"⟩, 9), (⟨"DoorNet$Post", "beginOn", "(I)V"⟩, 9), (⟨"DoorNet$Post", "waitingAt", "(II)I"⟩, 9), (⟨"DoorNetModel", "isBox", "(I)Z"⟩, 42)]
theorem lw_r1 : ∀ q ∈ lw_privs_1, lw_okq q := List.forall_mem_cons.mpr ⟨lw_p0, List.forall_mem_cons.mpr ⟨lw_p1, List.forall_mem_cons.mpr ⟨lw_p2, List.forall_mem_cons.mpr ⟨lw_p3, List.forall_mem_cons.mpr ⟨lw_p4, List.forall_mem_cons.mpr ⟨lw_p5, List.forall_mem_cons.mpr ⟨lw_p6, List.forall_mem_cons.mpr ⟨lw_p7, List.forall_mem_cons.mpr ⟨lw_p8, List.forall_mem_cons.mpr ⟨lw_p9, List.forall_mem_cons.mpr ⟨lw_p10, List.forall_mem_cons.mpr ⟨lw_p11, List.forall_mem_cons.mpr ⟨lw_p12, List.forall_mem_cons.mpr ⟨lw_p13, List.forall_mem_cons.mpr ⟨lw_p14, List.forall_mem_cons.mpr ⟨lw_p15, fun _ h => absurd h List.not_mem_nil⟩⟩⟩⟩⟩⟩⟩⟩⟩⟩⟩⟩⟩⟩⟩⟩
theorem lw_p16 : lw_okq (⟨"DoorNetModel", "findWays", "(III)V"⟩, 42) := ⟨⟨by decide +kernel, by decide +kernel⟩, List.mem_of_getElem? (i := 785) (by decide +kernel), List.mem_of_getElem? (i := 946) (by decide +kernel), List.mem_of_getElem? (i := 947) (by decide +kernel)⟩
theorem lw_p17 : lw_okq (⟨"DoorNetModel", "isSeen", "(III)Z"⟩, 42) := ⟨⟨by decide +kernel, by decide +kernel⟩, List.mem_of_getElem? (i := 785) (by decide +kernel), List.mem_of_getElem? (i := 950) (by decide +kernel), List.mem_of_getElem? (i := 951) (by decide +kernel)⟩
theorem lw_p18 : lw_okq (⟨"DoorNetModel", "keep", "(II)V"⟩, 42) := ⟨⟨by decide +kernel, by decide +kernel⟩, List.mem_of_getElem? (i := 785) (by decide +kernel), List.mem_of_getElem? (i := 954) (by decide +kernel), List.mem_of_getElem? (i := 955) (by decide +kernel)⟩
theorem lw_p19 : lw_okq (⟨"DoorNetModel", "late", "([IIII)I"⟩, 42) := ⟨⟨by decide +kernel, by decide +kernel⟩, List.mem_of_getElem? (i := 785) (by decide +kernel), List.mem_of_getElem? (i := 958) (by decide +kernel), List.mem_of_getElem? (i := 959) (by decide +kernel)⟩
theorem lw_p20 : lw_okq (⟨"DoorNetModel", "isBehind", "(III)Z"⟩, 42) := ⟨⟨by decide +kernel, by decide +kernel⟩, List.mem_of_getElem? (i := 785) (by decide +kernel), List.mem_of_getElem? (i := 962) (by decide +kernel), List.mem_of_getElem? (i := 963) (by decide +kernel)⟩
theorem lw_p21 : lw_okq (⟨"DoorNetModel", "lay", "()V"⟩, 42) := ⟨⟨by decide +kernel, by decide +kernel⟩, List.mem_of_getElem? (i := 785) (by decide +kernel), List.mem_of_getElem? (i := 974) (by decide +kernel), List.mem_of_getElem? (i := 975) (by decide +kernel)⟩
theorem lw_p22 : lw_okq (⟨"DoorNetModel", "put", "(IIII)V"⟩, 42) := ⟨⟨by decide +kernel, by decide +kernel⟩, List.mem_of_getElem? (i := 785) (by decide +kernel), List.mem_of_getElem? (i := 978) (by decide +kernel), List.mem_of_getElem? (i := 979) (by decide +kernel)⟩
theorem lw_p23 : lw_okq (⟨"DoorNetModel", "start", "(IIII)I"⟩, 42) := ⟨⟨by decide +kernel, by decide +kernel⟩, List.mem_of_getElem? (i := 785) (by decide +kernel), List.mem_of_getElem? (i := 982) (by decide +kernel), List.mem_of_getElem? (i := 983) (by decide +kernel)⟩
theorem lw_p24 : lw_okq (⟨"DoorNetModel", "seekWith", "(I)I"⟩, 42) := ⟨⟨by decide +kernel, by decide +kernel⟩, List.mem_of_getElem? (i := 785) (by decide +kernel), List.mem_of_getElem? (i := 990) (by decide +kernel), List.mem_of_getElem? (i := 991) (by decide +kernel)⟩
theorem lw_p25 : lw_okq (⟨"DoorNetModel", "seek", "()I"⟩, 42) := ⟨⟨by decide +kernel, by decide +kernel⟩, List.mem_of_getElem? (i := 785) (by decide +kernel), List.mem_of_getElem? (i := 994) (by decide +kernel), List.mem_of_getElem? (i := 995) (by decide +kernel)⟩
theorem lw_p26 : lw_okq (⟨"DoorNetModel", "meets", "(III)Z"⟩, 42) := ⟨⟨by decide +kernel, by decide +kernel⟩, List.mem_of_getElem? (i := 785) (by decide +kernel), List.mem_of_getElem? (i := 999) (by decide +kernel), List.mem_of_getElem? (i := 1000) (by decide +kernel)⟩
theorem lw_p27 : lw_okq (⟨"DoorNetModel", "placed", "()I"⟩, 42) := ⟨⟨by decide +kernel, by decide +kernel⟩, List.mem_of_getElem? (i := 785) (by decide +kernel), List.mem_of_getElem? (i := 1011) (by decide +kernel), List.mem_of_getElem? (i := 1012) (by decide +kernel)⟩
theorem lw_p28 : lw_okq (⟨"DoorNetModel", "nextSet", "(III)I"⟩, 42) := ⟨⟨by decide +kernel, by decide +kernel⟩, List.mem_of_getElem? (i := 785) (by decide +kernel), List.mem_of_getElem? (i := 1015) (by decide +kernel), List.mem_of_getElem? (i := 1016) (by decide +kernel)⟩
theorem lw_p29 : lw_okq (⟨"DoorNetModel", "isPlace", "(I)Z"⟩, 42) := ⟨⟨by decide +kernel, by decide +kernel⟩, List.mem_of_getElem? (i := 785) (by decide +kernel), List.mem_of_getElem? (i := 1029) (by decide +kernel), List.mem_of_getElem? (i := 1030) (by decide +kernel)⟩
theorem lw_p30 : lw_okq (⟨"DoorNetModel", "isWire", "(I)Z"⟩, 42) := ⟨⟨by decide +kernel, by decide +kernel⟩, List.mem_of_getElem? (i := 785) (by decide +kernel), List.mem_of_getElem? (i := 1041) (by decide +kernel), List.mem_of_getElem? (i := 1042) (by decide +kernel)⟩
theorem lw_p31 : lw_okq (⟨"DoorNetModel", "isOpen", "(III)Z"⟩, 42) := ⟨⟨by decide +kernel, by decide +kernel⟩, List.mem_of_getElem? (i := 785) (by decide +kernel), List.mem_of_getElem? (i := 1049) (by decide +kernel), List.mem_of_getElem? (i := 1050) (by decide +kernel)⟩
def lw_privs_2 : List (MethodName × Nat) := [(⟨"DoorNetModel", "findWays", "(III)V"⟩, 42), (⟨"DoorNetModel", "isSeen", "(III)Z"⟩, 42), (⟨"DoorNetModel", "keep", "(II)V"⟩, 42), (⟨"DoorNetModel", "late", "([IIII)I"⟩, 42), (⟨"DoorNetModel", "isBehind", "(III)Z"⟩, 42), (⟨"DoorNetModel", "lay", "()V"⟩, 42), (⟨"DoorNetModel", "put", "(IIII)V"⟩, 42), (⟨"DoorNetModel", "start", "(IIII)I"⟩, 42), (⟨"DoorNetModel", "seekWith", "(I)I"⟩, 42), (⟨"DoorNetModel", "seek", "()I"⟩, 42), (⟨"DoorNetModel", "meets", "(III)Z"⟩, 42), (⟨"DoorNetModel", "placed", "()I"⟩, 42), (⟨"DoorNetModel", "nextSet", "(III)I"⟩, 42), (⟨"DoorNetModel", "isPlace", "(I)Z"⟩, 42), (⟨"DoorNetModel", "isWire", "(I)Z"⟩, 42), (⟨"DoorNetModel", "isOpen", "(III)Z"⟩, 42)]
theorem lw_r2 : ∀ q ∈ lw_privs_2, lw_okq q := List.forall_mem_cons.mpr ⟨lw_p16, List.forall_mem_cons.mpr ⟨lw_p17, List.forall_mem_cons.mpr ⟨lw_p18, List.forall_mem_cons.mpr ⟨lw_p19, List.forall_mem_cons.mpr ⟨lw_p20, List.forall_mem_cons.mpr ⟨lw_p21, List.forall_mem_cons.mpr ⟨lw_p22, List.forall_mem_cons.mpr ⟨lw_p23, List.forall_mem_cons.mpr ⟨lw_p24, List.forall_mem_cons.mpr ⟨lw_p25, List.forall_mem_cons.mpr ⟨lw_p26, List.forall_mem_cons.mpr ⟨lw_p27, List.forall_mem_cons.mpr ⟨lw_p28, List.forall_mem_cons.mpr ⟨lw_p29, List.forall_mem_cons.mpr ⟨lw_p30, List.forall_mem_cons.mpr ⟨lw_p31, fun _ h => absurd h List.not_mem_nil⟩⟩⟩⟩⟩⟩⟩⟩⟩⟩⟩⟩⟩⟩⟩⟩
theorem lw_p32 : lw_okq (⟨"DoorNetModel", "rest", "(I)I"⟩, 42) := ⟨⟨by decide +kernel, by decide +kernel⟩, List.mem_of_getElem? (i := 785) (by decide +kernel), List.mem_of_getElem? (i := 1053) (by decide +kernel), List.mem_of_getElem? (i := 1054) (by decide +kernel)⟩
theorem lw_p33 : lw_okq (⟨"DoorNetModel", "leave", "(III)I"⟩, 42) := ⟨⟨by decide +kernel, by decide +kernel⟩, List.mem_of_getElem? (i := 785) (by decide +kernel), List.mem_of_getElem? (i := 1074) (by decide +kernel), List.mem_of_getElem? (i := 1075) (by decide +kernel)⟩
theorem lw_p34 : lw_okq (⟨"DoorNetModel", "follow", "()V"⟩, 42) := ⟨⟨by decide +kernel, by decide +kernel⟩, List.mem_of_getElem? (i := 785) (by decide +kernel), List.mem_of_getElem? (i := 1086) (by decide +kernel), List.mem_of_getElem? (i := 1087) (by decide +kernel)⟩
theorem lw_p35 : lw_okq (⟨"DoorNetModel", "look", "(II)V"⟩, 42) := ⟨⟨by decide +kernel, by decide +kernel⟩, List.mem_of_getElem? (i := 785) (by decide +kernel), List.mem_of_getElem? (i := 1091) (by decide +kernel), List.mem_of_getElem? (i := 1092) (by decide +kernel)⟩
theorem lw_p36 : lw_okq (⟨"DoorNetModel", "go", "(III)V"⟩, 42) := ⟨⟨by decide +kernel, by decide +kernel⟩, List.mem_of_getElem? (i := 785) (by decide +kernel), List.mem_of_getElem? (i := 1095) (by decide +kernel), List.mem_of_getElem? (i := 1096) (by decide +kernel)⟩
def lw_privs_3 : List (MethodName × Nat) := [(⟨"DoorNetModel", "rest", "(I)I"⟩, 42), (⟨"DoorNetModel", "leave", "(III)I"⟩, 42), (⟨"DoorNetModel", "follow", "()V"⟩, 42), (⟨"DoorNetModel", "look", "(II)V"⟩, 42), (⟨"DoorNetModel", "go", "(III)V"⟩, 42)]
theorem lw_r3 : ∀ q ∈ lw_privs_3, lw_okq q := List.forall_mem_cons.mpr ⟨lw_p32, List.forall_mem_cons.mpr ⟨lw_p33, List.forall_mem_cons.mpr ⟨lw_p34, List.forall_mem_cons.mpr ⟨lw_p35, List.forall_mem_cons.mpr ⟨lw_p36, fun _ h => absurd h List.not_mem_nil⟩⟩⟩⟩⟩
def lw_privs : List (MethodName × Nat) := lw_privs_1 ++ (lw_privs_2 ++ (lw_privs_3))
def lw_tbl : List Cond := k2_sels lw_privs ++ tables_1
theorem lw_privs_ok : ∀ q ∈ lw_privs, lw_okq q := by
  show ∀ q ∈ lw_privs_1 ++ (lw_privs_2 ++ (lw_privs_3)), lw_okq q
  exact List.forall_mem_append.mpr ⟨lw_r1, List.forall_mem_append.mpr ⟨lw_r2, lw_r3⟩⟩

def RX0 : String := "DoorNet$Doors"
def TX0 : u_T := fun k => match k with
  | 0 => ("DoorNet$Doors", "net", "LDoorNet$Net;", true)
  | 1 => ("DoorNet$Doors", "taken", "[LDoorNet$Ring;", true)
  | 2 => ("DoorNet$Doors", "letters", "LDoorNet$Ring;", true)
  | _ => ("DoorNet$Doors", "oneMeets", "LDoorNet$Ring;", true)
def tyX0 : Nat → FieldType := fun k => match k with
  | 0 => .object "DoorNet$Net"
  | 1 => .array (.object "DoorNet$Ring")
  | 2 => .object "DoorNet$Ring"
  | _ => .object "DoorNet$Ring"
theorem nmX0 : ∀ a, a < 4 → ∀ b, b < 4 → a ≠ b → (TX0 a).2.1 ≠ (TX0 b).2.1 := by decide +kernel
theorem tyX0_ok : ∀ k, k < 4 → parseFieldDescriptor (TX0 k).2.2.1 = some (tyX0 k) := by decide +kernel
abbrev cX0_init : ByteArray := prog_2_method_1_code
def yX0_init : MethodName := ⟨RX0, "<init>", "(LDoorNet$Net;)V"⟩
abbrev cX0_clear : ByteArray := prog_2_method_2_code
def yX0_clear : MethodName := ⟨RX0, "clear", "()V"⟩
abbrev cX0_hand : ByteArray := prog_2_method_3_code
def yX0_hand : MethodName := ⟨RX0, "hand", "(LDoorNet$Stream;IIZ)V"⟩
abbrev cX0_findMeetings : ByteArray := prog_2_method_4_code
def yX0_findMeetings : MethodName := ⟨RX0, "findMeetings", "(LDoorNet$Ring;LDoorNet$Stream;I)V"⟩
abbrev cX0_waitFrom : ByteArray := prog_2_method_5_code
def yX0_waitFrom : MethodName := ⟨RX0, "waitFrom", "(III)I"⟩
def RX1 : String := "DoorNet$Letter"
def TX1 : u_T := fun k => match k with
  | 0 => ("DoorNet$Letter", "sent", "I", true)
  | 1 => ("DoorNet$Letter", "from", "I", true)
  | 2 => ("DoorNet$Letter", "to", "I", true)
  | 3 => ("DoorNet$Letter", "size", "I", true)
  | 4 => ("DoorNet$Letter", "waited", "[I", true)
  | 5 => ("DoorNet$Letter", "begun", "[I", true)
  | 6 => ("DoorNet$Letter", "way", "I", false)
  | 7 => ("DoorNet$Letter", "hop", "I", false)
  | _ => ("DoorNet$Letter", "end", "I", false)
def tyX1 : Nat → FieldType := fun k => match k with
  | 0 => .int
  | 1 => .int
  | 2 => .int
  | 3 => .int
  | 4 => .array .int
  | 5 => .array .int
  | 6 => .int
  | 7 => .int
  | _ => .int
theorem nmX1 : ∀ a, a < 9 → ∀ b, b < 9 → a ≠ b → (TX1 a).2.1 ≠ (TX1 b).2.1 := by decide +kernel
theorem tyX1_ok : ∀ k, k < 9 → parseFieldDescriptor (TX1 k).2.2.1 = some (tyX1 k) := by decide +kernel
abbrev cX1_init : ByteArray := prog_3_method_1_code
def yX1_init : MethodName := ⟨RX1, "<init>", "(IIII)V"⟩
abbrev cX1_setOut : ByteArray := prog_3_method_2_code
def yX1_setOut : MethodName := ⟨RX1, "setOut", "(I)V"⟩
abbrev cX1_nextWire : ByteArray := prog_3_method_3_code
def yX1_nextWire : MethodName := ⟨RX1, "nextWire", "()I"⟩
abbrev cX1_readyAt : ByteArray := prog_3_method_4_code
def yX1_readyAt : MethodName := ⟨RX1, "readyAt", "()I"⟩
abbrev cX1_goesAheadOf : ByteArray := prog_3_method_5_code
def yX1_goesAheadOf : MethodName := ⟨RX1, "goesAheadOf", "(LDoorNet$Letter;)Z"⟩
abbrev cX1_readyFor : ByteArray := prog_3_method_6_code
def yX1_readyFor : MethodName := ⟨RX1, "readyFor", "(I)I"⟩
abbrev cX1_waitsFor : ByteArray := prog_3_method_7_code
def yX1_waitsFor : MethodName := ⟨RX1, "waitsFor", "(II)Z"⟩
def RX2 : String := "DoorNet$Net"
def TX2 : u_T := fun k => match k with
  | 0 => ("DoorNet$Net", "hold", "[I", true)
  | 1 => ("DoorNet$Net", "off", "[I", true)
  | 2 => ("DoorNet$Net", "from", "[I", true)
  | 3 => ("DoorNet$Net", "to", "[I", true)
  | 4 => ("DoorNet$Net", "length", "[I", true)
  | 5 => ("DoorNet$Net", "speed", "[I", true)
  | 6 => ("DoorNet$Net", "boxes", "I", false)
  | 7 => ("DoorNet$Net", "wires", "I", false)
  | 8 => ("DoorNet$Net", "ticks", "I", false)
  | _ => ("DoorNet$Net", "slack", "I", false)
def tyX2 : Nat → FieldType := fun k => match k with
  | 0 => .array .int
  | 1 => .array .int
  | 2 => .array .int
  | 3 => .array .int
  | 4 => .array .int
  | 5 => .array .int
  | 6 => .int
  | 7 => .int
  | 8 => .int
  | _ => .int
theorem nmX2 : ∀ a, a < 10 → ∀ b, b < 10 → a ≠ b → (TX2 a).2.1 ≠ (TX2 b).2.1 := by decide +kernel
theorem tyX2_ok : ∀ k, k < 10 → parseFieldDescriptor (TX2 k).2.2.1 = some (tyX2 k) := by decide +kernel
abbrev cX2_init : ByteArray := prog_4_method_1_code
def yX2_init : MethodName := ⟨RX2, "<init>", "()V"⟩
abbrev cX2_hasBox : ByteArray := prog_4_method_2_code
def yX2_hasBox : MethodName := ⟨RX2, "hasBox", "(I)Z"⟩
abbrev cX2_hasPair : ByteArray := prog_4_method_3_code
def yX2_hasPair : MethodName := ⟨RX2, "hasPair", "(II)Z"⟩
abbrev cX2_hasWire : ByteArray := prog_4_method_4_code
def yX2_hasWire : MethodName := ⟨RX2, "hasWire", "(I)Z"⟩
abbrev cX2_hasTick : ByteArray := prog_4_method_5_code
def yX2_hasTick : MethodName := ⟨RX2, "hasTick", "(I)Z"⟩
abbrev cX2_makeBox : ByteArray := prog_4_method_6_code
def yX2_makeBox : MethodName := ⟨RX2, "makeBox", "(I)I"⟩
abbrev cX2_makeWire : ByteArray := prog_4_method_7_code
def yX2_makeWire : MethodName := ⟨RX2, "makeWire", "(IIII)I"⟩
abbrev cX2_rightClocks : ByteArray := prog_4_method_8_code
def yX2_rightClocks : MethodName := ⟨RX2, "rightClocks", "()V"⟩
abbrev cX2_timeOn : ByteArray := prog_4_method_9_code
def yX2_timeOn : MethodName := ⟨RX2, "timeOn", "(II)I"⟩
abbrev cX2_crossing : ByteArray := prog_4_method_10_code
def yX2_crossing : MethodName := ⟨RX2, "crossing", "(II)I"⟩
abbrev cX2_holdBehind : ByteArray := prog_4_method_11_code
def yX2_holdBehind : MethodName := ⟨RX2, "holdBehind", "(I)I"⟩
abbrev cX2_stayBehind : ByteArray := prog_4_method_12_code
def yX2_stayBehind : MethodName := ⟨RX2, "stayBehind", "(I)I"⟩
abbrev cX2_offAt : ByteArray := prog_4_method_13_code
def yX2_offAt : MethodName := ⟨RX2, "offAt", "(I)I"⟩
abbrev cX2_startOf : ByteArray := prog_4_method_14_code
def yX2_startOf : MethodName := ⟨RX2, "startOf", "(LDoorNet$Stream;I)I"⟩
abbrev cX2_beginOf : ByteArray := prog_4_method_15_code
def yX2_beginOf : MethodName := ⟨RX2, "beginOf", "(LDoorNet$Stream;II)I"⟩
abbrev cX2_hasDoor : ByteArray := prog_4_method_16_code
def yX2_hasDoor : MethodName := ⟨RX2, "hasDoor", "(LDoorNet$Stream;II)Z"⟩
def RX3 : String := "DoorNet$Planner"
def TX3 : u_T := fun k => match k with
  | 0 => ("DoorNet$Planner", "streams", "LDoorNet$Streams;", true)
  | 1 => ("DoorNet$Planner", "doors", "LDoorNet$Doors;", true)
  | 2 => ("DoorNet$Planner", "sought", "[LDoorNet$Stream;", true)
  | 3 => ("DoorNet$Planner", "meetings", "[LDoorNet$Ring;", true)
  | 4 => ("DoorNet$Planner", "choices", "[I", true)
  | 5 => ("DoorNet$Planner", "ticks", "[I", true)
  | 6 => ("DoorNet$Planner", "many", "I", false)
  | _ => ("DoorNet$Planner", "made", "I", false)
def tyX3 : Nat → FieldType := fun k => match k with
  | 0 => .object "DoorNet$Streams"
  | 1 => .object "DoorNet$Doors"
  | 2 => .array (.object "DoorNet$Stream")
  | 3 => .array (.object "DoorNet$Ring")
  | 4 => .array .int
  | 5 => .array .int
  | 6 => .int
  | _ => .int
theorem nmX3 : ∀ a, a < 8 → ∀ b, b < 8 → a ≠ b → (TX3 a).2.1 ≠ (TX3 b).2.1 := by decide +kernel
theorem tyX3_ok : ∀ k, k < 8 → parseFieldDescriptor (TX3 k).2.2.1 = some (tyX3 k) := by decide +kernel
abbrev cX3_init : ByteArray := prog_5_method_1_code
def yX3_init : MethodName := ⟨RX3, "<init>", "(LDoorNet$Net;LDoorNet$Streams;LDoorNet$Doors;)V"⟩
abbrev cX3_begin : ByteArray := prog_5_method_2_code
def yX3_begin : MethodName := ⟨RX3, "begin", "()V"⟩
abbrev cX3_fitFewest : ByteArray := prog_5_method_3_code
def yX3_fitFewest : MethodName := ⟨RX3, "fitFewest", "()I"⟩
abbrev cX3_mirrored : ByteArray := prog_5_method_4_code
def yX3_mirrored : MethodName := ⟨RX3, "mirrored", "(I)I"⟩
abbrev cX3_fit : ByteArray := prog_5_method_5_code
def yX3_fit : MethodName := ⟨RX3, "fit", "(I)I"⟩
abbrev cX3_showDoors : ByteArray := prog_5_method_6_code
def yX3_showDoors : MethodName := ⟨RX3, "showDoors", "()V"⟩
abbrev cX3_giveDoors : ByteArray := prog_5_method_7_code
def yX3_giveDoors : MethodName := ⟨RX3, "giveDoors", "(I)V"⟩
abbrev cX3_keepPlaces : ByteArray := prog_5_method_8_code
def yX3_keepPlaces : MethodName := ⟨RX3, "keepPlaces", "()V"⟩
abbrev cX3_search : ByteArray := prog_5_method_9_code
def yX3_search : MethodName := ⟨RX3, "search", "(I)I"⟩
abbrev cX3_searchTicks : ByteArray := prog_5_method_10_code
def yX3_searchTicks : MethodName := ⟨RX3, "searchTicks", "(ILDoorNet$Stream;I)I"⟩
def RX4 : String := "DoorNet$Post"
def TX4 : u_T := fun k => match k with
  | 0 => ("DoorNet$Post", "net", "LDoorNet$Net;", true)
  | 1 => ("DoorNet$Post", "ways", "LDoorNet$Ways;", true)
  | 2 => ("DoorNet$Post", "doors", "LDoorNet$Doors;", true)
  | 3 => ("DoorNet$Post", "letters", "[LDoorNet$Letter;", true)
  | 4 => ("DoorNet$Post", "heads", "[LDoorNet$Letter;", true)
  | 5 => ("DoorNet$Post", "headBegins", "[I", true)
  | 6 => ("DoorNet$Post", "freeFrom", "[I", true)
  | 7 => ("DoorNet$Post", "told", "I", false)
  | _ => ("DoorNet$Post", "stale", "Z", false)
def tyX4 : Nat → FieldType := fun k => match k with
  | 0 => .object "DoorNet$Net"
  | 1 => .object "DoorNet$Ways"
  | 2 => .object "DoorNet$Doors"
  | 3 => .array (.object "DoorNet$Letter")
  | 4 => .array (.object "DoorNet$Letter")
  | 5 => .array .int
  | 6 => .array .int
  | 7 => .int
  | _ => .boolean
theorem nmX4 : ∀ a, a < 9 → ∀ b, b < 9 → a ≠ b → (TX4 a).2.1 ≠ (TX4 b).2.1 := by decide +kernel
theorem tyX4_ok : ∀ k, k < 9 → parseFieldDescriptor (TX4 k).2.2.1 = some (tyX4 k) := by decide +kernel
abbrev cX4_init : ByteArray := prog_6_method_1_code
def yX4_init : MethodName := ⟨RX4, "<init>", "(LDoorNet$Net;LDoorNet$Ways;LDoorNet$Doors;)V"⟩
abbrev cX4_tell : ByteArray := prog_6_method_2_code
def yX4_tell : MethodName := ⟨RX4, "tell", "(LDoorNet$Letter;)I"⟩
abbrev cX4_letter : ByteArray := prog_6_method_3_code
def yX4_letter : MethodName := ⟨RX4, "letter", "(I)LDoorNet$Letter;"⟩
abbrev cX4_settle : ByteArray := prog_6_method_4_code
def yX4_settle : MethodName := ⟨RX4, "settle", "()V"⟩
abbrev cX4_setOutAll : ByteArray := prog_6_method_5_code
def yX4_setOutAll : MethodName := ⟨RX4, "setOutAll", "()V"⟩
abbrev cX4_findHead : ByteArray := prog_6_method_6_code
def yX4_findHead : MethodName := ⟨RX4, "findHead", "(I)V"⟩
abbrev cX4_beginOf : ByteArray := prog_6_method_7_code
def yX4_beginOf : MethodName := ⟨RX4, "beginOf", "(LDoorNet$Letter;I)I"⟩
abbrev cX4_earliestWire : ByteArray := prog_6_method_8_code
def yX4_earliestWire : MethodName := ⟨RX4, "earliestWire", "()I"⟩
abbrev cX4_beginOn : ByteArray := prog_6_method_9_code
def yX4_beginOn : MethodName := ⟨RX4, "beginOn", "(I)V"⟩
abbrev cX4_longestRow : ByteArray := prog_6_method_10_code
def yX4_longestRow : MethodName := ⟨RX4, "longestRow", "(I)I"⟩
abbrev cX4_waitingAt : ByteArray := prog_6_method_11_code
def yX4_waitingAt : MethodName := ⟨RX4, "waitingAt", "(II)I"⟩
abbrev cX4_ended : ByteArray := prog_6_method_12_code
def yX4_ended : MethodName := ⟨RX4, "ended", "()I"⟩
def RX5 : String := "DoorNet$Ring"
def TX5 : u_T := fun k => match k with
  | 0 => ("DoorNet$Ring", "net", "LDoorNet$Net;", true)
  | 1 => ("DoorNet$Ring", "low", "J", false)
  | _ => ("DoorNet$Ring", "high", "J", false)
def tyX5 : Nat → FieldType := fun k => match k with
  | 0 => .object "DoorNet$Net"
  | 1 => .long
  | _ => .long
theorem nmX5 : ∀ a, a < 3 → ∀ b, b < 3 → a ≠ b → (TX5 a).2.1 ≠ (TX5 b).2.1 := by decide +kernel
theorem tyX5_ok : ∀ k, k < 3 → parseFieldDescriptor (TX5 k).2.2.1 = some (tyX5 k) := by decide +kernel
abbrev cX5_init : ByteArray := prog_7_method_1_code
def yX5_init : MethodName := ⟨RX5, "<init>", "(LDoorNet$Net;)V"⟩
abbrev cX5_clear : ByteArray := prog_7_method_2_code
def yX5_clear : MethodName := ⟨RX5, "clear", "()V"⟩
abbrev cX5_fill : ByteArray := prog_7_method_3_code
def yX5_fill : MethodName := ⟨RX5, "fill", "()V"⟩
abbrev cX5_has : ByteArray := prog_7_method_4_code
def yX5_has : MethodName := ⟨RX5, "has", "(I)Z"⟩
abbrev cX5_include : ByteArray := prog_7_method_5_code
def yX5_include : MethodName := ⟨RX5, "include", "(LDoorNet$Ring;)V"⟩
abbrev cX5_exclude : ByteArray := prog_7_method_6_code
def yX5_exclude : MethodName := ⟨RX5, "exclude", "(LDoorNet$Ring;)V"⟩
abbrev cX5_includePutOff : ByteArray := prog_7_method_7_code
def yX5_includePutOff : MethodName := ⟨RX5, "includePutOff", "(LDoorNet$Ring;I)V"⟩
abbrev cX5_becomeLetters : ByteArray := prog_7_method_8_code
def yX5_becomeLetters : MethodName := ⟨RX5, "becomeLetters", "(III)V"⟩
abbrev cX5_lettersOf : ByteArray := prog_7_method_9_code
def yX5_lettersOf : MethodName := ⟨RX5, "lettersOf", "(I)I"⟩
abbrev cX5_includeTurned : ByteArray := prog_7_method_10_code
def yX5_includeTurned : MethodName := ⟨RX5, "includeTurned", "(JJI)V"⟩
def RX6 : String := "DoorNet$Stream"
def TX6 : u_T := fun k => match k with
  | 0 => ("DoorNet$Stream", "size", "I", true)
  | 1 => ("DoorNet$Stream", "period", "I", true)
  | 2 => ("DoorNet$Stream", "ways", "[I", true)
  | 3 => ("DoorNet$Stream", "choices", "I", false)
  | 4 => ("DoorNet$Stream", "choice", "I", false)
  | _ => ("DoorNet$Stream", "tick", "I", false)
def tyX6 : Nat → FieldType := fun k => match k with
  | 0 => .int
  | 1 => .int
  | 2 => .array .int
  | 3 => .int
  | 4 => .int
  | _ => .int
theorem nmX6 : ∀ a, a < 6 → ∀ b, b < 6 → a ≠ b → (TX6 a).2.1 ≠ (TX6 b).2.1 := by decide +kernel
theorem tyX6_ok : ∀ k, k < 6 → parseFieldDescriptor (TX6 k).2.2.1 = some (tyX6 k) := by decide +kernel
abbrev cX6_init : ByteArray := prog_8_method_1_code
def yX6_init : MethodName := ⟨RX6, "<init>", "(II)V"⟩
abbrev cX6_offer : ByteArray := prog_8_method_2_code
def yX6_offer : MethodName := ⟨RX6, "offer", "(I)V"⟩
abbrev cX6_wayOf : ByteArray := prog_8_method_3_code
def yX6_wayOf : MethodName := ⟨RX6, "wayOf", "(I)I"⟩
abbrev cX6_wayNow : ByteArray := prog_8_method_4_code
def yX6_wayNow : MethodName := ⟨RX6, "wayNow", "()I"⟩
def RX7 : String := "DoorNet$Streams"
def TX7 : u_T := fun k => match k with
  | 0 => ("DoorNet$Streams", "all", "[LDoorNet$Stream;", true)
  | _ => ("DoorNet$Streams", "told", "I", false)
def tyX7 : Nat → FieldType := fun k => match k with
  | 0 => .array (.object "DoorNet$Stream")
  | _ => .int
theorem nmX7 : ∀ a, a < 2 → ∀ b, b < 2 → a ≠ b → (TX7 a).2.1 ≠ (TX7 b).2.1 := by decide +kernel
theorem tyX7_ok : ∀ k, k < 2 → parseFieldDescriptor (TX7 k).2.2.1 = some (tyX7 k) := by decide +kernel
abbrev cX7_init : ByteArray := prog_9_method_1_code
def yX7_init : MethodName := ⟨RX7, "<init>", "()V"⟩
abbrev cX7_tell : ByteArray := prog_9_method_2_code
def yX7_tell : MethodName := ⟨RX7, "tell", "(LDoorNet$Stream;)I"⟩
abbrev cX7_one : ByteArray := prog_9_method_3_code
def yX7_one : MethodName := ⟨RX7, "one", "(I)LDoorNet$Stream;"⟩
abbrev cX7_placedOne : ByteArray := prog_9_method_4_code
def yX7_placedOne : MethodName := ⟨RX7, "placedOne", "(I)LDoorNet$Stream;"⟩
abbrev cX7_allOfThem : ByteArray := prog_9_method_5_code
def yX7_allOfThem : MethodName := ⟨RX7, "allOfThem", "()I"⟩
abbrev cX7_withPlace : ByteArray := prog_9_method_6_code
def yX7_withPlace : MethodName := ⟨RX7, "withPlace", "()I"⟩
abbrev cX7_withoutPlace : ByteArray := prog_9_method_7_code
def yX7_withoutPlace : MethodName := ⟨RX7, "withoutPlace", "()I"⟩
def RX8 : String := "DoorNet$Ways"
def TX8 : u_T := fun k => match k with
  | 0 => ("DoorNet$Ways", "net", "LDoorNet$Net;", true)
  | 1 => ("DoorNet$Ways", "goal", "I", false)
  | 2 => ("DoorNet$Ways", "size", "I", false)
  | 3 => ("DoorNet$Ways", "behind", "I", false)
  | _ => ("DoorNet$Ways", "least", "I", false)
def tyX8 : Nat → FieldType := fun k => match k with
  | 0 => .object "DoorNet$Net"
  | 1 => .int
  | 2 => .int
  | 3 => .int
  | _ => .int
theorem nmX8 : ∀ a, a < 5 → ∀ b, b < 5 → a ≠ b → (TX8 a).2.1 ≠ (TX8 b).2.1 := by decide +kernel
theorem tyX8_ok : ∀ k, k < 5 → parseFieldDescriptor (TX8 k).2.2.1 = some (tyX8 k) := by decide +kernel
abbrev cX8_init : ByteArray := prog_10_method_1_code
def yX8_init : MethodName := ⟨RX8, "<init>", "(LDoorNet$Net;)V"⟩
abbrev cX8_latenessOf : ByteArray := prog_10_method_2_code
def yX8_latenessOf : MethodName := ⟨RX8, "latenessOf", "(I)I"⟩
abbrev cX8_wireAt : ByteArray := prog_10_method_3_code
def yX8_wireAt : MethodName := ⟨RX8, "wireAt", "(II)I"⟩
abbrev cX8_wiresIn : ByteArray := prog_10_method_4_code
def yX8_wiresIn : MethodName := ⟨RX8, "wiresIn", "(I)I"⟩
abbrev cX8_hasHop : ByteArray := prog_10_method_5_code
def yX8_hasHop : MethodName := ⟨RX8, "hasHop", "(II)Z"⟩
abbrev cX8_hopOn : ByteArray := prog_10_method_6_code
def yX8_hopOn : MethodName := ⟨RX8, "hopOn", "(II)I"⟩
abbrev cX8_shiftOf : ByteArray := prog_10_method_7_code
def yX8_shiftOf : MethodName := ⟨RX8, "shiftOf", "(I)I"⟩
abbrev cX8_atRank : ByteArray := prog_10_method_8_code
def yX8_atRank : MethodName := ⟨RX8, "atRank", "(IIII)I"⟩
abbrev cX8_nextBehind : ByteArray := prog_10_method_9_code
def yX8_nextBehind : MethodName := ⟨RX8, "nextBehind", "(IIII)I"⟩
abbrev cX8_walk : ByteArray := prog_10_method_10_code
def yX8_walk : MethodName := ⟨RX8, "walk", "(IIIII)V"⟩
abbrev cX8_offer : ByteArray := prog_10_method_11_code
def yX8_offer : MethodName := ⟨RX8, "offer", "(I)V"⟩
def RX9 : String := "DoorNet"
def TX9 : u_T := fun k => match k with
  | 0 => ("DoorNet", "net", "LDoorNet$Net;", true)
  | 1 => ("DoorNet", "ways", "LDoorNet$Ways;", true)
  | 2 => ("DoorNet", "streams", "LDoorNet$Streams;", true)
  | 3 => ("DoorNet", "doors", "LDoorNet$Doors;", true)
  | 4 => ("DoorNet", "planner", "LDoorNet$Planner;", true)
  | _ => ("DoorNet", "post", "LDoorNet$Post;", true)
def tyX9 : Nat → FieldType := fun k => match k with
  | 0 => .object "DoorNet$Net"
  | 1 => .object "DoorNet$Ways"
  | 2 => .object "DoorNet$Streams"
  | 3 => .object "DoorNet$Doors"
  | 4 => .object "DoorNet$Planner"
  | _ => .object "DoorNet$Post"
theorem nmX9 : ∀ a, a < 6 → ∀ b, b < 6 → a ≠ b → (TX9 a).2.1 ≠ (TX9 b).2.1 := by decide +kernel
theorem tyX9_ok : ∀ k, k < 6 → parseFieldDescriptor (TX9 k).2.2.1 = some (tyX9 k) := by decide +kernel
abbrev cX9_init : ByteArray := prog_1_method_1_code
def yX9_init : MethodName := ⟨RX9, "<init>", "()V"⟩
abbrev cX9_box : ByteArray := prog_1_method_2_code
def yX9_box : MethodName := ⟨RX9, "box", "(I)I"⟩
abbrev cX9_wire : ByteArray := prog_1_method_3_code
def yX9_wire : MethodName := ⟨RX9, "wire", "(IIII)I"⟩
abbrev cX9_cycle : ByteArray := prog_1_method_4_code
def yX9_cycle : MethodName := ⟨RX9, "cycle", "(I)Z"⟩
abbrev cX9_drift : ByteArray := prog_1_method_5_code
def yX9_drift : MethodName := ⟨RX9, "drift", "(I)Z"⟩
abbrev cX9_way : ByteArray := prog_1_method_6_code
def yX9_way : MethodName := ⟨RX9, "way", "(IIIII)I"⟩
abbrev cX9_stream : ByteArray := prog_1_method_7_code
def yX9_stream : MethodName := ⟨RX9, "stream", "(IIIII)I"⟩
abbrev cX9_strike : ByteArray := prog_1_method_8_code
def yX9_strike : MethodName := ⟨RX9, "strike", "(I)Z"⟩
abbrev cX9_plan : ByteArray := prog_1_method_9_code
def yX9_plan : MethodName := ⟨RX9, "plan", "()I"⟩
abbrev cX9_add : ByteArray := prog_1_method_10_code
def yX9_add : MethodName := ⟨RX9, "add", "()I"⟩
abbrev cX9_stir : ByteArray := prog_1_method_11_code
def yX9_stir : MethodName := ⟨RX9, "stir", "()I"⟩
abbrev cX9_place : ByteArray := prog_1_method_12_code
def yX9_place : MethodName := ⟨RX9, "place", "(II)I"⟩
abbrev cX9_tries : ByteArray := prog_1_method_13_code
def yX9_tries : MethodName := ⟨RX9, "tries", "()I"⟩
abbrev cX9_door : ByteArray := prog_1_method_14_code
def yX9_door : MethodName := ⟨RX9, "door", "(II)I"⟩
abbrev cX9_waits : ByteArray := prog_1_method_15_code
def yX9_waits : MethodName := ⟨RX9, "waits", "(III)I"⟩
abbrev cX9_worst : ByteArray := prog_1_method_16_code
def yX9_worst : MethodName := ⟨RX9, "worst", "(II)I"⟩
abbrev cX9_clock : ByteArray := prog_1_method_17_code
def yX9_clock : MethodName := ⟨RX9, "clock", "(II)Z"⟩
abbrev cX9_send : ByteArray := prog_1_method_18_code
def yX9_send : MethodName := ⟨RX9, "send", "(IIII)I"⟩
abbrev cX9_leaves : ByteArray := prog_1_method_19_code
def yX9_leaves : MethodName := ⟨RX9, "leaves", "(III)I"⟩
abbrev cX9_room : ByteArray := prog_1_method_20_code
def yX9_room : MethodName := ⟨RX9, "room", "(III)I"⟩
abbrev cX9_plain : ByteArray := prog_1_method_21_code
def yX9_plain : MethodName := ⟨RX9, "plain", "(II)I"⟩
abbrev cX9_most : ByteArray := prog_1_method_22_code
def yX9_most : MethodName := ⟨RX9, "most", "(I)I"⟩
abbrev cX9_count : ByteArray := prog_1_method_23_code
def yX9_count : MethodName := ⟨RX9, "count", "(I)I"⟩
abbrev cX9_findChoices : ByteArray := prog_1_method_24_code
def yX9_findChoices : MethodName := ⟨RX9, "findChoices", "(LDoorNet$Stream;III)V"⟩
abbrev cX9_isPeriod : ByteArray := prog_1_method_25_code
def yX9_isPeriod : MethodName := ⟨RX9, "isPeriod", "(I)Z"⟩
abbrev cX9_isInTime : ByteArray := prog_1_method_26_code
def yX9_isInTime : MethodName := ⟨RX9, "isInTime", "(II)Z"⟩
abbrev cX9_isCycle : ByteArray := prog_1_method_27_code
def yX9_isCycle : MethodName := ⟨RX9, "isCycle", "(I)Z"⟩
abbrev cX9_isSize : ByteArray := prog_1_method_28_code
def yX9_isSize : MethodName := ⟨RX9, "isSize", "(I)Z"⟩
abbrev cX9_within : ByteArray := prog_1_method_29_code
def yX9_within : MethodName := ⟨RX9, "within", "(III)Z"⟩
abbrev cX9_aheadOfEnd : ByteArray := prog_1_method_30_code
def yX9_aheadOfEnd : MethodName := ⟨RX9, "aheadOfEnd", "(I)I"⟩
def RX10 : String := "DoorNetModel"
def TX10 : u_T := fun k => match k with
  | 0 => ("DoorNetModel", "boxes", "I", false)
  | 1 => ("DoorNetModel", "hold", "[I", true)
  | 2 => ("DoorNetModel", "off", "[I", true)
  | 3 => ("DoorNetModel", "wires", "I", false)
  | 4 => ("DoorNetModel", "fromBox", "[I", true)
  | 5 => ("DoorNetModel", "toBox", "[I", true)
  | 6 => ("DoorNetModel", "length", "[I", true)
  | 7 => ("DoorNetModel", "speed", "[I", true)
  | 8 => ("DoorNetModel", "cycle", "I", false)
  | 9 => ("DoorNetModel", "drift", "I", false)
  | 10 => ("DoorNetModel", "streams", "I", false)
  | 11 => ("DoorNetModel", "size", "[I", true)
  | 12 => ("DoorNetModel", "period", "[I", true)
  | 13 => ("DoorNetModel", "choices", "[I", true)
  | 14 => ("DoorNetModel", "choiceLength", "[I", true)
  | 15 => ("DoorNetModel", "choiceWire", "[I", true)
  | 16 => ("DoorNetModel", "choiceLate", "[I", true)
  | 17 => ("DoorNetModel", "isPlaced", "[Z", true)
  | 18 => ("DoorNetModel", "choice", "[I", true)
  | 19 => ("DoorNetModel", "tick", "[I", true)
  | 20 => ("DoorNetModel", "tried", "I", false)
  | 21 => ("DoorNetModel", "has", "[I", true)
  | 22 => ("DoorNetModel", "plain", "I", false)
  | 23 => ("DoorNetModel", "plainTick", "[I", true)
  | 24 => ("DoorNetModel", "plainSize", "[I", true)
  | 25 => ("DoorNetModel", "plainLength", "[I", true)
  | 26 => ("DoorNetModel", "plainWire", "[I", true)
  | 27 => ("DoorNetModel", "ways", "I", false)
  | 28 => ("DoorNetModel", "wayLength", "[I", true)
  | 29 => ("DoorNetModel", "wayWire", "[I", true)
  | 30 => ("DoorNetModel", "wayLate", "[I", true)
  | 31 => ("DoorNetModel", "going", "[I", true)
  | 32 => ("DoorNetModel", "sought", "[I", true)
  | 33 => ("DoorNetModel", "trying", "[I", true)
  | 34 => ("DoorNetModel", "seeks", "I", false)
  | 35 => ("DoorNetModel", "changed", "Z", false)
  | 36 => ("DoorNetModel", "ready", "[I", true)
  | 37 => ("DoorNetModel", "begins", "[I", true)
  | 38 => ("DoorNetModel", "ends", "[I", true)
  | 39 => ("DoorNetModel", "next", "[I", true)
  | 40 => ("DoorNetModel", "free", "[I", true)
  | _ => ("DoorNetModel", "mostWaits", "[I", true)
def tyX10 : Nat → FieldType := fun k => match k with
  | 0 => .int
  | 1 => .array .int
  | 2 => .array .int
  | 3 => .int
  | 4 => .array .int
  | 5 => .array .int
  | 6 => .array .int
  | 7 => .array .int
  | 8 => .int
  | 9 => .int
  | 10 => .int
  | 11 => .array .int
  | 12 => .array .int
  | 13 => .array .int
  | 14 => .array .int
  | 15 => .array .int
  | 16 => .array .int
  | 17 => .array .boolean
  | 18 => .array .int
  | 19 => .array .int
  | 20 => .int
  | 21 => .array .int
  | 22 => .int
  | 23 => .array .int
  | 24 => .array .int
  | 25 => .array .int
  | 26 => .array .int
  | 27 => .int
  | 28 => .array .int
  | 29 => .array .int
  | 30 => .array .int
  | 31 => .array .int
  | 32 => .array .int
  | 33 => .array .int
  | 34 => .int
  | 35 => .boolean
  | 36 => .array .int
  | 37 => .array .int
  | 38 => .array .int
  | 39 => .array .int
  | 40 => .array .int
  | _ => .array .int
theorem nmX10 : ∀ a, a < 42 → ∀ b, b < 42 → a ≠ b → (TX10 a).2.1 ≠ (TX10 b).2.1 := by decide +kernel
theorem tyX10_ok : ∀ k, k < 42 → parseFieldDescriptor (TX10 k).2.2.1 = some (tyX10 k) := by decide +kernel
abbrev cX10_init : ByteArray := prog_12_method_1_code
def yX10_init : MethodName := ⟨RX10, "<init>", "()V"⟩
abbrev cX10_isBox : ByteArray := prog_12_method_2_code
def yX10_isBox : MethodName := ⟨RX10, "isBox", "(I)Z"⟩
abbrev cX10_isWire : ByteArray := prog_12_method_3_code
def yX10_isWire : MethodName := ⟨RX10, "isWire", "(I)Z"⟩
abbrev cX10_box : ByteArray := prog_12_method_4_code
def yX10_box : MethodName := ⟨RX10, "box", "(I)I"⟩
abbrev cX10_wire : ByteArray := prog_12_method_5_code
def yX10_wire : MethodName := ⟨RX10, "wire", "(IIII)I"⟩
abbrev cX10_cycle : ByteArray := prog_12_method_6_code
def yX10_cycle : MethodName := ⟨RX10, "cycle", "(I)Z"⟩
abbrev cX10_drift : ByteArray := prog_12_method_7_code
def yX10_drift : MethodName := ⟨RX10, "drift", "(I)Z"⟩
abbrev cX10_late : ByteArray := prog_12_method_8_code
def yX10_late : MethodName := ⟨RX10, "late", "([IIII)I"⟩
abbrev cX10_isSeen : ByteArray := prog_12_method_9_code
def yX10_isSeen : MethodName := ⟨RX10, "isSeen", "(III)Z"⟩
abbrev cX10_findWays : ByteArray := prog_12_method_10_code
def yX10_findWays : MethodName := ⟨RX10, "findWays", "(III)V"⟩
abbrev cX10_keep : ByteArray := prog_12_method_11_code
def yX10_keep : MethodName := ⟨RX10, "keep", "(II)V"⟩
abbrev cX10_isBehind : ByteArray := prog_12_method_12_code
def yX10_isBehind : MethodName := ⟨RX10, "isBehind", "(III)Z"⟩
abbrev cX10_isSize : ByteArray := prog_12_method_13_code
def yX10_isSize : MethodName := ⟨RX10, "isSize", "(I)Z"⟩
abbrev cX10_way : ByteArray := prog_12_method_14_code
def yX10_way : MethodName := ⟨RX10, "way", "(IIIII)I"⟩
abbrev cX10_stream : ByteArray := prog_12_method_15_code
def yX10_stream : MethodName := ⟨RX10, "stream", "(IIIII)I"⟩
abbrev cX10_strike : ByteArray := prog_12_method_16_code
def yX10_strike : MethodName := ⟨RX10, "strike", "(I)Z"⟩
abbrev cX10_start : ByteArray := prog_12_method_17_code
def yX10_start : MethodName := ⟨RX10, "start", "(IIII)I"⟩
abbrev cX10_meets : ByteArray := prog_12_method_18_code
def yX10_meets : MethodName := ⟨RX10, "meets", "(III)Z"⟩
abbrev cX10_put : ByteArray := prog_12_method_19_code
def yX10_put : MethodName := ⟨RX10, "put", "(IIII)V"⟩
abbrev cX10_lay : ByteArray := prog_12_method_20_code
def yX10_lay : MethodName := ⟨RX10, "lay", "()V"⟩
abbrev cX10_seek : ByteArray := prog_12_method_21_code
def yX10_seek : MethodName := ⟨RX10, "seek", "()I"⟩
abbrev cX10_seekWith : ByteArray := prog_12_method_22_code
def yX10_seekWith : MethodName := ⟨RX10, "seekWith", "(I)I"⟩
abbrev cX10_plan : ByteArray := prog_12_method_23_code
def yX10_plan : MethodName := ⟨RX10, "plan", "()I"⟩
abbrev cX10_add : ByteArray := prog_12_method_24_code
def yX10_add : MethodName := ⟨RX10, "add", "()I"⟩
abbrev cX10_placed : ByteArray := prog_12_method_25_code
def yX10_placed : MethodName := ⟨RX10, "placed", "()I"⟩
abbrev cX10_bits : ByteArray := prog_12_method_26_code
def yX10_bits : MethodName := ⟨RX10, "bits", "(I)I"⟩
abbrev cX10_isAhead : ByteArray := prog_12_method_27_code
def yX10_isAhead : MethodName := ⟨RX10, "isAhead", "(II)Z"⟩
abbrev cX10_nextSet : ByteArray := prog_12_method_28_code
def yX10_nextSet : MethodName := ⟨RX10, "nextSet", "(III)I"⟩
abbrev cX10_stir : ByteArray := prog_12_method_29_code
def yX10_stir : MethodName := ⟨RX10, "stir", "()I"⟩
abbrev cX10_isPlace : ByteArray := prog_12_method_30_code
def yX10_isPlace : MethodName := ⟨RX10, "isPlace", "(I)Z"⟩
abbrev cX10_place : ByteArray := prog_12_method_31_code
def yX10_place : MethodName := ⟨RX10, "place", "(II)I"⟩
abbrev cX10_tries : ByteArray := prog_12_method_32_code
def yX10_tries : MethodName := ⟨RX10, "tries", "()I"⟩
abbrev cX10_door : ByteArray := prog_12_method_33_code
def yX10_door : MethodName := ⟨RX10, "door", "(II)I"⟩
abbrev cX10_rest : ByteArray := prog_12_method_34_code
def yX10_rest : MethodName := ⟨RX10, "rest", "(I)I"⟩
abbrev cX10_isOpen : ByteArray := prog_12_method_35_code
def yX10_isOpen : MethodName := ⟨RX10, "isOpen", "(III)Z"⟩
abbrev cX10_waits : ByteArray := prog_12_method_36_code
def yX10_waits : MethodName := ⟨RX10, "waits", "(III)I"⟩
abbrev cX10_worst : ByteArray := prog_12_method_37_code
def yX10_worst : MethodName := ⟨RX10, "worst", "(II)I"⟩
abbrev cX10_clock : ByteArray := prog_12_method_38_code
def yX10_clock : MethodName := ⟨RX10, "clock", "(II)Z"⟩
abbrev cX10_send : ByteArray := prog_12_method_39_code
def yX10_send : MethodName := ⟨RX10, "send", "(IIII)I"⟩
abbrev cX10_leave : ByteArray := prog_12_method_40_code
def yX10_leave : MethodName := ⟨RX10, "leave", "(III)I"⟩
abbrev cX10_leaves : ByteArray := prog_12_method_41_code
def yX10_leaves : MethodName := ⟨RX10, "leaves", "(III)I"⟩
abbrev cX10_room : ByteArray := prog_12_method_42_code
def yX10_room : MethodName := ⟨RX10, "room", "(III)I"⟩
abbrev cX10_follow : ByteArray := prog_12_method_43_code
def yX10_follow : MethodName := ⟨RX10, "follow", "()V"⟩
abbrev cX10_look : ByteArray := prog_12_method_44_code
def yX10_look : MethodName := ⟨RX10, "look", "(II)V"⟩
abbrev cX10_go : ByteArray := prog_12_method_45_code
def yX10_go : MethodName := ⟨RX10, "go", "(III)V"⟩
abbrev cX10_ahead : ByteArray := prog_12_method_46_code
def yX10_ahead : MethodName := ⟨RX10, "ahead", "(I)I"⟩
abbrev cX10_plain : ByteArray := prog_12_method_47_code
def yX10_plain : MethodName := ⟨RX10, "plain", "(II)I"⟩
abbrev cX10_most : ByteArray := prog_12_method_48_code
def yX10_most : MethodName := ⟨RX10, "most", "(I)I"⟩
abbrev cX10_count : ByteArray := prog_12_method_49_code
def yX10_count : MethodName := ⟨RX10, "count", "(I)I"⟩
def RJ6 : String := "java/lang/Integer"
def TJ6 : u_T := fun k => match k with
  | _ => ("", "", "", false)
def tyJ6 : Nat → FieldType := fun k => match k with
  | _ => .int
theorem nmJ6 : ∀ a, a < 0 → ∀ b, b < 0 → a ≠ b → (TJ6 a).2.1 ≠ (TJ6 b).2.1 := by decide +kernel
theorem tyJ6_ok : ∀ k, k < 0 → parseFieldDescriptor (TJ6 k).2.2.1 = some (tyJ6 k) := by decide +kernel
abbrev cJ6_bitCount_0f7a4 : ByteArray := prog_13_method_49_code
def yJ6_bitCount_0f7a4 : MethodName := ⟨RJ6, "bitCount", "(I)I"⟩
def RJ9 : String := "java/lang/Math"
def TJ9 : u_T := fun k => match k with
  | _ => ("", "", "", false)
def tyJ9 : Nat → FieldType := fun k => match k with
  | _ => .int
theorem nmJ9 : ∀ a, a < 0 → ∀ b, b < 0 → a ≠ b → (TJ9 a).2.1 ≠ (TJ9 b).2.1 := by decide +kernel
theorem tyJ9_ok : ∀ k, k < 0 → parseFieldDescriptor (TJ9 k).2.2.1 = some (tyJ9 k) := by decide +kernel
abbrev cJ9_floorMod_7cf53 : ByteArray := prog_14_method_50_code
def yJ9_floorMod_7cf53 : MethodName := ⟨RJ9, "floorMod", "(II)I"⟩
abbrev cJ9_max_7cf53 : ByteArray := prog_14_method_65_code
def yJ9_max_7cf53 : MethodName := ⟨RJ9, "max", "(II)I"⟩
abbrev cJ9_min_7cf53 : ByteArray := prog_14_method_69_code
def yJ9_min_7cf53 : MethodName := ⟨RJ9, "min", "(II)I"⟩
def RL : String := "DoorNetLaw"
abbrev cL_law : ByteArray := code
def yL_law : MethodName := ⟨RL, "law", "([I)Z"⟩
