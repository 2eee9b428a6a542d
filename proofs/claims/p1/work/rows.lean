section
-- ===== PART A: goes FIRST, ahead of the names: the tables' words, and 'selects' of the private methods out of them =====
/-- a private method of a class that the tables say can be made, by its rows of tables_1 -/
def lw_okq (q : MethodName × Nat) : Prop := (q.1.cls ≠ "java/lang/invoke/MethodHandle" ∧ q.1.cls ≠ "java/lang/invoke/VarHandle") ∧ Cond.instantiable q.1.cls q.2 ∈ tables_1 ∧ Cond.privateMethod q.1 ∈ tables_1 ∧ Cond.instanceMethod q.1 ∈ tables_1
theorem lw_p0 : lw_okq (⟨"DoorNet$Ways", "walk", "(IIIII)V"⟩, 5) := ⟨⟨by decide +kernel, by decide +kernel⟩, List.mem_of_getElem? (i := 73) (by decide +kernel), List.mem_of_getElem? (i := 300) (by decide +kernel), List.mem_of_getElem? (i := 301) (by decide +kernel)⟩
theorem lw_p1 : lw_okq (⟨"DoorNet$Ways", "offer", "(I)V"⟩, 5) := ⟨⟨by decide +kernel, by decide +kernel⟩, List.mem_of_getElem? (i := 73) (by decide +kernel), List.mem_of_getElem? (i := 315) (by decide +kernel), List.mem_of_getElem? (i := 316) (by decide +kernel)⟩
theorem lw_p2 : lw_okq (⟨"DoorNet", "isPeriod", "(I)Z"⟩, 6) := ⟨⟨by decide +kernel, by decide +kernel⟩, List.mem_of_getElem? (i := 15) (by decide +kernel), List.mem_of_getElem? (i := 333) (by decide +kernel), List.mem_of_getElem? (i := 334) (by decide +kernel)⟩
theorem lw_p3 : lw_okq (⟨"DoorNet", "findChoices", "(LDoorNet$Stream;III)V"⟩, 6) := ⟨⟨by decide +kernel, by decide +kernel⟩, List.mem_of_getElem? (i := 15) (by decide +kernel), List.mem_of_getElem? (i := 382) (by decide +kernel), List.mem_of_getElem? (i := 383) (by decide +kernel)⟩
theorem lw_p4 : lw_okq (⟨"DoorNet$Planner", "giveDoors", "(I)V"⟩, 8) := ⟨⟨by decide +kernel, by decide +kernel⟩, List.mem_of_getElem? (i := 148) (by decide +kernel), List.mem_of_getElem? (i := 418) (by decide +kernel), List.mem_of_getElem? (i := 419) (by decide +kernel)⟩
theorem lw_p5 : lw_okq (⟨"DoorNet$Ring", "includeTurned", "(JJI)V"⟩, 3) := ⟨⟨by decide +kernel, by decide +kernel⟩, List.mem_of_getElem? (i := 119) (by decide +kernel), List.mem_of_getElem? (i := 454) (by decide +kernel), List.mem_of_getElem? (i := 455) (by decide +kernel)⟩
theorem lw_p6 : lw_okq (⟨"DoorNet$Planner", "search", "(I)I"⟩, 8) := ⟨⟨by decide +kernel, by decide +kernel⟩, List.mem_of_getElem? (i := 148) (by decide +kernel), List.mem_of_getElem? (i := 486) (by decide +kernel), List.mem_of_getElem? (i := 487) (by decide +kernel)⟩
theorem lw_p7 : lw_okq (⟨"DoorNet$Planner", "searchTicks", "(ILDoorNet$Stream;I)I"⟩, 8) := ⟨⟨by decide +kernel, by decide +kernel⟩, List.mem_of_getElem? (i := 148) (by decide +kernel), List.mem_of_getElem? (i := 504) (by decide +kernel), List.mem_of_getElem? (i := 505) (by decide +kernel)⟩
theorem lw_p8 : lw_okq (⟨"DoorNet$Planner", "keepPlaces", "()V"⟩, 8) := ⟨⟨by decide +kernel, by decide +kernel⟩, List.mem_of_getElem? (i := 148) (by decide +kernel), List.mem_of_getElem? (i := 513) (by decide +kernel), List.mem_of_getElem? (i := 514) (by decide +kernel)⟩
theorem lw_p9 : lw_okq (⟨"DoorNet$Post", "setOutAll", "()V"⟩, 9) := ⟨⟨by decide +kernel, by decide +kernel⟩, List.mem_of_getElem? (i := 183) (by decide +kernel), List.mem_of_getElem? (i := 698) (by decide +kernel), List.mem_of_getElem? (i := 699) (by decide +kernel)⟩
theorem lw_p10 : lw_okq (⟨"DoorNet$Post", "findHead", "(I)V"⟩, 9) := ⟨⟨by decide +kernel, by decide +kernel⟩, List.mem_of_getElem? (i := 183) (by decide +kernel), List.mem_of_getElem? (i := 712) (by decide +kernel), List.mem_of_getElem? (i := 713) (by decide +kernel)⟩
theorem lw_p11 : lw_okq (⟨"DoorNet$Post", "beginOf", "(LDoorNet$Letter;I)I"⟩, 9) := ⟨⟨by decide +kernel, by decide +kernel⟩, List.mem_of_getElem? (i := 183) (by decide +kernel), List.mem_of_getElem? (i := 729) (by decide +kernel), List.mem_of_getElem? (i := 730) (by decide +kernel)⟩
theorem lw_p12 : lw_okq (⟨"DoorNet$Post", "earliestWire", "()I"⟩, 9) := ⟨⟨by decide +kernel, by decide +kernel⟩, List.mem_of_getElem? (i := 183) (by decide +kernel), List.mem_of_getElem? (i := 739) (by decide +kernel), List.mem_of_getElem? (i := 740) (by decide +kernel)⟩
theorem lw_p13 : lw_okq (⟨"DoorNet$Post", "beginOn", "(I)V"⟩, 9) := ⟨⟨by decide +kernel, by decide +kernel⟩, List.mem_of_getElem? (i := 183) (by decide +kernel), List.mem_of_getElem? (i := 743) (by decide +kernel), List.mem_of_getElem? (i := 744) (by decide +kernel)⟩
theorem lw_p14 : lw_okq (⟨"DoorNet$Post", "waitingAt", "(II)I"⟩, 9) := ⟨⟨by decide +kernel, by decide +kernel⟩, List.mem_of_getElem? (i := 183) (by decide +kernel), List.mem_of_getElem? (i := 767) (by decide +kernel), List.mem_of_getElem? (i := 768) (by decide +kernel)⟩
theorem lw_p15 : lw_okq (⟨"DoorNetModel", "isBox", "(I)Z"⟩, 42) := ⟨⟨by decide +kernel, by decide +kernel⟩, List.mem_of_getElem? (i := 785) (by decide +kernel), List.mem_of_getElem? (i := 927) (by decide +kernel), List.mem_of_getElem? (i := 928) (by decide +kernel)⟩
def lw_privs_1 : List (MethodName × Nat) := [(⟨"DoorNet$Ways", "walk", "(IIIII)V"⟩, 5), (⟨"DoorNet$Ways", "offer", "(I)V"⟩, 5), (⟨"DoorNet", "isPeriod", "(I)Z"⟩, 6), (⟨"DoorNet", "findChoices", "(LDoorNet$Stream;III)V"⟩, 6), (⟨"DoorNet$Planner", "giveDoors", "(I)V"⟩, 8), (⟨"DoorNet$Ring", "includeTurned", "(JJI)V"⟩, 3), (⟨"DoorNet$Planner", "search", "(I)I"⟩, 8), (⟨"DoorNet$Planner", "searchTicks", "(ILDoorNet$Stream;I)I"⟩, 8), (⟨"DoorNet$Planner", "keepPlaces", "()V"⟩, 8), (⟨"DoorNet$Post", "setOutAll", "()V"⟩, 9), (⟨"DoorNet$Post", "findHead", "(I)V"⟩, 9), (⟨"DoorNet$Post", "beginOf", "(LDoorNet$Letter;I)I"⟩, 9), (⟨"DoorNet$Post", "earliestWire", "()I"⟩, 9), (⟨"DoorNet$Post", "beginOn", "(I)V"⟩, 9), (⟨"DoorNet$Post", "waitingAt", "(II)I"⟩, 9), (⟨"DoorNetModel", "isBox", "(I)Z"⟩, 42)]
theorem lw_r1 : ∀ q ∈ lw_privs_1, lw_okq q := List.forall_mem_cons.mpr ⟨lw_p0, List.forall_mem_cons.mpr ⟨lw_p1, List.forall_mem_cons.mpr ⟨lw_p2, List.forall_mem_cons.mpr ⟨lw_p3, List.forall_mem_cons.mpr ⟨lw_p4, List.forall_mem_cons.mpr ⟨lw_p5, List.forall_mem_cons.mpr ⟨lw_p6, List.forall_mem_cons.mpr ⟨lw_p7, List.forall_mem_cons.mpr ⟨lw_p8, List.forall_mem_cons.mpr ⟨lw_p9, List.forall_mem_cons.mpr ⟨lw_p10, List.forall_mem_cons.mpr ⟨lw_p11, List.forall_mem_cons.mpr ⟨lw_p12, List.forall_mem_cons.mpr ⟨lw_p13, List.forall_mem_cons.mpr ⟨lw_p14, List.forall_mem_cons.mpr ⟨lw_p15, fun _ h => absurd h List.not_mem_nil⟩⟩⟩⟩⟩⟩⟩⟩⟩⟩⟩⟩⟩⟩⟩⟩
theorem lw_p16 : lw_okq (⟨"DoorNetModel", "findWays", "(III)V"⟩, 42) := ⟨⟨by decide +kernel, by decide +kernel⟩, List.mem_of_getElem? (i := 785) (by decide +kernel), List.mem_of_getElem? (i := 946) (by decide +kernel), List.mem_of_getElem? (i := 947) (by decide +kernel)⟩
theorem lw_p17 : lw_okq (⟨"DoorNetModel", "isSeen", "(III)Z"⟩, 42) := ⟨⟨by decide +kernel, by decide +kernel⟩, List.mem_of_getElem? (i := 785) (by decide +kernel), List.mem_of_getElem? (i := 950) (by decide +kernel), List.mem_of_getElem? (i := 951) (by decide +kernel)⟩
theorem lw_p18 : lw_okq (⟨"DoorNetModel", "keep", "(II)V"⟩, 42) := ⟨⟨by decide +kernel, by decide +kernel⟩, List.mem_of_getElem? (i := 785) (by decide +kernel), List.mem_of_getElem? (i := 954) (by decide +kernel), List.mem_of_getElem? (i := 955) (by decide +kernel)⟩
theorem lw_p19 : lw_okq (⟨"DoorNetModel", "late", "([IIII)I"⟩, 42) := ⟨⟨by decide +kernel, by decide +kernel⟩, List.mem_of_getElem? (i := 785) (by decide +kernel), List.mem_of_getElem? (i := 958) (by decide +kernel), List.mem_of_getElem? (i := 959) (by decide +kernel)⟩
theorem lw_p20 : lw_okq (⟨"DoorNetModel", "isBehind", "(III)Z"⟩, 42) := ⟨⟨by decide +kernel, by decide +kernel⟩, List.mem_of_getElem? (i := 785) (by decide +kernel), List.mem_of_getElem? (i := 962) (by decide +kernel), List.mem_of_getElem? (i := 963) (by decide +kernel)⟩
theorem lw_p21 : lw_okq (⟨"DoorNetModel", "lay", "()V"⟩, 42) := ⟨⟨by decide +kernel, by decide +kernel⟩, List.mem_of_getElem? (i := 785) (by decide +kernel), List.mem_of_getElem? (i := 974) (by decide +kernel), List.mem_of_getElem? (i := 975) (by decide +kernel)⟩
theorem lw_p22 : lw_okq (⟨"DoorNetModel", "put", "(IIII)V"⟩, 42) := ⟨⟨by decide +kernel, by decide +kernel⟩, List.mem_of_getElem? (i := 785) (by decide +kernel), List.mem_of_getElem? (i := 978) (by decide +kernel), List.mem_of_getElem? (i := 979) (by decide +kernel)⟩
theorem lw_p23 : lw_okq (⟨"DoorNetModel", "start", "(IIII)I"⟩, 42) := ⟨⟨by decide +kernel, by decide +kernel⟩, List.mem_of_getElem? (i := 785) (by decide +kernel), List.mem_of_getElem? (i := 982) (by decide +kernel), List.mem_of_getElem? (i := 983) (by decide +kernel)⟩
theorem lw_p24 : lw_okq (⟨"DoorNetModel", "seekWith", "(I)I"⟩, 42) := ⟨⟨by decide +kernel, by decide +kernel⟩, List.mem_of_getElem? (i := 785) (by decide +kernel), List.mem_of_getElem? (i := 990) (by decide +kernel), List.mem_of_getElem? (i := 991) (by decide +kernel)⟩
theorem lw_p25 : lw_okq (⟨"DoorNetModel", "seek", "()I"⟩, 42) := ⟨⟨by decide +kernel, by decide +kernel⟩, List.mem_of_getElem? (i := 785) (by decide +kernel), List.mem_of_getElem? (i := 994) (by decide +kernel), List.mem_of_getElem? (i := 995) (by decide +kernel)⟩
theorem lw_p26 : lw_okq (⟨"DoorNetModel", "meets", "(III)Z"⟩, 42) := ⟨⟨by decide +kernel, by decide +kernel⟩, List.mem_of_getElem? (i := 785) (by decide +kernel), List.mem_of_getElem? (i := 999) (by decide +kernel), List.mem_of_getElem? (i := 1000) (by decide +kernel)⟩
theorem lw_p27 : lw_okq (⟨"DoorNetModel", "placed", "()I"⟩, 42) := ⟨⟨by decide +kernel, by decide +kernel⟩, List.mem_of_getElem? (i := 785) (by decide +kernel), List.mem_of_getElem? (i := 1011) (by decide +kernel), List.mem_of_getElem? (i := 1012) (by decide +kernel)⟩
theorem lw_p28 : lw_okq (⟨"DoorNetModel", "nextSet", "(III)I"⟩, 42) := ⟨⟨by decide +kernel, by decide +kernel⟩, List.mem_of_getElem? (i := 785) (by decide +kernel), List.mem_of_getElem? (i := 1015) (by decide +kernel), List.mem_of_getElem? (i := 1016) (by decide +kernel)⟩
theorem lw_p29 : lw_okq (⟨"DoorNetModel", "isPlace", "(I)Z"⟩, 42) := ⟨⟨by decide +kernel, by decide +kernel⟩, List.mem_of_getElem? (i := 785) (by decide +kernel), List.mem_of_getElem? (i := 1029) (by decide +kernel), List.mem_of_getElem? (i := 1030) (by decide +kernel)⟩
theorem lw_p30 : lw_okq (⟨"DoorNetModel", "isWire", "(I)Z"⟩, 42) := ⟨⟨by decide +kernel, by decide +kernel⟩, List.mem_of_getElem? (i := 785) (by decide +kernel), List.mem_of_getElem? (i := 1041) (by decide +kernel), List.mem_of_getElem? (i := 1042) (by decide +kernel)⟩
theorem lw_p31 : lw_okq (⟨"DoorNetModel", "isOpen", "(III)Z"⟩, 42) := ⟨⟨by decide +kernel, by decide +kernel⟩, List.mem_of_getElem? (i := 785) (by decide +kernel), List.mem_of_getElem? (i := 1049) (by decide +kernel), List.mem_of_getElem? (i := 1050) (by decide +kernel)⟩
def lw_privs_2 : List (MethodName × Nat) := [(⟨"DoorNetModel", "findWays", "(III)V"⟩, 42), (⟨"DoorNetModel", "isSeen", "(III)Z"⟩, 42), (⟨"DoorNetModel", "keep", "(II)V"⟩, 42), (⟨"DoorNetModel", "late", "([IIII)I"⟩, 42), (⟨"DoorNetModel", "isBehind", "(III)Z"⟩, 42), (⟨"DoorNetModel", "lay", "()V"⟩, 42), (⟨"DoorNetModel", "put", "(IIII)V"⟩, 42), (⟨"DoorNetModel", "start", "(IIII)I"⟩, 42), (⟨"DoorNetModel", "seekWith", "(I)I"⟩, 42), (⟨"DoorNetModel", "seek", "()I"⟩, 42), (⟨"DoorNetModel", "meets", "(III)Z"⟩, 42), (⟨"DoorNetModel", "placed", "()I"⟩, 42), (⟨"DoorNetModel", "nextSet", "(III)I"⟩, 42), (⟨"DoorNetModel", "isPlace", "(I)Z"⟩, 42), (⟨"DoorNetModel", "isWire", "(I)Z"⟩, 42), (⟨"DoorNetModel", "isOpen", "(III)Z"⟩, 42)]
theorem lw_r2 : ∀ q ∈ lw_privs_2, lw_okq q := List.forall_mem_cons.mpr ⟨lw_p16, List.forall_mem_cons.mpr ⟨lw_p17, List.forall_mem_cons.mpr ⟨lw_p18, List.forall_mem_cons.mpr ⟨lw_p19, List.forall_mem_cons.mpr ⟨lw_p20, List.forall_mem_cons.mpr ⟨lw_p21, List.forall_mem_cons.mpr ⟨lw_p22, List.forall_mem_cons.mpr ⟨lw_p23, List.forall_mem_cons.mpr ⟨lw_p24, List.forall_mem_cons.mpr ⟨lw_p25, List.forall_mem_cons.mpr ⟨lw_p26, List.forall_mem_cons.mpr ⟨lw_p27, List.forall_mem_cons.mpr ⟨lw_p28, List.forall_mem_cons.mpr ⟨lw_p29, List.forall_mem_cons.mpr ⟨lw_p30, List.forall_mem_cons.mpr ⟨lw_p31, fun _ h => absurd h List.not_mem_nil⟩⟩⟩⟩⟩⟩⟩⟩⟩⟩⟩⟩⟩⟩⟩⟩
theorem lw_p32 : lw_okq (⟨"DoorNetModel", "rest", "(I)I"⟩, 42) := ⟨⟨by decide +kernel, by decide +kernel⟩, List.mem_of_getElem? (i := 785) (by decide +kernel), List.mem_of_getElem? (i := 1053) (by decide +kernel), List.mem_of_getElem? (i := 1054) (by decide +kernel)⟩
theorem lw_p33 : lw_okq (⟨"DoorNetModel", "leave", "(III)I"⟩, 42) := ⟨⟨by decide +kernel, by decide +kernel⟩, List.mem_of_getElem? (i := 785) (by decide +kernel), List.mem_of_getElem? (i := 1074) (by decide +kernel), List.mem_of_getElem? (i := 1075) (by decide +kernel)⟩
theorem lw_p34 : lw_okq (⟨"DoorNetModel", "follow", "()V"⟩, 42) := ⟨⟨by decide +kernel, by decide +kernel⟩, List.mem_of_getElem? (i := 785) (by decide +kernel), List.mem_of_getElem? (i := 1086) (by decide +kernel), List.mem_of_getElem? (i := 1087) (by decide +kernel)⟩
theorem lw_p35 : lw_okq (⟨"DoorNetModel", "look", "(II)V"⟩, 42) := ⟨⟨by decide +kernel, by decide +kernel⟩, List.mem_of_getElem? (i := 785) (by decide +kernel), List.mem_of_getElem? (i := 1091) (by decide +kernel), List.mem_of_getElem? (i := 1092) (by decide +kernel)⟩
theorem lw_p36 : lw_okq (⟨"DoorNetModel", "go", "(III)V"⟩, 42) := ⟨⟨by decide +kernel, by decide +kernel⟩, List.mem_of_getElem? (i := 785) (by decide +kernel), List.mem_of_getElem? (i := 1095) (by decide +kernel), List.mem_of_getElem? (i := 1096) (by decide +kernel)⟩
def lw_privs_3 : List (MethodName × Nat) := [(⟨"DoorNetModel", "rest", "(I)I"⟩, 42), (⟨"DoorNetModel", "leave", "(III)I"⟩, 42), (⟨"DoorNetModel", "follow", "()V"⟩, 42), (⟨"DoorNetModel", "look", "(II)V"⟩, 42), (⟨"DoorNetModel", "go", "(III)V"⟩, 42)]
theorem lw_r3 : ∀ q ∈ lw_privs_3, lw_okq q := List.forall_mem_cons.mpr ⟨lw_p32, List.forall_mem_cons.mpr ⟨lw_p33, List.forall_mem_cons.mpr ⟨lw_p34, List.forall_mem_cons.mpr ⟨lw_p35, List.forall_mem_cons.mpr ⟨lw_p36, fun _ h => absurd h List.not_mem_nil⟩⟩⟩⟩⟩
def lw_privs : List (MethodName × Nat) := lw_privs_1 ++ (lw_privs_2 ++ (lw_privs_3))
def lw_tbl : List Cond := k2_sels lw_privs ++ tables_1
theorem lw_privs_ok : ∀ q ∈ lw_privs, lw_okq q := by
  show ∀ q ∈ lw_privs_1 ++ (lw_privs_2 ++ (lw_privs_3)), lw_okq q
  exact List.forall_mem_append.mpr ⟨lw_r1, List.forall_mem_append.mpr ⟨lw_r2, lw_r3⟩⟩

def RX0 : String := "DoorNet$Doors"
def TX0 : u_T := fun k => match k with
  | 0 => ("DoorNet$Doors", "net", "LDoorNet$Net;", true)
  | 1 => ("DoorNet$Doors", "taken", "[LDoorNet$Ring;", true)
  | 2 => ("DoorNet$Doors", "letters", "LDoorNet$Ring;", true)
  | _ => ("DoorNet$Doors", "oneMeets", "LDoorNet$Ring;", true)
def tyX0 : Nat → FieldType := fun k => match k with
  | 0 => .object "DoorNet$Net"
  | 1 => .array (.object "DoorNet$Ring")
  | 2 => .object "DoorNet$Ring"
  | _ => .object "DoorNet$Ring"
theorem nmX0 : ∀ a, a < 4 → ∀ b, b < 4 → a ≠ b → (TX0 a).2.1 ≠ (TX0 b).2.1 := by decide +kernel
theorem tyX0_ok : ∀ k, k < 4 → parseFieldDescriptor (TX0 k).2.2.1 = some (tyX0 k) := by decide +kernel
abbrev cX0_init : ByteArray := prog_2_method_1_code
def yX0_init : MethodName := ⟨RX0, "<init>", "(LDoorNet$Net;)V"⟩
abbrev cX0_clear : ByteArray := prog_2_method_2_code
def yX0_clear : MethodName := ⟨RX0, "clear", "()V"⟩
abbrev cX0_hand : ByteArray := prog_2_method_3_code
def yX0_hand : MethodName := ⟨RX0, "hand", "(LDoorNet$Stream;IIZ)V"⟩
abbrev cX0_findMeetings : ByteArray := prog_2_method_4_code
def yX0_findMeetings : MethodName := ⟨RX0, "findMeetings", "(LDoorNet$Ring;LDoorNet$Stream;I)V"⟩
abbrev cX0_waitFrom : ByteArray := prog_2_method_5_code
def yX0_waitFrom : MethodName := ⟨RX0, "waitFrom", "(III)I"⟩
def RX1 : String := "DoorNet$Letter"
def TX1 : u_T := fun k => match k with
  | 0 => ("DoorNet$Letter", "sent", "I", true)
  | 1 => ("DoorNet$Letter", "from", "I", true)
  | 2 => ("DoorNet$Letter", "to", "I", true)
  | 3 => ("DoorNet$Letter", "size", "I", true)
  | 4 => ("DoorNet$Letter", "waited", "[I", true)
  | 5 => ("DoorNet$Letter", "begun", "[I", true)
  | 6 => ("DoorNet$Letter", "way", "I", false)
  | 7 => ("DoorNet$Letter", "hop", "I", false)
  | _ => ("DoorNet$Letter", "end", "I", false)
def tyX1 : Nat → FieldType := fun k => match k with
  | 0 => .int
  | 1 => .int
  | 2 => .int
  | 3 => .int
  | 4 => .array .int
  | 5 => .array .int
  | 6 => .int
  | 7 => .int
  | _ => .int
theorem nmX1 : ∀ a, a < 9 → ∀ b, b < 9 → a ≠ b → (TX1 a).2.1 ≠ (TX1 b).2.1 := by decide +kernel
theorem tyX1_ok : ∀ k, k < 9 → parseFieldDescriptor (TX1 k).2.2.1 = some (tyX1 k) := by decide +kernel
abbrev cX1_init : ByteArray := prog_3_method_1_code
def yX1_init : MethodName := ⟨RX1, "<init>", "(IIII)V"⟩
abbrev cX1_setOut : ByteArray := prog_3_method_2_code
def yX1_setOut : MethodName := ⟨RX1, "setOut", "(I)V"⟩
abbrev cX1_nextWire : ByteArray := prog_3_method_3_code
def yX1_nextWire : MethodName := ⟨RX1, "nextWire", "()I"⟩
abbrev cX1_readyAt : ByteArray := prog_3_method_4_code
def yX1_readyAt : MethodName := ⟨RX1, "readyAt", "()I"⟩
abbrev cX1_goesAheadOf : ByteArray := prog_3_method_5_code
def yX1_goesAheadOf : MethodName := ⟨RX1, "goesAheadOf", "(LDoorNet$Letter;)Z"⟩
abbrev cX1_readyFor : ByteArray := prog_3_method_6_code
def yX1_readyFor : MethodName := ⟨RX1, "readyFor", "(I)I"⟩
abbrev cX1_waitsFor : ByteArray := prog_3_method_7_code
def yX1_waitsFor : MethodName := ⟨RX1, "waitsFor", "(II)Z"⟩
def RX2 : String := "DoorNet$Net"
def TX2 : u_T := fun k => match k with
  | 0 => ("DoorNet$Net", "hold", "[I", true)
  | 1 => ("DoorNet$Net", "off", "[I", true)
  | 2 => ("DoorNet$Net", "from", "[I", true)
  | 3 => ("DoorNet$Net", "to", "[I", true)
  | 4 => ("DoorNet$Net", "length", "[I", true)
  | 5 => ("DoorNet$Net", "speed", "[I", true)
  | 6 => ("DoorNet$Net", "boxes", "I", false)
  | 7 => ("DoorNet$Net", "wires", "I", false)
  | 8 => ("DoorNet$Net", "ticks", "I", false)
  | _ => ("DoorNet$Net", "slack", "I", false)
def tyX2 : Nat → FieldType := fun k => match k with
  | 0 => .array .int
  | 1 => .array .int
  | 2 => .array .int
  | 3 => .array .int
  | 4 => .array .int
  | 5 => .array .int
  | 6 => .int
  | 7 => .int
  | 8 => .int
  | _ => .int
theorem nmX2 : ∀ a, a < 10 → ∀ b, b < 10 → a ≠ b → (TX2 a).2.1 ≠ (TX2 b).2.1 := by decide +kernel
theorem tyX2_ok : ∀ k, k < 10 → parseFieldDescriptor (TX2 k).2.2.1 = some (tyX2 k) := by decide +kernel
abbrev cX2_init : ByteArray := prog_4_method_1_code
def yX2_init : MethodName := ⟨RX2, "<init>", "()V"⟩
abbrev cX2_hasBox : ByteArray := prog_4_method_2_code
def yX2_hasBox : MethodName := ⟨RX2, "hasBox", "(I)Z"⟩
abbrev cX2_hasPair : ByteArray := prog_4_method_3_code
def yX2_hasPair : MethodName := ⟨RX2, "hasPair", "(II)Z"⟩
abbrev cX2_hasWire : ByteArray := prog_4_method_4_code
def yX2_hasWire : MethodName := ⟨RX2, "hasWire", "(I)Z"⟩
abbrev cX2_hasTick : ByteArray := prog_4_method_5_code
def yX2_hasTick : MethodName := ⟨RX2, "hasTick", "(I)Z"⟩
abbrev cX2_makeBox : ByteArray := prog_4_method_6_code
def yX2_makeBox : MethodName := ⟨RX2, "makeBox", "(I)I"⟩
abbrev cX2_makeWire : ByteArray := prog_4_method_7_code
def yX2_makeWire : MethodName := ⟨RX2, "makeWire", "(IIII)I"⟩
abbrev cX2_rightClocks : ByteArray := prog_4_method_8_code
def yX2_rightClocks : MethodName := ⟨RX2, "rightClocks", "()V"⟩
abbrev cX2_timeOn : ByteArray := prog_4_method_9_code
def yX2_timeOn : MethodName := ⟨RX2, "timeOn", "(II)I"⟩
abbrev cX2_crossing : ByteArray := prog_4_method_10_code
def yX2_crossing : MethodName := ⟨RX2, "crossing", "(II)I"⟩
abbrev cX2_holdBehind : ByteArray := prog_4_method_11_code
def yX2_holdBehind : MethodName := ⟨RX2, "holdBehind", "(I)I"⟩
abbrev cX2_stayBehind : ByteArray := prog_4_method_12_code
def yX2_stayBehind : MethodName := ⟨RX2, "stayBehind", "(I)I"⟩
abbrev cX2_offAt : ByteArray := prog_4_method_13_code
def yX2_offAt : MethodName := ⟨RX2, "offAt", "(I)I"⟩
abbrev cX2_startOf : ByteArray := prog_4_method_14_code
def yX2_startOf : MethodName := ⟨RX2, "startOf", "(LDoorNet$Stream;I)I"⟩
abbrev cX2_beginOf : ByteArray := prog_4_method_15_code
def yX2_beginOf : MethodName := ⟨RX2, "beginOf", "(LDoorNet$Stream;II)I"⟩
abbrev cX2_hasDoor : ByteArray := prog_4_method_16_code
def yX2_hasDoor : MethodName := ⟨RX2, "hasDoor", "(LDoorNet$Stream;II)Z"⟩
def RX3 : String := "DoorNet$Planner"
def TX3 : u_T := fun k => match k with
  | 0 => ("DoorNet$Planner", "streams", "LDoorNet$Streams;", true)
  | 1 => ("DoorNet$Planner", "doors", "LDoorNet$Doors;", true)
  | 2 => ("DoorNet$Planner", "sought", "[LDoorNet$Stream;", true)
  | 3 => ("DoorNet$Planner", "meetings", "[LDoorNet$Ring;", true)
  | 4 => ("DoorNet$Planner", "choices", "[I", true)
  | 5 => ("DoorNet$Planner", "ticks", "[I", true)
  | 6 => ("DoorNet$Planner", "many", "I", false)
  | _ => ("DoorNet$Planner", "made", "I", false)
def tyX3 : Nat → FieldType := fun k => match k with
  | 0 => .object "DoorNet$Streams"
  | 1 => .object "DoorNet$Doors"
  | 2 => .array (.object "DoorNet$Stream")
  | 3 => .array (.object "DoorNet$Ring")
  | 4 => .array .int
  | 5 => .array .int
  | 6 => .int
  | _ => .int
theorem nmX3 : ∀ a, a < 8 → ∀ b, b < 8 → a ≠ b → (TX3 a).2.1 ≠ (TX3 b).2.1 := by decide +kernel
theorem tyX3_ok : ∀ k, k < 8 → parseFieldDescriptor (TX3 k).2.2.1 = some (tyX3 k) := by decide +kernel
abbrev cX3_init : ByteArray := prog_5_method_1_code
def yX3_init : MethodName := ⟨RX3, "<init>", "(LDoorNet$Net;LDoorNet$Streams;LDoorNet$Doors;)V"⟩
abbrev cX3_begin : ByteArray := prog_5_method_2_code
def yX3_begin : MethodName := ⟨RX3, "begin", "()V"⟩
abbrev cX3_fitFewest : ByteArray := prog_5_method_3_code
def yX3_fitFewest : MethodName := ⟨RX3, "fitFewest", "()I"⟩
abbrev cX3_mirrored : ByteArray := prog_5_method_4_code
def yX3_mirrored : MethodName := ⟨RX3, "mirrored", "(I)I"⟩
abbrev cX3_fit : ByteArray := prog_5_method_5_code
def yX3_fit : MethodName := ⟨RX3, "fit", "(I)I"⟩
abbrev cX3_showDoors : ByteArray := prog_5_method_6_code
def yX3_showDoors : MethodName := ⟨RX3, "showDoors", "()V"⟩
abbrev cX3_giveDoors : ByteArray := prog_5_method_7_code
def yX3_giveDoors : MethodName := ⟨RX3, "giveDoors", "(I)V"⟩
abbrev cX3_keepPlaces : ByteArray := prog_5_method_8_code
def yX3_keepPlaces : MethodName := ⟨RX3, "keepPlaces", "()V"⟩
abbrev cX3_search : ByteArray := prog_5_method_9_code
def yX3_search : MethodName := ⟨RX3, "search", "(I)I"⟩
abbrev cX3_searchTicks : ByteArray := prog_5_method_10_code
def yX3_searchTicks : MethodName := ⟨RX3, "searchTicks", "(ILDoorNet$Stream;I)I"⟩
def RX4 : String := "DoorNet$Post"
def TX4 : u_T := fun k => match k with
  | 0 => ("DoorNet$Post", "net", "LDoorNet$Net;", true)
  | 1 => ("DoorNet$Post", "ways", "LDoorNet$Ways;", true)
  | 2 => ("DoorNet$Post", "doors", "LDoorNet$Doors;", true)
  | 3 => ("DoorNet$Post", "letters", "[LDoorNet$Letter;", true)
  | 4 => ("DoorNet$Post", "heads", "[LDoorNet$Letter;", true)
  | 5 => ("DoorNet$Post", "headBegins", "[I", true)
  | 6 => ("DoorNet$Post", "freeFrom", "[I", true)
  | 7 => ("DoorNet$Post", "told", "I", false)
  | _ => ("DoorNet$Post", "stale", "Z", false)
def tyX4 : Nat → FieldType := fun k => match k with
  | 0 => .object "DoorNet$Net"
  | 1 => .object "DoorNet$Ways"
  | 2 => .object "DoorNet$Doors"
  | 3 => .array (.object "DoorNet$Letter")
  | 4 => .array (.object "DoorNet$Letter")
  | 5 => .array .int
  | 6 => .array .int
  | 7 => .int
  | _ => .boolean
theorem nmX4 : ∀ a, a < 9 → ∀ b, b < 9 → a ≠ b → (TX4 a).2.1 ≠ (TX4 b).2.1 := by decide +kernel
theorem tyX4_ok : ∀ k, k < 9 → parseFieldDescriptor (TX4 k).2.2.1 = some (tyX4 k) := by decide +kernel
abbrev cX4_init : ByteArray := prog_6_method_1_code
def yX4_init : MethodName := ⟨RX4, "<init>", "(LDoorNet$Net;LDoorNet$Ways;LDoorNet$Doors;)V"⟩
abbrev cX4_tell : ByteArray := prog_6_method_2_code
def yX4_tell : MethodName := ⟨RX4, "tell", "(LDoorNet$Letter;)I"⟩
abbrev cX4_letter : ByteArray := prog_6_method_3_code
def yX4_letter : MethodName := ⟨RX4, "letter", "(I)LDoorNet$Letter;"⟩
abbrev cX4_settle : ByteArray := prog_6_method_4_code
def yX4_settle : MethodName := ⟨RX4, "settle", "()V"⟩
abbrev cX4_setOutAll : ByteArray := prog_6_method_5_code
def yX4_setOutAll : MethodName := ⟨RX4, "setOutAll", "()V"⟩
abbrev cX4_findHead : ByteArray := prog_6_method_6_code
def yX4_findHead : MethodName := ⟨RX4, "findHead", "(I)V"⟩
abbrev cX4_beginOf : ByteArray := prog_6_method_7_code
def yX4_beginOf : MethodName := ⟨RX4, "beginOf", "(LDoorNet$Letter;I)I"⟩
abbrev cX4_earliestWire : ByteArray := prog_6_method_8_code
def yX4_earliestWire : MethodName := ⟨RX4, "earliestWire", "()I"⟩
abbrev cX4_beginOn : ByteArray := prog_6_method_9_code
def yX4_beginOn : MethodName := ⟨RX4, "beginOn", "(I)V"⟩
abbrev cX4_longestRow : ByteArray := prog_6_method_10_code
def yX4_longestRow : MethodName := ⟨RX4, "longestRow", "(I)I"⟩
abbrev cX4_waitingAt : ByteArray := prog_6_method_11_code
def yX4_waitingAt : MethodName := ⟨RX4, "waitingAt", "(II)I"⟩
abbrev cX4_ended : ByteArray := prog_6_method_12_code
def yX4_ended : MethodName := ⟨RX4, "ended", "()I"⟩
def RX5 : String := "DoorNet$Ring"
def TX5 : u_T := fun k => match k with
  | 0 => ("DoorNet$Ring", "net", "LDoorNet$Net;", true)
  | 1 => ("DoorNet$Ring", "low", "J", false)
  | _ => ("DoorNet$Ring", "high", "J", false)
def tyX5 : Nat → FieldType := fun k => match k with
  | 0 => .object "DoorNet$Net"
  | 1 => .long
  | _ => .long
theorem nmX5 : ∀ a, a < 3 → ∀ b, b < 3 → a ≠ b → (TX5 a).2.1 ≠ (TX5 b).2.1 := by decide +kernel
theorem tyX5_ok : ∀ k, k < 3 → parseFieldDescriptor (TX5 k).2.2.1 = some (tyX5 k) := by decide +kernel
abbrev cX5_init : ByteArray := prog_7_method_1_code
def yX5_init : MethodName := ⟨RX5, "<init>", "(LDoorNet$Net;)V"⟩
abbrev cX5_clear : ByteArray := prog_7_method_2_code
def yX5_clear : MethodName := ⟨RX5, "clear", "()V"⟩
abbrev cX5_fill : ByteArray := prog_7_method_3_code
def yX5_fill : MethodName := ⟨RX5, "fill", "()V"⟩
abbrev cX5_has : ByteArray := prog_7_method_4_code
def yX5_has : MethodName := ⟨RX5, "has", "(I)Z"⟩
abbrev cX5_include : ByteArray := prog_7_method_5_code
def yX5_include : MethodName := ⟨RX5, "include", "(LDoorNet$Ring;)V"⟩
abbrev cX5_exclude : ByteArray := prog_7_method_6_code
def yX5_exclude : MethodName := ⟨RX5, "exclude", "(LDoorNet$Ring;)V"⟩
abbrev cX5_includePutOff : ByteArray := prog_7_method_7_code
def yX5_includePutOff : MethodName := ⟨RX5, "includePutOff", "(LDoorNet$Ring;I)V"⟩
abbrev cX5_becomeLetters : ByteArray := prog_7_method_8_code
def yX5_becomeLetters : MethodName := ⟨RX5, "becomeLetters", "(III)V"⟩
abbrev cX5_lettersOf : ByteArray := prog_7_method_9_code
def yX5_lettersOf : MethodName := ⟨RX5, "lettersOf", "(I)I"⟩
abbrev cX5_includeTurned : ByteArray := prog_7_method_10_code
def yX5_includeTurned : MethodName := ⟨RX5, "includeTurned", "(JJI)V"⟩
def RX6 : String := "DoorNet$Stream"
def TX6 : u_T := fun k => match k with
  | 0 => ("DoorNet$Stream", "size", "I", true)
  | 1 => ("DoorNet$Stream", "period", "I", true)
  | 2 => ("DoorNet$Stream", "ways", "[I", true)
  | 3 => ("DoorNet$Stream", "choices", "I", false)
  | 4 => ("DoorNet$Stream", "choice", "I", false)
  | _ => ("DoorNet$Stream", "tick", "I", false)
def tyX6 : Nat → FieldType := fun k => match k with
  | 0 => .int
  | 1 => .int
  | 2 => .array .int
  | 3 => .int
  | 4 => .int
  | _ => .int
theorem nmX6 : ∀ a, a < 6 → ∀ b, b < 6 → a ≠ b → (TX6 a).2.1 ≠ (TX6 b).2.1 := by decide +kernel
theorem tyX6_ok : ∀ k, k < 6 → parseFieldDescriptor (TX6 k).2.2.1 = some (tyX6 k) := by decide +kernel
abbrev cX6_init : ByteArray := prog_8_method_1_code
def yX6_init : MethodName := ⟨RX6, "<init>", "(II)V"⟩
abbrev cX6_offer : ByteArray := prog_8_method_2_code
def yX6_offer : MethodName := ⟨RX6, "offer", "(I)V"⟩
abbrev cX6_wayOf : ByteArray := prog_8_method_3_code
def yX6_wayOf : MethodName := ⟨RX6, "wayOf", "(I)I"⟩
abbrev cX6_wayNow : ByteArray := prog_8_method_4_code
def yX6_wayNow : MethodName := ⟨RX6, "wayNow", "()I"⟩
def RX7 : String := "DoorNet$Streams"
def TX7 : u_T := fun k => match k with
  | 0 => ("DoorNet$Streams", "all", "[LDoorNet$Stream;", true)
  | _ => ("DoorNet$Streams", "told", "I", false)
def tyX7 : Nat → FieldType := fun k => match k with
  | 0 => .array (.object "DoorNet$Stream")
  | _ => .int
theorem nmX7 : ∀ a, a < 2 → ∀ b, b < 2 → a ≠ b → (TX7 a).2.1 ≠ (TX7 b).2.1 := by decide +kernel
theorem tyX7_ok : ∀ k, k < 2 → parseFieldDescriptor (TX7 k).2.2.1 = some (tyX7 k) := by decide +kernel
abbrev cX7_init : ByteArray := prog_9_method_1_code
def yX7_init : MethodName := ⟨RX7, "<init>", "()V"⟩
abbrev cX7_tell : ByteArray := prog_9_method_2_code
def yX7_tell : MethodName := ⟨RX7, "tell", "(LDoorNet$Stream;)I"⟩
abbrev cX7_one : ByteArray := prog_9_method_3_code
def yX7_one : MethodName := ⟨RX7, "one", "(I)LDoorNet$Stream;"⟩
abbrev cX7_placedOne : ByteArray := prog_9_method_4_code
def yX7_placedOne : MethodName := ⟨RX7, "placedOne", "(I)LDoorNet$Stream;"⟩
abbrev cX7_allOfThem : ByteArray := prog_9_method_5_code
def yX7_allOfThem : MethodName := ⟨RX7, "allOfThem", "()I"⟩
abbrev cX7_withPlace : ByteArray := prog_9_method_6_code
def yX7_withPlace : MethodName := ⟨RX7, "withPlace", "()I"⟩
abbrev cX7_withoutPlace : ByteArray := prog_9_method_7_code
def yX7_withoutPlace : MethodName := ⟨RX7, "withoutPlace", "()I"⟩
def RX8 : String := "DoorNet$Ways"
def TX8 : u_T := fun k => match k with
  | 0 => ("DoorNet$Ways", "net", "LDoorNet$Net;", true)
  | 1 => ("DoorNet$Ways", "goal", "I", false)
  | 2 => ("DoorNet$Ways", "size", "I", false)
  | 3 => ("DoorNet$Ways", "behind", "I", false)
  | _ => ("DoorNet$Ways", "least", "I", false)
def tyX8 : Nat → FieldType := fun k => match k with
  | 0 => .object "DoorNet$Net"
  | 1 => .int
  | 2 => .int
  | 3 => .int
  | _ => .int
theorem nmX8 : ∀ a, a < 5 → ∀ b, b < 5 → a ≠ b → (TX8 a).2.1 ≠ (TX8 b).2.1 := by decide +kernel
theorem tyX8_ok : ∀ k, k < 5 → parseFieldDescriptor (TX8 k).2.2.1 = some (tyX8 k) := by decide +kernel
abbrev cX8_init : ByteArray := prog_10_method_1_code
def yX8_init : MethodName := ⟨RX8, "<init>", "(LDoorNet$Net;)V"⟩
abbrev cX8_latenessOf : ByteArray := prog_10_method_2_code
def yX8_latenessOf : MethodName := ⟨RX8, "latenessOf", "(I)I"⟩
abbrev cX8_wireAt : ByteArray := prog_10_method_3_code
def yX8_wireAt : MethodName := ⟨RX8, "wireAt", "(II)I"⟩
abbrev cX8_wiresIn : ByteArray := prog_10_method_4_code
def yX8_wiresIn : MethodName := ⟨RX8, "wiresIn", "(I)I"⟩
abbrev cX8_hasHop : ByteArray := prog_10_method_5_code
def yX8_hasHop : MethodName := ⟨RX8, "hasHop", "(II)Z"⟩
abbrev cX8_hopOn : ByteArray := prog_10_method_6_code
def yX8_hopOn : MethodName := ⟨RX8, "hopOn", "(II)I"⟩
abbrev cX8_shiftOf : ByteArray := prog_10_method_7_code
def yX8_shiftOf : MethodName := ⟨RX8, "shiftOf", "(I)I"⟩
abbrev cX8_atRank : ByteArray := prog_10_method_8_code
def yX8_atRank : MethodName := ⟨RX8, "atRank", "(IIII)I"⟩
abbrev cX8_nextBehind : ByteArray := prog_10_method_9_code
def yX8_nextBehind : MethodName := ⟨RX8, "nextBehind", "(IIII)I"⟩
abbrev cX8_walk : ByteArray := prog_10_method_10_code
def yX8_walk : MethodName := ⟨RX8, "walk", "(IIIII)V"⟩
abbrev cX8_offer : ByteArray := prog_10_method_11_code
def yX8_offer : MethodName := ⟨RX8, "offer", "(I)V"⟩
def RX9 : String := "DoorNet"
def TX9 : u_T := fun k => match k with
  | 0 => ("DoorNet", "net", "LDoorNet$Net;", true)
  | 1 => ("DoorNet", "ways", "LDoorNet$Ways;", true)
  | 2 => ("DoorNet", "streams", "LDoorNet$Streams;", true)
  | 3 => ("DoorNet", "doors", "LDoorNet$Doors;", true)
  | 4 => ("DoorNet", "planner", "LDoorNet$Planner;", true)
  | _ => ("DoorNet", "post", "LDoorNet$Post;", true)
def tyX9 : Nat → FieldType := fun k => match k with
  | 0 => .object "DoorNet$Net"
  | 1 => .object "DoorNet$Ways"
  | 2 => .object "DoorNet$Streams"
  | 3 => .object "DoorNet$Doors"
  | 4 => .object "DoorNet$Planner"
  | _ => .object "DoorNet$Post"
theorem nmX9 : ∀ a, a < 6 → ∀ b, b < 6 → a ≠ b → (TX9 a).2.1 ≠ (TX9 b).2.1 := by decide +kernel
theorem tyX9_ok : ∀ k, k < 6 → parseFieldDescriptor (TX9 k).2.2.1 = some (tyX9 k) := by decide +kernel
abbrev cX9_init : ByteArray := prog_1_method_1_code
def yX9_init : MethodName := ⟨RX9, "<init>", "()V"⟩
abbrev cX9_box : ByteArray := prog_1_method_2_code
def yX9_box : MethodName := ⟨RX9, "box", "(I)I"⟩
abbrev cX9_wire : ByteArray := prog_1_method_3_code
def yX9_wire : MethodName := ⟨RX9, "wire", "(IIII)I"⟩
abbrev cX9_cycle : ByteArray := prog_1_method_4_code
def yX9_cycle : MethodName := ⟨RX9, "cycle", "(I)Z"⟩
abbrev cX9_drift : ByteArray := prog_1_method_5_code
def yX9_drift : MethodName := ⟨RX9, "drift", "(I)Z"⟩
abbrev cX9_way : ByteArray := prog_1_method_6_code
def yX9_way : MethodName := ⟨RX9, "way", "(IIIII)I"⟩
abbrev cX9_stream : ByteArray := prog_1_method_7_code
def yX9_stream : MethodName := ⟨RX9, "stream", "(IIIII)I"⟩
abbrev cX9_strike : ByteArray := prog_1_method_8_code
def yX9_strike : MethodName := ⟨RX9, "strike", "(I)Z"⟩
abbrev cX9_plan : ByteArray := prog_1_method_9_code
def yX9_plan : MethodName := ⟨RX9, "plan", "()I"⟩
abbrev cX9_add : ByteArray := prog_1_method_10_code
def yX9_add : MethodName := ⟨RX9, "add", "()I"⟩
abbrev cX9_stir : ByteArray := prog_1_method_11_code
def yX9_stir : MethodName := ⟨RX9, "stir", "()I"⟩
abbrev cX9_place : ByteArray := prog_1_method_12_code
def yX9_place : MethodName := ⟨RX9, "place", "(II)I"⟩
abbrev cX9_tries : ByteArray := prog_1_method_13_code
def yX9_tries : MethodName := ⟨RX9, "tries", "()I"⟩
abbrev cX9_door : ByteArray := prog_1_method_14_code
def yX9_door : MethodName := ⟨RX9, "door", "(II)I"⟩
abbrev cX9_waits : ByteArray := prog_1_method_15_code
def yX9_waits : MethodName := ⟨RX9, "waits", "(III)I"⟩
abbrev cX9_worst : ByteArray := prog_1_method_16_code
def yX9_worst : MethodName := ⟨RX9, "worst", "(II)I"⟩
abbrev cX9_clock : ByteArray := prog_1_method_17_code
def yX9_clock : MethodName := ⟨RX9, "clock", "(II)Z"⟩
abbrev cX9_send : ByteArray := prog_1_method_18_code
def yX9_send : MethodName := ⟨RX9, "send", "(IIII)I"⟩
abbrev cX9_leaves : ByteArray := prog_1_method_19_code
def yX9_leaves : MethodName := ⟨RX9, "leaves", "(III)I"⟩
abbrev cX9_room : ByteArray := prog_1_method_20_code
def yX9_room : MethodName := ⟨RX9, "room", "(III)I"⟩
abbrev cX9_plain : ByteArray := prog_1_method_21_code
def yX9_plain : MethodName := ⟨RX9, "plain", "(II)I"⟩
abbrev cX9_most : ByteArray := prog_1_method_22_code
def yX9_most : MethodName := ⟨RX9, "most", "(I)I"⟩
abbrev cX9_count : ByteArray := prog_1_method_23_code
def yX9_count : MethodName := ⟨RX9, "count", "(I)I"⟩
abbrev cX9_findChoices : ByteArray := prog_1_method_24_code
def yX9_findChoices : MethodName := ⟨RX9, "findChoices", "(LDoorNet$Stream;III)V"⟩
abbrev cX9_isPeriod : ByteArray := prog_1_method_25_code
def yX9_isPeriod : MethodName := ⟨RX9, "isPeriod", "(I)Z"⟩
abbrev cX9_isInTime : ByteArray := prog_1_method_26_code
def yX9_isInTime : MethodName := ⟨RX9, "isInTime", "(II)Z"⟩
abbrev cX9_isCycle : ByteArray := prog_1_method_27_code
def yX9_isCycle : MethodName := ⟨RX9, "isCycle", "(I)Z"⟩
abbrev cX9_isSize : ByteArray := prog_1_method_28_code
def yX9_isSize : MethodName := ⟨RX9, "isSize", "(I)Z"⟩
abbrev cX9_within : ByteArray := prog_1_method_29_code
def yX9_within : MethodName := ⟨RX9, "within", "(III)Z"⟩
abbrev cX9_aheadOfEnd : ByteArray := prog_1_method_30_code
def yX9_aheadOfEnd : MethodName := ⟨RX9, "aheadOfEnd", "(I)I"⟩
def RX10 : String := "DoorNetModel"
def TX10 : u_T := fun k => match k with
  | 0 => ("DoorNetModel", "boxes", "I", false)
  | 1 => ("DoorNetModel", "hold", "[I", true)
  | 2 => ("DoorNetModel", "off", "[I", true)
  | 3 => ("DoorNetModel", "wires", "I", false)
  | 4 => ("DoorNetModel", "fromBox", "[I", true)
  | 5 => ("DoorNetModel", "toBox", "[I", true)
  | 6 => ("DoorNetModel", "length", "[I", true)
  | 7 => ("DoorNetModel", "speed", "[I", true)
  | 8 => ("DoorNetModel", "cycle", "I", false)
  | 9 => ("DoorNetModel", "drift", "I", false)
  | 10 => ("DoorNetModel", "streams", "I", false)
  | 11 => ("DoorNetModel", "size", "[I", true)
  | 12 => ("DoorNetModel", "period", "[I", true)
  | 13 => ("DoorNetModel", "choices", "[I", true)
  | 14 => ("DoorNetModel", "choiceLength", "[I", true)
  | 15 => ("DoorNetModel", "choiceWire", "[I", true)
  | 16 => ("DoorNetModel", "choiceLate", "[I", true)
  | 17 => ("DoorNetModel", "isPlaced", "[Z", true)
  | 18 => ("DoorNetModel", "choice", "[I", true)
  | 19 => ("DoorNetModel", "tick", "[I", true)
  | 20 => ("DoorNetModel", "tried", "I", false)
  | 21 => ("DoorNetModel", "has", "[I", true)
  | 22 => ("DoorNetModel", "plain", "I", false)
  | 23 => ("DoorNetModel", "plainTick", "[I", true)
  | 24 => ("DoorNetModel", "plainSize", "[I", true)
  | 25 => ("DoorNetModel", "plainLength", "[I", true)
  | 26 => ("DoorNetModel", "plainWire", "[I", true)
  | 27 => ("DoorNetModel", "ways", "I", false)
  | 28 => ("DoorNetModel", "wayLength", "[I", true)
  | 29 => ("DoorNetModel", "wayWire", "[I", true)
  | 30 => ("DoorNetModel", "wayLate", "[I", true)
  | 31 => ("DoorNetModel", "going", "[I", true)
  | 32 => ("DoorNetModel", "sought", "[I", true)
  | 33 => ("DoorNetModel", "trying", "[I", true)
  | 34 => ("DoorNetModel", "seeks", "I", false)
  | 35 => ("DoorNetModel", "changed", "Z", false)
  | 36 => ("DoorNetModel", "ready", "[I", true)
  | 37 => ("DoorNetModel", "begins", "[I", true)
  | 38 => ("DoorNetModel", "ends", "[I", true)
  | 39 => ("DoorNetModel", "next", "[I", true)
  | 40 => ("DoorNetModel", "free", "[I", true)
  | _ => ("DoorNetModel", "mostWaits", "[I", true)
def tyX10 : Nat → FieldType := fun k => match k with
  | 0 => .int
  | 1 => .array .int
  | 2 => .array .int
  | 3 => .int
  | 4 => .array .int
  | 5 => .array .int
  | 6 => .array .int
  | 7 => .array .int
  | 8 => .int
  | 9 => .int
  | 10 => .int
  | 11 => .array .int
  | 12 => .array .int
  | 13 => .array .int
  | 14 => .array .int
  | 15 => .array .int
  | 16 => .array .int
  | 17 => .array .boolean
  | 18 => .array .int
  | 19 => .array .int
  | 20 => .int
  | 21 => .array .int
  | 22 => .int
  | 23 => .array .int
  | 24 => .array .int
  | 25 => .array .int
  | 26 => .array .int
  | 27 => .int
  | 28 => .array .int
  | 29 => .array .int
  | 30 => .array .int
  | 31 => .array .int
  | 32 => .array .int
  | 33 => .array .int
  | 34 => .int
  | 35 => .boolean
  | 36 => .array .int
  | 37 => .array .int
  | 38 => .array .int
  | 39 => .array .int
  | 40 => .array .int
  | _ => .array .int
theorem nmX10 : ∀ a, a < 42 → ∀ b, b < 42 → a ≠ b → (TX10 a).2.1 ≠ (TX10 b).2.1 := by decide +kernel
theorem tyX10_ok : ∀ k, k < 42 → parseFieldDescriptor (TX10 k).2.2.1 = some (tyX10 k) := by decide +kernel
abbrev cX10_init : ByteArray := prog_12_method_1_code
def yX10_init : MethodName := ⟨RX10, "<init>", "()V"⟩
abbrev cX10_isBox : ByteArray := prog_12_method_2_code
def yX10_isBox : MethodName := ⟨RX10, "isBox", "(I)Z"⟩
abbrev cX10_isWire : ByteArray := prog_12_method_3_code
def yX10_isWire : MethodName := ⟨RX10, "isWire", "(I)Z"⟩
abbrev cX10_box : ByteArray := prog_12_method_4_code
def yX10_box : MethodName := ⟨RX10, "box", "(I)I"⟩
abbrev cX10_wire : ByteArray := prog_12_method_5_code
def yX10_wire : MethodName := ⟨RX10, "wire", "(IIII)I"⟩
abbrev cX10_cycle : ByteArray := prog_12_method_6_code
def yX10_cycle : MethodName := ⟨RX10, "cycle", "(I)Z"⟩
abbrev cX10_drift : ByteArray := prog_12_method_7_code
def yX10_drift : MethodName := ⟨RX10, "drift", "(I)Z"⟩
abbrev cX10_late : ByteArray := prog_12_method_8_code
def yX10_late : MethodName := ⟨RX10, "late", "([IIII)I"⟩
abbrev cX10_isSeen : ByteArray := prog_12_method_9_code
def yX10_isSeen : MethodName := ⟨RX10, "isSeen", "(III)Z"⟩
abbrev cX10_findWays : ByteArray := prog_12_method_10_code
def yX10_findWays : MethodName := ⟨RX10, "findWays", "(III)V"⟩
abbrev cX10_keep : ByteArray := prog_12_method_11_code
def yX10_keep : MethodName := ⟨RX10, "keep", "(II)V"⟩
abbrev cX10_isBehind : ByteArray := prog_12_method_12_code
def yX10_isBehind : MethodName := ⟨RX10, "isBehind", "(III)Z"⟩
abbrev cX10_isSize : ByteArray := prog_12_method_13_code
def yX10_isSize : MethodName := ⟨RX10, "isSize", "(I)Z"⟩
abbrev cX10_way : ByteArray := prog_12_method_14_code
def yX10_way : MethodName := ⟨RX10, "way", "(IIIII)I"⟩
abbrev cX10_stream : ByteArray := prog_12_method_15_code
def yX10_stream : MethodName := ⟨RX10, "stream", "(IIIII)I"⟩
abbrev cX10_strike : ByteArray := prog_12_method_16_code
def yX10_strike : MethodName := ⟨RX10, "strike", "(I)Z"⟩
abbrev cX10_start : ByteArray := prog_12_method_17_code
def yX10_start : MethodName := ⟨RX10, "start", "(IIII)I"⟩
abbrev cX10_meets : ByteArray := prog_12_method_18_code
def yX10_meets : MethodName := ⟨RX10, "meets", "(III)Z"⟩
abbrev cX10_put : ByteArray := prog_12_method_19_code
def yX10_put : MethodName := ⟨RX10, "put", "(IIII)V"⟩
abbrev cX10_lay : ByteArray := prog_12_method_20_code
def yX10_lay : MethodName := ⟨RX10, "lay", "()V"⟩
abbrev cX10_seek : ByteArray := prog_12_method_21_code
def yX10_seek : MethodName := ⟨RX10, "seek", "()I"⟩
abbrev cX10_seekWith : ByteArray := prog_12_method_22_code
def yX10_seekWith : MethodName := ⟨RX10, "seekWith", "(I)I"⟩
abbrev cX10_plan : ByteArray := prog_12_method_23_code
def yX10_plan : MethodName := ⟨RX10, "plan", "()I"⟩
abbrev cX10_add : ByteArray := prog_12_method_24_code
def yX10_add : MethodName := ⟨RX10, "add", "()I"⟩
abbrev cX10_placed : ByteArray := prog_12_method_25_code
def yX10_placed : MethodName := ⟨RX10, "placed", "()I"⟩
abbrev cX10_bits : ByteArray := prog_12_method_26_code
def yX10_bits : MethodName := ⟨RX10, "bits", "(I)I"⟩
abbrev cX10_isAhead : ByteArray := prog_12_method_27_code
def yX10_isAhead : MethodName := ⟨RX10, "isAhead", "(II)Z"⟩
abbrev cX10_nextSet : ByteArray := prog_12_method_28_code
def yX10_nextSet : MethodName := ⟨RX10, "nextSet", "(III)I"⟩
abbrev cX10_stir : ByteArray := prog_12_method_29_code
def yX10_stir : MethodName := ⟨RX10, "stir", "()I"⟩
abbrev cX10_isPlace : ByteArray := prog_12_method_30_code
def yX10_isPlace : MethodName := ⟨RX10, "isPlace", "(I)Z"⟩
abbrev cX10_place : ByteArray := prog_12_method_31_code
def yX10_place : MethodName := ⟨RX10, "place", "(II)I"⟩
abbrev cX10_tries : ByteArray := prog_12_method_32_code
def yX10_tries : MethodName := ⟨RX10, "tries", "()I"⟩
abbrev cX10_door : ByteArray := prog_12_method_33_code
def yX10_door : MethodName := ⟨RX10, "door", "(II)I"⟩
abbrev cX10_rest : ByteArray := prog_12_method_34_code
def yX10_rest : MethodName := ⟨RX10, "rest", "(I)I"⟩
abbrev cX10_isOpen : ByteArray := prog_12_method_35_code
def yX10_isOpen : MethodName := ⟨RX10, "isOpen", "(III)Z"⟩
abbrev cX10_waits : ByteArray := prog_12_method_36_code
def yX10_waits : MethodName := ⟨RX10, "waits", "(III)I"⟩
abbrev cX10_worst : ByteArray := prog_12_method_37_code
def yX10_worst : MethodName := ⟨RX10, "worst", "(II)I"⟩
abbrev cX10_clock : ByteArray := prog_12_method_38_code
def yX10_clock : MethodName := ⟨RX10, "clock", "(II)Z"⟩
abbrev cX10_send : ByteArray := prog_12_method_39_code
def yX10_send : MethodName := ⟨RX10, "send", "(IIII)I"⟩
abbrev cX10_leave : ByteArray := prog_12_method_40_code
def yX10_leave : MethodName := ⟨RX10, "leave", "(III)I"⟩
abbrev cX10_leaves : ByteArray := prog_12_method_41_code
def yX10_leaves : MethodName := ⟨RX10, "leaves", "(III)I"⟩
abbrev cX10_room : ByteArray := prog_12_method_42_code
def yX10_room : MethodName := ⟨RX10, "room", "(III)I"⟩
abbrev cX10_follow : ByteArray := prog_12_method_43_code
def yX10_follow : MethodName := ⟨RX10, "follow", "()V"⟩
abbrev cX10_look : ByteArray := prog_12_method_44_code
def yX10_look : MethodName := ⟨RX10, "look", "(II)V"⟩
abbrev cX10_go : ByteArray := prog_12_method_45_code
def yX10_go : MethodName := ⟨RX10, "go", "(III)V"⟩
abbrev cX10_ahead : ByteArray := prog_12_method_46_code
def yX10_ahead : MethodName := ⟨RX10, "ahead", "(I)I"⟩
abbrev cX10_plain : ByteArray := prog_12_method_47_code
def yX10_plain : MethodName := ⟨RX10, "plain", "(II)I"⟩
abbrev cX10_most : ByteArray := prog_12_method_48_code
def yX10_most : MethodName := ⟨RX10, "most", "(I)I"⟩
abbrev cX10_count : ByteArray := prog_12_method_49_code
def yX10_count : MethodName := ⟨RX10, "count", "(I)I"⟩
def RJ6 : String := "java/lang/Integer"
def TJ6 : u_T := fun k => match k with
  | _ => ("", "", "", false)
def tyJ6 : Nat → FieldType := fun k => match k with
  | _ => .int
theorem nmJ6 : ∀ a, a < 0 → ∀ b, b < 0 → a ≠ b → (TJ6 a).2.1 ≠ (TJ6 b).2.1 := by decide +kernel
theorem tyJ6_ok : ∀ k, k < 0 → parseFieldDescriptor (TJ6 k).2.2.1 = some (tyJ6 k) := by decide +kernel
abbrev cJ6_bitCount_0f7a4 : ByteArray := prog_13_method_49_code
def yJ6_bitCount_0f7a4 : MethodName := ⟨RJ6, "bitCount", "(I)I"⟩
def RJ9 : String := "java/lang/Math"
def TJ9 : u_T := fun k => match k with
  | _ => ("", "", "", false)
def tyJ9 : Nat → FieldType := fun k => match k with
  | _ => .int
theorem nmJ9 : ∀ a, a < 0 → ∀ b, b < 0 → a ≠ b → (TJ9 a).2.1 ≠ (TJ9 b).2.1 := by decide +kernel
theorem tyJ9_ok : ∀ k, k < 0 → parseFieldDescriptor (TJ9 k).2.2.1 = some (tyJ9 k) := by decide +kernel
abbrev cJ9_floorMod_7cf53 : ByteArray := prog_14_method_50_code
def yJ9_floorMod_7cf53 : MethodName := ⟨RJ9, "floorMod", "(II)I"⟩
abbrev cJ9_max_7cf53 : ByteArray := prog_14_method_65_code
def yJ9_max_7cf53 : MethodName := ⟨RJ9, "max", "(II)I"⟩
abbrev cJ9_min_7cf53 : ByteArray := prog_14_method_69_code
def yJ9_min_7cf53 : MethodName := ⟨RJ9, "min", "(II)I"⟩
def RL : String := "DoorNetLaw"
abbrev cL_law : ByteArray := code
def yL_law : MethodName := ⟨RL, "law", "([I)Z"⟩
end
section
def ai_t0 : List (Option Instr) := [some (.aload_n 0), some (.invokespecial 3), none, none, some (.aload_n 0), some (.bipush 12), none, some (.anewarray 9), none, none, some (.putfield 11), none, none, some (.aload_n 0), some (.aload_n 1), some (.putfield 17), none, none, some (.aload_n 0), some (.new 9), none, none, some (.dup), some (.aload_n 1), some (.invokespecial 21), none, none, some (.putfield 24), none, none, some (.aload_n 0), some (.new 9), none, none, some (.dup), some (.aload_n 1), some (.invokespecial 21), none, none, some (.putfield 28), none, none, some (.iconst 0), some (.istore_n 2), some (.iload_n 2), some (.bipush 12), none, some (.if_icmp .ge 23), none, none, some (.aload_n 0), some (.getfield 11), none, none, some (.iload_n 2), some (.new 9), none, none, some (.dup), some (.aload_n 1), some (.invokespecial 21), none, none, some (.aastore), some (.iinc 2 1), none, none, some (.goto (-23)), none, none, some (.return_)]
def ai_t1 : List (Option Instr) := [some (.iconst 0), some (.istore_n 1), some (.iload_n 1), some (.bipush 12), none, some (.if_icmp .ge 18), none, none, some (.aload_n 0), some (.getfield 11), none, none, some (.iload_n 1), some (.aaload), some (.invokevirtual 31), none, none, some (.iinc 1 1), none, none, some (.goto (-18)), none, none, some (.return_)]
def ai_t2 : List (Option Instr) := [some (.iload_n 3), some (.istore 5), none, some (.iconst 0), some (.istore 6), none, some (.iload 6), none, some (.iconst 4), some (.if_icmp .ge 120), none, none, some (.iload_n 2), some (.iload 6), none, some (.invokestatic 34), none, none, some (.istore 7), none, some (.aload_n 0), some (.getfield 17), none, none, some (.iload 7), none, some (.invokevirtual 40), none, none, some (.ifCond .ne 4), none, none, some (.return_), some (.aload_n 0), some (.getfield 24), none, none, some (.iload 5), none, some (.aload_n 0), some (.getfield 17), none, none, some (.iload 7), none, some (.aload_n 1), some (.getfield 46), none, none, some (.invokevirtual 52), none, none, some (.aload_n 1), some (.getfield 55), none, none, some (.invokevirtual 58), none, none, some (.iload 4), none, some (.ifCond .eq 20), none, none, some (.aload_n 0), some (.getfield 11), none, none, some (.iload 7), none, some (.aaload), some (.aload_n 0), some (.getfield 24), none, none, some (.invokevirtual 62), none, none, some (.goto 17), none, none, some (.aload_n 0), some (.getfield 11), none, none, some (.iload 7), none, some (.aaload), some (.aload_n 0), some (.getfield 24), none, none, some (.invokevirtual 66), none, none, some (.iload 5), none, some (.aload_n 0), some (.getfield 17), none, none, some (.iload 7), none, some (.aload_n 1), some (.getfield 46), none, none, some (.invokevirtual 69), none, none, some (.aload_n 0), some (.getfield 17), none, none, some (.iload 7), none, some (.invokevirtual 72), none, none, some (.iadd), some (.iadd), some (.istore 5), none, some (.iinc 6 1), none, none, some (.goto (-120)), none, none, some (.return_)]
def ai_t3 : List (Option Instr) := [some (.aload_n 1), some (.invokevirtual 31), none, none, some (.aload_n 0), some (.getfield 28), none, none, some (.invokevirtual 31), none, none, some (.iconst 0), some (.istore 4), none, some (.iconst 0), some (.istore 5), none, some (.iload 5), none, some (.iconst 4), some (.if_icmp .ge 125), none, none, some (.iload_n 3), some (.iload 5), none, some (.invokestatic 34), none, none, some (.istore 6), none, some (.aload_n 0), some (.getfield 17), none, none, some (.iload 6), none, some (.invokevirtual 40), none, none, some (.ifCond .ne 6), none, none, some (.goto 102), none, none, some (.aload_n 0), some (.getfield 17), none, none, some (.iload 6), none, some (.aload_n 2), some (.getfield 46), none, none, some (.invokevirtual 52), none, none, some (.istore 7), none, some (.iload 7), none, some (.aload_n 2), some (.getfield 55), none, none, some (.if_icmp .le 8), none, none, some (.aload_n 1), some (.invokevirtual 76), none, none, some (.return_), some (.iconst 0), some (.istore 8), none, some (.iload 8), none, some (.iload 7), none, some (.if_icmp .ge 29), none, none, some (.aload_n 0), some (.getfield 28), none, none, some (.aload_n 0), some (.getfield 11), none, none, some (.iload 6), none, some (.aaload), some (.iload 4), none, some (.iload 8), none, some (.iadd), some (.ineg), some (.invokevirtual 79), none, none, some (.iinc 8 1), none, none, some (.goto (-30)), none, none, some (.iload 4), none, some (.aload_n 0), some (.getfield 17), none, none, some (.iload 6), none, some (.aload_n 2), some (.getfield 46), none, none, some (.invokevirtual 69), none, none, some (.aload_n 0), some (.getfield 17), none, none, some (.iload 6), none, some (.invokevirtual 72), none, none, some (.iadd), some (.iadd), some (.istore 4), none, some (.iinc 5 1), none, none, some (.goto (-125)), none, none, some (.iconst 0), some (.istore 5), none, some (.iload 5), none, some (.aload_n 0), some (.getfield 28), none, none, some (.aload_n 2), some (.getfield 55), none, none, some (.invokevirtual 83), none, none, some (.if_icmp .ge 24), none, none, some (.aload_n 1), some (.aload_n 0), some (.getfield 28), none, none, some (.iload 5), none, some (.aload_n 2), some (.getfield 55), none, none, some (.imul), some (.invokevirtual 79), none, none, some (.iinc 5 1), none, none, some (.goto (-34)), none, none, some (.return_)]
def ai_t4 : List (Option Instr) := [some (.aload_n 0), some (.getfield 17), none, none, some (.iload_n 1), some (.invokevirtual 40), none, none, some (.ifCond .ne 5), none, none, some (.iconst (-1)), some (.ireturn), some (.iconst 0), some (.istore 4), none, some (.iconst 0), some (.istore 5), none, some (.iload 5), none, some (.aload_n 0), some (.getfield 17), none, none, some (.getfield 86), none, none, some (.iload_n 3), some (.iadd), some (.if_icmp .ge 56), none, none, some (.aload_n 0), some (.getfield 11), none, none, some (.iload_n 1), some (.aaload), some (.iload_n 2), some (.iload 5), none, some (.iadd), some (.aload_n 0), some (.getfield 17), none, none, some (.getfield 86), none, none, some (.irem), some (.invokevirtual 89), none, none, some (.ifCond .eq 7), none, none, some (.iconst 0), some (.goto 7), none, none, some (.iload 4), none, some (.iconst 1), some (.iadd), some (.istore 4), none, some (.iload 4), none, some (.iload_n 3), some (.if_icmp .lt 10), none, none, some (.iload 5), none, some (.iconst 1), some (.iadd), some (.iload_n 3), some (.isub), some (.ireturn), some (.iinc 5 1), none, none, some (.goto (-64)), none, none, some (.iconst (-1)), some (.ireturn)]
def ai_t5 : List (Option Instr) := [some (.aload_n 0), some (.invokespecial 3), none, none, some (.aload_n 0), some (.iconst 4), some (.newarray .int), none, some (.putfield 9), none, none, some (.aload_n 0), some (.iconst 4), some (.newarray .int), none, some (.putfield 15), none, none, some (.aload_n 0), some (.iconst 0), some (.putfield 18), none, none, some (.aload_n 0), some (.iconst 0), some (.putfield 22), none, none, some (.aload_n 0), some (.sipush 3000), none, none, some (.putfield 25), none, none, some (.aload_n 0), some (.iload_n 1), some (.putfield 28), none, none, some (.aload_n 0), some (.iload_n 2), some (.putfield 31), none, none, some (.aload_n 0), some (.iload_n 3), some (.putfield 34), none, none, some (.aload_n 0), some (.iload 4), none, some (.putfield 37), none, none, some (.return_)]
def ai_t6 : List (Option Instr) := [some (.aload_n 0), some (.iload_n 1), some (.putfield 18), none, none, some (.aload_n 0), some (.iconst 0), some (.putfield 22), none, none, some (.aload_n 0), some (.sipush 3000), none, none, some (.putfield 25), none, none, some (.iconst 0), some (.istore_n 2), some (.iload_n 2), some (.iconst 4), some (.if_icmp .ge 27), none, none, some (.aload_n 0), some (.getfield 9), none, none, some (.iload_n 2), some (.sipush 3000), none, none, some (.iastore), some (.aload_n 0), some (.getfield 15), none, none, some (.iload_n 2), some (.sipush 3000), none, none, some (.iastore), some (.iinc 2 1), none, none, some (.goto (-26)), none, none, some (.aload_n 0), some (.getfield 9), none, none, some (.iconst 0), some (.aload_n 0), some (.getfield 28), none, none, some (.iastore), some (.return_)]
def ai_t7 : List (Option Instr) := [some (.aload_n 0), some (.getfield 18), none, none, some (.aload_n 0), some (.getfield 22), none, none, some (.invokestatic 40), none, none, some (.ireturn)]
def ai_t8 : List (Option Instr) := [some (.aload_n 0), some (.getfield 22), none, none, some (.iconst 4), some (.if_icmp .ge 15), none, none, some (.aload_n 0), some (.getfield 9), none, none, some (.aload_n 0), some (.getfield 22), none, none, some (.iaload), some (.goto 6), none, none, some (.sipush 3000), none, none, some (.ireturn)]
def ai_t9 : List (Option Instr) := [some (.aload_n 1), some (.ifnull 14), none, none, some (.aload_n 0), some (.invokevirtual 46), none, none, some (.aload_n 1), some (.invokevirtual 46), none, none, some (.if_icmp .ge 7), none, none, some (.iconst 1), some (.goto 4), none, none, some (.iconst 0), some (.ireturn)]
def ai_t10 : List (Option Instr) := [some (.aload_n 0), some (.getfield 18), none, none, some (.iload_n 1), some (.invokestatic 50), none, none, some (.istore_n 2), some (.iload_n 2), some (.iconst (-1)), some (.if_icmp .ne 9), none, none, some (.sipush 3000), none, none, some (.goto 9), none, none, some (.aload_n 0), some (.getfield 9), none, none, some (.iload_n 2), some (.iaload), some (.ireturn)]
def ai_t11 : List (Option Instr) := [some (.aload_n 0), some (.getfield 18), none, none, some (.iload_n 1), some (.invokestatic 50), none, none, some (.istore_n 3), some (.iload_n 3), some (.iconst (-1)), some (.if_icmp .eq 27), none, none, some (.aload_n 0), some (.getfield 9), none, none, some (.iload_n 3), some (.iaload), some (.iload_n 2), some (.if_icmp .gt 17), none, none, some (.iload_n 2), some (.aload_n 0), some (.getfield 15), none, none, some (.iload_n 3), some (.iaload), some (.if_icmp .ge 7), none, none, some (.iconst 1), some (.goto 4), none, none, some (.iconst 0), some (.ireturn)]
def ai_t12 : List (Option Instr) := [some (.aload_n 0), some (.invokespecial 3), none, none, some (.aload_n 0), some (.bipush 6), none, some (.newarray .int), none, some (.putfield 9), none, none, some (.aload_n 0), some (.bipush 6), none, some (.newarray .int), none, some (.putfield 15), none, none, some (.aload_n 0), some (.bipush 12), none, some (.newarray .int), none, some (.putfield 18), none, none, some (.aload_n 0), some (.bipush 12), none, some (.newarray .int), none, some (.putfield 21), none, none, some (.aload_n 0), some (.bipush 12), none, some (.newarray .int), none, some (.putfield 24), none, none, some (.aload_n 0), some (.bipush 12), none, some (.newarray .int), none, some (.putfield 27), none, none, some (.aload_n 0), some (.iconst 0), some (.putfield 30), none, none, some (.aload_n 0), some (.iconst 0), some (.putfield 34), none, none, some (.aload_n 0), some (.bipush 12), none, some (.putfield 37), none, none, some (.aload_n 0), some (.iconst 0), some (.putfield 40), none, none, some (.return_)]
def ai_t13 : List (Option Instr) := [some (.iload_n 1), some (.ifCond .lt 15), none, none, some (.iload_n 1), some (.aload_n 0), some (.getfield 30), none, none, some (.if_icmp .ge 7), none, none, some (.iconst 1), some (.goto 4), none, none, some (.iconst 0), some (.ireturn)]
def ai_t14 : List (Option Instr) := [some (.aload_n 0), some (.iload_n 1), some (.invokevirtual 43), none, none, some (.ifCond .eq 20), none, none, some (.aload_n 0), some (.iload_n 2), some (.invokevirtual 43), none, none, some (.ifCond .eq 12), none, none, some (.iload_n 1), some (.iload_n 2), some (.if_icmp .eq 7), none, none, some (.iconst 1), some (.goto 4), none, none, some (.iconst 0), some (.ireturn)]
def ai_t15 : List (Option Instr) := [some (.iload_n 1), some (.ifCond .lt 15), none, none, some (.iload_n 1), some (.aload_n 0), some (.getfield 34), none, none, some (.if_icmp .ge 7), none, none, some (.iconst 1), some (.goto 4), none, none, some (.iconst 0), some (.ireturn)]
def ai_t16 : List (Option Instr) := [some (.iload_n 1), some (.ifCond .lt 15), none, none, some (.iload_n 1), some (.aload_n 0), some (.getfield 37), none, none, some (.if_icmp .ge 7), none, none, some (.iconst 1), some (.goto 4), none, none, some (.iconst 0), some (.ireturn)]
def ai_t17 : List (Option Instr) := [some (.aload_n 0), some (.getfield 30), none, none, some (.bipush 6), none, some (.if_icmp .lt 5), none, none, some (.iconst (-1)), some (.ireturn), some (.aload_n 0), some (.getfield 9), none, none, some (.aload_n 0), some (.getfield 30), none, none, some (.iload_n 1), some (.iastore), some (.aload_n 0), some (.dup), some (.getfield 30), none, none, some (.iconst 1), some (.iadd), some (.putfield 30), none, none, some (.aload_n 0), some (.getfield 30), none, none, some (.iconst 1), some (.isub), some (.ireturn)]
def ai_t18 : List (Option Instr) := [some (.aload_n 0), some (.getfield 34), none, none, some (.bipush 12), none, some (.if_icmp .lt 5), none, none, some (.iconst (-1)), some (.ireturn), some (.aload_n 0), some (.getfield 18), none, none, some (.aload_n 0), some (.getfield 34), none, none, some (.iload_n 1), some (.iastore), some (.aload_n 0), some (.getfield 21), none, none, some (.aload_n 0), some (.getfield 34), none, none, some (.iload_n 2), some (.iastore), some (.aload_n 0), some (.getfield 24), none, none, some (.aload_n 0), some (.getfield 34), none, none, some (.iload_n 3), some (.iastore), some (.aload_n 0), some (.getfield 27), none, none, some (.aload_n 0), some (.getfield 34), none, none, some (.iload 4), none, some (.iastore), some (.aload_n 0), some (.dup), some (.getfield 34), none, none, some (.iconst 1), some (.iadd), some (.putfield 34), none, none, some (.aload_n 0), some (.getfield 34), none, none, some (.iconst 1), some (.isub), some (.ireturn)]
def ai_t19 : List (Option Instr) := [some (.iconst 0), some (.istore_n 1), some (.iload_n 1), some (.bipush 6), none, some (.if_icmp .ge 16), none, none, some (.aload_n 0), some (.getfield 15), none, none, some (.iload_n 1), some (.iconst 0), some (.iastore), some (.iinc 1 1), none, none, some (.goto (-16)), none, none, some (.return_)]
def ai_t20 : List (Option Instr) := [some (.aload_n 0), some (.iload_n 1), some (.invokevirtual 47), none, none, some (.ifCond .eq 14), none, none, some (.iload_n 2), some (.aload_n 0), some (.getfield 27), none, none, some (.iload_n 1), some (.iaload), some (.imul), some (.goto 4), none, none, some (.iconst 0), some (.ireturn)]
def ai_t21 : List (Option Instr) := [some (.aload_n 0), some (.iload_n 1), some (.invokevirtual 47), none, none, some (.ifCond .eq 21), none, none, some (.iload_n 2), some (.aload_n 0), some (.getfield 27), none, none, some (.iload_n 1), some (.iaload), some (.imul), some (.aload_n 0), some (.getfield 24), none, none, some (.iload_n 1), some (.iaload), some (.iadd), some (.goto 4), none, none, some (.iconst 0), some (.ireturn)]
def ai_t22 : List (Option Instr) := [some (.aload_n 0), some (.iload_n 1), some (.invokevirtual 47), none, none, some (.ifCond .eq 30), none, none, some (.aload_n 0), some (.aload_n 0), some (.getfield 21), none, none, some (.iload_n 1), some (.iaload), some (.invokevirtual 43), none, none, some (.ifCond .eq 17), none, none, some (.aload_n 0), some (.getfield 9), none, none, some (.aload_n 0), some (.getfield 21), none, none, some (.iload_n 1), some (.iaload), some (.iaload), some (.goto 4), none, none, some (.iconst 0), some (.ireturn)]
def ai_t23 : List (Option Instr) := [some (.aload_n 0), some (.iload_n 1), some (.invokevirtual 47), none, none, some (.ifCond .eq 37), none, none, some (.aload_n 0), some (.aload_n 0), some (.getfield 21), none, none, some (.iload_n 1), some (.iaload), some (.invokevirtual 43), none, none, some (.ifCond .eq 24), none, none, some (.aload_n 0), some (.getfield 9), none, none, some (.aload_n 0), some (.getfield 21), none, none, some (.iload_n 1), some (.iaload), some (.iaload), some (.iconst 2), some (.aload_n 0), some (.getfield 40), none, none, some (.imul), some (.iadd), some (.goto 4), none, none, some (.iconst 0), some (.ireturn)]
def ai_t24 : List (Option Instr) := [some (.aload_n 0), some (.iload_n 1), some (.invokevirtual 47), none, none, some (.ifCond .eq 30), none, none, some (.aload_n 0), some (.aload_n 0), some (.getfield 18), none, none, some (.iload_n 1), some (.iaload), some (.invokevirtual 43), none, none, some (.ifCond .eq 17), none, none, some (.aload_n 0), some (.getfield 15), none, none, some (.aload_n 0), some (.getfield 18), none, none, some (.iload_n 1), some (.iaload), some (.iaload), some (.goto 4), none, none, some (.iconst 0), some (.ireturn)]
def ai_t25 : List (Option Instr) := [some (.aload_n 1), some (.getfield 50), none, none, some (.istore_n 3), some (.iconst 0), some (.istore 4), none, some (.iload 4), none, some (.iload_n 2), some (.if_icmp .ge 46), none, none, some (.iload 4), none, some (.iconst 4), some (.if_icmp .ge 40), none, none, some (.aload_n 1), some (.invokevirtual 55), none, none, some (.iload 4), none, some (.invokestatic 59), none, none, some (.istore 5), none, some (.iload_n 3), some (.aload_n 0), some (.iload 5), none, some (.aload_n 1), some (.getfield 65), none, none, some (.invokevirtual 68), none, none, some (.aload_n 0), some (.iload 5), none, some (.invokevirtual 71), none, none, some (.iadd), some (.iadd), some (.istore_n 3), some (.iinc 4 1), none, none, some (.goto (-46)), none, none, some (.iload_n 3), some (.ireturn)]
def ai_t26 : List (Option Instr) := [some (.aload_n 0), some (.aload_n 1), some (.iload_n 3), some (.invokevirtual 75), none, none, some (.iload_n 2), some (.aload_n 1), some (.getfield 79), none, none, some (.imul), some (.iadd), some (.aload_n 0), some (.aload_n 1), some (.invokevirtual 55), none, none, some (.iload_n 3), some (.invokestatic 59), none, none, some (.invokevirtual 82), none, none, some (.iadd), some (.ireturn)]
def ai_t27 : List (Option Instr) := [some (.aload_n 1), some (.invokevirtual 55), none, none, some (.iload_n 2), some (.invokestatic 85), none, none, some (.istore 4), none, some (.iload 4), none, some (.iconst (-1)), some (.if_icmp .eq 35), none, none, some (.iload_n 3), some (.aload_n 0), some (.aload_n 1), some (.iload 4), none, some (.invokevirtual 75), none, none, some (.isub), some (.aload_n 1), some (.getfield 79), none, none, some (.invokestatic 88), none, none, some (.aload_n 0), some (.iload_n 2), some (.aload_n 1), some (.getfield 65), none, none, some (.invokevirtual 93), none, none, some (.if_icmp .ge 7), none, none, some (.iconst 1), some (.goto 4), none, none, some (.iconst 0), some (.ireturn)]
def ai_t28 : List (Option Instr) := [some (.aload_n 0), some (.invokespecial 3), none, none, some (.aload_n 0), some (.bipush 8), none, some (.anewarray 9), none, none, some (.putfield 11), none, none, some (.aload_n 0), some (.bipush 8), none, some (.anewarray 17), none, none, some (.putfield 19), none, none, some (.aload_n 0), some (.bipush 8), none, some (.newarray .int), none, some (.putfield 23), none, none, some (.aload_n 0), some (.bipush 8), none, some (.newarray .int), none, some (.putfield 27), none, none, some (.aload_n 0), some (.iconst 0), some (.putfield 30), none, none, some (.aload_n 0), some (.iconst 0), some (.putfield 34), none, none, some (.aload_n 0), some (.aload_n 2), some (.putfield 37), none, none, some (.aload_n 0), some (.aload_n 3), some (.putfield 41), none, none, some (.iconst 0), some (.istore 4), none, some (.iload 4), none, some (.bipush 8), none, some (.if_icmp .ge 24), none, none, some (.aload_n 0), some (.getfield 19), none, none, some (.iload 4), none, some (.new 17), none, none, some (.dup), some (.aload_n 1), some (.invokespecial 45), none, none, some (.aastore), some (.iinc 4 1), none, none, some (.goto (-25)), none, none, some (.return_)]
def ai_t29 : List (Option Instr) := [some (.aload_n 0), some (.iconst 0), some (.putfield 34), none, none, some (.return_)]
def ai_t30 : List (Option Instr) := [some (.aload_n 0), some (.getfield 37), none, none, some (.invokevirtual 48), none, none, some (.istore_n 1), some (.aload_n 0), some (.getfield 37), none, none, some (.invokevirtual 54), none, none, some (.istore_n 2), some (.iconst 0), some (.istore_n 3), some (.iload_n 3), some (.iconst 3), some (.if_icmp .gt 81), none, none, some (.sipush 255), none, none, some (.istore 4), none, some (.iload 4), none, some (.ifCond .lt 65), none, none, some (.iload 4), none, some (.invokestatic 57), none, none, some (.istore 5), none, some (.iload 5), none, some (.iload_n 1), some (.iconst (-1)), some (.ixor), some (.iand), some (.ifCond .ne 43), none, none, some (.iload 5), none, some (.invokestatic 61), none, none, some (.iload_n 3), some (.if_icmp .eq 6), none, none, some (.goto 31), none, none, some (.aload_n 0), some (.iload 5), none, some (.iload_n 2), some (.ior), some (.invokevirtual 66), none, none, some (.istore 6), none, some (.iload 6), none, some (.ifCond .eq 16), none, none, some (.iload 6), none, some (.iconst 1), some (.if_icmp .ne 7), none, none, some (.iload_n 3), some (.goto 5), none, none, some (.iload 6), none, some (.ireturn), some (.iinc 4 (-1)), none, none, some (.goto (-64)), none, none, some (.iinc 3 1), none, none, some (.goto (-80)), none, none, some (.iconst (-1)), some (.ireturn)]
def ai_t31 : List (Option Instr) := [some (.iconst 0), some (.istore_n 1), some (.iconst 0), some (.istore_n 2), some (.iload_n 2), some (.bipush 8), none, some (.if_icmp .ge 22), none, none, some (.iload_n 1), some (.iload_n 0), some (.bipush 7), none, some (.iload_n 2), some (.isub), some (.ishr), some (.iconst 1), some (.iand), some (.iload_n 2), some (.ishl), some (.ior), some (.istore_n 1), some (.iinc 2 1), none, none, some (.goto (-22)), none, none, some (.iload_n 1), some (.ireturn)]
def ai_t32 : List (Option Instr) := [some (.aload_n 0), some (.getfield 41), none, none, some (.invokevirtual 69), none, none, some (.aload_n 0), some (.iconst 0), some (.putfield 30), none, none, some (.iconst 0), some (.istore_n 2), some (.iload_n 2), some (.aload_n 0), some (.getfield 37), none, none, some (.getfield 74), none, none, some (.if_icmp .ge 61), none, none, some (.iload_n 1), some (.iload_n 2), some (.ishr), some (.iconst 1), some (.iand), some (.ifCond .ne 11), none, none, some (.aload_n 0), some (.iload_n 2), some (.invokevirtual 77), none, none, some (.goto 39), none, none, some (.aload_n 0), some (.getfield 30), none, none, some (.bipush 8), none, some (.if_icmp .ge 30), none, none, some (.aload_n 0), some (.getfield 11), none, none, some (.aload_n 0), some (.getfield 30), none, none, some (.aload_n 0), some (.getfield 37), none, none, some (.iload_n 2), some (.invokevirtual 81), none, none, some (.aastore), some (.aload_n 0), some (.dup), some (.getfield 30), none, none, some (.iconst 1), some (.iadd), some (.putfield 30), none, none, some (.iinc 2 1), none, none, some (.goto (-66)), none, none, some (.aload_n 0), some (.iconst 0), some (.invokevirtual 85), none, none, some (.istore_n 2), some (.iload_n 2), some (.iconst 1), some (.if_icmp .ne 7), none, none, some (.aload_n 0), some (.invokevirtual 88), none, none, some (.aload_n 0), some (.invokevirtual 91), none, none, some (.iload_n 2), some (.ireturn)]
def ai_t33 : List (Option Instr) := [some (.aload_n 0), some (.getfield 41), none, none, some (.invokevirtual 69), none, none, some (.iconst 0), some (.istore_n 1), some (.iload_n 1), some (.aload_n 0), some (.getfield 37), none, none, some (.getfield 74), none, none, some (.if_icmp .ge 14), none, none, some (.aload_n 0), some (.iload_n 1), some (.invokevirtual 77), none, none, some (.iinc 1 1), none, none, some (.goto (-19)), none, none, some (.return_)]
def ai_t34 : List (Option Instr) := [some (.aload_n 0), some (.getfield 37), none, none, some (.iload_n 1), some (.invokevirtual 94), none, none, some (.astore_n 2), some (.aload_n 2), some (.ifnull 20), none, none, some (.aload_n 0), some (.getfield 41), none, none, some (.aload_n 2), some (.aload_n 2), some (.invokevirtual 97), none, none, some (.aload_n 2), some (.getfield 100), none, none, some (.iconst 1), some (.invokevirtual 103), none, none, some (.return_)]
def ai_t35 : List (Option Instr) := [some (.iconst 0), some (.istore_n 1), some (.iload_n 1), some (.aload_n 0), some (.getfield 30), none, none, some (.if_icmp .ge 40), none, none, some (.aload_n 0), some (.getfield 11), none, none, some (.iload_n 1), some (.aaload), some (.astore_n 2), some (.aload_n 2), some (.ifnull 23), none, none, some (.aload_n 2), some (.aload_n 0), some (.getfield 23), none, none, some (.iload_n 1), some (.iaload), some (.putfield 107), none, none, some (.aload_n 2), some (.aload_n 0), some (.getfield 27), none, none, some (.iload_n 1), some (.iaload), some (.putfield 100), none, none, some (.iinc 1 1), none, none, some (.goto (-42)), none, none, some (.return_)]
def ai_t36 : List (Option Instr) := [some (.iload_n 1), some (.aload_n 0), some (.getfield 30), none, none, some (.if_icmp .ge 18), none, none, some (.iload_n 1), some (.bipush 8), none, some (.if_icmp .ge 12), none, none, some (.aload_n 0), some (.getfield 11), none, none, some (.iload_n 1), some (.aaload), some (.ifnonnull 5), none, none, some (.iconst 1), some (.ireturn), some (.aload_n 0), some (.getfield 11), none, none, some (.iload_n 1), some (.aaload), some (.astore_n 2), some (.iconst 0), some (.istore_n 3), some (.iload_n 3), some (.aload_n 2), some (.getfield 110), none, none, some (.if_icmp .ge 56), none, none, some (.aload_n 0), some (.getfield 23), none, none, some (.iload_n 1), some (.iload_n 3), some (.iastore), some (.aload_n 0), some (.getfield 41), none, none, some (.aload_n 0), some (.getfield 19), none, none, some (.iload_n 1), some (.aaload), some (.aload_n 2), some (.aload_n 2), some (.iload_n 3), some (.invokevirtual 112), none, none, some (.invokevirtual 115), none, none, some (.aload_n 0), some (.iload_n 1), some (.aload_n 2), some (.aload_n 2), some (.iload_n 3), some (.invokevirtual 112), none, none, some (.invokevirtual 119), none, none, some (.istore 4), none, some (.iload 4), none, some (.ifCond .eq 6), none, none, some (.iload 4), none, some (.ireturn), some (.iinc 3 1), none, none, some (.goto (-58)), none, none, some (.iconst 0), some (.ireturn)]
def ai_t37 : List (Option Instr) := [some (.iconst 0), some (.istore 4), none, some (.iload 4), none, some (.aload_n 2), some (.getfield 123), none, none, some (.if_icmp .ge 97), none, none, some (.aload_n 0), some (.getfield 34), none, none, some (.ldc 126), none, some (.if_icmp .lt 6), none, none, some (.bipush (-2)), none, some (.ireturn), some (.aload_n 0), some (.dup), some (.getfield 34), none, none, some (.iconst 1), some (.iadd), some (.putfield 34), none, none, some (.aload_n 0), some (.getfield 19), none, none, some (.iload_n 1), some (.aaload), some (.iload 4), none, some (.invokevirtual 127), none, none, some (.ifCond .eq 6), none, none, some (.goto 52), none, none, some (.aload_n 0), some (.getfield 27), none, none, some (.iload_n 1), some (.iload 4), none, some (.iastore), some (.aload_n 0), some (.getfield 41), none, none, some (.aload_n 2), some (.iload_n 3), some (.iload 4), none, some (.iconst 1), some (.invokevirtual 103), none, none, some (.aload_n 0), some (.iload_n 1), some (.iconst 1), some (.iadd), some (.invokevirtual 85), none, none, some (.istore 5), none, some (.iload 5), none, some (.ifCond .eq 6), none, none, some (.iload 5), none, some (.ireturn), some (.aload_n 0), some (.getfield 41), none, none, some (.aload_n 2), some (.iload_n 3), some (.iload 4), none, some (.iconst 0), some (.invokevirtual 103), none, none, some (.iinc 4 1), none, none, some (.goto (-100)), none, none, some (.iconst 0), some (.ireturn)]
def ai_t38 : List (Option Instr) := [some (.aload_n 0), some (.invokespecial 3), none, none, some (.aload_n 0), some (.bipush 60), none, some (.anewarray 9), none, none, some (.putfield 11), none, none, some (.aload_n 0), some (.bipush 12), none, some (.anewarray 9), none, none, some (.putfield 17), none, none, some (.aload_n 0), some (.bipush 12), none, some (.newarray .int), none, some (.putfield 20), none, none, some (.aload_n 0), some (.bipush 12), none, some (.newarray .int), none, some (.putfield 24), none, none, some (.aload_n 0), some (.iconst 0), some (.putfield 27), none, none, some (.aload_n 0), some (.iconst 0), some (.putfield 31), none, none, some (.aload_n 0), some (.aload_n 1), some (.putfield 35), none, none, some (.aload_n 0), some (.aload_n 2), some (.putfield 39), none, none, some (.aload_n 0), some (.aload_n 3), some (.putfield 43), none, none, some (.return_)]
def ai_t39 : List (Option Instr) := [some (.aload_n 0), some (.getfield 27), none, none, some (.bipush 60), none, some (.if_icmp .lt 5), none, none, some (.iconst (-1)), some (.ireturn), some (.aload_n 0), some (.getfield 11), none, none, some (.aload_n 0), some (.getfield 27), none, none, some (.aload_n 1), some (.aastore), some (.aload_n 0), some (.dup), some (.getfield 27), none, none, some (.iconst 1), some (.iadd), some (.putfield 27), none, none, some (.aload_n 0), some (.iconst 1), some (.putfield 31), none, none, some (.aload_n 0), some (.getfield 27), none, none, some (.iconst 1), some (.isub), some (.ireturn)]
def ai_t40 : List (Option Instr) := [some (.iload_n 1), some (.ifCond .lt 20), none, none, some (.iload_n 1), some (.aload_n 0), some (.getfield 27), none, none, some (.if_icmp .ge 12), none, none, some (.aload_n 0), some (.getfield 11), none, none, some (.iload_n 1), some (.aaload), some (.goto 4), none, none, some (.aconst_null), some (.areturn)]
def ai_t41 : List (Option Instr) := [some (.aload_n 0), some (.getfield 31), none, none, some (.ifCond .ne 4), none, none, some (.return_), some (.aload_n 0), some (.iconst 0), some (.putfield 31), none, none, some (.aload_n 0), some (.invokevirtual 47), none, none, some (.iconst 0), some (.istore_n 1), some (.iload_n 1), some (.sipush 240), none, none, some (.if_icmp .ge 25), none, none, some (.aload_n 0), some (.invokevirtual 50), none, none, some (.istore_n 2), some (.iload_n 2), some (.iconst (-1)), some (.if_icmp .ne 4), none, none, some (.return_), some (.aload_n 0), some (.iload_n 2), some (.invokevirtual 54), none, none, some (.iinc 1 1), none, none, some (.goto (-26)), none, none, some (.return_)]
def ai_t42 : List (Option Instr) := [some (.iconst 0), some (.istore_n 1), some (.iload_n 1), some (.aload_n 0), some (.getfield 27), none, none, some (.if_icmp .ge 47), none, none, some (.aload_n 0), some (.iload_n 1), some (.invokevirtual 58), none, none, some (.astore_n 2), some (.aload_n 2), some (.ifnull 31), none, none, some (.aload_n 2), some (.aload_n 0), some (.getfield 39), none, none, some (.aload_n 2), some (.getfield 62), none, none, some (.aload_n 2), some (.getfield 65), none, none, some (.aload_n 2), some (.getfield 68), none, none, some (.iconst (-1)), some (.invokevirtual 71), none, none, some (.iconst 0), some (.invokestatic 77), none, none, some (.invokevirtual 83), none, none, some (.iinc 1 1), none, none, some (.goto (-49)), none, none, some (.iconst 0), some (.istore_n 1), some (.iload_n 1), some (.aload_n 0), some (.getfield 35), none, none, some (.getfield 86), none, none, some (.if_icmp .ge 21), none, none, some (.aload_n 0), some (.getfield 24), none, none, some (.iload_n 1), some (.iconst 0), some (.iastore), some (.aload_n 0), some (.iload_n 1), some (.invokevirtual 91), none, none, some (.iinc 1 1), none, none, some (.goto (-26)), none, none, some (.return_)]
def ai_t43 : List (Option Instr) := [some (.aconst_null), some (.astore_n 2), some (.iconst 0), some (.istore_n 3), some (.iload_n 3), some (.aload_n 0), some (.getfield 27), none, none, some (.if_icmp .ge 42), none, none, some (.aload_n 0), some (.iload_n 3), some (.invokevirtual 58), none, none, some (.astore 4), none, some (.aload 4), none, some (.ifnull 24), none, none, some (.aload 4), none, some (.invokevirtual 94), none, none, some (.iload_n 1), some (.if_icmp .ne 15), none, none, some (.aload 4), none, some (.aload_n 2), some (.invokevirtual 97), none, none, some (.ifCond .eq 6), none, none, some (.aload 4), none, some (.astore_n 2), some (.iinc 3 1), none, none, some (.goto (-44)), none, none, some (.aload_n 0), some (.getfield 17), none, none, some (.iload_n 1), some (.aload_n 2), some (.aastore), some (.aload_n 0), some (.getfield 20), none, none, some (.iload_n 1), some (.aload_n 2), some (.ifnonnull 9), none, none, some (.sipush 3000), none, none, some (.goto 9), none, none, some (.aload_n 0), some (.aload_n 2), some (.iload_n 1), some (.invokevirtual 101), none, none, some (.iastore), some (.return_)]
def ai_t44 : List (Option Instr) := [some (.aload_n 1), some (.invokevirtual 105), none, none, some (.aload_n 0), some (.getfield 24), none, none, some (.iload_n 2), some (.iaload), some (.invokestatic 77), none, none, some (.istore_n 3), some (.iload_n 3), some (.aload_n 0), some (.getfield 35), none, none, some (.iload_n 2), some (.invokevirtual 108), none, none, some (.isub), some (.aload_n 0), some (.getfield 35), none, none, some (.getfield 112), none, none, some (.invokestatic 115), none, none, some (.istore 4), none, some (.aload_n 0), some (.getfield 43), none, none, some (.iload_n 2), some (.iload 4), none, some (.aload_n 0), some (.getfield 35), none, none, some (.iload_n 2), some (.aload_n 1), some (.getfield 68), none, none, some (.invokevirtual 118), none, none, some (.invokevirtual 121), none, none, some (.istore 5), none, some (.iload 5), none, some (.iconst (-1)), some (.if_icmp .ne 9), none, none, some (.sipush 3000), none, none, some (.goto 13), none, none, some (.iload_n 3), some (.iload 5), none, some (.iadd), some (.sipush 3000), none, none, some (.invokestatic 127), none, none, some (.ireturn)]
def ai_t45 : List (Option Instr) := [some (.iconst (-1)), some (.istore_n 1), some (.sipush 3000), none, none, some (.istore_n 2), some (.iconst 0), some (.istore_n 3), some (.iload_n 3), some (.aload_n 0), some (.getfield 35), none, none, some (.getfield 86), none, none, some (.if_icmp .ge 28), none, none, some (.aload_n 0), some (.getfield 20), none, none, some (.iload_n 3), some (.iaload), some (.iload_n 2), some (.if_icmp .ge 12), none, none, some (.aload_n 0), some (.getfield 20), none, none, some (.iload_n 3), some (.iaload), some (.istore_n 2), some (.iload_n 3), some (.istore_n 1), some (.iinc 3 1), none, none, some (.goto (-33)), none, none, some (.iload_n 1), some (.ireturn)]
def ai_t46 : List (Option Instr) := [some (.aload_n 0), some (.getfield 17), none, none, some (.iload_n 1), some (.aaload), some (.astore_n 2), some (.aload_n 2), some (.ifnull 11), none, none, some (.aload_n 2), some (.getfield 130), none, none, some (.iconst 4), some (.if_icmp .lt 4), none, none, some (.return_), some (.aload_n 0), some (.getfield 20), none, none, some (.iload_n 1), some (.iaload), some (.istore_n 3), some (.iload_n 3), some (.aload_n 0), some (.getfield 35), none, none, some (.iload_n 1), some (.aload_n 2), some (.getfield 68), none, none, some (.invokevirtual 133), none, none, some (.iadd), some (.istore 4), none, some (.aload_n 2), some (.getfield 136), none, none, some (.aload_n 2), some (.getfield 130), none, none, some (.iload_n 3), some (.iastore), some (.aload_n 2), some (.dup), some (.getfield 130), none, none, some (.iconst 1), some (.iadd), some (.putfield 130), none, none, some (.aload_n 0), some (.getfield 24), none, none, some (.iload_n 1), some (.iload_n 3), some (.aload_n 0), some (.getfield 35), none, none, some (.iload_n 1), some (.aload_n 2), some (.getfield 68), none, none, some (.invokevirtual 118), none, none, some (.iadd), some (.iastore), some (.aload_n 0), some (.iload_n 1), some (.invokevirtual 91), none, none, some (.aload_n 2), some (.invokevirtual 94), none, none, some (.istore 5), none, some (.aload_n 0), some (.getfield 35), none, none, some (.iload 5), none, some (.invokevirtual 139), none, none, some (.ifCond .ne 10), none, none, some (.aload_n 2), some (.iload 4), none, some (.putfield 143), none, none, some (.return_), some (.aload_n 2), some (.getfield 146), none, none, some (.aload_n 2), some (.getfield 130), none, none, some (.iload 4), none, some (.aload_n 0), some (.getfield 35), none, none, some (.iload_n 1), some (.invokevirtual 149), none, none, some (.iadd), some (.iastore), some (.aload_n 0), some (.iload 5), none, some (.invokevirtual 91), none, none, some (.return_)]
def ai_t47 : List (Option Instr) := [some (.iconst 0), some (.istore_n 2), some (.iconst 0), some (.istore_n 3), some (.iload_n 3), some (.aload_n 0), some (.getfield 27), none, none, some (.if_icmp .ge 37), none, none, some (.aload_n 0), some (.iload_n 3), some (.invokevirtual 58), none, none, some (.astore 4), none, some (.aload 4), none, some (.ifnull 19), none, none, some (.iload_n 2), some (.aload_n 0), some (.iload_n 1), some (.aload 4), none, some (.iload_n 1), some (.invokevirtual 152), none, none, some (.invokevirtual 155), none, none, some (.invokestatic 77), none, none, some (.istore_n 2), some (.iinc 3 1), none, none, some (.goto (-39)), none, none, some (.iload_n 2), some (.ireturn)]
def ai_t48 : List (Option Instr) := [some (.iconst 0), some (.istore_n 3), some (.iconst 0), some (.istore 4), none, some (.iload 4), none, some (.aload_n 0), some (.getfield 27), none, none, some (.if_icmp .ge 42), none, none, some (.aload_n 0), some (.iload 4), none, some (.invokevirtual 58), none, none, some (.astore 5), none, some (.aload 5), none, some (.ifnull 23), none, none, some (.iload_n 2), some (.sipush 3000), none, none, some (.if_icmp .ge 16), none, none, some (.aload 5), none, some (.iload_n 1), some (.iload_n 2), some (.invokevirtual 158), none, none, some (.ifCond .eq 6), none, none, some (.iinc 3 1), none, none, some (.iinc 4 1), none, none, some (.goto (-45)), none, none, some (.iload_n 3), some (.ireturn)]
def ai_t49 : List (Option Instr) := [some (.iconst 0), some (.istore_n 1), some (.iconst 0), some (.istore_n 2), some (.iload_n 2), some (.aload_n 0), some (.getfield 27), none, none, some (.if_icmp .ge 32), none, none, some (.aload_n 0), some (.iload_n 2), some (.invokevirtual 58), none, none, some (.astore_n 3), some (.aload_n 3), some (.ifnull 16), none, none, some (.aload_n 3), some (.getfield 143), none, none, some (.sipush 3000), none, none, some (.if_icmp .ge 6), none, none, some (.iinc 1 1), none, none, some (.iinc 2 1), none, none, some (.goto (-34)), none, none, some (.iload_n 1), some (.ireturn)]
def ai_t50 : List (Option Instr) := [some (.aload_n 0), some (.invokespecial 1), none, none, some (.aload_n 0), some (.lconst 0), some (.putfield 7), none, none, some (.aload_n 0), some (.lconst 0), some (.putfield 13), none, none, some (.aload_n 0), some (.aload_n 1), some (.putfield 16), none, none, some (.return_)]
def ai_t51 : List (Option Instr) := [some (.aload_n 0), some (.lconst 0), some (.putfield 7), none, none, some (.aload_n 0), some (.lconst 0), some (.putfield 13), none, none, some (.return_)]
def ai_t52 : List (Option Instr) := [some (.aload_n 0), some (.lconst 1), some (.aload_n 0), some (.getfield 16), none, none, some (.getfield 20), none, none, some (.iconst 2), some (.idiv), some (.lshl), some (.lconst 1), some (.lsub), some (.putfield 7), none, none, some (.aload_n 0), some (.aload_n 0), some (.getfield 7), none, none, some (.putfield 13), none, none, some (.return_)]
def ai_t53 : List (Option Instr) := [some (.aload_n 0), some (.getfield 16), none, none, some (.getfield 20), none, none, some (.iconst 2), some (.idiv), some (.istore_n 2), some (.iload_n 1), some (.iload_n 2), some (.if_icmp .ge 12), none, none, some (.aload_n 0), some (.getfield 7), none, none, some (.iload_n 1), some (.lshr), some (.goto 11), none, none, some (.aload_n 0), some (.getfield 13), none, none, some (.iload_n 1), some (.iload_n 2), some (.isub), some (.lshr), some (.lconst 1), some (.land), some (.lconst 1), some (.lcmp), some (.ifCond .ne 7), none, none, some (.iconst 1), some (.goto 4), none, none, some (.iconst 0), some (.ireturn)]
def ai_t54 : List (Option Instr) := [some (.aload_n 0), some (.dup), some (.getfield 7), none, none, some (.aload_n 1), some (.getfield 7), none, none, some (.lor), some (.putfield 7), none, none, some (.aload_n 0), some (.dup), some (.getfield 13), none, none, some (.aload_n 1), some (.getfield 13), none, none, some (.lor), some (.putfield 13), none, none, some (.return_)]
def ai_t55 : List (Option Instr) := [some (.aload_n 0), some (.aload_n 0), some (.getfield 7), none, none, some (.aload_n 1), some (.getfield 7), none, none, some (.ldc2_w 26), none, none, some (.lxor), some (.land), some (.putfield 7), none, none, some (.aload_n 0), some (.aload_n 0), some (.getfield 13), none, none, some (.aload_n 1), some (.getfield 13), none, none, some (.ldc2_w 26), none, none, some (.lxor), some (.land), some (.putfield 13), none, none, some (.return_)]
def ai_t56 : List (Option Instr) := [some (.aload_n 0), some (.aload_n 1), some (.getfield 7), none, none, some (.aload_n 1), some (.getfield 13), none, none, some (.iload_n 2), some (.invokevirtual 28), none, none, some (.return_)]
def ai_t57 : List (Option Instr) := [some (.aload_n 0), some (.invokevirtual 32), none, none, some (.aload_n 0), some (.getfield 16), none, none, some (.getfield 20), none, none, some (.iconst 2), some (.idiv), some (.istore 4), none, some (.lconst 1), some (.iload_n 2), some (.iload 4), none, some (.invokestatic 35), none, none, some (.lshl), some (.lconst 1), some (.lsub), some (.lstore 5), none, some (.lconst 1), some (.iload_n 2), some (.iload 4), none, some (.isub), some (.iconst 0), some (.invokestatic 41), none, none, some (.lshl), some (.lconst 1), some (.lsub), some (.lstore 7), none, some (.iconst 0), some (.istore 9), none, some (.iload 9), none, some (.aload_n 0), some (.iload_n 3), some (.invokevirtual 44), none, none, some (.if_icmp .ge 23), none, none, some (.aload_n 0), some (.lload 5), none, some (.lload 7), none, some (.iload_n 1), some (.iload 9), none, some (.iload_n 3), some (.imul), some (.iadd), some (.invokevirtual 28), none, none, some (.iinc 9 1), none, none, some (.goto (-27)), none, none, some (.return_)]
def ai_t58 : List (Option Instr) := [some (.iload_n 1), some (.ifCond .le 15), none, none, some (.aload_n 0), some (.getfield 16), none, none, some (.getfield 20), none, none, some (.iload_n 1), some (.idiv), some (.goto 4), none, none, some (.iconst 0), some (.ireturn)]
def ai_t59 : List (Option Instr) := [some (.aload_n 0), some (.getfield 16), none, none, some (.getfield 20), none, none, some (.iconst 2), some (.idiv), some (.istore 6), none, some (.iload 5), none, some (.aload_n 0), some (.getfield 16), none, none, some (.getfield 20), none, none, some (.irem), some (.istore 7), none, some (.iload 7), none, some (.ifCond .ge 16), none, none, some (.iload 7), none, some (.aload_n 0), some (.getfield 16), none, none, some (.getfield 20), none, none, some (.iadd), some (.goto 5), none, none, some (.iload 7), none, some (.istore 8), none, some (.iload 8), none, some (.iload 6), none, some (.if_icmp .lt 7), none, none, some (.iconst 1), some (.goto 4), none, none, some (.iconst 0), some (.istore 9), none, some (.iload 9), none, some (.ifCond .eq 11), none, none, some (.iload 8), none, some (.iload 6), none, some (.isub), some (.goto 5), none, none, some (.iload 8), none, some (.istore 10), none, some (.iload 9), none, some (.ifCond .eq 7), none, none, some (.lload_n 3), some (.goto 4), none, none, some (.lload_n 1), some (.lstore 11), none, some (.iload 9), none, some (.ifCond .eq 7), none, none, some (.lload_n 1), some (.goto 4), none, none, some (.lload_n 3), some (.lstore 13), none, some (.lconst 1), some (.iload 6), none, some (.lshl), some (.lconst 1), some (.lsub), some (.lstore 15), none, some (.aload_n 0), some (.dup), some (.getfield 7), none, none, some (.lload 11), none, some (.iload 10), none, some (.lshl), some (.lload 13), none, some (.iload 6), none, some (.iload 10), none, some (.isub), some (.lushr), some (.lor), some (.lload 15), none, some (.land), some (.lor), some (.putfield 7), none, none, some (.aload_n 0), some (.dup), some (.getfield 13), none, none, some (.lload 13), none, some (.iload 10), none, some (.lshl), some (.lload 11), none, some (.iload 6), none, some (.iload 10), none, some (.isub), some (.lushr), some (.lor), some (.lload 15), none, some (.land), some (.lor), some (.putfield 13), none, none, some (.return_)]
def ai_t60 : List (Option Instr) := [some (.aload_n 0), some (.invokespecial 3), none, none, some (.aload_n 0), some (.iconst 3), some (.newarray .int), none, some (.putfield 9), none, none, some (.aload_n 0), some (.iconst 0), some (.putfield 15), none, none, some (.aload_n 0), some (.iconst (-1)), some (.putfield 19), none, none, some (.aload_n 0), some (.iconst 0), some (.putfield 22), none, none, some (.aload_n 0), some (.iload_n 1), some (.putfield 25), none, none, some (.aload_n 0), some (.iload_n 2), some (.iconst 2), some (.invokestatic 28), none, none, some (.putfield 34), none, none, some (.return_)]
def ai_t61 : List (Option Instr) := [some (.aload_n 0), some (.getfield 15), none, none, some (.iconst 3), some (.if_icmp .ge 23), none, none, some (.aload_n 0), some (.getfield 9), none, none, some (.aload_n 0), some (.getfield 15), none, none, some (.iload_n 1), some (.iastore), some (.aload_n 0), some (.dup), some (.getfield 15), none, none, some (.iconst 1), some (.iadd), some (.putfield 15), none, none, some (.return_)]
def ai_t62 : List (Option Instr) := [some (.iload_n 1), some (.ifCond .lt 20), none, none, some (.iload_n 1), some (.aload_n 0), some (.getfield 15), none, none, some (.if_icmp .ge 12), none, none, some (.aload_n 0), some (.getfield 9), none, none, some (.iload_n 1), some (.iaload), some (.goto 4), none, none, some (.iconst 0), some (.ireturn)]
def ai_t63 : List (Option Instr) := [some (.aload_n 0), some (.aload_n 0), some (.getfield 19), none, none, some (.invokevirtual 37), none, none, some (.ireturn)]
def ai_t64 : List (Option Instr) := [some (.aload_n 0), some (.invokespecial 3), none, none, some (.aload_n 0), some (.bipush 8), none, some (.anewarray 9), none, none, some (.putfield 11), none, none, some (.aload_n 0), some (.iconst 0), some (.putfield 17), none, none, some (.return_)]
def ai_t65 : List (Option Instr) := [some (.aload_n 0), some (.getfield 17), none, none, some (.bipush 8), none, some (.if_icmp .lt 5), none, none, some (.iconst (-1)), some (.ireturn), some (.aload_n 0), some (.getfield 11), none, none, some (.aload_n 0), some (.getfield 17), none, none, some (.aload_n 1), some (.aastore), some (.aload_n 0), some (.dup), some (.getfield 17), none, none, some (.iconst 1), some (.iadd), some (.putfield 17), none, none, some (.aload_n 0), some (.getfield 17), none, none, some (.iconst 1), some (.isub), some (.ireturn)]
def ai_t66 : List (Option Instr) := [some (.iload_n 1), some (.ifCond .lt 20), none, none, some (.iload_n 1), some (.aload_n 0), some (.getfield 17), none, none, some (.if_icmp .ge 12), none, none, some (.aload_n 0), some (.getfield 11), none, none, some (.iload_n 1), some (.aaload), some (.goto 4), none, none, some (.aconst_null), some (.areturn)]
def ai_t67 : List (Option Instr) := [some (.aload_n 0), some (.iload_n 1), some (.invokevirtual 21), none, none, some (.astore_n 2), some (.aload_n 2), some (.ifnull 15), none, none, some (.aload_n 2), some (.getfield 25), none, none, some (.iconst (-1)), some (.if_icmp .eq 7), none, none, some (.aload_n 2), some (.goto 4), none, none, some (.aconst_null), some (.areturn)]
def ai_t68 : List (Option Instr) := [some (.iconst 1), some (.aload_n 0), some (.getfield 17), none, none, some (.ishl), some (.iconst 1), some (.isub), some (.ireturn)]
def ai_t69 : List (Option Instr) := [some (.iconst 0), some (.istore_n 1), some (.iconst 0), some (.istore_n 2), some (.iload_n 2), some (.aload_n 0), some (.getfield 17), none, none, some (.if_icmp .ge 23), none, none, some (.aload_n 0), some (.iload_n 2), some (.invokevirtual 28), none, none, some (.ifnull 9), none, none, some (.iload_n 1), some (.iconst 1), some (.iload_n 2), some (.ishl), some (.ior), some (.istore_n 1), some (.iinc 2 1), none, none, some (.goto (-25)), none, none, some (.iload_n 1), some (.ireturn)]
def ai_t70 : List (Option Instr) := [some (.aload_n 0), some (.invokevirtual 31), none, none, some (.aload_n 0), some (.invokevirtual 35), none, none, some (.iconst (-1)), some (.ixor), some (.iand), some (.ireturn)]
def ai_t71 : List (Option Instr) := [some (.aload_n 0), some (.invokespecial 5), none, none, some (.aload_n 0), some (.iconst 0), some (.putfield 11), none, none, some (.aload_n 0), some (.iconst 1), some (.putfield 15), none, none, some (.aload_n 0), some (.iconst (-1)), some (.putfield 18), none, none, some (.aload_n 0), some (.iconst (-1)), some (.putfield 21), none, none, some (.aload_n 0), some (.aload_n 1), some (.putfield 24), none, none, some (.return_)]
def ai_t72 : List (Option Instr) := [some (.iload_n 0), some (.bipush 16), none, some (.ishr), some (.ireturn)]
def ai_t73 : List (Option Instr) := [some (.iload_n 1), some (.ifCond .lt 8), none, none, some (.iload_n 1), some (.iconst 4), some (.if_icmp .lt 5), none, none, some (.iconst (-1)), some (.ireturn), some (.iload_n 0), some (.iload_n 1), some (.invokestatic 28), none, none, some (.ishr), some (.bipush 15), none, some (.iand), some (.iconst 1), some (.isub), some (.ireturn)]
def ai_t74 : List (Option Instr) := [some (.iconst 0), some (.istore_n 1), some (.iconst 0), some (.istore_n 2), some (.iload_n 2), some (.iconst 4), some (.if_icmp .ge 21), none, none, some (.iload_n 0), some (.iload_n 2), some (.invokestatic 32), none, none, some (.iconst (-1)), some (.if_icmp .eq 6), none, none, some (.iinc 1 1), none, none, some (.iinc 2 1), none, none, some (.goto (-20)), none, none, some (.iload_n 1), some (.ireturn)]
def ai_t75 : List (Option Instr) := [some (.iload_n 0), some (.iload_n 1), some (.invokestatic 32), none, none, some (.iconst (-1)), some (.if_icmp .eq 7), none, none, some (.iconst 1), some (.goto 4), none, none, some (.iconst 0), some (.ireturn)]
def ai_t76 : List (Option Instr) := [some (.iconst 0), some (.istore_n 2), some (.iload_n 2), some (.iconst 4), some (.if_icmp .ge 25), none, none, some (.iload_n 1), some (.iconst (-1)), some (.if_icmp .eq 14), none, none, some (.iload_n 0), some (.iload_n 2), some (.invokestatic 32), none, none, some (.iload_n 1), some (.if_icmp .ne 5), none, none, some (.iload_n 2), some (.ireturn), some (.iinc 2 1), none, none, some (.goto (-24)), none, none, some (.iconst (-1)), some (.ireturn)]
def ai_t77 : List (Option Instr) := [some (.bipush 12), none, some (.iconst 4), some (.iload_n 0), some (.imul), some (.isub), some (.ireturn)]
def ai_t78 : List (Option Instr) := [some (.aload_n 0), some (.iload_n 1), some (.iload_n 2), some (.iload_n 3), some (.iconst (-1)), some (.invokevirtual 36), none, none, some (.istore 5), none, some (.iconst 0), some (.istore 6), none, some (.iload 6), none, some (.iload 4), none, some (.if_icmp .ge 26), none, none, some (.iload 5), none, some (.iconst (-1)), some (.if_icmp .eq 20), none, none, some (.aload_n 0), some (.iload_n 1), some (.iload_n 2), some (.iload_n 3), some (.iload 5), none, some (.invokevirtual 36), none, none, some (.istore 5), none, some (.iinc 6 1), none, none, some (.goto (-27)), none, none, some (.iload 5), none, some (.ireturn)]
def ai_t79 : List (Option Instr) := [some (.aload_n 0), some (.iload_n 2), some (.putfield 11), none, none, some (.aload_n 0), some (.iload_n 3), some (.putfield 15), none, none, some (.aload_n 0), some (.iload 4), none, some (.putfield 18), none, none, some (.aload_n 0), some (.iconst (-1)), some (.putfield 21), none, none, some (.aload_n 0), some (.iload_n 1), some (.iconst 1), some (.iload_n 1), some (.ishl), some (.iconst 0), some (.iconst 0), some (.iconst 0), some (.invokevirtual 40), none, none, some (.aload_n 0), some (.getfield 21), none, none, some (.ireturn)]
def ai_t80 : List (Option Instr) := [some (.iload 5), none, some (.iconst 4), some (.if_icmp .lt 4), none, none, some (.return_), some (.iconst 0), some (.istore 6), none, some (.iload 6), none, some (.aload_n 0), some (.getfield 24), none, none, some (.getfield 44), none, none, some (.if_icmp .ge 134), none, none, some (.aload_n 0), some (.getfield 24), none, none, some (.getfield 49), none, none, some (.iload 6), none, some (.iaload), some (.istore 7), none, some (.aload_n 0), some (.getfield 24), none, none, some (.getfield 53), none, none, some (.iload 6), none, some (.iaload), some (.iload_n 1), some (.if_icmp .ne 102), none, none, some (.iload_n 2), some (.iload 7), none, some (.ishr), some (.iconst 1), some (.iand), some (.iconst 1), some (.if_icmp .ne 6), none, none, some (.goto 89), none, none, some (.iload_n 3), some (.aload_n 0), some (.getfield 24), none, none, some (.iload 6), none, some (.aload_n 0), some (.getfield 15), none, none, some (.invokevirtual 56), none, none, some (.iadd), some (.istore 8), none, some (.iload 4), none, some (.iload 6), none, some (.iconst 1), some (.iadd), some (.iload 5), none, some (.invokestatic 28), none, none, some (.ishl), some (.ior), some (.istore 9), none, some (.iload 7), none, some (.aload_n 0), some (.getfield 11), none, none, some (.if_icmp .ne 18), none, none, some (.aload_n 0), some (.iload 8), none, some (.bipush 16), none, some (.ishl), some (.iload 9), none, some (.ior), some (.invokevirtual 59), none, none, some (.goto 33), none, none, some (.aload_n 0), some (.iload 7), none, some (.iload_n 2), some (.iconst 1), some (.iload 7), none, some (.ishl), some (.ior), some (.iload 8), none, some (.aload_n 0), some (.getfield 24), none, none, some (.iload 6), none, some (.invokevirtual 63), none, none, some (.iadd), some (.iload 9), none, some (.iload 5), none, some (.iconst 1), some (.iadd), some (.invokevirtual 40), none, none, some (.iinc 6 1), none, none, some (.goto (-140)), none, none, some (.return_)]
def ai_t81 : List (Option Instr) := [some (.iload_n 1), some (.aload_n 0), some (.getfield 18), none, none, some (.if_icmp .le 24), none, none, some (.aload_n 0), some (.getfield 21), none, none, some (.iconst (-1)), some (.if_icmp .eq 11), none, none, some (.iload_n 1), some (.aload_n 0), some (.getfield 21), none, none, some (.if_icmp .ge 8), none, none, some (.aload_n 0), some (.iload_n 1), some (.putfield 21), none, none, some (.return_)]
def ai_t82 : List (Option Instr) := [some (.aload_n 0), some (.invokespecial 1), none, none, some (.aload_n 0), some (.new 7), none, none, some (.dup), some (.invokespecial 9), none, none, some (.putfield 10), none, none, some (.aload_n 0), some (.new 16), none, none, some (.dup), some (.aload_n 0), some (.getfield 10), none, none, some (.invokespecial 18), none, none, some (.putfield 21), none, none, some (.aload_n 0), some (.new 25), none, none, some (.dup), some (.invokespecial 27), none, none, some (.putfield 28), none, none, some (.aload_n 0), some (.new 32), none, none, some (.dup), some (.aload_n 0), some (.getfield 10), none, none, some (.invokespecial 34), none, none, some (.putfield 35), none, none, some (.aload_n 0), some (.new 39), none, none, some (.dup), some (.aload_n 0), some (.getfield 10), none, none, some (.aload_n 0), some (.getfield 28), none, none, some (.aload_n 0), some (.getfield 35), none, none, some (.invokespecial 41), none, none, some (.putfield 44), none, none, some (.aload_n 0), some (.new 48), none, none, some (.dup), some (.aload_n 0), some (.getfield 10), none, none, some (.aload_n 0), some (.getfield 21), none, none, some (.aload_n 0), some (.getfield 35), none, none, some (.invokespecial 50), none, none, some (.putfield 53), none, none, some (.return_)]
def ai_t83 : List (Option Instr) := [some (.iload_n 1), some (.iconst 0), some (.iconst 5), some (.invokestatic 57), none, none, some (.ifCond .eq 14), none, none, some (.aload_n 0), some (.getfield 10), none, none, some (.iload_n 1), some (.invokevirtual 61), none, none, some (.goto 4), none, none, some (.iconst (-1)), some (.ireturn)]
def ai_t84 : List (Option Instr) := [some (.aload_n 0), some (.getfield 10), none, none, some (.iload_n 1), some (.iload_n 2), some (.invokevirtual 65), none, none, some (.ifCond .eq 23), none, none, some (.aload_n 0), some (.getfield 28), none, none, some (.getfield 69), none, none, some (.ifCond .gt 13), none, none, some (.aload_n 0), some (.getfield 53), none, none, some (.getfield 73), none, none, some (.ifCond .le 5), none, none, some (.iconst (-1)), some (.ireturn), some (.iload_n 3), some (.iconst 0), some (.bipush 9), none, some (.invokestatic 57), none, none, some (.ifCond .eq 13), none, none, some (.iload 4), none, some (.iconst 1), some (.iconst 3), some (.invokestatic 57), none, none, some (.ifCond .ne 5), none, none, some (.iconst (-1)), some (.ireturn), some (.aload_n 0), some (.getfield 10), none, none, some (.iload_n 1), some (.iload_n 2), some (.iload_n 3), some (.iload 4), none, some (.invokevirtual 74), none, none, some (.ireturn)]
def ai_t85 : List (Option Instr) := [some (.aload_n 0), some (.getfield 28), none, none, some (.getfield 69), none, none, some (.ifCond .gt 10), none, none, some (.iload_n 1), some (.invokestatic 78), none, none, some (.ifCond .ne 5), none, none, some (.iconst 0), some (.ireturn), some (.aload_n 0), some (.getfield 10), none, none, some (.iload_n 1), some (.putfield 82), none, none, some (.iconst 1), some (.ireturn)]
def ai_t86 : List (Option Instr) := [some (.aload_n 0), some (.getfield 28), none, none, some (.getfield 69), none, none, some (.ifCond .gt 12), none, none, some (.iload_n 1), some (.iconst 0), some (.iconst 3), some (.invokestatic 57), none, none, some (.ifCond .ne 5), none, none, some (.iconst 0), some (.ireturn), some (.aload_n 0), some (.getfield 10), none, none, some (.iload_n 1), some (.putfield 85), none, none, some (.aload_n 0), some (.getfield 10), none, none, some (.invokevirtual 88), none, none, some (.aload_n 0), some (.getfield 53), none, none, some (.iconst 1), some (.putfield 91), none, none, some (.iconst 1), some (.ireturn)]
def ai_t87 : List (Option Instr) := [some (.aload_n 0), some (.getfield 10), none, none, some (.iload_n 1), some (.invokevirtual 95), none, none, some (.ifCond .eq 33), none, none, some (.aload_n 0), some (.getfield 10), none, none, some (.iload_n 2), some (.invokevirtual 95), none, none, some (.ifCond .eq 22), none, none, some (.iload_n 3), some (.invokestatic 98), none, none, some (.ifCond .eq 15), none, none, some (.iload 4), none, some (.iconst 0), some (.sipush 792), none, none, some (.invokestatic 57), none, none, some (.ifCond .ne 5), none, none, some (.iconst (-1)), some (.ireturn), some (.aload_n 0), some (.getfield 21), none, none, some (.iload_n 1), some (.iload_n 2), some (.iload_n 3), some (.iload 4), none, some (.invokevirtual 101), none, none, some (.istore 6), none, some (.iload 6), none, some (.iconst (-1)), some (.if_icmp .ne 5), none, none, some (.iconst (-1)), some (.ireturn), some (.iload 5), none, some (.iconst 4), some (.if_icmp .ne 11), none, none, some (.iload 6), none, some (.invokestatic 104), none, none, some (.goto 10), none, none, some (.iload 6), none, some (.iload 5), none, some (.invokestatic 107), none, none, some (.ireturn)]
def ai_t88 : List (Option Instr) := [some (.aload_n 0), some (.getfield 28), none, none, some (.getfield 69), none, none, some (.bipush 8), none, some (.if_icmp .ge 22), none, none, some (.aload_n 0), some (.getfield 10), none, none, some (.iload_n 1), some (.iload_n 2), some (.invokevirtual 65), none, none, some (.ifCond .eq 10), none, none, some (.iload_n 3), some (.invokestatic 98), none, none, some (.ifCond .ne 5), none, none, some (.iconst (-1)), some (.ireturn), some (.aload_n 0), some (.iload 4), none, some (.invokevirtual 111), none, none, some (.ifCond .eq 15), none, none, some (.iload 5), none, some (.iconst 1), some (.sipush 200), none, none, some (.invokestatic 57), none, none, some (.ifCond .ne 5), none, none, some (.iconst (-1)), some (.ireturn), some (.aload_n 0), some (.getfield 21), none, none, some (.iload_n 1), some (.iload_n 2), some (.iload_n 3), some (.iconst (-1)), some (.invokevirtual 114), none, none, some (.iload 5), none, some (.invokestatic 117), none, none, some (.ifCond .ne 6), none, none, some (.bipush (-2)), none, some (.ireturn), some (.new 120), none, none, some (.dup), some (.iload_n 3), some (.iload 4), none, some (.invokespecial 122), none, none, some (.astore 6), none, some (.aload_n 0), some (.aload 6), none, some (.iload_n 1), some (.iload_n 2), some (.iload 5), none, some (.invokevirtual 125), none, none, some (.aload_n 0), some (.getfield 28), none, none, some (.aload 6), none, some (.invokevirtual 129), none, none, some (.ireturn)]
def ai_t89 : List (Option Instr) := [some (.aload_n 0), some (.getfield 28), none, none, some (.iload_n 1), some (.invokevirtual 133), none, none, some (.astore_n 2), some (.aload_n 2), some (.ifnonnull 5), none, none, some (.iconst 0), some (.ireturn), some (.aload_n 2), some (.iconst (-1)), some (.putfield 137), none, none, some (.aload_n 0), some (.getfield 44), none, none, some (.invokevirtual 140), none, none, some (.aload_n 0), some (.getfield 53), none, none, some (.iconst 1), some (.putfield 91), none, none, some (.iconst 1), some (.ireturn)]
def ai_t90 : List (Option Instr) := [some (.aload_n 0), some (.getfield 44), none, none, some (.invokevirtual 143), none, none, some (.aload_n 0), some (.getfield 44), none, none, some (.aload_n 0), some (.getfield 28), none, none, some (.invokevirtual 146), none, none, some (.invokevirtual 150), none, none, some (.istore_n 1), some (.aload_n 0), some (.getfield 53), none, none, some (.iconst 1), some (.putfield 91), none, none, some (.iload_n 1), some (.ireturn)]
def ai_t91 : List (Option Instr) := [some (.aload_n 0), some (.getfield 44), none, none, some (.invokevirtual 143), none, none, some (.aload_n 0), some (.getfield 44), none, none, some (.aload_n 0), some (.getfield 28), none, none, some (.invokevirtual 153), none, none, some (.invokevirtual 150), none, none, some (.istore_n 1), some (.aload_n 0), some (.getfield 53), none, none, some (.iconst 1), some (.putfield 91), none, none, some (.iload_n 1), some (.ireturn)]
def ai_t92 : List (Option Instr) := [some (.aload_n 0), some (.getfield 44), none, none, some (.invokevirtual 143), none, none, some (.aload_n 0), some (.getfield 44), none, none, some (.invokevirtual 156), none, none, some (.istore_n 1), some (.aload_n 0), some (.getfield 53), none, none, some (.iconst 1), some (.putfield 91), none, none, some (.iload_n 1), some (.ireturn)]
def ai_t93 : List (Option Instr) := [some (.aload_n 0), some (.getfield 28), none, none, some (.iload_n 1), some (.invokevirtual 133), none, none, some (.astore_n 3), some (.aload_n 3), some (.ifnonnull 5), none, none, some (.iconst (-1)), some (.ireturn), some (.aload_n 3), some (.invokevirtual 159), none, none, some (.istore 4), none, some (.iload_n 2), some (.tableswitch 52 0 3 #[30, 35, 40, 46]), none, none, none, none, none, none, none, none, none, none, none, none, none, none, none, none, none, none, none, none, none, none, none, none, none, none, none, none, none, some (.aload_n 3), some (.getfield 137), none, none, some (.ireturn), some (.aload_n 3), some (.getfield 162), none, none, some (.ireturn), some (.iload 4), none, some (.invokestatic 165), none, none, some (.ireturn), some (.iload 4), none, some (.invokestatic 104), none, none, some (.ireturn), some (.iload_n 2), some (.bipush 10), none, some (.bipush 13), none, some (.invokestatic 57), none, none, some (.ifCond .eq 13), none, none, some (.iload 4), none, some (.iload_n 2), some (.bipush 10), none, some (.isub), some (.invokestatic 107), none, none, some (.ireturn), some (.iload 4), none, some (.iload_n 2), some (.bipush 20), none, some (.isub), some (.invokestatic 168), none, none, some (.ifCond .eq 18), none, none, some (.aload_n 0), some (.getfield 10), none, none, some (.aload_n 3), some (.iload_n 2), some (.bipush 20), none, some (.isub), some (.invokevirtual 171), none, none, some (.goto 4), none, none, some (.iconst (-1)), some (.ireturn)]
def ai_t94 : List (Option Instr) := [some (.aload_n 0), some (.getfield 44), none, none, some (.getfield 175), none, none, some (.ireturn)]
def ai_t95 : List (Option Instr) := [some (.aload_n 0), some (.getfield 10), none, none, some (.iload_n 1), some (.invokevirtual 178), none, none, some (.ifCond .eq 14), none, none, some (.aload_n 0), some (.getfield 10), none, none, some (.iload_n 2), some (.invokevirtual 181), none, none, some (.ifCond .ne 6), none, none, some (.bipush (-2)), none, some (.ireturn), some (.iconst 0), some (.istore_n 3), some (.iload_n 3), some (.aload_n 0), some (.getfield 28), none, none, some (.getfield 69), none, none, some (.if_icmp .ge 40), none, none, some (.aload_n 0), some (.getfield 28), none, none, some (.iload_n 3), some (.invokevirtual 133), none, none, some (.astore 4), none, some (.aload 4), none, some (.ifnull 19), none, none, some (.aload_n 0), some (.getfield 10), none, none, some (.aload 4), none, some (.iload_n 1), some (.iload_n 2), some (.invokevirtual 184), none, none, some (.ifCond .eq 5), none, none, some (.iload_n 3), some (.ireturn), some (.iinc 3 1), none, none, some (.goto (-45)), none, none, some (.iconst (-1)), some (.ireturn)]
def ai_t96 : List (Option Instr) := [some (.aload_n 0), some (.getfield 10), none, none, some (.iload_n 1), some (.invokevirtual 178), none, none, some (.ifCond .eq 21), none, none, some (.aload_n 0), some (.getfield 10), none, none, some (.iload_n 2), some (.invokevirtual 181), none, none, some (.ifCond .eq 10), none, none, some (.iload_n 3), some (.invokestatic 98), none, none, some (.ifCond .ne 6), none, none, some (.bipush (-2)), none, some (.ireturn), some (.aload_n 0), some (.getfield 35), none, none, some (.iload_n 1), some (.iload_n 2), some (.aload_n 0), some (.getfield 10), none, none, some (.iload_n 1), some (.iload_n 3), some (.invokevirtual 188), none, none, some (.invokevirtual 191), none, none, some (.ireturn)]
def ai_t97 : List (Option Instr) := [some (.aload_n 0), some (.getfield 10), none, none, some (.iload_n 1), some (.invokevirtual 178), none, none, some (.ifCond .eq 10), none, none, some (.iload_n 2), some (.invokestatic 98), none, none, some (.ifCond .ne 6), none, none, some (.bipush (-2)), none, some (.ireturn), some (.iconst 0), some (.istore_n 3), some (.iconst 0), some (.istore 4), none, some (.iload 4), none, some (.aload_n 0), some (.getfield 10), none, none, some (.getfield 82), none, none, some (.if_icmp .ge 45), none, none, some (.aload_n 0), some (.getfield 35), none, none, some (.iload_n 1), some (.iload 4), none, some (.aload_n 0), some (.getfield 10), none, none, some (.iload_n 1), some (.iload_n 2), some (.invokevirtual 188), none, none, some (.invokevirtual 191), none, none, some (.istore 5), none, some (.iload 5), none, some (.iconst (-1)), some (.if_icmp .ne 5), none, none, some (.iconst (-1)), some (.ireturn), some (.iload_n 3), some (.iload 5), none, some (.invokestatic 195), none, none, some (.istore_n 3), some (.iinc 4 1), none, none, some (.goto (-51)), none, none, some (.iload_n 3), some (.ireturn)]
def ai_t98 : List (Option Instr) := [some (.aload_n 0), some (.getfield 10), none, none, some (.iload_n 1), some (.invokevirtual 95), none, none, some (.ifCond .eq 25), none, none, some (.iload_n 2), some (.aload_n 0), some (.getfield 10), none, none, some (.getfield 85), none, none, some (.ineg), some (.aload_n 0), some (.getfield 10), none, none, some (.getfield 85), none, none, some (.invokestatic 57), none, none, some (.ifCond .ne 5), none, none, some (.iconst 0), some (.ireturn), some (.aload_n 0), some (.getfield 10), none, none, some (.getfield 200), none, none, some (.iload_n 1), some (.iload_n 2), some (.iastore), some (.aload_n 0), some (.getfield 53), none, none, some (.iconst 1), some (.putfield 91), none, none, some (.iconst 1), some (.ireturn)]
def ai_t99 : List (Option Instr) := [some (.aload_n 0), some (.getfield 53), none, none, some (.getfield 73), none, none, some (.bipush 60), none, some (.if_icmp .ge 14), none, none, some (.iload_n 1), some (.iconst 0), some (.sipush 999), none, none, some (.invokestatic 57), none, none, some (.ifCond .ne 5), none, none, some (.iconst (-1)), some (.ireturn), some (.aload_n 0), some (.getfield 10), none, none, some (.iload_n 2), some (.iload_n 3), some (.invokevirtual 65), none, none, some (.ifCond .eq 11), none, none, some (.iload 4), none, some (.invokestatic 98), none, none, some (.ifCond .ne 5), none, none, some (.iconst (-1)), some (.ireturn), some (.aload_n 0), some (.getfield 21), none, none, some (.iload_n 2), some (.iload_n 3), some (.iload 4), none, some (.iconst (-1)), some (.invokevirtual 114), none, none, some (.iconst (-1)), some (.if_icmp .ne 6), none, none, some (.bipush (-2)), none, some (.ireturn), some (.aload_n 0), some (.getfield 53), none, none, some (.new 204), none, none, some (.dup), some (.iload_n 1), some (.iload_n 2), some (.iload_n 3), some (.iload 4), none, some (.invokespecial 206), none, none, some (.invokevirtual 209), none, none, some (.ireturn)]
def ai_t100 : List (Option Instr) := [some (.aload_n 0), some (.getfield 28), none, none, some (.iload_n 1), some (.invokevirtual 133), none, none, some (.astore 4), none, some (.aload 4), none, some (.ifnull 13), none, none, some (.iload_n 2), some (.iconst 0), some (.bipush 99), none, some (.invokestatic 57), none, none, some (.ifCond .ne 7), none, none, some (.sipush (-1000)), none, none, some (.ireturn), some (.aload 4), none, some (.invokevirtual 159), none, none, some (.istore 5), none, some (.iload_n 3), some (.bipush 9), none, some (.if_icmp .ne 45), none, none, some (.iload 5), none, some (.invokestatic 165), none, none, some (.iconst 1), some (.isub), some (.istore 6), none, some (.aload_n 0), some (.getfield 10), none, none, some (.aload 4), none, some (.iload_n 2), some (.iload 6), none, some (.invokevirtual 212), none, none, some (.aload_n 0), some (.getfield 10), none, none, some (.iload 5), none, some (.iload 6), none, some (.invokestatic 107), none, none, some (.aload 4), none, some (.getfield 216), none, none, some (.invokevirtual 219), none, none, some (.iadd), some (.ireturn), some (.iload 5), none, some (.iload_n 3), some (.invokestatic 168), none, none, some (.ifCond .eq 17), none, none, some (.aload_n 0), some (.getfield 10), none, none, some (.aload 4), none, some (.iload_n 2), some (.iload_n 3), some (.invokevirtual 212), none, none, some (.goto 6), none, none, some (.sipush (-1000)), none, none, some (.ireturn)]
def ai_t101 : List (Option Instr) := [some (.aload_n 0), some (.getfield 28), none, none, some (.iload_n 1), some (.invokevirtual 133), none, none, some (.astore 4), none, some (.aload 4), none, some (.ifnull 13), none, none, some (.iload_n 2), some (.iconst 0), some (.bipush 99), none, some (.invokestatic 57), none, none, some (.ifCond .ne 7), none, none, some (.sipush (-1000)), none, none, some (.ireturn), some (.aload 4), none, some (.invokevirtual 159), none, none, some (.istore 5), none, some (.iload_n 3), some (.iconst 1), some (.if_icmp .lt 12), none, none, some (.iload 5), none, some (.iload_n 3), some (.invokestatic 168), none, none, some (.ifCond .ne 7), none, none, some (.sipush (-1000)), none, none, some (.ireturn), some (.iload 5), none, some (.iload_n 3), some (.iconst 1), some (.isub), some (.invokestatic 107), none, none, some (.istore 6), none, some (.aload_n 0), some (.getfield 10), none, none, some (.aload 4), none, some (.iload_n 2), some (.iload_n 3), some (.iconst 1), some (.isub), some (.invokevirtual 212), none, none, some (.aload_n 0), some (.getfield 10), none, none, some (.iload 6), none, some (.aload 4), none, some (.getfield 216), none, none, some (.invokevirtual 219), none, none, some (.iadd), some (.istore 7), none, some (.aload_n 0), some (.getfield 10), none, none, some (.aload 4), none, some (.iload_n 2), some (.iload_n 3), some (.invokevirtual 212), none, none, some (.iload 7), none, some (.isub), some (.aload_n 0), some (.getfield 10), none, none, some (.iload 6), none, some (.invokevirtual 222), none, none, some (.isub), some (.ireturn)]
def ai_t102 : List (Option Instr) := [some (.aload_n 0), some (.getfield 53), none, none, some (.invokevirtual 225), none, none, some (.aload_n 0), some (.getfield 53), none, none, some (.iload_n 1), some (.invokevirtual 228), none, none, some (.astore_n 3), some (.aload_n 3), some (.ifnonnull 5), none, none, some (.iconst (-1)), some (.ireturn), some (.iload_n 2), some (.ifCond .ne 11), none, none, some (.aload_n 3), some (.getfield 232), none, none, some (.invokestatic 165), none, none, some (.ireturn), some (.iload_n 2), some (.iconst 1), some (.if_icmp .ne 11), none, none, some (.aload_n 3), some (.getfield 235), none, none, some (.invokestatic 238), none, none, some (.ireturn), some (.iload_n 2), some (.bipush 10), none, some (.bipush 13), none, some (.invokestatic 57), none, none, some (.ifCond .eq 15), none, none, some (.aload_n 3), some (.getfield 232), none, none, some (.iload_n 2), some (.bipush 10), none, some (.isub), some (.invokestatic 107), none, none, some (.ireturn), some (.aload_n 3), some (.getfield 232), none, none, some (.iload_n 2), some (.bipush 20), none, some (.isub), some (.invokestatic 168), none, none, some (.ifCond .eq 16), none, none, some (.aload_n 3), some (.getfield 241), none, none, some (.iload_n 2), some (.bipush 20), none, some (.isub), some (.iaload), some (.invokestatic 238), none, none, some (.ireturn), some (.aload_n 3), some (.getfield 232), none, none, some (.iload_n 2), some (.bipush 30), none, some (.isub), some (.invokestatic 168), none, none, some (.ifCond .eq 18), none, none, some (.aload_n 3), some (.getfield 244), none, none, some (.iload_n 2), some (.bipush 30), none, some (.isub), some (.iaload), some (.invokestatic 238), none, none, some (.goto 4), none, none, some (.iconst (-1)), some (.ireturn)]
def ai_t103 : List (Option Instr) := [some (.aload_n 0), some (.getfield 10), none, none, some (.iload_n 1), some (.invokevirtual 178), none, none, some (.ifCond .ne 5), none, none, some (.iconst (-1)), some (.ireturn), some (.aload_n 0), some (.getfield 53), none, none, some (.invokevirtual 225), none, none, some (.aload_n 0), some (.getfield 53), none, none, some (.iload_n 1), some (.invokevirtual 247), none, none, some (.ireturn)]
def ai_t104 : List (Option Instr) := [some (.iload_n 1), some (.tableswitch 121 0 7 #[47, 55, 63, 71, 79, 87, 98, 106]), none, none, none, none, none, none, none, none, none, none, none, none, none, none, none, none, none, none, none, none, none, none, none, none, none, none, none, none, none, none, none, none, none, none, none, none, none, none, none, none, none, none, none, none, none, none, some (.aload_n 0), some (.getfield 10), none, none, some (.getfield 250), none, none, some (.ireturn), some (.aload_n 0), some (.getfield 10), none, none, some (.getfield 253), none, none, some (.ireturn), some (.aload_n 0), some (.getfield 10), none, none, some (.getfield 82), none, none, some (.ireturn), some (.aload_n 0), some (.getfield 10), none, none, some (.getfield 85), none, none, some (.ireturn), some (.aload_n 0), some (.getfield 28), none, none, some (.getfield 69), none, none, some (.ireturn), some (.aload_n 0), some (.getfield 28), none, none, some (.invokevirtual 256), none, none, some (.invokestatic 259), none, none, some (.ireturn), some (.aload_n 0), some (.getfield 53), none, none, some (.getfield 73), none, none, some (.ireturn), some (.aload_n 0), some (.getfield 53), none, none, some (.invokevirtual 225), none, none, some (.aload_n 0), some (.getfield 53), none, none, some (.invokevirtual 264), none, none, some (.ireturn), some (.iconst (-1)), some (.ireturn)]
def ai_t105 : List (Option Instr) := [some (.aload_n 0), some (.getfield 21), none, none, some (.iload_n 2), some (.iload_n 3), some (.aload_n 1), some (.getfield 216), none, none, some (.iconst (-1)), some (.invokevirtual 114), none, none, some (.istore 5), none, some (.iconst 0), some (.istore 6), none, some (.iload 6), none, some (.iconst 3), some (.if_icmp .ge 42), none, none, some (.iload 5), none, some (.iload 4), none, some (.invokestatic 117), none, none, some (.ifCond .eq 32), none, none, some (.aload_n 1), some (.iload 5), none, some (.invokevirtual 267), none, none, some (.aload_n 0), some (.getfield 21), none, none, some (.iload_n 2), some (.iload_n 3), some (.aload_n 1), some (.getfield 216), none, none, some (.iload 5), none, some (.invokevirtual 114), none, none, some (.istore 5), none, some (.iinc 6 1), none, none, some (.goto (-42)), none, none, some (.return_)]
def ai_t106 : List (Option Instr) := [some (.iload_n 1), some (.iconst 2), some (.if_icmp .lt 19), none, none, some (.aload_n 0), some (.getfield 10), none, none, some (.getfield 82), none, none, some (.iload_n 1), some (.irem), some (.ifCond .ne 7), none, none, some (.iconst 1), some (.goto 4), none, none, some (.iconst 0), some (.ireturn)]
def ai_t107 : List (Option Instr) := [some (.iload_n 0), some (.iconst (-1)), some (.if_icmp .eq 15), none, none, some (.iload_n 0), some (.invokestatic 104), none, none, some (.iload_n 1), some (.if_icmp .gt 7), none, none, some (.iconst 1), some (.goto 4), none, none, some (.iconst 0), some (.ireturn)]
def ai_t108 : List (Option Instr) := [some (.getstatic 271), none, none, some (.astore_n 1), some (.aload_n 1), some (.arraylength), some (.istore_n 2), some (.iconst 0), some (.istore_n 3), some (.iload_n 3), some (.iload_n 2), some (.if_icmp .ge 22), none, none, some (.aload_n 1), some (.iload_n 3), some (.iaload), some (.istore 4), none, some (.iload 4), none, some (.iload_n 0), some (.if_icmp .ne 5), none, none, some (.iconst 1), some (.ireturn), some (.iinc 3 1), none, none, some (.goto (-21)), none, none, some (.iconst 0), some (.ireturn)]
def ai_t109 : List (Option Instr) := [some (.iload_n 0), some (.iconst 1), some (.bipush 8), none, some (.invokestatic 57), none, none, some (.ireturn)]
def ai_t110 : List (Option Instr) := [some (.iload_n 0), some (.iload_n 1), some (.if_icmp .lt 12), none, none, some (.iload_n 0), some (.iload_n 2), some (.if_icmp .gt 7), none, none, some (.iconst 1), some (.goto 4), none, none, some (.iconst 0), some (.ireturn)]
def ai_t111 : List (Option Instr) := [some (.iload_n 0), some (.sipush 3000), none, none, some (.if_icmp .ge 7), none, none, some (.iload_n 0), some (.goto 5), none, none, some (.bipush (-3)), none, some (.ireturn)]
def ai_t112 : List (Option Instr) := [some (.aload_n 0), some (.invokespecial 1), none, none, some (.aload_n 0), some (.bipush 6), none, some (.newarray .int), none, some (.putfield 7), none, none, some (.aload_n 0), some (.bipush 6), none, some (.newarray .int), none, some (.putfield 13), none, none, some (.aload_n 0), some (.bipush 12), none, some (.newarray .int), none, some (.putfield 16), none, none, some (.aload_n 0), some (.bipush 12), none, some (.newarray .int), none, some (.putfield 19), none, none, some (.aload_n 0), some (.bipush 12), none, some (.newarray .int), none, some (.putfield 22), none, none, some (.aload_n 0), some (.bipush 12), none, some (.newarray .int), none, some (.putfield 25), none, none, some (.aload_n 0), some (.bipush 12), none, some (.putfield 28), none, none, some (.aload_n 0), some (.bipush 8), none, some (.newarray .int), none, some (.putfield 32), none, none, some (.aload_n 0), some (.bipush 8), none, some (.newarray .int), none, some (.putfield 35), none, none, some (.aload_n 0), some (.bipush 8), none, some (.newarray .int), none, some (.putfield 38), none, none, some (.aload_n 0), some (.bipush 24), none, some (.newarray .int), none, some (.putfield 41), none, none, some (.aload_n 0), some (.bipush 96), none, some (.newarray .int), none, some (.putfield 44), none, none, some (.aload_n 0), some (.bipush 24), none, some (.newarray .int), none, some (.putfield 47), none, none, some (.aload_n 0), some (.bipush 8), none, some (.newarray .boolean), none, some (.putfield 50), none, none, some (.aload_n 0), some (.bipush 8), none, some (.newarray .int), none, some (.putfield 54), none, none, some (.aload_n 0), some (.bipush 8), none, some (.newarray .int), none, some (.putfield 57), none, none, some (.aload_n 0), some (.sipush 1440), none, none, some (.newarray .int), none, some (.putfield 60), none, none, some (.aload_n 0), some (.bipush 60), none, some (.newarray .int), none, some (.putfield 63), none, none, some (.aload_n 0), some (.bipush 60), none, some (.newarray .int), none, some (.putfield 66), none, none, some (.aload_n 0), some (.bipush 60), none, some (.newarray .int), none, some (.putfield 69), none, none, some (.aload_n 0), some (.sipush 240), none, none, some (.newarray .int), none, some (.putfield 72), none, none, some (.aload_n 0), some (.sipush 512), none, none, some (.newarray .int), none, some (.putfield 75), none, none, some (.aload_n 0), some (.sipush 2048), none, none, some (.newarray .int), none, some (.putfield 78), none, none, some (.aload_n 0), some (.sipush 512), none, none, some (.newarray .int), none, some (.putfield 81), none, none, some (.aload_n 0), some (.iconst 5), some (.newarray .int), none, some (.putfield 84), none, none, some (.aload_n 0), some (.bipush 8), none, some (.newarray .int), none, some (.putfield 87), none, none, some (.aload_n 0), some (.bipush 9), none, some (.newarray .int), none, some (.putfield 90), none, none, some (.aload_n 0), some (.iconst 1), some (.putfield 93), none, none, some (.aload_n 0), some (.sipush 240), none, none, some (.newarray .int), none, some (.putfield 97), none, none, some (.aload_n 0), some (.sipush 240), none, none, some (.newarray .int), none, some (.putfield 100), none, none, some (.aload_n 0), some (.bipush 60), none, some (.newarray .int), none, some (.putfield 103), none, none, some (.aload_n 0), some (.bipush 60), none, some (.newarray .int), none, some (.putfield 106), none, none, some (.aload_n 0), some (.bipush 12), none, some (.newarray .int), none, some (.putfield 109), none, none, some (.aload_n 0), some (.bipush 12), none, some (.newarray .int), none, some (.putfield 112), none, none, some (.return_)]
def ai_t113 : List (Option Instr) := [some (.iload_n 1), some (.ifCond .lt 15), none, none, some (.iload_n 1), some (.aload_n 0), some (.getfield 115), none, none, some (.if_icmp .ge 7), none, none, some (.iconst 1), some (.goto 4), none, none, some (.iconst 0), some (.ireturn)]
def ai_t114 : List (Option Instr) := [some (.iload_n 1), some (.ifCond .lt 15), none, none, some (.iload_n 1), some (.aload_n 0), some (.getfield 118), none, none, some (.if_icmp .ge 7), none, none, some (.iconst 1), some (.goto 4), none, none, some (.iconst 0), some (.ireturn)]
def ai_t115 : List (Option Instr) := [some (.aload_n 0), some (.getfield 115), none, none, some (.bipush 6), none, some (.if_icmp .eq 12), none, none, some (.iload_n 1), some (.ifCond .lt 8), none, none, some (.iload_n 1), some (.iconst 5), some (.if_icmp .le 5), none, none, some (.iconst (-1)), some (.ireturn), some (.aload_n 0), some (.getfield 7), none, none, some (.aload_n 0), some (.getfield 115), none, none, some (.iload_n 1), some (.iastore), some (.aload_n 0), some (.dup), some (.getfield 115), none, none, some (.iconst 1), some (.iadd), some (.putfield 115), none, none, some (.aload_n 0), some (.iconst 1), some (.putfield 93), none, none, some (.aload_n 0), some (.getfield 115), none, none, some (.iconst 1), some (.isub), some (.ireturn)]
def ai_t116 : List (Option Instr) := [some (.aload_n 0), some (.getfield 118), none, none, some (.bipush 12), none, some (.if_icmp .eq 60), none, none, some (.aload_n 0), some (.iload_n 1), some (.invokevirtual 121), none, none, some (.ifCond .eq 52), none, none, some (.aload_n 0), some (.iload_n 2), some (.invokevirtual 121), none, none, some (.ifCond .eq 44), none, none, some (.iload_n 1), some (.iload_n 2), some (.if_icmp .eq 39), none, none, some (.iload_n 3), some (.ifCond .lt 35), none, none, some (.iload_n 3), some (.bipush 9), none, some (.if_icmp .gt 29), none, none, some (.iload 4), none, some (.iconst 1), some (.if_icmp .lt 23), none, none, some (.iload 4), none, some (.iconst 3), some (.if_icmp .gt 17), none, none, some (.aload_n 0), some (.getfield 125), none, none, some (.ifCond .gt 10), none, none, some (.aload_n 0), some (.getfield 128), none, none, some (.ifCond .le 5), none, none, some (.iconst (-1)), some (.ireturn), some (.aload_n 0), some (.getfield 16), none, none, some (.aload_n 0), some (.getfield 118), none, none, some (.iload_n 1), some (.iastore), some (.aload_n 0), some (.getfield 19), none, none, some (.aload_n 0), some (.getfield 118), none, none, some (.iload_n 2), some (.iastore), some (.aload_n 0), some (.getfield 22), none, none, some (.aload_n 0), some (.getfield 118), none, none, some (.iload_n 3), some (.iastore), some (.aload_n 0), some (.getfield 25), none, none, some (.aload_n 0), some (.getfield 118), none, none, some (.iload 4), none, some (.iastore), some (.aload_n 0), some (.dup), some (.getfield 118), none, none, some (.iconst 1), some (.iadd), some (.putfield 118), none, none, some (.aload_n 0), some (.getfield 118), none, none, some (.iconst 1), some (.isub), some (.ireturn)]
def ai_t117 : List (Option Instr) := [some (.aload_n 0), some (.getfield 125), none, none, some (.ifCond .gt 33), none, none, some (.iload_n 1), some (.bipush 12), none, some (.if_icmp .eq 29), none, none, some (.iload_n 1), some (.bipush 24), none, some (.if_icmp .eq 23), none, none, some (.iload_n 1), some (.bipush 48), none, some (.if_icmp .eq 17), none, none, some (.iload_n 1), some (.bipush 60), none, some (.if_icmp .eq 11), none, none, some (.iload_n 1), some (.bipush 120), none, some (.if_icmp .eq 5), none, none, some (.iconst 0), some (.ireturn), some (.aload_n 0), some (.iload_n 1), some (.putfield 28), none, none, some (.aload_n 0), some (.iconst 1), some (.putfield 93), none, none, some (.iconst 1), some (.ireturn)]
def ai_t118 : List (Option Instr) := [some (.aload_n 0), some (.getfield 125), none, none, some (.ifCond .gt 12), none, none, some (.iload_n 1), some (.ifCond .lt 8), none, none, some (.iload_n 1), some (.iconst 3), some (.if_icmp .le 5), none, none, some (.iconst 0), some (.ireturn), some (.aload_n 0), some (.iload_n 1), some (.putfield 131), none, none, some (.iconst 0), some (.istore_n 2), some (.iload_n 2), some (.bipush 6), none, some (.if_icmp .ge 16), none, none, some (.aload_n 0), some (.getfield 13), none, none, some (.iload_n 2), some (.iconst 0), some (.iastore), some (.iinc 2 1), none, none, some (.goto (-16)), none, none, some (.aload_n 0), some (.iconst 1), some (.putfield 93), none, none, some (.iconst 1), some (.ireturn)]
def ai_t119 : List (Option Instr) := [some (.iconst 0), some (.istore 5), none, some (.iconst 0), some (.istore 6), none, some (.iload 6), none, some (.iload_n 3), some (.if_icmp .ge 72), none, none, some (.aload_n 1), some (.iload_n 2), some (.iload 6), none, some (.iadd), some (.iaload), some (.istore 7), none, some (.iload 5), none, some (.iload 4), none, some (.aload_n 0), some (.getfield 25), none, none, some (.iload 7), none, some (.iaload), some (.imul), some (.aload_n 0), some (.getfield 22), none, none, some (.iload 7), none, some (.iaload), some (.iadd), some (.iadd), some (.istore 5), none, some (.iload 6), none, some (.iload_n 3), some (.iconst 1), some (.isub), some (.if_icmp .ge 27), none, none, some (.iload 5), none, some (.aload_n 0), some (.getfield 7), none, none, some (.aload_n 0), some (.getfield 19), none, none, some (.iload 7), none, some (.iaload), some (.iaload), some (.iconst 2), some (.aload_n 0), some (.getfield 131), none, none, some (.imul), some (.iadd), some (.iadd), some (.istore 5), none, some (.iinc 6 1), none, none, some (.goto (-72)), none, none, some (.iload 5), none, some (.ireturn)]
def ai_t120 : List (Option Instr) := [some (.iload_n 3), some (.iload_n 1), some (.if_icmp .ne 5), none, none, some (.iconst 1), some (.ireturn), some (.iconst 0), some (.istore 4), none, some (.iload 4), none, some (.iload_n 2), some (.if_icmp .ge 27), none, none, some (.aload_n 0), some (.getfield 19), none, none, some (.aload_n 0), some (.getfield 84), none, none, some (.iload 4), none, some (.iaload), some (.iaload), some (.iload_n 3), some (.if_icmp .ne 5), none, none, some (.iconst 1), some (.ireturn), some (.iinc 4 1), none, none, some (.goto (-27)), none, none, some (.iconst 0), some (.ireturn)]
def ai_t121 : List (Option Instr) := [some (.aload_n 0), some (.iconst 0), some (.putfield 134), none, none, some (.iconst 0), some (.istore 4), none, some (.aload_n 0), some (.getfield 84), none, none, some (.iconst 0), some (.iconst 0), some (.iastore), some (.iload 4), none, some (.ifCond .lt 179), none, none, some (.aload_n 0), some (.getfield 84), none, none, some (.iload 4), none, some (.iaload), some (.istore 5), none, some (.iload 4), none, some (.ifCond .ne 7), none, none, some (.iload_n 1), some (.goto 17), none, none, some (.aload_n 0), some (.getfield 19), none, none, some (.aload_n 0), some (.getfield 84), none, none, some (.iload 4), none, some (.iconst 1), some (.isub), some (.iaload), some (.iaload), some (.istore 6), none, some (.iload 5), none, some (.aload_n 0), some (.getfield 118), none, none, some (.if_icmp .lt 25), none, none, some (.iinc 4 (-1)), none, none, some (.iload 4), none, some (.ifCond .lt 125), none, none, some (.aload_n 0), some (.getfield 84), none, none, some (.iload 4), none, some (.dup2), some (.iaload), some (.iconst 1), some (.iadd), some (.iastore), some (.goto 111), none, none, some (.aload_n 0), some (.getfield 16), none, none, some (.iload 5), none, some (.iaload), some (.iload 6), none, some (.if_icmp .ne 20), none, none, some (.aload_n 0), some (.iload_n 1), some (.iload 4), none, some (.aload_n 0), some (.getfield 19), none, none, some (.iload 5), none, some (.iaload), some (.invokevirtual 137), none, none, some (.ifCond .eq 17), none, none, some (.aload_n 0), some (.getfield 84), none, none, some (.iload 4), none, some (.dup2), some (.iaload), some (.iconst 1), some (.iadd), some (.iastore), some (.goto 68), none, none, some (.aload_n 0), some (.getfield 19), none, none, some (.iload 5), none, some (.iaload), some (.iload_n 2), some (.if_icmp .ne 26), none, none, some (.aload_n 0), some (.iload 4), none, some (.iconst 1), some (.iadd), some (.iload_n 3), some (.invokevirtual 141), none, none, some (.aload_n 0), some (.getfield 84), none, none, some (.iload 4), none, some (.dup2), some (.iaload), some (.iconst 1), some (.iadd), some (.iastore), some (.goto 34), none, none, some (.iload 4), none, some (.iconst 3), some (.if_icmp .ge 17), none, none, some (.iinc 4 1), none, none, some (.aload_n 0), some (.getfield 84), none, none, some (.iload 4), none, some (.iconst 0), some (.iastore), some (.goto 14), none, none, some (.aload_n 0), some (.getfield 84), none, none, some (.iload 4), none, some (.dup2), some (.iaload), some (.iconst 1), some (.iadd), some (.iastore), some (.goto (-178)), none, none, some (.return_)]
def ai_t122 : List (Option Instr) := [some (.aload_n 0), some (.aload_n 0), some (.getfield 84), none, none, some (.iconst 0), some (.iload_n 1), some (.iload_n 2), some (.invokevirtual 145), none, none, some (.istore_n 3), some (.aload_n 0), some (.getfield 134), none, none, some (.istore 4), none, some (.iload 4), none, some (.ifCond .le 7), none, none, some (.iconst 1), some (.goto 4), none, none, some (.iconst 0), some (.istore 5), none, some (.iload 5), none, some (.ifCond .eq 111), none, none, some (.aload_n 0), some (.iload 4), none, some (.iconst 1), some (.isub), some (.iload_n 3), some (.iload_n 1), some (.invokevirtual 149), none, none, some (.istore 5), none, some (.iload 5), none, some (.ifCond .eq (-19)), none, none, some (.aload_n 0), some (.getfield 75), none, none, some (.iload 4), none, some (.aload_n 0), some (.getfield 75), none, none, some (.iload 4), none, some (.iconst 1), some (.isub), some (.iaload), some (.iastore), some (.aload_n 0), some (.getfield 81), none, none, some (.iload 4), none, some (.aload_n 0), some (.getfield 81), none, none, some (.iload 4), none, some (.iconst 1), some (.isub), some (.iaload), some (.iastore), some (.iconst 0), some (.istore 6), none, some (.iload 6), none, some (.iconst 4), some (.if_icmp .ge 35), none, none, some (.aload_n 0), some (.getfield 78), none, none, some (.iconst 4), some (.iload 4), none, some (.imul), some (.iload 6), none, some (.iadd), some (.aload_n 0), some (.getfield 78), none, none, some (.iconst 4), some (.iload 4), none, some (.iconst 1), some (.isub), some (.imul), some (.iload 6), none, some (.iadd), some (.iaload), some (.iastore), some (.iinc 6 1), none, none, some (.goto (-35)), none, none, some (.iinc 4 (-1)), none, none, some (.iload 4), none, some (.ifCond .le 7), none, none, some (.iconst 1), some (.goto 4), none, none, some (.iconst 0), some (.istore 5), none, some (.goto (-110)), none, none, some (.aload_n 0), some (.getfield 75), none, none, some (.iload 4), none, some (.iload_n 1), some (.iastore), some (.aload_n 0), some (.getfield 81), none, none, some (.iload 4), none, some (.iload_n 3), some (.iastore), some (.iconst 0), some (.istore 6), none, some (.iload 6), none, some (.iload_n 1), some (.if_icmp .ge 28), none, none, some (.aload_n 0), some (.getfield 78), none, none, some (.iconst 4), some (.iload 4), none, some (.imul), some (.iload 6), none, some (.iadd), some (.aload_n 0), some (.getfield 84), none, none, some (.iload 6), none, some (.iaload), some (.iastore), some (.iinc 6 1), none, none, some (.goto (-28)), none, none, some (.aload_n 0), some (.dup), some (.getfield 134), none, none, some (.iconst 1), some (.iadd), some (.putfield 134), none, none, some (.return_)]
def ai_t123 : List (Option Instr) := [some (.aload_n 0), some (.getfield 81), none, none, some (.iload_n 1), some (.iaload), some (.iload_n 2), some (.if_icmp .eq 19), none, none, some (.aload_n 0), some (.getfield 81), none, none, some (.iload_n 1), some (.iaload), some (.iload_n 2), some (.if_icmp .le 7), none, none, some (.iconst 1), some (.goto 4), none, none, some (.iconst 0), some (.ireturn), some (.iconst 0), some (.istore 4), none, some (.iload 4), none, some (.iload_n 3), some (.if_icmp .ge 68), none, none, some (.iload 4), none, some (.aload_n 0), some (.getfield 75), none, none, some (.iload_n 1), some (.iaload), some (.if_icmp .ge 57), none, none, some (.aload_n 0), some (.getfield 78), none, none, some (.iconst 4), some (.iload_n 1), some (.imul), some (.iload 4), none, some (.iadd), some (.iaload), some (.aload_n 0), some (.getfield 84), none, none, some (.iload 4), none, some (.iaload), some (.if_icmp .eq 30), none, none, some (.aload_n 0), some (.getfield 78), none, none, some (.iconst 4), some (.iload_n 1), some (.imul), some (.iload 4), none, some (.iadd), some (.iaload), some (.aload_n 0), some (.getfield 84), none, none, some (.iload 4), none, some (.iaload), some (.if_icmp .le 7), none, none, some (.iconst 1), some (.goto 4), none, none, some (.iconst 0), some (.ireturn), some (.iinc 4 1), none, none, some (.goto (-68)), none, none, some (.aload_n 0), some (.getfield 75), none, none, some (.iload_n 1), some (.iaload), some (.iload_n 3), some (.if_icmp .le 7), none, none, some (.iconst 1), some (.goto 4), none, none, some (.iconst 0), some (.ireturn)]
def ai_t124 : List (Option Instr) := [some (.iload_n 0), some (.iconst 1), some (.if_icmp .lt 13), none, none, some (.iload_n 0), some (.bipush 8), none, some (.if_icmp .gt 7), none, none, some (.iconst 1), some (.goto 4), none, none, some (.iconst 0), some (.ireturn)]
def ai_t125 : List (Option Instr) := [some (.aload_n 0), some (.iload_n 1), some (.invokevirtual 121), none, none, some (.ifCond .eq 34), none, none, some (.aload_n 0), some (.iload_n 2), some (.invokevirtual 121), none, none, some (.ifCond .eq 26), none, none, some (.iload_n 3), some (.invokestatic 152), none, none, some (.ifCond .eq 19), none, none, some (.iload 4), none, some (.ifCond .lt 14), none, none, some (.iload 5), none, some (.ifCond .lt 9), none, none, some (.iload 5), none, some (.iconst 4), some (.if_icmp .le 5), none, none, some (.iconst (-1)), some (.ireturn), some (.aload_n 0), some (.iload_n 1), some (.iload_n 2), some (.iload_n 3), some (.invokevirtual 155), none, none, some (.iload 4), none, some (.aload_n 0), some (.getfield 134), none, none, some (.if_icmp .lt 5), none, none, some (.iconst (-1)), some (.ireturn), some (.iload 5), none, some (.iconst 4), some (.if_icmp .ne 13), none, none, some (.aload_n 0), some (.getfield 81), none, none, some (.iload 4), none, some (.iaload), some (.goto 31), none, none, some (.iload 5), none, some (.aload_n 0), some (.getfield 75), none, none, some (.iload 4), none, some (.iaload), some (.if_icmp .ge 18), none, none, some (.aload_n 0), some (.getfield 78), none, none, some (.iconst 4), some (.iload 4), none, some (.imul), some (.iload 5), none, some (.iadd), some (.iaload), some (.goto 4), none, none, some (.iconst (-1)), some (.ireturn)]
def ai_t126 : List (Option Instr) := [some (.aload_n 0), some (.getfield 125), none, none, some (.bipush 8), none, some (.if_icmp .eq 70), none, none, some (.aload_n 0), some (.iload_n 1), some (.invokevirtual 121), none, none, some (.ifCond .eq 62), none, none, some (.aload_n 0), some (.iload_n 2), some (.invokevirtual 121), none, none, some (.ifCond .eq 54), none, none, some (.iload_n 1), some (.iload_n 2), some (.if_icmp .eq 49), none, none, some (.iload_n 3), some (.invokestatic 152), none, none, some (.ifCond .eq 42), none, none, some (.iload 4), none, some (.iconst 2), some (.if_icmp .lt 36), none, none, some (.iload 4), none, some (.aload_n 0), some (.getfield 28), none, none, some (.if_icmp .gt 27), none, none, some (.aload_n 0), some (.getfield 28), none, none, some (.iload 4), none, some (.irem), some (.ifCond .ne 17), none, none, some (.iload 5), none, some (.iconst 1), some (.if_icmp .lt 11), none, none, some (.iload 5), none, some (.sipush 200), none, none, some (.if_icmp .le 5), none, none, some (.iconst (-1)), some (.ireturn), some (.aload_n 0), some (.iload_n 1), some (.iload_n 2), some (.iload_n 3), some (.invokevirtual 155), none, none, some (.iconst 0), some (.istore 6), none, some (.iload 6), none, some (.iconst 3), some (.if_icmp .ge 114), none, none, some (.iload 6), none, some (.aload_n 0), some (.getfield 134), none, none, some (.if_icmp .ge 105), none, none, some (.aload_n 0), some (.getfield 81), none, none, some (.iload 6), none, some (.iaload), some (.iload 5), none, some (.if_icmp .gt 93), none, none, some (.iconst 3), some (.aload_n 0), some (.getfield 125), none, none, some (.imul), some (.iload 6), none, some (.iadd), some (.istore 7), none, some (.aload_n 0), some (.getfield 41), none, none, some (.iload 7), none, some (.aload_n 0), some (.getfield 75), none, none, some (.iload 6), none, some (.iaload), some (.iastore), some (.aload_n 0), some (.getfield 47), none, none, some (.iload 7), none, some (.aload_n 0), some (.getfield 81), none, none, some (.iload 6), none, some (.iaload), some (.iastore), some (.iconst 0), some (.istore 8), none, some (.iload 8), none, some (.aload_n 0), some (.getfield 75), none, none, some (.iload 6), none, some (.iaload), some (.if_icmp .ge 33), none, none, some (.aload_n 0), some (.getfield 44), none, none, some (.iconst 4), some (.iload 7), none, some (.imul), some (.iload 8), none, some (.iadd), some (.aload_n 0), some (.getfield 78), none, none, some (.iconst 4), some (.iload 6), none, some (.imul), some (.iload 8), none, some (.iadd), some (.iaload), some (.iastore), some (.iinc 8 1), none, none, some (.goto (-39)), none, none, some (.iinc 6 1), none, none, some (.goto (-114)), none, none, some (.iload 6), none, some (.ifCond .ne 6), none, none, some (.bipush (-2)), none, some (.ireturn), some (.aload_n 0), some (.getfield 32), none, none, some (.aload_n 0), some (.getfield 125), none, none, some (.iload_n 3), some (.iastore), some (.aload_n 0), some (.getfield 35), none, none, some (.aload_n 0), some (.getfield 125), none, none, some (.iload 4), none, some (.iastore), some (.aload_n 0), some (.getfield 38), none, none, some (.aload_n 0), some (.getfield 125), none, none, some (.iload 6), none, some (.iastore), some (.aload_n 0), some (.getfield 50), none, none, some (.aload_n 0), some (.getfield 125), none, none, some (.iconst 0), some (.bastore), some (.aload_n 0), some (.dup), some (.getfield 125), none, none, some (.iconst 1), some (.iadd), some (.putfield 125), none, none, some (.aload_n 0), some (.getfield 125), none, none, some (.iconst 1), some (.isub), some (.ireturn)]
def ai_t127 : List (Option Instr) := [some (.iload_n 1), some (.ifCond .lt 20), none, none, some (.iload_n 1), some (.aload_n 0), some (.getfield 125), none, none, some (.if_icmp .ge 12), none, none, some (.aload_n 0), some (.getfield 50), none, none, some (.iload_n 1), some (.baload), some (.ifCond .ne 5), none, none, some (.iconst 0), some (.ireturn), some (.aload_n 0), some (.getfield 50), none, none, some (.iload_n 1), some (.iconst 0), some (.bastore), some (.aload_n 0), some (.invokevirtual 159), none, none, some (.iconst 1), some (.ireturn)]
def ai_t128 : List (Option Instr) := [some (.iload_n 3), some (.istore 5), none, some (.iconst 0), some (.istore 6), none, some (.iload 6), none, some (.iload 4), none, some (.if_icmp .ge 73), none, none, some (.aload_n 0), some (.getfield 44), none, none, some (.iconst 4), some (.iconst 3), some (.iload_n 1), some (.imul), some (.iload_n 2), some (.iadd), some (.imul), some (.iload 6), none, some (.iadd), some (.iaload), some (.istore 7), none, some (.iload 5), none, some (.aload_n 0), some (.getfield 32), none, none, some (.iload_n 1), some (.iaload), some (.aload_n 0), some (.getfield 25), none, none, some (.iload 7), none, some (.iaload), some (.imul), some (.aload_n 0), some (.getfield 22), none, none, some (.iload 7), none, some (.iaload), some (.iadd), some (.aload_n 0), some (.getfield 7), none, none, some (.aload_n 0), some (.getfield 19), none, none, some (.iload 7), none, some (.iaload), some (.iaload), some (.iadd), some (.iconst 2), some (.aload_n 0), some (.getfield 131), none, none, some (.imul), some (.iadd), some (.iadd), some (.istore 5), none, some (.iinc 6 1), none, none, some (.goto (-74)), none, none, some (.iload 5), none, some (.ireturn)]
def ai_t129 : List (Option Instr) := [some (.iconst 0), some (.istore 4), none, some (.iload 4), none, some (.aload_n 0), some (.getfield 41), none, none, some (.iconst 3), some (.iload_n 1), some (.imul), some (.iload_n 2), some (.iadd), some (.iaload), some (.if_icmp .ge 137), none, none, some (.aload_n 0), some (.getfield 44), none, none, some (.iconst 4), some (.iconst 3), some (.iload_n 1), some (.imul), some (.iload_n 2), some (.iadd), some (.imul), some (.iload 4), none, some (.iadd), some (.iaload), some (.istore 5), none, some (.aload_n 0), some (.getfield 32), none, none, some (.iload_n 1), some (.iaload), some (.aload_n 0), some (.getfield 25), none, none, some (.iload 5), none, some (.iaload), some (.imul), some (.istore 6), none, some (.iload 6), none, some (.aload_n 0), some (.getfield 35), none, none, some (.iload_n 1), some (.iaload), some (.if_icmp .le 5), none, none, some (.iconst 1), some (.ireturn), some (.aload_n 0), some (.iload_n 1), some (.iload_n 2), some (.iload_n 3), some (.iload 4), none, some (.invokevirtual 162), none, none, some (.istore 7), none, some (.iconst 0), some (.istore 8), none, some (.iload 8), none, some (.aload_n 0), some (.getfield 28), none, none, some (.if_icmp .ge 62), none, none, some (.iconst 0), some (.istore 9), none, some (.iload 9), none, some (.iload 6), none, some (.if_icmp .ge 38), none, none, some (.aload_n 0), some (.getfield 60), none, none, some (.bipush 120), none, some (.iload 5), none, some (.imul), some (.iload 7), none, some (.iload 8), none, some (.iadd), some (.iload 9), none, some (.iadd), some (.aload_n 0), some (.getfield 28), none, none, some (.irem), some (.iadd), some (.iaload), some (.ifCond .eq 5), none, none, some (.iconst 1), some (.ireturn), some (.iinc 9 1), none, none, some (.goto (-39)), none, none, some (.iload 8), none, some (.aload_n 0), some (.getfield 35), none, none, some (.iload_n 1), some (.iaload), some (.iadd), some (.istore 8), none, some (.goto (-65)), none, none, some (.iinc 4 1), none, none, some (.goto (-146)), none, none, some (.iconst 0), some (.ireturn)]
def ai_t130 : List (Option Instr) := [some (.iconst 0), some (.istore 5), none, some (.iload 5), none, some (.aload_n 0), some (.getfield 41), none, none, some (.iconst 3), some (.iload_n 1), some (.imul), some (.iload_n 2), some (.iadd), some (.iaload), some (.if_icmp .ge 117), none, none, some (.aload_n 0), some (.getfield 44), none, none, some (.iconst 4), some (.iconst 3), some (.iload_n 1), some (.imul), some (.iload_n 2), some (.iadd), some (.imul), some (.iload 5), none, some (.iadd), some (.iaload), some (.istore 6), none, some (.aload_n 0), some (.iload_n 1), some (.iload_n 2), some (.iload_n 3), some (.iload 5), none, some (.invokevirtual 162), none, none, some (.istore 7), none, some (.iconst 0), some (.istore 8), none, some (.iload 8), none, some (.aload_n 0), some (.getfield 28), none, none, some (.if_icmp .ge 71), none, none, some (.iconst 0), some (.istore 9), none, some (.iload 9), none, some (.aload_n 0), some (.getfield 32), none, none, some (.iload_n 1), some (.iaload), some (.aload_n 0), some (.getfield 25), none, none, some (.iload 6), none, some (.iaload), some (.imul), some (.if_icmp .ge 35), none, none, some (.aload_n 0), some (.getfield 60), none, none, some (.bipush 120), none, some (.iload 6), none, some (.imul), some (.iload 7), none, some (.iload 8), none, some (.iadd), some (.iload 9), none, some (.iadd), some (.aload_n 0), some (.getfield 28), none, none, some (.irem), some (.iadd), some (.iload 4), none, some (.iastore), some (.iinc 9 1), none, none, some (.goto (-48)), none, none, some (.iload 8), none, some (.aload_n 0), some (.getfield 35), none, none, some (.iload_n 1), some (.iaload), some (.iadd), some (.istore 8), none, some (.goto (-74)), none, none, some (.iinc 5 1), none, none, some (.goto (-126)), none, none, some (.return_)]
def ai_t131 : List (Option Instr) := [some (.iconst 0), some (.istore_n 1), some (.iload_n 1), some (.sipush 1440), none, none, some (.if_icmp .ge 16), none, none, some (.aload_n 0), some (.getfield 60), none, none, some (.iload_n 1), some (.iconst 0), some (.iastore), some (.iinc 1 1), none, none, some (.goto (-17)), none, none, some (.iconst 0), some (.istore_n 1), some (.iload_n 1), some (.aload_n 0), some (.getfield 125), none, none, some (.if_icmp .ge 38), none, none, some (.aload_n 0), some (.getfield 50), none, none, some (.iload_n 1), some (.baload), some (.ifCond .eq 23), none, none, some (.aload_n 0), some (.iload_n 1), some (.aload_n 0), some (.getfield 54), none, none, some (.iload_n 1), some (.iaload), some (.aload_n 0), some (.getfield 57), none, none, some (.iload_n 1), some (.iaload), some (.iload_n 1), some (.iconst 1), some (.iadd), some (.invokevirtual 166), none, none, some (.iinc 1 1), none, none, some (.goto (-40)), none, none, some (.aload_n 0), some (.iconst 1), some (.putfield 93), none, none, some (.return_)]
def ai_t132 : List (Option Instr) := [some (.iconst 0), some (.istore_n 1), some (.aload_n 0), some (.getfield 90), none, none, some (.iconst 0), some (.iconst 0), some (.iastore), some (.iload_n 1), some (.aload_n 0), some (.getfield 170), none, none, some (.if_icmp .ge 233), none, none, some (.aload_n 0), some (.getfield 87), none, none, some (.iload_n 1), some (.iaload), some (.istore_n 2), some (.iconst 0), some (.istore_n 3), some (.iload_n 3), some (.ifCond .ne 104), none, none, some (.aload_n 0), some (.getfield 90), none, none, some (.iload_n 1), some (.iaload), some (.aload_n 0), some (.getfield 38), none, none, some (.iload_n 2), some (.iaload), some (.aload_n 0), some (.getfield 35), none, none, some (.iload_n 2), some (.iaload), some (.imul), some (.if_icmp .ge 82), none, none, some (.aload_n 0), some (.getfield 173), none, none, some (.ldc 176), none, some (.if_icmp .ne 6), none, none, some (.bipush (-2)), none, some (.ireturn), some (.aload_n 0), some (.dup), some (.getfield 173), none, none, some (.iconst 1), some (.iadd), some (.putfield 173), none, none, some (.aload_n 0), some (.iload_n 2), some (.aload_n 0), some (.getfield 90), none, none, some (.iload_n 1), some (.iaload), some (.aload_n 0), some (.getfield 35), none, none, some (.iload_n 2), some (.iaload), some (.idiv), some (.aload_n 0), some (.getfield 90), none, none, some (.iload_n 1), some (.iaload), some (.aload_n 0), some (.getfield 35), none, none, some (.iload_n 2), some (.iaload), some (.irem), some (.invokevirtual 177), none, none, some (.ifCond .ne 7), none, none, some (.iconst 1), some (.goto 4), none, none, some (.iconst 0), some (.istore_n 3), some (.iload_n 3), some (.ifCond .ne (-89)), none, none, some (.aload_n 0), some (.getfield 90), none, none, some (.iload_n 1), some (.dup2), some (.iaload), some (.iconst 1), some (.iadd), some (.iastore), some (.goto (-102)), none, none, some (.iload_n 3), some (.ifCond .eq 50), none, none, some (.aload_n 0), some (.iload_n 2), some (.aload_n 0), some (.getfield 90), none, none, some (.iload_n 1), some (.iaload), some (.aload_n 0), some (.getfield 35), none, none, some (.iload_n 2), some (.iaload), some (.idiv), some (.aload_n 0), some (.getfield 90), none, none, some (.iload_n 1), some (.iaload), some (.aload_n 0), some (.getfield 35), none, none, some (.iload_n 2), some (.iaload), some (.irem), some (.iload_n 2), some (.iconst 1), some (.iadd), some (.invokevirtual 166), none, none, some (.iinc 1 1), none, none, some (.aload_n 0), some (.getfield 90), none, none, some (.iload_n 1), some (.iconst 0), some (.iastore), some (.goto 65), none, none, some (.iinc 1 (-1)), none, none, some (.iload_n 1), some (.ifCond .ge 5), none, none, some (.iconst 0), some (.ireturn), some (.aload_n 0), some (.getfield 87), none, none, some (.iload_n 1), some (.iaload), some (.istore 4), none, some (.aload_n 0), some (.iload 4), none, some (.aload_n 0), some (.getfield 90), none, none, some (.iload_n 1), some (.iaload), some (.aload_n 0), some (.getfield 35), none, none, some (.iload 4), none, some (.iaload), some (.idiv), some (.aload_n 0), some (.getfield 90), none, none, some (.iload_n 1), some (.iaload), some (.aload_n 0), some (.getfield 35), none, none, some (.iload 4), none, some (.iaload), some (.irem), some (.iconst 0), some (.invokevirtual 166), none, none, some (.aload_n 0), some (.getfield 90), none, none, some (.iload_n 1), some (.dup2), some (.iaload), some (.iconst 1), some (.iadd), some (.iastore), some (.goto (-235)), none, none, some (.iconst 1), some (.ireturn)]
def ai_t133 : List (Option Instr) := [some (.iconst 0), some (.istore_n 2), some (.iload_n 2), some (.sipush 1440), none, none, some (.if_icmp .ge 16), none, none, some (.aload_n 0), some (.getfield 60), none, none, some (.iload_n 2), some (.iconst 0), some (.iastore), some (.iinc 2 1), none, none, some (.goto (-17)), none, none, some (.aload_n 0), some (.iconst 0), some (.putfield 170), none, none, some (.iconst 0), some (.istore_n 2), some (.iload_n 2), some (.aload_n 0), some (.getfield 125), none, none, some (.if_icmp .ge 70), none, none, some (.aload_n 0), some (.getfield 50), none, none, some (.iload_n 2), some (.baload), some (.ifCond .eq 12), none, none, some (.iload_n 1), some (.iload_n 2), some (.ishr), some (.iconst 1), some (.iand), some (.iconst 1), some (.if_icmp .ne 26), none, none, some (.aload_n 0), some (.getfield 87), none, none, some (.aload_n 0), some (.getfield 170), none, none, some (.iload_n 2), some (.iastore), some (.aload_n 0), some (.dup), some (.getfield 170), none, none, some (.iconst 1), some (.iadd), some (.putfield 170), none, none, some (.goto 23), none, none, some (.aload_n 0), some (.iload_n 2), some (.aload_n 0), some (.getfield 54), none, none, some (.iload_n 2), some (.iaload), some (.aload_n 0), some (.getfield 57), none, none, some (.iload_n 2), some (.iaload), some (.iload_n 2), some (.iconst 1), some (.iadd), some (.invokevirtual 166), none, none, some (.iinc 2 1), none, none, some (.goto (-72)), none, none, some (.aload_n 0), some (.invokevirtual 180), none, none, some (.istore_n 2), some (.iconst 0), some (.istore_n 3), some (.iload_n 3), some (.aload_n 0), some (.getfield 170), none, none, some (.if_icmp .ge 72), none, none, some (.iload_n 2), some (.iconst 1), some (.if_icmp .ne 67), none, none, some (.aload_n 0), some (.getfield 87), none, none, some (.iload_n 3), some (.iaload), some (.istore 4), none, some (.aload_n 0), some (.getfield 50), none, none, some (.iload 4), none, some (.iconst 1), some (.bastore), some (.aload_n 0), some (.getfield 54), none, none, some (.iload 4), none, some (.aload_n 0), some (.getfield 90), none, none, some (.iload_n 3), some (.iaload), some (.aload_n 0), some (.getfield 35), none, none, some (.iload 4), none, some (.iaload), some (.idiv), some (.iastore), some (.aload_n 0), some (.getfield 57), none, none, some (.iload 4), none, some (.aload_n 0), some (.getfield 90), none, none, some (.iload_n 3), some (.iaload), some (.aload_n 0), some (.getfield 35), none, none, some (.iload 4), none, some (.iaload), some (.irem), some (.iastore), some (.iinc 3 1), none, none, some (.goto (-74)), none, none, some (.aload_n 0), some (.invokevirtual 159), none, none, some (.iload_n 2), some (.ireturn)]
def ai_t134 : List (Option Instr) := [some (.aload_n 0), some (.iconst 0), some (.putfield 173), none, none, some (.aload_n 0), some (.sipush 255), none, none, some (.invokevirtual 184), none, none, some (.ireturn)]
def ai_t135 : List (Option Instr) := [some (.aload_n 0), some (.iconst 0), some (.putfield 173), none, none, some (.aload_n 0), some (.iconst 0), some (.invokevirtual 184), none, none, some (.ireturn)]
def ai_t136 : List (Option Instr) := [some (.iconst 0), some (.istore_n 1), some (.iconst 0), some (.istore_n 2), some (.iload_n 2), some (.aload_n 0), some (.getfield 125), none, none, some (.if_icmp .ge 28), none, none, some (.aload_n 0), some (.getfield 50), none, none, some (.iload_n 2), some (.baload), some (.ifCond .eq 11), none, none, some (.iload_n 1), some (.iconst 1), some (.iload_n 2), some (.ishl), some (.ior), some (.goto 4), none, none, some (.iload_n 1), some (.istore_n 1), some (.iinc 2 1), none, none, some (.goto (-30)), none, none, some (.iload_n 1), some (.ireturn)]
def ai_t137 : List (Option Instr) := [some (.iconst 0), some (.istore_n 1), some (.iconst 0), some (.istore_n 2), some (.iload_n 2), some (.bipush 8), none, some (.if_icmp .ge 17), none, none, some (.iload_n 1), some (.iload_n 0), some (.iload_n 2), some (.ishr), some (.iconst 1), some (.iand), some (.iadd), some (.istore_n 1), some (.iinc 2 1), none, none, some (.goto (-17)), none, none, some (.iload_n 1), some (.ireturn)]
def ai_t138 : List (Option Instr) := [some (.iconst 0), some (.istore_n 2), some (.iload_n 2), some (.bipush 8), none, some (.if_icmp .ge 37), none, none, some (.iload_n 0), some (.iload_n 2), some (.ishr), some (.iconst 1), some (.iand), some (.iload_n 1), some (.iload_n 2), some (.ishr), some (.iconst 1), some (.iand), some (.if_icmp .eq 18), none, none, some (.iload_n 0), some (.iload_n 2), some (.ishr), some (.iconst 1), some (.iand), some (.iconst 1), some (.if_icmp .ne 7), none, none, some (.iconst 1), some (.goto 4), none, none, some (.iconst 0), some (.ireturn), some (.iinc 2 1), none, none, some (.goto (-37)), none, none, some (.iconst 0), some (.ireturn)]
def ai_t139 : List (Option Instr) := [some (.iconst (-1)), some (.istore 4), none, some (.iconst 0), some (.istore 5), none, some (.iload 5), none, some (.sipush 256), none, none, some (.if_icmp .ge 71), none, none, some (.iload 5), none, some (.iload_n 1), some (.iconst (-1)), some (.ixor), some (.iand), some (.ifCond .ne 29), none, none, some (.iload 5), none, some (.invokestatic 188), none, none, some (.iload_n 2), some (.if_icmp .ne 20), none, none, some (.iload_n 3), some (.ifCond .lt 12), none, none, some (.iload_n 3), some (.iload 5), none, some (.invokestatic 191), none, none, some (.ifCond .eq 7), none, none, some (.iconst 1), some (.goto 4), none, none, some (.iconst 0), some (.istore 6), none, some (.iload 6), none, some (.ifCond .eq 22), none, none, some (.iload 4), none, some (.ifCond .lt 13), none, none, some (.iload 5), none, some (.iload 4), none, some (.invokestatic 191), none, none, some (.ifCond .eq 7), none, none, some (.iload 5), none, some (.istore 4), none, some (.iinc 5 1), none, none, some (.goto (-73)), none, none, some (.iload 4), none, some (.ireturn)]
def ai_t140 : List (Option Instr) := [some (.aload_n 0), some (.iconst 0), some (.putfield 173), none, none, some (.aload_n 0), some (.invokevirtual 195), none, none, some (.istore_n 1), some (.iconst 0), some (.istore_n 2), some (.iload_n 2), some (.iconst 4), some (.if_icmp .ge 57), none, none, some (.aload_n 0), some (.iload_n 1), some (.iload_n 2), some (.iconst (-1)), some (.invokevirtual 198), none, none, some (.istore_n 3), some (.iload_n 3), some (.ifCond .lt 39), none, none, some (.aload_n 0), some (.iload_n 3), some (.invokevirtual 184), none, none, some (.istore 4), none, some (.iload 4), none, some (.ifCond .eq 16), none, none, some (.iload 4), none, some (.iconst 1), some (.if_icmp .ne 7), none, none, some (.iload_n 2), some (.goto 5), none, none, some (.bipush (-2)), none, some (.ireturn), some (.aload_n 0), some (.iload_n 1), some (.iload_n 2), some (.iload_n 3), some (.invokevirtual 198), none, none, some (.istore_n 3), some (.goto (-37)), none, none, some (.iinc 2 1), none, none, some (.goto (-56)), none, none, some (.iconst (-1)), some (.ireturn)]
def ai_t141 : List (Option Instr) := [some (.iload_n 1), some (.ifCond .lt 24), none, none, some (.iload_n 1), some (.aload_n 0), some (.getfield 125), none, none, some (.if_icmp .ge 16), none, none, some (.aload_n 0), some (.getfield 50), none, none, some (.iload_n 1), some (.baload), some (.ifCond .eq 7), none, none, some (.iconst 1), some (.goto 4), none, none, some (.iconst 0), some (.ireturn)]
def ai_t142 : List (Option Instr) := [some (.aload_n 0), some (.iload_n 1), some (.invokevirtual 202), none, none, some (.ifCond .ne 5), none, none, some (.iconst (-1)), some (.ireturn), some (.iconst 3), some (.iload_n 1), some (.imul), some (.aload_n 0), some (.getfield 54), none, none, some (.iload_n 1), some (.iaload), some (.iadd), some (.istore_n 3), some (.aload_n 0), some (.getfield 41), none, none, some (.iload_n 3), some (.iaload), some (.istore 4), none, some (.iload_n 2), some (.bipush 10), none, some (.if_icmp .lt 26), none, none, some (.iload_n 2), some (.bipush 10), none, some (.iload 4), none, some (.iadd), some (.if_icmp .ge 17), none, none, some (.aload_n 0), some (.getfield 44), none, none, some (.iconst 4), some (.iload_n 3), some (.imul), some (.iload_n 2), some (.iadd), some (.bipush 10), none, some (.isub), some (.iaload), some (.ireturn), some (.iload_n 2), some (.bipush 20), none, some (.if_icmp .lt 34), none, none, some (.iload_n 2), some (.bipush 20), none, some (.iload 4), none, some (.iadd), some (.if_icmp .ge 25), none, none, some (.aload_n 0), some (.iload_n 1), some (.aload_n 0), some (.getfield 54), none, none, some (.iload_n 1), some (.iaload), some (.aload_n 0), some (.getfield 57), none, none, some (.iload_n 1), some (.iaload), some (.iload_n 2), some (.bipush 20), none, some (.isub), some (.invokevirtual 162), none, none, some (.ireturn), some (.iload_n 2), some (.tableswitch 56 0 3 #[32, 39, 46, 49]), none, none, none, none, none, none, none, none, none, none, none, none, none, none, none, none, none, none, none, none, none, none, none, none, none, none, none, none, none, none, none, some (.aload_n 0), some (.getfield 54), none, none, some (.iload_n 1), some (.iaload), some (.ireturn), some (.aload_n 0), some (.getfield 57), none, none, some (.iload_n 1), some (.iaload), some (.ireturn), some (.iload 4), none, some (.ireturn), some (.aload_n 0), some (.getfield 47), none, none, some (.iload_n 3), some (.iaload), some (.ireturn), some (.iconst (-1)), some (.ireturn)]
def ai_t143 : List (Option Instr) := [some (.aload_n 0), some (.getfield 173), none, none, some (.ireturn)]
def ai_t144 : List (Option Instr) := [some (.aload_n 0), some (.iload_n 1), some (.invokevirtual 205), none, none, some (.ifCond .eq 15), none, none, some (.iload_n 2), some (.ifCond .lt 11), none, none, some (.iload_n 2), some (.aload_n 0), some (.getfield 28), none, none, some (.if_icmp .lt 6), none, none, some (.bipush (-2)), none, some (.ireturn), some (.aload_n 0), some (.getfield 60), none, none, some (.bipush 120), none, some (.iload_n 1), some (.imul), some (.iload_n 2), some (.iadd), some (.iaload), some (.iconst 1), some (.isub), some (.ireturn)]
def ai_t145 : List (Option Instr) := [some (.iload_n 1), some (.aload_n 0), some (.getfield 28), none, none, some (.irem), some (.istore_n 2), some (.iload_n 2), some (.ifCond .ge 12), none, none, some (.iload_n 2), some (.aload_n 0), some (.getfield 28), none, none, some (.iadd), some (.goto 4), none, none, some (.iload_n 2), some (.ireturn)]
def ai_t146 : List (Option Instr) := [some (.iconst 0), some (.istore 4), none, some (.iload 4), none, some (.iload_n 3), some (.if_icmp .ge 41), none, none, some (.iload 4), none, some (.aload_n 0), some (.getfield 28), none, none, some (.if_icmp .ge 32), none, none, some (.aload_n 0), some (.getfield 60), none, none, some (.bipush 120), none, some (.iload_n 1), some (.imul), some (.aload_n 0), some (.iload_n 2), some (.iload 4), none, some (.iadd), some (.invokevirtual 208), none, none, some (.iadd), some (.iaload), some (.ifCond .eq 5), none, none, some (.iconst 0), some (.ireturn), some (.iinc 4 1), none, none, some (.goto (-41)), none, none, some (.iconst 1), some (.ireturn)]
def ai_t147 : List (Option Instr) := [some (.aload_n 0), some (.iload_n 1), some (.invokevirtual 205), none, none, some (.ifCond .eq 22), none, none, some (.iload_n 2), some (.ifCond .lt 18), none, none, some (.iload_n 2), some (.aload_n 0), some (.getfield 28), none, none, some (.if_icmp .ge 10), none, none, some (.iload_n 3), some (.invokestatic 152), none, none, some (.ifCond .ne 6), none, none, some (.bipush (-2)), none, some (.ireturn), some (.iconst 0), some (.istore 4), none, some (.iload 4), none, some (.aload_n 0), some (.getfield 28), none, none, some (.if_icmp .ge 32), none, none, some (.aload_n 0), some (.iload_n 1), some (.iload_n 2), some (.iload 4), none, some (.iadd), some (.iload_n 3), some (.aload_n 0), some (.getfield 25), none, none, some (.iload_n 1), some (.iaload), some (.imul), some (.invokevirtual 211), none, none, some (.ifCond .eq 6), none, none, some (.iload 4), none, some (.ireturn), some (.iinc 4 1), none, none, some (.goto (-35)), none, none, some (.iconst (-1)), some (.ireturn)]
def ai_t148 : List (Option Instr) := [some (.aload_n 0), some (.iload_n 1), some (.invokevirtual 205), none, none, some (.ifCond .eq 10), none, none, some (.iload_n 2), some (.invokestatic 152), none, none, some (.ifCond .ne 6), none, none, some (.bipush (-2)), none, some (.ireturn), some (.iconst 0), some (.istore_n 3), some (.iconst 0), some (.istore 4), none, some (.iload 4), none, some (.aload_n 0), some (.getfield 28), none, none, some (.if_icmp .ge 45), none, none, some (.iload_n 3), some (.ifCond .lt 41), none, none, some (.aload_n 0), some (.iload_n 1), some (.iload 4), none, some (.iload_n 2), some (.invokevirtual 214), none, none, some (.istore 5), none, some (.iload 5), none, some (.ifCond .ge 7), none, none, some (.iconst (-1)), some (.goto 15), none, none, some (.iload 5), none, some (.iload_n 3), some (.if_icmp .le 8), none, none, some (.iload 5), none, some (.goto 4), none, none, some (.iload_n 3), some (.istore_n 3), some (.iinc 4 1), none, none, some (.goto (-48)), none, none, some (.iload_n 3), some (.ireturn)]
def ai_t149 : List (Option Instr) := [some (.aload_n 0), some (.iload_n 1), some (.invokevirtual 121), none, none, some (.ifCond .eq 20), none, none, some (.iload_n 2), some (.aload_n 0), some (.getfield 131), none, none, some (.ineg), some (.if_icmp .lt 11), none, none, some (.iload_n 2), some (.aload_n 0), some (.getfield 131), none, none, some (.if_icmp .le 5), none, none, some (.iconst 0), some (.ireturn), some (.aload_n 0), some (.getfield 13), none, none, some (.iload_n 1), some (.iload_n 2), some (.iastore), some (.aload_n 0), some (.iconst 1), some (.putfield 93), none, none, some (.iconst 1), some (.ireturn)]
def ai_t150 : List (Option Instr) := [some (.aload_n 0), some (.getfield 128), none, none, some (.bipush 60), none, some (.if_icmp .eq 43), none, none, some (.iload_n 1), some (.ifCond .lt 39), none, none, some (.iload_n 1), some (.sipush 999), none, none, some (.if_icmp .gt 32), none, none, some (.aload_n 0), some (.iload_n 2), some (.invokevirtual 121), none, none, some (.ifCond .eq 24), none, none, some (.aload_n 0), some (.iload_n 3), some (.invokevirtual 121), none, none, some (.ifCond .eq 16), none, none, some (.iload_n 2), some (.iload_n 3), some (.if_icmp .eq 11), none, none, some (.iload 4), none, some (.invokestatic 152), none, none, some (.ifCond .ne 5), none, none, some (.iconst (-1)), some (.ireturn), some (.aload_n 0), some (.iload_n 2), some (.iload_n 3), some (.iload 4), none, some (.invokevirtual 155), none, none, some (.aload_n 0), some (.getfield 134), none, none, some (.ifCond .ne 6), none, none, some (.bipush (-2)), none, some (.ireturn), some (.aload_n 0), some (.getfield 63), none, none, some (.aload_n 0), some (.getfield 128), none, none, some (.iload_n 1), some (.iastore), some (.aload_n 0), some (.getfield 66), none, none, some (.aload_n 0), some (.getfield 128), none, none, some (.iload 4), none, some (.iastore), some (.aload_n 0), some (.getfield 69), none, none, some (.aload_n 0), some (.getfield 128), none, none, some (.aload_n 0), some (.getfield 75), none, none, some (.iconst 0), some (.iaload), some (.iastore), some (.iconst 0), some (.istore 5), none, some (.iload 5), none, some (.aload_n 0), some (.getfield 75), none, none, some (.iconst 0), some (.iaload), some (.if_icmp .ge 30), none, none, some (.aload_n 0), some (.getfield 72), none, none, some (.iconst 4), some (.aload_n 0), some (.getfield 128), none, none, some (.imul), some (.iload 5), none, some (.iadd), some (.aload_n 0), some (.getfield 78), none, none, some (.iload 5), none, some (.iaload), some (.iastore), some (.iinc 5 1), none, none, some (.goto (-35)), none, none, some (.aload_n 0), some (.dup), some (.getfield 128), none, none, some (.iconst 1), some (.iadd), some (.putfield 128), none, none, some (.aload_n 0), some (.iconst 1), some (.putfield 93), none, none, some (.aload_n 0), some (.getfield 128), none, none, some (.iconst 1), some (.isub), some (.ireturn)]
def ai_t151 : List (Option Instr) := [some (.aload_n 0), some (.getfield 44), none, none, some (.iconst 4), some (.iconst 3), some (.iload_n 1), some (.imul), some (.aload_n 0), some (.getfield 54), none, none, some (.iload_n 1), some (.iaload), some (.iadd), some (.imul), some (.iload_n 3), some (.iadd), some (.iaload), some (.istore 4), none, some (.aload_n 0), some (.iload_n 1), some (.aload_n 0), some (.getfield 54), none, none, some (.iload_n 1), some (.iaload), some (.aload_n 0), some (.getfield 57), none, none, some (.iload_n 1), some (.iaload), some (.iload_n 3), some (.invokevirtual 162), none, none, some (.iload_n 2), some (.aload_n 0), some (.getfield 35), none, none, some (.iload_n 1), some (.iaload), some (.imul), some (.iadd), some (.aload_n 0), some (.getfield 13), none, none, some (.aload_n 0), some (.getfield 16), none, none, some (.iload 4), none, some (.iaload), some (.iaload), some (.iadd), some (.ireturn)]
def ai_t152 : List (Option Instr) := [some (.aload_n 0), some (.iload_n 1), some (.invokevirtual 202), none, none, some (.ifCond .eq 13), none, none, some (.iload_n 2), some (.ifCond .lt 9), none, none, some (.iload_n 2), some (.bipush 99), none, some (.if_icmp .le 7), none, none, some (.sipush (-1000)), none, none, some (.ireturn), some (.aload_n 0), some (.getfield 41), none, none, some (.iconst 3), some (.iload_n 1), some (.imul), some (.aload_n 0), some (.getfield 54), none, none, some (.iload_n 1), some (.iaload), some (.iadd), some (.iaload), some (.istore 4), none, some (.iload_n 3), some (.bipush 9), none, some (.if_icmp .ne 61), none, none, some (.aload_n 0), some (.getfield 44), none, none, some (.iconst 4), some (.iconst 3), some (.iload_n 1), some (.imul), some (.aload_n 0), some (.getfield 54), none, none, some (.iload_n 1), some (.iaload), some (.iadd), some (.imul), some (.iload 4), none, some (.iadd), some (.iconst 1), some (.isub), some (.iaload), some (.istore 5), none, some (.aload_n 0), some (.iload_n 1), some (.iload_n 2), some (.iload 4), none, some (.iconst 1), some (.isub), some (.invokevirtual 217), none, none, some (.aload_n 0), some (.getfield 32), none, none, some (.iload_n 1), some (.iaload), some (.aload_n 0), some (.getfield 25), none, none, some (.iload 5), none, some (.iaload), some (.imul), some (.iadd), some (.aload_n 0), some (.getfield 22), none, none, some (.iload 5), none, some (.iaload), some (.iadd), some (.ireturn), some (.iload_n 3), some (.ifCond .lt 9), none, none, some (.iload_n 3), some (.iload 4), none, some (.if_icmp .lt 9), none, none, some (.sipush (-1000)), none, none, some (.goto 10), none, none, some (.aload_n 0), some (.iload_n 1), some (.iload_n 2), some (.iload_n 3), some (.invokevirtual 217), none, none, some (.ireturn)]
def ai_t153 : List (Option Instr) := [some (.aload_n 0), some (.iload_n 1), some (.invokevirtual 202), none, none, some (.ifCond .eq 37), none, none, some (.iload_n 2), some (.ifCond .lt 33), none, none, some (.iload_n 2), some (.bipush 99), none, some (.if_icmp .gt 27), none, none, some (.iload_n 3), some (.iconst 1), some (.if_icmp .lt 22), none, none, some (.iload_n 3), some (.aload_n 0), some (.getfield 41), none, none, some (.iconst 3), some (.iload_n 1), some (.imul), some (.aload_n 0), some (.getfield 54), none, none, some (.iload_n 1), some (.iaload), some (.iadd), some (.iaload), some (.if_icmp .lt 7), none, none, some (.sipush (-1000)), none, none, some (.ireturn), some (.aload_n 0), some (.getfield 44), none, none, some (.iconst 4), some (.iconst 3), some (.iload_n 1), some (.imul), some (.aload_n 0), some (.getfield 54), none, none, some (.iload_n 1), some (.iaload), some (.iadd), some (.imul), some (.iload_n 3), some (.iadd), some (.iconst 1), some (.isub), some (.iaload), some (.istore 4), none, some (.aload_n 0), some (.iload_n 1), some (.iload_n 2), some (.iload_n 3), some (.invokevirtual 217), none, none, some (.aload_n 0), some (.iload_n 1), some (.iload_n 2), some (.iload_n 3), some (.iconst 1), some (.isub), some (.invokevirtual 217), none, none, some (.isub), some (.aload_n 0), some (.getfield 32), none, none, some (.iload_n 1), some (.iaload), some (.aload_n 0), some (.getfield 25), none, none, some (.iload 4), none, some (.iaload), some (.imul), some (.isub), some (.aload_n 0), some (.getfield 22), none, none, some (.iload 4), none, some (.iaload), some (.isub), some (.aload_n 0), some (.getfield 7), none, none, some (.aload_n 0), some (.getfield 19), none, none, some (.iload 4), none, some (.iaload), some (.iaload), some (.isub), some (.ireturn)]
def ai_t154 : List (Option Instr) := [some (.aload_n 0), some (.getfield 93), none, none, some (.ifCond .ne 4), none, none, some (.return_), some (.aload_n 0), some (.iconst 0), some (.putfield 93), none, none, some (.iconst 0), some (.istore_n 1), some (.iload_n 1), some (.sipush 240), none, none, some (.if_icmp .ge 25), none, none, some (.aload_n 0), some (.getfield 97), none, none, some (.iload_n 1), some (.ldc 220), none, some (.iastore), some (.aload_n 0), some (.getfield 100), none, none, some (.iload_n 1), some (.ldc 220), none, some (.iastore), some (.iinc 1 1), none, none, some (.goto (-26)), none, none, some (.iconst 0), some (.istore_n 1), some (.iload_n 1), some (.aload_n 0), some (.getfield 128), none, none, some (.if_icmp .ge 38), none, none, some (.aload_n 0), some (.getfield 97), none, none, some (.iconst 4), some (.iload_n 1), some (.imul), some (.aload_n 0), some (.getfield 63), none, none, some (.iload_n 1), some (.iaload), some (.iastore), some (.aload_n 0), some (.getfield 103), none, none, some (.iload_n 1), some (.ldc 220), none, some (.iastore), some (.aload_n 0), some (.getfield 106), none, none, some (.iload_n 1), some (.iconst 0), some (.iastore), some (.iinc 1 1), none, none, some (.goto (-40)), none, none, some (.iconst 0), some (.istore_n 1), some (.iload_n 1), some (.bipush 12), none, some (.if_icmp .ge 23), none, none, some (.aload_n 0), some (.getfield 109), none, none, some (.iload_n 1), some (.iconst 0), some (.iastore), some (.aload_n 0), some (.getfield 112), none, none, some (.iload_n 1), some (.iconst 0), some (.iastore), some (.iinc 1 1), none, none, some (.goto (-23)), none, none, some (.iconst 0), some (.istore_n 1), some (.iload_n 1), some (.sipush 3000), none, none, some (.if_icmp .ge 31), none, none, some (.iconst 0), some (.istore_n 2), some (.iload_n 2), some (.aload_n 0), some (.getfield 118), none, none, some (.if_icmp .ge 15), none, none, some (.aload_n 0), some (.iload_n 2), some (.iload_n 1), some (.invokevirtual 221), none, none, some (.iinc 2 1), none, none, some (.goto (-17)), none, none, some (.iinc 1 1), none, none, some (.goto (-32)), none, none, some (.return_)]
def ai_t155 : List (Option Instr) := [some (.iconst (-1)), some (.istore_n 3), some (.iconst 0), some (.istore 4), none, some (.iconst 0), some (.istore 5), none, some (.iload 5), none, some (.aload_n 0), some (.getfield 128), none, none, some (.if_icmp .ge 129), none, none, some (.aload_n 0), some (.getfield 106), none, none, some (.iload 5), none, some (.iaload), some (.aload_n 0), some (.getfield 69), none, none, some (.iload 5), none, some (.iaload), some (.if_icmp .ge 49), none, none, some (.aload_n 0), some (.getfield 72), none, none, some (.iconst 4), some (.iload 5), none, some (.imul), some (.aload_n 0), some (.getfield 106), none, none, some (.iload 5), none, some (.iaload), some (.iadd), some (.iaload), some (.iload_n 1), some (.if_icmp .ne 28), none, none, some (.aload_n 0), some (.getfield 97), none, none, some (.iconst 4), some (.iload 5), none, some (.imul), some (.aload_n 0), some (.getfield 106), none, none, some (.iload 5), none, some (.iaload), some (.iadd), some (.iaload), some (.iload_n 2), some (.if_icmp .gt 7), none, none, some (.iconst 1), some (.goto 4), none, none, some (.iconst 0), some (.istore 6), none, some (.iload 6), none, some (.ifCond .eq 52), none, none, some (.iinc 4 1), none, none, some (.iload_n 3), some (.ifCond .lt 38), none, none, some (.aload_n 0), some (.getfield 97), none, none, some (.iconst 4), some (.iload 5), none, some (.imul), some (.aload_n 0), some (.getfield 106), none, none, some (.iload 5), none, some (.iaload), some (.iadd), some (.iaload), some (.aload_n 0), some (.getfield 97), none, none, some (.iconst 4), some (.iload_n 3), some (.imul), some (.aload_n 0), some (.getfield 106), none, none, some (.iload_n 3), some (.iaload), some (.iadd), some (.iaload), some (.if_icmp .ge 8), none, none, some (.iload 5), none, some (.goto 4), none, none, some (.iload_n 3), some (.istore_n 3), some (.iinc 5 1), none, none, some (.goto (-132)), none, none, some (.iload_n 3), some (.ifCond .lt 57), none, none, some (.aload_n 0), some (.getfield 109), none, none, some (.iload_n 1), some (.iaload), some (.iload_n 2), some (.if_icmp .gt 47), none, none, some (.aload_n 0), some (.iload_n 1), some (.iload_n 2), some (.aload_n 0), some (.getfield 13), none, none, some (.aload_n 0), some (.getfield 16), none, none, some (.iload_n 1), some (.iaload), some (.iaload), some (.isub), some (.aload_n 0), some (.getfield 66), none, none, some (.iload_n 3), some (.iaload), some (.aload_n 0), some (.getfield 25), none, none, some (.iload_n 1), some (.iaload), some (.imul), some (.invokevirtual 211), none, none, some (.ifCond .eq 13), none, none, some (.aload_n 0), some (.iload_n 3), some (.iload_n 1), some (.iload_n 2), some (.invokevirtual 224), none, none, some (.iinc 4 (-1)), none, none, some (.aload_n 0), some (.getfield 112), none, none, some (.iload_n 1), some (.iload 4), none, some (.aload_n 0), some (.getfield 112), none, none, some (.iload_n 1), some (.iaload), some (.if_icmp .le 8), none, none, some (.iload 4), none, some (.goto 9), none, none, some (.aload_n 0), some (.getfield 112), none, none, some (.iload_n 1), some (.iaload), some (.iastore), some (.return_)]
def ai_t156 : List (Option Instr) := [some (.aload_n 0), some (.getfield 66), none, none, some (.iload_n 1), some (.iaload), some (.aload_n 0), some (.getfield 25), none, none, some (.iload_n 2), some (.iaload), some (.imul), some (.istore 4), none, some (.aload_n 0), some (.getfield 100), none, none, some (.iconst 4), some (.iload_n 1), some (.imul), some (.aload_n 0), some (.getfield 106), none, none, some (.iload_n 1), some (.iaload), some (.iadd), some (.iload_n 3), some (.iastore), some (.aload_n 0), some (.getfield 109), none, none, some (.iload_n 2), some (.iload_n 3), some (.iload 4), none, some (.iadd), some (.iastore), some (.aload_n 0), some (.getfield 106), none, none, some (.iload_n 1), some (.dup2), some (.iaload), some (.iconst 1), some (.iadd), some (.iastore), some (.aload_n 0), some (.getfield 106), none, none, some (.iload_n 1), some (.iaload), some (.aload_n 0), some (.getfield 69), none, none, some (.iload_n 1), some (.iaload), some (.if_icmp .ge 44), none, none, some (.aload_n 0), some (.getfield 97), none, none, some (.iconst 4), some (.iload_n 1), some (.imul), some (.aload_n 0), some (.getfield 106), none, none, some (.iload_n 1), some (.iaload), some (.iadd), some (.iload_n 3), some (.iload 4), none, some (.iadd), some (.aload_n 0), some (.getfield 22), none, none, some (.iload_n 2), some (.iaload), some (.iadd), some (.aload_n 0), some (.getfield 7), none, none, some (.aload_n 0), some (.getfield 19), none, none, some (.iload_n 2), some (.iaload), some (.iaload), some (.iadd), some (.iastore), some (.goto 20), none, none, some (.aload_n 0), some (.getfield 103), none, none, some (.iload_n 1), some (.iload_n 3), some (.iload 4), none, some (.iadd), some (.aload_n 0), some (.getfield 22), none, none, some (.iload_n 2), some (.iaload), some (.iadd), some (.iastore), some (.return_)]
def ai_t157 : List (Option Instr) := [some (.iload_n 0), some (.sipush 3000), none, none, some (.if_icmp .ge 7), none, none, some (.iload_n 0), some (.goto 5), none, none, some (.bipush (-3)), none, some (.ireturn)]
def ai_t158 : List (Option Instr) := [some (.iload_n 1), some (.ifCond .lt 11), none, none, some (.iload_n 1), some (.aload_n 0), some (.getfield 128), none, none, some (.if_icmp .lt 5), none, none, some (.iconst (-1)), some (.ireturn), some (.aload_n 0), some (.getfield 69), none, none, some (.iload_n 1), some (.iaload), some (.istore_n 3), some (.iload_n 2), some (.ifCond .ne 5), none, none, some (.iload_n 3), some (.ireturn), some (.iload_n 2), some (.bipush 10), none, some (.if_icmp .lt 25), none, none, some (.iload_n 2), some (.bipush 10), none, some (.iload_n 3), some (.iadd), some (.if_icmp .ge 17), none, none, some (.aload_n 0), some (.getfield 72), none, none, some (.iconst 4), some (.iload_n 1), some (.imul), some (.iload_n 2), some (.iadd), some (.bipush 10), none, some (.isub), some (.iaload), some (.ireturn), some (.aload_n 0), some (.invokevirtual 227), none, none, some (.iload_n 2), some (.iconst 1), some (.if_icmp .ne 13), none, none, some (.aload_n 0), some (.getfield 103), none, none, some (.iload_n 1), some (.iaload), some (.invokestatic 230), none, none, some (.ireturn), some (.iload_n 2), some (.bipush 20), none, some (.if_icmp .lt 28), none, none, some (.iload_n 2), some (.bipush 20), none, some (.iload_n 3), some (.iadd), some (.if_icmp .ge 20), none, none, some (.aload_n 0), some (.getfield 100), none, none, some (.iconst 4), some (.iload_n 1), some (.imul), some (.iload_n 2), some (.iadd), some (.bipush 20), none, some (.isub), some (.iaload), some (.invokestatic 230), none, none, some (.ireturn), some (.iload_n 2), some (.bipush 30), none, some (.if_icmp .lt 30), none, none, some (.iload_n 2), some (.bipush 30), none, some (.iload_n 3), some (.iadd), some (.if_icmp .ge 22), none, none, some (.aload_n 0), some (.getfield 97), none, none, some (.iconst 4), some (.iload_n 1), some (.imul), some (.iload_n 2), some (.iadd), some (.bipush 30), none, some (.isub), some (.iaload), some (.invokestatic 230), none, none, some (.goto 4), none, none, some (.iconst (-1)), some (.ireturn)]
def ai_t159 : List (Option Instr) := [some (.aload_n 0), some (.iload_n 1), some (.invokevirtual 205), none, none, some (.ifCond .ne 5), none, none, some (.iconst (-1)), some (.ireturn), some (.aload_n 0), some (.invokevirtual 227), none, none, some (.aload_n 0), some (.getfield 112), none, none, some (.iload_n 1), some (.iaload), some (.ireturn)]
def ai_t160 : List (Option Instr) := [some (.iconst 0), some (.istore_n 2), some (.iload_n 1), some (.tableswitch 152 0 7 #[45, 50, 55, 60, 65, 70, 105, 110]), none, none, none, none, none, none, none, none, none, none, none, none, none, none, none, none, none, none, none, none, none, none, none, none, none, none, none, none, none, none, none, none, none, none, none, none, none, none, none, none, none, none, none, none, some (.aload_n 0), some (.getfield 115), none, none, some (.ireturn), some (.aload_n 0), some (.getfield 118), none, none, some (.ireturn), some (.aload_n 0), some (.getfield 28), none, none, some (.ireturn), some (.aload_n 0), some (.getfield 131), none, none, some (.ireturn), some (.aload_n 0), some (.getfield 125), none, none, some (.ireturn), some (.iconst 0), some (.istore_n 3), some (.iload_n 3), some (.aload_n 0), some (.getfield 125), none, none, some (.if_icmp .ge 26), none, none, some (.aload_n 0), some (.getfield 50), none, none, some (.iload_n 3), some (.baload), some (.ifCond .eq 9), none, none, some (.iload_n 2), some (.iconst 1), some (.iadd), some (.goto 4), none, none, some (.iload_n 2), some (.istore_n 2), some (.iinc 3 1), none, none, some (.goto (-28)), none, none, some (.iload_n 2), some (.ireturn), some (.aload_n 0), some (.getfield 128), none, none, some (.ireturn), some (.aload_n 0), some (.invokevirtual 227), none, none, some (.iconst 0), some (.istore_n 3), some (.iload_n 3), some (.aload_n 0), some (.getfield 128), none, none, some (.if_icmp .ge 29), none, none, some (.aload_n 0), some (.getfield 103), none, none, some (.iload_n 3), some (.iaload), some (.sipush 3000), none, none, some (.if_icmp .ge 9), none, none, some (.iload_n 2), some (.iconst 1), some (.iadd), some (.goto 4), none, none, some (.iload_n 2), some (.istore_n 2), some (.iinc 3 1), none, none, some (.goto (-31)), none, none, some (.iload_n 2), some (.ireturn), some (.iconst (-1)), some (.ireturn)]
def ai_t161 : List (Option Instr) := [some (.iload_n 0), some (.iload_n 0), some (.iconst 1), some (.iushr), some (.ldc_w 265), none, none, some (.iand), some (.isub), some (.istore_n 0), some (.iload_n 0), some (.ldc_w 266), none, none, some (.iand), some (.iload_n 0), some (.iconst 2), some (.iushr), some (.ldc_w 266), none, none, some (.iand), some (.iadd), some (.istore_n 0), some (.iload_n 0), some (.iload_n 0), some (.iconst 4), some (.iushr), some (.iadd), some (.ldc_w 267), none, none, some (.iand), some (.istore_n 0), some (.iload_n 0), some (.iload_n 0), some (.bipush 8), none, some (.iushr), some (.iadd), some (.istore_n 0), some (.iload_n 0), some (.iload_n 0), some (.bipush 16), none, some (.iushr), some (.iadd), some (.istore_n 0), some (.iload_n 0), some (.bipush 63), none, some (.iand), some (.ireturn)]
def ai_t162 : List (Option Instr) := [some (.iload_n 0), some (.iload_n 1), some (.irem), some (.istore_n 2), some (.iload_n 0), some (.iload_n 1), some (.ixor), some (.ifCond .ge 11), none, none, some (.iload_n 2), some (.ifCond .eq 7), none, none, some (.iload_n 2), some (.iload_n 1), some (.iadd), some (.ireturn), some (.iload_n 2), some (.ireturn)]
def ai_t163 : List (Option Instr) := [some (.iload_n 0), some (.iload_n 1), some (.if_icmp .lt 7), none, none, some (.iload_n 0), some (.goto 4), none, none, some (.iload_n 1), some (.ireturn)]
def ai_t164 : List (Option Instr) := [some (.iload_n 0), some (.iload_n 1), some (.if_icmp .gt 7), none, none, some (.iload_n 0), some (.goto 4), none, none, some (.iload_n 1), some (.ireturn)]
def ai_t165 : List (Option Instr) := [some (.new 7), none, none, some (.dup), some (.invokespecial 9), none, none, some (.astore_n 1), some (.new 10), none, none, some (.dup), some (.invokespecial 12), none, none, some (.astore_n 2), some (.iconst 0), some (.istore_n 3), some (.iload_n 3), some (.aload_n 0), some (.arraylength), some (.bipush 6), none, some (.isub), some (.if_icmp .gt 834), none, none, some (.aload_n 0), some (.iload_n 3), some (.iaload), some (.bipush 31), none, some (.iand), some (.tableswitch 819 0 21 #[103, 126, 179, 202, 225, 288, 351, 374, 387, 400, 413, 446, 459, 492, 535, 568, 601, 654, 697, 740, 773, 796]), none, none, none, none, none, none, none, none, none, none, none, none, none, none, none, none, none, none, none, none, none, none, none, none, none, none, none, none, none, none, none, none, none, none, none, none, none, none, none, none, none, none, none, none, none, none, none, none, none, none, none, none, none, none, none, none, none, none, none, none, none, none, none, none, none, none, none, none, none, none, none, none, none, none, none, none, none, none, none, none, none, none, none, none, none, none, none, none, none, none, none, none, none, none, none, none, none, none, none, none, none, none, some (.aload_n 1), some (.aload_n 0), some (.iload_n 3), some (.iconst 1), some (.iadd), some (.iaload), some (.invokevirtual 13), none, none, some (.aload_n 2), some (.aload_n 0), some (.iload_n 3), some (.iconst 1), some (.iadd), some (.iaload), some (.invokevirtual 17), none, none, some (.if_icmp .eq 698), none, none, some (.iconst 0), some (.ireturn), some (.aload_n 1), some (.aload_n 0), some (.iload_n 3), some (.iconst 1), some (.iadd), some (.iaload), some (.aload_n 0), some (.iload_n 3), some (.iconst 2), some (.iadd), some (.iaload), some (.aload_n 0), some (.iload_n 3), some (.iconst 3), some (.iadd), some (.iaload), some (.aload_n 0), some (.iload_n 3), some (.iconst 4), some (.iadd), some (.iaload), some (.invokevirtual 18), none, none, some (.aload_n 2), some (.aload_n 0), some (.iload_n 3), some (.iconst 1), some (.iadd), some (.iaload), some (.aload_n 0), some (.iload_n 3), some (.iconst 2), some (.iadd), some (.iaload), some (.aload_n 0), some (.iload_n 3), some (.iconst 3), some (.iadd), some (.iaload), some (.aload_n 0), some (.iload_n 3), some (.iconst 4), some (.iadd), some (.iaload), some (.invokevirtual 22), none, none, some (.if_icmp .eq 645), none, none, some (.iconst 0), some (.ireturn), some (.aload_n 1), some (.aload_n 0), some (.iload_n 3), some (.iconst 1), some (.iadd), some (.iaload), some (.invokevirtual 23), none, none, some (.aload_n 2), some (.aload_n 0), some (.iload_n 3), some (.iconst 1), some (.iadd), some (.iaload), some (.invokevirtual 27), none, none, some (.if_icmp .eq 622), none, none, some (.iconst 0), some (.ireturn), some (.aload_n 1), some (.aload_n 0), some (.iload_n 3), some (.iconst 1), some (.iadd), some (.iaload), some (.invokevirtual 28), none, none, some (.aload_n 2), some (.aload_n 0), some (.iload_n 3), some (.iconst 1), some (.iadd), some (.iaload), some (.invokevirtual 31), none, none, some (.if_icmp .eq 599), none, none, some (.iconst 0), some (.ireturn), some (.aload_n 1), some (.aload_n 0), some (.iload_n 3), some (.iconst 1), some (.iadd), some (.iaload), some (.aload_n 0), some (.iload_n 3), some (.iconst 2), some (.iadd), some (.iaload), some (.aload_n 0), some (.iload_n 3), some (.iconst 3), some (.iadd), some (.iaload), some (.aload_n 0), some (.iload_n 3), some (.iconst 4), some (.iadd), some (.iaload), some (.aload_n 0), some (.iload_n 3), some (.iconst 5), some (.iadd), some (.iaload), some (.invokevirtual 32), none, none, some (.aload_n 2), some (.aload_n 0), some (.iload_n 3), some (.iconst 1), some (.iadd), some (.iaload), some (.aload_n 0), some (.iload_n 3), some (.iconst 2), some (.iadd), some (.iaload), some (.aload_n 0), some (.iload_n 3), some (.iconst 3), some (.iadd), some (.iaload), some (.aload_n 0), some (.iload_n 3), some (.iconst 4), some (.iadd), some (.iaload), some (.aload_n 0), some (.iload_n 3), some (.iconst 5), some (.iadd), some (.iaload), some (.invokevirtual 36), none, none, some (.if_icmp .eq 536), none, none, some (.iconst 0), some (.ireturn), some (.aload_n 1), some (.aload_n 0), some (.iload_n 3), some (.iconst 1), some (.iadd), some (.iaload), some (.aload_n 0), some (.iload_n 3), some (.iconst 2), some (.iadd), some (.iaload), some (.aload_n 0), some (.iload_n 3), some (.iconst 3), some (.iadd), some (.iaload), some (.aload_n 0), some (.iload_n 3), some (.iconst 4), some (.iadd), some (.iaload), some (.aload_n 0), some (.iload_n 3), some (.iconst 5), some (.iadd), some (.iaload), some (.invokevirtual 37), none, none, some (.aload_n 2), some (.aload_n 0), some (.iload_n 3), some (.iconst 1), some (.iadd), some (.iaload), some (.aload_n 0), some (.iload_n 3), some (.iconst 2), some (.iadd), some (.iaload), some (.aload_n 0), some (.iload_n 3), some (.iconst 3), some (.iadd), some (.iaload), some (.aload_n 0), some (.iload_n 3), some (.iconst 4), some (.iadd), some (.iaload), some (.aload_n 0), some (.iload_n 3), some (.iconst 5), some (.iadd), some (.iaload), some (.invokevirtual 40), none, none, some (.if_icmp .eq 473), none, none, some (.iconst 0), some (.ireturn), some (.aload_n 1), some (.aload_n 0), some (.iload_n 3), some (.iconst 1), some (.iadd), some (.iaload), some (.invokevirtual 41), none, none, some (.aload_n 2), some (.aload_n 0), some (.iload_n 3), some (.iconst 1), some (.iadd), some (.iaload), some (.invokevirtual 44), none, none, some (.if_icmp .eq 450), none, none, some (.iconst 0), some (.ireturn), some (.aload_n 1), some (.invokevirtual 45), none, none, some (.aload_n 2), some (.invokevirtual 49), none, none, some (.if_icmp .eq 437), none, none, some (.iconst 0), some (.ireturn), some (.aload_n 1), some (.invokevirtual 50), none, none, some (.aload_n 2), some (.invokevirtual 53), none, none, some (.if_icmp .eq 424), none, none, some (.iconst 0), some (.ireturn), some (.aload_n 1), some (.invokevirtual 54), none, none, some (.aload_n 2), some (.invokevirtual 57), none, none, some (.if_icmp .eq 411), none, none, some (.iconst 0), some (.ireturn), some (.aload_n 1), some (.aload_n 0), some (.iload_n 3), some (.iconst 1), some (.iadd), some (.iaload), some (.aload_n 0), some (.iload_n 3), some (.iconst 2), some (.iadd), some (.iaload), some (.invokevirtual 58), none, none, some (.aload_n 2), some (.aload_n 0), some (.iload_n 3), some (.iconst 1), some (.iadd), some (.iaload), some (.aload_n 0), some (.iload_n 3), some (.iconst 2), some (.iadd), some (.iaload), some (.invokevirtual 62), none, none, some (.if_icmp .eq 378), none, none, some (.iconst 0), some (.ireturn), some (.aload_n 1), some (.invokevirtual 63), none, none, some (.aload_n 2), some (.invokevirtual 66), none, none, some (.if_icmp .eq 365), none, none, some (.iconst 0), some (.ireturn), some (.aload_n 1), some (.aload_n 0), some (.iload_n 3), some (.iconst 1), some (.iadd), some (.iaload), some (.aload_n 0), some (.iload_n 3), some (.iconst 2), some (.iadd), some (.iaload), some (.invokevirtual 67), none, none, some (.aload_n 2), some (.aload_n 0), some (.iload_n 3), some (.iconst 1), some (.iadd), some (.iaload), some (.aload_n 0), some (.iload_n 3), some (.iconst 2), some (.iadd), some (.iaload), some (.invokevirtual 70), none, none, some (.if_icmp .eq 332), none, none, some (.iconst 0), some (.ireturn), some (.aload_n 1), some (.aload_n 0), some (.iload_n 3), some (.iconst 1), some (.iadd), some (.iaload), some (.aload_n 0), some (.iload_n 3), some (.iconst 2), some (.iadd), some (.iaload), some (.aload_n 0), some (.iload_n 3), some (.iconst 3), some (.iadd), some (.iaload), some (.invokevirtual 71), none, none, some (.aload_n 2), some (.aload_n 0), some (.iload_n 3), some (.iconst 1), some (.iadd), some (.iaload), some (.aload_n 0), some (.iload_n 3), some (.iconst 2), some (.iadd), some (.iaload), some (.aload_n 0), some (.iload_n 3), some (.iconst 3), some (.iadd), some (.iaload), some (.invokevirtual 75), none, none, some (.if_icmp .eq 289), none, none, some (.iconst 0), some (.ireturn), some (.aload_n 1), some (.aload_n 0), some (.iload_n 3), some (.iconst 1), some (.iadd), some (.iaload), some (.aload_n 0), some (.iload_n 3), some (.iconst 2), some (.iadd), some (.iaload), some (.invokevirtual 76), none, none, some (.aload_n 2), some (.aload_n 0), some (.iload_n 3), some (.iconst 1), some (.iadd), some (.iaload), some (.aload_n 0), some (.iload_n 3), some (.iconst 2), some (.iadd), some (.iaload), some (.invokevirtual 79), none, none, some (.if_icmp .eq 256), none, none, some (.iconst 0), some (.ireturn), some (.aload_n 1), some (.aload_n 0), some (.iload_n 3), some (.iconst 1), some (.iadd), some (.iaload), some (.aload_n 0), some (.iload_n 3), some (.iconst 2), some (.iadd), some (.iaload), some (.invokevirtual 80), none, none, some (.aload_n 2), some (.aload_n 0), some (.iload_n 3), some (.iconst 1), some (.iadd), some (.iaload), some (.aload_n 0), some (.iload_n 3), some (.iconst 2), some (.iadd), some (.iaload), some (.invokevirtual 84), none, none, some (.if_icmp .eq 223), none, none, some (.iconst 0), some (.ireturn), some (.aload_n 1), some (.aload_n 0), some (.iload_n 3), some (.iconst 1), some (.iadd), some (.iaload), some (.aload_n 0), some (.iload_n 3), some (.iconst 2), some (.iadd), some (.iaload), some (.aload_n 0), some (.iload_n 3), some (.iconst 3), some (.iadd), some (.iaload), some (.aload_n 0), some (.iload_n 3), some (.iconst 4), some (.iadd), some (.iaload), some (.invokevirtual 85), none, none, some (.aload_n 2), some (.aload_n 0), some (.iload_n 3), some (.iconst 1), some (.iadd), some (.iaload), some (.aload_n 0), some (.iload_n 3), some (.iconst 2), some (.iadd), some (.iaload), some (.aload_n 0), some (.iload_n 3), some (.iconst 3), some (.iadd), some (.iaload), some (.aload_n 0), some (.iload_n 3), some (.iconst 4), some (.iadd), some (.iaload), some (.invokevirtual 88), none, none, some (.if_icmp .eq 170), none, none, some (.iconst 0), some (.ireturn), some (.aload_n 1), some (.aload_n 0), some (.iload_n 3), some (.iconst 1), some (.iadd), some (.iaload), some (.aload_n 0), some (.iload_n 3), some (.iconst 2), some (.iadd), some (.iaload), some (.aload_n 0), some (.iload_n 3), some (.iconst 3), some (.iadd), some (.iaload), some (.invokevirtual 89), none, none, some (.aload_n 2), some (.aload_n 0), some (.iload_n 3), some (.iconst 1), some (.iadd), some (.iaload), some (.aload_n 0), some (.iload_n 3), some (.iconst 2), some (.iadd), some (.iaload), some (.aload_n 0), some (.iload_n 3), some (.iconst 3), some (.iadd), some (.iaload), some (.invokevirtual 92), none, none, some (.if_icmp .eq 127), none, none, some (.iconst 0), some (.ireturn), some (.aload_n 1), some (.aload_n 0), some (.iload_n 3), some (.iconst 1), some (.iadd), some (.iaload), some (.aload_n 0), some (.iload_n 3), some (.iconst 2), some (.iadd), some (.iaload), some (.aload_n 0), some (.iload_n 3), some (.iconst 3), some (.iadd), some (.iaload), some (.invokevirtual 93), none, none, some (.aload_n 2), some (.aload_n 0), some (.iload_n 3), some (.iconst 1), some (.iadd), some (.iaload), some (.aload_n 0), some (.iload_n 3), some (.iconst 2), some (.iadd), some (.iaload), some (.aload_n 0), some (.iload_n 3), some (.iconst 3), some (.iadd), some (.iaload), some (.invokevirtual 96), none, none, some (.if_icmp .eq 84), none, none, some (.iconst 0), some (.ireturn), some (.aload_n 1), some (.aload_n 0), some (.iload_n 3), some (.iconst 1), some (.iadd), some (.iaload), some (.aload_n 0), some (.iload_n 3), some (.iconst 2), some (.iadd), some (.iaload), some (.invokevirtual 97), none, none, some (.aload_n 2), some (.aload_n 0), some (.iload_n 3), some (.iconst 1), some (.iadd), some (.iaload), some (.aload_n 0), some (.iload_n 3), some (.iconst 2), some (.iadd), some (.iaload), some (.invokevirtual 100), none, none, some (.if_icmp .eq 51), none, none, some (.iconst 0), some (.ireturn), some (.aload_n 1), some (.aload_n 0), some (.iload_n 3), some (.iconst 1), some (.iadd), some (.iaload), some (.invokevirtual 101), none, none, some (.aload_n 2), some (.aload_n 0), some (.iload_n 3), some (.iconst 1), some (.iadd), some (.iaload), some (.invokevirtual 104), none, none, some (.if_icmp .eq 28), none, none, some (.iconst 0), some (.ireturn), some (.aload_n 1), some (.aload_n 0), some (.iload_n 3), some (.iconst 1), some (.iadd), some (.iaload), some (.invokevirtual 105), none, none, some (.aload_n 2), some (.aload_n 0), some (.iload_n 3), some (.iconst 1), some (.iadd), some (.iaload), some (.invokevirtual 108), none, none, some (.if_icmp .eq 5), none, none, some (.iconst 0), some (.ireturn), some (.iinc 3 6), none, none, some (.goto (-837)), none, none, some (.iconst 1), some (.ireturn)]
def ai_T : List (List (Option Instr)) := [ai_t0, ai_t1, ai_t2, ai_t3, ai_t4, ai_t5, ai_t6, ai_t7, ai_t8, ai_t9, ai_t10, ai_t11, ai_t12, ai_t13, ai_t14, ai_t15, ai_t16, ai_t17, ai_t18, ai_t19, ai_t20, ai_t21, ai_t22, ai_t23, ai_t24, ai_t25, ai_t26, ai_t27, ai_t28, ai_t29, ai_t30, ai_t31, ai_t32, ai_t33, ai_t34, ai_t35, ai_t36, ai_t37, ai_t38, ai_t39, ai_t40, ai_t41, ai_t42, ai_t43, ai_t44, ai_t45, ai_t46, ai_t47, ai_t48, ai_t49, ai_t50, ai_t51, ai_t52, ai_t53, ai_t54, ai_t55, ai_t56, ai_t57, ai_t58, ai_t59, ai_t60, ai_t61, ai_t62, ai_t63, ai_t64, ai_t65, ai_t66, ai_t67, ai_t68, ai_t69, ai_t70, ai_t71, ai_t72, ai_t73, ai_t74, ai_t75, ai_t76, ai_t77, ai_t78, ai_t79, ai_t80, ai_t81, ai_t82, ai_t83, ai_t84, ai_t85, ai_t86, ai_t87, ai_t88, ai_t89, ai_t90, ai_t91, ai_t92, ai_t93, ai_t94, ai_t95, ai_t96, ai_t97, ai_t98, ai_t99, ai_t100, ai_t101, ai_t102, ai_t103, ai_t104, ai_t105, ai_t106, ai_t107, ai_t108, ai_t109, ai_t110, ai_t111, ai_t112, ai_t113, ai_t114, ai_t115, ai_t116, ai_t117, ai_t118, ai_t119, ai_t120, ai_t121, ai_t122, ai_t123, ai_t124, ai_t125, ai_t126, ai_t127, ai_t128, ai_t129, ai_t130, ai_t131, ai_t132, ai_t133, ai_t134, ai_t135, ai_t136, ai_t137, ai_t138, ai_t139, ai_t140, ai_t141, ai_t142, ai_t143, ai_t144, ai_t145, ai_t146, ai_t147, ai_t148, ai_t149, ai_t150, ai_t151, ai_t152, ai_t153, ai_t154, ai_t155, ai_t156, ai_t157, ai_t158, ai_t159, ai_t160, ai_t161, ai_t162, ai_t163, ai_t164, ai_t165]
end
section
def ai_len : Instr → Nat
  | .aload _ => 2
  | .iload _ => 2
  | .lload _ => 2
  | .istore _ => 2
  | .astore _ => 2
  | .lstore _ => 2
  | .bipush _ => 2
  | .ldc _ => 2
  | .newarray _ => 2
  | .getfield _ => 3
  | .putfield _ => 3
  | .getstatic _ => 3
  | .invokevirtual _ => 3
  | .invokestatic _ => 3
  | .invokespecial _ => 3
  | .if_icmp _ _ => 3
  | .ifCond _ _ => 3
  | .goto _ => 3
  | .ifnull _ => 3
  | .ifnonnull _ => 3
  | .iinc _ _ => 3
  | .sipush _ => 3
  | .new _ => 3
  | .anewarray _ => 3
  | .ldc_w _ => 3
  | .ldc2_w _ => 3
  | _ => 1
def ai_sw : Instr → Bool
  | .tableswitch _ _ _ _ => true
  | _ => false
def ai_cf (c : ByteArray) (T : List (Option Instr)) (pc : Nat) : Bool := match T[pc]? with
  | some (some i) => (match decode c pc with
    | .ok (j, len) => decide (j = i) && (ai_sw i || len == ai_len i)
    | .error _ => false)
  | _ => true
def ai_chk (c : ByteArray) (T : List (Option Instr)) : Bool := (List.range T.length).all (ai_cf c T)
def ai_chr (c : ByteArray) (T : List (Option Instr)) (lo n : Nat) : Bool := (List.range' lo n).all (ai_cf c T)
theorem ai_chr_s {c : ByteArray} {T : List (Option Instr)} {lo n : Nat} (h : ai_chr c T lo n = true) {pc : Nat} (h1 : lo ≤ pc) (h2 : pc < lo + n) : ai_cf c T pc = true := List.all_eq_true.mp h pc (List.mem_range'_1.mpr ⟨h1, h2⟩)
theorem ai_chk_s {c : ByteArray} {T : List (Option Instr)} (h : ai_chk c T = true) {pc : Nat} {i : Instr} (e : T[pc]? = some (some i)) : ∃ len, decode c pc = .ok (i, len) ∧ (ai_sw i = true ∨ len = ai_len i) := by
  have hl : pc < T.length := (List.getElem?_eq_some_iff.mp e).1
  have h1 := List.all_eq_true.mp h pc (List.mem_range.mpr hl)
  unfold ai_cf at h1
  rw [e] at h1
  dsimp only at h1
  split at h1
  next j len hd =>
    simp only [Bool.and_eq_true, decide_eq_true_eq, Bool.or_eq_true, beq_iff_eq] at h1
    obtain ⟨rfl, h2⟩ := h1
    exact ⟨len, hd, h2⟩
  next => cases h1
end
section
set_option maxRecDepth 100000 in
theorem ai_k0 : ai_chk cX0_init ai_t0 = true := by decide +kernel
set_option maxRecDepth 100000 in
theorem ai_k1 : ai_chk cX0_clear ai_t1 = true := by decide +kernel
set_option maxRecDepth 100000 in
theorem ai_k2 : ai_chk cX0_hand ai_t2 = true := by decide +kernel
set_option maxRecDepth 100000 in
theorem ai_k3 : ai_chk cX0_findMeetings ai_t3 = true := by decide +kernel
set_option maxRecDepth 100000 in
theorem ai_k4 : ai_chk cX0_waitFrom ai_t4 = true := by decide +kernel
set_option maxRecDepth 100000 in
theorem ai_k5 : ai_chk cX1_init ai_t5 = true := by decide +kernel
set_option maxRecDepth 100000 in
theorem ai_k6 : ai_chk cX1_setOut ai_t6 = true := by decide +kernel
set_option maxRecDepth 100000 in
theorem ai_k7 : ai_chk cX1_nextWire ai_t7 = true := by decide +kernel
set_option maxRecDepth 100000 in
theorem ai_k8 : ai_chk cX1_readyAt ai_t8 = true := by decide +kernel
set_option maxRecDepth 100000 in
theorem ai_k9 : ai_chk cX1_goesAheadOf ai_t9 = true := by decide +kernel
set_option maxRecDepth 100000 in
theorem ai_k10 : ai_chk cX1_readyFor ai_t10 = true := by decide +kernel
set_option maxRecDepth 100000 in
theorem ai_k11 : ai_chk cX1_waitsFor ai_t11 = true := by decide +kernel
set_option maxRecDepth 100000 in
theorem ai_k12 : ai_chk cX2_init ai_t12 = true := by decide +kernel
set_option maxRecDepth 100000 in
theorem ai_k13 : ai_chk cX2_hasBox ai_t13 = true := by decide +kernel
set_option maxRecDepth 100000 in
theorem ai_k14 : ai_chk cX2_hasPair ai_t14 = true := by decide +kernel
set_option maxRecDepth 100000 in
theorem ai_k15 : ai_chk cX2_hasWire ai_t15 = true := by decide +kernel
set_option maxRecDepth 100000 in
theorem ai_k16 : ai_chk cX2_hasTick ai_t16 = true := by decide +kernel
set_option maxRecDepth 100000 in
theorem ai_k17 : ai_chk cX2_makeBox ai_t17 = true := by decide +kernel
set_option maxRecDepth 100000 in
theorem ai_k18 : ai_chk cX2_makeWire ai_t18 = true := by decide +kernel
set_option maxRecDepth 100000 in
theorem ai_k19 : ai_chk cX2_rightClocks ai_t19 = true := by decide +kernel
set_option maxRecDepth 100000 in
theorem ai_k20 : ai_chk cX2_timeOn ai_t20 = true := by decide +kernel
set_option maxRecDepth 100000 in
theorem ai_k21 : ai_chk cX2_crossing ai_t21 = true := by decide +kernel
set_option maxRecDepth 100000 in
theorem ai_k22 : ai_chk cX2_holdBehind ai_t22 = true := by decide +kernel
set_option maxRecDepth 100000 in
theorem ai_k23 : ai_chk cX2_stayBehind ai_t23 = true := by decide +kernel
set_option maxRecDepth 100000 in
theorem ai_k24 : ai_chk cX2_offAt ai_t24 = true := by decide +kernel
end
section
set_option maxRecDepth 100000 in
theorem ai_k25 : ai_chk cX2_startOf ai_t25 = true := by decide +kernel
set_option maxRecDepth 100000 in
theorem ai_k26 : ai_chk cX2_beginOf ai_t26 = true := by decide +kernel
set_option maxRecDepth 100000 in
theorem ai_k27 : ai_chk cX2_hasDoor ai_t27 = true := by decide +kernel
set_option maxRecDepth 100000 in
theorem ai_k28 : ai_chk cX3_init ai_t28 = true := by decide +kernel
set_option maxRecDepth 100000 in
theorem ai_k29 : ai_chk cX3_begin ai_t29 = true := by decide +kernel
set_option maxRecDepth 100000 in
theorem ai_k30 : ai_chk cX3_fitFewest ai_t30 = true := by decide +kernel
set_option maxRecDepth 100000 in
theorem ai_k31 : ai_chk cX3_mirrored ai_t31 = true := by decide +kernel
set_option maxRecDepth 100000 in
theorem ai_k32 : ai_chk cX3_fit ai_t32 = true := by decide +kernel
set_option maxRecDepth 100000 in
theorem ai_k33 : ai_chk cX3_showDoors ai_t33 = true := by decide +kernel
set_option maxRecDepth 100000 in
theorem ai_k34 : ai_chk cX3_giveDoors ai_t34 = true := by decide +kernel
set_option maxRecDepth 100000 in
theorem ai_k35 : ai_chk cX3_keepPlaces ai_t35 = true := by decide +kernel
set_option maxRecDepth 100000 in
theorem ai_k36 : ai_chk cX3_search ai_t36 = true := by decide +kernel
set_option maxRecDepth 100000 in
theorem ai_k37 : ai_chk cX3_searchTicks ai_t37 = true := by decide +kernel
set_option maxRecDepth 100000 in
theorem ai_k38 : ai_chk cX4_init ai_t38 = true := by decide +kernel
set_option maxRecDepth 100000 in
theorem ai_k39 : ai_chk cX4_tell ai_t39 = true := by decide +kernel
set_option maxRecDepth 100000 in
theorem ai_k40 : ai_chk cX4_letter ai_t40 = true := by decide +kernel
set_option maxRecDepth 100000 in
theorem ai_k41 : ai_chk cX4_settle ai_t41 = true := by decide +kernel
set_option maxRecDepth 100000 in
theorem ai_k42 : ai_chk cX4_setOutAll ai_t42 = true := by decide +kernel
set_option maxRecDepth 100000 in
theorem ai_k43 : ai_chk cX4_findHead ai_t43 = true := by decide +kernel
end
section
set_option maxRecDepth 100000 in
theorem ai_k44 : ai_chk cX4_beginOf ai_t44 = true := by decide +kernel
set_option maxRecDepth 100000 in
theorem ai_k45 : ai_chk cX4_earliestWire ai_t45 = true := by decide +kernel
set_option maxRecDepth 100000 in
theorem ai_k46 : ai_chk cX4_beginOn ai_t46 = true := by decide +kernel
set_option maxRecDepth 100000 in
theorem ai_k47 : ai_chk cX4_longestRow ai_t47 = true := by decide +kernel
set_option maxRecDepth 100000 in
theorem ai_k48 : ai_chk cX4_waitingAt ai_t48 = true := by decide +kernel
set_option maxRecDepth 100000 in
theorem ai_k49 : ai_chk cX4_ended ai_t49 = true := by decide +kernel
set_option maxRecDepth 100000 in
theorem ai_k50 : ai_chk cX5_init ai_t50 = true := by decide +kernel
set_option maxRecDepth 100000 in
theorem ai_k51 : ai_chk cX5_clear ai_t51 = true := by decide +kernel
set_option maxRecDepth 100000 in
theorem ai_k52 : ai_chk cX5_fill ai_t52 = true := by decide +kernel
set_option maxRecDepth 100000 in
theorem ai_k53 : ai_chk cX5_has ai_t53 = true := by decide +kernel
set_option maxRecDepth 100000 in
theorem ai_k54 : ai_chk cX5_include ai_t54 = true := by decide +kernel
set_option maxRecDepth 100000 in
theorem ai_k55 : ai_chk cX5_exclude ai_t55 = true := by decide +kernel
set_option maxRecDepth 100000 in
theorem ai_k56 : ai_chk cX5_includePutOff ai_t56 = true := by decide +kernel
set_option maxRecDepth 100000 in
theorem ai_k57 : ai_chk cX5_becomeLetters ai_t57 = true := by decide +kernel
set_option maxRecDepth 100000 in
theorem ai_k58 : ai_chk cX5_lettersOf ai_t58 = true := by decide +kernel
set_option maxRecDepth 100000 in
theorem ai_k59 : ai_chk cX5_includeTurned ai_t59 = true := by decide +kernel
set_option maxRecDepth 100000 in
theorem ai_k60 : ai_chk cX6_init ai_t60 = true := by decide +kernel
set_option maxRecDepth 100000 in
theorem ai_k61 : ai_chk cX6_offer ai_t61 = true := by decide +kernel
set_option maxRecDepth 100000 in
theorem ai_k62 : ai_chk cX6_wayOf ai_t62 = true := by decide +kernel
set_option maxRecDepth 100000 in
theorem ai_k63 : ai_chk cX6_wayNow ai_t63 = true := by decide +kernel
set_option maxRecDepth 100000 in
theorem ai_k64 : ai_chk cX7_init ai_t64 = true := by decide +kernel
set_option maxRecDepth 100000 in
theorem ai_k65 : ai_chk cX7_tell ai_t65 = true := by decide +kernel
set_option maxRecDepth 100000 in
theorem ai_k66 : ai_chk cX7_one ai_t66 = true := by decide +kernel
set_option maxRecDepth 100000 in
theorem ai_k67 : ai_chk cX7_placedOne ai_t67 = true := by decide +kernel
set_option maxRecDepth 100000 in
theorem ai_k68 : ai_chk cX7_allOfThem ai_t68 = true := by decide +kernel
set_option maxRecDepth 100000 in
theorem ai_k69 : ai_chk cX7_withPlace ai_t69 = true := by decide +kernel
set_option maxRecDepth 100000 in
theorem ai_k70 : ai_chk cX7_withoutPlace ai_t70 = true := by decide +kernel
set_option maxRecDepth 100000 in
theorem ai_k71 : ai_chk cX8_init ai_t71 = true := by decide +kernel
end
section
set_option maxRecDepth 100000 in
theorem ai_k72 : ai_chk cX8_latenessOf ai_t72 = true := by decide +kernel
set_option maxRecDepth 100000 in
theorem ai_k73 : ai_chk cX8_wireAt ai_t73 = true := by decide +kernel
set_option maxRecDepth 100000 in
theorem ai_k74 : ai_chk cX8_wiresIn ai_t74 = true := by decide +kernel
set_option maxRecDepth 100000 in
theorem ai_k75 : ai_chk cX8_hasHop ai_t75 = true := by decide +kernel
set_option maxRecDepth 100000 in
theorem ai_k76 : ai_chk cX8_hopOn ai_t76 = true := by decide +kernel
set_option maxRecDepth 100000 in
theorem ai_k77 : ai_chk cX8_shiftOf ai_t77 = true := by decide +kernel
set_option maxRecDepth 100000 in
theorem ai_k78 : ai_chk cX8_atRank ai_t78 = true := by decide +kernel
set_option maxRecDepth 100000 in
theorem ai_k79 : ai_chk cX8_nextBehind ai_t79 = true := by decide +kernel
set_option maxRecDepth 100000 in
theorem ai_k80 : ai_chk cX8_walk ai_t80 = true := by decide +kernel
set_option maxRecDepth 100000 in
theorem ai_k81 : ai_chk cX8_offer ai_t81 = true := by decide +kernel
set_option maxRecDepth 100000 in
theorem ai_k82 : ai_chk cX9_init ai_t82 = true := by decide +kernel
set_option maxRecDepth 100000 in
theorem ai_k83 : ai_chk cX9_box ai_t83 = true := by decide +kernel
set_option maxRecDepth 100000 in
theorem ai_k84 : ai_chk cX9_wire ai_t84 = true := by decide +kernel
set_option maxRecDepth 100000 in
theorem ai_k85 : ai_chk cX9_cycle ai_t85 = true := by decide +kernel
set_option maxRecDepth 100000 in
theorem ai_k86 : ai_chk cX9_drift ai_t86 = true := by decide +kernel
set_option maxRecDepth 100000 in
theorem ai_k87 : ai_chk cX9_way ai_t87 = true := by decide +kernel
set_option maxRecDepth 100000 in
theorem ai_k88 : ai_chk cX9_stream ai_t88 = true := by decide +kernel
set_option maxRecDepth 100000 in
theorem ai_k89 : ai_chk cX9_strike ai_t89 = true := by decide +kernel
set_option maxRecDepth 100000 in
theorem ai_k90 : ai_chk cX9_plan ai_t90 = true := by decide +kernel
set_option maxRecDepth 100000 in
theorem ai_k91 : ai_chk cX9_add ai_t91 = true := by decide +kernel
set_option maxRecDepth 100000 in
theorem ai_k92 : ai_chk cX9_stir ai_t92 = true := by decide +kernel
set_option maxRecDepth 100000 in
theorem ai_k93 : ai_chk cX9_place ai_t93 = true := by decide +kernel
set_option maxRecDepth 100000 in
theorem ai_k94 : ai_chk cX9_tries ai_t94 = true := by decide +kernel
set_option maxRecDepth 100000 in
theorem ai_k95 : ai_chk cX9_door ai_t95 = true := by decide +kernel
set_option maxRecDepth 100000 in
theorem ai_k96 : ai_chk cX9_waits ai_t96 = true := by decide +kernel
end
section
set_option maxRecDepth 100000 in
theorem ai_k97 : ai_chk cX9_worst ai_t97 = true := by decide +kernel
set_option maxRecDepth 100000 in
theorem ai_k98 : ai_chk cX9_clock ai_t98 = true := by decide +kernel
set_option maxRecDepth 100000 in
theorem ai_k99 : ai_chk cX9_send ai_t99 = true := by decide +kernel
set_option maxRecDepth 100000 in
theorem ai_k100 : ai_chk cX9_leaves ai_t100 = true := by decide +kernel
set_option maxRecDepth 100000 in
theorem ai_k101 : ai_chk cX9_room ai_t101 = true := by decide +kernel
set_option maxRecDepth 100000 in
theorem ai_k102 : ai_chk cX9_plain ai_t102 = true := by decide +kernel
set_option maxRecDepth 100000 in
theorem ai_k103 : ai_chk cX9_most ai_t103 = true := by decide +kernel
set_option maxRecDepth 100000 in
theorem ai_k104 : ai_chk cX9_count ai_t104 = true := by decide +kernel
set_option maxRecDepth 100000 in
theorem ai_k105 : ai_chk cX9_findChoices ai_t105 = true := by decide +kernel
set_option maxRecDepth 100000 in
theorem ai_k106 : ai_chk cX9_isPeriod ai_t106 = true := by decide +kernel
set_option maxRecDepth 100000 in
theorem ai_k107 : ai_chk cX9_isInTime ai_t107 = true := by decide +kernel
set_option maxRecDepth 100000 in
theorem ai_k108 : ai_chk cX9_isCycle ai_t108 = true := by decide +kernel
set_option maxRecDepth 100000 in
theorem ai_k109 : ai_chk cX9_isSize ai_t109 = true := by decide +kernel
set_option maxRecDepth 100000 in
theorem ai_k110 : ai_chk cX9_within ai_t110 = true := by decide +kernel
set_option maxRecDepth 100000 in
theorem ai_k111 : ai_chk cX9_aheadOfEnd ai_t111 = true := by decide +kernel
set_option maxRecDepth 100000 in
theorem ai_k112 : ai_chk cX10_init ai_t112 = true := by decide +kernel
set_option maxRecDepth 100000 in
theorem ai_k113 : ai_chk cX10_isBox ai_t113 = true := by decide +kernel
set_option maxRecDepth 100000 in
theorem ai_k114 : ai_chk cX10_isWire ai_t114 = true := by decide +kernel
set_option maxRecDepth 100000 in
theorem ai_k115 : ai_chk cX10_box ai_t115 = true := by decide +kernel
end
section
set_option maxRecDepth 100000 in
theorem ai_k116 : ai_chk cX10_wire ai_t116 = true := by decide +kernel
set_option maxRecDepth 100000 in
theorem ai_k117 : ai_chk cX10_cycle ai_t117 = true := by decide +kernel
set_option maxRecDepth 100000 in
theorem ai_k118 : ai_chk cX10_drift ai_t118 = true := by decide +kernel
set_option maxRecDepth 100000 in
theorem ai_k119 : ai_chk cX10_late ai_t119 = true := by decide +kernel
set_option maxRecDepth 100000 in
theorem ai_k120 : ai_chk cX10_isSeen ai_t120 = true := by decide +kernel
set_option maxRecDepth 100000 in
theorem ai_k121 : ai_chk cX10_findWays ai_t121 = true := by decide +kernel
set_option maxRecDepth 100000 in
theorem ai_k122 : ai_chk cX10_keep ai_t122 = true := by decide +kernel
set_option maxRecDepth 100000 in
theorem ai_k123 : ai_chk cX10_isBehind ai_t123 = true := by decide +kernel
set_option maxRecDepth 100000 in
theorem ai_k124 : ai_chk cX10_isSize ai_t124 = true := by decide +kernel
set_option maxRecDepth 100000 in
theorem ai_k125 : ai_chk cX10_way ai_t125 = true := by decide +kernel
end
section
set_option maxRecDepth 100000 in
theorem ai_k126 : ai_chk cX10_stream ai_t126 = true := by decide +kernel
set_option maxRecDepth 100000 in
theorem ai_k127 : ai_chk cX10_strike ai_t127 = true := by decide +kernel
set_option maxRecDepth 100000 in
theorem ai_k128 : ai_chk cX10_start ai_t128 = true := by decide +kernel
set_option maxRecDepth 100000 in
theorem ai_k129 : ai_chk cX10_meets ai_t129 = true := by decide +kernel
set_option maxRecDepth 100000 in
theorem ai_k130 : ai_chk cX10_put ai_t130 = true := by decide +kernel
set_option maxRecDepth 100000 in
theorem ai_k131 : ai_chk cX10_lay ai_t131 = true := by decide +kernel
set_option maxRecDepth 100000 in
theorem ai_k132 : ai_chk cX10_seek ai_t132 = true := by decide +kernel
end
section
set_option maxRecDepth 100000 in
theorem ai_k133 : ai_chk cX10_seekWith ai_t133 = true := by decide +kernel
set_option maxRecDepth 100000 in
theorem ai_k134 : ai_chk cX10_plan ai_t134 = true := by decide +kernel
set_option maxRecDepth 100000 in
theorem ai_k135 : ai_chk cX10_add ai_t135 = true := by decide +kernel
set_option maxRecDepth 100000 in
theorem ai_k136 : ai_chk cX10_placed ai_t136 = true := by decide +kernel
set_option maxRecDepth 100000 in
theorem ai_k137 : ai_chk cX10_bits ai_t137 = true := by decide +kernel
set_option maxRecDepth 100000 in
theorem ai_k138 : ai_chk cX10_isAhead ai_t138 = true := by decide +kernel
set_option maxRecDepth 100000 in
theorem ai_k139 : ai_chk cX10_nextSet ai_t139 = true := by decide +kernel
set_option maxRecDepth 100000 in
theorem ai_k140 : ai_chk cX10_stir ai_t140 = true := by decide +kernel
set_option maxRecDepth 100000 in
theorem ai_k141 : ai_chk cX10_isPlace ai_t141 = true := by decide +kernel
set_option maxRecDepth 100000 in
theorem ai_k142 : ai_chk cX10_place ai_t142 = true := by decide +kernel
set_option maxRecDepth 100000 in
theorem ai_k143 : ai_chk cX10_tries ai_t143 = true := by decide +kernel
set_option maxRecDepth 100000 in
theorem ai_k144 : ai_chk cX10_door ai_t144 = true := by decide +kernel
set_option maxRecDepth 100000 in
theorem ai_k145 : ai_chk cX10_rest ai_t145 = true := by decide +kernel
set_option maxRecDepth 100000 in
theorem ai_k146 : ai_chk cX10_isOpen ai_t146 = true := by decide +kernel
set_option maxRecDepth 100000 in
theorem ai_k147 : ai_chk cX10_waits ai_t147 = true := by decide +kernel
set_option maxRecDepth 100000 in
theorem ai_k148 : ai_chk cX10_worst ai_t148 = true := by decide +kernel
set_option maxRecDepth 100000 in
theorem ai_k149 : ai_chk cX10_clock ai_t149 = true := by decide +kernel
end
section
set_option maxRecDepth 100000 in
theorem ai_k150 : ai_chk cX10_send ai_t150 = true := by decide +kernel
set_option maxRecDepth 100000 in
theorem ai_k151 : ai_chk cX10_leave ai_t151 = true := by decide +kernel
set_option maxRecDepth 100000 in
theorem ai_k152 : ai_chk cX10_leaves ai_t152 = true := by decide +kernel
set_option maxRecDepth 100000 in
theorem ai_k153 : ai_chk cX10_room ai_t153 = true := by decide +kernel
set_option maxRecDepth 100000 in
theorem ai_k154 : ai_chk cX10_follow ai_t154 = true := by decide +kernel
set_option maxRecDepth 100000 in
theorem ai_k155 : ai_chk cX10_look ai_t155 = true := by decide +kernel
set_option maxRecDepth 100000 in
theorem ai_k156 : ai_chk cX10_go ai_t156 = true := by decide +kernel
set_option maxRecDepth 100000 in
theorem ai_k157 : ai_chk cX10_ahead ai_t157 = true := by decide +kernel
end
section
set_option maxRecDepth 100000 in
theorem ai_k158 : ai_chk cX10_plain ai_t158 = true := by decide +kernel
set_option maxRecDepth 100000 in
theorem ai_k159 : ai_chk cX10_most ai_t159 = true := by decide +kernel
set_option maxRecDepth 100000 in
theorem ai_k160 : ai_chk cX10_count ai_t160 = true := by decide +kernel
set_option maxRecDepth 100000 in
theorem ai_k161 : ai_chk cJ6_bitCount_0f7a4 ai_t161 = true := by decide +kernel
set_option maxRecDepth 100000 in
theorem ai_k162 : ai_chk cJ9_floorMod_7cf53 ai_t162 = true := by decide +kernel
set_option maxRecDepth 100000 in
theorem ai_k163 : ai_chk cJ9_max_7cf53 ai_t163 = true := by decide +kernel
set_option maxRecDepth 100000 in
theorem ai_k164 : ai_chk cJ9_min_7cf53 ai_t164 = true := by decide +kernel
end
section
set_option maxRecDepth 100000 in
theorem ai_kl0 : ai_chr cL_law ai_t165 0 72 = true := by decide +kernel
set_option maxRecDepth 100000 in
theorem ai_kl1 : ai_chr cL_law ai_t165 72 72 = true := by decide +kernel
set_option maxRecDepth 100000 in
theorem ai_kl2 : ai_chr cL_law ai_t165 144 72 = true := by decide +kernel
end
section
set_option maxRecDepth 100000 in
theorem ai_kl3 : ai_chr cL_law ai_t165 216 72 = true := by decide +kernel
set_option maxRecDepth 100000 in
theorem ai_kl4 : ai_chr cL_law ai_t165 288 72 = true := by decide +kernel
set_option maxRecDepth 100000 in
theorem ai_kl5 : ai_chr cL_law ai_t165 360 72 = true := by decide +kernel
end
section
set_option maxRecDepth 100000 in
theorem ai_kl6 : ai_chr cL_law ai_t165 432 72 = true := by decide +kernel
set_option maxRecDepth 100000 in
theorem ai_kl7 : ai_chr cL_law ai_t165 504 72 = true := by decide +kernel
set_option maxRecDepth 100000 in
theorem ai_kl8 : ai_chr cL_law ai_t165 576 72 = true := by decide +kernel
end
section
set_option maxRecDepth 100000 in
theorem ai_kl9 : ai_chr cL_law ai_t165 648 72 = true := by decide +kernel
set_option maxRecDepth 100000 in
theorem ai_kl10 : ai_chr cL_law ai_t165 720 72 = true := by decide +kernel
set_option maxRecDepth 100000 in
theorem ai_kl11 : ai_chr cL_law ai_t165 792 68 = true := by decide +kernel
end
section
theorem ai_k165 : ai_chk cL_law ai_t165 = true := by
  refine List.all_eq_true.mpr fun pc h => ?_
  have h1 := List.mem_range.mp h
  have h2 : ai_t165.length = 860 := by decide +kernel
  rw [h2] at h1
  by_cases g0 : pc < 72
  · exact ai_chr_s ai_kl0 (by omega) (by omega)
  by_cases g1 : pc < 144
  · exact ai_chr_s ai_kl1 (by omega) (by omega)
  by_cases g2 : pc < 216
  · exact ai_chr_s ai_kl2 (by omega) (by omega)
  by_cases g3 : pc < 288
  · exact ai_chr_s ai_kl3 (by omega) (by omega)
  by_cases g4 : pc < 360
  · exact ai_chr_s ai_kl4 (by omega) (by omega)
  by_cases g5 : pc < 432
  · exact ai_chr_s ai_kl5 (by omega) (by omega)
  by_cases g6 : pc < 504
  · exact ai_chr_s ai_kl6 (by omega) (by omega)
  by_cases g7 : pc < 576
  · exact ai_chr_s ai_kl7 (by omega) (by omega)
  by_cases g8 : pc < 648
  · exact ai_chr_s ai_kl8 (by omega) (by omega)
  by_cases g9 : pc < 720
  · exact ai_chr_s ai_kl9 (by omega) (by omega)
  by_cases g10 : pc < 792
  · exact ai_chr_s ai_kl10 (by omega) (by omega)
  by_cases g11 : pc < 860
  · exact ai_chr_s ai_kl11 (by omega) (by omega)
  omega
end
section
abbrev ai_cl : List vw_C := [(RX0, TX0, 4), (RX1, TX1, 9), (RX2, TX2, 10), (RX3, TX3, 8), (RX4, TX4, 9), (RX5, TX5, 3), (RX6, TX6, 6), (RX7, TX7, 2), (RX8, TX8, 5), (RX9, TX9, 6), (RX10, TX10, 42)]
def ai_Rn : Nat → String := fun k => match k with
  | 0 => RX0
  | 1 => RX1
  | 2 => RX2
  | 3 => RX3
  | 4 => RX4
  | 5 => RX5
  | 6 => RX6
  | 7 => RX7
  | 8 => RX8
  | 9 => RX9
  | 10 => RX10
  | 11 => RJ6
  | 12 => RJ9
  | _ => RL
def ai_ft : Nat → Nat → FieldType := fun c => match c with
  | 0 => tyX0
  | 1 => tyX1
  | 2 => tyX2
  | 3 => tyX3
  | 4 => tyX4
  | 5 => tyX5
  | 6 => tyX6
  | 7 => tyX7
  | 8 => tyX8
  | 9 => tyX9
  | _ => tyX10
def ai_M : List (MethodName × ByteArray × Nat × Option FieldType × Nat) := [(yX0_init, cX0_init, 3, none, 0),
  (yX0_clear, cX0_clear, 2, none, 0),
  (yX0_hand, cX0_hand, 8, none, 0),
  (yX0_findMeetings, cX0_findMeetings, 9, none, 0),
  (yX0_waitFrom, cX0_waitFrom, 6, (some .int), 0),
  (yX1_init, cX1_init, 5, none, 1),
  (yX1_setOut, cX1_setOut, 3, none, 1),
  (yX1_nextWire, cX1_nextWire, 1, (some .int), 1),
  (yX1_readyAt, cX1_readyAt, 1, (some .int), 1),
  (yX1_goesAheadOf, cX1_goesAheadOf, 2, (some .boolean), 1),
  (yX1_readyFor, cX1_readyFor, 3, (some .int), 1),
  (yX1_waitsFor, cX1_waitsFor, 4, (some .boolean), 1),
  (yX2_init, cX2_init, 1, none, 2),
  (yX2_hasBox, cX2_hasBox, 2, (some .boolean), 2),
  (yX2_hasPair, cX2_hasPair, 3, (some .boolean), 2),
  (yX2_hasWire, cX2_hasWire, 2, (some .boolean), 2),
  (yX2_hasTick, cX2_hasTick, 2, (some .boolean), 2),
  (yX2_makeBox, cX2_makeBox, 2, (some .int), 2),
  (yX2_makeWire, cX2_makeWire, 5, (some .int), 2),
  (yX2_rightClocks, cX2_rightClocks, 2, none, 2),
  (yX2_timeOn, cX2_timeOn, 3, (some .int), 2),
  (yX2_crossing, cX2_crossing, 3, (some .int), 2),
  (yX2_holdBehind, cX2_holdBehind, 2, (some .int), 2),
  (yX2_stayBehind, cX2_stayBehind, 2, (some .int), 2),
  (yX2_offAt, cX2_offAt, 2, (some .int), 2),
  (yX2_startOf, cX2_startOf, 6, (some .int), 2),
  (yX2_beginOf, cX2_beginOf, 4, (some .int), 2),
  (yX2_hasDoor, cX2_hasDoor, 5, (some .boolean), 2),
  (yX3_init, cX3_init, 5, none, 3),
  (yX3_begin, cX3_begin, 1, none, 3),
  (yX3_fitFewest, cX3_fitFewest, 7, (some .int), 3),
  (yX3_mirrored, cX3_mirrored, 3, (some .int), 3),
  (yX3_fit, cX3_fit, 3, (some .int), 3),
  (yX3_showDoors, cX3_showDoors, 2, none, 3),
  (yX3_giveDoors, cX3_giveDoors, 3, none, 3),
  (yX3_keepPlaces, cX3_keepPlaces, 3, none, 3),
  (yX3_search, cX3_search, 5, (some .int), 3),
  (yX3_searchTicks, cX3_searchTicks, 6, (some .int), 3),
  (yX4_init, cX4_init, 4, none, 4),
  (yX4_tell, cX4_tell, 2, (some .int), 4),
  (yX4_letter, cX4_letter, 2, (some (.object "DoorNet$Letter")), 4),
  (yX4_settle, cX4_settle, 3, none, 4),
  (yX4_setOutAll, cX4_setOutAll, 3, none, 4),
  (yX4_findHead, cX4_findHead, 5, none, 4),
  (yX4_beginOf, cX4_beginOf, 6, (some .int), 4),
  (yX4_earliestWire, cX4_earliestWire, 4, (some .int), 4),
  (yX4_beginOn, cX4_beginOn, 6, none, 4),
  (yX4_longestRow, cX4_longestRow, 5, (some .int), 4),
  (yX4_waitingAt, cX4_waitingAt, 6, (some .int), 4),
  (yX4_ended, cX4_ended, 4, (some .int), 4),
  (yX5_init, cX5_init, 2, none, 5),
  (yX5_clear, cX5_clear, 1, none, 5),
  (yX5_fill, cX5_fill, 1, none, 5),
  (yX5_has, cX5_has, 3, (some .boolean), 5),
  (yX5_include, cX5_include, 2, none, 5),
  (yX5_exclude, cX5_exclude, 2, none, 5),
  (yX5_includePutOff, cX5_includePutOff, 3, none, 5),
  (yX5_becomeLetters, cX5_becomeLetters, 10, none, 5),
  (yX5_lettersOf, cX5_lettersOf, 2, (some .int), 5),
  (yX5_includeTurned, cX5_includeTurned, 17, none, 5),
  (yX6_init, cX6_init, 3, none, 6),
  (yX6_offer, cX6_offer, 2, none, 6),
  (yX6_wayOf, cX6_wayOf, 2, (some .int), 6),
  (yX6_wayNow, cX6_wayNow, 1, (some .int), 6),
  (yX7_init, cX7_init, 1, none, 7),
  (yX7_tell, cX7_tell, 2, (some .int), 7),
  (yX7_one, cX7_one, 2, (some (.object "DoorNet$Stream")), 7),
  (yX7_placedOne, cX7_placedOne, 3, (some (.object "DoorNet$Stream")), 7),
  (yX7_allOfThem, cX7_allOfThem, 1, (some .int), 7),
  (yX7_withPlace, cX7_withPlace, 3, (some .int), 7),
  (yX7_withoutPlace, cX7_withoutPlace, 1, (some .int), 7),
  (yX8_init, cX8_init, 2, none, 8),
  (yX8_latenessOf, cX8_latenessOf, 1, (some .int), 8),
  (yX8_wireAt, cX8_wireAt, 2, (some .int), 8),
  (yX8_wiresIn, cX8_wiresIn, 3, (some .int), 8),
  (yX8_hasHop, cX8_hasHop, 2, (some .boolean), 8),
  (yX8_hopOn, cX8_hopOn, 3, (some .int), 8),
  (yX8_shiftOf, cX8_shiftOf, 1, (some .int), 8),
  (yX8_atRank, cX8_atRank, 7, (some .int), 8),
  (yX8_nextBehind, cX8_nextBehind, 5, (some .int), 8),
  (yX8_walk, cX8_walk, 10, none, 8),
  (yX8_offer, cX8_offer, 2, none, 8),
  (yX9_init, cX9_init, 1, none, 9),
  (yX9_box, cX9_box, 2, (some .int), 9),
  (yX9_wire, cX9_wire, 5, (some .int), 9),
  (yX9_cycle, cX9_cycle, 2, (some .boolean), 9),
  (yX9_drift, cX9_drift, 2, (some .boolean), 9),
  (yX9_way, cX9_way, 7, (some .int), 9),
  (yX9_stream, cX9_stream, 7, (some .int), 9),
  (yX9_strike, cX9_strike, 3, (some .boolean), 9),
  (yX9_plan, cX9_plan, 2, (some .int), 9),
  (yX9_add, cX9_add, 2, (some .int), 9),
  (yX9_stir, cX9_stir, 2, (some .int), 9),
  (yX9_place, cX9_place, 5, (some .int), 9),
  (yX9_tries, cX9_tries, 1, (some .int), 9),
  (yX9_door, cX9_door, 5, (some .int), 9),
  (yX9_waits, cX9_waits, 4, (some .int), 9),
  (yX9_worst, cX9_worst, 6, (some .int), 9),
  (yX9_clock, cX9_clock, 3, (some .boolean), 9),
  (yX9_send, cX9_send, 5, (some .int), 9),
  (yX9_leaves, cX9_leaves, 7, (some .int), 9),
  (yX9_room, cX9_room, 8, (some .int), 9),
  (yX9_plain, cX9_plain, 4, (some .int), 9),
  (yX9_most, cX9_most, 2, (some .int), 9),
  (yX9_count, cX9_count, 2, (some .int), 9),
  (yX9_findChoices, cX9_findChoices, 7, none, 9),
  (yX9_isPeriod, cX9_isPeriod, 2, (some .boolean), 9),
  (yX9_isInTime, cX9_isInTime, 2, (some .boolean), 9),
  (yX9_isCycle, cX9_isCycle, 5, (some .boolean), 9),
  (yX9_isSize, cX9_isSize, 1, (some .boolean), 9),
  (yX9_within, cX9_within, 3, (some .boolean), 9),
  (yX9_aheadOfEnd, cX9_aheadOfEnd, 1, (some .int), 9),
  (yX10_init, cX10_init, 1, none, 10),
  (yX10_isBox, cX10_isBox, 2, (some .boolean), 10),
  (yX10_isWire, cX10_isWire, 2, (some .boolean), 10),
  (yX10_box, cX10_box, 2, (some .int), 10),
  (yX10_wire, cX10_wire, 5, (some .int), 10),
  (yX10_cycle, cX10_cycle, 2, (some .boolean), 10),
  (yX10_drift, cX10_drift, 3, (some .boolean), 10),
  (yX10_late, cX10_late, 8, (some .int), 10),
  (yX10_isSeen, cX10_isSeen, 5, (some .boolean), 10),
  (yX10_findWays, cX10_findWays, 7, none, 10),
  (yX10_keep, cX10_keep, 7, none, 10),
  (yX10_isBehind, cX10_isBehind, 5, (some .boolean), 10),
  (yX10_isSize, cX10_isSize, 1, (some .boolean), 10),
  (yX10_way, cX10_way, 6, (some .int), 10),
  (yX10_stream, cX10_stream, 9, (some .int), 10),
  (yX10_strike, cX10_strike, 2, (some .boolean), 10),
  (yX10_start, cX10_start, 8, (some .int), 10),
  (yX10_meets, cX10_meets, 10, (some .boolean), 10),
  (yX10_put, cX10_put, 10, none, 10),
  (yX10_lay, cX10_lay, 2, none, 10),
  (yX10_seek, cX10_seek, 5, (some .int), 10),
  (yX10_seekWith, cX10_seekWith, 5, (some .int), 10),
  (yX10_plan, cX10_plan, 1, (some .int), 10),
  (yX10_add, cX10_add, 1, (some .int), 10),
  (yX10_placed, cX10_placed, 3, (some .int), 10),
  (yX10_bits, cX10_bits, 3, (some .int), 10),
  (yX10_isAhead, cX10_isAhead, 3, (some .boolean), 10),
  (yX10_nextSet, cX10_nextSet, 7, (some .int), 10),
  (yX10_stir, cX10_stir, 5, (some .int), 10),
  (yX10_isPlace, cX10_isPlace, 2, (some .boolean), 10),
  (yX10_place, cX10_place, 5, (some .int), 10),
  (yX10_tries, cX10_tries, 1, (some .int), 10),
  (yX10_door, cX10_door, 3, (some .int), 10),
  (yX10_rest, cX10_rest, 3, (some .int), 10),
  (yX10_isOpen, cX10_isOpen, 5, (some .boolean), 10),
  (yX10_waits, cX10_waits, 5, (some .int), 10),
  (yX10_worst, cX10_worst, 6, (some .int), 10),
  (yX10_clock, cX10_clock, 3, (some .boolean), 10),
  (yX10_send, cX10_send, 6, (some .int), 10),
  (yX10_leave, cX10_leave, 5, (some .int), 10),
  (yX10_leaves, cX10_leaves, 6, (some .int), 10),
  (yX10_room, cX10_room, 5, (some .int), 10),
  (yX10_follow, cX10_follow, 3, none, 10),
  (yX10_look, cX10_look, 7, none, 10),
  (yX10_go, cX10_go, 5, none, 10),
  (yX10_ahead, cX10_ahead, 1, (some .int), 10),
  (yX10_plain, cX10_plain, 4, (some .int), 10),
  (yX10_most, cX10_most, 2, (some .int), 10),
  (yX10_count, cX10_count, 4, (some .int), 10),
  (yJ6_bitCount_0f7a4, cJ6_bitCount_0f7a4, 1, (some .int), 11),
  (yJ9_floorMod_7cf53, cJ9_floorMod_7cf53, 3, (some .int), 12),
  (yJ9_max_7cf53, cJ9_max_7cf53, 2, (some .int), 12),
  (yJ9_min_7cf53, cJ9_min_7cf53, 2, (some .int), 12),
  (yL_law, cL_law, 4, (some .boolean), 13)]
def ai_F : List ((Nat × Nat) × Nat × Nat) := [((0, 11), 0, 1), ((0, 17), 0, 0), ((0, 24), 0, 2), ((0, 28), 0, 3), ((0, 46), 6, 0), ((0, 55), 6, 1), ((0, 86), 2, 8), ((1, 9), 1, 4), ((1, 15), 1, 5), ((1, 18), 1, 6), ((1, 22), 1, 7), ((1, 25), 1, 8), ((1, 28), 1, 0), ((1, 31), 1, 1), ((1, 34), 1, 2), ((1, 37), 1, 3), ((2, 9), 2, 0), ((2, 15), 2, 1), ((2, 18), 2, 2), ((2, 21), 2, 3), ((2, 24), 2, 4), ((2, 27), 2, 5), ((2, 30), 2, 6), ((2, 34), 2, 7), ((2, 37), 2, 8), ((2, 40), 2, 9), ((2, 50), 6, 5), ((2, 65), 6, 0), ((2, 79), 6, 1), ((3, 11), 3, 2), ((3, 19), 3, 3), ((3, 23), 3, 4), ((3, 27), 3, 5), ((3, 30), 3, 6), ((3, 34), 3, 7), ((3, 37), 3, 0), ((3, 41), 3, 1), ((3, 74), 7, 1), ((3, 100), 6, 5), ((3, 107), 6, 4), ((3, 110), 6, 3), ((3, 123), 6, 1), ((4, 11), 4, 3), ((4, 17), 4, 4), ((4, 20), 4, 5), ((4, 24), 4, 6), ((4, 27), 4, 7), ((4, 31), 4, 8), ((4, 35), 4, 0), ((4, 39), 4, 1), ((4, 43), 4, 2), ((4, 62), 1, 1), ((4, 65), 1, 2), ((4, 68), 1, 3), ((4, 86), 2, 7), ((4, 112), 2, 8), ((4, 130), 1, 7), ((4, 136), 1, 5), ((4, 143), 1, 8), ((4, 146), 1, 4), ((5, 7), 5, 1), ((5, 13), 5, 2), ((5, 16), 5, 0), ((5, 20), 2, 8), ((6, 9), 6, 2), ((6, 15), 6, 3), ((6, 19), 6, 4), ((6, 22), 6, 5), ((6, 25), 6, 0), ((6, 34), 6, 1), ((7, 11), 7, 0), ((7, 17), 7, 1), ((7, 25), 6, 4), ((8, 11), 8, 1), ((8, 15), 8, 2), ((8, 18), 8, 3), ((8, 21), 8, 4), ((8, 24), 8, 0), ((8, 44), 2, 7), ((8, 49), 2, 3), ((8, 53), 2, 2), ((9, 10), 9, 0), ((9, 21), 9, 1), ((9, 28), 9, 2), ((9, 35), 9, 3), ((9, 44), 9, 4), ((9, 53), 9, 5), ((9, 69), 7, 1), ((9, 73), 4, 7), ((9, 82), 2, 8), ((9, 85), 2, 9), ((9, 91), 4, 8), ((9, 137), 6, 4), ((9, 162), 6, 5), ((9, 175), 3, 7), ((9, 200), 2, 1), ((9, 216), 6, 0), ((9, 232), 1, 6), ((9, 235), 1, 8), ((9, 241), 1, 5), ((9, 244), 1, 4), ((9, 250), 2, 6), ((9, 253), 2, 7), ((10, 7), 10, 1), ((10, 13), 10, 2), ((10, 16), 10, 4), ((10, 19), 10, 5), ((10, 22), 10, 6), ((10, 25), 10, 7), ((10, 28), 10, 8), ((10, 32), 10, 11), ((10, 35), 10, 12), ((10, 38), 10, 13), ((10, 41), 10, 14), ((10, 44), 10, 15), ((10, 47), 10, 16), ((10, 50), 10, 17), ((10, 54), 10, 18), ((10, 57), 10, 19), ((10, 60), 10, 21), ((10, 63), 10, 23), ((10, 66), 10, 24), ((10, 69), 10, 25), ((10, 72), 10, 26), ((10, 75), 10, 28), ((10, 78), 10, 29), ((10, 81), 10, 30), ((10, 84), 10, 31), ((10, 87), 10, 32), ((10, 90), 10, 33), ((10, 93), 10, 35), ((10, 97), 10, 36), ((10, 100), 10, 37), ((10, 103), 10, 38), ((10, 106), 10, 39), ((10, 109), 10, 40), ((10, 112), 10, 41), ((10, 115), 10, 0), ((10, 118), 10, 3), ((10, 125), 10, 10), ((10, 128), 10, 22), ((10, 131), 10, 9), ((10, 134), 10, 27), ((10, 170), 10, 34), ((10, 173), 10, 20)]
def ai_G : List ((Nat × Nat) × Nat × Nat) := [((0, 21), 50, 1), ((0, 31), 51, 0), ((0, 34), 73, 2), ((0, 40), 15, 1), ((0, 52), 20, 2), ((0, 58), 57, 3), ((0, 62), 54, 1), ((0, 66), 55, 1), ((0, 69), 21, 2), ((0, 72), 23, 1), ((0, 76), 52, 0), ((0, 79), 56, 2), ((0, 83), 58, 1), ((0, 89), 53, 1), ((1, 40), 73, 2), ((1, 46), 8, 0), ((1, 50), 76, 2), ((2, 43), 13, 1), ((2, 47), 15, 1), ((2, 55), 63, 0), ((2, 59), 73, 2), ((2, 68), 21, 2), ((2, 71), 23, 1), ((2, 75), 25, 2), ((2, 82), 24, 1), ((2, 85), 76, 2), ((2, 88), 162, 2), ((2, 93), 20, 2), ((3, 45), 50, 1), ((3, 48), 69, 0), ((3, 54), 70, 0), ((3, 57), 31, 1), ((3, 61), 161, 1), ((3, 66), 32, 1), ((3, 69), 1, 0), ((3, 77), 34, 1), ((3, 81), 66, 1), ((3, 85), 36, 1), ((3, 88), 35, 0), ((3, 91), 33, 0), ((3, 94), 67, 1), ((3, 97), 63, 0), ((3, 103), 2, 4), ((3, 112), 62, 1), ((3, 115), 3, 3), ((3, 119), 37, 3), ((3, 127), 53, 1), ((4, 47), 42, 0), ((4, 50), 45, 0), ((4, 54), 46, 1), ((4, 58), 40, 1), ((4, 71), 79, 4), ((4, 77), 163, 2), ((4, 83), 6, 1), ((4, 91), 43, 1), ((4, 94), 7, 0), ((4, 97), 9, 1), ((4, 101), 44, 2), ((4, 105), 8, 0), ((4, 108), 24, 1), ((4, 115), 162, 2), ((4, 118), 20, 2), ((4, 121), 4, 3), ((4, 127), 164, 2), ((4, 133), 21, 2), ((4, 139), 15, 1), ((4, 149), 22, 1), ((4, 152), 10, 1), ((4, 155), 48, 2), ((4, 158), 11, 2), ((5, 28), 59, 3), ((5, 32), 51, 0), ((5, 35), 164, 2), ((5, 41), 163, 2), ((5, 44), 58, 1), ((6, 28), 163, 2), ((6, 37), 62, 1), ((7, 21), 66, 1), ((7, 28), 67, 1), ((7, 31), 68, 0), ((7, 35), 69, 0), ((8, 28), 77, 1), ((8, 32), 73, 2), ((8, 36), 79, 4), ((8, 40), 80, 5), ((8, 56), 21, 2), ((8, 59), 81, 1), ((8, 63), 23, 1), ((9, 18), 71, 1), ((9, 34), 0, 1), ((9, 41), 28, 3), ((9, 50), 38, 3), ((9, 57), 110, 3), ((9, 61), 17, 1), ((9, 65), 14, 2), ((9, 74), 18, 4), ((9, 78), 108, 1), ((9, 88), 19, 0), ((9, 95), 13, 1), ((9, 98), 109, 1), ((9, 101), 78, 4), ((9, 104), 72, 1), ((9, 107), 73, 2), ((9, 111), 106, 1), ((9, 114), 79, 4), ((9, 117), 107, 2), ((9, 122), 60, 2), ((9, 125), 105, 4), ((9, 129), 65, 1), ((9, 133), 67, 1), ((9, 140), 33, 0), ((9, 143), 29, 0), ((9, 146), 68, 0), ((9, 150), 32, 1), ((9, 153), 70, 0), ((9, 156), 30, 0), ((9, 159), 63, 0), ((9, 165), 74, 1), ((9, 168), 75, 2), ((9, 171), 25, 2), ((9, 178), 15, 1), ((9, 181), 16, 1), ((9, 184), 27, 3), ((9, 188), 20, 2), ((9, 191), 4, 3), ((9, 195), 163, 2), ((9, 206), 5, 4), ((9, 209), 39, 1), ((9, 212), 26, 3), ((9, 219), 21, 2), ((9, 222), 22, 1), ((9, 225), 41, 0), ((9, 228), 40, 1), ((9, 238), 111, 1), ((9, 247), 47, 1), ((9, 256), 69, 0), ((9, 259), 161, 1), ((9, 264), 49, 0), ((9, 267), 61, 1), ((10, 121), 113, 1), ((10, 137), 120, 3), ((10, 141), 122, 2), ((10, 145), 119, 4), ((10, 149), 123, 3), ((10, 152), 124, 1), ((10, 155), 121, 3), ((10, 159), 131, 0), ((10, 162), 128, 4), ((10, 166), 130, 4), ((10, 177), 129, 3), ((10, 180), 132, 0), ((10, 184), 133, 1), ((10, 188), 137, 1), ((10, 191), 138, 2), ((10, 195), 136, 0), ((10, 198), 139, 3), ((10, 202), 141, 1), ((10, 205), 114, 1), ((10, 208), 145, 1), ((10, 211), 146, 3), ((10, 214), 147, 3), ((10, 217), 151, 3), ((10, 221), 155, 2), ((10, 224), 156, 3), ((10, 227), 154, 0), ((10, 230), 157, 1), ((13, 9), 82, 0), ((13, 12), 112, 0), ((13, 13), 83, 1), ((13, 17), 115, 1), ((13, 18), 84, 4), ((13, 22), 116, 4), ((13, 23), 85, 1), ((13, 27), 117, 1), ((13, 28), 86, 1), ((13, 31), 118, 1), ((13, 32), 87, 5), ((13, 36), 125, 5), ((13, 37), 88, 5), ((13, 40), 126, 5), ((13, 41), 89, 1), ((13, 44), 127, 1), ((13, 45), 90, 0), ((13, 49), 134, 0), ((13, 50), 91, 0), ((13, 53), 135, 0), ((13, 54), 92, 0), ((13, 57), 140, 0), ((13, 58), 93, 2), ((13, 62), 142, 2), ((13, 63), 94, 0), ((13, 66), 143, 0), ((13, 67), 95, 2), ((13, 70), 144, 2), ((13, 71), 96, 3), ((13, 75), 147, 3), ((13, 76), 97, 2), ((13, 79), 148, 2), ((13, 80), 98, 2), ((13, 84), 149, 2), ((13, 85), 99, 4), ((13, 88), 150, 4), ((13, 89), 100, 3), ((13, 92), 152, 3), ((13, 93), 101, 3), ((13, 96), 153, 3), ((13, 97), 102, 2), ((13, 100), 158, 2), ((13, 101), 103, 1), ((13, 104), 159, 1), ((13, 105), 104, 1), ((13, 108), 160, 1)]
def ai_N : List ((Nat × Nat) × Nat) := [((0, 9), 5), ((3, 9), 6), ((3, 17), 5), ((4, 9), 1), ((7, 9), 6), ((9, 7), 2), ((9, 16), 8), ((9, 25), 7), ((9, 32), 0), ((9, 39), 3), ((9, 48), 4), ((9, 120), 6), ((9, 204), 1), ((13, 7), 9), ((13, 10), 10)]
def ai_O : List (Nat × Nat) := [(0, 3), (1, 3), (2, 3), (3, 3), (4, 3), (5, 1), (6, 3), (7, 3), (8, 5), (9, 1), (10, 1)]
def ai_K : List ((Nat × Nat) × Int32) := [((3, 126), 40000), ((10, 176), 40000), ((10, 220), 1000000), ((11, 265), 1431655765), ((11, 266), 858993459), ((11, 267), 252645135)]
def ai_J : List ((Nat × Nat) × Int64) := [((5, 26), -1)]
def ai_Z : List (Nat × Nat) := [(9, 271)]
def ai_Sm : List Nat := [31, 72, 73, 74, 75, 76, 77, 107, 108, 109, 110, 111, 124, 137, 138, 157, 161, 162, 163, 164]
end
section
def ai_Fx : List Nat := [172, 171, 173, 174, 387, 391, 83, 669, 672, 675, 677, 679, 662, 663, 665, 667, 65, 66, 68, 70, 72, 73, 74, 76, 80, 85, 404, 388, 393, 195, 196, 197, 198, 199, 200, 193, 194, 142, 402, 400, 396, 392, 230, 231, 232, 233, 234, 236, 227, 228, 229, 664, 666, 668, 77, 84, 678, 673, 680, 670, 162, 163, 161, 81, 394, 395, 397, 401, 386, 390, 139, 140, 398, 116, 117, 118, 119, 115, 78, 71, 69, 257, 258, 259, 260, 261, 262, 141, 235, 82, 86, 237, 399, 403, 201, 67, 389, 676, 681, 674, 671, 75, 79, 828, 829, 831, 832, 833, 834, 835, 838, 839, 840, 841, 842, 843, 844, 845, 846, 848, 850, 851, 852, 853, 855, 856, 857, 858, 859, 860, 862, 863, 864, 865, 866, 867, 868, 827, 830, 837, 849, 836, 854, 861, 847]
def ai_Gx : List (Nat × Nat × Nat × Nat × Nat) := [(157, 159, 43, 158, 0), (450, 453, 43, 451, 452), (471, 364, 40, 363, 0), (472, 347, 39, 345, 346), (473, 476, 39, 474, 475), (477, 480, 43, 478, 479), (494, 497, 43, 495, 496), (498, 501, 43, 499, 500), (503, 343, 39, 341, 342), (504, 358, 39, 356, 357), (531, 534, 43, 532, 533), (535, 538, 43, 536, 537), (539, 489, 43, 487, 488), (642, 548, 43, 546, 547), (756, 364, 40, 363, 0), (761, 764, 50, 762, 763), (802, 627, 40, 626, 0), (295, 298, 39, 296, 297), (344, 347, 39, 345, 346), (604, 462, 47, 460, 461), (605, 364, 40, 363, 0), (606, 343, 39, 341, 342), (607, 358, 39, 356, 357), (628, 603, 39, 601, 602), (713, 716, 39, 714, 715), (625, 627, 40, 626, 0), (629, 631, 48, 630, 0), (632, 476, 39, 474, 475), (192, 159, 43, 158, 0), (576, 566, 41, 564, 565), (577, 561, 41, 559, 560), (578, 580, 44, 579, 0), (581, 583, 49, 582, 0), (587, 520, 44, 518, 519), (446, 449, 42, 447, 448), (454, 457, 44, 456, 4), (521, 441, 41, 439, 440), (522, 525, 44, 524, 6), (549, 552, 44, 551, 8), (553, 445, 44, 443, 444), (458, 437, 41, 435, 436), (459, 462, 47, 460, 461), (467, 470, 42, 468, 469), (526, 466, 47, 464, 465), (527, 530, 42, 528, 529), (540, 543, 44, 542, 7), (545, 548, 43, 546, 547), (734, 737, 45, 736, 9), (775, 778, 45, 777, 12), (779, 782, 45, 781, 13), (738, 741, 45, 739, 740), (742, 335, 40, 333, 334), (743, 385, 48, 384, 0), (744, 747, 50, 745, 746), (748, 751, 45, 750, 10), (752, 755, 50, 753, 754), (757, 760, 50, 758, 759), (765, 768, 45, 767, 11), (769, 764, 50, 762, 763), (770, 716, 39, 714, 715), (771, 631, 48, 630, 0), (772, 476, 39, 474, 475), (773, 641, 42, 639, 640), (774, 484, 48, 483, 0), (783, 343, 39, 341, 342), (784, 347, 39, 345, 346), (785, 725, 39, 723, 724), (798, 801, 50, 799, 800), (803, 806, 45, 805, 14), (807, 810, 50, 808, 809), (490, 493, 43, 492, 5), (481, 453, 43, 451, 452), (482, 484, 48, 483, 0), (485, 385, 48, 384, 0), (486, 489, 43, 487, 488), (383, 385, 48, 384, 0), (463, 466, 47, 464, 465), (438, 441, 41, 439, 440), (567, 437, 41, 435, 436), (562, 516, 41, 514, 515), (563, 566, 41, 564, 565), (348, 350, 40, 349, 0), (596, 364, 40, 363, 0), (332, 335, 40, 333, 334), (336, 339, 40, 338, 0), (340, 343, 39, 341, 342), (351, 354, 40, 353, 1), (355, 358, 39, 356, 357), (111, 113, 40, 112, 0), (150, 152, 42, 151, 0), (186, 188, 44, 187, 0), (221, 223, 45, 222, 0), (280, 282, 38, 281, 0), (283, 286, 39, 284, 285), (291, 294, 39, 292, 293), (299, 302, 39, 300, 301), (307, 309, 38, 308, 0), (316, 319, 39, 317, 318), (324, 298, 39, 296, 297), (325, 327, 38, 326, 0), (328, 331, 40, 329, 330), (359, 361, 40, 360, 0), (362, 364, 40, 363, 0), (369, 372, 38, 371, 2), (373, 335, 40, 333, 334), (374, 376, 38, 375, 0), (379, 381, 47, 380, 0), (418, 421, 38, 420, 3), (426, 429, 41, 427, 428), (434, 437, 41, 435, 436), (442, 445, 44, 443, 444), (509, 512, 44, 510, 511), (513, 516, 41, 514, 515), (517, 520, 44, 518, 519), (558, 561, 41, 559, 560), (572, 575, 44, 573, 574), (592, 462, 47, 460, 461), (593, 595, 40, 594, 0), (597, 599, 40, 598, 0), (600, 603, 39, 601, 602), (616, 347, 39, 345, 346), (617, 620, 39, 618, 619), (621, 624, 39, 622, 623), (637, 476, 39, 474, 475), (638, 641, 42, 639, 640), (647, 385, 48, 384, 0), (658, 660, 50, 659, 0), (701, 704, 45, 702, 703), (709, 712, 39, 710, 711), (717, 343, 39, 341, 342), (722, 725, 39, 723, 724), (730, 733, 45, 731, 732), (786, 741, 45, 739, 740), (787, 789, 38, 788, 0), (794, 797, 45, 795, 796), (815, 566, 41, 564, 565), (816, 583, 49, 582, 0), (817, 820, 45, 818, 819), (422, 425, 47, 423, 424), (963, 966, 46, 965, 15), (986, 989, 46, 988, 17), (990, 993, 46, 992, 18), (994, 997, 46, 996, 19), (998, 1001, 46, 1000, 20), (979, 981, 46, 980, 0), (982, 985, 46, 984, 16), (1010, 1013, 46, 1012, 21), (1018, 1021, 46, 1020, 23), (1014, 1017, 46, 1016, 22), (1035, 1038, 46, 1037, 26), (1030, 1033, 46, 1032, 25), (1026, 1029, 46, 1028, 24), (1055, 1057, 46, 1056, 0), (1058, 1060, 46, 1059, 0), (1047, 1050, 46, 1049, 27), (1051, 1054, 46, 1053, 28), (1065, 1068, 46, 1067, 29), (1077, 1080, 46, 1079, 30), (1089, 1092, 46, 1091, 32), (1085, 1088, 46, 1087, 31), (1097, 1084, 46, 1082, 1083), (1110, 1113, 46, 1112, 33), (1127, 1130, 46, 1129, 35), (1131, 1134, 46, 1133, 36), (1122, 1125, 46, 1124, 34), (1135, 1137, 46, 1136, 0), (53, 55, 38, 54, 0), (823, 825, 46, 824, 0), (276, 279, 38, 277, 278), (955, 958, 46, 956, 957), (287, 290, 38, 288, 289), (959, 962, 46, 960, 961), (303, 306, 38, 304, 305), (967, 970, 46, 968, 969), (312, 315, 38, 313, 314), (971, 974, 46, 972, 973), (320, 323, 38, 321, 322), (975, 978, 46, 976, 977), (365, 368, 38, 366, 367), (1002, 1005, 46, 1003, 1004), (430, 433, 38, 431, 432), (1006, 1009, 46, 1007, 1008), (505, 508, 38, 506, 507), (1022, 1025, 46, 1023, 1024), (554, 557, 38, 555, 556), (1039, 1042, 46, 1040, 1041), (568, 571, 38, 569, 570), (1043, 1046, 46, 1044, 1045), (588, 591, 38, 589, 590), (1061, 1064, 46, 1062, 1063), (608, 611, 38, 609, 610), (1069, 1072, 46, 1070, 1071), (612, 615, 38, 613, 614), (1073, 1076, 46, 1074, 1075), (633, 636, 38, 634, 635), (1081, 1084, 46, 1082, 1083), (643, 646, 38, 644, 645), (1093, 1096, 46, 1094, 1095), (648, 651, 38, 649, 650), (1098, 1101, 46, 1099, 1100), (652, 655, 38, 653, 654), (1102, 1105, 46, 1103, 1104), (705, 708, 38, 706, 707), (1106, 1109, 46, 1107, 1108), (718, 721, 38, 719, 720), (1114, 1117, 46, 1115, 1116), (726, 729, 38, 727, 728), (1118, 1121, 46, 1119, 1120), (790, 793, 38, 791, 792), (1138, 1141, 46, 1139, 1140), (811, 814, 38, 812, 813), (1142, 1145, 46, 1143, 1144)]
def ai_Nx : List Nat := [154, 190, 191, 225, 137, 59, 109, 131, 148, 184, 219, 377, 656, 51, 821]
def ai_Ox : List Nat := [153, 661, 64, 189, 224, 160, 382, 136, 114, 56, 826]
def ai_Kx : List Nat := [544, 1034, 1126, 584, 585, 586]
def ai_Cx : List (Nat × Nat) := [(149, 42), (657, 50), (60, 39), (185, 44), (220, 45), (156, 43), (378, 47), (132, 41), (110, 40), (52, 38), (822, 46)]
def ai_Lx : List (List Nat) := [[175, 177, 179, 181], [682, 684, 686, 688, 690, 692, 694, 696, 698], [87, 89, 91, 93, 95, 97, 99, 101, 103, 105], [202, 204, 206, 208, 210, 212, 214, 216], [238, 240, 242, 244, 246, 248, 250, 252, 254], [164, 166, 168], [405, 407, 409, 411, 413, 415], [143, 145], [120, 122, 124, 126, 128], [263, 265, 267, 269, 271, 273], [869, 871, 873, 875, 877, 879, 881, 883, 885, 887, 889, 891, 893, 895, 897, 899, 901, 903, 905, 907, 909, 911, 913, 915, 917, 919, 921, 923, 925, 927, 929, 931, 933, 935, 937, 939, 941, 943, 945, 947, 949, 951]]
def ai_Q : List ((Nat × Nat) × Nat) := [((9, 9), 12), ((9, 27), 64)]
def ai_Qx : List (Nat × Nat × Nat × Nat) := [(61, 63, 39, 62), (133, 135, 41, 134)]
end
section
/-! An abstract interpreter of the program: one heap as a list of cells (address: a start and the place), calls big-step. -/
abbrev ai_C : Type := (Nat × Nat × ((Nat → Int32) ⊕ (Nat → Option Nat))) ⊕ (Nat × List Value)
abbrev ai_H : Type := List ai_C × Nat
abbrev ai_L : Type := List (Nat × Value)
abbrev ai_S : Type := Nat × (Nat → Int32)
abbrev ai_Y : Type := Nat × ai_L × List Value × ai_H
abbrev ai_R : Type := ai_Y ⊕ ((Nat × List Value × List Value) ⊕ Option Value)
def ai_cyc : Nat → Int32 := fun j => match j with
  | 0 => 12
  | 1 => 24
  | 2 => 48
  | 3 => 60
  | _ => 120
def ai_ext (S : ai_S) (u : UInt32) : ai_S := if u = 0 then S else (5, ai_cyc)
/-- array types: number, component -/
def ai_at : Nat → FieldType := fun t => match t with
  | 0 => .int
  | 1 => .boolean
  | 2 => .object RX5
  | 3 => .object RX6
  | _ => .object RX1
/-- the array type over a class -/
def ai_ao : Nat → Option Nat := fun c => match c with
  | 5 => some 2
  | 6 => some 3
  | 1 => some 4
  | _ => none
def ai_get {α : Type} (l : List ((Nat × Nat) × α)) (o i : Nat) : Option α := (l.find? (fun q => q.1.1 == o && q.1.2 == i)).map (·.2)
theorem ai_get_mem {α : Type} {l : List ((Nat × Nat) × α)} {o i : Nat} {x : α} (h : ai_get l o i = some x) : ((o, i), x) ∈ l := by
  unfold ai_get at h
  obtain ⟨q, hq, rfl⟩ := Option.map_eq_some_iff.mp h
  have h1 := List.find?_some hq
  have h2 := List.mem_of_find?_eq_some hq
  simp only [Bool.and_eq_true, beq_iff_eq] at h1
  obtain ⟨⟨a, b⟩, c⟩ := q
  obtain ⟨rfl, rfl⟩ := h1
  exact h2
def ai_I (mn pc : Nat) : Option Instr := match ai_T[mn]? with
  | some t => (match t[pc]? with
    | some (some i) => some i
    | _ => none)
  | none => none
def ai_look (L : ai_L) (i : Nat) : Option Value := (L.find? (fun q => q.1 == i)).map (·.2)
def ai_sort (i : Nat) (v : Value) : ai_L → ai_L
  | [] => [(i, v)]
  | (j, w) :: t => if i < j then (i, v) :: (j, w) :: t else (j, w) :: ai_sort i v t
def ai_put (i : Nat) (v : Value) (L : ai_L) : ai_L := ai_sort i v (L.filter (fun q => !(q.1 == i) && !(q.1 + 1 == i && q.2.category == 2)))
def ai_put2 (i : Nat) (v : Value) (L : ai_L) : ai_L := ai_sort i v (L.filter (fun q => !(q.1 == i) && (!(q.1 == i + 1) && !(q.1 + 1 == i && q.2.category == 2))))
theorem ai_sort_mem {i : Nat} {v : Value} {L : ai_L} {q : Nat × Value} (h : q ∈ ai_sort i v L) : q ∈ (i, v) :: L := by
  induction L with
  | nil => exact h
  | cons a t ih =>
    obtain ⟨j, w⟩ := a
    unfold ai_sort at h
    split at h
    · exact h
    · rcases List.mem_cons.mp h with rfl | h
      · simp
      · rcases List.mem_cons.mp (ih h) with rfl | h
        · simp
        · simp [h]
def ai_nx (pc : Nat) (L : ai_L) (st : List Value) (h : ai_H) : Option ai_Y := some (pc, L, st, h)
def ai_m1 {β : Type} (st : List Value) (f : Int32 → List Value → Option β) : Option β := match st with
  | .int x :: r => f x r
  | _ => none
def ai_m2 {β : Type} (st : List Value) (f : Int32 → Int32 → List Value → Option β) : Option β := match st with
  | .int y :: .int x :: r => f x y r
  | _ => none
def ai_l2 {β : Type} (st : List Value) (f : Int64 → Int64 → List Value → Option β) : Option β := match st with
  | .long y :: .long x :: r => f x y r
  | _ => none
def ai_lh {β : Type} (st : List Value) (f : Int64 → Int32 → List Value → Option β) : Option β := match st with
  | .int y :: .long x :: r => f x y r
  | _ => none
def ai_g {β : Type} (c : Bool) (x : Option β) : Option β := match c with
  | true => x
  | false => none
def ai_o {α β : Type} (o : Option α) (f : α → Option β) : Option β := match o with
  | some a => f a
  | none => none
theorem ai_m1_s {β : Type} {st : List Value} {f : Int32 → List Value → Option β} {z : β} (h : ai_m1 st f = some z) : ∃ x r, st = .int x :: r ∧ f x r = some z := by
  unfold ai_m1 at h; split at h
  · exact ⟨_, _, rfl, h⟩
  · cases h
theorem ai_m2_s {β : Type} {st : List Value} {f : Int32 → Int32 → List Value → Option β} {z : β} (h : ai_m2 st f = some z) : ∃ x y r, st = .int y :: .int x :: r ∧ f x y r = some z := by
  unfold ai_m2 at h; split at h
  · exact ⟨_, _, _, rfl, h⟩
  · cases h
theorem ai_l2_s {β : Type} {st : List Value} {f : Int64 → Int64 → List Value → Option β} {z : β} (h : ai_l2 st f = some z) : ∃ x y r, st = .long y :: .long x :: r ∧ f x y r = some z := by
  unfold ai_l2 at h; split at h
  · exact ⟨_, _, _, rfl, h⟩
  · cases h
theorem ai_lh_s {β : Type} {st : List Value} {f : Int64 → Int32 → List Value → Option β} {z : β} (h : ai_lh st f = some z) : ∃ x y r, st = .int y :: .long x :: r ∧ f x y r = some z := by
  unfold ai_lh at h; split at h
  · exact ⟨_, _, _, rfl, h⟩
  · cases h
theorem ai_g_s {β : Type} {c : Bool} {x : Option β} {z : β} (h : ai_g c x = some z) : c = true ∧ x = some z := by
  unfold ai_g at h; split at h
  · exact ⟨rfl, h⟩
  · cases h
theorem ai_o_s {α β : Type} {o : Option α} {f : α → Option β} {z : β} (h : ai_o o f = some z) : ∃ a, o = some a ∧ f a = some z := by
  unfold ai_o at h; split at h
  · exact ⟨_, rfl, h⟩
  · cases h
def ai_cnd (c : Jvm.ClassFile.Cond) (x y : Int32) : Bool := match c with
  | .eq => decide (x = y)
  | .ne => decide (¬ x = y)
  | .lt => decide (x < y)
  | .ge => decide (y ≤ x)
  | .gt => decide (y < x)
  | .le => decide (x ≤ y)
/-- a branch -/
def ai_br (pc : Nat) (off : Int) (c : Bool) (L : ai_L) (st : List Value) (h : ai_H) : Option ai_Y := ai_g (decide (0 ≤ (pc : Int) + off)) (ai_nx (if c = true then ((pc : Int) + off).toNat else pc + 3) L st h)
def ai_in (i : Int32) (n : Nat) : Bool := decide (¬ (i < 0 ∨ n ≤ i.toNatClampNeg))
theorem ai_in_s {i : Int32} {n : Nat} (h : ai_in i n = true) : ¬ (i < 0 ∨ n ≤ i.toNatClampNeg) := of_decide_eq_true h
def ai_iref (v : Value) : Bool := match v with
  | .ref _ => true
  | .null => true
  | .float _ => true
  | _ => false
def ai_ldi {β : Type} (v : Value) (f : Int32 → Option β) : Option β := match v with
  | .int x => f x
  | _ => none
def ai_ldl {β : Type} (v : Value) (f : Int64 → Option β) : Option β := match v with
  | .long x => f x
  | _ => none
theorem ai_ldi_s {β : Type} {v : Value} {f : Int32 → Option β} {z : β} (h : ai_ldi v f = some z) : ∃ x, v = .int x ∧ f x = some z := by
  unfold ai_ldi at h; split at h
  · exact ⟨_, rfl, h⟩
  · cases h
theorem ai_ldl_s {β : Type} {v : Value} {f : Int64 → Option β} {z : β} (h : ai_ldl v f = some z) : ∃ x, v = .long x ∧ f x = some z := by
  unfold ai_ldl at h; split at h
  · exact ⟨_, rfl, h⟩
  · cases h
/-- an object's fields -/
def ai_obj (h : ai_H) (a ci : Nat) : Option (List Value) := match h.1[a]? with
  | some (.inr (c, fs)) => if c = ci then some fs else none
  | _ => none
/-- an array of ints (0) or booleans (1) -/
def ai_arr (h : ai_H) (a t : Nat) : Option (Nat × (Nat → Int32)) := match h.1[a]? with
  | some (.inl (t', n, .inl f)) => if t' = t then some (n, f) else none
  | _ => none
/-- an array of references -/
def ai_arq (h : ai_H) (a : Nat) : Option (Nat × Nat × (Nat → Option Nat)) := match h.1[a]? with
  | some (.inl (t, n, .inr f)) => some (t, n, f)
  | _ => none
def ai_alen (h : ai_H) (a : Nat) : Option Nat := match h.1[a]? with
  | some (.inl (t, n, _)) => if t < 5 then some n else none
  | _ => none
theorem ai_obj_s {h : ai_H} {a ci : Nat} {fs : List Value} (q : ai_obj h a ci = some fs) : h.1[a]? = some (.inr (ci, fs)) := by
  unfold ai_obj at q
  split at q
  next c f e =>
    split at q
    next hc => subst hc; cases q; exact e
    next => cases q
  next => cases q
theorem ai_arr_s {h : ai_H} {a t : Nat} {x : Nat × (Nat → Int32)} (q : ai_arr h a t = some x) : h.1[a]? = some (.inl (t, x.1, .inl x.2)) := by
  unfold ai_arr at q
  split at q
  next c n f e =>
    split at q
    next hc => subst hc; cases q; exact e
    next => cases q
  next => cases q
theorem ai_arq_s {h : ai_H} {a : Nat} {x : Nat × Nat × (Nat → Option Nat)} (q : ai_arq h a = some x) : h.1[a]? = some (.inl (x.1, x.2.1, .inr x.2.2)) := by
  unfold ai_arq at q
  split at q
  next c n f e => cases q; exact e
  next => cases q
theorem ai_alen_s {h : ai_H} {a n : Nat} (q : ai_alen h a = some n) : ∃ t x, h.1[a]? = some (.inl (t, n, x)) ∧ t < 5 := by
  unfold ai_alen at q
  split at q
  next c n' f e =>
    split at q
    next hc => cases q; exact ⟨_, _, e, hc⟩
    next => cases q
  next => cases q
def ai_nf (c : Nat) : Nat := match ai_cl[c]? with
  | some r => r.2.2
  | none => 0
def ai_fs0 (c : Nat) : List Value := (List.range (ai_nf c)).map (fun k => defaultValue (ai_ft c k))
def ai_fin (c k : Nat) : Bool := match ai_cl[c]? with
  | some r => (r.2.1 k).2.2.2
  | none => false
def ai_nofl (v : Value) : Bool := match v with
  | .float _ => false
  | _ => true
def ai_okp (nm : MethodName) (c k : Nat) (v : Value) : Bool := ai_nofl v && ((match ai_fin c k with
  | true => decide (nm.name = "<init>" ∧ nm.cls = ai_Rn c)
  | false => true) && (decide (narrow (ai_ft c k) v = v) && fits (ai_ft c k) v))
def ai_sum (st : List Value) : Nat := (st.map fun v => v.category).sum
def ai_ow (mn : Nat) : Nat := match ai_M[mn]? with
  | some q => q.2.2.2.2
  | none => 99
def ai_ml (mn : Nat) : Nat := match ai_M[mn]? with
  | some q => q.2.2.1
  | none => 0
def ai_rt (mn : Nat) : Option FieldType := match ai_M[mn]? with
  | some q => q.2.2.2.1
  | none => none
def ai_nm (mn : Nat) : MethodName := match ai_M[mn]? with
  | some q => q.1
  | none => yL_law
def ai_bc (mn : Nat) : ByteArray := match ai_M[mn]? with
  | some q => q.2.1
  | none => code
def ai_ref {β : Type} (v : Value) (f : Nat → Option β) : Option β := match v with
  | .ref a => f a
  | _ => none
theorem ai_ref_s {β : Type} {v : Value} {f : Nat → Option β} {z : β} (h : ai_ref v f = some z) : ∃ x, v = .ref x ∧ f x = some z := by
  unfold ai_ref at h; split at h
  · exact ⟨_, rfl, h⟩
  · cases h
def ai_c1 {β : Type} (st : List Value) (f : Value → List Value → Option β) : Option β := match st with
  | v :: r => f v r
  | _ => none
theorem ai_c1_s {β : Type} {st : List Value} {f : Value → List Value → Option β} {z : β} (h : ai_c1 st f = some z) : ∃ v r, st = v :: r ∧ f v r = some z := by
  unfold ai_c1 at h; split at h
  · exact ⟨_, _, rfl, h⟩
  · cases h
/-- a call: the parameters off the stack -/
def ai_cll (h : ai_H) (mn n : Nat) (vir : Bool) (ini : Bool) (st : List Value) : Option (Nat × List Value × List Value) :=
  ai_c1 (st.drop n) fun v rest => ai_ref v fun a => ai_g (decide (ai_sum rest ≤ 8) && (decide ((lg_sl (.ref a :: (st.take n).reverse)).length ≤ ai_ml mn) && (decide (((ai_nm mn).name = "<init>") ↔ ini = true) && (!ai_Sm.contains mn && (match vir with
    | true => (ai_obj h a (ai_ow mn)).isSome
    | false => true))))) (some (mn, .ref a :: (st.take n).reverse, rest))
def ai_do (S : ai_S) (mn pc : Nat) (L : ai_L) (st : List Value) (h : ai_H) : Instr → Option ai_Y
  | .iconst n => ai_nx (pc + 1) L (.int (Int32.ofInt n) :: st) h
  | .bipush n => ai_nx (pc + 2) L (.int (Int8.ofInt n).toInt32 :: st) h
  | .sipush n => ai_nx (pc + 3) L (.int (Int16.ofInt n).toInt32 :: st) h
  | .lconst n => ai_nx (pc + 1) L (.long (Int64.ofNat (n : Nat)) :: st) h
  | .aconst_null => ai_nx (pc + 1) L (.null :: st) h
  | .ldc i => ai_o (ai_get ai_K (ai_ow mn) i) fun v => ai_nx (pc + 2) L (.int v :: st) h
  | .ldc_w i => ai_o (ai_get ai_K (ai_ow mn) i) fun v => ai_nx (pc + 3) L (.int v :: st) h
  | .ldc2_w i => ai_o (ai_get ai_J (ai_ow mn) i) fun v => ai_nx (pc + 3) L (.long v :: st) h
  | .iload_n k => ai_o (ai_look L (k : Nat)) fun v => ai_ldi v fun x => ai_nx (pc + 1) L (.int x :: st) h
  | .iload k => ai_o (ai_look L k) fun v => ai_ldi v fun x => ai_nx (pc + 2) L (.int x :: st) h
  | .lload_n k => ai_o (ai_look L (k : Nat)) fun v => ai_ldl v fun x => ai_nx (pc + 1) L (.long x :: st) h
  | .lload k => ai_o (ai_look L k) fun v => ai_ldl v fun x => ai_nx (pc + 2) L (.long x :: st) h
  | .aload_n k => ai_o (ai_look L (k : Nat)) fun v => ai_g (ai_iref v) (ai_nx (pc + 1) L (v :: st) h)
  | .aload k => ai_o (ai_look L k) fun v => ai_g (ai_iref v) (ai_nx (pc + 2) L (v :: st) h)
  | .istore_n k => ai_m1 st fun x r => ai_g (decide ((k : Nat) < ai_ml mn)) (ai_nx (pc + 1) (ai_put k (.int x) L) r h)
  | .istore k => ai_m1 st fun x r => ai_g (decide (k < ai_ml mn)) (ai_nx (pc + 2) (ai_put k (.int x) L) r h)
  | .lstore k => ai_c1 st fun v r => ai_ldl v fun x => ai_g (decide (k + 1 < ai_ml mn)) (ai_nx (pc + 2) (ai_put2 k (.long x) L) r h)
  | .astore_n k => ai_c1 st fun v r => ai_g (decide ((k : Nat) < ai_ml mn) && ai_iref v) (ai_nx (pc + 1) (ai_put k v L) r h)
  | .astore k => ai_c1 st fun v r => ai_g (decide (k < ai_ml mn) && ai_iref v) (ai_nx (pc + 2) (ai_put k v L) r h)
  | .iinc k n => ai_o (ai_look L k) fun v => ai_ldi v fun x => ai_g (decide (k < ai_ml mn)) (ai_nx (pc + 3) (ai_put k (.int (x + Int32.ofInt n)) L) st h)
  | .iadd => ai_m2 st fun x y r => ai_nx (pc + 1) L (.int (x + y) :: r) h
  | .isub => ai_m2 st fun x y r => ai_nx (pc + 1) L (.int (x - y) :: r) h
  | .imul => ai_m2 st fun x y r => ai_nx (pc + 1) L (.int (x * y) :: r) h
  | .iand => ai_m2 st fun x y r => ai_nx (pc + 1) L (.int (x &&& y) :: r) h
  | .ior => ai_m2 st fun x y r => ai_nx (pc + 1) L (.int (x ||| y) :: r) h
  | .ixor => ai_m2 st fun x y r => ai_nx (pc + 1) L (.int (x ^^^ y) :: r) h
  | .idiv => ai_m2 st fun x y r => ai_g (decide (¬ y = 0)) (ai_nx (pc + 1) L (.int (x / y) :: r) h)
  | .irem => ai_m2 st fun x y r => ai_g (decide (¬ y = 0)) (ai_nx (pc + 1) L (.int (x - x / y * y) :: r) h)
  | .ineg => ai_m1 st fun x r => ai_nx (pc + 1) L (.int (-x) :: r) h
  | .ishl => ai_m2 st fun x y r => ai_nx (pc + 1) L (.int (x <<< (y &&& 31)) :: r) h
  | .ishr => ai_m2 st fun x y r => ai_nx (pc + 1) L (.int (x >>> (y &&& 31)) :: r) h
  | .iushr => ai_m2 st fun x y r => ai_nx (pc + 1) L (.int (x.toUInt32 >>> (y.toUInt32 &&& Int32.toUInt32 31)).toInt32 :: r) h
  | .lsub => ai_l2 st fun x y r => ai_nx (pc + 1) L (.long (x - y) :: r) h
  | .land => ai_l2 st fun x y r => ai_nx (pc + 1) L (.long (x &&& y) :: r) h
  | .lor => ai_l2 st fun x y r => ai_nx (pc + 1) L (.long (x ||| y) :: r) h
  | .lxor => ai_l2 st fun x y r => ai_nx (pc + 1) L (.long (x ^^^ y) :: r) h
  | .lcmp => ai_l2 st fun x y r => ai_nx (pc + 1) L (.int (lg_cmp x y) :: r) h
  | .lshl => ai_lh st fun x y r => ai_nx (pc + 1) L (.long (x <<< (y.toInt64 &&& 63)) :: r) h
  | .lshr => ai_lh st fun x y r => ai_nx (pc + 1) L (.long (x >>> (y.toInt64 &&& 63)) :: r) h
  | .lushr => ai_lh st fun x y r => ai_nx (pc + 1) L (.long (x.toUInt64 >>> (y.toInt64.toUInt64 &&& Int64.toUInt64 63)).toInt64 :: r) h
  | .dup => ai_c1 st fun v r => ai_g (decide (v.category = 1)) (ai_nx (pc + 1) L (v :: v :: r) h)
  | .dup2 => ai_c1 st fun v r => ai_c1 r fun w q => ai_g (decide (v.category = 1) && decide (w.category = 1)) (ai_nx (pc + 1) L (v :: w :: v :: w :: q) h)
  | .goto off => ai_br pc off true L st h
  | .ifCond c off => ai_m1 st fun x r => ai_br pc off (ai_cnd c x 0) L r h
  | .if_icmp c off => ai_m2 st fun x y r => ai_br pc off (ai_cnd c x y) L r h
  | .ifnull off => ai_c1 st fun v r => (match v with
    | .ref _ => ai_br pc off false L r h
    | .null => ai_br pc off true L r h
    | _ => none)
  | .ifnonnull off => ai_c1 st fun v r => (match v with
    | .ref _ => ai_br pc off true L r h
    | .null => ai_br pc off false L r h
    | _ => none)
  | .tableswitch d lo hi offs => ai_m1 st fun x r => if x.toInt < lo ∨ hi < x.toInt then ai_br pc d true L r h else ai_o (offs[(x.toInt - lo).toNat]?) fun off => ai_br pc off true L r h
  | .getfield i => ai_c1 st fun v r => ai_ref v fun a => ai_o (ai_get ai_F (ai_ow mn) i) fun q => ai_o (ai_obj h a q.1) fun fs => ai_o (fs[q.2]?) fun w => ai_nx (pc + 3) L (w :: r) h
  | .putfield i => ai_c1 st fun v r => ai_c1 r fun u r => ai_ref u fun a => ai_o (ai_get ai_F (ai_ow mn) i) fun q => ai_o (ai_obj h a q.1) fun fs => ai_g (decide (q.2 < fs.length) && ai_okp (ai_nm mn) q.1 q.2 v) (ai_nx (pc + 3) L r (h.1.set a (.inr (q.1, fs.set q.2 v)), h.2))
  | .getstatic i => ai_g (ai_Z.contains (ai_ow mn, i)) (ai_nx (pc + 3) L (.float 1 :: st) h)
  | .iaload => ai_m1 st fun i r => ai_c1 r fun u r => (match u with
    | .ref a => ai_o (ai_arr h a 0) fun q => ai_g (ai_in i q.1) (ai_nx (pc + 1) L (.int (q.2 i.toNatClampNeg) :: r) h)
    | .float u => ai_g (ai_in i (ai_ext S u).1) (ai_nx (pc + 1) L (.int ((ai_ext S u).2 i.toNatClampNeg) :: r) h)
    | _ => none)
  | .baload => ai_m1 st fun i r => ai_c1 r fun u r => ai_ref u fun a => ai_o (ai_arr h a 1) fun q => ai_g (ai_in i q.1) (ai_nx (pc + 1) L (.int (q.2 i.toNatClampNeg) :: r) h)
  | .iastore => ai_m2 st fun i x r => ai_c1 r fun u r => ai_ref u fun a => ai_o (ai_arr h a 0) fun q => ai_g (ai_in i q.1) (ai_nx (pc + 1) L r (h.1.set a (.inl (0, q.1, .inl (upd q.2 i.toNatClampNeg x))), h.2))
  | .bastore => ai_m2 st fun i x r => ai_c1 r fun u r => ai_ref u fun a => ai_o (ai_arr h a 1) fun q => ai_g (ai_in i q.1 && decide (x &&& 1 = x)) (ai_nx (pc + 1) L r (h.1.set a (.inl (1, q.1, .inl (upd q.2 i.toNatClampNeg x))), h.2))
  | .aaload => ai_m1 st fun i r => ai_c1 r fun u r => ai_ref u fun a => ai_o (ai_arq h a) fun q => ai_g (ai_in i q.2.1 && (decide (2 ≤ q.1) && decide (q.1 < 5))) (ai_nx (pc + 1) L (va_rf (q.2.2 i.toNatClampNeg) :: r) h)
  | .aastore => ai_c1 st fun v r => ai_m1 r fun i r => ai_c1 r fun u r => ai_ref u fun a => ai_o (ai_arq h a) fun q => ai_g (ai_in i q.2.1 && (decide (2 ≤ q.1) && decide (q.1 < 5))) (match v with
    | .null => ai_nx (pc + 1) L r (h.1.set a (.inl (q.1, q.2.1, .inr (va_up q.2.2 i.toNatClampNeg none))), h.2)
    | .ref w => (match h.1[w]? with
      | some (.inr (c, _)) => ai_g (decide (ai_ao c = some q.1)) (ai_nx (pc + 1) L r (h.1.set a (.inl (q.1, q.2.1, .inr (va_up q.2.2 i.toNatClampNeg (some w)))), h.2))
      | _ => none)
    | _ => none)
  | .arraylength => ai_c1 st fun u r => (match u with
    | .ref a => ai_o (ai_alen h a) fun n => ai_nx (pc + 1) L (.int (Int32.ofNat n) :: r) h
    | .float u => ai_nx (pc + 1) L (.int (Int32.ofNat (ai_ext S u).1) :: r) h
    | _ => none)
  | .new i => ai_o (ai_get ai_N (ai_ow mn) i) fun c => ai_g (decide (c < 11)) (ai_nx (pc + 3) L (.ref h.1.length :: st) (h.1 ++ [.inr (c, ai_fs0 c)], h.2 + ai_nf c))
  | .newarray t => ai_m1 st fun n r => ai_g (decide (¬ n < 0) && decide (n.toNatClampNeg ≤ 100000)) (match t with
    | .int => ai_nx (pc + 2) L (.ref h.1.length :: r) (h.1 ++ [.inl (0, n.toNatClampNeg, .inl (fun _ => 0))], h.2 + n.toNatClampNeg)
    | .boolean => ai_nx (pc + 2) L (.ref h.1.length :: r) (h.1 ++ [.inl (1, n.toNatClampNeg, .inl (fun _ => 0))], h.2 + n.toNatClampNeg)
    | _ => none)
  | .anewarray i => ai_m1 st fun n r => ai_g (decide (¬ n < 0) && decide (n.toNatClampNeg ≤ 100000)) (ai_o (ai_get ai_N (ai_ow mn) i) fun c => ai_o (ai_ao c) fun t => ai_nx (pc + 3) L (.ref h.1.length :: r) (h.1 ++ [.inl (t, n.toNatClampNeg, .inr (fun _ => none))], h.2 + n.toNatClampNeg))
  | .invokespecial _ => ai_c1 st fun v r => ai_ref v fun _ => ai_g (decide (ai_sum r ≤ 8)) (ai_nx (pc + 3) L r h)
  | _ => none
def ai_inv (mn : Nat) (st : List Value) (h : ai_H) : Instr → Option (Nat × List Value × List Value)
  | .invokevirtual i => ai_o (ai_get ai_G (ai_ow mn) i) fun q => ai_cll h q.1 q.2 true false st
  | .invokespecial i => (match ai_get ai_Q (ai_ow mn) i with
    | some k => ai_cll h k 0 false true st
    | none => ai_o (ai_get ai_G (ai_ow mn) i) fun q => ai_cll h q.1 q.2 false true st)
  | .invokestatic i => ai_o (ai_get ai_G (ai_ow mn) i) fun q => ai_g (decide (q.2 ≤ st.length) && (decide (ai_sum (st.drop q.2) ≤ 8) && (decide ((lg_sl (st.take q.2).reverse).length ≤ ai_ml q.1) && ai_Sm.contains q.1))) (some (q.1, (st.take q.2).reverse, st.drop q.2))
  | _ => none
def ai_obr (t : Option FieldType) : Bool := match t with
  | some (.object _) => true
  | _ => false
def ai_ret (mn : Nat) (st : List Value) : Instr → Option (Option Value)
  | .return_ => (match st with
    | [] => ai_g (decide (ai_rt mn = none)) (some none)
    | _ => none)
  | .ireturn => ai_m1 st fun x r => ai_g (r.isEmpty && (decide (ai_rt mn = some .int) || (decide (ai_rt mn = some .boolean) && decide (x &&& 1 = x)))) (some (some (.int x)))
  | .areturn => ai_c1 st fun v r => ai_g (r.isEmpty && (ai_obr (ai_rt mn) && (ai_iref v && ai_nofl v))) (some (some v))
  | _ => none
/-- 0: goes on, 1: a call, 2: an end -/
def ai_kd (mn : Nat) : Instr → Nat
  | .invokevirtual _ => 1
  | .invokestatic _ => 1
  | .invokespecial i => if ai_O.contains (ai_ow mn, i) = true then 0 else 1
  | .return_ => 2
  | .ireturn => 2
  | .areturn => 2
  | _ => 0
def ai_stp (S : ai_S) (mn pc : Nat) (L : ai_L) (st : List Value) (h : ai_H) (i : Instr) : Option ai_R := match ai_kd mn i with
  | 0 => (ai_do S mn pc L st h i).map .inl
  | 1 => (ai_inv mn st h i).map (fun q => .inr (.inl q))
  | _ => (ai_ret mn st i).map (fun q => .inr (.inr q))
def ai_step (S : ai_S) (mn pc : Nat) (L : ai_L) (st : List Value) (h : ai_H) : Option ai_R := match ai_I mn pc with
  | some i => ai_stp S mn pc L st h i
  | none => none
def ai_run (S : ai_S) : Nat → Nat → Nat → Nat → ai_L → List Value → ai_H → Option (Option Value × ai_H)
  | 0, _, _, _, _, _, _ => none
  | n + 1, d, mn, pc, L, st, h => match ai_step S mn pc L st h with
    | none => none
    | some (.inl q) => ai_run S n d mn q.1 q.2.1 q.2.2.1 q.2.2.2
    | some (.inr (.inl q)) => (match d with
      | 0 => none
      | d' + 1 => (match ai_run S n d' q.1 0 (lv_args 0 q.2.1) [] h with
        | none => none
        | some x => ai_run S n (d' + 1) mn (pc + 3) L (x.1.toList ++ q.2.2) x.2))
    | some (.inr (.inr r)) => some (r, h)
theorem ai_run_succ {S : ai_S} : ∀ (n d mn pc : Nat) (L : ai_L) (st : List Value) (h : ai_H) (x : Option Value × ai_H), ai_run S n d mn pc L st h = some x → ai_run S (n + 1) d mn pc L st h = some x := by
  intro n
  induction n with
  | zero => intro d mn pc L st h x e; simp [ai_run] at e
  | succ n ih =>
    intro d mn pc L st h x e
    rw [ai_run] at e ⊢
    cases hs : ai_step S mn pc L st h with
    | none => rw [hs] at e; cases e
    | some q =>
      rw [hs] at e
      rcases q with q | q | q
      · exact ih _ _ _ _ _ _ _ e
      · cases d with
        | zero => cases e
        | succ d =>
          dsimp only at e ⊢
          cases hr : ai_run S n d q.1 0 (lv_args 0 q.2.1) [] h with
          | none => rw [hr] at e; cases e
          | some y =>
            rw [hr] at e
            rw [ih _ _ _ _ _ _ _ hr]
            exact ih _ _ _ _ _ _ _ e
      · exact e
theorem ai_run_le {S : ai_S} {n k d mn pc : Nat} {L : ai_L} {st : List Value} {h : ai_H} {x : Option Value × ai_H} (hk : n ≤ k) (e : ai_run S n d mn pc L st h = some x) : ai_run S k d mn pc L st h = some x := by
  induction hk with
  | refl => exact e
  | step _ ih => exact ai_run_succ _ _ _ _ _ _ _ _ ih
/-- from here the method comes to an end with Q -/
def RR (S : ai_S) (d mn pc : Nat) (L : ai_L) (st : List Value) (h : ai_H) (Q : Option Value → ai_H → Prop) : Prop := ∃ n x, ai_run S n d mn pc L st h = some x ∧ Q x.1 x.2
theorem RR.next {S : ai_S} {d mn pc : Nat} {L : ai_L} {st : List Value} {h : ai_H} {Q : Option Value → ai_H → Prop} {q : Nat × ai_L × List Value × ai_H} (hs : ai_step S mn pc L st h = some (.inl q)) : RR S d mn pc L st h Q = RR S d mn q.1 q.2.1 q.2.2.1 q.2.2.2 Q := by
  refine propext ⟨fun ⟨n, x, e, hq⟩ => ?_, fun ⟨n, x, e, hq⟩ => ⟨n + 1, x, ?_, hq⟩⟩
  · cases n with
    | zero => simp [ai_run] at e
    | succ n => rw [ai_run, hs] at e; exact ⟨n, x, e, hq⟩
  · rw [ai_run, hs]; exact e
theorem RR.ret {S : ai_S} {d mn pc : Nat} {L : ai_L} {st : List Value} {h : ai_H} {Q : Option Value → ai_H → Prop} {r : Option Value} (hs : ai_step S mn pc L st h = some (.inr (.inr r))) : RR S d mn pc L st h Q = Q r h := by
  refine propext ⟨fun ⟨n, x, e, hq⟩ => ?_, fun hq => ⟨1, (r, h), ?_, hq⟩⟩
  · cases n with
    | zero => simp [ai_run] at e
    | succ n => rw [ai_run, hs] at e; cases e; exact hq
  · rw [ai_run, hs]
theorem RR.call {S : ai_S} {d mn pc : Nat} {L : ai_L} {st : List Value} {h : ai_H} {Q : Option Value → ai_H → Prop} {q : Nat × List Value × List Value} (hs : ai_step S mn pc L st h = some (.inr (.inl q))) :
    RR S (d + 1) mn pc L st h Q = RR S d q.1 0 (lv_args 0 q.2.1) [] h (fun r h1 => RR S (d + 1) mn (pc + 3) L (r.toList ++ q.2.2) h1 Q) := by
  refine propext ⟨fun ⟨n, x, e, hq⟩ => ?_, fun ⟨n, x, e, k, y, e2, hq⟩ => ⟨n + k + 1, y, ?_, hq⟩⟩
  · cases n with
    | zero => simp [ai_run] at e
    | succ n =>
      rw [ai_run, hs] at e
      dsimp only at e
      cases hr : ai_run S n d q.1 0 (lv_args 0 q.2.1) [] h with
      | none => rw [hr] at e; cases e
      | some y => rw [hr] at e; exact ⟨n, y, hr, n, x, e, hq⟩
  · rw [ai_run, hs]
    dsimp only
    rw [ai_run_le (Nat.le_add_right n k) e]
    exact ai_run_le (Nat.le_add_left k n) e2
/-- one result: R as an equation -/
theorem RR.val {S : ai_S} {d mn pc : Nat} {L : ai_L} {st : List Value} {h h' : ai_H} {r : Option Value} (e : RR S d mn pc L st h (fun r1 h1 => r1 = r ∧ h1 = h')) (Q : Option Value → ai_H → Prop) : RR S d mn pc L st h Q = Q r h' := by
  obtain ⟨n, x, e, e1, e2⟩ := e
  refine propext ⟨fun ⟨k, y, e3, hq⟩ => ?_, fun hq => ⟨n, x, e, by rw [e1, e2]; exact hq⟩⟩
  have a := ai_run_le (Nat.le_add_right n k) e
  have b := ai_run_le (Nat.le_add_left k n) e3
  rw [a] at b
  cases b
  rw [← e1, ← e2]; exact hq
theorem RR.mono {S : ai_S} {d mn pc : Nat} {L : ai_L} {st : List Value} {h : ai_H} {Q Q' : Option Value → ai_H → Prop} (e : RR S d mn pc L st h Q) (hq : ∀ r h1, Q r h1 → Q' r h1) : RR S d mn pc L st h Q' := by
  obtain ⟨n, x, e, q⟩ := e
  exact ⟨n, x, e, hq _ _ q⟩
end
section
set_option maxRecDepth 100000 in
theorem ai_kz : List.zipWith (fun (q : MethodName × ByteArray × Nat × Option FieldType × Nat) (t : List (Option Instr)) => ai_chk q.2.1 t) ai_M ai_T = [ai_chk cX0_init ai_t0, ai_chk cX0_clear ai_t1, ai_chk cX0_hand ai_t2, ai_chk cX0_findMeetings ai_t3, ai_chk cX0_waitFrom ai_t4, ai_chk cX1_init ai_t5, ai_chk cX1_setOut ai_t6, ai_chk cX1_nextWire ai_t7, ai_chk cX1_readyAt ai_t8, ai_chk cX1_goesAheadOf ai_t9, ai_chk cX1_readyFor ai_t10, ai_chk cX1_waitsFor ai_t11, ai_chk cX2_init ai_t12, ai_chk cX2_hasBox ai_t13, ai_chk cX2_hasPair ai_t14, ai_chk cX2_hasWire ai_t15, ai_chk cX2_hasTick ai_t16, ai_chk cX2_makeBox ai_t17, ai_chk cX2_makeWire ai_t18, ai_chk cX2_rightClocks ai_t19, ai_chk cX2_timeOn ai_t20, ai_chk cX2_crossing ai_t21, ai_chk cX2_holdBehind ai_t22, ai_chk cX2_stayBehind ai_t23, ai_chk cX2_offAt ai_t24, ai_chk cX2_startOf ai_t25, ai_chk cX2_beginOf ai_t26, ai_chk cX2_hasDoor ai_t27, ai_chk cX3_init ai_t28, ai_chk cX3_begin ai_t29, ai_chk cX3_fitFewest ai_t30, ai_chk cX3_mirrored ai_t31, ai_chk cX3_fit ai_t32, ai_chk cX3_showDoors ai_t33, ai_chk cX3_giveDoors ai_t34, ai_chk cX3_keepPlaces ai_t35, ai_chk cX3_search ai_t36, ai_chk cX3_searchTicks ai_t37, ai_chk cX4_init ai_t38, ai_chk cX4_tell ai_t39, ai_chk cX4_letter ai_t40, ai_chk cX4_settle ai_t41, ai_chk cX4_setOutAll ai_t42, ai_chk cX4_findHead ai_t43, ai_chk cX4_beginOf ai_t44, ai_chk cX4_earliestWire ai_t45, ai_chk cX4_beginOn ai_t46, ai_chk cX4_longestRow ai_t47, ai_chk cX4_waitingAt ai_t48, ai_chk cX4_ended ai_t49, ai_chk cX5_init ai_t50, ai_chk cX5_clear ai_t51, ai_chk cX5_fill ai_t52, ai_chk cX5_has ai_t53, ai_chk cX5_include ai_t54, ai_chk cX5_exclude ai_t55, ai_chk cX5_includePutOff ai_t56, ai_chk cX5_becomeLetters ai_t57, ai_chk cX5_lettersOf ai_t58, ai_chk cX5_includeTurned ai_t59, ai_chk cX6_init ai_t60, ai_chk cX6_offer ai_t61, ai_chk cX6_wayOf ai_t62, ai_chk cX6_wayNow ai_t63, ai_chk cX7_init ai_t64, ai_chk cX7_tell ai_t65, ai_chk cX7_one ai_t66, ai_chk cX7_placedOne ai_t67, ai_chk cX7_allOfThem ai_t68, ai_chk cX7_withPlace ai_t69, ai_chk cX7_withoutPlace ai_t70, ai_chk cX8_init ai_t71, ai_chk cX8_latenessOf ai_t72, ai_chk cX8_wireAt ai_t73, ai_chk cX8_wiresIn ai_t74, ai_chk cX8_hasHop ai_t75, ai_chk cX8_hopOn ai_t76, ai_chk cX8_shiftOf ai_t77, ai_chk cX8_atRank ai_t78, ai_chk cX8_nextBehind ai_t79, ai_chk cX8_walk ai_t80, ai_chk cX8_offer ai_t81, ai_chk cX9_init ai_t82, ai_chk cX9_box ai_t83, ai_chk cX9_wire ai_t84, ai_chk cX9_cycle ai_t85, ai_chk cX9_drift ai_t86, ai_chk cX9_way ai_t87, ai_chk cX9_stream ai_t88, ai_chk cX9_strike ai_t89, ai_chk cX9_plan ai_t90, ai_chk cX9_add ai_t91, ai_chk cX9_stir ai_t92, ai_chk cX9_place ai_t93, ai_chk cX9_tries ai_t94, ai_chk cX9_door ai_t95, ai_chk cX9_waits ai_t96, ai_chk cX9_worst ai_t97, ai_chk cX9_clock ai_t98, ai_chk cX9_send ai_t99, ai_chk cX9_leaves ai_t100, ai_chk cX9_room ai_t101, ai_chk cX9_plain ai_t102, ai_chk cX9_most ai_t103, ai_chk cX9_count ai_t104, ai_chk cX9_findChoices ai_t105, ai_chk cX9_isPeriod ai_t106, ai_chk cX9_isInTime ai_t107, ai_chk cX9_isCycle ai_t108, ai_chk cX9_isSize ai_t109, ai_chk cX9_within ai_t110, ai_chk cX9_aheadOfEnd ai_t111, ai_chk cX10_init ai_t112, ai_chk cX10_isBox ai_t113, ai_chk cX10_isWire ai_t114, ai_chk cX10_box ai_t115, ai_chk cX10_wire ai_t116, ai_chk cX10_cycle ai_t117, ai_chk cX10_drift ai_t118, ai_chk cX10_late ai_t119, ai_chk cX10_isSeen ai_t120, ai_chk cX10_findWays ai_t121, ai_chk cX10_keep ai_t122, ai_chk cX10_isBehind ai_t123, ai_chk cX10_isSize ai_t124, ai_chk cX10_way ai_t125, ai_chk cX10_stream ai_t126, ai_chk cX10_strike ai_t127, ai_chk cX10_start ai_t128, ai_chk cX10_meets ai_t129, ai_chk cX10_put ai_t130, ai_chk cX10_lay ai_t131, ai_chk cX10_seek ai_t132, ai_chk cX10_seekWith ai_t133, ai_chk cX10_plan ai_t134, ai_chk cX10_add ai_t135, ai_chk cX10_placed ai_t136, ai_chk cX10_bits ai_t137, ai_chk cX10_isAhead ai_t138, ai_chk cX10_nextSet ai_t139, ai_chk cX10_stir ai_t140, ai_chk cX10_isPlace ai_t141, ai_chk cX10_place ai_t142, ai_chk cX10_tries ai_t143, ai_chk cX10_door ai_t144, ai_chk cX10_rest ai_t145, ai_chk cX10_isOpen ai_t146, ai_chk cX10_waits ai_t147, ai_chk cX10_worst ai_t148, ai_chk cX10_clock ai_t149, ai_chk cX10_send ai_t150, ai_chk cX10_leave ai_t151, ai_chk cX10_leaves ai_t152, ai_chk cX10_room ai_t153, ai_chk cX10_follow ai_t154, ai_chk cX10_look ai_t155, ai_chk cX10_go ai_t156, ai_chk cX10_ahead ai_t157, ai_chk cX10_plain ai_t158, ai_chk cX10_most ai_t159, ai_chk cX10_count ai_t160, ai_chk cJ6_bitCount_0f7a4 ai_t161, ai_chk cJ9_floorMod_7cf53 ai_t162, ai_chk cJ9_max_7cf53 ai_t163, ai_chk cJ9_min_7cf53 ai_t164, ai_chk cL_law ai_t165] := rfl
set_option maxRecDepth 100000 in
theorem ai_kall : ∀ b ∈ List.zipWith (fun (q : MethodName × ByteArray × Nat × Option FieldType × Nat) (t : List (Option Instr)) => ai_chk q.2.1 t) ai_M ai_T, b = true := by
  rw [ai_kz]
  simp only [List.forall_mem_cons, List.forall_mem_nil]
  exact ⟨ai_k0, ai_k1, ai_k2, ai_k3, ai_k4, ai_k5, ai_k6, ai_k7, ai_k8, ai_k9, ai_k10, ai_k11, ai_k12, ai_k13, ai_k14, ai_k15, ai_k16, ai_k17, ai_k18, ai_k19, ai_k20, ai_k21, ai_k22, ai_k23, ai_k24, ai_k25, ai_k26, ai_k27, ai_k28, ai_k29, ai_k30, ai_k31, ai_k32, ai_k33, ai_k34, ai_k35, ai_k36, ai_k37, ai_k38, ai_k39, ai_k40, ai_k41, ai_k42, ai_k43, ai_k44, ai_k45, ai_k46, ai_k47, ai_k48, ai_k49, ai_k50, ai_k51, ai_k52, ai_k53, ai_k54, ai_k55, ai_k56, ai_k57, ai_k58, ai_k59, ai_k60, ai_k61, ai_k62, ai_k63, ai_k64, ai_k65, ai_k66, ai_k67, ai_k68, ai_k69, ai_k70, ai_k71, ai_k72, ai_k73, ai_k74, ai_k75, ai_k76, ai_k77, ai_k78, ai_k79, ai_k80, ai_k81, ai_k82, ai_k83, ai_k84, ai_k85, ai_k86, ai_k87, ai_k88, ai_k89, ai_k90, ai_k91, ai_k92, ai_k93, ai_k94, ai_k95, ai_k96, ai_k97, ai_k98, ai_k99, ai_k100, ai_k101, ai_k102, ai_k103, ai_k104, ai_k105, ai_k106, ai_k107, ai_k108, ai_k109, ai_k110, ai_k111, ai_k112, ai_k113, ai_k114, ai_k115, ai_k116, ai_k117, ai_k118, ai_k119, ai_k120, ai_k121, ai_k122, ai_k123, ai_k124, ai_k125, ai_k126, ai_k127, ai_k128, ai_k129, ai_k130, ai_k131, ai_k132, ai_k133, ai_k134, ai_k135, ai_k136, ai_k137, ai_k138, ai_k139, ai_k140, ai_k141, ai_k142, ai_k143, ai_k144, ai_k145, ai_k146, ai_k147, ai_k148, ai_k149, ai_k150, ai_k151, ai_k152, ai_k153, ai_k154, ai_k155, ai_k156, ai_k157, ai_k158, ai_k159, ai_k160, ai_k161, ai_k162, ai_k163, ai_k164, ai_k165, fun _ hx => absurd hx List.not_mem_nil⟩
theorem ai_dec {mn pc : Nat} {i : Instr} (h : ai_I mn pc = some i) : ∃ q, ai_M[mn]? = some q ∧ ∃ len, decode q.2.1 pc = .ok (i, len) ∧ (ai_sw i = true ∨ len = ai_len i) := by
  unfold ai_I at h
  split at h
  next t ht =>
    split at h
    next j hj =>
      cases h
      have hl : mn < ai_T.length := (List.getElem?_eq_some_iff.mp ht).1
      have hlen : ai_M.length = ai_T.length := by decide +kernel
      have hq : ai_M[mn]? = some ai_M[mn] := List.getElem?_eq_getElem (by rw [hlen]; exact hl)
      refine ⟨_, hq, ?_⟩
      refine ai_chk_s (T := t) ?_ hj
      have hz : (List.zipWith (fun (q : MethodName × ByteArray × Nat × Option FieldType × Nat) (t : List (Option Instr)) => ai_chk q.2.1 t) ai_M ai_T)[mn]? = some (ai_chk ai_M[mn].2.1 t) := by
        rw [List.getElem?_zipWith, hq, ht]
      exact ai_kall _ (List.mem_of_getElem? hz)
    next => cases h
  next => cases h
end
section
def ai_pM (r : MethodName × ByteArray × Nat × Option FieldType × Nat) (j : Nat) : Prop := lw_tbl[j]? = some (Jvm.Cond.code r.1 r.2.1 r.2.2.1 r.2.2.2.1)
def ai_Mx : List Nat := [152, 449, 470, 530, 641, 660, 747, 755, 764, 760, 801, 810, 63, 298, 294, 347, 620, 286, 302, 319, 476, 343, 725, 358, 716, 603, 712, 624, 188, 512, 575, 580, 520, 445, 457, 552, 525, 543, 223, 704, 741, 733, 737, 751, 768, 778, 782, 797, 806, 820, 159, 453, 534, 548, 497, 501, 538, 480, 489, 493, 381, 425, 466, 462, 135, 429, 441, 437, 516, 566, 561, 113, 361, 364, 595, 599, 627, 350, 331, 335, 339, 354, 55, 279, 290, 306, 315, 323, 368, 433, 508, 557, 571, 591, 611, 615, 636, 646, 651, 655, 708, 721, 729, 793, 814, 421, 372, 376, 309, 327, 282, 789, 825, 966, 1080, 958, 962, 970, 974, 997, 989, 985, 993, 1001, 981, 978, 1005, 1009, 1021, 1038, 1017, 1013, 1033, 1029, 1025, 1042, 1050, 1057, 1060, 1054, 1046, 1068, 1064, 1072, 1076, 1092, 1088, 1084, 1096, 1101, 1105, 1113, 1109, 1117, 1125, 1130, 1134, 1137, 1121, 1141, 1145, 583, 631, 385, 484]
set_option maxRecDepth 100000 in
theorem ai_cw0 : ai_pM (yX0_init, cX0_init, 3, none, 0) 152 := rfl
set_option maxRecDepth 100000 in
theorem ai_cw1 : ai_pM (yX0_clear, cX0_clear, 2, none, 0) 449 := rfl
set_option maxRecDepth 100000 in
theorem ai_cw2 : ai_pM (yX0_hand, cX0_hand, 8, none, 0) 470 := rfl
set_option maxRecDepth 100000 in
theorem ai_cw3 : ai_pM (yX0_findMeetings, cX0_findMeetings, 9, none, 0) 530 := rfl
set_option maxRecDepth 100000 in
theorem ai_cw4 : ai_pM (yX0_waitFrom, cX0_waitFrom, 6, (some .int), 0) 641 := rfl
set_option maxRecDepth 100000 in
theorem ai_cw5 : ai_pM (yX1_init, cX1_init, 5, none, 1) 660 := rfl
set_option maxRecDepth 100000 in
theorem ai_cw6 : ai_pM (yX1_setOut, cX1_setOut, 3, none, 1) 747 := rfl
set_option maxRecDepth 100000 in
theorem ai_cw7 : ai_pM (yX1_nextWire, cX1_nextWire, 1, (some .int), 1) 755 := rfl
set_option maxRecDepth 100000 in
theorem ai_cw8 : ai_pM (yX1_readyAt, cX1_readyAt, 1, (some .int), 1) 764 := rfl
set_option maxRecDepth 100000 in
theorem ai_cw9 : ai_pM (yX1_goesAheadOf, cX1_goesAheadOf, 2, (some .boolean), 1) 760 := rfl
set_option maxRecDepth 100000 in
theorem ai_cw10 : ai_pM (yX1_readyFor, cX1_readyFor, 3, (some .int), 1) 801 := rfl
set_option maxRecDepth 100000 in
theorem ai_cw11 : ai_pM (yX1_waitsFor, cX1_waitsFor, 4, (some .boolean), 1) 810 := rfl
set_option maxRecDepth 100000 in
theorem ai_cw12 : ai_pM (yX2_init, cX2_init, 1, none, 2) 63 := rfl
set_option maxRecDepth 100000 in
theorem ai_cw13 : ai_pM (yX2_hasBox, cX2_hasBox, 2, (some .boolean), 2) 298 := rfl
set_option maxRecDepth 100000 in
theorem ai_cw14 : ai_pM (yX2_hasPair, cX2_hasPair, 3, (some .boolean), 2) 294 := rfl
set_option maxRecDepth 100000 in
theorem ai_cw15 : ai_pM (yX2_hasWire, cX2_hasWire, 2, (some .boolean), 2) 347 := rfl
set_option maxRecDepth 100000 in
theorem ai_cw16 : ai_pM (yX2_hasTick, cX2_hasTick, 2, (some .boolean), 2) 620 := rfl
set_option maxRecDepth 100000 in
theorem ai_cw17 : ai_pM (yX2_makeBox, cX2_makeBox, 2, (some .int), 2) 286 := rfl
set_option maxRecDepth 100000 in
theorem ai_cw18 : ai_pM (yX2_makeWire, cX2_makeWire, 5, (some .int), 2) 302 := rfl
set_option maxRecDepth 100000 in
theorem ai_cw19 : ai_pM (yX2_rightClocks, cX2_rightClocks, 2, none, 2) 319 := rfl
set_option maxRecDepth 100000 in
theorem ai_cw20 : ai_pM (yX2_timeOn, cX2_timeOn, 3, (some .int), 2) 476 := rfl
set_option maxRecDepth 100000 in
theorem ai_cw21 : ai_pM (yX2_crossing, cX2_crossing, 3, (some .int), 2) 343 := rfl
set_option maxRecDepth 100000 in
theorem ai_cw22 : ai_pM (yX2_holdBehind, cX2_holdBehind, 2, (some .int), 2) 725 := rfl
set_option maxRecDepth 100000 in
theorem ai_cw23 : ai_pM (yX2_stayBehind, cX2_stayBehind, 2, (some .int), 2) 358 := rfl
set_option maxRecDepth 100000 in
theorem ai_cw24 : ai_pM (yX2_offAt, cX2_offAt, 2, (some .int), 2) 716 := rfl
set_option maxRecDepth 100000 in
theorem ai_cw25 : ai_pM (yX2_startOf, cX2_startOf, 6, (some .int), 2) 603 := rfl
set_option maxRecDepth 100000 in
theorem ai_cw26 : ai_pM (yX2_beginOf, cX2_beginOf, 4, (some .int), 2) 712 := rfl
set_option maxRecDepth 100000 in
theorem ai_cw27 : ai_pM (yX2_hasDoor, cX2_hasDoor, 5, (some .boolean), 2) 624 := rfl
set_option maxRecDepth 100000 in
theorem ai_cw28 : ai_pM (yX3_init, cX3_init, 5, none, 3) 188 := rfl
set_option maxRecDepth 100000 in
theorem ai_cw29 : ai_pM (yX3_begin, cX3_begin, 1, none, 3) 512 := rfl
set_option maxRecDepth 100000 in
theorem ai_cw30 : ai_pM (yX3_fitFewest, cX3_fitFewest, 7, (some .int), 3) 575 := rfl
set_option maxRecDepth 100000 in
theorem ai_cw31 : ai_pM (yX3_mirrored, cX3_mirrored, 3, (some .int), 3) 580 := rfl
set_option maxRecDepth 100000 in
theorem ai_cw32 : ai_pM (yX3_fit, cX3_fit, 3, (some .int), 3) 520 := rfl
set_option maxRecDepth 100000 in
theorem ai_cw33 : ai_pM (yX3_showDoors, cX3_showDoors, 2, none, 3) 445 := rfl
set_option maxRecDepth 100000 in
theorem ai_cw34 : ai_pM (yX3_giveDoors, cX3_giveDoors, 3, none, 3) 457 := rfl
set_option maxRecDepth 100000 in
theorem ai_cw35 : ai_pM (yX3_keepPlaces, cX3_keepPlaces, 3, none, 3) 552 := rfl
set_option maxRecDepth 100000 in
theorem ai_cw36 : ai_pM (yX3_search, cX3_search, 5, (some .int), 3) 525 := rfl
set_option maxRecDepth 100000 in
theorem ai_cw37 : ai_pM (yX3_searchTicks, cX3_searchTicks, 6, (some .int), 3) 543 := rfl
set_option maxRecDepth 100000 in
theorem ai_cw38 : ai_pM (yX4_init, cX4_init, 4, none, 4) 223 := rfl
set_option maxRecDepth 100000 in
theorem ai_cw39 : ai_pM (yX4_tell, cX4_tell, 2, (some .int), 4) 704 := rfl
set_option maxRecDepth 100000 in
theorem ai_cw40 : ai_pM (yX4_letter, cX4_letter, 2, (some (.object "DoorNet$Letter")), 4) 741 := rfl
set_option maxRecDepth 100000 in
theorem ai_cw41 : ai_pM (yX4_settle, cX4_settle, 3, none, 4) 733 := rfl
set_option maxRecDepth 100000 in
theorem ai_cw42 : ai_pM (yX4_setOutAll, cX4_setOutAll, 3, none, 4) 737 := rfl
set_option maxRecDepth 100000 in
theorem ai_cw43 : ai_pM (yX4_findHead, cX4_findHead, 5, none, 4) 751 := rfl
set_option maxRecDepth 100000 in
theorem ai_cw44 : ai_pM (yX4_beginOf, cX4_beginOf, 6, (some .int), 4) 768 := rfl
set_option maxRecDepth 100000 in
theorem ai_cw45 : ai_pM (yX4_earliestWire, cX4_earliestWire, 4, (some .int), 4) 778 := rfl
set_option maxRecDepth 100000 in
theorem ai_cw46 : ai_pM (yX4_beginOn, cX4_beginOn, 6, none, 4) 782 := rfl
set_option maxRecDepth 100000 in
theorem ai_cw47 : ai_pM (yX4_longestRow, cX4_longestRow, 5, (some .int), 4) 797 := rfl
set_option maxRecDepth 100000 in
theorem ai_cw48 : ai_pM (yX4_waitingAt, cX4_waitingAt, 6, (some .int), 4) 806 := rfl
set_option maxRecDepth 100000 in
theorem ai_cw49 : ai_pM (yX4_ended, cX4_ended, 4, (some .int), 4) 820 := rfl
set_option maxRecDepth 100000 in
theorem ai_cw50 : ai_pM (yX5_init, cX5_init, 2, none, 5) 159 := rfl
set_option maxRecDepth 100000 in
theorem ai_cw51 : ai_pM (yX5_clear, cX5_clear, 1, none, 5) 453 := rfl
set_option maxRecDepth 100000 in
theorem ai_cw52 : ai_pM (yX5_fill, cX5_fill, 1, none, 5) 534 := rfl
set_option maxRecDepth 100000 in
theorem ai_cw53 : ai_pM (yX5_has, cX5_has, 3, (some .boolean), 5) 548 := rfl
set_option maxRecDepth 100000 in
theorem ai_cw54 : ai_pM (yX5_include, cX5_include, 2, none, 5) 497 := rfl
set_option maxRecDepth 100000 in
theorem ai_cw55 : ai_pM (yX5_exclude, cX5_exclude, 2, none, 5) 501 := rfl
set_option maxRecDepth 100000 in
theorem ai_cw56 : ai_pM (yX5_includePutOff, cX5_includePutOff, 3, none, 5) 538 := rfl
set_option maxRecDepth 100000 in
theorem ai_cw57 : ai_pM (yX5_becomeLetters, cX5_becomeLetters, 10, none, 5) 480 := rfl
set_option maxRecDepth 100000 in
theorem ai_cw58 : ai_pM (yX5_lettersOf, cX5_lettersOf, 2, (some .int), 5) 489 := rfl
set_option maxRecDepth 100000 in
theorem ai_cw59 : ai_pM (yX5_includeTurned, cX5_includeTurned, 17, none, 5) 493 := rfl
set_option maxRecDepth 100000 in
theorem ai_cw60 : ai_pM (yX6_init, cX6_init, 3, none, 6) 381 := rfl
set_option maxRecDepth 100000 in
theorem ai_cw61 : ai_pM (yX6_offer, cX6_offer, 2, none, 6) 425 := rfl
set_option maxRecDepth 100000 in
theorem ai_cw62 : ai_pM (yX6_wayOf, cX6_wayOf, 2, (some .int), 6) 466 := rfl
set_option maxRecDepth 100000 in
theorem ai_cw63 : ai_pM (yX6_wayNow, cX6_wayNow, 1, (some .int), 6) 462 := rfl
set_option maxRecDepth 100000 in
theorem ai_cw64 : ai_pM (yX7_init, cX7_init, 1, none, 7) 135 := rfl
set_option maxRecDepth 100000 in
theorem ai_cw65 : ai_pM (yX7_tell, cX7_tell, 2, (some .int), 7) 429 := rfl
set_option maxRecDepth 100000 in
theorem ai_cw66 : ai_pM (yX7_one, cX7_one, 2, (some (.object "DoorNet$Stream")), 7) 441 := rfl
set_option maxRecDepth 100000 in
theorem ai_cw67 : ai_pM (yX7_placedOne, cX7_placedOne, 3, (some (.object "DoorNet$Stream")), 7) 437 := rfl
set_option maxRecDepth 100000 in
theorem ai_cw68 : ai_pM (yX7_allOfThem, cX7_allOfThem, 1, (some .int), 7) 516 := rfl
set_option maxRecDepth 100000 in
theorem ai_cw69 : ai_pM (yX7_withPlace, cX7_withPlace, 3, (some .int), 7) 566 := rfl
set_option maxRecDepth 100000 in
theorem ai_cw70 : ai_pM (yX7_withoutPlace, cX7_withoutPlace, 1, (some .int), 7) 561 := rfl
set_option maxRecDepth 100000 in
theorem ai_cw71 : ai_pM (yX8_init, cX8_init, 2, none, 8) 113 := rfl
set_option maxRecDepth 100000 in
theorem ai_cw72 : ai_pM (yX8_latenessOf, cX8_latenessOf, 1, (some .int), 8) 361 := rfl
set_option maxRecDepth 100000 in
theorem ai_cw73 : ai_pM (yX8_wireAt, cX8_wireAt, 2, (some .int), 8) 364 := rfl
set_option maxRecDepth 100000 in
theorem ai_cw74 : ai_pM (yX8_wiresIn, cX8_wiresIn, 3, (some .int), 8) 595 := rfl
set_option maxRecDepth 100000 in
theorem ai_cw75 : ai_pM (yX8_hasHop, cX8_hasHop, 2, (some .boolean), 8) 599 := rfl
set_option maxRecDepth 100000 in
theorem ai_cw76 : ai_pM (yX8_hopOn, cX8_hopOn, 3, (some .int), 8) 627 := rfl
set_option maxRecDepth 100000 in
theorem ai_cw77 : ai_pM (yX8_shiftOf, cX8_shiftOf, 1, (some .int), 8) 350 := rfl
set_option maxRecDepth 100000 in
theorem ai_cw78 : ai_pM (yX8_atRank, cX8_atRank, 7, (some .int), 8) 331 := rfl
set_option maxRecDepth 100000 in
theorem ai_cw79 : ai_pM (yX8_nextBehind, cX8_nextBehind, 5, (some .int), 8) 335 := rfl
set_option maxRecDepth 100000 in
theorem ai_cw80 : ai_pM (yX8_walk, cX8_walk, 10, none, 8) 339 := rfl
set_option maxRecDepth 100000 in
theorem ai_cw81 : ai_pM (yX8_offer, cX8_offer, 2, none, 8) 354 := rfl
set_option maxRecDepth 100000 in
theorem ai_cw82 : ai_pM (yX9_init, cX9_init, 1, none, 9) 55 := rfl
set_option maxRecDepth 100000 in
theorem ai_cw83 : ai_pM (yX9_box, cX9_box, 2, (some .int), 9) 279 := rfl
set_option maxRecDepth 100000 in
theorem ai_cw84 : ai_pM (yX9_wire, cX9_wire, 5, (some .int), 9) 290 := rfl
set_option maxRecDepth 100000 in
theorem ai_cw85 : ai_pM (yX9_cycle, cX9_cycle, 2, (some .boolean), 9) 306 := rfl
set_option maxRecDepth 100000 in
theorem ai_cw86 : ai_pM (yX9_drift, cX9_drift, 2, (some .boolean), 9) 315 := rfl
set_option maxRecDepth 100000 in
theorem ai_cw87 : ai_pM (yX9_way, cX9_way, 7, (some .int), 9) 323 := rfl
set_option maxRecDepth 100000 in
theorem ai_cw88 : ai_pM (yX9_stream, cX9_stream, 7, (some .int), 9) 368 := rfl
set_option maxRecDepth 100000 in
theorem ai_cw89 : ai_pM (yX9_strike, cX9_strike, 3, (some .boolean), 9) 433 := rfl
set_option maxRecDepth 100000 in
theorem ai_cw90 : ai_pM (yX9_plan, cX9_plan, 2, (some .int), 9) 508 := rfl
set_option maxRecDepth 100000 in
theorem ai_cw91 : ai_pM (yX9_add, cX9_add, 2, (some .int), 9) 557 := rfl
set_option maxRecDepth 100000 in
theorem ai_cw92 : ai_pM (yX9_stir, cX9_stir, 2, (some .int), 9) 571 := rfl
set_option maxRecDepth 100000 in
theorem ai_cw93 : ai_pM (yX9_place, cX9_place, 5, (some .int), 9) 591 := rfl
set_option maxRecDepth 100000 in
theorem ai_cw94 : ai_pM (yX9_tries, cX9_tries, 1, (some .int), 9) 611 := rfl
set_option maxRecDepth 100000 in
theorem ai_cw95 : ai_pM (yX9_door, cX9_door, 5, (some .int), 9) 615 := rfl
set_option maxRecDepth 100000 in
theorem ai_cw96 : ai_pM (yX9_waits, cX9_waits, 4, (some .int), 9) 636 := rfl
set_option maxRecDepth 100000 in
theorem ai_cw97 : ai_pM (yX9_worst, cX9_worst, 6, (some .int), 9) 646 := rfl
set_option maxRecDepth 100000 in
theorem ai_cw98 : ai_pM (yX9_clock, cX9_clock, 3, (some .boolean), 9) 651 := rfl
set_option maxRecDepth 100000 in
theorem ai_cw99 : ai_pM (yX9_send, cX9_send, 5, (some .int), 9) 655 := rfl
set_option maxRecDepth 100000 in
theorem ai_cw100 : ai_pM (yX9_leaves, cX9_leaves, 7, (some .int), 9) 708 := rfl
set_option maxRecDepth 100000 in
theorem ai_cw101 : ai_pM (yX9_room, cX9_room, 8, (some .int), 9) 721 := rfl
set_option maxRecDepth 100000 in
theorem ai_cw102 : ai_pM (yX9_plain, cX9_plain, 4, (some .int), 9) 729 := rfl
set_option maxRecDepth 100000 in
theorem ai_cw103 : ai_pM (yX9_most, cX9_most, 2, (some .int), 9) 793 := rfl
set_option maxRecDepth 100000 in
theorem ai_cw104 : ai_pM (yX9_count, cX9_count, 2, (some .int), 9) 814 := rfl
set_option maxRecDepth 100000 in
theorem ai_cw105 : ai_pM (yX9_findChoices, cX9_findChoices, 7, none, 9) 421 := rfl
set_option maxRecDepth 100000 in
theorem ai_cw106 : ai_pM (yX9_isPeriod, cX9_isPeriod, 2, (some .boolean), 9) 372 := rfl
set_option maxRecDepth 100000 in
theorem ai_cw107 : ai_pM (yX9_isInTime, cX9_isInTime, 2, (some .boolean), 9) 376 := rfl
set_option maxRecDepth 100000 in
theorem ai_cw108 : ai_pM (yX9_isCycle, cX9_isCycle, 5, (some .boolean), 9) 309 := rfl
set_option maxRecDepth 100000 in
theorem ai_cw109 : ai_pM (yX9_isSize, cX9_isSize, 1, (some .boolean), 9) 327 := rfl
set_option maxRecDepth 100000 in
theorem ai_cw110 : ai_pM (yX9_within, cX9_within, 3, (some .boolean), 9) 282 := rfl
set_option maxRecDepth 100000 in
theorem ai_cw111 : ai_pM (yX9_aheadOfEnd, cX9_aheadOfEnd, 1, (some .int), 9) 789 := rfl
set_option maxRecDepth 100000 in
theorem ai_cw112 : ai_pM (yX10_init, cX10_init, 1, none, 10) 825 := rfl
set_option maxRecDepth 100000 in
theorem ai_cw113 : ai_pM (yX10_isBox, cX10_isBox, 2, (some .boolean), 10) 966 := rfl
set_option maxRecDepth 100000 in
theorem ai_cw114 : ai_pM (yX10_isWire, cX10_isWire, 2, (some .boolean), 10) 1080 := rfl
set_option maxRecDepth 100000 in
theorem ai_cw115 : ai_pM (yX10_box, cX10_box, 2, (some .int), 10) 958 := rfl
set_option maxRecDepth 100000 in
theorem ai_cw116 : ai_pM (yX10_wire, cX10_wire, 5, (some .int), 10) 962 := rfl
set_option maxRecDepth 100000 in
theorem ai_cw117 : ai_pM (yX10_cycle, cX10_cycle, 2, (some .boolean), 10) 970 := rfl
set_option maxRecDepth 100000 in
theorem ai_cw118 : ai_pM (yX10_drift, cX10_drift, 3, (some .boolean), 10) 974 := rfl
set_option maxRecDepth 100000 in
theorem ai_cw119 : ai_pM (yX10_late, cX10_late, 8, (some .int), 10) 997 := rfl
set_option maxRecDepth 100000 in
theorem ai_cw120 : ai_pM (yX10_isSeen, cX10_isSeen, 5, (some .boolean), 10) 989 := rfl
set_option maxRecDepth 100000 in
theorem ai_cw121 : ai_pM (yX10_findWays, cX10_findWays, 7, none, 10) 985 := rfl
set_option maxRecDepth 100000 in
theorem ai_cw122 : ai_pM (yX10_keep, cX10_keep, 7, none, 10) 993 := rfl
set_option maxRecDepth 100000 in
theorem ai_cw123 : ai_pM (yX10_isBehind, cX10_isBehind, 5, (some .boolean), 10) 1001 := rfl
set_option maxRecDepth 100000 in
theorem ai_cw124 : ai_pM (yX10_isSize, cX10_isSize, 1, (some .boolean), 10) 981 := rfl
set_option maxRecDepth 100000 in
theorem ai_cw125 : ai_pM (yX10_way, cX10_way, 6, (some .int), 10) 978 := rfl
set_option maxRecDepth 100000 in
theorem ai_cw126 : ai_pM (yX10_stream, cX10_stream, 9, (some .int), 10) 1005 := rfl
set_option maxRecDepth 100000 in
theorem ai_cw127 : ai_pM (yX10_strike, cX10_strike, 2, (some .boolean), 10) 1009 := rfl
set_option maxRecDepth 100000 in
theorem ai_cw128 : ai_pM (yX10_start, cX10_start, 8, (some .int), 10) 1021 := rfl
set_option maxRecDepth 100000 in
theorem ai_cw129 : ai_pM (yX10_meets, cX10_meets, 10, (some .boolean), 10) 1038 := rfl
set_option maxRecDepth 100000 in
theorem ai_cw130 : ai_pM (yX10_put, cX10_put, 10, none, 10) 1017 := rfl
set_option maxRecDepth 100000 in
theorem ai_cw131 : ai_pM (yX10_lay, cX10_lay, 2, none, 10) 1013 := rfl
set_option maxRecDepth 100000 in
theorem ai_cw132 : ai_pM (yX10_seek, cX10_seek, 5, (some .int), 10) 1033 := rfl
set_option maxRecDepth 100000 in
theorem ai_cw133 : ai_pM (yX10_seekWith, cX10_seekWith, 5, (some .int), 10) 1029 := rfl
set_option maxRecDepth 100000 in
theorem ai_cw134 : ai_pM (yX10_plan, cX10_plan, 1, (some .int), 10) 1025 := rfl
set_option maxRecDepth 100000 in
theorem ai_cw135 : ai_pM (yX10_add, cX10_add, 1, (some .int), 10) 1042 := rfl
set_option maxRecDepth 100000 in
theorem ai_cw136 : ai_pM (yX10_placed, cX10_placed, 3, (some .int), 10) 1050 := rfl
set_option maxRecDepth 100000 in
theorem ai_cw137 : ai_pM (yX10_bits, cX10_bits, 3, (some .int), 10) 1057 := rfl
set_option maxRecDepth 100000 in
theorem ai_cw138 : ai_pM (yX10_isAhead, cX10_isAhead, 3, (some .boolean), 10) 1060 := rfl
set_option maxRecDepth 100000 in
theorem ai_cw139 : ai_pM (yX10_nextSet, cX10_nextSet, 7, (some .int), 10) 1054 := rfl
set_option maxRecDepth 100000 in
theorem ai_cw140 : ai_pM (yX10_stir, cX10_stir, 5, (some .int), 10) 1046 := rfl
set_option maxRecDepth 100000 in
theorem ai_cw141 : ai_pM (yX10_isPlace, cX10_isPlace, 2, (some .boolean), 10) 1068 := rfl
set_option maxRecDepth 100000 in
theorem ai_cw142 : ai_pM (yX10_place, cX10_place, 5, (some .int), 10) 1064 := rfl
set_option maxRecDepth 100000 in
theorem ai_cw143 : ai_pM (yX10_tries, cX10_tries, 1, (some .int), 10) 1072 := rfl
set_option maxRecDepth 100000 in
theorem ai_cw144 : ai_pM (yX10_door, cX10_door, 3, (some .int), 10) 1076 := rfl
set_option maxRecDepth 100000 in
theorem ai_cw145 : ai_pM (yX10_rest, cX10_rest, 3, (some .int), 10) 1092 := rfl
set_option maxRecDepth 100000 in
theorem ai_cw146 : ai_pM (yX10_isOpen, cX10_isOpen, 5, (some .boolean), 10) 1088 := rfl
set_option maxRecDepth 100000 in
theorem ai_cw147 : ai_pM (yX10_waits, cX10_waits, 5, (some .int), 10) 1084 := rfl
set_option maxRecDepth 100000 in
theorem ai_cw148 : ai_pM (yX10_worst, cX10_worst, 6, (some .int), 10) 1096 := rfl
set_option maxRecDepth 100000 in
theorem ai_cw149 : ai_pM (yX10_clock, cX10_clock, 3, (some .boolean), 10) 1101 := rfl
set_option maxRecDepth 100000 in
theorem ai_cw150 : ai_pM (yX10_send, cX10_send, 6, (some .int), 10) 1105 := rfl
set_option maxRecDepth 100000 in
theorem ai_cw151 : ai_pM (yX10_leave, cX10_leave, 5, (some .int), 10) 1113 := rfl
set_option maxRecDepth 100000 in
theorem ai_cw152 : ai_pM (yX10_leaves, cX10_leaves, 6, (some .int), 10) 1109 := rfl
set_option maxRecDepth 100000 in
theorem ai_cw153 : ai_pM (yX10_room, cX10_room, 5, (some .int), 10) 1117 := rfl
set_option maxRecDepth 100000 in
theorem ai_cw154 : ai_pM (yX10_follow, cX10_follow, 3, none, 10) 1125 := rfl
set_option maxRecDepth 100000 in
theorem ai_cw155 : ai_pM (yX10_look, cX10_look, 7, none, 10) 1130 := rfl
set_option maxRecDepth 100000 in
theorem ai_cw156 : ai_pM (yX10_go, cX10_go, 5, none, 10) 1134 := rfl
set_option maxRecDepth 100000 in
theorem ai_cw157 : ai_pM (yX10_ahead, cX10_ahead, 1, (some .int), 10) 1137 := rfl
set_option maxRecDepth 100000 in
theorem ai_cw158 : ai_pM (yX10_plain, cX10_plain, 4, (some .int), 10) 1121 := rfl
set_option maxRecDepth 100000 in
theorem ai_cw159 : ai_pM (yX10_most, cX10_most, 2, (some .int), 10) 1141 := rfl
set_option maxRecDepth 100000 in
theorem ai_cw160 : ai_pM (yX10_count, cX10_count, 4, (some .int), 10) 1145 := rfl
set_option maxRecDepth 100000 in
theorem ai_cw161 : ai_pM (yJ6_bitCount_0f7a4, cJ6_bitCount_0f7a4, 1, (some .int), 11) 583 := rfl
set_option maxRecDepth 100000 in
theorem ai_cw162 : ai_pM (yJ9_floorMod_7cf53, cJ9_floorMod_7cf53, 3, (some .int), 12) 631 := rfl
set_option maxRecDepth 100000 in
theorem ai_cw163 : ai_pM (yJ9_max_7cf53, cJ9_max_7cf53, 2, (some .int), 12) 385 := rfl
set_option maxRecDepth 100000 in
theorem ai_cw164 : ai_pM (yJ9_min_7cf53, cJ9_min_7cf53, 2, (some .int), 12) 484 := rfl
set_option maxRecDepth 100000 in
theorem ai_mz : List.zipWith ai_pM ai_M ai_Mx = [ai_pM (yX0_init, cX0_init, 3, none, 0) 152, ai_pM (yX0_clear, cX0_clear, 2, none, 0) 449, ai_pM (yX0_hand, cX0_hand, 8, none, 0) 470, ai_pM (yX0_findMeetings, cX0_findMeetings, 9, none, 0) 530, ai_pM (yX0_waitFrom, cX0_waitFrom, 6, (some .int), 0) 641, ai_pM (yX1_init, cX1_init, 5, none, 1) 660, ai_pM (yX1_setOut, cX1_setOut, 3, none, 1) 747, ai_pM (yX1_nextWire, cX1_nextWire, 1, (some .int), 1) 755, ai_pM (yX1_readyAt, cX1_readyAt, 1, (some .int), 1) 764, ai_pM (yX1_goesAheadOf, cX1_goesAheadOf, 2, (some .boolean), 1) 760, ai_pM (yX1_readyFor, cX1_readyFor, 3, (some .int), 1) 801, ai_pM (yX1_waitsFor, cX1_waitsFor, 4, (some .boolean), 1) 810, ai_pM (yX2_init, cX2_init, 1, none, 2) 63, ai_pM (yX2_hasBox, cX2_hasBox, 2, (some .boolean), 2) 298, ai_pM (yX2_hasPair, cX2_hasPair, 3, (some .boolean), 2) 294, ai_pM (yX2_hasWire, cX2_hasWire, 2, (some .boolean), 2) 347, ai_pM (yX2_hasTick, cX2_hasTick, 2, (some .boolean), 2) 620, ai_pM (yX2_makeBox, cX2_makeBox, 2, (some .int), 2) 286, ai_pM (yX2_makeWire, cX2_makeWire, 5, (some .int), 2) 302, ai_pM (yX2_rightClocks, cX2_rightClocks, 2, none, 2) 319, ai_pM (yX2_timeOn, cX2_timeOn, 3, (some .int), 2) 476, ai_pM (yX2_crossing, cX2_crossing, 3, (some .int), 2) 343, ai_pM (yX2_holdBehind, cX2_holdBehind, 2, (some .int), 2) 725, ai_pM (yX2_stayBehind, cX2_stayBehind, 2, (some .int), 2) 358, ai_pM (yX2_offAt, cX2_offAt, 2, (some .int), 2) 716, ai_pM (yX2_startOf, cX2_startOf, 6, (some .int), 2) 603, ai_pM (yX2_beginOf, cX2_beginOf, 4, (some .int), 2) 712, ai_pM (yX2_hasDoor, cX2_hasDoor, 5, (some .boolean), 2) 624, ai_pM (yX3_init, cX3_init, 5, none, 3) 188, ai_pM (yX3_begin, cX3_begin, 1, none, 3) 512, ai_pM (yX3_fitFewest, cX3_fitFewest, 7, (some .int), 3) 575, ai_pM (yX3_mirrored, cX3_mirrored, 3, (some .int), 3) 580, ai_pM (yX3_fit, cX3_fit, 3, (some .int), 3) 520, ai_pM (yX3_showDoors, cX3_showDoors, 2, none, 3) 445, ai_pM (yX3_giveDoors, cX3_giveDoors, 3, none, 3) 457, ai_pM (yX3_keepPlaces, cX3_keepPlaces, 3, none, 3) 552, ai_pM (yX3_search, cX3_search, 5, (some .int), 3) 525, ai_pM (yX3_searchTicks, cX3_searchTicks, 6, (some .int), 3) 543, ai_pM (yX4_init, cX4_init, 4, none, 4) 223, ai_pM (yX4_tell, cX4_tell, 2, (some .int), 4) 704, ai_pM (yX4_letter, cX4_letter, 2, (some (.object "DoorNet$Letter")), 4) 741, ai_pM (yX4_settle, cX4_settle, 3, none, 4) 733, ai_pM (yX4_setOutAll, cX4_setOutAll, 3, none, 4) 737, ai_pM (yX4_findHead, cX4_findHead, 5, none, 4) 751, ai_pM (yX4_beginOf, cX4_beginOf, 6, (some .int), 4) 768, ai_pM (yX4_earliestWire, cX4_earliestWire, 4, (some .int), 4) 778, ai_pM (yX4_beginOn, cX4_beginOn, 6, none, 4) 782, ai_pM (yX4_longestRow, cX4_longestRow, 5, (some .int), 4) 797, ai_pM (yX4_waitingAt, cX4_waitingAt, 6, (some .int), 4) 806, ai_pM (yX4_ended, cX4_ended, 4, (some .int), 4) 820, ai_pM (yX5_init, cX5_init, 2, none, 5) 159, ai_pM (yX5_clear, cX5_clear, 1, none, 5) 453, ai_pM (yX5_fill, cX5_fill, 1, none, 5) 534, ai_pM (yX5_has, cX5_has, 3, (some .boolean), 5) 548, ai_pM (yX5_include, cX5_include, 2, none, 5) 497, ai_pM (yX5_exclude, cX5_exclude, 2, none, 5) 501, ai_pM (yX5_includePutOff, cX5_includePutOff, 3, none, 5) 538, ai_pM (yX5_becomeLetters, cX5_becomeLetters, 10, none, 5) 480, ai_pM (yX5_lettersOf, cX5_lettersOf, 2, (some .int), 5) 489, ai_pM (yX5_includeTurned, cX5_includeTurned, 17, none, 5) 493, ai_pM (yX6_init, cX6_init, 3, none, 6) 381, ai_pM (yX6_offer, cX6_offer, 2, none, 6) 425, ai_pM (yX6_wayOf, cX6_wayOf, 2, (some .int), 6) 466, ai_pM (yX6_wayNow, cX6_wayNow, 1, (some .int), 6) 462, ai_pM (yX7_init, cX7_init, 1, none, 7) 135, ai_pM (yX7_tell, cX7_tell, 2, (some .int), 7) 429, ai_pM (yX7_one, cX7_one, 2, (some (.object "DoorNet$Stream")), 7) 441, ai_pM (yX7_placedOne, cX7_placedOne, 3, (some (.object "DoorNet$Stream")), 7) 437, ai_pM (yX7_allOfThem, cX7_allOfThem, 1, (some .int), 7) 516, ai_pM (yX7_withPlace, cX7_withPlace, 3, (some .int), 7) 566, ai_pM (yX7_withoutPlace, cX7_withoutPlace, 1, (some .int), 7) 561, ai_pM (yX8_init, cX8_init, 2, none, 8) 113, ai_pM (yX8_latenessOf, cX8_latenessOf, 1, (some .int), 8) 361, ai_pM (yX8_wireAt, cX8_wireAt, 2, (some .int), 8) 364, ai_pM (yX8_wiresIn, cX8_wiresIn, 3, (some .int), 8) 595, ai_pM (yX8_hasHop, cX8_hasHop, 2, (some .boolean), 8) 599, ai_pM (yX8_hopOn, cX8_hopOn, 3, (some .int), 8) 627, ai_pM (yX8_shiftOf, cX8_shiftOf, 1, (some .int), 8) 350, ai_pM (yX8_atRank, cX8_atRank, 7, (some .int), 8) 331, ai_pM (yX8_nextBehind, cX8_nextBehind, 5, (some .int), 8) 335, ai_pM (yX8_walk, cX8_walk, 10, none, 8) 339, ai_pM (yX8_offer, cX8_offer, 2, none, 8) 354, ai_pM (yX9_init, cX9_init, 1, none, 9) 55, ai_pM (yX9_box, cX9_box, 2, (some .int), 9) 279, ai_pM (yX9_wire, cX9_wire, 5, (some .int), 9) 290, ai_pM (yX9_cycle, cX9_cycle, 2, (some .boolean), 9) 306, ai_pM (yX9_drift, cX9_drift, 2, (some .boolean), 9) 315, ai_pM (yX9_way, cX9_way, 7, (some .int), 9) 323, ai_pM (yX9_stream, cX9_stream, 7, (some .int), 9) 368, ai_pM (yX9_strike, cX9_strike, 3, (some .boolean), 9) 433, ai_pM (yX9_plan, cX9_plan, 2, (some .int), 9) 508, ai_pM (yX9_add, cX9_add, 2, (some .int), 9) 557, ai_pM (yX9_stir, cX9_stir, 2, (some .int), 9) 571, ai_pM (yX9_place, cX9_place, 5, (some .int), 9) 591, ai_pM (yX9_tries, cX9_tries, 1, (some .int), 9) 611, ai_pM (yX9_door, cX9_door, 5, (some .int), 9) 615, ai_pM (yX9_waits, cX9_waits, 4, (some .int), 9) 636, ai_pM (yX9_worst, cX9_worst, 6, (some .int), 9) 646, ai_pM (yX9_clock, cX9_clock, 3, (some .boolean), 9) 651, ai_pM (yX9_send, cX9_send, 5, (some .int), 9) 655, ai_pM (yX9_leaves, cX9_leaves, 7, (some .int), 9) 708, ai_pM (yX9_room, cX9_room, 8, (some .int), 9) 721, ai_pM (yX9_plain, cX9_plain, 4, (some .int), 9) 729, ai_pM (yX9_most, cX9_most, 2, (some .int), 9) 793, ai_pM (yX9_count, cX9_count, 2, (some .int), 9) 814, ai_pM (yX9_findChoices, cX9_findChoices, 7, none, 9) 421, ai_pM (yX9_isPeriod, cX9_isPeriod, 2, (some .boolean), 9) 372, ai_pM (yX9_isInTime, cX9_isInTime, 2, (some .boolean), 9) 376, ai_pM (yX9_isCycle, cX9_isCycle, 5, (some .boolean), 9) 309, ai_pM (yX9_isSize, cX9_isSize, 1, (some .boolean), 9) 327, ai_pM (yX9_within, cX9_within, 3, (some .boolean), 9) 282, ai_pM (yX9_aheadOfEnd, cX9_aheadOfEnd, 1, (some .int), 9) 789, ai_pM (yX10_init, cX10_init, 1, none, 10) 825, ai_pM (yX10_isBox, cX10_isBox, 2, (some .boolean), 10) 966, ai_pM (yX10_isWire, cX10_isWire, 2, (some .boolean), 10) 1080, ai_pM (yX10_box, cX10_box, 2, (some .int), 10) 958, ai_pM (yX10_wire, cX10_wire, 5, (some .int), 10) 962, ai_pM (yX10_cycle, cX10_cycle, 2, (some .boolean), 10) 970, ai_pM (yX10_drift, cX10_drift, 3, (some .boolean), 10) 974, ai_pM (yX10_late, cX10_late, 8, (some .int), 10) 997, ai_pM (yX10_isSeen, cX10_isSeen, 5, (some .boolean), 10) 989, ai_pM (yX10_findWays, cX10_findWays, 7, none, 10) 985, ai_pM (yX10_keep, cX10_keep, 7, none, 10) 993, ai_pM (yX10_isBehind, cX10_isBehind, 5, (some .boolean), 10) 1001, ai_pM (yX10_isSize, cX10_isSize, 1, (some .boolean), 10) 981, ai_pM (yX10_way, cX10_way, 6, (some .int), 10) 978, ai_pM (yX10_stream, cX10_stream, 9, (some .int), 10) 1005, ai_pM (yX10_strike, cX10_strike, 2, (some .boolean), 10) 1009, ai_pM (yX10_start, cX10_start, 8, (some .int), 10) 1021, ai_pM (yX10_meets, cX10_meets, 10, (some .boolean), 10) 1038, ai_pM (yX10_put, cX10_put, 10, none, 10) 1017, ai_pM (yX10_lay, cX10_lay, 2, none, 10) 1013, ai_pM (yX10_seek, cX10_seek, 5, (some .int), 10) 1033, ai_pM (yX10_seekWith, cX10_seekWith, 5, (some .int), 10) 1029, ai_pM (yX10_plan, cX10_plan, 1, (some .int), 10) 1025, ai_pM (yX10_add, cX10_add, 1, (some .int), 10) 1042, ai_pM (yX10_placed, cX10_placed, 3, (some .int), 10) 1050, ai_pM (yX10_bits, cX10_bits, 3, (some .int), 10) 1057, ai_pM (yX10_isAhead, cX10_isAhead, 3, (some .boolean), 10) 1060, ai_pM (yX10_nextSet, cX10_nextSet, 7, (some .int), 10) 1054, ai_pM (yX10_stir, cX10_stir, 5, (some .int), 10) 1046, ai_pM (yX10_isPlace, cX10_isPlace, 2, (some .boolean), 10) 1068, ai_pM (yX10_place, cX10_place, 5, (some .int), 10) 1064, ai_pM (yX10_tries, cX10_tries, 1, (some .int), 10) 1072, ai_pM (yX10_door, cX10_door, 3, (some .int), 10) 1076, ai_pM (yX10_rest, cX10_rest, 3, (some .int), 10) 1092, ai_pM (yX10_isOpen, cX10_isOpen, 5, (some .boolean), 10) 1088, ai_pM (yX10_waits, cX10_waits, 5, (some .int), 10) 1084, ai_pM (yX10_worst, cX10_worst, 6, (some .int), 10) 1096, ai_pM (yX10_clock, cX10_clock, 3, (some .boolean), 10) 1101, ai_pM (yX10_send, cX10_send, 6, (some .int), 10) 1105, ai_pM (yX10_leave, cX10_leave, 5, (some .int), 10) 1113, ai_pM (yX10_leaves, cX10_leaves, 6, (some .int), 10) 1109, ai_pM (yX10_room, cX10_room, 5, (some .int), 10) 1117, ai_pM (yX10_follow, cX10_follow, 3, none, 10) 1125, ai_pM (yX10_look, cX10_look, 7, none, 10) 1130, ai_pM (yX10_go, cX10_go, 5, none, 10) 1134, ai_pM (yX10_ahead, cX10_ahead, 1, (some .int), 10) 1137, ai_pM (yX10_plain, cX10_plain, 4, (some .int), 10) 1121, ai_pM (yX10_most, cX10_most, 2, (some .int), 10) 1141, ai_pM (yX10_count, cX10_count, 4, (some .int), 10) 1145, ai_pM (yJ6_bitCount_0f7a4, cJ6_bitCount_0f7a4, 1, (some .int), 11) 583, ai_pM (yJ9_floorMod_7cf53, cJ9_floorMod_7cf53, 3, (some .int), 12) 631, ai_pM (yJ9_max_7cf53, cJ9_max_7cf53, 2, (some .int), 12) 385, ai_pM (yJ9_min_7cf53, cJ9_min_7cf53, 2, (some .int), 12) 484] := rfl
set_option maxRecDepth 100000 in
theorem ai_ckM : ∀ P ∈ List.zipWith ai_pM ai_M ai_Mx, P := by
  rw [ai_mz]
  exact List.forall_mem_cons.mpr ⟨ai_cw0, List.forall_mem_cons.mpr ⟨ai_cw1, List.forall_mem_cons.mpr ⟨ai_cw2, List.forall_mem_cons.mpr ⟨ai_cw3, List.forall_mem_cons.mpr ⟨ai_cw4, List.forall_mem_cons.mpr ⟨ai_cw5, List.forall_mem_cons.mpr ⟨ai_cw6, List.forall_mem_cons.mpr ⟨ai_cw7, List.forall_mem_cons.mpr ⟨ai_cw8, List.forall_mem_cons.mpr ⟨ai_cw9, List.forall_mem_cons.mpr ⟨ai_cw10, List.forall_mem_cons.mpr ⟨ai_cw11, List.forall_mem_cons.mpr ⟨ai_cw12, List.forall_mem_cons.mpr ⟨ai_cw13, List.forall_mem_cons.mpr ⟨ai_cw14, List.forall_mem_cons.mpr ⟨ai_cw15, List.forall_mem_cons.mpr ⟨ai_cw16, List.forall_mem_cons.mpr ⟨ai_cw17, List.forall_mem_cons.mpr ⟨ai_cw18, List.forall_mem_cons.mpr ⟨ai_cw19, List.forall_mem_cons.mpr ⟨ai_cw20, List.forall_mem_cons.mpr ⟨ai_cw21, List.forall_mem_cons.mpr ⟨ai_cw22, List.forall_mem_cons.mpr ⟨ai_cw23, List.forall_mem_cons.mpr ⟨ai_cw24, List.forall_mem_cons.mpr ⟨ai_cw25, List.forall_mem_cons.mpr ⟨ai_cw26, List.forall_mem_cons.mpr ⟨ai_cw27, List.forall_mem_cons.mpr ⟨ai_cw28, List.forall_mem_cons.mpr ⟨ai_cw29, List.forall_mem_cons.mpr ⟨ai_cw30, List.forall_mem_cons.mpr ⟨ai_cw31, List.forall_mem_cons.mpr ⟨ai_cw32, List.forall_mem_cons.mpr ⟨ai_cw33, List.forall_mem_cons.mpr ⟨ai_cw34, List.forall_mem_cons.mpr ⟨ai_cw35, List.forall_mem_cons.mpr ⟨ai_cw36, List.forall_mem_cons.mpr ⟨ai_cw37, List.forall_mem_cons.mpr ⟨ai_cw38, List.forall_mem_cons.mpr ⟨ai_cw39, List.forall_mem_cons.mpr ⟨ai_cw40, List.forall_mem_cons.mpr ⟨ai_cw41, List.forall_mem_cons.mpr ⟨ai_cw42, List.forall_mem_cons.mpr ⟨ai_cw43, List.forall_mem_cons.mpr ⟨ai_cw44, List.forall_mem_cons.mpr ⟨ai_cw45, List.forall_mem_cons.mpr ⟨ai_cw46, List.forall_mem_cons.mpr ⟨ai_cw47, List.forall_mem_cons.mpr ⟨ai_cw48, List.forall_mem_cons.mpr ⟨ai_cw49, List.forall_mem_cons.mpr ⟨ai_cw50, List.forall_mem_cons.mpr ⟨ai_cw51, List.forall_mem_cons.mpr ⟨ai_cw52, List.forall_mem_cons.mpr ⟨ai_cw53, List.forall_mem_cons.mpr ⟨ai_cw54, List.forall_mem_cons.mpr ⟨ai_cw55, List.forall_mem_cons.mpr ⟨ai_cw56, List.forall_mem_cons.mpr ⟨ai_cw57, List.forall_mem_cons.mpr ⟨ai_cw58, List.forall_mem_cons.mpr ⟨ai_cw59, List.forall_mem_cons.mpr ⟨ai_cw60, List.forall_mem_cons.mpr ⟨ai_cw61, List.forall_mem_cons.mpr ⟨ai_cw62, List.forall_mem_cons.mpr ⟨ai_cw63, List.forall_mem_cons.mpr ⟨ai_cw64, List.forall_mem_cons.mpr ⟨ai_cw65, List.forall_mem_cons.mpr ⟨ai_cw66, List.forall_mem_cons.mpr ⟨ai_cw67, List.forall_mem_cons.mpr ⟨ai_cw68, List.forall_mem_cons.mpr ⟨ai_cw69, List.forall_mem_cons.mpr ⟨ai_cw70, List.forall_mem_cons.mpr ⟨ai_cw71, List.forall_mem_cons.mpr ⟨ai_cw72, List.forall_mem_cons.mpr ⟨ai_cw73, List.forall_mem_cons.mpr ⟨ai_cw74, List.forall_mem_cons.mpr ⟨ai_cw75, List.forall_mem_cons.mpr ⟨ai_cw76, List.forall_mem_cons.mpr ⟨ai_cw77, List.forall_mem_cons.mpr ⟨ai_cw78, List.forall_mem_cons.mpr ⟨ai_cw79, List.forall_mem_cons.mpr ⟨ai_cw80, List.forall_mem_cons.mpr ⟨ai_cw81, List.forall_mem_cons.mpr ⟨ai_cw82, List.forall_mem_cons.mpr ⟨ai_cw83, List.forall_mem_cons.mpr ⟨ai_cw84, List.forall_mem_cons.mpr ⟨ai_cw85, List.forall_mem_cons.mpr ⟨ai_cw86, List.forall_mem_cons.mpr ⟨ai_cw87, List.forall_mem_cons.mpr ⟨ai_cw88, List.forall_mem_cons.mpr ⟨ai_cw89, List.forall_mem_cons.mpr ⟨ai_cw90, List.forall_mem_cons.mpr ⟨ai_cw91, List.forall_mem_cons.mpr ⟨ai_cw92, List.forall_mem_cons.mpr ⟨ai_cw93, List.forall_mem_cons.mpr ⟨ai_cw94, List.forall_mem_cons.mpr ⟨ai_cw95, List.forall_mem_cons.mpr ⟨ai_cw96, List.forall_mem_cons.mpr ⟨ai_cw97, List.forall_mem_cons.mpr ⟨ai_cw98, List.forall_mem_cons.mpr ⟨ai_cw99, List.forall_mem_cons.mpr ⟨ai_cw100, List.forall_mem_cons.mpr ⟨ai_cw101, List.forall_mem_cons.mpr ⟨ai_cw102, List.forall_mem_cons.mpr ⟨ai_cw103, List.forall_mem_cons.mpr ⟨ai_cw104, List.forall_mem_cons.mpr ⟨ai_cw105, List.forall_mem_cons.mpr ⟨ai_cw106, List.forall_mem_cons.mpr ⟨ai_cw107, List.forall_mem_cons.mpr ⟨ai_cw108, List.forall_mem_cons.mpr ⟨ai_cw109, List.forall_mem_cons.mpr ⟨ai_cw110, List.forall_mem_cons.mpr ⟨ai_cw111, List.forall_mem_cons.mpr ⟨ai_cw112, List.forall_mem_cons.mpr ⟨ai_cw113, List.forall_mem_cons.mpr ⟨ai_cw114, List.forall_mem_cons.mpr ⟨ai_cw115, List.forall_mem_cons.mpr ⟨ai_cw116, List.forall_mem_cons.mpr ⟨ai_cw117, List.forall_mem_cons.mpr ⟨ai_cw118, List.forall_mem_cons.mpr ⟨ai_cw119, List.forall_mem_cons.mpr ⟨ai_cw120, List.forall_mem_cons.mpr ⟨ai_cw121, List.forall_mem_cons.mpr ⟨ai_cw122, List.forall_mem_cons.mpr ⟨ai_cw123, List.forall_mem_cons.mpr ⟨ai_cw124, List.forall_mem_cons.mpr ⟨ai_cw125, List.forall_mem_cons.mpr ⟨ai_cw126, List.forall_mem_cons.mpr ⟨ai_cw127, List.forall_mem_cons.mpr ⟨ai_cw128, List.forall_mem_cons.mpr ⟨ai_cw129, List.forall_mem_cons.mpr ⟨ai_cw130, List.forall_mem_cons.mpr ⟨ai_cw131, List.forall_mem_cons.mpr ⟨ai_cw132, List.forall_mem_cons.mpr ⟨ai_cw133, List.forall_mem_cons.mpr ⟨ai_cw134, List.forall_mem_cons.mpr ⟨ai_cw135, List.forall_mem_cons.mpr ⟨ai_cw136, List.forall_mem_cons.mpr ⟨ai_cw137, List.forall_mem_cons.mpr ⟨ai_cw138, List.forall_mem_cons.mpr ⟨ai_cw139, List.forall_mem_cons.mpr ⟨ai_cw140, List.forall_mem_cons.mpr ⟨ai_cw141, List.forall_mem_cons.mpr ⟨ai_cw142, List.forall_mem_cons.mpr ⟨ai_cw143, List.forall_mem_cons.mpr ⟨ai_cw144, List.forall_mem_cons.mpr ⟨ai_cw145, List.forall_mem_cons.mpr ⟨ai_cw146, List.forall_mem_cons.mpr ⟨ai_cw147, List.forall_mem_cons.mpr ⟨ai_cw148, List.forall_mem_cons.mpr ⟨ai_cw149, List.forall_mem_cons.mpr ⟨ai_cw150, List.forall_mem_cons.mpr ⟨ai_cw151, List.forall_mem_cons.mpr ⟨ai_cw152, List.forall_mem_cons.mpr ⟨ai_cw153, List.forall_mem_cons.mpr ⟨ai_cw154, List.forall_mem_cons.mpr ⟨ai_cw155, List.forall_mem_cons.mpr ⟨ai_cw156, List.forall_mem_cons.mpr ⟨ai_cw157, List.forall_mem_cons.mpr ⟨ai_cw158, List.forall_mem_cons.mpr ⟨ai_cw159, List.forall_mem_cons.mpr ⟨ai_cw160, List.forall_mem_cons.mpr ⟨ai_cw161, List.forall_mem_cons.mpr ⟨ai_cw162, List.forall_mem_cons.mpr ⟨ai_cw163, List.forall_mem_cons.mpr ⟨ai_cw164, fun _ hx => absurd hx List.not_mem_nil⟩⟩⟩⟩⟩⟩⟩⟩⟩⟩⟩⟩⟩⟩⟩⟩⟩⟩⟩⟩⟩⟩⟩⟩⟩⟩⟩⟩⟩⟩⟩⟩⟩⟩⟩⟩⟩⟩⟩⟩⟩⟩⟩⟩⟩⟩⟩⟩⟩⟩⟩⟩⟩⟩⟩⟩⟩⟩⟩⟩⟩⟩⟩⟩⟩⟩⟩⟩⟩⟩⟩⟩⟩⟩⟩⟩⟩⟩⟩⟩⟩⟩⟩⟩⟩⟩⟩⟩⟩⟩⟩⟩⟩⟩⟩⟩⟩⟩⟩⟩⟩⟩⟩⟩⟩⟩⟩⟩⟩⟩⟩⟩⟩⟩⟩⟩⟩⟩⟩⟩⟩⟩⟩⟩⟩⟩⟩⟩⟩⟩⟩⟩⟩⟩⟩⟩⟩⟩⟩⟩⟩⟩⟩⟩⟩⟩⟩⟩⟩⟩⟩⟩⟩⟩⟩⟩⟩⟩⟩⟩⟩⟩⟩⟩⟩
theorem ai_cw_s {mn : Nat} {r : MethodName × ByteArray × Nat × Option FieldType × Nat} (h : ai_M[mn]? = some r) (hm : mn < 165) : ∃ j : Nat, lw_tbl[j]? = some (Jvm.Cond.code r.1 r.2.1 r.2.2.1 r.2.2.2.1) := by
  have hl : mn < ai_Mx.length := by
    have : ai_Mx.length = 165 := by decide +kernel
    omega
  refine ⟨ai_Mx[mn], ?_⟩
  have hz : (List.zipWith ai_pM ai_M ai_Mx)[mn]? = some (ai_pM r ai_Mx[mn]) := by rw [List.getElem?_zipWith, h, List.getElem?_eq_getElem hl]
  exact ai_ckM _ (List.mem_of_getElem? hz)
end
section
/-- the words that stay good -/
def ai_tb : List Jvm.Cond := lw_tbl.filter goodWord
theorem ai_tb_in {w : Jvm.Cond} {i : Nat} (h : lw_tbl[i]? = some w) (hg : goodWord w = true) : w ∈ ai_tb := List.mem_filter.mpr ⟨List.mem_of_getElem? h, hg⟩
theorem ai_tb_good : ai_tb.all goodWord = true := List.all_eq_true.mpr fun _ h => (List.mem_filter.mp h).2
def ai_wd (i : Nat) (w : Jvm.Cond) : Bool := decide (lw_tbl[i]? = some w) && goodWord w
theorem ai_wd_s {i : Nat} {w : Jvm.Cond} (h : ai_wd i w = true) : w ∈ ai_tb := by
  unfold ai_wd at h
  simp only [Bool.and_eq_true, decide_eq_true_eq] at h
  exact ai_tb_in h.1 h.2
theorem ai_z2 {α β : Type} {P : α → β → Bool} {l : List α} {k : List β} (hl : l.length = k.length) (h : (List.zipWith P l k).all id = true) {a : α} (ha : a ∈ l) : ∃ b, P a b = true := by
  obtain ⟨i, hi⟩ := List.getElem?_of_mem ha
  have h1 : i < k.length := by rw [← hl]; exact (List.getElem?_eq_some_iff.mp hi).1
  refine ⟨k[i], ?_⟩
  have hz : (List.zipWith P l k)[i]? = some (P a k[i]) := by rw [List.getElem?_zipWith, hi, List.getElem?_eq_getElem h1]
  exact List.all_eq_true.mp h _ (List.mem_of_getElem? hz)
def ai_pF (q : (Nat × Nat) × Nat × Nat) (j : Nat) : Bool := match ai_cl[q.2.1]? with
  | some r => decide (q.2.2 < r.2.2) && ai_wd j (Jvm.Cond.fieldLink (ai_Rn q.1.1) q.1.2 (r.2.1 q.2.2).1 (r.2.1 q.2.2).2.1 (r.2.1 q.2.2).2.2.1)
  | none => false
set_option maxRecDepth 100000 in
theorem ai_ckF : (List.zipWith ai_pF ai_F ai_Fx).all id = true := by decide +kernel
theorem ai_F_s {o i c k : Nat} (h : ai_get ai_F o i = some (c, k)) : ∃ r, ai_cl[c]? = some r ∧ k < r.2.2 ∧ Jvm.Cond.fieldLink (ai_Rn o) i (r.2.1 k).1 (r.2.1 k).2.1 (r.2.1 k).2.2.1 ∈ ai_tb := by
  obtain ⟨j, hj⟩ := ai_z2 (by decide +kernel) ai_ckF (ai_get_mem h)
  unfold ai_pF at hj
  dsimp only at hj
  split at hj
  next r hr =>
    simp only [Bool.and_eq_true, decide_eq_true_eq] at hj
    exact ⟨r, hr, hj.1, ai_wd_s hj.2⟩
  next => cases hj
end
section
def ai_Ma : List Nat := [162, 163, 164]
theorem ai_pl0 : plainFor yJ9_floorMod_7cf53 = true := by decide +kernel
theorem ai_pl1 : plainFor yJ9_max_7cf53 = true := by decide +kernel
theorem ai_pl2 : plainFor yJ9_min_7cf53 = true := by decide +kernel
def ai_Px : List (Nat × Nat × Nat × Nat × Nat) := [(42, 151, 0, 1, 0), (42, 447, 448, 0, 1), (42, 468, 469, 4, 2), (42, 528, 529, 3, 3), (42, 639, 640, 3, 4), (50, 659, 0, 4, 5), (50, 745, 746, 1, 6), (50, 753, 754, 0, 7), (50, 762, 763, 0, 8), (50, 758, 759, 1, 9), (50, 799, 800, 1, 10), (50, 808, 809, 2, 11), (39, 62, 0, 0, 12), (39, 296, 297, 1, 13), (39, 292, 293, 2, 14), (39, 345, 346, 1, 15), (39, 618, 619, 1, 16), (39, 284, 285, 1, 17), (39, 300, 301, 4, 18), (39, 317, 318, 0, 19), (39, 474, 475, 2, 20), (39, 341, 342, 2, 21), (39, 723, 724, 1, 22), (39, 356, 357, 1, 23), (39, 714, 715, 1, 24), (39, 601, 602, 2, 25), (39, 710, 711, 3, 26), (39, 622, 623, 3, 27), (44, 187, 0, 3, 28), (44, 510, 511, 0, 29), (44, 573, 574, 0, 30), (44, 579, 0, 1, 31), (44, 518, 519, 1, 32), (44, 443, 444, 0, 33), (44, 456, 4, 1, 34), (44, 551, 8, 0, 35), (44, 524, 6, 1, 36), (44, 542, 7, 3, 37), (45, 222, 0, 3, 38), (45, 702, 703, 1, 39), (45, 739, 740, 1, 40), (45, 731, 732, 0, 41), (45, 736, 9, 0, 42), (45, 750, 10, 1, 43), (45, 767, 11, 2, 44), (45, 777, 12, 0, 45), (45, 781, 13, 1, 46), (45, 795, 796, 1, 47), (45, 805, 14, 2, 48), (45, 818, 819, 0, 49), (43, 158, 0, 1, 50), (43, 451, 452, 0, 51), (43, 532, 533, 0, 52), (43, 546, 547, 1, 53), (43, 495, 496, 1, 54), (43, 499, 500, 1, 55), (43, 536, 537, 2, 56), (43, 478, 479, 3, 57), (43, 487, 488, 1, 58), (43, 492, 5, 3, 59), (47, 380, 0, 2, 60), (47, 423, 424, 1, 61), (47, 464, 465, 1, 62), (47, 460, 461, 0, 63), (41, 134, 0, 0, 64), (41, 427, 428, 1, 65), (41, 439, 440, 1, 66), (41, 435, 436, 1, 67), (41, 514, 515, 0, 68), (41, 564, 565, 0, 69), (41, 559, 560, 0, 70), (40, 112, 0, 1, 71), (40, 360, 0, 1, 72), (40, 363, 0, 2, 73), (40, 594, 0, 1, 74), (40, 598, 0, 2, 75), (40, 626, 0, 2, 76), (40, 349, 0, 1, 77), (40, 329, 330, 4, 78), (40, 333, 334, 4, 79), (40, 338, 0, 5, 80), (40, 353, 1, 1, 81), (38, 54, 0, 0, 82), (38, 277, 278, 1, 83), (38, 288, 289, 4, 84), (38, 304, 305, 1, 85), (38, 313, 314, 1, 86), (38, 321, 322, 5, 87), (38, 366, 367, 5, 88), (38, 431, 432, 1, 89), (38, 506, 507, 0, 90), (38, 555, 556, 0, 91), (38, 569, 570, 0, 92), (38, 589, 590, 2, 93), (38, 609, 610, 0, 94), (38, 613, 614, 2, 95), (38, 634, 635, 3, 96), (38, 644, 645, 2, 97), (38, 649, 650, 2, 98), (38, 653, 654, 4, 99), (38, 706, 707, 3, 100), (38, 719, 720, 3, 101), (38, 727, 728, 2, 102), (38, 791, 792, 1, 103), (38, 812, 813, 1, 104), (38, 420, 3, 4, 105), (38, 371, 2, 1, 106), (38, 375, 0, 2, 107), (38, 308, 0, 1, 108), (38, 326, 0, 1, 109), (38, 281, 0, 3, 110), (38, 788, 0, 1, 111), (46, 824, 0, 0, 112), (46, 965, 15, 1, 113), (46, 1079, 30, 1, 114), (46, 956, 957, 1, 115), (46, 960, 961, 4, 116), (46, 968, 969, 1, 117), (46, 972, 973, 1, 118), (46, 996, 19, 4, 119), (46, 988, 17, 3, 120), (46, 984, 16, 3, 121), (46, 992, 18, 2, 122), (46, 1000, 20, 3, 123), (46, 980, 0, 1, 124), (46, 976, 977, 5, 125), (46, 1003, 1004, 5, 126), (46, 1007, 1008, 1, 127), (46, 1020, 23, 4, 128), (46, 1037, 26, 3, 129), (46, 1016, 22, 4, 130), (46, 1012, 21, 0, 131), (46, 1032, 25, 0, 132), (46, 1028, 24, 1, 133), (46, 1023, 1024, 0, 134), (46, 1040, 1041, 0, 135), (46, 1049, 27, 0, 136), (46, 1056, 0, 1, 137), (46, 1059, 0, 2, 138), (46, 1053, 28, 3, 139), (46, 1044, 1045, 0, 140), (46, 1067, 29, 1, 141), (46, 1062, 1063, 2, 142), (46, 1070, 1071, 0, 143), (46, 1074, 1075, 2, 144), (46, 1091, 32, 1, 145), (46, 1087, 31, 3, 146), (46, 1082, 1083, 3, 147), (46, 1094, 1095, 2, 148), (46, 1099, 1100, 2, 149), (46, 1103, 1104, 4, 150), (46, 1112, 33, 3, 151), (46, 1107, 1108, 3, 152), (46, 1115, 1116, 3, 153), (46, 1124, 34, 0, 154), (46, 1129, 35, 2, 155), (46, 1133, 36, 3, 156), (46, 1136, 0, 1, 157), (46, 1119, 1120, 2, 158), (46, 1139, 1140, 1, 159), (46, 1143, 1144, 1, 160), (49, 582, 0, 1, 161), (48, 630, 0, 2, 162), (48, 384, 0, 2, 163), (48, 483, 0, 2, 164)]
def ai_pm (r : MethodName × ByteArray × Nat × Option FieldType × Nat) (j : Nat × Nat × Nat × Nat × Nat) : Bool := ai_wd j.1 (Jvm.Cond.initialized r.1.cls) && (decide (r.1.cls = ai_Rn r.2.2.2.2) && (decide (r.1.cls ≠ "java/lang/invoke/MethodHandle" ∧ r.1.cls ≠ "java/lang/invoke/VarHandle" ∧ (parseMethodDescriptor r.1.desc).map (fun d => d.parameters.length) = some j.2.2.2.1) && ((plainName r.1.cls || ai_Ma.contains j.2.2.2.2) && (decide (r.2.2.1 ≤ 21) && (match ai_Sm.contains j.2.2.2.2 with
    | true => ai_wd j.2.1 (Jvm.Cond.static r.1)
    | false => ai_wd j.2.1 (Jvm.Cond.instanceMethod r.1) && (decide (r.1.name = "<init>") || ai_wd j.2.2.1 (Jvm.Cond.selects r.1.cls r.1 r.1)))))))
set_option maxRecDepth 100000 in
theorem ai_ckP : (List.zipWith ai_pm ai_M ai_Px).all id = true := by decide +kernel
/-- what is known of a callee -/
def ai_mk (r : MethodName × ByteArray × Nat × Option FieldType × Nat) (mn n : Nat) : Prop := Jvm.Cond.code r.1 r.2.1 r.2.2.1 r.2.2.2.1 ∈ ai_tb ∧ Jvm.Cond.initialized r.1.cls ∈ ai_tb ∧ r.1.cls = ai_Rn r.2.2.2.2 ∧ (r.1.cls ≠ "java/lang/invoke/MethodHandle" ∧ r.1.cls ≠ "java/lang/invoke/VarHandle" ∧ (parseMethodDescriptor r.1.desc).map (fun d => d.parameters.length) = some n) ∧ plainFor r.1 = true ∧ r.2.2.1 ≤ 21 ∧ (ai_Sm.contains mn = true → Jvm.Cond.static r.1 ∈ ai_tb) ∧ (ai_Sm.contains mn = false → Jvm.Cond.instanceMethod r.1 ∈ ai_tb ∧ (r.1.name = "<init>" ∨ Jvm.Cond.selects r.1.cls r.1 r.1 ∈ ai_tb))
theorem ai_Pxi : ∀ i, i < 165 → (ai_Px[i]?).map (fun j => j.2.2.2.2) = some i := by decide +kernel
theorem ai_pl {mn : Nat} {r : MethodName × ByteArray × Nat × Option FieldType × Nat} (h : ai_M[mn]? = some r) (hm : ai_Ma.contains mn = true) : plainFor r.1 = true := by
  have h1 := List.contains_iff_mem.mp hm
  rcases List.mem_cons.mp h1 with e | h1
  · subst e; have e2 : r = (yJ9_floorMod_7cf53, cJ9_floorMod_7cf53, 3, (some .int), 12) := (Option.some.inj h).symm; rw [e2]; exact ai_pl0
  rcases List.mem_cons.mp h1 with e | h1
  · subst e; have e2 : r = (yJ9_max_7cf53, cJ9_max_7cf53, 2, (some .int), 12) := (Option.some.inj h).symm; rw [e2]; exact ai_pl1
  rcases List.mem_cons.mp h1 with e | h1
  · subst e; have e2 : r = (yJ9_min_7cf53, cJ9_min_7cf53, 2, (some .int), 12) := (Option.some.inj h).symm; rw [e2]; exact ai_pl2
  · exact absurd h1 List.not_mem_nil
theorem ai_mk_s {mn : Nat} (hm : mn < 165) : ∃ r n, ai_M[mn]? = some r ∧ ((ai_Px[mn]?).map (fun j => j.2.2.2.1) = some n) ∧ ai_mk r mn n := by
  have hl : mn < ai_M.length := by
    have : ai_M.length = 166 := by decide +kernel
    omega
  have hl2 : mn < ai_Px.length := by
    have : ai_Px.length = 165 := by decide +kernel
    omega
  have hr : ai_M[mn]? = some ai_M[mn] := List.getElem?_eq_getElem hl
  have hj : ai_Px[mn]? = some ai_Px[mn] := List.getElem?_eq_getElem hl2
  generalize ai_M[mn] = r at hr
  generalize ai_Px[mn] = j at hj
  have hi := ai_Pxi mn hm
  rw [hj] at hi
  have hi : j.2.2.2.2 = mn := Option.some.inj hi
  have hz : (List.zipWith ai_pm ai_M ai_Px)[mn]? = some (ai_pm r j) := by rw [List.getElem?_zipWith, hr, hj]
  have h1 : ai_pm r j = true := List.all_eq_true.mp ai_ckP _ (List.mem_of_getElem? hz)
  obtain ⟨jc, hjc⟩ := ai_cw_s hr hm
  refine ⟨r, j.2.2.2.1, hr, by rw [hj]; rfl, ?_⟩
  unfold ai_pm at h1
  rw [hi] at h1
  simp only [Bool.and_eq_true, decide_eq_true_eq] at h1
  obtain ⟨h2, h3, h4, h5, h6, h7⟩ := h1
  have hpl : plainFor r.1 = true := by
    rcases Bool.or_eq_true_iff.mp h5 with z | z
    · exact plainFor_of_name z
    · exact ai_pl hr z
  have hgood : goodWord (Jvm.Cond.code r.1 r.2.1 r.2.2.1 r.2.2.2.1) = true := rfl
  refine ⟨ai_tb_in hjc hgood, ai_wd_s h2, h3, h4, hpl, h6, fun e => ?_, fun e => ?_⟩
  · rw [e] at h7
    exact ai_wd_s h7
  · rw [e] at h7
    simp only [Bool.and_eq_true, Bool.or_eq_true, decide_eq_true_eq] at h7
    exact ⟨ai_wd_s h7.1, h7.2.imp id ai_wd_s⟩
def ai_pG (q : (Nat × Nat) × Nat × Nat) (j : Nat) : Bool := decide (q.2.1 < 165) && (decide ((ai_Px[q.2.1]?).map (fun j => j.2.2.2.1) = some q.2.2) && (match ai_M[q.2.1]? with
  | some r => ai_wd j (Jvm.Cond.methodLink (ai_Rn q.1.1) q.1.2 r.1)
  | none => false))
set_option maxRecDepth 100000 in
theorem ai_ckG : (List.zipWith ai_pG ai_G (ai_Gx.map (·.1))).all id = true := by decide +kernel
def ai_pQ (q : (Nat × Nat) × Nat) (j : Nat × Nat × Nat × Nat) : Bool := decide (q.2 < 165) && (decide ((ai_Px[q.2]?).map (fun j => j.2.2.2.1) = some 0) && (match ai_M[q.2]? with
  | some r => decide (lw_tbl[j.1]? = some (Jvm.Cond.methodLinkNest (ai_Rn q.1.1) q.1.2 r.1 RX9))
  | none => false))
theorem ai_ckQ : (List.zipWith ai_pQ ai_Q ai_Qx).all id = true := by decide +kernel
theorem ai_G_s {o i mn n : Nat} (h : ai_get ai_G o i = some (mn, n)) : ∃ r, ai_M[mn]? = some r ∧ Jvm.Cond.methodLink (ai_Rn o) i r.1 ∈ ai_tb ∧ ai_mk r mn n := by
  obtain ⟨j, hj⟩ := ai_z2 (by decide +kernel) ai_ckG (ai_get_mem h)
  unfold ai_pG at hj
  simp only [Bool.and_eq_true, decide_eq_true_eq] at hj
  obtain ⟨h1, h2, h3⟩ := hj
  obtain ⟨r, n', hr, hn, hk⟩ := ai_mk_s h1
  rw [h2] at hn
  cases hn
  rw [hr] at h3
  exact ⟨r, hr, ai_wd_s h3, hk⟩
theorem ai_Q_s {o i mn : Nat} (h : ai_get ai_Q o i = some mn) : ∃ r, ai_M[mn]? = some r ∧ ((o, i), mn) ∈ ai_Q ∧ ai_mk r mn 0 := by
  obtain ⟨j, hj⟩ := ai_z2 (by decide +kernel) ai_ckQ (ai_get_mem h)
  unfold ai_pQ at hj
  simp only [Bool.and_eq_true, decide_eq_true_eq] at hj
  obtain ⟨h1, h2, h3⟩ := hj
  obtain ⟨r, n', hr, hn, hk⟩ := ai_mk_s h1
  rw [h2] at hn
  cases hn
  exact ⟨r, hr, ai_get_mem h, hk⟩
set_option maxRecDepth 100000 in
theorem ai_ckN : (List.zipWith (fun (q : (Nat × Nat) × Nat) j => ai_wd j (Jvm.Cond.classLink (ai_Rn q.1.1) q.1.2 (ai_Rn q.2))) ai_N ai_Nx).all id = true := by decide +kernel
theorem ai_N_s {o i c : Nat} (h : ai_get ai_N o i = some c) : Jvm.Cond.classLink (ai_Rn o) i (ai_Rn c) ∈ ai_tb := by
  obtain ⟨j, hj⟩ := ai_z2 (by decide +kernel) ai_ckN (ai_get_mem h)
  exact ai_wd_s hj
theorem ai_ckO : (List.zipWith (fun (q : Nat × Nat) j => ai_wd j (Jvm.Cond.methodLink (ai_Rn q.1) q.2 objectInit)) ai_O ai_Ox).all id = true := by decide +kernel
theorem ai_O_s {o i : Nat} (h : ai_O.contains (o, i) = true) : Jvm.Cond.methodLink (ai_Rn o) i objectInit ∈ ai_tb := by
  obtain ⟨j, hj⟩ := ai_z2 (by decide +kernel) ai_ckO (List.contains_iff_mem.mp h)
  exact ai_wd_s hj
theorem ai_ckK : (List.zipWith (fun (q : (Nat × Nat) × Int32) j => ai_wd j (Jvm.Cond.constant (ai_Rn q.1.1) q.1.2 q.2)) ai_K ai_Kx).all id = true := by decide +kernel
theorem ai_K_s {o i : Nat} {v : Int32} (h : ai_get ai_K o i = some v) : Jvm.Cond.constant (ai_Rn o) i v ∈ ai_tb := by
  obtain ⟨j, hj⟩ := ai_z2 (by decide +kernel) ai_ckK (ai_get_mem h)
  exact ai_wd_s hj
set_option maxRecDepth 100000 in
theorem ai_ckC : (List.zipWith (fun (r : vw_C) (j : Nat × Nat) => ai_wd j.1 (Jvm.Cond.instantiable r.1 r.2.2) && ai_wd j.2 (Jvm.Cond.initialized r.1)) ai_cl ai_Cx).all id = true := by decide +kernel
set_option maxRecDepth 100000 in
theorem ai_ckL : (List.zipWith (fun (r : vw_C) (l : List Nat) => decide (l.length = r.2.2) && (List.zipWith (fun k j => ai_wd j (u_lay r.1 r.2.1 k)) (List.range r.2.2) l).all id) ai_cl ai_Lx).all id = true := by decide +kernel
theorem ai_C_s {r : vw_C} (h : r ∈ ai_cl) : Jvm.Cond.instantiable r.1 r.2.2 ∈ ai_tb ∧ Jvm.Cond.initialized r.1 ∈ ai_tb ∧ ∀ w ∈ u_ws r.1 r.2.1 r.2.2, w ∈ ai_tb := by
  obtain ⟨j, hj⟩ := ai_z2 (by decide +kernel) ai_ckC h
  obtain ⟨l, hl⟩ := ai_z2 (by decide +kernel) ai_ckL h
  simp only [Bool.and_eq_true, decide_eq_true_eq] at hj hl
  refine ⟨ai_wd_s hj.1, ai_wd_s hj.2, fun w hw => ?_⟩
  obtain ⟨k, hk, rfl⟩ := List.mem_map.mp hw
  obtain ⟨b, hb⟩ := ai_z2 (by rw [hl.1, List.length_range]) hl.2 hk
  exact ai_wd_s hb
theorem ai_ckC2 : ((List.range 11).all fun c => match ai_cl[c]? with
  | some r => decide (r.1 = ai_Rn c) && ((List.range r.2.2).all (fun k => decide ((r.2.1 k).1 = ai_Rn c) && (decide (parseFieldDescriptor (r.2.1 k).2.2.1 = some (ai_ft c k)) && (List.range r.2.2).all (fun j => decide (k = j) || decide ((r.2.1 k).2.1 ≠ (r.2.1 j).2.1)))))
  | none => false) = true := by decide +kernel
theorem ai_C2_s {c : Nat} {r : vw_C} (h : ai_cl[c]? = some r) : r.1 = ai_Rn c ∧ (∀ k, k < r.2.2 → (r.2.1 k).1 = ai_Rn c) ∧ (∀ k, k < r.2.2 → parseFieldDescriptor (r.2.1 k).2.2.1 = some (ai_ft c k)) ∧ (∀ a, a < r.2.2 → ∀ b, b < r.2.2 → a ≠ b → (r.2.1 a).2.1 ≠ (r.2.1 b).2.1) := by
  have hc : c < 11 := (List.getElem?_eq_some_iff.mp h).1
  have h1 := List.all_eq_true.mp ai_ckC2 c (List.mem_range.mpr hc)
  rw [h] at h1
  simp only [Bool.and_eq_true, decide_eq_true_eq, List.all_eq_true, List.mem_range, Bool.or_eq_true] at h1
  refine ⟨h1.1, fun k hk => (h1.2 k hk).1, fun k hk => (h1.2 k hk).2.1, fun a ha b hb hab => ?_⟩
  rcases (h1.2 a ha).2.2 b hb with e | e
  · exact absurd e hab
  · exact e
end
section
theorem ai_ckJ : (List.zipWith (fun (q : (Nat × Nat) × Int64) j => ai_wd j (Jvm.Cond.constantLong (ai_Rn q.1.1) q.1.2 q.2)) ai_J [502]).all id = true := by decide +kernel
theorem ai_J_s {o i : Nat} {v : Int64} (h : ai_get ai_J o i = some v) : Jvm.Cond.constantLong (ai_Rn o) i v ∈ ai_tb := by
  obtain ⟨j, hj⟩ := ai_z2 (by decide +kernel) ai_ckJ (ai_get_mem h)
  exact ai_wd_s hj
theorem ai_ckZ : (List.zipWith (fun (q : Nat × Nat) j => ai_wd j (Jvm.Cond.fieldLink (ai_Rn q.1) q.2 RX9 "CYCLES" "[I")) ai_Z [310]).all id = true := by decide +kernel
theorem ai_Z_s {o i : Nat} (h : ai_Z.contains (o, i) = true) : Jvm.Cond.fieldLink (ai_Rn o) i RX9 "CYCLES" "[I" ∈ ai_tb := by
  obtain ⟨j, hj⟩ := ai_z2 (by decide +kernel) ai_ckZ (List.contains_iff_mem.mp h)
  exact ai_wd_s hj
theorem ai_wI : Jvm.Cond.arrayClass .int ∈ ai_tb := ai_wd_s (i := 108) (by decide +kernel)
theorem ai_wB : Jvm.Cond.arrayClass .boolean ∈ ai_tb := ai_wd_s (i := 954) (by decide +kernel)
theorem ai_wA {c t : Nat} (h : ai_ao c = some t) : Jvm.Cond.arrayOver (.object (ai_Rn c)) ∈ lw_tbl := by
  unfold ai_ao at h
  split at h
  · exact List.mem_of_getElem? (i := 155) (by decide +kernel)
  · exact List.mem_of_getElem? (i := 138) (by decide +kernel)
  · exact List.mem_of_getElem? (i := 226) (by decide +kernel)
  · cases h
theorem ai_wO1 : Jvm.Cond.instanceMethod objectInit ∈ ai_tb := ai_wd_s (i := 57) (by decide +kernel)
theorem ai_wO2 : Jvm.Cond.code objectInit ⟨#[0xb1]⟩ 1 none ∈ ai_tb := ai_wd_s (i := 58) (by decide +kernel)
theorem ai_wS : Jvm.Cond.laysStatic RX9 "CYCLES" "[I" ∈ lw_tbl := List.mem_of_getElem? (i := 311) (by decide +kernel)
end
section
abbrev ai_E : Type := Nat × Nat × Nat
def ai_v (E : ai_E) : Value → Value
  | .ref i => .ref (E.1 + i)
  | .float u => .ref (if u = 0 then E.2.1 else E.2.2)
  | v => v
theorem ai_v_cat (E : ai_E) (v : Value) : (ai_v E v).category = v.category := by cases v <;> rfl
def ai_w (E : ai_E) (q : Nat × Value) : Nat × Value := (q.1, ai_v E q.2)
abbrev ai_D : Type := va_G × (Nat → ClassId)
def ai_tys (aC : Nat → ClassId) : List (ClassId × FieldType) := [(aC 0, ai_at 0), (aC 1, ai_at 1), (aC 2, ai_at 2), (aC 3, ai_at 3), (aC 4, ai_at 4)]
theorem ai_tys_at (aC : Nat → ClassId) {t : Nat} (h : t < 5) : (ai_tys aC)[t]? = some (aC t, ai_at t) := by
  rcases (by omega : t = 0 ∨ t = 1 ∨ t = 2 ∨ t = 3 ∨ t = 4) with rfl | rfl | rfl | rfl | rfl <;> rfl
def ai_hc (D : ai_D) (E : ai_E) (i : Nat) (c : ai_C) (H : Heap) : Prop := match c with
  | .inl (t, n, .inl f) => H[E.1 + i]? = some (arrV (D.2 t) n (fun j => .int (f j)))
  | .inl (t, n, .inr g) => H[E.1 + i]? = some (arrV (D.2 t) n (fun j => ai_v E (va_rf (g j))))
  | .inr (k, fs) => ∃ r : vw_C, ai_cl[k]? = some r ∧ t_OB (E.1 + i) (D.1.1 k) r.2.2 (D.1.2 k) H (vp_V (fs.map (ai_v E)))
theorem ai_hc.kept {D : ai_D} {E : ai_E} {i : Nat} {c : ai_C} {H H1 : Heap} (h : ai_hc D E i c H) (e : H1[E.1 + i]? = H[E.1 + i]?) : ai_hc D E i c H1 := by
  rcases c with ⟨t, n, f | f⟩ | ⟨k, fs⟩
  · show H1[E.1 + i]? = _
    rw [e]; exact h
  · show H1[E.1 + i]? = _
    rw [e]; exact h
  · obtain ⟨r, h1, h2⟩ := h
    exact ⟨r, h1, h2.kept e⟩
def ai_P (D : ai_D) (E : ai_E) (h : List ai_C) (H : Heap) : Prop := H.size = E.1 + h.length ∧ ∀ (i : Nat) (c : ai_C), h[i]? = some c → ai_hc D E i c H
theorem ai_P.set {D : ai_D} {E : ai_E} {h : List ai_C} {H H1 : Heap} {a : Nat} {c : ai_C} (hP : ai_P D E h H) (hz : H1.size = H.size) (ho : ∀ q : Nat, q ≠ E.1 + a → H1[q]? = H[q]?) (hc : ai_hc D E a c H1) : ai_P D E (h.set a c) H1 := by
  refine ⟨by rw [hz, hP.1, List.length_set], fun i c' hi => ?_⟩
  by_cases e : a = i
  · subst e
    have hl : a < h.length := by
      have := (List.getElem?_eq_some_iff.mp hi).1
      rwa [List.length_set] at this
    rw [List.getElem?_set_self hl] at hi
    cases hi
    exact hc
  · rw [List.getElem?_set_ne e] at hi
    exact (hP.2 i c' hi).kept (ho _ (by omega))
theorem ai_P.app {D : ai_D} {E : ai_E} {h : List ai_C} {H H1 : Heap} {c : ai_C} (hP : ai_P D E h H) (hz : H1.size = H.size + 1) (ho : ∀ q : Nat, q < H.size → H1[q]? = H[q]?) (hc : ai_hc D E h.length c H1) : ai_P D E (h ++ [c]) H1 := by
  refine ⟨by rw [hz, hP.1, List.length_append]; rfl, fun i c' hi => ?_⟩
  by_cases e : i < h.length
  · rw [List.getElem?_append_left e] at hi
    exact (hP.2 i c' hi).kept (ho _ (by rw [hP.1]; omega))
  · rw [List.getElem?_append_right (by omega)] at hi
    have hl : i - h.length < 1 := (List.getElem?_eq_some_iff.mp hi).1
    have e2 : i = h.length := by omega
    subst e2
    rw [Nat.sub_self] at hi
    cases hi
    exact hc
/-- what stays the same of the world all along -/
def ai_W (D : ai_D) (E : ai_E) (S : ai_S) (s : State) : Prop := va_K D.1 ai_cl (ai_tys D.2) s ∧ (va_X E.2.1 S.1 S.2 s s.heap ∧ E.2.1 < E.1) ∧ (va_X E.2.2 5 ai_cyc s s.heap ∧ E.2.2 < E.1) ∧ va_Z RX9 "CYCLES" "[I" (.ref E.2.2) (fun q => E.1 ≤ q) s s.heap ∧ E.1 ≤ s.heap.size ∧ (∀ q ∈ ai_Q, va_Nw (.methodLinkNest (ai_Rn q.1.1) q.1.2 (ai_nm q.2) RX9) s) ∧ (∀ c t, ai_ao c = some t → va_AO (ai_Rn c) s)
theorem ai_W.moved {D : ai_D} {E : ai_E} {S : ai_S} {s U : State} {H : Heap} {locs : List Loc} (h : ai_W D E S s) (hw : s.WarmedH U.vm) (hH : U.heap = H) (hS : va_S (fun q => E.1 ≤ q) s.heap H locs) : ai_W D E S U := by
  obtain ⟨h1, ⟨h2, h2'⟩, ⟨h3, h3'⟩, h4, h5, h6, h7⟩ := h
  subst hH
  have al := hw.alike
  refine ⟨va_K.moved al h1, ⟨(h2.moved al).kept (hS.2.1 _ (by omega) (by omega)), h2'⟩, ⟨(h3.moved al).kept (hS.2.1 _ (by omega) (by omega)), h3'⟩, (h4.moved al).kept (fun a h1 h2 => hS.2.1 a h1 h2), Nat.le_trans h5 hS.1, fun q hq => (h6 q hq).warmM hw, fun c t hc => va_AO.moved al (h7 c t hc)⟩
theorem lv_weak {ls : Array Slot} {n : Nat} {l l' : List (Nat × Value)} (h : lv_has ls n l) (hs : ∀ q ∈ l', q ∈ l) : lv_has ls n l' := ⟨h.1, h.2.1, fun q hq => h.2.2 q (hs q hq)⟩
theorem ai_look_mem {L : ai_L} {k : Nat} {v : Value} (h : ai_look L k = some v) : (k, v) ∈ L := by
  unfold ai_look at h
  obtain ⟨q, hq, rfl⟩ := Option.map_eq_some_iff.mp h
  have h1 := List.find?_some hq
  have h2 := List.mem_of_find?_eq_some hq
  obtain ⟨a, b⟩ := q
  simp only [beq_iff_eq] at h1
  subst h1
  exact h2
theorem ai_look_s {E : ai_E} {L : ai_L} {k n : Nat} {v : Value} {ls : Array Slot} (h : ai_look L k = some v) (hl : lv_has ls n (L.map (ai_w E))) : ls[k]? = some (.val (ai_v E v)) :=
  hl.2.2 (k, ai_v E v) (List.mem_map.mpr ⟨(k, v), ai_look_mem h, rfl⟩)
theorem ai_put_w {E : ai_E} {i : Nat} {v : Value} {L : ai_L} {q : Nat × Value} (h : q ∈ (ai_put i v L).map (ai_w E)) : q ∈ (i, ai_v E v) :: (L.map (ai_w E)).filter (fun q => !(q.1 == i) && !(q.1 + 1 == i && q.2.category == 2)) := by
  obtain ⟨q', hq, rfl⟩ := List.mem_map.mp h
  rcases List.mem_cons.mp (ai_sort_mem hq) with rfl | h1
  · exact List.mem_cons_self
  · obtain ⟨h2, h3⟩ := List.mem_filter.mp h1
    refine List.mem_cons_of_mem _ (List.mem_filter.mpr ⟨List.mem_map.mpr ⟨q', h2, rfl⟩, ?_⟩)
    show (!(q'.1 == i) && !(q'.1 + 1 == i && (ai_v E q'.2).category == 2)) = true
    rw [ai_v_cat]
    exact h3
theorem ai_put2_w {E : ai_E} {i : Nat} {v : Value} {L : ai_L} {q : Nat × Value} (h : q ∈ (ai_put2 i v L).map (ai_w E)) : q ∈ (i, ai_v E v) :: (L.map (ai_w E)).filter (fun q => !(q.1 == i) && (!(q.1 == i + 1) && !(q.1 + 1 == i && q.2.category == 2))) := by
  obtain ⟨q', hq, rfl⟩ := List.mem_map.mp h
  rcases List.mem_cons.mp (ai_sort_mem hq) with rfl | h1
  · exact List.mem_cons_self
  · obtain ⟨h2, h3⟩ := List.mem_filter.mp h1
    refine List.mem_cons_of_mem _ (List.mem_filter.mpr ⟨List.mem_map.mpr ⟨q', h2, rfl⟩, ?_⟩)
    show (!(q'.1 == i) && (!(q'.1 == i + 1) && !(q'.1 + 1 == i && (ai_v E q'.2).category == 2))) = true
    rw [ai_v_cat]
    exact h3
theorem ai_args_w (E : ai_E) (vs : List Value) : ∀ i, lv_args i (vs.map (ai_v E)) = (lv_args i vs).map (ai_w E) := by
  induction vs with
  | nil => intro i; rfl
  | cons v t ih =>
    intro i
    show (i, ai_v E v) :: lv_args (if (ai_v E v).category = 2 then i + 2 else i + 1) (t.map (ai_v E)) = _
    rw [ai_v_cat, ih]
    rfl
theorem ai_sl_w (E : ai_E) (vs : List Value) : (lg_sl (vs.map (ai_v E))).length = (lg_sl vs).length := by
  induction vs with
  | nil => rfl
  | cons v t ih =>
    simp only [lg_sl, List.map_cons, List.flatMap_cons, List.length_append, ai_v_cat] at ih ⊢
    rw [ih]
    split <;> rfl
theorem ai_sum_w (E : ai_E) (vs : List Value) : ((vs.map (ai_v E)).map fun v => v.category).sum = ai_sum vs := by
  unfold ai_sum
  rw [List.map_map]
  congr 1
  apply List.map_congr_left
  intro v _
  exact ai_v_cat E v
def ai_X (p : Program) (s : State) (m : MethodId) (args : Array Value) (meth : Method) (c : Code) (mn : Nat) : Prop := p.tables.exec = Jvm.exec ∧ c.code = ai_bc mn ∧ c.maxLocals = ai_ml mn ∧ s.vm.findClass (ai_Rn (ai_ow mn)) = some m.cls ∧ (∀ w ∈ ai_tb, w.before args s = true) ∧ meth.name = (ai_nm mn).name ∧ (ai_nm mn).cls = ai_Rn (ai_ow mn)
theorem ai_br_s {pc : Nat} {off : Int} {b : Bool} {L : ai_L} {st : List Value} {h : ai_H} {x : ai_Y} (hs : ai_br pc off b L st h = some x) : (pc : Int) + off = ((((pc : Int) + off).toNat : Nat) : Int) ∧ x = (if b = true then ((pc : Int) + off).toNat else pc + 3, L, st, h) := by
  obtain ⟨h1, h2⟩ := ai_g_s hs
  have h3 := of_decide_eq_true h1
  cases h2
  exact ⟨(Int.toNat_of_nonneg h3).symm, rfl⟩
theorem ai_nx_s {a : Nat} {b : ai_L} {c : List Value} {d : ai_H} {x : ai_Y} (h : ai_nx a b c d = some x) : x = (a, b, c, d) := by
  unfold ai_nx at h
  exact (Option.some.inj h).symm
end
section
theorem ai_gr0 {h : ai_H} {a : Nat} {b : ai_L} {c : List Value} {x : ai_Y} (e : x = (a, b, c, h)) : h.1.length ≤ x.2.2.2.1.length ∧ h.2 ≤ x.2.2.2.2 := by subst e; exact ⟨Nat.le_refl _, Nat.le_refl _⟩
theorem ai_gr1 {h : ai_H} {h' : List ai_C} {a : Nat} {b : ai_L} {c : List Value} {x : ai_Y} (e : x = (a, b, c, (h', h.2))) (e2 : h'.length = h.1.length) : h.1.length ≤ x.2.2.2.1.length ∧ h.2 ≤ x.2.2.2.2 := by subst e; exact ⟨Nat.le_of_eq e2.symm, Nat.le_refl _⟩
set_option maxHeartbeats 4000000 in
theorem ai_do_grow {S : ai_S} {mn pc : Nat} {L : ai_L} {st : List Value} {h : ai_H} {i : Instr} {x : ai_Y} (hs : ai_do S mn pc L st h i = some x) : h.1.length ≤ x.2.2.2.1.length ∧ h.2 ≤ x.2.2.2.2 := by
  cases i with
  | iconst n =>
    have hs := ai_nx_s hs
    exact ai_gr0 hs
  | bipush n =>
    have hs := ai_nx_s hs
    exact ai_gr0 hs
  | sipush n =>
    have hs := ai_nx_s hs
    exact ai_gr0 hs
  | lconst n =>
    have hs := ai_nx_s hs
    exact ai_gr0 hs
  | aconst_null =>
    have hs := ai_nx_s hs
    exact ai_gr0 hs
  | ldc i =>
    obtain ⟨v, hv, hs⟩ := ai_o_s hs
    have hs := ai_nx_s hs
    exact ai_gr0 hs
  | ldc_w i =>
    obtain ⟨v, hv, hs⟩ := ai_o_s hs
    have hs := ai_nx_s hs
    exact ai_gr0 hs
  | ldc2_w i =>
    obtain ⟨v, hv, hs⟩ := ai_o_s hs
    have hs := ai_nx_s hs
    exact ai_gr0 hs
  | iload_n k =>
    obtain ⟨v, hv, hs⟩ := ai_o_s hs
    obtain ⟨y, rfl, hs⟩ := ai_ldi_s hs
    have hs := ai_nx_s hs
    exact ai_gr0 hs
  | iload k =>
    obtain ⟨v, hv, hs⟩ := ai_o_s hs
    obtain ⟨y, rfl, hs⟩ := ai_ldi_s hs
    have hs := ai_nx_s hs
    exact ai_gr0 hs
  | lload_n k =>
    obtain ⟨v, hv, hs⟩ := ai_o_s hs
    obtain ⟨y, rfl, hs⟩ := ai_ldl_s hs
    have hs := ai_nx_s hs
    exact ai_gr0 hs
  | lload k =>
    obtain ⟨v, hv, hs⟩ := ai_o_s hs
    obtain ⟨y, rfl, hs⟩ := ai_ldl_s hs
    have hs := ai_nx_s hs
    exact ai_gr0 hs
  | aload_n k =>
    obtain ⟨v, hv, hs⟩ := ai_o_s hs
    obtain ⟨hv2, hs⟩ := ai_g_s hs
    have hs := ai_nx_s hs
    cases v with
    | ref a => exact ai_gr0 hs
    | null => exact ai_gr0 hs
    | float u => exact ai_gr0 hs
    | _ => cases hv2
  | aload k =>
    obtain ⟨v, hv, hs⟩ := ai_o_s hs
    obtain ⟨hv2, hs⟩ := ai_g_s hs
    have hs := ai_nx_s hs
    cases v with
    | ref a => exact ai_gr0 hs
    | null => exact ai_gr0 hs
    | float u => exact ai_gr0 hs
    | _ => cases hv2
  | istore_n k =>
    obtain ⟨y, r, rfl, hs⟩ := ai_m1_s hs
    obtain ⟨hv, hs⟩ := ai_g_s hs
    have hs := ai_nx_s hs
    exact ai_gr0 hs
  | istore k =>
    obtain ⟨y, r, rfl, hs⟩ := ai_m1_s hs
    obtain ⟨hv, hs⟩ := ai_g_s hs
    have hs := ai_nx_s hs
    exact ai_gr0 hs
  | lstore k =>
    obtain ⟨v, r, rfl, hs⟩ := ai_c1_s hs
    obtain ⟨y, rfl, hs⟩ := ai_ldl_s hs
    obtain ⟨hv, hs⟩ := ai_g_s hs
    have hs := ai_nx_s hs
    exact ai_gr0 hs
  | astore_n k =>
    obtain ⟨v, r, rfl, hs⟩ := ai_c1_s hs
    obtain ⟨hv, hs⟩ := ai_g_s hs
    have hs := ai_nx_s hs
    simp only [Bool.and_eq_true, decide_eq_true_eq] at hv
    obtain ⟨hv1, hv2⟩ := hv
    cases v with
    | ref a => exact ai_gr0 hs
    | null => exact ai_gr0 hs
    | float u => exact ai_gr0 hs
    | _ => cases hv2
  | astore k =>
    obtain ⟨v, r, rfl, hs⟩ := ai_c1_s hs
    obtain ⟨hv, hs⟩ := ai_g_s hs
    have hs := ai_nx_s hs
    simp only [Bool.and_eq_true, decide_eq_true_eq] at hv
    obtain ⟨hv1, hv2⟩ := hv
    cases v with
    | ref a => exact ai_gr0 hs
    | null => exact ai_gr0 hs
    | float u => exact ai_gr0 hs
    | _ => cases hv2
  | iinc k n =>
    obtain ⟨v, hv, hs⟩ := ai_o_s hs
    obtain ⟨y, rfl, hs⟩ := ai_ldi_s hs
    obtain ⟨hv2, hs⟩ := ai_g_s hs
    have hs := ai_nx_s hs
    exact ai_gr0 hs
  | iadd =>
    obtain ⟨y, z, r, rfl, hs⟩ := ai_m2_s hs
    have hs := ai_nx_s hs
    exact ai_gr0 hs
  | isub =>
    obtain ⟨y, z, r, rfl, hs⟩ := ai_m2_s hs
    have hs := ai_nx_s hs
    exact ai_gr0 hs
  | imul =>
    obtain ⟨y, z, r, rfl, hs⟩ := ai_m2_s hs
    have hs := ai_nx_s hs
    exact ai_gr0 hs
  | iand =>
    obtain ⟨y, z, r, rfl, hs⟩ := ai_m2_s hs
    have hs := ai_nx_s hs
    exact ai_gr0 hs
  | ior =>
    obtain ⟨y, z, r, rfl, hs⟩ := ai_m2_s hs
    have hs := ai_nx_s hs
    exact ai_gr0 hs
  | ixor =>
    obtain ⟨y, z, r, rfl, hs⟩ := ai_m2_s hs
    have hs := ai_nx_s hs
    exact ai_gr0 hs
  | ishl =>
    obtain ⟨y, z, r, rfl, hs⟩ := ai_m2_s hs
    have hs := ai_nx_s hs
    exact ai_gr0 hs
  | ishr =>
    obtain ⟨y, z, r, rfl, hs⟩ := ai_m2_s hs
    have hs := ai_nx_s hs
    exact ai_gr0 hs
  | idiv =>
    obtain ⟨y, z, r, rfl, hs⟩ := ai_m2_s hs
    obtain ⟨hv, hs⟩ := ai_g_s hs
    have hs := ai_nx_s hs
    exact ai_gr0 hs
  | irem =>
    obtain ⟨y, z, r, rfl, hs⟩ := ai_m2_s hs
    obtain ⟨hv, hs⟩ := ai_g_s hs
    have hs := ai_nx_s hs
    exact ai_gr0 hs
  | iushr =>
    obtain ⟨y, z, r, rfl, hs⟩ := ai_m2_s hs
    have hs := ai_nx_s hs
    exact ai_gr0 hs
  | ineg =>
    obtain ⟨y, r, rfl, hs⟩ := ai_m1_s hs
    have hs := ai_nx_s hs
    exact ai_gr0 hs
  | lsub =>
    obtain ⟨y, z, r, rfl, hs⟩ := ai_l2_s hs
    have hs := ai_nx_s hs
    exact ai_gr0 hs
  | land =>
    obtain ⟨y, z, r, rfl, hs⟩ := ai_l2_s hs
    have hs := ai_nx_s hs
    exact ai_gr0 hs
  | lor =>
    obtain ⟨y, z, r, rfl, hs⟩ := ai_l2_s hs
    have hs := ai_nx_s hs
    exact ai_gr0 hs
  | lxor =>
    obtain ⟨y, z, r, rfl, hs⟩ := ai_l2_s hs
    have hs := ai_nx_s hs
    exact ai_gr0 hs
  | lcmp =>
    obtain ⟨y, z, r, rfl, hs⟩ := ai_l2_s hs
    have hs := ai_nx_s hs
    exact ai_gr0 hs
  | lshl =>
    obtain ⟨y, z, r, rfl, hs⟩ := ai_lh_s hs
    have hs := ai_nx_s hs
    exact ai_gr0 hs
  | lshr =>
    obtain ⟨y, z, r, rfl, hs⟩ := ai_lh_s hs
    have hs := ai_nx_s hs
    exact ai_gr0 hs
  | lushr =>
    obtain ⟨y, z, r, rfl, hs⟩ := ai_lh_s hs
    have hs := ai_nx_s hs
    exact ai_gr0 hs
  | dup =>
    obtain ⟨v, r, rfl, hs⟩ := ai_c1_s hs
    obtain ⟨hv, hs⟩ := ai_g_s hs
    have hs := ai_nx_s hs
    exact ai_gr0 hs
  | dup2 =>
    obtain ⟨v, r, rfl, hs⟩ := ai_c1_s hs
    obtain ⟨w, r, rfl, hs⟩ := ai_c1_s hs
    obtain ⟨hv, hs⟩ := ai_g_s hs
    have hs := ai_nx_s hs
    simp only [Bool.and_eq_true, decide_eq_true_eq] at hv
    exact ai_gr0 hs
  | goto off =>
    exact ai_gr0 (ai_br_s hs).2
  | ifCond cd off =>
    obtain ⟨y, r, rfl, hs⟩ := ai_m1_s hs
    exact ai_gr0 (ai_br_s hs).2
  | if_icmp cd off =>
    obtain ⟨y, z, r, rfl, hs⟩ := ai_m2_s hs
    exact ai_gr0 (ai_br_s hs).2
  | ifnull off =>
    obtain ⟨v, r, rfl, hs⟩ := ai_c1_s hs
    cases v with
    | ref a =>
      exact ai_gr0 (ai_br_s hs).2
    | null =>
      exact ai_gr0 (ai_br_s hs).2
    | _ => cases hs
  | ifnonnull off =>
    obtain ⟨v, r, rfl, hs⟩ := ai_c1_s hs
    cases v with
    | ref a =>
      exact ai_gr0 (ai_br_s hs).2
    | null =>
      exact ai_gr0 (ai_br_s hs).2
    | _ => cases hs
  | tableswitch df lo hi offs =>
    obtain ⟨y, r, rfl, hs2⟩ := ai_m1_s hs
    by_cases hz : y.toInt < lo ∨ hi < y.toInt
    · rw [if_pos hz] at hs2
      exact ai_gr0 (ai_br_s hs2).2
    · rw [if_neg hz] at hs2
      obtain ⟨off, ho, hs2⟩ := ai_o_s hs2
      exact ai_gr0 (ai_br_s hs2).2
  | getfield i =>
    obtain ⟨v, r, rfl, hs⟩ := ai_c1_s hs
    obtain ⟨a, rfl, hs⟩ := ai_ref_s hs
    obtain ⟨q, hq, hs⟩ := ai_o_s hs
    obtain ⟨fs, hfs, hs⟩ := ai_o_s hs
    obtain ⟨w, hw, hs⟩ := ai_o_s hs
    have hs := ai_nx_s hs
    exact ai_gr0 hs
  | putfield i =>
    obtain ⟨v, r, rfl, hs⟩ := ai_c1_s hs
    obtain ⟨u, r, rfl, hs⟩ := ai_c1_s hs
    obtain ⟨a, rfl, hs⟩ := ai_ref_s hs
    obtain ⟨q, hq, hs⟩ := ai_o_s hs
    obtain ⟨fs, hfs, hs⟩ := ai_o_s hs
    obtain ⟨hv, hs⟩ := ai_g_s hs
    have hs := ai_nx_s hs
    simp only [Bool.and_eq_true, decide_eq_true_eq] at hv
    exact ai_gr1 hs (List.length_set ..)
  | getstatic i =>
    obtain ⟨hv, hs⟩ := ai_g_s hs
    have hs := ai_nx_s hs
    exact ai_gr0 hs
  | iaload =>
    obtain ⟨y, r, rfl, hs⟩ := ai_m1_s hs
    obtain ⟨v, r, rfl, hs⟩ := ai_c1_s hs
    cases v with
    | ref a =>
      obtain ⟨q, hq, hs⟩ := ai_o_s hs
      obtain ⟨hv, hs⟩ := ai_g_s hs
      have hs := ai_nx_s hs
      exact ai_gr0 hs
    | float u =>
      obtain ⟨hv, hs⟩ := ai_g_s hs
      have hs := ai_nx_s hs
      exact ai_gr0 hs
    | _ => cases hs
  | baload =>
    obtain ⟨y, r, rfl, hs⟩ := ai_m1_s hs
    obtain ⟨v, r, rfl, hs⟩ := ai_c1_s hs
    obtain ⟨a, rfl, hs⟩ := ai_ref_s hs
    obtain ⟨q, hq, hs⟩ := ai_o_s hs
    obtain ⟨hv, hs⟩ := ai_g_s hs
    have hs := ai_nx_s hs
    exact ai_gr0 hs
  | aaload =>
    obtain ⟨y, r, rfl, hs⟩ := ai_m1_s hs
    obtain ⟨v, r, rfl, hs⟩ := ai_c1_s hs
    obtain ⟨a, rfl, hs⟩ := ai_ref_s hs
    obtain ⟨q, hq, hs⟩ := ai_o_s hs
    obtain ⟨hv, hs⟩ := ai_g_s hs
    have hs := ai_nx_s hs
    simp only [Bool.and_eq_true, decide_eq_true_eq] at hv
    exact ai_gr0 hs
  | iastore =>
    obtain ⟨y, z, r, rfl, hs⟩ := ai_m2_s hs
    obtain ⟨v, r, rfl, hs⟩ := ai_c1_s hs
    obtain ⟨a, rfl, hs⟩ := ai_ref_s hs
    obtain ⟨q, hq, hs⟩ := ai_o_s hs
    obtain ⟨hv, hs⟩ := ai_g_s hs
    have hs := ai_nx_s hs
    exact ai_gr1 hs (List.length_set ..)
  | bastore =>
    obtain ⟨y, z, r, rfl, hs⟩ := ai_m2_s hs
    obtain ⟨v, r, rfl, hs⟩ := ai_c1_s hs
    obtain ⟨a, rfl, hs⟩ := ai_ref_s hs
    obtain ⟨q, hq, hs⟩ := ai_o_s hs
    obtain ⟨hv, hs⟩ := ai_g_s hs
    have hs := ai_nx_s hs
    simp only [Bool.and_eq_true, decide_eq_true_eq] at hv
    exact ai_gr1 hs (List.length_set ..)
  | aastore =>
    obtain ⟨w, r, rfl, hs⟩ := ai_c1_s hs
    obtain ⟨y, r, rfl, hs⟩ := ai_m1_s hs
    obtain ⟨v, r, rfl, hs⟩ := ai_c1_s hs
    obtain ⟨a, rfl, hs⟩ := ai_ref_s hs
    obtain ⟨q, hq, hs⟩ := ai_o_s hs
    obtain ⟨hv, hs⟩ := ai_g_s hs
    simp only [Bool.and_eq_true, decide_eq_true_eq] at hv
    cases w with
    | null =>
      have hs := ai_nx_s hs
      exact ai_gr1 hs (List.length_set ..)
    | ref w =>
      dsimp only at hs
      split at hs
      next k fs hw =>
        obtain ⟨hv2, hs⟩ := ai_g_s hs
        have hs := ai_nx_s hs
        exact ai_gr1 hs (List.length_set ..)
      next => cases hs
    | _ => cases hs
  | arraylength =>
    obtain ⟨v, r, rfl, hs⟩ := ai_c1_s hs
    cases v with
    | ref a =>
      obtain ⟨n, hn, hs⟩ := ai_o_s hs
      have hs := ai_nx_s hs
      exact ai_gr0 hs
    | float u =>
      have hs := ai_nx_s hs
      exact ai_gr0 hs
    | _ => cases hs
  | new i =>
    obtain ⟨k, hk1, hs⟩ := ai_o_s hs
    obtain ⟨hv, hs⟩ := ai_g_s hs
    have hs := ai_nx_s hs
    subst hs
    exact ⟨by simp, by simp⟩
  | newarray t =>
    obtain ⟨n, r, rfl, hs⟩ := ai_m1_s hs
    obtain ⟨hv, hs⟩ := ai_g_s hs
    simp only [Bool.and_eq_true, decide_eq_true_eq] at hv
    cases t with
    | int =>
      have hs := ai_nx_s hs
      subst hs
      exact ⟨by simp, by simp⟩
    | boolean =>
      have hs := ai_nx_s hs
      subst hs
      exact ⟨by simp, by simp⟩
    | _ => cases hs
  | anewarray i =>
    obtain ⟨n, r, rfl, hs⟩ := ai_m1_s hs
    obtain ⟨hv, hs⟩ := ai_g_s hs
    simp only [Bool.and_eq_true, decide_eq_true_eq] at hv
    obtain ⟨k, hk1, hs⟩ := ai_o_s hs
    obtain ⟨t, ht, hs⟩ := ai_o_s hs
    have hs := ai_nx_s hs
    subst hs
    exact ⟨by simp, by simp⟩
  | invokespecial i =>
    obtain ⟨v, r, rfl, hs⟩ := ai_c1_s hs
    obtain ⟨a, rfl, hs⟩ := ai_ref_s hs
    obtain ⟨hv, hs⟩ := ai_g_s hs
    have hs := ai_nx_s hs
    exact ai_gr0 hs
  | _ => cases hs
end
section
theorem ai_ftok : ∀ c, c < 11 → ∀ k, k < 42 → ai_nofl (defaultValue (ai_ft c k)) = true := by decide +kernel
theorem ai_nf42 : ∀ c, c < 11 → ai_nf c ≤ 42 := by decide +kernel
section AI
variable {p : Program} {l : Launch} {e : Env} {R : Room} {s : State} {m : MethodId} {args : Array Value} {below : List Frame} {meth : Method} {c : Code} {H : Heap} {locs : List Loc} {cells slots : Nat} {Q : State → Prop}
variable {S : ai_S} {D : ai_D} {E : ai_E} {mn pc : Nat} {L : ai_L} {st : List Value} {h : ai_H} {ls : Array Slot}
theorem ai_getf (hX : ai_X p s m args meth c mn) (hW : ai_W D E S s) (hP : ai_P D E h.1 H) {i a ci k : Nat} {fs r : List Value} {w : Value} (hd : decode (ai_bc mn) pc = .ok (.getfield i, 3)) (h1 : ai_get ai_F (ai_ow mn) i = some (ci, k)) (h2 : ai_obj h a ci = some fs) (h3 : fs[k]? = some w)
    (kk : W p l e R s m args below meth c H locs cells slots Q (F0 m (pc + 3) ls (ai_v E w :: r))) : W p l e R s m args below meth c H locs cells slots Q (F0 m pc ls (.ref (E.1 + a) :: r)) := by
  obtain ⟨hx, hb, hml, hown, hts, -, -⟩ := hX
  obtain ⟨r0, hr, hk, hl⟩ := ai_F_s h1
  obtain ⟨r1, hr1, cell, q1, q2, q3, q4⟩ := hP.2 a _ (ai_obj_s h2)
  cases hr.symm.trans hr1
  obtain ⟨hin1, hin2, hin⟩ := ai_C_s (List.mem_of_getElem? hr)
  obtain ⟨hS, hfc, kC, hkC, hkind⟩ := hW.1.1 ci _ hr
  obtain ⟨cf, kf, fi, f, hi, hsl⟩ := hS k hk
  refine W.getf hx hb hown (hts _ hl) hi (u_facts hfc hkC (u_lays hts hin hk) hi).1 q1 (by rw [q3]; exact fun h => by cases h) (v := ai_v E w) ?_ rfl rfl hd kk
  rw [hsl, q4 k hk]
  simp [vp_V, h3]
theorem ai_S_put {H1 : Heap} {a k : Nat} (hS : va_S (fun q => E.1 ≤ q) s.heap H locs) (z : H1.size = H.size) (o : ∀ q : Nat, q ≠ E.1 + a → H1[q]? = H[q]?) : va_S (fun q => E.1 ≤ q) s.heap H1 (locs ++ [⟨E.1 + a, k⟩]) := hS.put z o (Nat.le_add_right _ _)
theorem ai_putf (hX : ai_X p s m args meth c mn) (hW : ai_W D E S s) (hP : ai_P D E h.1 H) (hS0 : va_S (fun q => E.1 ≤ q) s.heap H locs) {i a ci k : Nat} {fs r : List Value} {w : Value} (hd : decode (ai_bc mn) pc = .ok (.putfield i, 3)) (h1 : ai_get ai_F (ai_ow mn) i = some (ci, k)) (h2 : ai_obj h a ci = some fs) (h3 : k < fs.length) (h4 : ai_okp (ai_nm mn) ci k w = true)
    (kk : ∀ (H1 : Heap) (locs1 : List Loc), ai_P D E (h.1.set a (.inr (ci, fs.set k w))) H1 → va_S (fun q => E.1 ≤ q) s.heap H1 locs1 → W p l e R s m args below meth c H1 locs1 cells slots Q (F0 m (pc + 3) ls r)) : W p l e R s m args below meth c H locs cells slots Q (F0 m pc ls (ai_v E w :: .ref (E.1 + a) :: r)) := by
  obtain ⟨hx, hb, hml, hown, hts, hnm, hcl⟩ := hX
  obtain ⟨r0, hr, hk, hl⟩ := ai_F_s h1
  obtain ⟨r1, hr1, cell, q1, q2, q3, q4⟩ := hP.2 a _ (ai_obj_s h2)
  cases hr.symm.trans hr1
  obtain ⟨hin1, hin2, hin⟩ := ai_C_s (List.mem_of_getElem? hr)
  obtain ⟨hname, hdecl, hty, hne⟩ := ai_C2_s hr
  have hap := va_apart (own := ai_Rn (ai_ow mn)) hts hin (ai_ft ci) hty hne hW.1 hr
  obtain ⟨hS, hfc, kC, hkC, hkind⟩ := hW.1.1 ci _ hr
  obtain ⟨cf, kf, fi, f, hi, hsl⟩ := hS k hk
  unfold ai_okp at h4
  simp only [Bool.and_eq_true, decide_eq_true_eq] at h4
  obtain ⟨hfl, hf, hn, hfit⟩ := h4
  have hn' : narrow (ai_ft ci k) (ai_v E w) = ai_v E w := by
    cases w <;> first | exact hn | (cases ai_ft ci k <;> rfl)
  have hfit' : fits (ai_ft ci k) (ai_v E w) = true := by
    cases w with
    | ref a => revert hfit; cases ai_ft ci k <;> exact id
    | float u => cases hfl
    | _ => exact hfit
  have hlay := hts _ (hin _ (u_in_lay hk))
  have hst := (u_facts hfc hkC (u_lays hts hin hk) hi).1
  have fin : ∀ H' : Heap, H'[E.1 + a]? = some (cell.setSlot f.slot (ai_v E w)) → H'.size = H.size → (∀ q, q ≠ E.1 + a → H'[q]? = H[q]?) → W p l e R s m args below meth c H' (locs ++ [⟨E.1 + a, f.slot⟩]) cells slots Q (F0 m (pc + 3) ls r) := by
    intro H' e1 e2 e3
    rw [hsl] at e1
    refine kk H' _ (hP.set e2 e3 ⟨_, hr, ?_⟩) (ai_S_put hS0 e2 e3)
    refine t_OB.to (V := updV (vp_V (fs.map (ai_v E))) k (ai_v E w)) ⟨_, e1, q2, q3, t_set q4 hap hk _⟩ (fun j _ => ?_)
    rw [List.map_set]
    exact vp_updV_set (by rw [List.length_map]; exact h3) _ j
  cases hfn : (r0.2.1 k).2.2.2 with
  | false =>
    unfold u_lay at hlay
    rw [if_neg (by rw [hfn]; decide)] at hlay
    have h6 := u_store hfc hkC hkind hlay hi (hty k hk) hn' hfit'
    exact W.putK hx hb (f := f) ⟨hown, hts _ hl, ⟨_, _, _, hi⟩, hst⟩ (by rw [q2]; exact h6) q1 q3 (by rw [hsl]; exact k2_hasslot (q4 k hk)) rfl rfl hd fin
  | true =>
    have hfin : ai_fin ci k = true := by unfold ai_fin; rw [hr]; exact hfn
    rw [hfin] at hf
    simp only [decide_eq_true_eq] at hf
    unfold u_lay at hlay
    rw [if_pos hfn] at hlay
    have hown2 : s.vm.findClass (r0.2.1 k).1 = some m.cls := by rw [hdecl k hk, ← hf.2, hcl]; exact hown
    have hcf : m.cls = cf := by
      obtain ⟨_, _, c', _, _, _, -, -, hf', -, -, -, hown3, -⟩ := Cond.laysFinal_spec hlay
      have e1 : c' = cf := by have := hi.symm.trans hf'; simp at this; exact this.1.symm
      rw [← e1]; exact Option.some.inj (hown2.symm.trans hown3)
    have h6 := u_fits hfc hkC hkind (Or.inr hlay) hi (hty k hk) hn' hfit'
    exact W.putFinK hx hb hown (hts _ hl) hi hst hcf (hnm.trans hf.1) (by rw [q2]; exact h6) q1 q3 (by rw [hsl]; exact k2_hasslot (q4 k hk)) rfl rfl hd fin
theorem ai_new (hX : ai_X p s m args meth c mn) (hW : ai_W D E S s) (hP : ai_P D E h.1 H) (hS0 : va_S (fun q => E.1 ≤ q) s.heap H locs) {i ci : Nat} {r : List Value} (hd : decode (ai_bc mn) pc = .ok (.new i, 3)) (h1 : ai_get ai_N (ai_ow mn) i = some ci) (h2 : ci < 11) (hc : cells + 1 ≤ R.cells) (hsl : slots + ai_nf ci ≤ R.slots)
    (kk : ∀ (H1 : Heap), ai_P D E (h.1 ++ [.inr (ci, ai_fs0 ci)]) H1 → va_S (fun q => E.1 ≤ q) s.heap H1 locs → W p l e R s m args below meth c H1 locs (cells + 1) (slots + ai_nf ci) Q (F0 m (pc + 3) ls (.ref (E.1 + h.1.length) :: r))) : W p l e R s m args below meth c H locs cells slots Q (F0 m pc ls r) := by
  obtain ⟨hx, hb, hml, hown, hts, hnm, hcl⟩ := hX
  have hr : ai_cl[ci]? = some ai_cl[ci] := List.getElem?_eq_getElem h2
  generalize ai_cl[ci] = r0 at hr
  obtain ⟨hin1, hin2, hin⟩ := ai_C_s (List.mem_of_getElem? hr)
  obtain ⟨hname, hdecl, hty, hne⟩ := ai_C2_s hr
  have hKn := hW.1.1 ci _ hr
  have hnf : ai_nf ci = r0.2.2 := by unfold ai_nf; rw [hr]
  refine W.newcK hx hb hown (by rw [hname]; exact hts _ (ai_N_s h1)) (hts _ hin1) (hts _ hin2) rfl hd hc (by rw [← hnf]; exact hsl) hKn.2.1 hP.1 fun H1 kC hkC e1 z1 o1 => ?_
  rw [← hnf]
  refine kk H1 (hP.app (by rw [z1, hP.1]) (fun q hq => o1 q (by rw [← hP.1]; exact hq)) ⟨r0, hr, ?_⟩) ⟨Nat.le_trans hS0.1 (by rw [z1, ← hP.1]; omega), fun q a b => (o1 q (by rw [← hP.1]; exact Nat.lt_of_lt_of_le a hS0.1)).trans (hS0.2.1 q a b), hS0.2.2⟩
  refine (u_born (ai_ft ci) hts hin hKn hkC e1 hty).to (fun k hk => ?_)
  have hk2 : k < ai_nf ci := by rw [hnf]; exact hk
  show _ = ((ai_fs0 ci).map (ai_v E)).getD k .null
  unfold ai_fs0
  simp [List.getD_eq_getElem?_getD, hk2]
  have hnf2 := ai_ftok ci h2 k (Nat.lt_of_lt_of_le hk2 (ai_nf42 ci h2))
  revert hnf2
  generalize ai_ft ci k = ty
  intro hnf2
  cases ty <;> first | rfl | cases hnf2
theorem ai_newar (hX : ai_X p s m args meth c mn) (hW : ai_W D E S s) (hP : ai_P D E h.1 H) (hS0 : va_S (fun q => E.1 ≤ q) s.heap H locs) {t : Nat} {at1 : ArrayType} {n : Int32} {r : List Value} (hd : decode (ai_bc mn) pc = .ok (.newarray at1, 2)) (ht : t < 2) (hat : newarray.typeOf at1 = ai_at t) (hw : Jvm.Cond.arrayClass (ai_at t) ∈ ai_tb) (hn : ¬ n < 0) (hn2 : n.toNatClampNeg ≤ 100000) (hc : cells + 1 ≤ R.cells) (hsl : slots + n.toNatClampNeg ≤ R.slots)
    (kk : ∀ (H1 : Heap), ai_P D E (h.1 ++ [.inl (t, n.toNatClampNeg, .inl (fun _ => 0))]) H1 → va_S (fun q => E.1 ≤ q) s.heap H1 locs → W p l e R s m args below meth c H1 locs (cells + 1) (slots + n.toNatClampNeg) Q (F0 m (pc + 2) ls (.ref (E.1 + h.1.length) :: r))) : W p l e R s m args below meth c H locs cells slots Q (F0 m pc ls (.int n :: r)) := by
  obtain ⟨hx, hb, hml, hown, hts, hnm, hcl⟩ := hX
  have hA := hW.1.2 t _ (ai_tys_at D.2 (by omega))
  have hbytes : n.toNatClampNeg * componentBytes (newarray.typeOf at1) ≤ 536870912 := by
    have : componentBytes (newarray.typeOf at1) ≤ 8 := by cases at1 <;> decide
    calc n.toNatClampNeg * componentBytes (newarray.typeOf at1) ≤ 100000 * 8 := Nat.mul_le_mul hn2 this
      _ ≤ 536870912 := by decide
  refine va_newaK hx hb (by rw [hat]; exact hts _ hw) rfl hd rfl hn rfl hbytes hc hsl hP.1 fun H1 cA e1 z1 o1 _ hfc => ?_
  have hcA : cA = D.2 t := by
    have h2 := hA.2
    rw [hat] at hfc
    rcases (by omega : t = 0 ∨ t = 1) with rfl | rfl
    · exact Option.some.inj (hfc.symm.trans h2)
    · exact Option.some.inj (hfc.symm.trans h2)
  subst hcA
  refine kk H1 (hP.app (by rw [z1, hP.1]) (fun q hq => o1 q (by rw [← hP.1]; exact hq)) ?_) ⟨Nat.le_trans hS0.1 (by rw [z1, ← hP.1]; omega), fun q a b => (o1 q (by rw [← hP.1]; exact Nat.lt_of_lt_of_le a hS0.1)).trans (hS0.2.1 q a b), hS0.2.2⟩
  show H1[E.1 + h.1.length]? = _
  rw [e1, hat]
  rcases (by omega : t = 0 ∨ t = 1) with rfl | rfl <;> rfl
theorem ai_ao_s {c t : Nat} (h : ai_ao c = some t) : 2 ≤ t ∧ t < 5 ∧ c < 11 ∧ ai_at t = .object (ai_Rn c) := by
  unfold ai_ao at h
  split at h <;> first | (cases h; exact ⟨by decide, by decide, by decide, rfl⟩) | cases h
theorem ai_newq (hX : ai_X p s m args meth c mn) (hW : ai_W D E S s) (hP : ai_P D E h.1 H) (hS0 : va_S (fun q => E.1 ≤ q) s.heap H locs) {i ci t : Nat} {n : Int32} {r : List Value} (hd : decode (ai_bc mn) pc = .ok (.anewarray i, 3)) (h1 : ai_get ai_N (ai_ow mn) i = some ci) (h2 : ai_ao ci = some t) (hn : ¬ n < 0) (hn2 : n.toNatClampNeg ≤ 100000) (hc : cells + 1 ≤ R.cells) (hsl : slots + n.toNatClampNeg ≤ R.slots)
    (kk : ∀ (H1 : Heap), ai_P D E (h.1 ++ [.inl (t, n.toNatClampNeg, .inr (fun _ => none))]) H1 → va_S (fun q => E.1 ≤ q) s.heap H1 locs → W p l e R s m args below meth c H1 locs (cells + 1) (slots + n.toNatClampNeg) Q (F0 m (pc + 3) ls (.ref (E.1 + h.1.length) :: r))) : W p l e R s m args below meth c H locs cells slots Q (F0 m pc ls (.int n :: r)) := by
  obtain ⟨hx, hb, hml, hown, hts, hnm, hcl⟩ := hX
  obtain ⟨t2, t5, -, hat⟩ := ai_ao_s h2
  have hA := hW.1.2 t _ (ai_tys_at D.2 t5)
  refine W.anew hx hb hown (hts _ (ai_N_s h1)) (va_AO.use (hW.2.2.2.2.2.2 ci t h2)) rfl hd rfl hn (by omega) hc hsl fun cA kA comp f1 f2 f3 f4 => ?_
  have hcA : cA = D.2 t := by
    have h3 := hA.2
    rw [hat] at h3
    obtain ⟨_, _, _, _, _, h4⟩ := h3
    exact Option.some.inj (f1.symm.trans h4)
  subst hcA
  generalize hH1 : H.push ({ cls := D.2 t, slots := Array.replicate n.toNatClampNeg .null, vm := .none } : Cell) = H1
  have z1 : H1.size = H.size + 1 := by rw [← hH1, Array.size_push]
  have e1 : H1[H.size]? = some (arrV (D.2 t) n.toNatClampNeg (fun _ => .null)) := by rw [← hH1, Array.getElem?_push_size, ← arrV_new]
  have o1 : ∀ q : Nat, q < H.size → H1[q]? = H[q]? := fun q hq => by rw [← hH1, Array.getElem?_push, if_neg (Nat.ne_of_lt hq)]
  have hz := hP.1
  refine W.eq (g2 := F0 m (pc + 3) ls (.ref (E.1 + h.1.length) :: r)) (by rw [← hz]) ?_
  refine kk H1 (hP.app z1 o1 ?_) ⟨Nat.le_trans hS0.1 (by rw [z1]; omega), fun q a b => (o1 q (Nat.lt_of_lt_of_le a hS0.1)).trans (hS0.2.1 q a b), hS0.2.2⟩
  show H1[E.1 + h.1.length]? = _
  rw [← hz, e1]
  rfl
theorem ai_ild (hX : ai_X p s m args meth c mn) (hW : ai_W D E S s) (hP : ai_P D E h.1 H) {a : Nat} {i : Int32} {q : Nat × (Nat → Int32)} {r : List Value} (hd : decode (ai_bc mn) pc = .ok (.iaload, 1)) (h1 : ai_arr h a 0 = some q) (h2 : ai_in i q.1 = true)
    (kk : W p l e R s m args below meth c H locs cells slots Q (F0 m (pc + 1) ls (.int (q.2 i.toNatClampNeg) :: r))) : W p l e R s m args below meth c H locs cells slots Q (F0 m pc ls (.int i :: .ref (E.1 + a) :: r)) := by
  obtain ⟨hx, hb, hml, hown, hts, hnm, hcl⟩ := hX
  have hA := hW.1.2 0 _ (ai_tys_at D.2 (by omega))
  have hin := ai_in_s h2
  have hlt : i.toNatClampNeg < q.1 := Nat.not_le.mp fun z => hin (Or.inr z)
  have hc := hP.2 a _ (ai_arr_s h1)
  exact W.iald (v := .int (q.2 i.toNatClampNeg)) hx hb hc (hA.1 q.1 (fun j => .int (q.2 j))) (fun z => by cases z) (by rw [arrV_size]; exact hin) (by rw [arrV_read _ _ hlt]) rfl rfl hd kk
theorem ai_zld (hX : ai_X p s m args meth c mn) (hW : ai_W D E S s) (hP : ai_P D E h.1 H) {a : Nat} {i : Int32} {q : Nat × (Nat → Int32)} {r : List Value} (hd : decode (ai_bc mn) pc = .ok (.baload, 1)) (h1 : ai_arr h a 1 = some q) (h2 : ai_in i q.1 = true)
    (kk : W p l e R s m args below meth c H locs cells slots Q (F0 m (pc + 1) ls (.int (q.2 i.toNatClampNeg) :: r))) : W p l e R s m args below meth c H locs cells slots Q (F0 m pc ls (.int i :: .ref (E.1 + a) :: r)) := by
  obtain ⟨hx, hb, hml, hown, hts, hnm, hcl⟩ := hX
  have hA := hW.1.2 1 _ (ai_tys_at D.2 (by omega))
  have hin := ai_in_s h2
  have hlt : i.toNatClampNeg < q.1 := Nat.not_le.mp fun z => hin (Or.inr z)
  have hc := hP.2 a _ (ai_arr_s h1)
  exact W.zald (v := .int (q.2 i.toNatClampNeg)) hx hb hc (hA.1 q.1 (fun j => .int (q.2 j))) (fun z => by cases z) (by rw [arrV_size]; exact hin) (by rw [arrV_read _ _ hlt]) rfl rfl hd kk
theorem ai_qld (hX : ai_X p s m args meth c mn) (hW : ai_W D E S s) (hP : ai_P D E h.1 H) {a : Nat} {i : Int32} {q : Nat × Nat × (Nat → Option Nat)} {r : List Value} (hd : decode (ai_bc mn) pc = .ok (.aaload, 1)) (h1 : ai_arq h a = some q) (h2 : ai_in i q.2.1 = true) (h3 : 2 ≤ q.1) (h4 : q.1 < 5)
    (kk : W p l e R s m args below meth c H locs cells slots Q (F0 m (pc + 1) ls (ai_v E (va_rf (q.2.2 i.toNatClampNeg)) :: r))) : W p l e R s m args below meth c H locs cells slots Q (F0 m pc ls (.int i :: .ref (E.1 + a) :: r)) := by
  obtain ⟨hx, hb, hml, hown, hts, hnm, hcl⟩ := hX
  have hA := hW.1.2 q.1 _ (ai_tys_at D.2 h4)
  have hin := ai_in_s h2
  have hlt : i.toNatClampNeg < q.2.1 := Nat.not_le.mp fun z => hin (Or.inr z)
  have hc := hP.2 a _ (ai_arq_s h1)
  have hrf : (ai_at q.1).isReference = true := by
    rcases (by omega : q.1 = 2 ∨ q.1 = 3 ∨ q.1 = 4) with z | z | z <;> rw [z] <;> rfl
  exact W.aald (v := ai_v E (va_rf (q.2.2 i.toNatClampNeg))) (ty := ai_at q.1) hx hb hc (hA.1 q.2.1 _) hrf (fun z => by cases z) (by rw [arrV_size]; exact hin) (by rw [arrV_read _ _ hlt]) rfl rfl hd kk
theorem ai_ist (hX : ai_X p s m args meth c mn) (hW : ai_W D E S s) (hP : ai_P D E h.1 H) (hS0 : va_S (fun q => E.1 ≤ q) s.heap H locs) {a : Nat} {i x : Int32} {q : Nat × (Nat → Int32)} {r : List Value} (hd : decode (ai_bc mn) pc = .ok (.iastore, 1)) (h1 : ai_arr h a 0 = some q) (h2 : ai_in i q.1 = true)
    (kk : ∀ (H1 : Heap) (locs1 : List Loc), ai_P D E (h.1.set a (.inl (0, q.1, .inl (upd q.2 i.toNatClampNeg x)))) H1 → va_S (fun q => E.1 ≤ q) s.heap H1 locs1 → W p l e R s m args below meth c H1 locs1 cells slots Q (F0 m (pc + 1) ls r)) : W p l e R s m args below meth c H locs cells slots Q (F0 m pc ls (.int x :: .int i :: .ref (E.1 + a) :: r)) := by
  obtain ⟨hx, hb, hml, hown, hts, hnm, hcl⟩ := hX
  have hA := hW.1.2 0 _ (ai_tys_at D.2 (by omega))
  have hin := ai_in_s h2
  have hc := hP.2 a _ (ai_arr_s h1)
  refine W.iast hx hb hc (hA.1 q.1 (fun j => .int (q.2 j))) (fun z => by cases z) (by rw [arrV_size]; exact hin) rfl rfl hd fun H1 e1 z o => ?_
  refine kk H1 _ (hP.set z o ?_) (ai_S_put hS0 z o)
  show H1[E.1 + a]? = _
  rw [e1, arrV_store]
  congr 2
  funext j
  by_cases hj : j = i.toNatClampNeg
  · subst hj; simp [updV, upd]
  · simp [updV, upd, hj]
theorem ai_zst (hX : ai_X p s m args meth c mn) (hW : ai_W D E S s) (hP : ai_P D E h.1 H) (hS0 : va_S (fun q => E.1 ≤ q) s.heap H locs) {a : Nat} {i x : Int32} {q : Nat × (Nat → Int32)} {r : List Value} (hd : decode (ai_bc mn) pc = .ok (.bastore, 1)) (h1 : ai_arr h a 1 = some q) (h2 : ai_in i q.1 = true) (h3 : x &&& 1 = x)
    (kk : ∀ (H1 : Heap) (locs1 : List Loc), ai_P D E (h.1.set a (.inl (1, q.1, .inl (upd q.2 i.toNatClampNeg x)))) H1 → va_S (fun q => E.1 ≤ q) s.heap H1 locs1 → W p l e R s m args below meth c H1 locs1 cells slots Q (F0 m (pc + 1) ls r)) : W p l e R s m args below meth c H locs cells slots Q (F0 m pc ls (.int x :: .int i :: .ref (E.1 + a) :: r)) := by
  obtain ⟨hx, hb, hml, hown, hts, hnm, hcl⟩ := hX
  have hA := hW.1.2 1 _ (ai_tys_at D.2 (by omega))
  have hin := ai_in_s h2
  have hc := hP.2 a _ (ai_arr_s h1)
  refine W.zast hx hb hc (hA.1 q.1 (fun j => .int (q.2 j))) (fun z => by cases z) (by rw [arrV_size]; exact hin) rfl rfl hd fun H1 e1 z o => ?_
  refine kk H1 _ (hP.set z o ?_) (ai_S_put hS0 z o)
  show H1[E.1 + a]? = _
  have hnar : narrow .boolean (.int x) = .int x := by show Value.int (x &&& 1) = _; rw [h3]
  rw [e1, arrV_store, hnar]
  congr 2
  funext j
  by_cases hj : j = i.toNatClampNeg
  · subst hj; simp [updV, upd]
  · simp [updV, upd, hj]
theorem ai_qst (hX : ai_X p s m args meth c mn) (hW : ai_W D E S s) (hP : ai_P D E h.1 H) (hS0 : va_S (fun q => E.1 ≤ q) s.heap H locs) {a w k : Nat} {fs : List Value} {i : Int32} {q : Nat × Nat × (Nat → Option Nat)} {r : List Value} (hd : decode (ai_bc mn) pc = .ok (.aastore, 1)) (h1 : ai_arq h a = some q) (h2 : ai_in i q.2.1 = true) (h5 : h.1[w]? = some (.inr (k, fs))) (h6 : ai_ao k = some q.1)
    (kk : ∀ (H1 : Heap) (locs1 : List Loc), ai_P D E (h.1.set a (.inl (q.1, q.2.1, .inr (va_up q.2.2 i.toNatClampNeg (some w))))) H1 → va_S (fun q => E.1 ≤ q) s.heap H1 locs1 → W p l e R s m args below meth c H1 locs1 cells slots Q (F0 m (pc + 1) ls r)) : W p l e R s m args below meth c H locs cells slots Q (F0 m pc ls (.ref (E.1 + w) :: .int i :: .ref (E.1 + a) :: r)) := by
  obtain ⟨hx, hb, hml, hown, hts, hnm, hcl⟩ := hX
  obtain ⟨t2, t5, -, hat⟩ := ai_ao_s h6
  have hA := hW.1.2 q.1 _ (ai_tys_at D.2 t5)
  have hin := ai_in_s h2
  have hlt : i.toNatClampNeg < q.2.1 := Nat.not_le.mp fun z => hin (Or.inr z)
  have h0 : ¬ i < 0 := fun z => hin (Or.inl z)
  have hc := hP.2 a _ (ai_arq_s h1)
  obtain ⟨r0, hr, cellV, g1, g2, g3, -⟩ := hP.2 w _ h5
  have hcls := (hW.1.1 k r0 hr).2
  have hA2 := hA.2
  rw [hat] at hA2
  obtain ⟨kA, comp, k1, k2, k3, -⟩ := hA2
  have hcomp : comp = D.1.1 k := by
    have := hcls.1
    rw [(ai_C2_s hr).1] at this
    exact Option.some.inj (k3.symm.trans this)
  subst hcomp
  obtain ⟨kC, hkC, hkd⟩ := hcls.2
  refine W.aast hx hb hc (fun z h => by cases h) (fun h => by cases h) k1 k2 rfl hkC ⟨h0, by rw [arrV_size]; exact hlt⟩ g1 (fun z h => by rw [g3] at h; cases h) (by rw [g2]; exact hkC) (by rw [g2]; exact va_assign hcls) rfl rfl hd fun H1 e1 z o => ?_
  refine kk H1 _ (hP.set z o ?_) (ai_S_put hS0 z o)
  show H1[E.1 + a]? = _
  rw [e1, arrV_store]
  congr 2
  funext j
  by_cases hj : j = i.toNatClampNeg
  · subst hj; simp [updV, va_up, va_rf, ai_v]
  · simp [updV, va_up, hj]
theorem ai_qst0 (hX : ai_X p s m args meth c mn) (hW : ai_W D E S s) (hP : ai_P D E h.1 H) (hS0 : va_S (fun q => E.1 ≤ q) s.heap H locs) {a : Nat} {i : Int32} {q : Nat × Nat × (Nat → Option Nat)} {r : List Value} (hd : decode (ai_bc mn) pc = .ok (.aastore, 1)) (h1 : ai_arq h a = some q) (h2 : ai_in i q.2.1 = true) (h3 : 2 ≤ q.1) (h4 : q.1 < 5)
    (kk : ∀ (H1 : Heap) (locs1 : List Loc), ai_P D E (h.1.set a (.inl (q.1, q.2.1, .inr (va_up q.2.2 i.toNatClampNeg none)))) H1 → va_S (fun q => E.1 ≤ q) s.heap H1 locs1 → W p l e R s m args below meth c H1 locs1 cells slots Q (F0 m (pc + 1) ls r)) : W p l e R s m args below meth c H locs cells slots Q (F0 m pc ls (.null :: .int i :: .ref (E.1 + a) :: r)) := by
  obtain ⟨hx, hb, hml, hown, hts, hnm, hcl⟩ := hX
  have hA := hW.1.2 q.1 _ (ai_tys_at D.2 h4)
  have hin := ai_in_s h2
  have hc := hP.2 a _ (ai_arq_s h1)
  have hat : ∃ C, ai_at q.1 = .object C := by
    rcases (by omega : q.1 = 2 ∨ q.1 = 3 ∨ q.1 = 4) with z | z | z <;> rw [z] <;> exact ⟨_, rfl⟩
  obtain ⟨C, hat⟩ := hat
  refine va_WaastN (C := C) hx hb hc (by rw [← hat]; exact hA.1 q.2.1 _) (fun h => by cases h) (by rw [arrV_size]; exact hin) rfl rfl hd fun H1 e1 z o => ?_
  refine kk H1 _ (hP.set z o ?_) (ai_S_put hS0 z o)
  show H1[E.1 + a]? = _
  rw [e1, arrV_store]
  congr 2
  funext j
  by_cases hj : j = i.toNatClampNeg
  · subst hj; simp [updV, va_up, va_rf, ai_v]
  · simp [updV, va_up, hj]
theorem ai_al (hX : ai_X p s m args meth c mn) (hW : ai_W D E S s) (hP : ai_P D E h.1 H) {a n : Nat} {r : List Value} (hd : decode (ai_bc mn) pc = .ok (.arraylength, 1)) (h1 : ai_alen h a = some n)
    (kk : W p l e R s m args below meth c H locs cells slots Q (F0 m (pc + 1) ls (.int (Int32.ofNat n) :: r))) : W p l e R s m args below meth c H locs cells slots Q (F0 m pc ls (.ref (E.1 + a) :: r)) := by
  obtain ⟨hx, hb, hml, hown, hts, hnm, hcl⟩ := hX
  obtain ⟨t, x, hc0, ht⟩ := ai_alen_s h1
  have hA := hW.1.2 t _ (ai_tys_at D.2 ht)
  have hc := hP.2 a _ hc0
  rcases x with f | f
  · exact W.alen (n := Int32.ofNat n) hx hb hc (hA.1 n _) (by rw [arrV_size] <;> rfl) rfl rfl hd kk
  · exact W.alen (n := Int32.ofNat n) hx hb hc (hA.1 n _) (by rw [arrV_size] <;> rfl) rfl rfl hd kk
end AI
end
section
section AI2
variable {p : Program} {l : Launch} {e : Env} {R : Room} {s : State} {m : MethodId} {args : Array Value} {below : List Frame} {meth : Method} {c : Code} {H : Heap} {locs : List Loc} {cells slots : Nat} {Q : State → Prop}
variable {S : ai_S} {D : ai_D} {E : ai_E} {mn pc : Nat} {L : ai_L} {st : List Value} {h : ai_H} {ls : Array Slot}
set_option maxHeartbeats 4000000 in
theorem ai_sim1 {i : Instr} {x : ai_Y} (hX : ai_X p s m args meth c mn) (hW : ai_W D E S s) (hd : ai_sw i = false → decode (ai_bc mn) pc = .ok (i, ai_len i)) (hd2 : ∃ len, decode (ai_bc mn) pc = .ok (i, len)) (hk : ai_kd mn i = 0) (hs : ai_do S mn pc L st h i = some x) (hL : lv_has ls (ai_ml mn) (L.map (ai_w E))) (hP : ai_P D E h.1 H) (hS : va_S (fun q => E.1 ≤ q) s.heap H locs) (hfr : 1 ≤ R.frames) (hlo : 20 ≤ R.locals) (hc : cells + x.2.2.2.1.length ≤ R.cells + h.1.length) (hsl : slots + x.2.2.2.2 ≤ R.slots + h.2)
    (kk : ∀ (ls' : Array Slot) (H' : Heap) (locs' : List Loc), lv_has ls' (ai_ml mn) (x.2.1.map (ai_w E)) → ai_P D E x.2.2.2.1 H' → va_S (fun q => E.1 ≤ q) s.heap H' locs' → W p l e R s m args below meth c H' locs' (cells + (x.2.2.2.1.length - h.1.length)) (slots + (x.2.2.2.2 - h.2)) Q (F0 m x.1 ls' (x.2.2.1.map (ai_v E)))) :
    W p l e R s m args below meth c H locs cells slots Q (F0 m pc ls (st.map (ai_v E))) := by
  have hX' := hX
  obtain ⟨hx, hb, hml, hown, hts, hnm, hcl⟩ := hX
  have k0 : ∀ (pc' : Nat) (L' : ai_L) (st' : List Value), x = (pc', L', st', h) → ∀ ls' : Array Slot, lv_has ls' (ai_ml mn) (L'.map (ai_w E)) → W p l e R s m args below meth c H locs cells slots Q (F0 m pc' ls' (st'.map (ai_v E))) := by
    intro pc' L' st' e1 ls' hl
    subst e1
    have h9 := kk ls' H locs hl hP hS
    simp only [Nat.sub_self, Nat.add_zero] at h9
    exact h9
  have kh : ∀ (pc' : Nat) (st' : List Value) (h' : List ai_C), x = (pc', L, st', (h', h.2)) → h'.length = h.1.length → ∀ (H' : Heap) (locs' : List Loc), ai_P D E h' H' → va_S (fun q => E.1 ≤ q) s.heap H' locs' → W p l e R s m args below meth c H' locs' cells slots Q (F0 m pc' ls (st'.map (ai_v E))) := by
    intro pc' st' h' e1 e2 H' locs' g1 g2
    subst e1
    have h9 := kk ls H' locs' hL g1 g2
    simp only [e2, Nat.sub_self, Nat.add_zero] at h9
    exact h9
  have kb : ∀ (off : Int) (b : Bool) (r : List Value), ai_br pc off b L r h = some x → (pc : Int) + off = ((((pc : Int) + off).toNat : Nat) : Int) ∧ W p l e R s m args below meth c H locs cells slots Q (F0 m (if b = true then ((pc : Int) + off).toNat else pc + 3) ls (r.map (ai_v E))) := by
    intro off b r hq
    obtain ⟨h1, h2⟩ := ai_br_s hq
    exact ⟨h1, k0 _ _ _ h2 ls hL⟩
  cases i with
  | iconst n =>
    have hs := ai_nx_s hs
    exact lv_iconst hx hb (hd rfl) rfl (k0 _ _ _ hs ls hL)
  | bipush n =>
    have hs := ai_nx_s hs
    exact lv_bipush hx hb (hd rfl) rfl (k0 _ _ _ hs ls hL)
  | sipush n =>
    have hs := ai_nx_s hs
    exact lv_sipush hx hb (hd rfl) rfl (k0 _ _ _ hs ls hL)
  | lconst n =>
    have hs := ai_nx_s hs
    exact lv_lconst hx hb (hd rfl) rfl (k0 _ _ _ hs ls hL)
  | aconst_null =>
    have hs := ai_nx_s hs
    exact lv_null hx hb (hd rfl) (k0 _ _ _ hs ls hL)
  | ldc i =>
    obtain ⟨v, hv, hs⟩ := ai_o_s hs
    have hs := ai_nx_s hs
    exact lv_ldc hx hb hown (hts _ (ai_K_s hv)) (hd rfl) (k0 _ _ _ hs ls hL)
  | ldc_w i =>
    obtain ⟨v, hv, hs⟩ := ai_o_s hs
    have hs := ai_nx_s hs
    exact lv_ldcw hx hb hown (hts _ (ai_K_s hv)) (hd rfl) (k0 _ _ _ hs ls hL)
  | ldc2_w i =>
    obtain ⟨v, hv, hs⟩ := ai_o_s hs
    have hs := ai_nx_s hs
    exact lv_ldc2 hx hb hown (hts _ (ai_J_s hv)) (hd rfl) (k0 _ _ _ hs ls hL)
  | iload_n k =>
    obtain ⟨v, hv, hs⟩ := ai_o_s hs
    obtain ⟨y, rfl, hs⟩ := ai_ldi_s hs
    have hs := ai_nx_s hs
    exact lv_iload_n hx hb (hd rfl) rfl (ai_look_s hv hL) (k0 _ _ _ hs ls hL)
  | iload k =>
    obtain ⟨v, hv, hs⟩ := ai_o_s hs
    obtain ⟨y, rfl, hs⟩ := ai_ldi_s hs
    have hs := ai_nx_s hs
    exact lv_iload hx hb (hd rfl) (ai_look_s hv hL) (k0 _ _ _ hs ls hL)
  | lload_n k =>
    obtain ⟨v, hv, hs⟩ := ai_o_s hs
    obtain ⟨y, rfl, hs⟩ := ai_ldl_s hs
    have hs := ai_nx_s hs
    exact lv_lload_n hx hb (hd rfl) rfl (ai_look_s hv hL) (k0 _ _ _ hs ls hL)
  | lload k =>
    obtain ⟨v, hv, hs⟩ := ai_o_s hs
    obtain ⟨y, rfl, hs⟩ := ai_ldl_s hs
    have hs := ai_nx_s hs
    exact lv_lload hx hb (hd rfl) (ai_look_s hv hL) (k0 _ _ _ hs ls hL)
  | aload_n k =>
    obtain ⟨v, hv, hs⟩ := ai_o_s hs
    obtain ⟨hv2, hs⟩ := ai_g_s hs
    have hs := ai_nx_s hs
    have hl := ai_look_s hv hL
    cases v with
    | ref a => exact lv_aload_n hx hb (hd rfl) rfl hl (k0 _ _ _ hs ls hL)
    | null => exact lv_aload_nN hx hb (hd rfl) rfl hl (k0 _ _ _ hs ls hL)
    | float u => exact lv_aload_n hx hb (hd rfl) rfl hl (k0 _ _ _ hs ls hL)
    | _ => cases hv2
  | aload k =>
    obtain ⟨v, hv, hs⟩ := ai_o_s hs
    obtain ⟨hv2, hs⟩ := ai_g_s hs
    have hs := ai_nx_s hs
    have hl := ai_look_s hv hL
    cases v with
    | ref a => exact lv_aload hx hb (hd rfl) hl (k0 _ _ _ hs ls hL)
    | null => exact lv_aloadN hx hb (hd rfl) hl (k0 _ _ _ hs ls hL)
    | float u => exact lv_aload hx hb (hd rfl) hl (k0 _ _ _ hs ls hL)
    | _ => cases hv2
  | istore_n k =>
    obtain ⟨y, r, rfl, hs⟩ := ai_m1_s hs
    obtain ⟨hv, hs⟩ := ai_g_s hs
    have hs := ai_nx_s hs
    exact lv_istore_n hx hb (hd rfl) rfl hL (of_decide_eq_true hv) rfl (fun ls' hl => k0 _ _ _ hs ls' (lv_weak hl fun q hq => ai_put_w hq))
  | istore k =>
    obtain ⟨y, r, rfl, hs⟩ := ai_m1_s hs
    obtain ⟨hv, hs⟩ := ai_g_s hs
    have hs := ai_nx_s hs
    exact lv_istore hx hb (hd rfl) hL (of_decide_eq_true hv) rfl (fun ls' hl => k0 _ _ _ hs ls' (lv_weak hl fun q hq => ai_put_w hq))
  | lstore k =>
    obtain ⟨v, r, rfl, hs⟩ := ai_c1_s hs
    obtain ⟨y, rfl, hs⟩ := ai_ldl_s hs
    obtain ⟨hv, hs⟩ := ai_g_s hs
    have hs := ai_nx_s hs
    exact lv_lstore hx hb (hd rfl) hL (of_decide_eq_true hv) rfl (fun ls' hl => k0 _ _ _ hs ls' (lv_weak hl fun q hq => ai_put2_w hq))
  | astore_n k =>
    obtain ⟨v, r, rfl, hs⟩ := ai_c1_s hs
    obtain ⟨hv, hs⟩ := ai_g_s hs
    have hs := ai_nx_s hs
    simp only [Bool.and_eq_true, decide_eq_true_eq] at hv
    obtain ⟨hv1, hv2⟩ := hv
    cases v with
    | ref a => exact lv_astore_n hx hb (hd rfl) rfl hL hv1 rfl (fun ls' hl => k0 _ _ _ hs ls' (lv_weak hl fun q hq => ai_put_w hq))
    | null => exact lv_astore_nN hx hb (hd rfl) rfl hL hv1 rfl (fun ls' hl => k0 _ _ _ hs ls' (lv_weak hl fun q hq => ai_put_w hq))
    | float u => exact lv_astore_n hx hb (hd rfl) rfl hL hv1 rfl (fun ls' hl => k0 _ _ _ hs ls' (lv_weak hl fun q hq => ai_put_w hq))
    | _ => cases hv2
  | astore k =>
    obtain ⟨v, r, rfl, hs⟩ := ai_c1_s hs
    obtain ⟨hv, hs⟩ := ai_g_s hs
    have hs := ai_nx_s hs
    simp only [Bool.and_eq_true, decide_eq_true_eq] at hv
    obtain ⟨hv1, hv2⟩ := hv
    cases v with
    | ref a => exact lv_astore hx hb (hd rfl) hL hv1 rfl (fun ls' hl => k0 _ _ _ hs ls' (lv_weak hl fun q hq => ai_put_w hq))
    | null => exact lv_astoreN hx hb (hd rfl) hL hv1 rfl (fun ls' hl => k0 _ _ _ hs ls' (lv_weak hl fun q hq => ai_put_w hq))
    | float u => exact lv_astore hx hb (hd rfl) hL hv1 rfl (fun ls' hl => k0 _ _ _ hs ls' (lv_weak hl fun q hq => ai_put_w hq))
    | _ => cases hv2
  | iinc k n =>
    obtain ⟨v, hv, hs⟩ := ai_o_s hs
    obtain ⟨y, rfl, hs⟩ := ai_ldi_s hs
    obtain ⟨hv2, hs⟩ := ai_g_s hs
    have hs := ai_nx_s hs
    obtain ⟨j, hj⟩ := List.getElem?_of_mem (List.mem_map.mpr ⟨_, ai_look_mem hv, rfl⟩ : (k, ai_v E (.int y)) ∈ L.map (ai_w E))
    exact lv_iinc hx hb (hd rfl) hL hj rfl (of_decide_eq_true hv2) rfl (fun ls' hl => k0 _ _ _ hs ls' (lv_weak hl fun q hq => ai_put_w hq))
  | iadd =>
    obtain ⟨y, z, r, rfl, hs⟩ := ai_m2_s hs
    have hs := ai_nx_s hs
    exact lv_iadd hx hb (hd rfl) (k0 _ _ _ hs ls hL)
  | isub =>
    obtain ⟨y, z, r, rfl, hs⟩ := ai_m2_s hs
    have hs := ai_nx_s hs
    exact lv_isub hx hb (hd rfl) (k0 _ _ _ hs ls hL)
  | imul =>
    obtain ⟨y, z, r, rfl, hs⟩ := ai_m2_s hs
    have hs := ai_nx_s hs
    exact lv_imul hx hb (hd rfl) (k0 _ _ _ hs ls hL)
  | iand =>
    obtain ⟨y, z, r, rfl, hs⟩ := ai_m2_s hs
    have hs := ai_nx_s hs
    exact lv_iand hx hb (hd rfl) (k0 _ _ _ hs ls hL)
  | ior =>
    obtain ⟨y, z, r, rfl, hs⟩ := ai_m2_s hs
    have hs := ai_nx_s hs
    exact lv_ior hx hb (hd rfl) (k0 _ _ _ hs ls hL)
  | ixor =>
    obtain ⟨y, z, r, rfl, hs⟩ := ai_m2_s hs
    have hs := ai_nx_s hs
    exact lv_ixor hx hb (hd rfl) (k0 _ _ _ hs ls hL)
  | ishl =>
    obtain ⟨y, z, r, rfl, hs⟩ := ai_m2_s hs
    have hs := ai_nx_s hs
    exact lv_ishl hx hb (hd rfl) (k0 _ _ _ hs ls hL)
  | ishr =>
    obtain ⟨y, z, r, rfl, hs⟩ := ai_m2_s hs
    have hs := ai_nx_s hs
    exact lv_ishr hx hb (hd rfl) (k0 _ _ _ hs ls hL)
  | idiv =>
    obtain ⟨y, z, r, rfl, hs⟩ := ai_m2_s hs
    obtain ⟨hv, hs⟩ := ai_g_s hs
    have hs := ai_nx_s hs
    exact lv_idiv hx hb (hd rfl) (of_decide_eq_true hv) (k0 _ _ _ hs ls hL)
  | irem =>
    obtain ⟨y, z, r, rfl, hs⟩ := ai_m2_s hs
    obtain ⟨hv, hs⟩ := ai_g_s hs
    have hs := ai_nx_s hs
    exact lv_irem hx hb (hd rfl) (of_decide_eq_true hv) (k0 _ _ _ hs ls hL)
  | iushr =>
    obtain ⟨y, z, r, rfl, hs⟩ := ai_m2_s hs
    have hs := ai_nx_s hs
    exact lv_iushr hx hb (hd rfl) rfl (k0 _ _ _ hs ls hL)
  | ineg =>
    obtain ⟨y, r, rfl, hs⟩ := ai_m1_s hs
    have hs := ai_nx_s hs
    exact lv_ineg hx hb (hd rfl) (k0 _ _ _ hs ls hL)
  | lsub =>
    obtain ⟨y, z, r, rfl, hs⟩ := ai_l2_s hs
    have hs := ai_nx_s hs
    exact lv_lsub hx hb (hd rfl) (k0 _ _ _ hs ls hL)
  | land =>
    obtain ⟨y, z, r, rfl, hs⟩ := ai_l2_s hs
    have hs := ai_nx_s hs
    exact lv_land hx hb (hd rfl) (k0 _ _ _ hs ls hL)
  | lor =>
    obtain ⟨y, z, r, rfl, hs⟩ := ai_l2_s hs
    have hs := ai_nx_s hs
    exact lv_lor hx hb (hd rfl) (k0 _ _ _ hs ls hL)
  | lxor =>
    obtain ⟨y, z, r, rfl, hs⟩ := ai_l2_s hs
    have hs := ai_nx_s hs
    exact lv_lxor hx hb (hd rfl) (k0 _ _ _ hs ls hL)
  | lcmp =>
    obtain ⟨y, z, r, rfl, hs⟩ := ai_l2_s hs
    have hs := ai_nx_s hs
    exact W.lcmp hx hb (hd rfl) (k0 _ _ _ hs ls hL)
  | lshl =>
    obtain ⟨y, z, r, rfl, hs⟩ := ai_lh_s hs
    have hs := ai_nx_s hs
    exact lv_lshl hx hb (hd rfl) rfl (k0 _ _ _ hs ls hL)
  | lshr =>
    obtain ⟨y, z, r, rfl, hs⟩ := ai_lh_s hs
    have hs := ai_nx_s hs
    exact lv_lshr hx hb (hd rfl) rfl (k0 _ _ _ hs ls hL)
  | lushr =>
    obtain ⟨y, z, r, rfl, hs⟩ := ai_lh_s hs
    have hs := ai_nx_s hs
    exact lv_lushr hx hb (hd rfl) rfl (k0 _ _ _ hs ls hL)
  | dup =>
    obtain ⟨v, r, rfl, hs⟩ := ai_c1_s hs
    obtain ⟨hv, hs⟩ := ai_g_s hs
    have hs := ai_nx_s hs
    exact lv_dup hx hb (hd rfl) ((ai_v_cat E v).trans (of_decide_eq_true hv)) (k0 _ _ _ hs ls hL)
  | dup2 =>
    obtain ⟨v, r, rfl, hs⟩ := ai_c1_s hs
    obtain ⟨w, r, rfl, hs⟩ := ai_c1_s hs
    obtain ⟨hv, hs⟩ := ai_g_s hs
    have hs := ai_nx_s hs
    simp only [Bool.and_eq_true, decide_eq_true_eq] at hv
    exact lv_dup2_11 hx hb (hd rfl) ((ai_v_cat E v).trans hv.1) ((ai_v_cat E w).trans hv.2) (k0 _ _ _ hs ls hL)
  | goto off =>
    obtain ⟨ht, k1⟩ := kb _ _ _ hs
    rw [if_pos rfl] at k1
    exact lv_goto hx hb (hd rfl) ht k1
  | ifCond cd off =>
    obtain ⟨y, r, rfl, hs⟩ := ai_m1_s hs
    obtain ⟨ht, k1⟩ := kb _ _ _ hs
    cases cd with
    | eq => exact lv_if_eq hx hb (hd rfl) ht (fun z => by rw [if_pos (show ai_cnd .eq _ _ = true from decide_eq_true z)] at k1; exact k1) (fun z => by rw [if_neg (show ¬ ai_cnd .eq _ _ = true from fun y9 => z (of_decide_eq_true y9))] at k1; exact k1)
    | ne => exact lv_if_ne hx hb (hd rfl) ht (fun z => by rw [if_pos (show ai_cnd .ne _ _ = true from decide_eq_true z)] at k1; exact k1) (fun z => by rw [if_neg (show ¬ ai_cnd .ne _ _ = true from fun y9 => of_decide_eq_true y9 z)] at k1; exact k1)
    | lt => exact lv_if_lt hx hb (hd rfl) ht (fun z => by rw [if_pos (show ai_cnd .lt _ _ = true from decide_eq_true z)] at k1; exact k1) (fun z => by rw [if_neg (show ¬ ai_cnd .lt _ _ = true from fun y9 => z (of_decide_eq_true y9))] at k1; exact k1)
    | ge => exact lv_if_ge hx hb (hd rfl) ht (fun z => by rw [if_pos (show ai_cnd .ge _ _ = true from decide_eq_true z)] at k1; exact k1) (fun z => by rw [if_neg (show ¬ ai_cnd .ge _ _ = true from fun y9 => z (of_decide_eq_true y9))] at k1; exact k1)
    | gt => exact lv_if_gt hx hb (hd rfl) ht (fun z => by rw [if_pos (show ai_cnd .gt _ _ = true from decide_eq_true z)] at k1; exact k1) (fun z => by rw [if_neg (show ¬ ai_cnd .gt _ _ = true from fun y9 => z (of_decide_eq_true y9))] at k1; exact k1)
    | le => exact lv_if_le hx hb (hd rfl) ht (fun z => by rw [if_pos (show ai_cnd .le _ _ = true from decide_eq_true z)] at k1; exact k1) (fun z => by rw [if_neg (show ¬ ai_cnd .le _ _ = true from fun y9 => z (of_decide_eq_true y9))] at k1; exact k1)
  | if_icmp cd off =>
    obtain ⟨y, z, r, rfl, hs⟩ := ai_m2_s hs
    obtain ⟨ht, k1⟩ := kb _ _ _ hs
    cases cd with
    | eq => exact lv_icmp_eq hx hb (hd rfl) ht (fun z => by rw [if_pos (show ai_cnd .eq _ _ = true from decide_eq_true z)] at k1; exact k1) (fun z => by rw [if_neg (show ¬ ai_cnd .eq _ _ = true from fun y9 => z (of_decide_eq_true y9))] at k1; exact k1)
    | ne => exact lv_icmp_ne hx hb (hd rfl) ht (fun z => by rw [if_pos (show ai_cnd .ne _ _ = true from decide_eq_true z)] at k1; exact k1) (fun z => by rw [if_neg (show ¬ ai_cnd .ne _ _ = true from fun y9 => of_decide_eq_true y9 z)] at k1; exact k1)
    | lt => exact lv_icmp_lt hx hb (hd rfl) ht (fun z => by rw [if_pos (show ai_cnd .lt _ _ = true from decide_eq_true z)] at k1; exact k1) (fun z => by rw [if_neg (show ¬ ai_cnd .lt _ _ = true from fun y9 => z (of_decide_eq_true y9))] at k1; exact k1)
    | ge => exact lv_icmp_ge hx hb (hd rfl) ht (fun z => by rw [if_pos (show ai_cnd .ge _ _ = true from decide_eq_true z)] at k1; exact k1) (fun z => by rw [if_neg (show ¬ ai_cnd .ge _ _ = true from fun y9 => z (of_decide_eq_true y9))] at k1; exact k1)
    | gt => exact lv_icmp_gt hx hb (hd rfl) ht (fun z => by rw [if_pos (show ai_cnd .gt _ _ = true from decide_eq_true z)] at k1; exact k1) (fun z => by rw [if_neg (show ¬ ai_cnd .gt _ _ = true from fun y9 => z (of_decide_eq_true y9))] at k1; exact k1)
    | le => exact lv_icmp_le hx hb (hd rfl) ht (fun z => by rw [if_pos (show ai_cnd .le _ _ = true from decide_eq_true z)] at k1; exact k1) (fun z => by rw [if_neg (show ¬ ai_cnd .le _ _ = true from fun y9 => z (of_decide_eq_true y9))] at k1; exact k1)
  | ifnull off =>
    obtain ⟨v, r, rfl, hs⟩ := ai_c1_s hs
    cases v with
    | ref a =>
      obtain ⟨ht, k1⟩ := kb _ _ _ hs
      exact lv_ifnull hx hb (hd rfl) k1
    | null =>
      obtain ⟨ht, k1⟩ := kb _ _ _ hs
      exact lv_ifnullN hx hb (hd rfl) ht k1
    | _ => cases hs
  | ifnonnull off =>
    obtain ⟨v, r, rfl, hs⟩ := ai_c1_s hs
    cases v with
    | ref a =>
      obtain ⟨ht, k1⟩ := kb _ _ _ hs
      exact lv_ifnonnull hx hb (hd rfl) ht k1
    | null =>
      obtain ⟨ht, k1⟩ := kb _ _ _ hs
      exact lv_ifnonnullN hx hb (hd rfl) k1
    | _ => cases hs
  | tableswitch df lo hi offs =>
    obtain ⟨y, r, rfl, hs2⟩ := ai_m1_s hs
    obtain ⟨len, hd2⟩ := hd2
    by_cases hz : y.toInt < lo ∨ hi < y.toInt
    · rw [if_pos hz] at hs2
      obtain ⟨ht, k1⟩ := kb _ _ _ hs2
      exact lv_tableOut hx hb hd2 hz ht k1
    · rw [if_neg hz] at hs2
      obtain ⟨off, ho, hs2⟩ := ai_o_s hs2
      obtain ⟨ht, k1⟩ := kb _ _ _ hs2
      exact lv_tableIn hx hb hd2 (fun z => hz (Or.inl z)) (fun z => hz (Or.inr z)) ho ht k1
  | getfield i =>
    obtain ⟨v, r, rfl, hs⟩ := ai_c1_s hs
    obtain ⟨a, rfl, hs⟩ := ai_ref_s hs
    obtain ⟨q, hq, hs⟩ := ai_o_s hs
    obtain ⟨fs, hfs, hs⟩ := ai_o_s hs
    obtain ⟨w, hw, hs⟩ := ai_o_s hs
    have hs := ai_nx_s hs
    exact ai_getf hX' hW hP (hd rfl) hq hfs hw (k0 _ _ _ hs ls hL)
  | putfield i =>
    obtain ⟨v, r, rfl, hs⟩ := ai_c1_s hs
    obtain ⟨u, r, rfl, hs⟩ := ai_c1_s hs
    obtain ⟨a, rfl, hs⟩ := ai_ref_s hs
    obtain ⟨q, hq, hs⟩ := ai_o_s hs
    obtain ⟨fs, hfs, hs⟩ := ai_o_s hs
    obtain ⟨hv, hs⟩ := ai_g_s hs
    have hs := ai_nx_s hs
    simp only [Bool.and_eq_true, decide_eq_true_eq] at hv
    exact ai_putf hX' hW hP hS (hd rfl) hq hfs hv.1 hv.2 (fun H1 locs1 g1 g2 => kh _ _ _ hs (List.length_set ..) H1 locs1 g1 g2)
  | getstatic i =>
    obtain ⟨hv, hs⟩ := ai_g_s hs
    have hs := ai_nx_s hs
    exact va_gets hx hb hW.2.2.2.1 hS hown (hts _ (ai_Z_s hv)) (fun _ z => z) (hd rfl) (k0 _ _ _ hs ls hL)
  | iaload =>
    obtain ⟨y, r, rfl, hs⟩ := ai_m1_s hs
    obtain ⟨v, r, rfl, hs⟩ := ai_c1_s hs
    cases v with
    | ref a =>
      obtain ⟨q, hq, hs⟩ := ai_o_s hs
      obtain ⟨hv, hs⟩ := ai_g_s hs
      have hs := ai_nx_s hs
      exact ai_ild hX' hW hP (hd rfl) hq hv (k0 _ _ _ hs ls hL)
    | float u =>
      obtain ⟨hv, hs⟩ := ai_g_s hs
      have hs := ai_nx_s hs
      have hin := ai_in_s hv
      have hk1 := k0 _ _ _ hs ls hL
      by_cases hu : u = 0
      · subst hu
        exact va_sld hx hb hW.2.1.1 (Nat.lt_of_lt_of_le hW.2.1.2 hW.2.2.2.2.1) (Nat.not_le.mpr hW.2.1.2) hS hin (hd rfl) hk1
      · refine W.eq (g2 := F0 m pc ls (.int y :: .ref E.2.2 :: r.map (ai_v E))) ?_ ?_
        · show F0 m pc ls (.int y :: .ref (if u = 0 then E.2.1 else E.2.2) :: r.map (ai_v E)) = _
          rw [if_neg hu]
        · have he : ai_ext S u = (5, ai_cyc) := if_neg hu
          rw [he] at hin hk1
          exact va_sld hx hb hW.2.2.1.1 (Nat.lt_of_lt_of_le hW.2.2.1.2 hW.2.2.2.2.1) (Nat.not_le.mpr hW.2.2.1.2) hS hin (hd rfl) hk1
    | _ => cases hs
  | baload =>
    obtain ⟨y, r, rfl, hs⟩ := ai_m1_s hs
    obtain ⟨v, r, rfl, hs⟩ := ai_c1_s hs
    obtain ⟨a, rfl, hs⟩ := ai_ref_s hs
    obtain ⟨q, hq, hs⟩ := ai_o_s hs
    obtain ⟨hv, hs⟩ := ai_g_s hs
    have hs := ai_nx_s hs
    exact ai_zld hX' hW hP (hd rfl) hq hv (k0 _ _ _ hs ls hL)
  | aaload =>
    obtain ⟨y, r, rfl, hs⟩ := ai_m1_s hs
    obtain ⟨v, r, rfl, hs⟩ := ai_c1_s hs
    obtain ⟨a, rfl, hs⟩ := ai_ref_s hs
    obtain ⟨q, hq, hs⟩ := ai_o_s hs
    obtain ⟨hv, hs⟩ := ai_g_s hs
    have hs := ai_nx_s hs
    simp only [Bool.and_eq_true, decide_eq_true_eq] at hv
    exact ai_qld hX' hW hP (hd rfl) hq hv.1 hv.2.1 hv.2.2 (k0 _ _ _ hs ls hL)
  | iastore =>
    obtain ⟨y, z, r, rfl, hs⟩ := ai_m2_s hs
    obtain ⟨v, r, rfl, hs⟩ := ai_c1_s hs
    obtain ⟨a, rfl, hs⟩ := ai_ref_s hs
    obtain ⟨q, hq, hs⟩ := ai_o_s hs
    obtain ⟨hv, hs⟩ := ai_g_s hs
    have hs := ai_nx_s hs
    exact ai_ist hX' hW hP hS (hd rfl) hq hv (fun H1 locs1 g1 g2 => kh _ _ _ hs (List.length_set ..) H1 locs1 g1 g2)
  | bastore =>
    obtain ⟨y, z, r, rfl, hs⟩ := ai_m2_s hs
    obtain ⟨v, r, rfl, hs⟩ := ai_c1_s hs
    obtain ⟨a, rfl, hs⟩ := ai_ref_s hs
    obtain ⟨q, hq, hs⟩ := ai_o_s hs
    obtain ⟨hv, hs⟩ := ai_g_s hs
    have hs := ai_nx_s hs
    simp only [Bool.and_eq_true, decide_eq_true_eq] at hv
    exact ai_zst hX' hW hP hS (hd rfl) hq hv.1 hv.2 (fun H1 locs1 g1 g2 => kh _ _ _ hs (List.length_set ..) H1 locs1 g1 g2)
  | aastore =>
    obtain ⟨w, r, rfl, hs⟩ := ai_c1_s hs
    obtain ⟨y, r, rfl, hs⟩ := ai_m1_s hs
    obtain ⟨v, r, rfl, hs⟩ := ai_c1_s hs
    obtain ⟨a, rfl, hs⟩ := ai_ref_s hs
    obtain ⟨q, hq, hs⟩ := ai_o_s hs
    obtain ⟨hv, hs⟩ := ai_g_s hs
    simp only [Bool.and_eq_true, decide_eq_true_eq] at hv
    cases w with
    | null =>
      have hs := ai_nx_s hs
      exact ai_qst0 hX' hW hP hS (hd rfl) hq hv.1 hv.2.1 hv.2.2 (fun H1 locs1 g1 g2 => kh _ _ _ hs (List.length_set ..) H1 locs1 g1 g2)
    | ref w =>
      dsimp only at hs
      split at hs
      next k fs hw =>
        obtain ⟨hv2, hs⟩ := ai_g_s hs
        have hs := ai_nx_s hs
        exact ai_qst hX' hW hP hS (hd rfl) hq hv.1 hw (of_decide_eq_true hv2) (fun H1 locs1 g1 g2 => kh _ _ _ hs (List.length_set ..) H1 locs1 g1 g2)
      next => cases hs
    | _ => cases hs
  | arraylength =>
    obtain ⟨v, r, rfl, hs⟩ := ai_c1_s hs
    cases v with
    | ref a =>
      obtain ⟨n, hn, hs⟩ := ai_o_s hs
      have hs := ai_nx_s hs
      exact ai_al hX' hW hP (hd rfl) hn (k0 _ _ _ hs ls hL)
    | float u =>
      have hs := ai_nx_s hs
      have hk1 := k0 _ _ _ hs ls hL
      by_cases hu : u = 0
      · subst hu
        exact va_slen hx hb hW.2.1.1 (Nat.lt_of_lt_of_le hW.2.1.2 hW.2.2.2.2.1) (Nat.not_le.mpr hW.2.1.2) hS (hd rfl) hk1
      · refine W.eq (g2 := F0 m pc ls (.ref E.2.2 :: r.map (ai_v E))) ?_ ?_
        · show F0 m pc ls (.ref (if u = 0 then E.2.1 else E.2.2) :: r.map (ai_v E)) = _
          rw [if_neg hu]
        · have he : ai_ext S u = (5, ai_cyc) := if_neg hu
          rw [he] at hk1
          exact va_slen hx hb hW.2.2.1.1 (Nat.lt_of_lt_of_le hW.2.2.1.2 hW.2.2.2.2.1) (Nat.not_le.mpr hW.2.2.1.2) hS (hd rfl) hk1
    | _ => cases hs
  | new i =>
    obtain ⟨k, hk1, hs⟩ := ai_o_s hs
    obtain ⟨hv, hs⟩ := ai_g_s hs
    have hs := ai_nx_s hs
    subst hs
    simp only [List.length_append, List.length_cons, List.length_nil] at hc hsl kk
    refine ai_new hX' hW hP hS (hd rfl) hk1 (of_decide_eq_true hv) (by omega) (by omega) (fun H1 g1 g2 => ?_)
    have h9 := kk ls H1 locs hL g1 g2
    rw [show h.1.length + (0 + 1) - h.1.length = 1 by omega, show h.2 + ai_nf k - h.2 = ai_nf k by omega] at h9
    exact h9
  | newarray t =>
    obtain ⟨n, r, rfl, hs⟩ := ai_m1_s hs
    obtain ⟨hv, hs⟩ := ai_g_s hs
    simp only [Bool.and_eq_true, decide_eq_true_eq] at hv
    cases t with
    | int =>
      have hs := ai_nx_s hs
      subst hs
      simp only [List.length_append, List.length_cons, List.length_nil] at hc hsl kk
      refine ai_newar hX' hW hP hS (t := 0) (hd rfl) (by omega) rfl ai_wI hv.1 hv.2 (by omega) (by omega) (fun H1 g1 g2 => ?_)
      have h9 := kk ls H1 locs hL g1 g2
      rw [show h.1.length + (0 + 1) - h.1.length = 1 by omega, show h.2 + n.toNatClampNeg - h.2 = n.toNatClampNeg by omega] at h9
      exact h9
    | boolean =>
      have hs := ai_nx_s hs
      subst hs
      simp only [List.length_append, List.length_cons, List.length_nil] at hc hsl kk
      refine ai_newar hX' hW hP hS (t := 1) (hd rfl) (by omega) rfl ai_wB hv.1 hv.2 (by omega) (by omega) (fun H1 g1 g2 => ?_)
      have h9 := kk ls H1 locs hL g1 g2
      rw [show h.1.length + (0 + 1) - h.1.length = 1 by omega, show h.2 + n.toNatClampNeg - h.2 = n.toNatClampNeg by omega] at h9
      exact h9
    | _ => cases hs
  | anewarray i =>
    obtain ⟨n, r, rfl, hs⟩ := ai_m1_s hs
    obtain ⟨hv, hs⟩ := ai_g_s hs
    simp only [Bool.and_eq_true, decide_eq_true_eq] at hv
    obtain ⟨k, hk1, hs⟩ := ai_o_s hs
    obtain ⟨t, ht, hs⟩ := ai_o_s hs
    have hs := ai_nx_s hs
    subst hs
    simp only [List.length_append, List.length_cons, List.length_nil] at hc hsl kk
    refine ai_newq hX' hW hP hS (hd rfl) hk1 ht hv.1 hv.2 (by omega) (by omega) (fun H1 g1 g2 => ?_)
    have h9 := kk ls H1 locs hL g1 g2
    rw [show h.1.length + (0 + 1) - h.1.length = 1 by omega, show h.2 + n.toNatClampNeg - h.2 = n.toNatClampNeg by omega] at h9
    exact h9
  | invokespecial i =>
    obtain ⟨v, r, rfl, hs⟩ := ai_c1_s hs
    obtain ⟨a, rfl, hs⟩ := ai_ref_s hs
    obtain ⟨hv, hs⟩ := ai_g_s hs
    have hs := ai_nx_s hs
    have ho : ai_O.contains (ai_ow mn, i) = true := by
      cases hq : ai_O.contains (ai_ow mn, i) with
      | true => rfl
      | false => exact absurd hk (by show ¬ (if ai_O.contains (ai_ow mn, i) = true then 0 else 1) = 0; rw [hq]; decide)
    refine W.objInit hx hb hown (hts _ (ai_O_s ho)) (hts _ ai_wO1) (hts _ ai_wO2) rfl (by rw [hml]; exact hL.1) rfl (hd rfl) hfr ?_ (k0 _ _ _ hs ls hL)
    have h8 := of_decide_eq_true hv
    rw [ai_sum_w]
    show 2 * 0 + _ + 12 ≤ _
    omega
  | _ => cases hs
end AI2
end
section
def ai_rp (mn : Nat) (i : Instr) (st : List Value) (r : Option Value) : Prop := (i = .return_ ∧ st = [] ∧ r = none ∧ ai_rt mn = none) ∨ (∃ v : Int32, i = .ireturn ∧ st = [.int v] ∧ r = some (.int v) ∧ (ai_rt mn = some .int ∨ (ai_rt mn = some .boolean ∧ v &&& 1 = v))) ∨ (∃ (v : Value) (C : String), i = .areturn ∧ st = [v] ∧ r = some v ∧ ai_rt mn = some (.object C) ∧ (v = .null ∨ ∃ a, v = .ref a))
theorem ai_ret_s {mn : Nat} {st : List Value} {i : Instr} {r : Option Value} (h : ai_ret mn st i = some r) : ai_rp mn i st r := by
  cases i with
  | return_ =>
    dsimp only [ai_ret] at h
    split at h
    · obtain ⟨h1, h2⟩ := ai_g_s h
      cases h2
      exact Or.inl ⟨rfl, rfl, rfl, of_decide_eq_true h1⟩
    · cases h
  | ireturn =>
    obtain ⟨x, q, rfl, h⟩ := ai_m1_s h
    obtain ⟨h1, h2⟩ := ai_g_s h
    cases h2
    simp only [Bool.and_eq_true, Bool.or_eq_true, decide_eq_true_eq, List.isEmpty_iff] at h1
    obtain ⟨rfl, h1⟩ := h1
    exact Or.inr (Or.inl ⟨x, rfl, rfl, rfl, h1⟩)
  | areturn =>
    obtain ⟨v, q, rfl, h⟩ := ai_c1_s h
    obtain ⟨h1, h2⟩ := ai_g_s h
    cases h2
    simp only [Bool.and_eq_true, List.isEmpty_iff] at h1
    obtain ⟨rfl, h3, h4, h5⟩ := h1
    have hC : ∃ C, ai_rt mn = some (.object C) := by
      unfold ai_obr at h3
      split at h3
      next C e => exact ⟨C, e⟩
      next => cases h3
    obtain ⟨C, hC⟩ := hC
    refine Or.inr (Or.inr ⟨v, C, rfl, rfl, rfl, hC, ?_⟩)
    cases v with
    | ref a => exact Or.inr ⟨a, rfl⟩
    | null => exact Or.inl rfl
    | float u => cases h5
    | _ => cases h4
  | _ => cases h
theorem ai_step_s {S : ai_S} {mn pc : Nat} {L : ai_L} {st : List Value} {h : ai_H} {z : ai_R} (e : ai_step S mn pc L st h = some z) : ∃ i, ai_I mn pc = some i ∧ ((ai_kd mn i = 0 ∧ ∃ q, ai_do S mn pc L st h i = some q ∧ z = .inl q) ∨ (∃ q, ai_inv mn st h i = some q ∧ z = .inr (.inl q)) ∨ (∃ q, ai_ret mn st i = some q ∧ z = .inr (.inr q))) := by
  unfold ai_step at e
  split at e
  next i hi =>
    refine ⟨i, hi, ?_⟩
    unfold ai_stp at e
    split at e
    next hk =>
      obtain ⟨q, hq, rfl⟩ := Option.map_eq_some_iff.mp e
      exact Or.inl ⟨hk, q, hq, rfl⟩
    next hk =>
      obtain ⟨q, hq, rfl⟩ := Option.map_eq_some_iff.mp e
      exact Or.inr (Or.inl ⟨q, hq, rfl⟩)
    next =>
      obtain ⟨q, hq, rfl⟩ := Option.map_eq_some_iff.mp e
      exact Or.inr (Or.inr ⟨q, hq, rfl⟩)
  next => cases e
theorem ai_grow {S : ai_S} : ∀ (n d mn pc : Nat) (L : ai_L) (st : List Value) (h : ai_H) (x : Option Value × ai_H), ai_run S n d mn pc L st h = some x → h.1.length ≤ x.2.1.length ∧ h.2 ≤ x.2.2 := by
  intro n
  induction n with
  | zero => intro d mn pc L st h x e; simp [ai_run] at e
  | succ n ih =>
    intro d mn pc L st h x e
    rw [ai_run] at e
    cases hs : ai_step S mn pc L st h with
    | none => rw [hs] at e; cases e
    | some q =>
      rw [hs] at e
      obtain ⟨i, hi, ⟨hk, q', hq, rfl⟩ | ⟨q', hq, rfl⟩ | ⟨q', hq, rfl⟩⟩ := ai_step_s hs
      · have h1 := ai_do_grow hq
        have h2 := ih _ _ _ _ _ _ _ e
        exact ⟨Nat.le_trans h1.1 h2.1, Nat.le_trans h1.2 h2.2⟩
      · cases d with
        | zero => cases e
        | succ d =>
          dsimp only at e
          cases hr : ai_run S n d q'.1 0 (lv_args 0 q'.2.1) [] h with
          | none => rw [hr] at e; cases e
          | some y =>
            rw [hr] at e
            have h1 := ih _ _ _ _ _ _ _ hr
            have h2 := ih _ _ _ _ _ _ _ e
            exact ⟨Nat.le_trans h1.1 h2.1, Nat.le_trans h1.2 h2.2⟩
      · cases e
        exact ⟨Nat.le_refl _, Nat.le_refl _⟩
theorem ai_cll_s {h : ai_H} {mn n : Nat} {vir ini : Bool} {st : List Value} {z : Nat × List Value × List Value} (e : ai_cll h mn n vir ini st = some z) : ∃ (a : Nat) (As rest : List Value), z = (mn, .ref a :: As, rest) ∧ As.length = n ∧ st = As.reverse ++ .ref a :: rest ∧ ai_sum rest ≤ 8 ∧ (lg_sl (.ref a :: As)).length ≤ ai_ml mn ∧ ((ai_nm mn).name = "<init>" ↔ ini = true) ∧ ai_Sm.contains mn = false ∧ (vir = true → ∃ fs, ai_obj h a (ai_ow mn) = some fs) := by
  unfold ai_cll at e
  obtain ⟨v, rest, hd, e⟩ := ai_c1_s e
  obtain ⟨a, rfl, e⟩ := ai_ref_s e
  obtain ⟨h1, h2⟩ := ai_g_s e
  cases h2
  simp only [Bool.and_eq_true, decide_eq_true_eq, Bool.not_eq_true'] at h1
  obtain ⟨g1, g2, g3, g4, g5⟩ := h1
  have hl : n < st.length := by
    apply Nat.lt_of_not_le
    intro hle
    rw [List.drop_eq_nil_of_le hle] at hd
    cases hd
  refine ⟨a, (st.take n).reverse, rest, rfl, by rw [List.length_reverse, List.length_take]; omega, ?_, g1, g2, g3, g4, fun hv => ?_⟩
  · rw [List.reverse_reverse, ← hd, List.take_append_drop]
  · subst hv
    exact Option.isSome_iff_exists.mp g5
/-- the end of a call -/
def ai_Qc (D : ai_D) (E : ai_E) (x : Option Value × ai_H) : Array Value → State → Outcome → State → Prop := fun _ st oc t => oc = .returned (x.1.map (ai_v E)) ∧ ai_P D E x.2.1 t.heap ∧ va_F (fun q => E.1 ≤ q) st t
def ai_Pc (D : ai_D) (E : ai_E) (S : ai_S) (as : List Value) (h : List ai_C) : Array Value → State → Prop := fun v U => v = (as.map (ai_v E)).toArray ∧ ai_P D E h U.heap ∧ ai_W D E S U
theorem ai_W.same {D : ai_D} {E : ai_E} {S : ai_S} {s U : State} (h : ai_W D E S s) (hv : U.vm = s.vm) (hh : U.heap = s.heap) : ai_W D E S U := by
  obtain ⟨h1, ⟨h2, h2'⟩, ⟨h3, h3'⟩, h4, h5, h6, h7⟩ := h
  have al : s.vm.Alike U.vm := by rw [hv]; exact Vm.Alike.refl _
  refine ⟨va_K.moved al h1, ⟨by rw [hh]; exact h2.moved al, h2'⟩, ⟨by rw [hh]; exact h3.moved al, h3'⟩, by rw [hh]; exact h4.moved al, by rw [hh]; exact h5, fun q hq => va_Nw.same rfl hv.symm (h6 q hq), fun c t hc => va_AO.moved al (h7 c t hc)⟩
theorem ai_blind {D : ai_D} {E : ai_E} {S : ai_S} {as : List Value} {h : List ai_C} : FrameBlind (ai_Pc D E S as h) := fun a U g mk q => ⟨q.1, q.2.1, q.2.2.same rfl rfl⟩
theorem Met.ofWF {l : Launch} {y : MethodName} {ws ws' : List Jvm.Cond} {rm : Room} {Pc : Array Value → State → Prop} {Qc : Array Value → State → Outcome → State → Prop} {mc ms : Nat} {free : Addr → Prop} {cc : ByteArray} {maxL : Nat} {ret : Option FieldType}
    (hy : plainFor y = true) (hw : ws = Jvm.Cond.code y cc maxL ret :: ws')
    (body : ∀ p e s m args below meth c s₁, BodyLoose p l y (headSpec ws rm) cc maxL ret e s m args below meth c s₁ → c.maxLocals = maxL → Pc args s →
      W p l e (headSpec ws rm).room s m args below meth c s.heap [] 0 0 (MQ below Qc args s mc ms free) (entryFrame m args maxL)) : Met l y ws rm Pc Qc mc ms free := by
  refine MetFree.of_bodySF (code := cc) (maxLocals := maxL) (ret := ret) hy ?_ ?_
  · intro args s m h hn
    obtain ⟨meth, c, h1, h2, h3, h4, h5, h6, -, -⟩ := Cond.code_spec hn (atoms_spec (ws := ws) h _ (by rw [hw]; exact List.mem_cons_self))
    exact ⟨meth, c, h1, h2, h3, h4, h5, h6⟩
  · intro p e s m args below meth c s₁ B hml hP _
    have hh0 : s₁.heap = s.heap := by rw [B.state]; rfl
    obtain ⟨t, a1, o, b1, b2, b3⟩ := body p e s m args below meth c s₁ B hml hP s₁ hh0 (Stand.of_body B)
    exact ⟨t, o, a1, b1, b2, ⟨b3.1, b3.2⟩⟩
/-- what a run of the interpreter gives of the machine -/
def ai_Sim (l : Launch) (S : ai_S) (D : ai_D) (E : ai_E) (d mn pc : Nat) (L : ai_L) (st : List Value) (h : ai_H) (x : Option Value × ai_H) : Prop :=
  ∀ (p : Program) (e : Env) (R : Room) (s : State) (m : MethodId) (args : Array Value) (below : List Frame) (meth : Method) (c : Code) (H : Heap) (locs : List Loc) (cells slots : Nat) (Q : State → Prop) (ls : Array Slot),
    ai_X p s m args meth c mn → ai_W D E S s → lv_has ls (ai_ml mn) (L.map (ai_w E)) → ai_P D E h.1 H → va_S (fun q => E.1 ≤ q) s.heap H locs → d + 1 ≤ R.frames → 40 * (d + 1) ≤ R.locals → cells + x.2.1.length ≤ R.cells + h.1.length → slots + x.2.2 ≤ R.slots + h.2 →
    (∀ (pc' : Nat) (ls' : Array Slot) (i : Instr) (st' : List Value) (H' : Heap) (locs' : List Loc), decode (ai_bc mn) pc' = .ok (i, 1) → ai_rp mn i st' x.1 → ai_P D E x.2.1 H' → va_S (fun q => E.1 ≤ q) s.heap H' locs' → W p l e R s m args below meth c H' locs' (cells + (x.2.1.length - h.1.length)) (slots + (x.2.2 - h.2)) Q (F0 m pc' ls' (st'.map (ai_v E)))) →
    W p l e R s m args below meth c H locs cells slots Q (F0 m pc ls (st.map (ai_v E)))
theorem ai_bc_of {mn : Nat} {r : MethodName × ByteArray × Nat × Option FieldType × Nat} (h : ai_M[mn]? = some r) : ai_bc mn = r.2.1 ∧ ai_ml mn = r.2.2.1 ∧ ai_rt mn = r.2.2.2.1 ∧ ai_ow mn = r.2.2.2.2 ∧ ai_nm mn = r.1 := by
  refine ⟨?_, ?_, ?_, ?_, ?_⟩
  · unfold ai_bc; rw [h]
  · unfold ai_ml; rw [h]
  · unfold ai_rt; rw [h]
  · unfold ai_ow; rw [h]
  · unfold ai_nm; rw [h]
/-- a callee's contract out of its run -/
theorem ai_met {l : Launch} {S : ai_S} {D : ai_D} {E : ai_E} {d mn n : Nat} {as : List Value} {h : ai_H} {x : Option Value × ai_H} {r : MethodName × ByteArray × Nat × Option FieldType × Nat} (hr : ai_M[mn]? = some r) (hk : ai_mk r mn n) (hsl : (lg_sl as).length ≤ ai_ml mn) (hg : h.1.length ≤ x.2.1.length ∧ h.2 ≤ x.2.2)
    (sim : ai_Sim l S D E d mn 0 (lv_args 0 as) [] h x) : Met l r.1 (Jvm.Cond.code r.1 r.2.1 r.2.2.1 r.2.2.2.1 :: ai_tb) { frames := d + 1, cells := x.2.1.length - h.1.length, slots := x.2.2 - h.2, locals := 40 * (d + 1) } (ai_Pc D E S as h.1) (ai_Qc D E x) (x.2.1.length - h.1.length) (x.2.2 - h.2) (fun q => E.1 ≤ q) := by
  obtain ⟨e1, e2, e3, e4, e5⟩ := ai_bc_of hr
  obtain ⟨-, -, hcls, -, hpl, -⟩ := hk
  refine Met.ofWF (cc := r.2.1) (maxL := r.2.2.1) (ret := r.2.2.2.1) hpl rfl ?_
  intro p e s m args below meth c s₁ B hml hv
  obtain ⟨rfl, hP, hW⟩ := hv
  have hts := atoms_spec (ws := Jvm.Cond.code r.1 r.2.1 r.2.2.1 r.2.2.2.1 :: ai_tb) B.pre
  have hown : s.vm.findClass r.1.cls = some m.cls := findClass_of_methodNamed B.named
  have hlocks := B.notSynchronized
  have hX : ai_X p s m (as.map (ai_v E)).toArray meth c mn := ⟨B.exec, by rw [e1]; exact B.bytes, by rw [e2]; exact hml, by rw [e4, ← hcls]; exact hown, fun w hw => hts w (List.mem_cons_of_mem _ hw), by rw [e5]; exact (name_of_methodNamed B.named B.method).1, by rw [e5, e4]; exact hcls⟩
  have hl := lv_entry (as.map (ai_v E)) (n := r.2.2.1) (by rw [ai_sl_w, ← e2]; exact hsl)
  rw [lg_entry_eq]
  generalize (lg_sl (as.map (ai_v E)) ++ List.replicate (r.2.2.1 - (lg_sl (as.map (ai_v E))).length) Slot.unset).toArray = ls at hl ⊢
  rw [ai_args_w, ← e2] at hl
  have hS : va_S (fun q => E.1 ≤ q) s.heap s.heap [] := va_S.rf
  refine sim p e _ s m _ below meth c s.heap [] 0 0 _ ls hX hW hl hP hS (Nat.le_refl _) (Nat.le_refl _) ?_ ?_ ?_
  · show 0 + x.2.1.length ≤ x.2.1.length - h.1.length + h.1.length
    omega
  · show 0 + x.2.2 ≤ x.2.2 - h.2 + h.2
    omega
  · intro pc' ls' i st' H' locs' hd hrp hP' hS'
    rw [Nat.zero_add, Nat.zero_add]
    have hb : c.code = ai_bc mn := hX.2.1
    have hret : meth.sig.returnType = ai_rt mn := by rw [e3]; exact B.returns
    have fin : ∀ v : Option Value, x.1 = v → ∀ t : State, t.heap = H' → ai_Qc D E x (as.map (ai_v E)).toArray s (.returned (v.map (ai_v E))) t := by
      intro v hv t ht
      refine ⟨by rw [hv], by rw [ht]; exact hP', hS'.F ht⟩
    rcases hrp with ⟨rfl, rfl, hr1, hr2⟩ | ⟨v, rfl, rfl, hr1, hr2⟩ | ⟨v, C, rfl, rfl, hr1, hr2, hr3⟩
    · exact W.vret B.exec hb (hret.trans hr2) (fun t ht _ => fin none hr1 t ht) hS'.2.2 hd
    · rcases hr2 with hr2 | ⟨hr2, hr3⟩
      · exact W.iret (v := v) B.exec hb (hret.trans hr2) (fun t ht _ => fin (some (.int v)) hr1 t ht) hS'.2.2 hd
      · exact W.zret (v := v) B.exec hb (hret.trans hr2) (by show Value.int (v &&& 1) = _; rw [hr3]) (fun t ht _ => fin (some (.int v)) hr1 t ht) hS'.2.2 hd
    · refine W.aret (v := ai_v E v) B.exec hb (hret.trans hr2) (Or.inl ⟨C, rfl⟩) ?_ (fun t ht _ => fin (some v) hr1 t ht) hS'.2.2 hd
      rcases hr3 with rfl | ⟨a, rfl⟩
      · exact Or.inl rfl
      · exact Or.inr ⟨_, rfl⟩
section AI3
variable {p : Program} {l : Launch} {e : Env} {R : Room} {s : State} {m : MethodId} {args : Array Value} {below : List Frame} {meth : Method} {c : Code} {H : Heap} {locs : List Loc} {cells slots : Nat} {Q : State → Prop}
theorem ai_call {pc : Nat} {ls : Array Slot} {st0 rest : List Value} {mc ms : Nat} {Qa : State → Outcome → State → Prop} {free : Addr → Prop} (hr : va_Run p l e R s m args below meth c H locs cells slots mc ms (F0 m pc ls st0) rest Qa free)
    (kk : ∀ (v : Option Value) (st₀ t : State) (L : List Loc), st₀.heap = H → s.vm.Alike t.vm → (∀ q ∈ L, free q.base) → Qa st₀ (.returned v) t → W p l e R s m args below meth c t.heap (locs ++ L) (cells + mc) (slots + ms) Q (F0 m (pc + 3) ls (v.toList ++ rest))) : W p l e R s m args below meth c H locs cells slots Q (F0 m pc ls st0) := by
  intro T hT X
  obtain ⟨v, st₀, t, T', L, h0, X', hL, e1, e2, hq, st⟩ := hr T hT X
  obtain ⟨t2, a1, b1⟩ := kk v st₀ t L h0 (by rw [← e2]; exact X'.warmed.alike) hL hq T' e1 X'
  exact ⟨t2, st t2 a1, b1⟩
end AI3
theorem ai_tbG {r : MethodName × ByteArray × Nat × Option FieldType × Nat} (hc : Jvm.Cond.code r.1 r.2.1 r.2.2.1 r.2.2.2.1 ∈ ai_tb) : GoodIn ai_tb (Jvm.Cond.code r.1 r.2.1 r.2.2.1 r.2.2.2.1 :: ai_tb) := by
  intro w hw
  have h1 : w ∈ ai_tb := by
    rcases List.mem_cons.mp hw with rfl | h
    · exact hc
    · exact h
  exact ⟨h1, good_of_word (List.all_eq_true.mp ai_tb_good w h1)⟩
end
section
theorem ai_inone : (ai_M.all fun r => decide (r.1.name ≠ "<init>") || decide (r.2.2.2.1 = none)) = true := by decide +kernel
theorem ai_inone_s {mn : Nat} {r : MethodName × ByteArray × Nat × Option FieldType × Nat} (h : ai_M[mn]? = some r) (hn : r.1.name = "<init>") : r.2.2.2.1 = none := by
  have h1 := List.all_eq_true.mp ai_inone r (List.mem_of_getElem? h)
  simp only [Bool.or_eq_true, decide_eq_true_eq] at h1
  exact h1.resolve_left fun q => q hn
set_option maxHeartbeats 4000000 in
theorem ai_simN {l : Launch} {S : ai_S} {D : ai_D} {E : ai_E} : ∀ (n d mn pc : Nat) (L : ai_L) (st : List Value) (h : ai_H) (x : Option Value × ai_H), ai_run S n d mn pc L st h = some x → ai_Sim l S D E d mn pc L st h x := by
  intro n
  induction n with
  | zero => intro d mn pc L st h x e; simp [ai_run] at e
  | succ n ih =>
    intro d mn pc L st h x e
    have hgr := ai_grow _ _ _ _ _ _ _ _ e
    rw [ai_run] at e
    cases hs : ai_step S mn pc L st h with
    | none => rw [hs] at e; cases e
    | some q =>
      rw [hs] at e
      intro p e' R s m args below meth c H locs cells slots Q ls hX hW hL hP hS hfr hlo hc hsl kr
      obtain ⟨i, hi, hcase⟩ := ai_step_s hs
      obtain ⟨q0, hq0, len, hdec, hlen⟩ := ai_dec hi
      obtain ⟨b1, b2, b3, b4, b5⟩ := ai_bc_of hq0
      have hd : ai_sw i = false → decode (ai_bc mn) pc = .ok (i, ai_len i) := fun z => by
        rw [b1, hdec]
        rcases hlen with y | y
        · rw [z] at y; cases y
        · rw [y]
      rcases hcase with ⟨hk, q', hq, rfl⟩ | ⟨q', hq, rfl⟩ | ⟨q', hq, rfl⟩
      · have g1 := ai_do_grow hq
        have g2 := ai_grow _ _ _ _ _ _ _ _ e
        refine ai_sim1 hX hW hd ⟨len, by rw [b1]; exact hdec⟩ hk hq hL hP hS (by omega) (by omega) (by omega) (by omega) ?_
        intro ls' H' locs' gL gP gS
        refine ih _ _ _ _ _ _ _ e p e' R s m args below meth c H' locs' _ _ Q ls' hX hW gL gP gS hfr hlo (by omega) (by omega) ?_
        intro pc' ls'' i' st' H'' locs'' k1 k2 k3 k4
        exact W.cs (by omega) (by omega) (kr pc' ls'' i' st' H'' locs'' k1 k2 k3 k4)
      · cases d with
        | zero => cases e
        | succ d =>
          dsimp only at e
          cases hr : ai_run S n d q'.1 0 (lv_args 0 q'.2.1) [] h with
          | none => rw [hr] at e; cases e
          | some y =>
            rw [hr] at e
            have g1 := ai_grow _ _ _ _ _ _ _ _ hr
            have g2 := ai_grow _ _ _ _ _ _ _ _ e
            have fin : ∀ (A : Array Value), va_Run p l e' R s m args below meth c H locs cells slots (y.2.1.length - h.1.length) (y.2.2 - h.2) (F0 m pc ls (st.map (ai_v E))) (q'.2.2.map (ai_v E)) (ai_Qc D E y A) (fun q => E.1 ≤ q) → W p l e' R s m args below meth c H locs cells slots Q (F0 m pc ls (st.map (ai_v E))) := by
              intro A hrun
              refine ai_call hrun ?_
              intro v st₀ t Lc h0 hal hLc hQ
              obtain ⟨hv, hP', hF⟩ := hQ
              cases hv
              have hS' : va_S (fun q => E.1 ≤ q) s.heap t.heap (locs ++ Lc) := ⟨Nat.le_trans hS.1 (by rw [← h0]; exact hF.1), fun q a b => by rw [hF.2 q (by rw [h0]; exact Nat.lt_of_lt_of_le a hS.1) b, h0]; exact hS.2.1 q a b, fun q hq => (List.mem_append.mp hq).elim (hS.2.2 q) (hLc q)⟩
              have hst : (y.1.map (ai_v E)).toList ++ q'.2.2.map (ai_v E) = (y.1.toList ++ q'.2.2).map (ai_v E) := by cases y.1 <;> simp
              rw [hst]
              refine ih _ _ _ _ _ _ _ e p e' R s m args below meth c t.heap _ _ _ Q ls hX hW hL hP' hS' hfr hlo (by omega) (by omega) ?_
              intro pc' ls'' i' st' H'' locs'' k1 k2 k3 k4
              exact W.cs (by omega) (by omega) (kr pc' ls'' i' st' H'' locs'' k1 k2 k3 k4)
            obtain ⟨hx, hb, hml, hown, hts, hnm, hcl⟩ := hX
            have pre : ∀ U : State, U.heap = H → s.WarmedH U.vm → ai_Pc D E S q'.2.1 h.1 (q'.2.1.map (ai_v E)).toArray U := fun U hU hw => ⟨rfl, by rw [hU]; exact hP, hW.moved hw hU hS⟩
            cases i with
            | invokevirtual idx =>
              obtain ⟨g, hg, hq⟩ := ai_o_s hq
              obtain ⟨a, As, rest, rfl, hAl, hst, hsum, hsl', hini, hstat, hvir⟩ := ai_cll_s hq
              obtain ⟨r, hr', hlink, hmk⟩ := ai_G_s (show ai_get ai_G (ai_ow mn) idx = some (g.1, g.2) from hg)
              have hmet := ai_met hr' hmk hsl' g1 (ih _ _ _ _ _ _ _ hr)
              obtain ⟨w1, w2, w3, w4, w5, w6, w7, w8⟩ := hmk
              obtain ⟨v1, v2, v3, v4, v5⟩ := ai_bc_of hr'
              have hsel : Jvm.Cond.selects r.1.cls r.1 r.1 ∈ ai_tb := (w8 hstat).2.resolve_left fun z => by
                rw [v5] at hini
                exact absurd (hini.mp z) (by decide)
              obtain ⟨fs, hfs⟩ := hvir rfl
              obtain ⟨r0, hr0, cell, q1, q2, q3, q4⟩ := hP.2 a _ (ai_obj_s hfs)
              refine fin _ (va_runV (As := As.map (ai_v E)) (b := E.1 + a) (C := r.1.cls) (n := g.2) ⟨hx, hb, hml, hown, hts⟩ hmet ⟨callB_of g.2 hts (ai_tbG w1) rfl rfl rfl (hts _ w2) (hts _ hlink) w4 ⟨hfr, by show 8 + (r.2.2.1 + 11) + 40 * (d + 1) ≤ R.locals; omega⟩, hts _ (w8 hstat).1, hts _ hsel⟩ ⟨ai_blind, ⟨cell, q1, by rw [q3]; rfl, ?_⟩, pre⟩ rfl (by rw [List.length_map]; exact hAl) hL.1 ?_ (lv_room (by rw [ai_sum_w]; exact hsum)) (hd rfl) ⟨by omega, by omega⟩)
              · have h5 := (hW.1.1 _ r0 hr0).2.1
                rw [(ai_C2_s hr0).1, v4, ← w3] at h5
                rw [q2, v4]
                exact h5
              · show st.map (ai_v E) = _
                rw [hst, List.map_append, List.map_reverse]
                rfl
            | invokespecial idx =>
              dsimp only [ai_inv] at hq
              split at hq
              next k hk2 =>
                obtain ⟨a, As, rest, rfl, hAl, hst, hsum, hsl', hini, hstat, -⟩ := ai_cll_s hq
                obtain ⟨r, hr', hmem, hmk⟩ := ai_Q_s hk2
                have hmet := ai_met hr' hmk hsl' g1 (ih _ _ _ _ _ _ _ hr)
                obtain ⟨w1, w2, w3, w4, w5, w6, w7, w8⟩ := hmk
                obtain ⟨v1, v2, v3, v4, v5⟩ := ai_bc_of hr'
                have hname : r.1.name = "<init>" := by rw [v5] at hini; exact hini.mpr rfl
                have hnone := ai_inone_s hr' hname
                have hnw := hW.2.2.2.2.2.1 _ hmem
                dsimp only at hnw
                rw [v5] at hnw
                have hgd := ai_tbG w1
                rw [hnone] at hmet hgd
                refine fin _ (va_runIN (As := As.map (ai_v E)) (b := E.1 + a) (n := 0) ⟨hx, hb, hml, hown, hts⟩ hmet ⟨va_cnB 0 hts hgd rfl rfl rfl hnw (hts _ w2) w4 ⟨hfr, by show 8 + (r.2.2.1 + 11) + 40 * (d + 1) ≤ R.locals; omega⟩, hname, hts _ (w8 hstat).1⟩ ⟨ai_blind, pre⟩ rfl (by rw [List.length_map]; exact hAl) hL.1 ?_ (lv_room (by rw [ai_sum_w]; exact hsum)) (hd rfl) ⟨by omega, by omega⟩)
                show st.map (ai_v E) = _
                rw [hst, List.map_append, List.map_reverse]
                rfl
              next =>
                obtain ⟨g, hg, hq⟩ := ai_o_s hq
                obtain ⟨a, As, rest, rfl, hAl, hst, hsum, hsl', hini, hstat, -⟩ := ai_cll_s hq
                obtain ⟨r, hr', hlink, hmk⟩ := ai_G_s (show ai_get ai_G (ai_ow mn) idx = some (g.1, g.2) from hg)
                have hmet := ai_met hr' hmk hsl' g1 (ih _ _ _ _ _ _ _ hr)
                obtain ⟨w1, w2, w3, w4, w5, w6, w7, w8⟩ := hmk
                obtain ⟨v1, v2, v3, v4, v5⟩ := ai_bc_of hr'
                have hname : r.1.name = "<init>" := by rw [v5] at hini; exact hini.mpr rfl
                have hnone := ai_inone_s hr' hname
                have hgd := ai_tbG w1
                rw [hnone] at hmet hgd
                refine fin _ (va_runI (As := As.map (ai_v E)) (b := E.1 + a) (n := g.2) ⟨hx, hb, hml, hown, hts⟩ hmet ⟨callB_of g.2 hts hgd rfl rfl rfl (hts _ w2) (hts _ hlink) w4 ⟨hfr, by show 8 + (r.2.2.1 + 11) + 40 * (d + 1) ≤ R.locals; omega⟩, hname, hts _ (w8 hstat).1⟩ ⟨ai_blind, pre⟩ rfl (by rw [List.length_map]; exact hAl) hL.1 ?_ (lv_room (by rw [ai_sum_w]; exact hsum)) (hd rfl) ⟨by omega, by omega⟩)
                show st.map (ai_v E) = _
                rw [hst, List.map_append, List.map_reverse]
                rfl
            | invokestatic idx =>
              obtain ⟨g, hg, hq⟩ := ai_o_s hq
              obtain ⟨hv, hq⟩ := ai_g_s hq
              cases hq
              simp only [Bool.and_eq_true, decide_eq_true_eq] at hv
              obtain ⟨hn, hsum, hsl', hstat⟩ := hv
              obtain ⟨r, hr', hlink, hmk⟩ := ai_G_s (show ai_get ai_G (ai_ow mn) idx = some (g.1, g.2) from hg)
              have hmet := ai_met hr' hmk hsl' g1 (ih _ _ _ _ _ _ _ hr)
              obtain ⟨w1, w2, w3, w4, w5, w6, w7, w8⟩ := hmk
              refine fin _ (va_runS (As := ((st.take g.2).reverse).map (ai_v E)) (n := g.2) ⟨hx, hb, hml, hown, hts⟩ hmet ⟨callB_of g.2 hts (ai_tbG w1) rfl rfl rfl (hts _ w2) (hts _ hlink) w4 ⟨hfr, by show 8 + (r.2.2.1 + 11) + 40 * (d + 1) ≤ R.locals; omega⟩, hts _ (w7 hstat)⟩ ⟨ai_blind, pre⟩ rfl (by rw [List.length_map, List.length_reverse, List.length_take]; omega) hL.1 ?_ (lv_room (by rw [ai_sum_w]; exact hsum)) (hd rfl) ⟨by omega, by omega⟩)
              show st.map (ai_v E) = _
              rw [← List.map_reverse, List.reverse_reverse, ← List.map_append, List.take_append_drop]
            | _ => cases hq
      · cases e
        have hrp := ai_ret_s hq
        have hl1 : decode (ai_bc mn) pc = .ok (i, 1) := by
          rcases hrp with ⟨rfl, -⟩ | ⟨v, rfl, -⟩ | ⟨v, C, rfl, -⟩ <;> exact hd rfl
        have h9 := kr pc ls i st H locs hl1 hrp hP hS
        simp only [Nat.sub_self, Nat.add_zero] at h9
        exact h9
end
section
def kO {α : Type} (o : Option α) (k : α → Prop) : Prop := match o with
  | some a => k a
  | none => False
def kB (b : Bool) (P : Prop) : Prop := match b with
  | true => P
  | false => False
def kI (o : Option Value) (k : Int32 → Prop) : Prop := match o with
  | some (.int x) => k x
  | _ => False
def kJ (o : Option Value) (k : Int64 → Prop) : Prop := match o with
  | some (.long x) => k x
  | _ => False
def kA (o : Option Value) (k : Value → Prop) : Prop := match o with
  | some (.ref a) => k (.ref a)
  | some .null => k .null
  | some (.float u) => k (.float u)
  | _ => False
theorem kO_s {α : Type} (a : α) (k : α → Prop) : kO (some a) k = k a := rfl
theorem kB_t (P : Prop) : kB true P = P := rfl
theorem kI_s (x : Int32) (k : Int32 → Prop) : kI (some (.int x)) k = k x := rfl
theorem kJ_s (x : Int64) (k : Int64 → Prop) : kJ (some (.long x)) k = k x := rfl
theorem kA_r (a : Nat) (k : Value → Prop) : kA (some (.ref a)) k = k (.ref a) := rfl
theorem kA_n (k : Value → Prop) : kA (some .null) k = k .null := rfl
theorem kA_f (u : UInt32) (k : Value → Prop) : kA (some (.float u)) k = k (.float u) := rfl
section RRs
variable {S : ai_S} {d mn pc : Nat} {L : ai_L} {st : List Value} {h : ai_H} {Q : Option Value → ai_H → Prop} {i : Instr}
theorem RR.no (hs : ai_step S mn pc L st h = none) : RR S d mn pc L st h Q = False := by
  refine propext ⟨fun ⟨n, x, e, hq⟩ => ?_, False.elim⟩
  cases n with
  | zero => simp [ai_run] at e
  | succ n => rw [ai_run, hs] at e; cases e
theorem ai_step_0 (hi : ai_I mn pc = some i) (hk : ai_kd mn i = 0) : ai_step S mn pc L st h = (ai_do S mn pc L st h i).map .inl := by
  simp only [ai_step, hi, ai_stp, hk]
theorem ai_step_1 (hi : ai_I mn pc = some i) (hk : ai_kd mn i = 1) : ai_step S mn pc L st h = (ai_inv mn st h i).map (fun q => .inr (.inl q)) := by
  simp only [ai_step, hi, ai_stp, hk]
theorem ai_step_2 (hi : ai_I mn pc = some i) (hk : ai_kd mn i = 2) : ai_step S mn pc L st h = (ai_ret mn st i).map (fun q => .inr (.inr q)) := by
  simp only [ai_step, hi, ai_stp, hk]
theorem RR.go (hi : ai_I mn pc = some i) (hk : ai_kd mn i = 0) : RR S d mn pc L st h Q = kO (ai_do S mn pc L st h i) (fun q => RR S d mn q.1 q.2.1 q.2.2.1 q.2.2.2 Q) := by
  cases hq : ai_do S mn pc L st h i with
  | none => rw [RR.no (by rw [ai_step_0 hi hk, hq]; rfl)]; rfl
  | some q => rw [RR.next (q := q) (by rw [ai_step_0 hi hk, hq]; rfl)]; rfl
theorem RR.do1 (q : ai_Y) (hi : ai_I mn pc = some i) (hk : ai_kd mn i = 0) (hq : ai_do S mn pc L st h i = some q) : RR S d mn pc L st h Q = RR S d mn q.1 q.2.1 q.2.2.1 q.2.2.2 Q := by
  rw [RR.go hi hk, hq]; rfl
theorem RR.ldi_n {k : Fin 4} {j pc' : Nat} (hi : ai_I mn pc = some (.iload_n k)) (hj : (k : Nat) = j) (hp : pc + 1 = pc') : RR S d mn pc L st h Q = kI (ai_look L j) (fun x => RR S d mn pc' L (.int x :: st) h Q) := by
  subst hj; subst hp
  rw [RR.go hi rfl]
  show kO (ai_o (ai_look L k) _) _ = _
  cases ai_look L k with
  | none => rfl
  | some v => cases v <;> rfl
theorem RR.ldi {k pc' : Nat} (hi : ai_I mn pc = some (.iload k)) (hp : pc + 2 = pc') : RR S d mn pc L st h Q = kI (ai_look L k) (fun x => RR S d mn pc' L (.int x :: st) h Q) := by
  subst hp
  rw [RR.go hi rfl]
  show kO (ai_o (ai_look L k) _) _ = _
  cases ai_look L k with
  | none => rfl
  | some v => cases v <;> rfl
theorem RR.ldl_n {k : Fin 4} {j pc' : Nat} (hi : ai_I mn pc = some (.lload_n k)) (hj : (k : Nat) = j) (hp : pc + 1 = pc') : RR S d mn pc L st h Q = kJ (ai_look L j) (fun x => RR S d mn pc' L (.long x :: st) h Q) := by
  subst hj; subst hp
  rw [RR.go hi rfl]
  show kO (ai_o (ai_look L k) _) _ = _
  cases ai_look L k with
  | none => rfl
  | some v => cases v <;> rfl
theorem RR.ldl {k pc' : Nat} (hi : ai_I mn pc = some (.lload k)) (hp : pc + 2 = pc') : RR S d mn pc L st h Q = kJ (ai_look L k) (fun x => RR S d mn pc' L (.long x :: st) h Q) := by
  subst hp
  rw [RR.go hi rfl]
  show kO (ai_o (ai_look L k) _) _ = _
  cases ai_look L k with
  | none => rfl
  | some v => cases v <;> rfl
theorem RR.lda_n {k : Fin 4} {j pc' : Nat} (hi : ai_I mn pc = some (.aload_n k)) (hj : (k : Nat) = j) (hp : pc + 1 = pc') : RR S d mn pc L st h Q = kA (ai_look L j) (fun x => RR S d mn pc' L (x :: st) h Q) := by
  subst hj; subst hp
  rw [RR.go hi rfl]
  show kO (ai_o (ai_look L k) _) _ = _
  cases ai_look L k with
  | none => rfl
  | some v => cases v <;> rfl
theorem RR.lda {k pc' : Nat} (hi : ai_I mn pc = some (.aload k)) (hp : pc + 2 = pc') : RR S d mn pc L st h Q = kA (ai_look L k) (fun x => RR S d mn pc' L (x :: st) h Q) := by
  subst hp
  rw [RR.go hi rfl]
  show kO (ai_o (ai_look L k) _) _ = _
  cases ai_look L k with
  | none => rfl
  | some v => cases v <;> rfl
theorem RR.iinc {k pc' : Nat} {n : Int} {c : Int32} (hi : ai_I mn pc = some (.iinc k n)) (hm : k < ai_ml mn) (hc : Int32.ofInt n = c) (hp : pc + 3 = pc') : RR S d mn pc L st h Q = kI (ai_look L k) (fun x => RR S d mn pc' (ai_put k (.int (x + c)) L) st h Q) := by
  subst hp; subst hc
  rw [RR.go hi rfl]
  have hm' : decide (k < ai_ml mn) = true := decide_eq_true hm
  show kO (ai_o (ai_look L k) fun v => ai_ldi v fun x => ai_g (decide (k < ai_ml mn)) _) _ = _
  rw [hm']
  cases ai_look L k with
  | none => rfl
  | some v => cases v <;> rfl
theorem RR.br {P : Prop} [Decidable P] {off : Int} {tgt pc' : Nat} {r : List Value} (hi : ai_I mn pc = some i) (hk : ai_kd mn i = 0) (hq : ai_do S mn pc L st h i = ai_br pc off (decide P) L r h) (h0 : (pc : Int) + off = (tgt : Int)) (hp : pc + 3 = pc') : RR S d mn pc L st h Q = if P then RR S d mn tgt L r h Q else RR S d mn pc' L r h Q := by
  subst hp
  have h1 : decide (0 ≤ (pc : Int) + off) = true := decide_eq_true (by omega)
  have h2 : ((pc : Int) + off).toNat = tgt := by omega
  rw [RR.go hi hk, hq]
  unfold ai_br
  rw [h1, h2]
  show RR S d mn (if decide P = true then tgt else pc + 3) L r h Q = _
  by_cases hP : P
  · rw [if_pos (decide_eq_true hP), if_pos hP]
  · rw [if_neg (fun z => hP (of_decide_eq_true z)), if_neg hP]
theorem RR.jmp {off : Int} {tgt : Nat} (hi : ai_I mn pc = some (.goto off)) (h0 : (pc : Int) + off = (tgt : Int)) : RR S d mn pc L st h Q = RR S d mn tgt L st h Q := by
  rw [RR.br (P := True) (r := st) (tgt := tgt) hi rfl rfl h0 rfl, if_pos trivial]
theorem RR.ts {df lo hi' : Int} {offs : Array Int} {x : Int32} {r : List Value} (hi : ai_I mn pc = some (.tableswitch df lo hi' offs)) (tg : Int → Nat) (tgd : Nat) (hd : (pc : Int) + df = (tgd : Int)) (ht : ∀ z : Int, ¬ (z < lo ∨ hi' < z) → ∃ off, offs[(z - lo).toNat]? = some off ∧ (pc : Int) + off = (tg z : Int)) : RR S d mn pc L (.int x :: r) h Q = if x.toInt < lo ∨ hi' < x.toInt then RR S d mn tgd L r h Q else RR S d mn (tg x.toInt) L r h Q := by
  have hg : ∀ (off : Int) (t : Nat), (pc : Int) + off = (t : Int) → kO (ai_br pc off true L r h) (fun q => RR S d mn q.1 q.2.1 q.2.2.1 q.2.2.2 Q) = RR S d mn t L r h Q := by
    intro off t e
    have h1 : decide (0 ≤ (pc : Int) + off) = true := decide_eq_true (by omega)
    have h2 : ((pc : Int) + off).toNat = t := by omega
    unfold ai_br
    rw [h1, h2]
    rfl
  rw [RR.go hi rfl]
  show kO (if x.toInt < lo ∨ hi' < x.toInt then ai_br pc df true L r h else ai_o (offs[(x.toInt - lo).toNat]?) fun off => ai_br pc off true L r h) _ = _
  by_cases hz : x.toInt < lo ∨ hi' < x.toInt
  · rw [if_pos hz, if_pos hz]; exact hg _ _ hd
  · rw [if_neg hz, if_neg hz]
    obtain ⟨off, e1, e2⟩ := ht _ hz
    rw [e1]
    exact hg _ _ e2
def ai_fld (h : ai_H) (a c k : Nat) : Option Value := match ai_obj h a c with
  | some fs => fs[k]?
  | none => none
theorem RR.get {j a c k pc' : Nat} (hi : ai_I mn pc = some (.getfield j)) (hF : ai_get ai_F (ai_ow mn) j = some (c, k)) (hp : pc + 3 = pc') : RR S d mn pc L (.ref a :: st) h Q = kO (ai_fld h a c k) (fun w => RR S d mn pc' L (w :: st) h Q) := by
  subst hp
  rw [RR.go hi rfl]
  show kO (ai_o (ai_get ai_F (ai_ow mn) j) _) _ = _
  rw [hF]
  show kO (ai_o (ai_obj h a c) _) _ = _
  unfold ai_fld
  cases ai_obj h a c with
  | none => rfl
  | some fs =>
    show kO (ai_o (fs[k]?) _) _ = kO (fs[k]?) _
    cases fs[k]? <;> rfl
theorem RR.put {j a c k pc' : Nat} {v : Value} (hi : ai_I mn pc = some (.putfield j)) (hF : ai_get ai_F (ai_ow mn) j = some (c, k)) (hv : ai_okp (ai_nm mn) c k v = true) (hp : pc + 3 = pc') : RR S d mn pc L (v :: .ref a :: st) h Q = kO (ai_obj h a c) (fun fs => kB (decide (k < fs.length)) (RR S d mn pc' L st (h.1.set a (.inr (c, fs.set k v)), h.2) Q)) := by
  subst hp
  rw [RR.go hi rfl]
  show kO (ai_o (ai_get ai_F (ai_ow mn) j) _) _ = _
  rw [hF]
  show kO (ai_o (ai_obj h a c) _) _ = _
  cases ai_obj h a c with
  | none => rfl
  | some fs =>
    show kO (ai_g (decide (k < fs.length) && ai_okp (ai_nm mn) c k v) _) _ = kB _ _
    rw [hv, Bool.and_true]
    cases decide (k < fs.length) <;> rfl
theorem RR.ial {a pc' : Nat} {x : Int32} (hi : ai_I mn pc = some .iaload) (hp : pc + 1 = pc') : RR S d mn pc L (.int x :: .ref a :: st) h Q = kO (ai_arr h a 0) (fun q => kB (ai_in x q.1) (RR S d mn pc' L (.int (q.2 x.toNatClampNeg) :: st) h Q)) := by
  subst hp
  rw [RR.go hi rfl]
  show kO (ai_o (ai_arr h a 0) _) _ = _
  cases ai_arr h a 0 with
  | none => rfl
  | some q =>
    show kO (ai_g (ai_in x q.1) _) _ = kB _ _
    cases ai_in x q.1 <;> rfl
theorem RR.iax {pc' : Nat} {u : UInt32} {x : Int32} (hi : ai_I mn pc = some .iaload) (hp : pc + 1 = pc') : RR S d mn pc L (.int x :: .float u :: st) h Q = kB (ai_in x (ai_ext S u).1) (RR S d mn pc' L (.int ((ai_ext S u).2 x.toNatClampNeg) :: st) h Q) := by
  subst hp
  rw [RR.go hi rfl]
  show kO (ai_g (ai_in x (ai_ext S u).1) _) _ = kB _ _
  cases ai_in x (ai_ext S u).1 <;> rfl
theorem RR.bal {a pc' : Nat} {x : Int32} (hi : ai_I mn pc = some .baload) (hp : pc + 1 = pc') : RR S d mn pc L (.int x :: .ref a :: st) h Q = kO (ai_arr h a 1) (fun q => kB (ai_in x q.1) (RR S d mn pc' L (.int (q.2 x.toNatClampNeg) :: st) h Q)) := by
  subst hp
  rw [RR.go hi rfl]
  show kO (ai_o (ai_arr h a 1) _) _ = _
  cases ai_arr h a 1 with
  | none => rfl
  | some q =>
    show kO (ai_g (ai_in x q.1) _) _ = kB _ _
    cases ai_in x q.1 <;> rfl
theorem RR.aal {a pc' : Nat} {x : Int32} (hi : ai_I mn pc = some .aaload) (hp : pc + 1 = pc') : RR S d mn pc L (.int x :: .ref a :: st) h Q = kO (ai_arq h a) (fun q => kB (ai_in x q.2.1 && (decide (2 ≤ q.1) && decide (q.1 < 5))) (RR S d mn pc' L (va_rf (q.2.2 x.toNatClampNeg) :: st) h Q)) := by
  subst hp
  rw [RR.go hi rfl]
  show kO (ai_o (ai_arq h a) _) _ = _
  cases ai_arq h a with
  | none => rfl
  | some q =>
    show kO (ai_g (ai_in x q.2.1 && (decide (2 ≤ q.1) && decide (q.1 < 5))) _) _ = kB _ _
    cases ai_in x q.2.1 && (decide (2 ≤ q.1) && decide (q.1 < 5)) <;> rfl
theorem RR.ias {a pc' : Nat} {x y : Int32} (hi : ai_I mn pc = some .iastore) (hp : pc + 1 = pc') : RR S d mn pc L (.int y :: .int x :: .ref a :: st) h Q = kO (ai_arr h a 0) (fun q => kB (ai_in x q.1) (RR S d mn pc' L st (h.1.set a (.inl (0, q.1, .inl (upd q.2 x.toNatClampNeg y))), h.2) Q)) := by
  subst hp
  rw [RR.go hi rfl]
  show kO (ai_o (ai_arr h a 0) _) _ = _
  cases ai_arr h a 0 with
  | none => rfl
  | some q =>
    show kO (ai_g (ai_in x q.1) _) _ = kB _ _
    cases ai_in x q.1 <;> rfl
theorem RR.bas {a pc' : Nat} {x y : Int32} (hi : ai_I mn pc = some .bastore) (hp : pc + 1 = pc') : RR S d mn pc L (.int y :: .int x :: .ref a :: st) h Q = kO (ai_arr h a 1) (fun q => kB (ai_in x q.1 && decide (y &&& 1 = y)) (RR S d mn pc' L st (h.1.set a (.inl (1, q.1, .inl (upd q.2 x.toNatClampNeg y))), h.2) Q)) := by
  subst hp
  rw [RR.go hi rfl]
  show kO (ai_o (ai_arr h a 1) _) _ = _
  cases ai_arr h a 1 with
  | none => rfl
  | some q =>
    show kO (ai_g (ai_in x q.1 && decide (y &&& 1 = y)) _) _ = kB _ _
    cases ai_in x q.1 && decide (y &&& 1 = y) <;> rfl
theorem RR.aasn {a pc' : Nat} {x : Int32} (hi : ai_I mn pc = some .aastore) (hp : pc + 1 = pc') : RR S d mn pc L (.null :: .int x :: .ref a :: st) h Q = kO (ai_arq h a) (fun q => kB (ai_in x q.2.1 && (decide (2 ≤ q.1) && decide (q.1 < 5))) (RR S d mn pc' L st (h.1.set a (.inl (q.1, q.2.1, .inr (va_up q.2.2 x.toNatClampNeg none))), h.2) Q)) := by
  subst hp
  rw [RR.go hi rfl]
  show kO (ai_o (ai_arq h a) _) _ = _
  cases ai_arq h a with
  | none => rfl
  | some q =>
    show kO (ai_g (ai_in x q.2.1 && (decide (2 ≤ q.1) && decide (q.1 < 5))) _) _ = kB _ _
    cases ai_in x q.2.1 && (decide (2 ≤ q.1) && decide (q.1 < 5)) <;> rfl
def ai_cno (h : ai_H) (w : Nat) : Option Nat := match h.1[w]? with
  | some (.inr (c, _)) => some c
  | _ => none
theorem RR.aasr {a w pc' : Nat} {x : Int32} (hi : ai_I mn pc = some .aastore) (hp : pc + 1 = pc') : RR S d mn pc L (.ref w :: .int x :: .ref a :: st) h Q = kO (ai_arq h a) (fun q => kB (ai_in x q.2.1 && (decide (2 ≤ q.1) && decide (q.1 < 5))) (kO (ai_cno h w) (fun c => kB (decide (ai_ao c = some q.1)) (RR S d mn pc' L st (h.1.set a (.inl (q.1, q.2.1, .inr (va_up q.2.2 x.toNatClampNeg (some w)))), h.2) Q)))) := by
  subst hp
  rw [RR.go hi rfl]
  show kO (ai_o (ai_arq h a) _) _ = _
  cases ai_arq h a with
  | none => rfl
  | some q =>
    show kO (ai_g (ai_in x q.2.1 && (decide (2 ≤ q.1) && decide (q.1 < 5))) _) _ = kB _ _
    cases ai_in x q.2.1 && (decide (2 ≤ q.1) && decide (q.1 < 5)) with
    | false => rfl
    | true =>
      show kO (match h.1[w]? with
        | some (.inr (c, _)) => ai_g (decide (ai_ao c = some q.1)) _
        | _ => none) _ = kO (ai_cno h w) _
      unfold ai_cno
      rcases h.1[w]? with _ | (_ | ⟨c, fs⟩)
      · rfl
      · rfl
      · show kO (ai_g (decide (ai_ao c = some q.1)) _) _ = kB _ _
        cases decide (ai_ao c = some q.1) <;> rfl
theorem RR.alen {a pc' : Nat} (hi : ai_I mn pc = some .arraylength) (hp : pc + 1 = pc') : RR S d mn pc L (.ref a :: st) h Q = kO (ai_alen h a) (fun n => RR S d mn pc' L (.int (Int32.ofNat n) :: st) h Q) := by
  subst hp
  rw [RR.go hi rfl]
  show kO (ai_o (ai_alen h a) _) _ = _
  cases ai_alen h a <;> rfl
theorem RR.rt {r : Option Value} (hi : ai_I mn pc = some i) (hk : ai_kd mn i = 2) (hr : ai_ret mn st i = some r) : RR S d mn pc L st h Q = Q r h := RR.ret (by rw [ai_step_2 hi hk, hr]; rfl)
theorem RR.zrt {x : Int32} (hi : ai_I mn pc = some .ireturn) (hr : ai_rt mn = some .boolean) (hx : x &&& 1 = x) : RR S d mn pc L [.int x] h Q = Q (some (.int x)) h := by
  refine RR.rt hi rfl ?_
  show ai_g (true && (decide (ai_rt mn = some .int) || (decide (ai_rt mn = some .boolean) && decide (x &&& 1 = x)))) _ = _
  rw [hr, decide_eq_true hx]
  rfl
/-- a call of a method of an object -/
theorem RR.cv {j mn' n a pc' : Nat} {As rest : List Value} (hi : ai_I mn pc = some (.invokevirtual j)) (hG : ai_get ai_G (ai_ow mn) j = some (mn', n)) (hs : st.drop n = .ref a :: rest) (hA : (st.take n).reverse = As) (hb : (decide ((lg_sl (.ref a :: As)).length ≤ ai_ml mn') && (decide (((ai_nm mn').name = "<init>") ↔ false = true) && !ai_Sm.contains mn')) = true) (hp : pc + 3 = pc') :
    RR S (d + 1) mn pc L st h Q = kB (decide (ai_sum rest ≤ 8)) (kB ((ai_obj h a (ai_ow mn')).isSome) (RR S d mn' 0 (lv_args 0 (.ref a :: As)) [] h (fun r h1 => RR S (d + 1) mn pc' L (r.toList ++ rest) h1 Q))) := by
  subst hp; subst hA
  have e : ai_inv mn st h (.invokevirtual j) = ai_g (decide (ai_sum rest ≤ 8) && (ai_obj h a (ai_ow mn')).isSome) (some (mn', .ref a :: (st.take n).reverse, rest)) := by
    show ai_o (ai_get ai_G (ai_ow mn) j) _ = _
    rw [hG]
    show ai_cll h mn' n true false st = _
    unfold ai_cll
    rw [hs]
    have hb := Bool.and_eq_true_iff.mp hb
    show ai_g (decide (ai_sum rest ≤ 8) && (decide ((lg_sl (.ref a :: (st.take n).reverse)).length ≤ ai_ml mn') && (decide (((ai_nm mn').name = "<init>") ↔ false = true) && (!ai_Sm.contains mn' && (ai_obj h a (ai_ow mn')).isSome)))) _ = _
    have hb2 := Bool.and_eq_true_iff.mp hb.2
    rw [hb.1, hb2.1, hb2.2]
    rfl
  cases hb1 : (decide (ai_sum rest ≤ 8) && (ai_obj h a (ai_ow mn')).isSome) with
  | false =>
    rw [RR.no (by rw [ai_step_1 hi rfl, e, hb1]; rfl)]
    cases h1 : decide (ai_sum rest ≤ 8) with
    | false => rfl
    | true => rw [h1, Bool.true_and] at hb1; rw [hb1]; rfl
  | true =>
    rw [RR.call (q := (mn', .ref a :: (st.take n).reverse, rest)) (by rw [ai_step_1 hi rfl, e, hb1]; rfl)]
    simp only [Bool.and_eq_true] at hb1
    rw [hb1.1, hb1.2]
    rfl
theorem RR.ci {j mn' n a pc' : Nat} {As rest : List Value} (hi : ai_I mn pc = some (.invokespecial j)) (hk : ai_kd mn (.invokespecial j) = 1) (hG : (match ai_get ai_Q (ai_ow mn) j with
    | some k => some (k, 0)
    | none => ai_get ai_G (ai_ow mn) j) = some (mn', n)) (hs : st.drop n = .ref a :: rest) (hA : (st.take n).reverse = As) (hb : (decide ((lg_sl (.ref a :: As)).length ≤ ai_ml mn') && (decide (((ai_nm mn').name = "<init>") ↔ true = true) && !ai_Sm.contains mn')) = true) (hp : pc + 3 = pc') :
    RR S (d + 1) mn pc L st h Q = kB (decide (ai_sum rest ≤ 8)) (RR S d mn' 0 (lv_args 0 (.ref a :: As)) [] h (fun r h1 => RR S (d + 1) mn pc' L (r.toList ++ rest) h1 Q)) := by
  subst hp; subst hA
  have e : ai_inv mn st h (.invokespecial j) = ai_g (decide (ai_sum rest ≤ 8)) (some (mn', .ref a :: (st.take n).reverse, rest)) := by
    have e0 : ai_inv mn st h (.invokespecial j) = ai_cll h mn' n false true st := by
      show (match ai_get ai_Q (ai_ow mn) j with
        | some k => ai_cll h k 0 false true st
        | none => ai_o (ai_get ai_G (ai_ow mn) j) fun q => ai_cll h q.1 q.2 false true st) = _
      cases hq : ai_get ai_Q (ai_ow mn) j with
      | some k => rw [hq] at hG; cases hG; rfl
      | none => rw [hq] at hG; dsimp only at hG; rw [hG]; rfl
    rw [e0]
    unfold ai_cll
    rw [hs]
    have hb := Bool.and_eq_true_iff.mp hb
    show ai_g (decide (ai_sum rest ≤ 8) && (decide ((lg_sl (.ref a :: (st.take n).reverse)).length ≤ ai_ml mn') && (decide (((ai_nm mn').name = "<init>") ↔ true = true) && (!ai_Sm.contains mn' && true)))) _ = _
    have hb2 := Bool.and_eq_true_iff.mp hb.2
    rw [hb.1, hb2.1, hb2.2]
    cases decide (ai_sum rest ≤ 8) <;> rfl
  cases hb1 : decide (ai_sum rest ≤ 8) with
  | false => rw [RR.no (by rw [ai_step_1 hi hk, e, hb1]; rfl)]; rfl
  | true => rw [RR.call (q := (mn', .ref a :: (st.take n).reverse, rest)) (by rw [ai_step_1 hi hk, e, hb1]; rfl)]; rfl
theorem RR.cs {j mn' n pc' : Nat} {As rest : List Value} (hi : ai_I mn pc = some (.invokestatic j)) (hG : ai_get ai_G (ai_ow mn) j = some (mn', n)) (hs : st.drop n = rest) (hA : (st.take n).reverse = As) (hl : n ≤ st.length) (hb : (decide ((lg_sl As).length ≤ ai_ml mn') && ai_Sm.contains mn') = true) (hp : pc + 3 = pc') :
    RR S (d + 1) mn pc L st h Q = kB (decide (ai_sum rest ≤ 8)) (RR S d mn' 0 (lv_args 0 As) [] h (fun r h1 => RR S (d + 1) mn pc' L (r.toList ++ rest) h1 Q)) := by
  subst hp; subst hA; subst hs
  have e : ai_inv mn st h (.invokestatic j) = ai_g (decide (ai_sum (st.drop n) ≤ 8)) (some (mn', (st.take n).reverse, st.drop n)) := by
    show ai_o (ai_get ai_G (ai_ow mn) j) _ = _
    rw [hG]
    have hb := Bool.and_eq_true_iff.mp hb
    show ai_g (decide (n ≤ st.length) && (decide (ai_sum (st.drop n) ≤ 8) && (decide ((lg_sl (st.take n).reverse).length ≤ ai_ml mn') && ai_Sm.contains mn'))) _ = _
    rw [hb.1, hb.2, decide_eq_true hl]
    cases decide (ai_sum (st.drop n) ≤ 8) <;> rfl
  cases hb1 : decide (ai_sum (st.drop n) ≤ 8) with
  | false => rw [RR.no (by rw [ai_step_1 hi rfl, e, hb1]; rfl)]; rfl
  | true => rw [RR.call (q := (mn', (st.take n).reverse, st.drop n)) (by rw [ai_step_1 hi rfl, e, hb1]; rfl)]; rfl
end RRs
theorem ai_look_hit (i : Nat) (v : Value) (t : ai_L) : ai_look ((i, v) :: t) i = some v := by simp [ai_look]
theorem ai_look_miss {i j : Nat} (hj : j ≠ i) (v : Value) (t : ai_L) : ai_look ((j, v) :: t) i = ai_look t i := by simp [ai_look, hj]
theorem ai_put_nil (i : Nat) (v : Value) : ai_put i v [] = [(i, v)] := rfl
def ai_flt (i : Nat) (L : ai_L) : ai_L := L.filter (fun q => !(q.1 == i) && !(q.1 + 1 == i && q.2.category == 2))
theorem ai_put_lt {i j : Nat} (hj : j + 1 < i) (v w : Value) (t : ai_L) : ai_put i v ((j, w) :: t) = (j, w) :: ai_put i v t := by
  have h1 : ¬ i < j := by omega
  have h2 : (j == i) = false := beq_false_of_ne (by omega)
  have h3 : (j + 1 == i) = false := beq_false_of_ne (by omega)
  simp [ai_put, ai_sort, h1, h2, h3, List.filter_cons]
theorem ai_put_l1 {i j : Nat} (hj : j + 1 = i) (v : Value) {w : Value} (hw : w.category = 1) (t : ai_L) : ai_put i v ((j, w) :: t) = (j, w) :: ai_put i v t := by
  have h1 : ¬ i < j := by omega
  have h2 : (j == i) = false := beq_false_of_ne (by omega)
  simp [ai_put, ai_sort, h1, h2, hw, List.filter_cons]
theorem ai_put_eq (i : Nat) (v w : Value) (t : ai_L) : ai_put i v ((i, w) :: t) = ai_put i v t := by simp [ai_put]
theorem ai_put_gt {i j : Nat} (hj : i < j) (v w : Value) (t : ai_L) : ai_put i v ((j, w) :: t) = (i, v) :: (j, w) :: ai_flt i t := by
  have h2 : (j == i) = false := beq_false_of_ne (by omega)
  have h3 : (j + 1 == i) = false := beq_false_of_ne (by omega)
  simp [ai_put, ai_sort, ai_flt, hj, h2, h3, List.filter_cons]
theorem ai_flt_nil (i : Nat) : ai_flt i [] = [] := rfl
theorem ai_flt_gt {i j : Nat} (hj : i < j) (w : Value) (t : ai_L) : ai_flt i ((j, w) :: t) = (j, w) :: ai_flt i t := by
  have h2 : (j == i) = false := beq_false_of_ne (by omega)
  have h3 : (j + 1 == i) = false := beq_false_of_ne (by omega)
  simp [ai_flt, h2, h3, List.filter_cons]
theorem cat_int (x : Int32) : (Value.int x).category = 1 := rfl
theorem cat_ref (x : Nat) : (Value.ref x).category = 1 := rfl
theorem cat_null : Value.null.category = 1 := rfl
theorem cat_float (u : UInt32) : (Value.float u).category = 1 := rfl
theorem cat_long (x : Int64) : (Value.long x).category = 2 := rfl
end
section
section RRt
variable {S : ai_S} {d mn pc : Nat} {L : ai_L} {st : List Value} {h : ai_H} {Q : Option Value → ai_H → Prop} {i : Instr}
theorem RR.icn {n : Int} {v : Int32} {pc' : Nat} (hi : ai_I mn pc = some (.iconst n)) (hv : Int32.ofInt n = v) (hp : pc + 1 = pc') : RR S d mn pc L st h Q = RR S d mn pc' L (.int v :: st) h Q := by
  subst hp; subst hv
  exact RR.do1 (pc + 1, L, .int (Int32.ofInt n) :: st, h) hi rfl rfl
theorem RR.bip {n : Int} {v : Int32} {pc' : Nat} (hi : ai_I mn pc = some (.bipush n)) (hv : (Int8.ofInt n).toInt32 = v) (hp : pc + 2 = pc') : RR S d mn pc L st h Q = RR S d mn pc' L (.int v :: st) h Q := by
  subst hp; subst hv
  exact RR.do1 (pc + 2, L, .int (Int8.ofInt n).toInt32 :: st, h) hi rfl rfl
theorem RR.sip {n : Int} {v : Int32} {pc' : Nat} (hi : ai_I mn pc = some (.sipush n)) (hv : (Int16.ofInt n).toInt32 = v) (hp : pc + 3 = pc') : RR S d mn pc L st h Q = RR S d mn pc' L (.int v :: st) h Q := by
  subst hp; subst hv
  exact RR.do1 (pc + 3, L, .int (Int16.ofInt n).toInt32 :: st, h) hi rfl rfl
theorem RR.lcn {n : Fin 2} {v : Int64} {pc' : Nat} (hi : ai_I mn pc = some (.lconst n)) (hv : Int64.ofNat (n : Nat) = v) (hp : pc + 1 = pc') : RR S d mn pc L st h Q = RR S d mn pc' L (.long v :: st) h Q := by
  subst hp; subst hv
  exact RR.do1 (pc + 1, L, .long (Int64.ofNat (n : Nat)) :: st, h) hi rfl rfl
theorem RR.idiv {x y : Int32} {pc' : Nat} (hi : ai_I mn pc = some .idiv) (hp : pc + 1 = pc') : RR S d mn pc L (.int y :: .int x :: st) h Q = kB (decide (¬ y = 0)) (RR S d mn pc' L (.int (x / y) :: st) h Q) := by
  subst hp
  rw [RR.go hi rfl]
  show kO (ai_g (decide (¬ y = 0)) _) _ = _
  cases decide (¬ y = 0) <;> rfl
theorem RR.irem {x y : Int32} {pc' : Nat} (hi : ai_I mn pc = some .irem) (hp : pc + 1 = pc') : RR S d mn pc L (.int y :: .int x :: st) h Q = kB (decide (¬ y = 0)) (RR S d mn pc' L (.int (x - x / y * y) :: st) h Q) := by
  subst hp
  rw [RR.go hi rfl]
  show kO (ai_g (decide (¬ y = 0)) _) _ = _
  cases decide (¬ y = 0) <;> rfl
theorem RR.dup {v : Value} {pc' : Nat} (hi : ai_I mn pc = some .dup) (hv : v.category = 1) (hp : pc + 1 = pc') : RR S d mn pc L (v :: st) h Q = RR S d mn pc' L (v :: v :: st) h Q := by
  subst hp
  refine RR.do1 (pc + 1, L, v :: v :: st, h) hi rfl ?_
  show ai_g (decide (v.category = 1)) _ = _
  rw [decide_eq_true hv]; rfl
theorem RR.dup2 {v w : Value} {pc' : Nat} (hi : ai_I mn pc = some .dup2) (hv : v.category = 1) (hw : w.category = 1) (hp : pc + 1 = pc') : RR S d mn pc L (v :: w :: st) h Q = RR S d mn pc' L (v :: w :: v :: w :: st) h Q := by
  subst hp
  refine RR.do1 (pc + 1, L, v :: w :: v :: w :: st, h) hi rfl ?_
  show ai_g (decide (v.category = 1) && decide (w.category = 1)) _ = _
  rw [decide_eq_true hv, decide_eq_true hw]; rfl
theorem RR.nul {b : Bool} {off : Int} {tgt t pc' : Nat} {r : List Value} (hi : ai_I mn pc = some i) (hk : ai_kd mn i = 0) (hq : ai_do S mn pc L st h i = ai_br pc off b L r h) (h0 : (pc : Int) + off = (tgt : Int)) (hp : pc + 3 = pc') (ht : (if b = true then tgt else pc') = t) : RR S d mn pc L st h Q = RR S d mn t L r h Q := by
  subst hp
  have h1 : decide (0 ≤ (pc : Int) + off) = true := decide_eq_true (by omega)
  have h2 : ((pc : Int) + off).toNat = tgt := by omega
  rw [RR.go hi hk, hq]
  unfold ai_br
  rw [h1, h2, ht]
  rfl
theorem RR.b2 {P : Prop} [Decidable P] {c : Jvm.ClassFile.Cond} {off : Int} {tgt pc' : Nat} {x y : Int32} (hi : ai_I mn pc = some (.if_icmp c off)) (hP : ai_cnd c x y = decide P) (h0 : (pc : Int) + off = (tgt : Int)) (hp : pc + 3 = pc') : RR S d mn pc L (.int y :: .int x :: st) h Q = if P then RR S d mn tgt L st h Q else RR S d mn pc' L st h Q :=
  RR.br hi rfl (by show ai_br pc off (ai_cnd c x y) L st h = _; rw [hP]) h0 hp
theorem RR.b1 {P : Prop} [Decidable P] {c : Jvm.ClassFile.Cond} {off : Int} {tgt pc' : Nat} {x : Int32} (hi : ai_I mn pc = some (.ifCond c off)) (hP : ai_cnd c x 0 = decide P) (h0 : (pc : Int) + off = (tgt : Int)) (hp : pc + 3 = pc') : RR S d mn pc L (.int x :: st) h Q = if P then RR S d mn tgt L st h Q else RR S d mn pc' L st h Q :=
  RR.br hi rfl (by show ai_br pc off (ai_cnd c x 0) L st h = _; rw [hP]) h0 hp
theorem ai_okp_i {nm : MethodName} {c k : Nat} {x : Int32} (hft : ai_ft c k = .int) (h0 : ai_okp nm c k (.int 0) = true) : ai_okp nm c k (.int x) = true := by
  unfold ai_okp at h0 ⊢
  rw [hft] at h0 ⊢
  simp only [Bool.and_eq_true] at h0 ⊢
  exact ⟨rfl, h0.2.1, decide_eq_true rfl, rfl⟩
theorem ai_okp_j {nm : MethodName} {c k : Nat} {x : Int64} (hft : ai_ft c k = .long) (h0 : ai_okp nm c k (.long 0) = true) : ai_okp nm c k (.long x) = true := by
  unfold ai_okp at h0 ⊢
  rw [hft] at h0 ⊢
  simp only [Bool.and_eq_true] at h0 ⊢
  exact ⟨rfl, h0.2.1, decide_eq_true rfl, rfl⟩
theorem ai_okp_r {nm : MethodName} {c k : Nat} {x : Nat} (h0 : ai_okp nm c k (.ref 0) = true) : ai_okp nm c k (.ref x) = true := by
  unfold ai_okp at h0 ⊢
  simp only [Bool.and_eq_true] at h0 ⊢
  obtain ⟨h1, h2, h3, h4⟩ := h0
  refine ⟨rfl, h2, decide_eq_true (by cases ai_ft c k <;> rfl), ?_⟩
  revert h4
  cases ai_ft c k <;> exact id
theorem RR.oin {j a pc' : Nat} (hi : ai_I mn pc = some (.invokespecial j)) (hk : ai_kd mn (.invokespecial j) = 0) (hp : pc + 3 = pc') : RR S d mn pc L (.ref a :: st) h Q = kB (decide (ai_sum st ≤ 8)) (RR S d mn pc' L st h Q) := by
  subst hp
  rw [RR.go hi hk]
  show kO (ai_g (decide (ai_sum st ≤ 8)) _) _ = _
  cases decide (ai_sum st ≤ 8) <;> rfl
theorem RR.newa0 {n : Int32} {pc' : Nat} (hi : ai_I mn pc = some (.newarray .int)) (hp : pc + 2 = pc') : RR S d mn pc L (.int n :: st) h Q = kB (decide (¬ n < 0) && decide (n.toNatClampNeg ≤ 100000)) (RR S d mn pc' L (.ref h.1.length :: st) (h.1 ++ [.inl (0, n.toNatClampNeg, .inl (fun _ => 0))], h.2 + n.toNatClampNeg) Q) := by
  subst hp
  rw [RR.go hi rfl]
  show kO (ai_g (decide (¬ n < 0) && decide (n.toNatClampNeg ≤ 100000)) _) _ = _
  cases decide (¬ n < 0) && decide (n.toNatClampNeg ≤ 100000) <;> rfl
theorem RR.newa1 {n : Int32} {pc' : Nat} (hi : ai_I mn pc = some (.newarray .boolean)) (hp : pc + 2 = pc') : RR S d mn pc L (.int n :: st) h Q = kB (decide (¬ n < 0) && decide (n.toNatClampNeg ≤ 100000)) (RR S d mn pc' L (.ref h.1.length :: st) (h.1 ++ [.inl (1, n.toNatClampNeg, .inl (fun _ => 0))], h.2 + n.toNatClampNeg) Q) := by
  subst hp
  rw [RR.go hi rfl]
  show kO (ai_g (decide (¬ n < 0) && decide (n.toNatClampNeg ≤ 100000)) _) _ = _
  cases decide (¬ n < 0) && decide (n.toNatClampNeg ≤ 100000) <;> rfl
theorem RR.newq {n : Int32} {j c t pc' : Nat} (hi : ai_I mn pc = some (.anewarray j)) (hN : ai_get ai_N (ai_ow mn) j = some c) (hA : ai_ao c = some t) (hp : pc + 3 = pc') : RR S d mn pc L (.int n :: st) h Q = kB (decide (¬ n < 0) && decide (n.toNatClampNeg ≤ 100000)) (RR S d mn pc' L (.ref h.1.length :: st) (h.1 ++ [.inl (t, n.toNatClampNeg, .inr (fun _ => none))], h.2 + n.toNatClampNeg) Q) := by
  subst hp
  rw [RR.go hi rfl]
  show kO (ai_g (decide (¬ n < 0) && decide (n.toNatClampNeg ≤ 100000)) (ai_o (ai_get ai_N (ai_ow mn) j) _)) _ = _
  rw [hN]
  show kO (ai_g (decide (¬ n < 0) && decide (n.toNatClampNeg ≤ 100000)) (ai_o (ai_ao c) _)) _ = _
  rw [hA]
  cases decide (¬ n < 0) && decide (n.toNatClampNeg ≤ 100000) <;> rfl
end RRt
end
section
section Ru
variable {S : ai_S} {d : Nat} {L : ai_L} {st : List Value} {h : ai_H} {Q : Option Value → ai_H → Prop}
theorem r0_0 : RR S d 0 0 L st h Q = kA (ai_look L 0) (fun x => RR S d 0 1 L (x :: st) h Q) := RR.lda_n rfl rfl rfl
theorem r0_1 {a : Nat} : RR S d 0 1 L (.ref a :: st) h Q = kB (decide (ai_sum st ≤ 8)) (RR S d 0 4 L st h Q) := RR.oin (j := 3) rfl rfl rfl
theorem r0_4 : RR S d 0 4 L st h Q = kA (ai_look L 0) (fun x => RR S d 0 5 L (x :: st) h Q) := RR.lda_n rfl rfl rfl
theorem r0_5 : RR S d 0 5 L st h Q = RR S d 0 7 L (.int 12 :: st) h Q := RR.bip (n := 12) rfl (by decide) rfl
theorem r0_7 {n : Int32} : RR S d 0 7 L (.int n :: st) h Q = kB (decide (¬ n < 0) && decide (n.toNatClampNeg ≤ 100000)) (RR S d 0 10 L (.ref h.1.length :: st) (h.1 ++ [.inl (2, n.toNatClampNeg, .inr (fun _ => none))], h.2 + n.toNatClampNeg) Q) := RR.newq rfl rfl rfl rfl
theorem r0_10 {x : Nat} {a : Nat} : RR S d 0 10 L (.ref x :: .ref a :: st) h Q = kO (ai_obj h a 0) (fun fs => kB (decide (1 < fs.length)) (RR S d 0 13 L st (h.1.set a (.inr (0, fs.set 1 (.ref x))), h.2) Q)) := RR.put rfl rfl (ai_okp_r (by decide +kernel)) rfl
theorem r0_13 : RR S d 0 13 L st h Q = kA (ai_look L 0) (fun x => RR S d 0 14 L (x :: st) h Q) := RR.lda_n rfl rfl rfl
theorem r0_14 : RR S d 0 14 L st h Q = kA (ai_look L 1) (fun x => RR S d 0 15 L (x :: st) h Q) := RR.lda_n rfl rfl rfl
theorem r0_15 {x : Nat} {a : Nat} : RR S d 0 15 L (.ref x :: .ref a :: st) h Q = kO (ai_obj h a 0) (fun fs => kB (decide (0 < fs.length)) (RR S d 0 18 L st (h.1.set a (.inr (0, fs.set 0 (.ref x))), h.2) Q)) := RR.put rfl rfl (ai_okp_r (by decide +kernel)) rfl
theorem r0_18 : RR S d 0 18 L st h Q = kA (ai_look L 0) (fun x => RR S d 0 19 L (x :: st) h Q) := RR.lda_n rfl rfl rfl
theorem r0_19 : RR S d 0 19 L st h Q = RR S d 0 22 L (.ref h.1.length :: st) (h.1 ++ [.inr (5, [.null, .long 0, .long 0])], h.2 + 3) Q := RR.do1 (22, L, .ref h.1.length :: st, (h.1 ++ [.inr (5, [.null, .long 0, .long 0])], h.2 + 3)) rfl rfl rfl
theorem r0_22 {v : Value} (hv : v.category = 1) : RR S d 0 22 L (v :: st) h Q = RR S d 0 23 L (v :: v :: st) h Q := RR.dup rfl hv rfl
theorem r0_23 : RR S d 0 23 L st h Q = kA (ai_look L 1) (fun x => RR S d 0 24 L (x :: st) h Q) := RR.lda_n rfl rfl rfl
theorem r0_24 {p0 : Nat} {a : Nat} : RR S (d + 1) 0 24 L (.ref p0 :: .ref a :: st) h Q = kB (decide (ai_sum st ≤ 8)) (RR S d 50 0 [(0, .ref a), (1, .ref p0)] [] h (fun r h1 => RR S (d + 1) 0 27 L (r.toList ++ st) h1 Q)) := RR.ci (j := 21) (mn' := 50) (n := 1) rfl rfl rfl rfl rfl rfl rfl
theorem r0_27 {x : Nat} {a : Nat} : RR S d 0 27 L (.ref x :: .ref a :: st) h Q = kO (ai_obj h a 0) (fun fs => kB (decide (2 < fs.length)) (RR S d 0 30 L st (h.1.set a (.inr (0, fs.set 2 (.ref x))), h.2) Q)) := RR.put rfl rfl (ai_okp_r (by decide +kernel)) rfl
theorem r0_30 : RR S d 0 30 L st h Q = kA (ai_look L 0) (fun x => RR S d 0 31 L (x :: st) h Q) := RR.lda_n rfl rfl rfl
theorem r0_31 : RR S d 0 31 L st h Q = RR S d 0 34 L (.ref h.1.length :: st) (h.1 ++ [.inr (5, [.null, .long 0, .long 0])], h.2 + 3) Q := RR.do1 (34, L, .ref h.1.length :: st, (h.1 ++ [.inr (5, [.null, .long 0, .long 0])], h.2 + 3)) rfl rfl rfl
theorem r0_34 {v : Value} (hv : v.category = 1) : RR S d 0 34 L (v :: st) h Q = RR S d 0 35 L (v :: v :: st) h Q := RR.dup rfl hv rfl
theorem r0_35 : RR S d 0 35 L st h Q = kA (ai_look L 1) (fun x => RR S d 0 36 L (x :: st) h Q) := RR.lda_n rfl rfl rfl
theorem r0_36 {p0 : Nat} {a : Nat} : RR S (d + 1) 0 36 L (.ref p0 :: .ref a :: st) h Q = kB (decide (ai_sum st ≤ 8)) (RR S d 50 0 [(0, .ref a), (1, .ref p0)] [] h (fun r h1 => RR S (d + 1) 0 39 L (r.toList ++ st) h1 Q)) := RR.ci (j := 21) (mn' := 50) (n := 1) rfl rfl rfl rfl rfl rfl rfl
theorem r0_39 {x : Nat} {a : Nat} : RR S d 0 39 L (.ref x :: .ref a :: st) h Q = kO (ai_obj h a 0) (fun fs => kB (decide (3 < fs.length)) (RR S d 0 42 L st (h.1.set a (.inr (0, fs.set 3 (.ref x))), h.2) Q)) := RR.put rfl rfl (ai_okp_r (by decide +kernel)) rfl
theorem r0_42 : RR S d 0 42 L st h Q = RR S d 0 43 L (.int 0 :: st) h Q := RR.icn (n := 0) rfl (by decide) rfl
theorem r0_43 {x : Int32} : RR S d 0 43 L (.int x :: st) h Q = RR S d 0 44 (ai_put 2 (.int x) L) st h Q := RR.do1 (44, ai_put 2 (.int x) L, st, h) rfl rfl rfl
theorem r0_44 : RR S d 0 44 L st h Q = kI (ai_look L 2) (fun x => RR S d 0 45 L (.int x :: st) h Q) := RR.ldi_n rfl rfl rfl
theorem r0_45 : RR S d 0 45 L st h Q = RR S d 0 47 L (.int 12 :: st) h Q := RR.bip (n := 12) rfl (by decide) rfl
theorem r0_47 {x y : Int32} : RR S d 0 47 L (.int y :: .int x :: st) h Q = if y ≤ x then RR S d 0 70 L st h Q else RR S d 0 50 L st h Q := RR.b2 (c := .ge) (off := 23) rfl rfl (by decide) rfl
theorem r0_50 : RR S d 0 50 L st h Q = kA (ai_look L 0) (fun x => RR S d 0 51 L (x :: st) h Q) := RR.lda_n rfl rfl rfl
theorem r0_51 {a : Nat} : RR S d 0 51 L (.ref a :: st) h Q = kO (ai_fld h a 0 1) (fun w => RR S d 0 54 L (w :: st) h Q) := RR.get rfl rfl rfl
theorem r0_54 : RR S d 0 54 L st h Q = kI (ai_look L 2) (fun x => RR S d 0 55 L (.int x :: st) h Q) := RR.ldi_n rfl rfl rfl
theorem r0_55 : RR S d 0 55 L st h Q = RR S d 0 58 L (.ref h.1.length :: st) (h.1 ++ [.inr (5, [.null, .long 0, .long 0])], h.2 + 3) Q := RR.do1 (58, L, .ref h.1.length :: st, (h.1 ++ [.inr (5, [.null, .long 0, .long 0])], h.2 + 3)) rfl rfl rfl
theorem r0_58 {v : Value} (hv : v.category = 1) : RR S d 0 58 L (v :: st) h Q = RR S d 0 59 L (v :: v :: st) h Q := RR.dup rfl hv rfl
theorem r0_59 : RR S d 0 59 L st h Q = kA (ai_look L 1) (fun x => RR S d 0 60 L (x :: st) h Q) := RR.lda_n rfl rfl rfl
theorem r0_60 {p0 : Nat} {a : Nat} : RR S (d + 1) 0 60 L (.ref p0 :: .ref a :: st) h Q = kB (decide (ai_sum st ≤ 8)) (RR S d 50 0 [(0, .ref a), (1, .ref p0)] [] h (fun r h1 => RR S (d + 1) 0 63 L (r.toList ++ st) h1 Q)) := RR.ci (j := 21) (mn' := 50) (n := 1) rfl rfl rfl rfl rfl rfl rfl
theorem r0_63n {x : Int32} {a : Nat} : RR S d 0 63 L (.null :: .int x :: .ref a :: st) h Q = kO (ai_arq h a) (fun q => kB (ai_in x q.2.1 && (decide (2 ≤ q.1) && decide (q.1 < 5))) (RR S d 0 64 L st (h.1.set a (.inl (q.1, q.2.1, .inr (va_up q.2.2 x.toNatClampNeg none))), h.2) Q)) := RR.aasn rfl rfl
theorem r0_63 {x : Int32} {a w : Nat} : RR S d 0 63 L (.ref w :: .int x :: .ref a :: st) h Q = kO (ai_arq h a) (fun q => kB (ai_in x q.2.1 && (decide (2 ≤ q.1) && decide (q.1 < 5))) (kO (ai_cno h w) (fun c => kB (decide (ai_ao c = some q.1)) (RR S d 0 64 L st (h.1.set a (.inl (q.1, q.2.1, .inr (va_up q.2.2 x.toNatClampNeg (some w)))), h.2) Q)))) := RR.aasr rfl rfl
theorem r0_64 : RR S d 0 64 L st h Q = kI (ai_look L 2) (fun x => RR S d 0 67 (ai_put 2 (.int (x + 1)) L) st h Q) := RR.iinc (k := 2) (n := 1) rfl (by decide) (by decide) rfl
theorem r0_67 : RR S d 0 67 L st h Q = RR S d 0 44 L st h Q := RR.jmp (off := (-23)) rfl (by decide)
theorem r0_70 : RR S d 0 70 L [] h Q = Q none h := RR.rt rfl rfl rfl
theorem r1_0 : RR S d 1 0 L st h Q = RR S d 1 1 L (.int 0 :: st) h Q := RR.icn (n := 0) rfl (by decide) rfl
theorem r1_1 {x : Int32} : RR S d 1 1 L (.int x :: st) h Q = RR S d 1 2 (ai_put 1 (.int x) L) st h Q := RR.do1 (2, ai_put 1 (.int x) L, st, h) rfl rfl rfl
theorem r1_2 : RR S d 1 2 L st h Q = kI (ai_look L 1) (fun x => RR S d 1 3 L (.int x :: st) h Q) := RR.ldi_n rfl rfl rfl
theorem r1_3 : RR S d 1 3 L st h Q = RR S d 1 5 L (.int 12 :: st) h Q := RR.bip (n := 12) rfl (by decide) rfl
theorem r1_5 {x y : Int32} : RR S d 1 5 L (.int y :: .int x :: st) h Q = if y ≤ x then RR S d 1 23 L st h Q else RR S d 1 8 L st h Q := RR.b2 (c := .ge) (off := 18) rfl rfl (by decide) rfl
theorem r1_8 : RR S d 1 8 L st h Q = kA (ai_look L 0) (fun x => RR S d 1 9 L (x :: st) h Q) := RR.lda_n rfl rfl rfl
theorem r1_9 {a : Nat} : RR S d 1 9 L (.ref a :: st) h Q = kO (ai_fld h a 0 1) (fun w => RR S d 1 12 L (w :: st) h Q) := RR.get rfl rfl rfl
theorem r1_12 : RR S d 1 12 L st h Q = kI (ai_look L 1) (fun x => RR S d 1 13 L (.int x :: st) h Q) := RR.ldi_n rfl rfl rfl
theorem r1_13 {x : Int32} {a : Nat} : RR S d 1 13 L (.int x :: .ref a :: st) h Q = kO (ai_arq h a) (fun q => kB (ai_in x q.2.1 && (decide (2 ≤ q.1) && decide (q.1 < 5))) (RR S d 1 14 L (va_rf (q.2.2 x.toNatClampNeg) :: st) h Q)) := RR.aal rfl rfl
theorem r1_14 {a : Nat} : RR S (d + 1) 1 14 L (.ref a :: st) h Q = kB (decide (ai_sum st ≤ 8)) (kB ((ai_obj h a 5).isSome) (RR S d 51 0 [(0, .ref a)] [] h (fun r h1 => RR S (d + 1) 1 17 L (r.toList ++ st) h1 Q))) := RR.cv (j := 31) (mn' := 51) (n := 0) rfl rfl rfl rfl rfl rfl
theorem r1_17 : RR S d 1 17 L st h Q = kI (ai_look L 1) (fun x => RR S d 1 20 (ai_put 1 (.int (x + 1)) L) st h Q) := RR.iinc (k := 1) (n := 1) rfl (by decide) (by decide) rfl
theorem r1_20 : RR S d 1 20 L st h Q = RR S d 1 2 L st h Q := RR.jmp (off := (-18)) rfl (by decide)
theorem r1_23 : RR S d 1 23 L [] h Q = Q none h := RR.rt rfl rfl rfl
theorem r2_0 : RR S d 2 0 L st h Q = kI (ai_look L 3) (fun x => RR S d 2 1 L (.int x :: st) h Q) := RR.ldi_n rfl rfl rfl
theorem r2_1 {x : Int32} : RR S d 2 1 L (.int x :: st) h Q = RR S d 2 3 (ai_put 5 (.int x) L) st h Q := RR.do1 (3, ai_put 5 (.int x) L, st, h) rfl rfl rfl
theorem r2_3 : RR S d 2 3 L st h Q = RR S d 2 4 L (.int 0 :: st) h Q := RR.icn (n := 0) rfl (by decide) rfl
theorem r2_4 {x : Int32} : RR S d 2 4 L (.int x :: st) h Q = RR S d 2 6 (ai_put 6 (.int x) L) st h Q := RR.do1 (6, ai_put 6 (.int x) L, st, h) rfl rfl rfl
theorem r2_6 : RR S d 2 6 L st h Q = kI (ai_look L 6) (fun x => RR S d 2 8 L (.int x :: st) h Q) := RR.ldi rfl rfl
theorem r2_8 : RR S d 2 8 L st h Q = RR S d 2 9 L (.int 4 :: st) h Q := RR.icn (n := 4) rfl (by decide) rfl
theorem r2_9 {x y : Int32} : RR S d 2 9 L (.int y :: .int x :: st) h Q = if y ≤ x then RR S d 2 129 L st h Q else RR S d 2 12 L st h Q := RR.b2 (c := .ge) (off := 120) rfl rfl (by decide) rfl
theorem r2_12 : RR S d 2 12 L st h Q = kI (ai_look L 2) (fun x => RR S d 2 13 L (.int x :: st) h Q) := RR.ldi_n rfl rfl rfl
theorem r2_13 : RR S d 2 13 L st h Q = kI (ai_look L 6) (fun x => RR S d 2 15 L (.int x :: st) h Q) := RR.ldi rfl rfl
theorem r2_15 {p0 : Int32} {p1 : Int32} : RR S (d + 1) 2 15 L (.int p1 :: .int p0 :: st) h Q = kB (decide (ai_sum st ≤ 8)) (RR S d 73 0 [(0, .int p0), (1, .int p1)] [] h (fun r h1 => RR S (d + 1) 2 18 L (r.toList ++ st) h1 Q)) := RR.cs (j := 34) (mn' := 73) (n := 2) rfl rfl rfl rfl (by simp) rfl rfl
theorem r2_18 {x : Int32} : RR S d 2 18 L (.int x :: st) h Q = RR S d 2 20 (ai_put 7 (.int x) L) st h Q := RR.do1 (20, ai_put 7 (.int x) L, st, h) rfl rfl rfl
theorem r2_20 : RR S d 2 20 L st h Q = kA (ai_look L 0) (fun x => RR S d 2 21 L (x :: st) h Q) := RR.lda_n rfl rfl rfl
theorem r2_21 {a : Nat} : RR S d 2 21 L (.ref a :: st) h Q = kO (ai_fld h a 0 0) (fun w => RR S d 2 24 L (w :: st) h Q) := RR.get rfl rfl rfl
theorem r2_24 : RR S d 2 24 L st h Q = kI (ai_look L 7) (fun x => RR S d 2 26 L (.int x :: st) h Q) := RR.ldi rfl rfl
theorem r2_26 {p0 : Int32} {a : Nat} : RR S (d + 1) 2 26 L (.int p0 :: .ref a :: st) h Q = kB (decide (ai_sum st ≤ 8)) (kB ((ai_obj h a 2).isSome) (RR S d 15 0 [(0, .ref a), (1, .int p0)] [] h (fun r h1 => RR S (d + 1) 2 29 L (r.toList ++ st) h1 Q))) := RR.cv (j := 40) (mn' := 15) (n := 1) rfl rfl rfl rfl rfl rfl
theorem r2_29 {x : Int32} : RR S d 2 29 L (.int x :: st) h Q = if ¬ x = 0 then RR S d 2 33 L st h Q else RR S d 2 32 L st h Q := RR.b1 (c := .ne) (off := 4) rfl rfl (by decide) rfl
theorem r2_32 : RR S d 2 32 L [] h Q = Q none h := RR.rt rfl rfl rfl
theorem r2_33 : RR S d 2 33 L st h Q = kA (ai_look L 0) (fun x => RR S d 2 34 L (x :: st) h Q) := RR.lda_n rfl rfl rfl
theorem r2_34 {a : Nat} : RR S d 2 34 L (.ref a :: st) h Q = kO (ai_fld h a 0 2) (fun w => RR S d 2 37 L (w :: st) h Q) := RR.get rfl rfl rfl
theorem r2_37 : RR S d 2 37 L st h Q = kI (ai_look L 5) (fun x => RR S d 2 39 L (.int x :: st) h Q) := RR.ldi rfl rfl
theorem r2_39 : RR S d 2 39 L st h Q = kA (ai_look L 0) (fun x => RR S d 2 40 L (x :: st) h Q) := RR.lda_n rfl rfl rfl
theorem r2_40 {a : Nat} : RR S d 2 40 L (.ref a :: st) h Q = kO (ai_fld h a 0 0) (fun w => RR S d 2 43 L (w :: st) h Q) := RR.get rfl rfl rfl
theorem r2_43 : RR S d 2 43 L st h Q = kI (ai_look L 7) (fun x => RR S d 2 45 L (.int x :: st) h Q) := RR.ldi rfl rfl
theorem r2_45 : RR S d 2 45 L st h Q = kA (ai_look L 1) (fun x => RR S d 2 46 L (x :: st) h Q) := RR.lda_n rfl rfl rfl
theorem r2_46 {a : Nat} : RR S d 2 46 L (.ref a :: st) h Q = kO (ai_fld h a 6 0) (fun w => RR S d 2 49 L (w :: st) h Q) := RR.get rfl rfl rfl
theorem r2_49 {p0 : Int32} {p1 : Int32} {a : Nat} : RR S (d + 1) 2 49 L (.int p1 :: .int p0 :: .ref a :: st) h Q = kB (decide (ai_sum st ≤ 8)) (kB ((ai_obj h a 2).isSome) (RR S d 20 0 [(0, .ref a), (1, .int p0), (2, .int p1)] [] h (fun r h1 => RR S (d + 1) 2 52 L (r.toList ++ st) h1 Q))) := RR.cv (j := 52) (mn' := 20) (n := 2) rfl rfl rfl rfl rfl rfl
theorem r2_52 : RR S d 2 52 L st h Q = kA (ai_look L 1) (fun x => RR S d 2 53 L (x :: st) h Q) := RR.lda_n rfl rfl rfl
theorem r2_53 {a : Nat} : RR S d 2 53 L (.ref a :: st) h Q = kO (ai_fld h a 6 1) (fun w => RR S d 2 56 L (w :: st) h Q) := RR.get rfl rfl rfl
theorem r2_56 {p0 : Int32} {p1 : Int32} {p2 : Int32} {a : Nat} : RR S (d + 1) 2 56 L (.int p2 :: .int p1 :: .int p0 :: .ref a :: st) h Q = kB (decide (ai_sum st ≤ 8)) (kB ((ai_obj h a 5).isSome) (RR S d 57 0 [(0, .ref a), (1, .int p0), (2, .int p1), (3, .int p2)] [] h (fun r h1 => RR S (d + 1) 2 59 L (r.toList ++ st) h1 Q))) := RR.cv (j := 58) (mn' := 57) (n := 3) rfl rfl rfl rfl rfl rfl
theorem r2_59 : RR S d 2 59 L st h Q = kI (ai_look L 4) (fun x => RR S d 2 61 L (.int x :: st) h Q) := RR.ldi rfl rfl
theorem r2_61 {x : Int32} : RR S d 2 61 L (.int x :: st) h Q = if x = 0 then RR S d 2 81 L st h Q else RR S d 2 64 L st h Q := RR.b1 (c := .eq) (off := 20) rfl rfl (by decide) rfl
theorem r2_64 : RR S d 2 64 L st h Q = kA (ai_look L 0) (fun x => RR S d 2 65 L (x :: st) h Q) := RR.lda_n rfl rfl rfl
theorem r2_65 {a : Nat} : RR S d 2 65 L (.ref a :: st) h Q = kO (ai_fld h a 0 1) (fun w => RR S d 2 68 L (w :: st) h Q) := RR.get rfl rfl rfl
theorem r2_68 : RR S d 2 68 L st h Q = kI (ai_look L 7) (fun x => RR S d 2 70 L (.int x :: st) h Q) := RR.ldi rfl rfl
theorem r2_70 {x : Int32} {a : Nat} : RR S d 2 70 L (.int x :: .ref a :: st) h Q = kO (ai_arq h a) (fun q => kB (ai_in x q.2.1 && (decide (2 ≤ q.1) && decide (q.1 < 5))) (RR S d 2 71 L (va_rf (q.2.2 x.toNatClampNeg) :: st) h Q)) := RR.aal rfl rfl
theorem r2_71 : RR S d 2 71 L st h Q = kA (ai_look L 0) (fun x => RR S d 2 72 L (x :: st) h Q) := RR.lda_n rfl rfl rfl
theorem r2_72 {a : Nat} : RR S d 2 72 L (.ref a :: st) h Q = kO (ai_fld h a 0 2) (fun w => RR S d 2 75 L (w :: st) h Q) := RR.get rfl rfl rfl
theorem r2_75 {p0 : Nat} {a : Nat} : RR S (d + 1) 2 75 L (.ref p0 :: .ref a :: st) h Q = kB (decide (ai_sum st ≤ 8)) (kB ((ai_obj h a 5).isSome) (RR S d 54 0 [(0, .ref a), (1, .ref p0)] [] h (fun r h1 => RR S (d + 1) 2 78 L (r.toList ++ st) h1 Q))) := RR.cv (j := 62) (mn' := 54) (n := 1) rfl rfl rfl rfl rfl rfl
theorem r2_78 : RR S d 2 78 L st h Q = RR S d 2 95 L st h Q := RR.jmp (off := 17) rfl (by decide)
theorem r2_81 : RR S d 2 81 L st h Q = kA (ai_look L 0) (fun x => RR S d 2 82 L (x :: st) h Q) := RR.lda_n rfl rfl rfl
theorem r2_82 {a : Nat} : RR S d 2 82 L (.ref a :: st) h Q = kO (ai_fld h a 0 1) (fun w => RR S d 2 85 L (w :: st) h Q) := RR.get rfl rfl rfl
theorem r2_85 : RR S d 2 85 L st h Q = kI (ai_look L 7) (fun x => RR S d 2 87 L (.int x :: st) h Q) := RR.ldi rfl rfl
theorem r2_87 {x : Int32} {a : Nat} : RR S d 2 87 L (.int x :: .ref a :: st) h Q = kO (ai_arq h a) (fun q => kB (ai_in x q.2.1 && (decide (2 ≤ q.1) && decide (q.1 < 5))) (RR S d 2 88 L (va_rf (q.2.2 x.toNatClampNeg) :: st) h Q)) := RR.aal rfl rfl
theorem r2_88 : RR S d 2 88 L st h Q = kA (ai_look L 0) (fun x => RR S d 2 89 L (x :: st) h Q) := RR.lda_n rfl rfl rfl
theorem r2_89 {a : Nat} : RR S d 2 89 L (.ref a :: st) h Q = kO (ai_fld h a 0 2) (fun w => RR S d 2 92 L (w :: st) h Q) := RR.get rfl rfl rfl
theorem r2_92 {p0 : Nat} {a : Nat} : RR S (d + 1) 2 92 L (.ref p0 :: .ref a :: st) h Q = kB (decide (ai_sum st ≤ 8)) (kB ((ai_obj h a 5).isSome) (RR S d 55 0 [(0, .ref a), (1, .ref p0)] [] h (fun r h1 => RR S (d + 1) 2 95 L (r.toList ++ st) h1 Q))) := RR.cv (j := 66) (mn' := 55) (n := 1) rfl rfl rfl rfl rfl rfl
theorem r2_95 : RR S d 2 95 L st h Q = kI (ai_look L 5) (fun x => RR S d 2 97 L (.int x :: st) h Q) := RR.ldi rfl rfl
theorem r2_97 : RR S d 2 97 L st h Q = kA (ai_look L 0) (fun x => RR S d 2 98 L (x :: st) h Q) := RR.lda_n rfl rfl rfl
theorem r2_98 {a : Nat} : RR S d 2 98 L (.ref a :: st) h Q = kO (ai_fld h a 0 0) (fun w => RR S d 2 101 L (w :: st) h Q) := RR.get rfl rfl rfl
theorem r2_101 : RR S d 2 101 L st h Q = kI (ai_look L 7) (fun x => RR S d 2 103 L (.int x :: st) h Q) := RR.ldi rfl rfl
theorem r2_103 : RR S d 2 103 L st h Q = kA (ai_look L 1) (fun x => RR S d 2 104 L (x :: st) h Q) := RR.lda_n rfl rfl rfl
theorem r2_104 {a : Nat} : RR S d 2 104 L (.ref a :: st) h Q = kO (ai_fld h a 6 0) (fun w => RR S d 2 107 L (w :: st) h Q) := RR.get rfl rfl rfl
theorem r2_107 {p0 : Int32} {p1 : Int32} {a : Nat} : RR S (d + 1) 2 107 L (.int p1 :: .int p0 :: .ref a :: st) h Q = kB (decide (ai_sum st ≤ 8)) (kB ((ai_obj h a 2).isSome) (RR S d 21 0 [(0, .ref a), (1, .int p0), (2, .int p1)] [] h (fun r h1 => RR S (d + 1) 2 110 L (r.toList ++ st) h1 Q))) := RR.cv (j := 69) (mn' := 21) (n := 2) rfl rfl rfl rfl rfl rfl
theorem r2_110 : RR S d 2 110 L st h Q = kA (ai_look L 0) (fun x => RR S d 2 111 L (x :: st) h Q) := RR.lda_n rfl rfl rfl
theorem r2_111 {a : Nat} : RR S d 2 111 L (.ref a :: st) h Q = kO (ai_fld h a 0 0) (fun w => RR S d 2 114 L (w :: st) h Q) := RR.get rfl rfl rfl
theorem r2_114 : RR S d 2 114 L st h Q = kI (ai_look L 7) (fun x => RR S d 2 116 L (.int x :: st) h Q) := RR.ldi rfl rfl
theorem r2_116 {p0 : Int32} {a : Nat} : RR S (d + 1) 2 116 L (.int p0 :: .ref a :: st) h Q = kB (decide (ai_sum st ≤ 8)) (kB ((ai_obj h a 2).isSome) (RR S d 23 0 [(0, .ref a), (1, .int p0)] [] h (fun r h1 => RR S (d + 1) 2 119 L (r.toList ++ st) h1 Q))) := RR.cv (j := 72) (mn' := 23) (n := 1) rfl rfl rfl rfl rfl rfl
theorem r2_119 {x y : Int32} : RR S d 2 119 L (.int y :: .int x :: st) h Q = RR S d 2 120 L (.int (x + y) :: st) h Q := RR.do1 (120, L, .int (x + y) :: st, h) rfl rfl rfl
theorem r2_120 {x y : Int32} : RR S d 2 120 L (.int y :: .int x :: st) h Q = RR S d 2 121 L (.int (x + y) :: st) h Q := RR.do1 (121, L, .int (x + y) :: st, h) rfl rfl rfl
theorem r2_121 {x : Int32} : RR S d 2 121 L (.int x :: st) h Q = RR S d 2 123 (ai_put 5 (.int x) L) st h Q := RR.do1 (123, ai_put 5 (.int x) L, st, h) rfl rfl rfl
theorem r2_123 : RR S d 2 123 L st h Q = kI (ai_look L 6) (fun x => RR S d 2 126 (ai_put 6 (.int (x + 1)) L) st h Q) := RR.iinc (k := 6) (n := 1) rfl (by decide) (by decide) rfl
theorem r2_126 : RR S d 2 126 L st h Q = RR S d 2 6 L st h Q := RR.jmp (off := (-120)) rfl (by decide)
theorem r2_129 : RR S d 2 129 L [] h Q = Q none h := RR.rt rfl rfl rfl
theorem r3_0 : RR S d 3 0 L st h Q = kA (ai_look L 1) (fun x => RR S d 3 1 L (x :: st) h Q) := RR.lda_n rfl rfl rfl
theorem r3_1 {a : Nat} : RR S (d + 1) 3 1 L (.ref a :: st) h Q = kB (decide (ai_sum st ≤ 8)) (kB ((ai_obj h a 5).isSome) (RR S d 51 0 [(0, .ref a)] [] h (fun r h1 => RR S (d + 1) 3 4 L (r.toList ++ st) h1 Q))) := RR.cv (j := 31) (mn' := 51) (n := 0) rfl rfl rfl rfl rfl rfl
theorem r3_4 : RR S d 3 4 L st h Q = kA (ai_look L 0) (fun x => RR S d 3 5 L (x :: st) h Q) := RR.lda_n rfl rfl rfl
theorem r3_5 {a : Nat} : RR S d 3 5 L (.ref a :: st) h Q = kO (ai_fld h a 0 3) (fun w => RR S d 3 8 L (w :: st) h Q) := RR.get rfl rfl rfl
theorem r3_8 {a : Nat} : RR S (d + 1) 3 8 L (.ref a :: st) h Q = kB (decide (ai_sum st ≤ 8)) (kB ((ai_obj h a 5).isSome) (RR S d 51 0 [(0, .ref a)] [] h (fun r h1 => RR S (d + 1) 3 11 L (r.toList ++ st) h1 Q))) := RR.cv (j := 31) (mn' := 51) (n := 0) rfl rfl rfl rfl rfl rfl
theorem r3_11 : RR S d 3 11 L st h Q = RR S d 3 12 L (.int 0 :: st) h Q := RR.icn (n := 0) rfl (by decide) rfl
theorem r3_12 {x : Int32} : RR S d 3 12 L (.int x :: st) h Q = RR S d 3 14 (ai_put 4 (.int x) L) st h Q := RR.do1 (14, ai_put 4 (.int x) L, st, h) rfl rfl rfl
theorem r3_14 : RR S d 3 14 L st h Q = RR S d 3 15 L (.int 0 :: st) h Q := RR.icn (n := 0) rfl (by decide) rfl
theorem r3_15 {x : Int32} : RR S d 3 15 L (.int x :: st) h Q = RR S d 3 17 (ai_put 5 (.int x) L) st h Q := RR.do1 (17, ai_put 5 (.int x) L, st, h) rfl rfl rfl
theorem r3_17 : RR S d 3 17 L st h Q = kI (ai_look L 5) (fun x => RR S d 3 19 L (.int x :: st) h Q) := RR.ldi rfl rfl
theorem r3_19 : RR S d 3 19 L st h Q = RR S d 3 20 L (.int 4 :: st) h Q := RR.icn (n := 4) rfl (by decide) rfl
theorem r3_20 {x y : Int32} : RR S d 3 20 L (.int y :: .int x :: st) h Q = if y ≤ x then RR S d 3 145 L st h Q else RR S d 3 23 L st h Q := RR.b2 (c := .ge) (off := 125) rfl rfl (by decide) rfl
theorem r3_23 : RR S d 3 23 L st h Q = kI (ai_look L 3) (fun x => RR S d 3 24 L (.int x :: st) h Q) := RR.ldi_n rfl rfl rfl
theorem r3_24 : RR S d 3 24 L st h Q = kI (ai_look L 5) (fun x => RR S d 3 26 L (.int x :: st) h Q) := RR.ldi rfl rfl
theorem r3_26 {p0 : Int32} {p1 : Int32} : RR S (d + 1) 3 26 L (.int p1 :: .int p0 :: st) h Q = kB (decide (ai_sum st ≤ 8)) (RR S d 73 0 [(0, .int p0), (1, .int p1)] [] h (fun r h1 => RR S (d + 1) 3 29 L (r.toList ++ st) h1 Q)) := RR.cs (j := 34) (mn' := 73) (n := 2) rfl rfl rfl rfl (by simp) rfl rfl
theorem r3_29 {x : Int32} : RR S d 3 29 L (.int x :: st) h Q = RR S d 3 31 (ai_put 6 (.int x) L) st h Q := RR.do1 (31, ai_put 6 (.int x) L, st, h) rfl rfl rfl
theorem r3_31 : RR S d 3 31 L st h Q = kA (ai_look L 0) (fun x => RR S d 3 32 L (x :: st) h Q) := RR.lda_n rfl rfl rfl
theorem r3_32 {a : Nat} : RR S d 3 32 L (.ref a :: st) h Q = kO (ai_fld h a 0 0) (fun w => RR S d 3 35 L (w :: st) h Q) := RR.get rfl rfl rfl
theorem r3_35 : RR S d 3 35 L st h Q = kI (ai_look L 6) (fun x => RR S d 3 37 L (.int x :: st) h Q) := RR.ldi rfl rfl
theorem r3_37 {p0 : Int32} {a : Nat} : RR S (d + 1) 3 37 L (.int p0 :: .ref a :: st) h Q = kB (decide (ai_sum st ≤ 8)) (kB ((ai_obj h a 2).isSome) (RR S d 15 0 [(0, .ref a), (1, .int p0)] [] h (fun r h1 => RR S (d + 1) 3 40 L (r.toList ++ st) h1 Q))) := RR.cv (j := 40) (mn' := 15) (n := 1) rfl rfl rfl rfl rfl rfl
theorem r3_40 {x : Int32} : RR S d 3 40 L (.int x :: st) h Q = if ¬ x = 0 then RR S d 3 46 L st h Q else RR S d 3 43 L st h Q := RR.b1 (c := .ne) (off := 6) rfl rfl (by decide) rfl
theorem r3_43 : RR S d 3 43 L st h Q = RR S d 3 145 L st h Q := RR.jmp (off := 102) rfl (by decide)
theorem r3_46 : RR S d 3 46 L st h Q = kA (ai_look L 0) (fun x => RR S d 3 47 L (x :: st) h Q) := RR.lda_n rfl rfl rfl
theorem r3_47 {a : Nat} : RR S d 3 47 L (.ref a :: st) h Q = kO (ai_fld h a 0 0) (fun w => RR S d 3 50 L (w :: st) h Q) := RR.get rfl rfl rfl
theorem r3_50 : RR S d 3 50 L st h Q = kI (ai_look L 6) (fun x => RR S d 3 52 L (.int x :: st) h Q) := RR.ldi rfl rfl
theorem r3_52 : RR S d 3 52 L st h Q = kA (ai_look L 2) (fun x => RR S d 3 53 L (x :: st) h Q) := RR.lda_n rfl rfl rfl
theorem r3_53 {a : Nat} : RR S d 3 53 L (.ref a :: st) h Q = kO (ai_fld h a 6 0) (fun w => RR S d 3 56 L (w :: st) h Q) := RR.get rfl rfl rfl
theorem r3_56 {p0 : Int32} {p1 : Int32} {a : Nat} : RR S (d + 1) 3 56 L (.int p1 :: .int p0 :: .ref a :: st) h Q = kB (decide (ai_sum st ≤ 8)) (kB ((ai_obj h a 2).isSome) (RR S d 20 0 [(0, .ref a), (1, .int p0), (2, .int p1)] [] h (fun r h1 => RR S (d + 1) 3 59 L (r.toList ++ st) h1 Q))) := RR.cv (j := 52) (mn' := 20) (n := 2) rfl rfl rfl rfl rfl rfl
theorem r3_59 {x : Int32} : RR S d 3 59 L (.int x :: st) h Q = RR S d 3 61 (ai_put 7 (.int x) L) st h Q := RR.do1 (61, ai_put 7 (.int x) L, st, h) rfl rfl rfl
theorem r3_61 : RR S d 3 61 L st h Q = kI (ai_look L 7) (fun x => RR S d 3 63 L (.int x :: st) h Q) := RR.ldi rfl rfl
theorem r3_63 : RR S d 3 63 L st h Q = kA (ai_look L 2) (fun x => RR S d 3 64 L (x :: st) h Q) := RR.lda_n rfl rfl rfl
theorem r3_64 {a : Nat} : RR S d 3 64 L (.ref a :: st) h Q = kO (ai_fld h a 6 1) (fun w => RR S d 3 67 L (w :: st) h Q) := RR.get rfl rfl rfl
theorem r3_67 {x y : Int32} : RR S d 3 67 L (.int y :: .int x :: st) h Q = if x ≤ y then RR S d 3 75 L st h Q else RR S d 3 70 L st h Q := RR.b2 (c := .le) (off := 8) rfl rfl (by decide) rfl
theorem r3_70 : RR S d 3 70 L st h Q = kA (ai_look L 1) (fun x => RR S d 3 71 L (x :: st) h Q) := RR.lda_n rfl rfl rfl
theorem r3_71 {a : Nat} : RR S (d + 1) 3 71 L (.ref a :: st) h Q = kB (decide (ai_sum st ≤ 8)) (kB ((ai_obj h a 5).isSome) (RR S d 52 0 [(0, .ref a)] [] h (fun r h1 => RR S (d + 1) 3 74 L (r.toList ++ st) h1 Q))) := RR.cv (j := 76) (mn' := 52) (n := 0) rfl rfl rfl rfl rfl rfl
theorem r3_74 : RR S d 3 74 L [] h Q = Q none h := RR.rt rfl rfl rfl
theorem r3_75 : RR S d 3 75 L st h Q = RR S d 3 76 L (.int 0 :: st) h Q := RR.icn (n := 0) rfl (by decide) rfl
theorem r3_76 {x : Int32} : RR S d 3 76 L (.int x :: st) h Q = RR S d 3 78 (ai_put 8 (.int x) L) st h Q := RR.do1 (78, ai_put 8 (.int x) L, st, h) rfl rfl rfl
theorem r3_78 : RR S d 3 78 L st h Q = kI (ai_look L 8) (fun x => RR S d 3 80 L (.int x :: st) h Q) := RR.ldi rfl rfl
theorem r3_80 : RR S d 3 80 L st h Q = kI (ai_look L 7) (fun x => RR S d 3 82 L (.int x :: st) h Q) := RR.ldi rfl rfl
theorem r3_82 {x y : Int32} : RR S d 3 82 L (.int y :: .int x :: st) h Q = if y ≤ x then RR S d 3 111 L st h Q else RR S d 3 85 L st h Q := RR.b2 (c := .ge) (off := 29) rfl rfl (by decide) rfl
theorem r3_85 : RR S d 3 85 L st h Q = kA (ai_look L 0) (fun x => RR S d 3 86 L (x :: st) h Q) := RR.lda_n rfl rfl rfl
theorem r3_86 {a : Nat} : RR S d 3 86 L (.ref a :: st) h Q = kO (ai_fld h a 0 3) (fun w => RR S d 3 89 L (w :: st) h Q) := RR.get rfl rfl rfl
theorem r3_89 : RR S d 3 89 L st h Q = kA (ai_look L 0) (fun x => RR S d 3 90 L (x :: st) h Q) := RR.lda_n rfl rfl rfl
theorem r3_90 {a : Nat} : RR S d 3 90 L (.ref a :: st) h Q = kO (ai_fld h a 0 1) (fun w => RR S d 3 93 L (w :: st) h Q) := RR.get rfl rfl rfl
theorem r3_93 : RR S d 3 93 L st h Q = kI (ai_look L 6) (fun x => RR S d 3 95 L (.int x :: st) h Q) := RR.ldi rfl rfl
theorem r3_95 {x : Int32} {a : Nat} : RR S d 3 95 L (.int x :: .ref a :: st) h Q = kO (ai_arq h a) (fun q => kB (ai_in x q.2.1 && (decide (2 ≤ q.1) && decide (q.1 < 5))) (RR S d 3 96 L (va_rf (q.2.2 x.toNatClampNeg) :: st) h Q)) := RR.aal rfl rfl
theorem r3_96 : RR S d 3 96 L st h Q = kI (ai_look L 4) (fun x => RR S d 3 98 L (.int x :: st) h Q) := RR.ldi rfl rfl
theorem r3_98 : RR S d 3 98 L st h Q = kI (ai_look L 8) (fun x => RR S d 3 100 L (.int x :: st) h Q) := RR.ldi rfl rfl
theorem r3_100 {x y : Int32} : RR S d 3 100 L (.int y :: .int x :: st) h Q = RR S d 3 101 L (.int (x + y) :: st) h Q := RR.do1 (101, L, .int (x + y) :: st, h) rfl rfl rfl
theorem r3_101 {x : Int32} : RR S d 3 101 L (.int x :: st) h Q = RR S d 3 102 L (.int (-x) :: st) h Q := RR.do1 (102, L, .int (-x) :: st, h) rfl rfl rfl
theorem r3_102 {p0 : Nat} {p1 : Int32} {a : Nat} : RR S (d + 1) 3 102 L (.int p1 :: .ref p0 :: .ref a :: st) h Q = kB (decide (ai_sum st ≤ 8)) (kB ((ai_obj h a 5).isSome) (RR S d 56 0 [(0, .ref a), (1, .ref p0), (2, .int p1)] [] h (fun r h1 => RR S (d + 1) 3 105 L (r.toList ++ st) h1 Q))) := RR.cv (j := 79) (mn' := 56) (n := 2) rfl rfl rfl rfl rfl rfl
theorem r3_105 : RR S d 3 105 L st h Q = kI (ai_look L 8) (fun x => RR S d 3 108 (ai_put 8 (.int (x + 1)) L) st h Q) := RR.iinc (k := 8) (n := 1) rfl (by decide) (by decide) rfl
theorem r3_108 : RR S d 3 108 L st h Q = RR S d 3 78 L st h Q := RR.jmp (off := (-30)) rfl (by decide)
theorem r3_111 : RR S d 3 111 L st h Q = kI (ai_look L 4) (fun x => RR S d 3 113 L (.int x :: st) h Q) := RR.ldi rfl rfl
theorem r3_113 : RR S d 3 113 L st h Q = kA (ai_look L 0) (fun x => RR S d 3 114 L (x :: st) h Q) := RR.lda_n rfl rfl rfl
theorem r3_114 {a : Nat} : RR S d 3 114 L (.ref a :: st) h Q = kO (ai_fld h a 0 0) (fun w => RR S d 3 117 L (w :: st) h Q) := RR.get rfl rfl rfl
theorem r3_117 : RR S d 3 117 L st h Q = kI (ai_look L 6) (fun x => RR S d 3 119 L (.int x :: st) h Q) := RR.ldi rfl rfl
theorem r3_119 : RR S d 3 119 L st h Q = kA (ai_look L 2) (fun x => RR S d 3 120 L (x :: st) h Q) := RR.lda_n rfl rfl rfl
theorem r3_120 {a : Nat} : RR S d 3 120 L (.ref a :: st) h Q = kO (ai_fld h a 6 0) (fun w => RR S d 3 123 L (w :: st) h Q) := RR.get rfl rfl rfl
theorem r3_123 {p0 : Int32} {p1 : Int32} {a : Nat} : RR S (d + 1) 3 123 L (.int p1 :: .int p0 :: .ref a :: st) h Q = kB (decide (ai_sum st ≤ 8)) (kB ((ai_obj h a 2).isSome) (RR S d 21 0 [(0, .ref a), (1, .int p0), (2, .int p1)] [] h (fun r h1 => RR S (d + 1) 3 126 L (r.toList ++ st) h1 Q))) := RR.cv (j := 69) (mn' := 21) (n := 2) rfl rfl rfl rfl rfl rfl
theorem r3_126 : RR S d 3 126 L st h Q = kA (ai_look L 0) (fun x => RR S d 3 127 L (x :: st) h Q) := RR.lda_n rfl rfl rfl
theorem r3_127 {a : Nat} : RR S d 3 127 L (.ref a :: st) h Q = kO (ai_fld h a 0 0) (fun w => RR S d 3 130 L (w :: st) h Q) := RR.get rfl rfl rfl
theorem r3_130 : RR S d 3 130 L st h Q = kI (ai_look L 6) (fun x => RR S d 3 132 L (.int x :: st) h Q) := RR.ldi rfl rfl
theorem r3_132 {p0 : Int32} {a : Nat} : RR S (d + 1) 3 132 L (.int p0 :: .ref a :: st) h Q = kB (decide (ai_sum st ≤ 8)) (kB ((ai_obj h a 2).isSome) (RR S d 23 0 [(0, .ref a), (1, .int p0)] [] h (fun r h1 => RR S (d + 1) 3 135 L (r.toList ++ st) h1 Q))) := RR.cv (j := 72) (mn' := 23) (n := 1) rfl rfl rfl rfl rfl rfl
theorem r3_135 {x y : Int32} : RR S d 3 135 L (.int y :: .int x :: st) h Q = RR S d 3 136 L (.int (x + y) :: st) h Q := RR.do1 (136, L, .int (x + y) :: st, h) rfl rfl rfl
theorem r3_136 {x y : Int32} : RR S d 3 136 L (.int y :: .int x :: st) h Q = RR S d 3 137 L (.int (x + y) :: st) h Q := RR.do1 (137, L, .int (x + y) :: st, h) rfl rfl rfl
theorem r3_137 {x : Int32} : RR S d 3 137 L (.int x :: st) h Q = RR S d 3 139 (ai_put 4 (.int x) L) st h Q := RR.do1 (139, ai_put 4 (.int x) L, st, h) rfl rfl rfl
theorem r3_139 : RR S d 3 139 L st h Q = kI (ai_look L 5) (fun x => RR S d 3 142 (ai_put 5 (.int (x + 1)) L) st h Q) := RR.iinc (k := 5) (n := 1) rfl (by decide) (by decide) rfl
theorem r3_142 : RR S d 3 142 L st h Q = RR S d 3 17 L st h Q := RR.jmp (off := (-125)) rfl (by decide)
theorem r3_145 : RR S d 3 145 L st h Q = RR S d 3 146 L (.int 0 :: st) h Q := RR.icn (n := 0) rfl (by decide) rfl
theorem r3_146 {x : Int32} : RR S d 3 146 L (.int x :: st) h Q = RR S d 3 148 (ai_put 5 (.int x) L) st h Q := RR.do1 (148, ai_put 5 (.int x) L, st, h) rfl rfl rfl
theorem r3_148 : RR S d 3 148 L st h Q = kI (ai_look L 5) (fun x => RR S d 3 150 L (.int x :: st) h Q) := RR.ldi rfl rfl
theorem r3_150 : RR S d 3 150 L st h Q = kA (ai_look L 0) (fun x => RR S d 3 151 L (x :: st) h Q) := RR.lda_n rfl rfl rfl
theorem r3_151 {a : Nat} : RR S d 3 151 L (.ref a :: st) h Q = kO (ai_fld h a 0 3) (fun w => RR S d 3 154 L (w :: st) h Q) := RR.get rfl rfl rfl
theorem r3_154 : RR S d 3 154 L st h Q = kA (ai_look L 2) (fun x => RR S d 3 155 L (x :: st) h Q) := RR.lda_n rfl rfl rfl
theorem r3_155 {a : Nat} : RR S d 3 155 L (.ref a :: st) h Q = kO (ai_fld h a 6 1) (fun w => RR S d 3 158 L (w :: st) h Q) := RR.get rfl rfl rfl
theorem r3_158 {p0 : Int32} {a : Nat} : RR S (d + 1) 3 158 L (.int p0 :: .ref a :: st) h Q = kB (decide (ai_sum st ≤ 8)) (kB ((ai_obj h a 5).isSome) (RR S d 58 0 [(0, .ref a), (1, .int p0)] [] h (fun r h1 => RR S (d + 1) 3 161 L (r.toList ++ st) h1 Q))) := RR.cv (j := 83) (mn' := 58) (n := 1) rfl rfl rfl rfl rfl rfl
theorem r3_161 {x y : Int32} : RR S d 3 161 L (.int y :: .int x :: st) h Q = if y ≤ x then RR S d 3 185 L st h Q else RR S d 3 164 L st h Q := RR.b2 (c := .ge) (off := 24) rfl rfl (by decide) rfl
theorem r3_164 : RR S d 3 164 L st h Q = kA (ai_look L 1) (fun x => RR S d 3 165 L (x :: st) h Q) := RR.lda_n rfl rfl rfl
theorem r3_165 : RR S d 3 165 L st h Q = kA (ai_look L 0) (fun x => RR S d 3 166 L (x :: st) h Q) := RR.lda_n rfl rfl rfl
theorem r3_166 {a : Nat} : RR S d 3 166 L (.ref a :: st) h Q = kO (ai_fld h a 0 3) (fun w => RR S d 3 169 L (w :: st) h Q) := RR.get rfl rfl rfl
theorem r3_169 : RR S d 3 169 L st h Q = kI (ai_look L 5) (fun x => RR S d 3 171 L (.int x :: st) h Q) := RR.ldi rfl rfl
theorem r3_171 : RR S d 3 171 L st h Q = kA (ai_look L 2) (fun x => RR S d 3 172 L (x :: st) h Q) := RR.lda_n rfl rfl rfl
theorem r3_172 {a : Nat} : RR S d 3 172 L (.ref a :: st) h Q = kO (ai_fld h a 6 1) (fun w => RR S d 3 175 L (w :: st) h Q) := RR.get rfl rfl rfl
theorem r3_175 {x y : Int32} : RR S d 3 175 L (.int y :: .int x :: st) h Q = RR S d 3 176 L (.int (x * y) :: st) h Q := RR.do1 (176, L, .int (x * y) :: st, h) rfl rfl rfl
theorem r3_176 {p0 : Nat} {p1 : Int32} {a : Nat} : RR S (d + 1) 3 176 L (.int p1 :: .ref p0 :: .ref a :: st) h Q = kB (decide (ai_sum st ≤ 8)) (kB ((ai_obj h a 5).isSome) (RR S d 56 0 [(0, .ref a), (1, .ref p0), (2, .int p1)] [] h (fun r h1 => RR S (d + 1) 3 179 L (r.toList ++ st) h1 Q))) := RR.cv (j := 79) (mn' := 56) (n := 2) rfl rfl rfl rfl rfl rfl
theorem r3_179 : RR S d 3 179 L st h Q = kI (ai_look L 5) (fun x => RR S d 3 182 (ai_put 5 (.int (x + 1)) L) st h Q) := RR.iinc (k := 5) (n := 1) rfl (by decide) (by decide) rfl
theorem r3_182 : RR S d 3 182 L st h Q = RR S d 3 148 L st h Q := RR.jmp (off := (-34)) rfl (by decide)
theorem r3_185 : RR S d 3 185 L [] h Q = Q none h := RR.rt rfl rfl rfl
theorem r4_0 : RR S d 4 0 L st h Q = kA (ai_look L 0) (fun x => RR S d 4 1 L (x :: st) h Q) := RR.lda_n rfl rfl rfl
theorem r4_1 {a : Nat} : RR S d 4 1 L (.ref a :: st) h Q = kO (ai_fld h a 0 0) (fun w => RR S d 4 4 L (w :: st) h Q) := RR.get rfl rfl rfl
theorem r4_4 : RR S d 4 4 L st h Q = kI (ai_look L 1) (fun x => RR S d 4 5 L (.int x :: st) h Q) := RR.ldi_n rfl rfl rfl
theorem r4_5 {p0 : Int32} {a : Nat} : RR S (d + 1) 4 5 L (.int p0 :: .ref a :: st) h Q = kB (decide (ai_sum st ≤ 8)) (kB ((ai_obj h a 2).isSome) (RR S d 15 0 [(0, .ref a), (1, .int p0)] [] h (fun r h1 => RR S (d + 1) 4 8 L (r.toList ++ st) h1 Q))) := RR.cv (j := 40) (mn' := 15) (n := 1) rfl rfl rfl rfl rfl rfl
theorem r4_8 {x : Int32} : RR S d 4 8 L (.int x :: st) h Q = if ¬ x = 0 then RR S d 4 13 L st h Q else RR S d 4 11 L st h Q := RR.b1 (c := .ne) (off := 5) rfl rfl (by decide) rfl
theorem r4_11 : RR S d 4 11 L st h Q = RR S d 4 12 L (.int (-1) :: st) h Q := RR.icn (n := (-1)) rfl (by decide) rfl
theorem r4_12 {x : Int32} : RR S d 4 12 L [.int x] h Q = Q (some (.int x)) h := RR.rt rfl rfl rfl
theorem r4_13 : RR S d 4 13 L st h Q = RR S d 4 14 L (.int 0 :: st) h Q := RR.icn (n := 0) rfl (by decide) rfl
theorem r4_14 {x : Int32} : RR S d 4 14 L (.int x :: st) h Q = RR S d 4 16 (ai_put 4 (.int x) L) st h Q := RR.do1 (16, ai_put 4 (.int x) L, st, h) rfl rfl rfl
theorem r4_16 : RR S d 4 16 L st h Q = RR S d 4 17 L (.int 0 :: st) h Q := RR.icn (n := 0) rfl (by decide) rfl
theorem r4_17 {x : Int32} : RR S d 4 17 L (.int x :: st) h Q = RR S d 4 19 (ai_put 5 (.int x) L) st h Q := RR.do1 (19, ai_put 5 (.int x) L, st, h) rfl rfl rfl
theorem r4_19 : RR S d 4 19 L st h Q = kI (ai_look L 5) (fun x => RR S d 4 21 L (.int x :: st) h Q) := RR.ldi rfl rfl
theorem r4_21 : RR S d 4 21 L st h Q = kA (ai_look L 0) (fun x => RR S d 4 22 L (x :: st) h Q) := RR.lda_n rfl rfl rfl
theorem r4_22 {a : Nat} : RR S d 4 22 L (.ref a :: st) h Q = kO (ai_fld h a 0 0) (fun w => RR S d 4 25 L (w :: st) h Q) := RR.get rfl rfl rfl
theorem r4_25 {a : Nat} : RR S d 4 25 L (.ref a :: st) h Q = kO (ai_fld h a 2 8) (fun w => RR S d 4 28 L (w :: st) h Q) := RR.get rfl rfl rfl
theorem r4_28 : RR S d 4 28 L st h Q = kI (ai_look L 3) (fun x => RR S d 4 29 L (.int x :: st) h Q) := RR.ldi_n rfl rfl rfl
theorem r4_29 {x y : Int32} : RR S d 4 29 L (.int y :: .int x :: st) h Q = RR S d 4 30 L (.int (x + y) :: st) h Q := RR.do1 (30, L, .int (x + y) :: st, h) rfl rfl rfl
theorem r4_30 {x y : Int32} : RR S d 4 30 L (.int y :: .int x :: st) h Q = if y ≤ x then RR S d 4 86 L st h Q else RR S d 4 33 L st h Q := RR.b2 (c := .ge) (off := 56) rfl rfl (by decide) rfl
theorem r4_33 : RR S d 4 33 L st h Q = kA (ai_look L 0) (fun x => RR S d 4 34 L (x :: st) h Q) := RR.lda_n rfl rfl rfl
theorem r4_34 {a : Nat} : RR S d 4 34 L (.ref a :: st) h Q = kO (ai_fld h a 0 1) (fun w => RR S d 4 37 L (w :: st) h Q) := RR.get rfl rfl rfl
theorem r4_37 : RR S d 4 37 L st h Q = kI (ai_look L 1) (fun x => RR S d 4 38 L (.int x :: st) h Q) := RR.ldi_n rfl rfl rfl
theorem r4_38 {x : Int32} {a : Nat} : RR S d 4 38 L (.int x :: .ref a :: st) h Q = kO (ai_arq h a) (fun q => kB (ai_in x q.2.1 && (decide (2 ≤ q.1) && decide (q.1 < 5))) (RR S d 4 39 L (va_rf (q.2.2 x.toNatClampNeg) :: st) h Q)) := RR.aal rfl rfl
theorem r4_39 : RR S d 4 39 L st h Q = kI (ai_look L 2) (fun x => RR S d 4 40 L (.int x :: st) h Q) := RR.ldi_n rfl rfl rfl
theorem r4_40 : RR S d 4 40 L st h Q = kI (ai_look L 5) (fun x => RR S d 4 42 L (.int x :: st) h Q) := RR.ldi rfl rfl
theorem r4_42 {x y : Int32} : RR S d 4 42 L (.int y :: .int x :: st) h Q = RR S d 4 43 L (.int (x + y) :: st) h Q := RR.do1 (43, L, .int (x + y) :: st, h) rfl rfl rfl
theorem r4_43 : RR S d 4 43 L st h Q = kA (ai_look L 0) (fun x => RR S d 4 44 L (x :: st) h Q) := RR.lda_n rfl rfl rfl
theorem r4_44 {a : Nat} : RR S d 4 44 L (.ref a :: st) h Q = kO (ai_fld h a 0 0) (fun w => RR S d 4 47 L (w :: st) h Q) := RR.get rfl rfl rfl
theorem r4_47 {a : Nat} : RR S d 4 47 L (.ref a :: st) h Q = kO (ai_fld h a 2 8) (fun w => RR S d 4 50 L (w :: st) h Q) := RR.get rfl rfl rfl
theorem r4_50 {x y : Int32} : RR S d 4 50 L (.int y :: .int x :: st) h Q = kB (decide (¬ y = 0)) (RR S d 4 51 L (.int (x - x / y * y) :: st) h Q) := RR.irem rfl rfl
theorem r4_51 {p0 : Int32} {a : Nat} : RR S (d + 1) 4 51 L (.int p0 :: .ref a :: st) h Q = kB (decide (ai_sum st ≤ 8)) (kB ((ai_obj h a 5).isSome) (RR S d 53 0 [(0, .ref a), (1, .int p0)] [] h (fun r h1 => RR S (d + 1) 4 54 L (r.toList ++ st) h1 Q))) := RR.cv (j := 89) (mn' := 53) (n := 1) rfl rfl rfl rfl rfl rfl
theorem r4_54 {x : Int32} : RR S d 4 54 L (.int x :: st) h Q = if x = 0 then RR S d 4 61 L st h Q else RR S d 4 57 L st h Q := RR.b1 (c := .eq) (off := 7) rfl rfl (by decide) rfl
theorem r4_57 : RR S d 4 57 L st h Q = RR S d 4 58 L (.int 0 :: st) h Q := RR.icn (n := 0) rfl (by decide) rfl
theorem r4_58 : RR S d 4 58 L st h Q = RR S d 4 65 L st h Q := RR.jmp (off := 7) rfl (by decide)
theorem r4_61 : RR S d 4 61 L st h Q = kI (ai_look L 4) (fun x => RR S d 4 63 L (.int x :: st) h Q) := RR.ldi rfl rfl
theorem r4_63 : RR S d 4 63 L st h Q = RR S d 4 64 L (.int 1 :: st) h Q := RR.icn (n := 1) rfl (by decide) rfl
theorem r4_64 {x y : Int32} : RR S d 4 64 L (.int y :: .int x :: st) h Q = RR S d 4 65 L (.int (x + y) :: st) h Q := RR.do1 (65, L, .int (x + y) :: st, h) rfl rfl rfl
theorem r4_65 {x : Int32} : RR S d 4 65 L (.int x :: st) h Q = RR S d 4 67 (ai_put 4 (.int x) L) st h Q := RR.do1 (67, ai_put 4 (.int x) L, st, h) rfl rfl rfl
theorem r4_67 : RR S d 4 67 L st h Q = kI (ai_look L 4) (fun x => RR S d 4 69 L (.int x :: st) h Q) := RR.ldi rfl rfl
theorem r4_69 : RR S d 4 69 L st h Q = kI (ai_look L 3) (fun x => RR S d 4 70 L (.int x :: st) h Q) := RR.ldi_n rfl rfl rfl
theorem r4_70 {x y : Int32} : RR S d 4 70 L (.int y :: .int x :: st) h Q = if x < y then RR S d 4 80 L st h Q else RR S d 4 73 L st h Q := RR.b2 (c := .lt) (off := 10) rfl rfl (by decide) rfl
theorem r4_73 : RR S d 4 73 L st h Q = kI (ai_look L 5) (fun x => RR S d 4 75 L (.int x :: st) h Q) := RR.ldi rfl rfl
theorem r4_75 : RR S d 4 75 L st h Q = RR S d 4 76 L (.int 1 :: st) h Q := RR.icn (n := 1) rfl (by decide) rfl
theorem r4_76 {x y : Int32} : RR S d 4 76 L (.int y :: .int x :: st) h Q = RR S d 4 77 L (.int (x + y) :: st) h Q := RR.do1 (77, L, .int (x + y) :: st, h) rfl rfl rfl
theorem r4_77 : RR S d 4 77 L st h Q = kI (ai_look L 3) (fun x => RR S d 4 78 L (.int x :: st) h Q) := RR.ldi_n rfl rfl rfl
theorem r4_78 {x y : Int32} : RR S d 4 78 L (.int y :: .int x :: st) h Q = RR S d 4 79 L (.int (x - y) :: st) h Q := RR.do1 (79, L, .int (x - y) :: st, h) rfl rfl rfl
theorem r4_79 {x : Int32} : RR S d 4 79 L [.int x] h Q = Q (some (.int x)) h := RR.rt rfl rfl rfl
theorem r4_80 : RR S d 4 80 L st h Q = kI (ai_look L 5) (fun x => RR S d 4 83 (ai_put 5 (.int (x + 1)) L) st h Q) := RR.iinc (k := 5) (n := 1) rfl (by decide) (by decide) rfl
theorem r4_83 : RR S d 4 83 L st h Q = RR S d 4 19 L st h Q := RR.jmp (off := (-64)) rfl (by decide)
theorem r4_86 : RR S d 4 86 L st h Q = RR S d 4 87 L (.int (-1) :: st) h Q := RR.icn (n := (-1)) rfl (by decide) rfl
theorem r4_87 {x : Int32} : RR S d 4 87 L [.int x] h Q = Q (some (.int x)) h := RR.rt rfl rfl rfl
theorem r5_0 : RR S d 5 0 L st h Q = kA (ai_look L 0) (fun x => RR S d 5 1 L (x :: st) h Q) := RR.lda_n rfl rfl rfl
theorem r5_1 {a : Nat} : RR S d 5 1 L (.ref a :: st) h Q = kB (decide (ai_sum st ≤ 8)) (RR S d 5 4 L st h Q) := RR.oin (j := 3) rfl rfl rfl
theorem r5_4 : RR S d 5 4 L st h Q = kA (ai_look L 0) (fun x => RR S d 5 5 L (x :: st) h Q) := RR.lda_n rfl rfl rfl
theorem r5_5 : RR S d 5 5 L st h Q = RR S d 5 6 L (.int 4 :: st) h Q := RR.icn (n := 4) rfl (by decide) rfl
theorem r5_6 {n : Int32} : RR S d 5 6 L (.int n :: st) h Q = kB (decide (¬ n < 0) && decide (n.toNatClampNeg ≤ 100000)) (RR S d 5 8 L (.ref h.1.length :: st) (h.1 ++ [.inl (0, n.toNatClampNeg, .inl (fun _ => 0))], h.2 + n.toNatClampNeg) Q) := RR.newa0 rfl rfl
theorem r5_8 {x : Nat} {a : Nat} : RR S d 5 8 L (.ref x :: .ref a :: st) h Q = kO (ai_obj h a 1) (fun fs => kB (decide (4 < fs.length)) (RR S d 5 11 L st (h.1.set a (.inr (1, fs.set 4 (.ref x))), h.2) Q)) := RR.put rfl rfl (ai_okp_r (by decide +kernel)) rfl
theorem r5_11 : RR S d 5 11 L st h Q = kA (ai_look L 0) (fun x => RR S d 5 12 L (x :: st) h Q) := RR.lda_n rfl rfl rfl
theorem r5_12 : RR S d 5 12 L st h Q = RR S d 5 13 L (.int 4 :: st) h Q := RR.icn (n := 4) rfl (by decide) rfl
theorem r5_13 {n : Int32} : RR S d 5 13 L (.int n :: st) h Q = kB (decide (¬ n < 0) && decide (n.toNatClampNeg ≤ 100000)) (RR S d 5 15 L (.ref h.1.length :: st) (h.1 ++ [.inl (0, n.toNatClampNeg, .inl (fun _ => 0))], h.2 + n.toNatClampNeg) Q) := RR.newa0 rfl rfl
theorem r5_15 {x : Nat} {a : Nat} : RR S d 5 15 L (.ref x :: .ref a :: st) h Q = kO (ai_obj h a 1) (fun fs => kB (decide (5 < fs.length)) (RR S d 5 18 L st (h.1.set a (.inr (1, fs.set 5 (.ref x))), h.2) Q)) := RR.put rfl rfl (ai_okp_r (by decide +kernel)) rfl
theorem r5_18 : RR S d 5 18 L st h Q = kA (ai_look L 0) (fun x => RR S d 5 19 L (x :: st) h Q) := RR.lda_n rfl rfl rfl
theorem r5_19 : RR S d 5 19 L st h Q = RR S d 5 20 L (.int 0 :: st) h Q := RR.icn (n := 0) rfl (by decide) rfl
theorem r5_20 {x : Int32} {a : Nat} : RR S d 5 20 L (.int x :: .ref a :: st) h Q = kO (ai_obj h a 1) (fun fs => kB (decide (6 < fs.length)) (RR S d 5 23 L st (h.1.set a (.inr (1, fs.set 6 (.int x))), h.2) Q)) := RR.put rfl rfl (ai_okp_i rfl (by decide +kernel)) rfl
theorem r5_23 : RR S d 5 23 L st h Q = kA (ai_look L 0) (fun x => RR S d 5 24 L (x :: st) h Q) := RR.lda_n rfl rfl rfl
theorem r5_24 : RR S d 5 24 L st h Q = RR S d 5 25 L (.int 0 :: st) h Q := RR.icn (n := 0) rfl (by decide) rfl
theorem r5_25 {x : Int32} {a : Nat} : RR S d 5 25 L (.int x :: .ref a :: st) h Q = kO (ai_obj h a 1) (fun fs => kB (decide (7 < fs.length)) (RR S d 5 28 L st (h.1.set a (.inr (1, fs.set 7 (.int x))), h.2) Q)) := RR.put rfl rfl (ai_okp_i rfl (by decide +kernel)) rfl
theorem r5_28 : RR S d 5 28 L st h Q = kA (ai_look L 0) (fun x => RR S d 5 29 L (x :: st) h Q) := RR.lda_n rfl rfl rfl
theorem r5_29 : RR S d 5 29 L st h Q = RR S d 5 32 L (.int 3000 :: st) h Q := RR.sip (n := 3000) rfl (by decide) rfl
theorem r5_32 {x : Int32} {a : Nat} : RR S d 5 32 L (.int x :: .ref a :: st) h Q = kO (ai_obj h a 1) (fun fs => kB (decide (8 < fs.length)) (RR S d 5 35 L st (h.1.set a (.inr (1, fs.set 8 (.int x))), h.2) Q)) := RR.put rfl rfl (ai_okp_i rfl (by decide +kernel)) rfl
theorem r5_35 : RR S d 5 35 L st h Q = kA (ai_look L 0) (fun x => RR S d 5 36 L (x :: st) h Q) := RR.lda_n rfl rfl rfl
theorem r5_36 : RR S d 5 36 L st h Q = kI (ai_look L 1) (fun x => RR S d 5 37 L (.int x :: st) h Q) := RR.ldi_n rfl rfl rfl
theorem r5_37 {x : Int32} {a : Nat} : RR S d 5 37 L (.int x :: .ref a :: st) h Q = kO (ai_obj h a 1) (fun fs => kB (decide (0 < fs.length)) (RR S d 5 40 L st (h.1.set a (.inr (1, fs.set 0 (.int x))), h.2) Q)) := RR.put rfl rfl (ai_okp_i rfl (by decide +kernel)) rfl
theorem r5_40 : RR S d 5 40 L st h Q = kA (ai_look L 0) (fun x => RR S d 5 41 L (x :: st) h Q) := RR.lda_n rfl rfl rfl
theorem r5_41 : RR S d 5 41 L st h Q = kI (ai_look L 2) (fun x => RR S d 5 42 L (.int x :: st) h Q) := RR.ldi_n rfl rfl rfl
theorem r5_42 {x : Int32} {a : Nat} : RR S d 5 42 L (.int x :: .ref a :: st) h Q = kO (ai_obj h a 1) (fun fs => kB (decide (1 < fs.length)) (RR S d 5 45 L st (h.1.set a (.inr (1, fs.set 1 (.int x))), h.2) Q)) := RR.put rfl rfl (ai_okp_i rfl (by decide +kernel)) rfl
theorem r5_45 : RR S d 5 45 L st h Q = kA (ai_look L 0) (fun x => RR S d 5 46 L (x :: st) h Q) := RR.lda_n rfl rfl rfl
theorem r5_46 : RR S d 5 46 L st h Q = kI (ai_look L 3) (fun x => RR S d 5 47 L (.int x :: st) h Q) := RR.ldi_n rfl rfl rfl
theorem r5_47 {x : Int32} {a : Nat} : RR S d 5 47 L (.int x :: .ref a :: st) h Q = kO (ai_obj h a 1) (fun fs => kB (decide (2 < fs.length)) (RR S d 5 50 L st (h.1.set a (.inr (1, fs.set 2 (.int x))), h.2) Q)) := RR.put rfl rfl (ai_okp_i rfl (by decide +kernel)) rfl
theorem r5_50 : RR S d 5 50 L st h Q = kA (ai_look L 0) (fun x => RR S d 5 51 L (x :: st) h Q) := RR.lda_n rfl rfl rfl
theorem r5_51 : RR S d 5 51 L st h Q = kI (ai_look L 4) (fun x => RR S d 5 53 L (.int x :: st) h Q) := RR.ldi rfl rfl
theorem r5_53 {x : Int32} {a : Nat} : RR S d 5 53 L (.int x :: .ref a :: st) h Q = kO (ai_obj h a 1) (fun fs => kB (decide (3 < fs.length)) (RR S d 5 56 L st (h.1.set a (.inr (1, fs.set 3 (.int x))), h.2) Q)) := RR.put rfl rfl (ai_okp_i rfl (by decide +kernel)) rfl
theorem r5_56 : RR S d 5 56 L [] h Q = Q none h := RR.rt rfl rfl rfl
theorem r6_0 : RR S d 6 0 L st h Q = kA (ai_look L 0) (fun x => RR S d 6 1 L (x :: st) h Q) := RR.lda_n rfl rfl rfl
theorem r6_1 : RR S d 6 1 L st h Q = kI (ai_look L 1) (fun x => RR S d 6 2 L (.int x :: st) h Q) := RR.ldi_n rfl rfl rfl
theorem r6_2 {x : Int32} {a : Nat} : RR S d 6 2 L (.int x :: .ref a :: st) h Q = kO (ai_obj h a 1) (fun fs => kB (decide (6 < fs.length)) (RR S d 6 5 L st (h.1.set a (.inr (1, fs.set 6 (.int x))), h.2) Q)) := RR.put rfl rfl (ai_okp_i rfl (by decide +kernel)) rfl
theorem r6_5 : RR S d 6 5 L st h Q = kA (ai_look L 0) (fun x => RR S d 6 6 L (x :: st) h Q) := RR.lda_n rfl rfl rfl
theorem r6_6 : RR S d 6 6 L st h Q = RR S d 6 7 L (.int 0 :: st) h Q := RR.icn (n := 0) rfl (by decide) rfl
theorem r6_7 {x : Int32} {a : Nat} : RR S d 6 7 L (.int x :: .ref a :: st) h Q = kO (ai_obj h a 1) (fun fs => kB (decide (7 < fs.length)) (RR S d 6 10 L st (h.1.set a (.inr (1, fs.set 7 (.int x))), h.2) Q)) := RR.put rfl rfl (ai_okp_i rfl (by decide +kernel)) rfl
theorem r6_10 : RR S d 6 10 L st h Q = kA (ai_look L 0) (fun x => RR S d 6 11 L (x :: st) h Q) := RR.lda_n rfl rfl rfl
theorem r6_11 : RR S d 6 11 L st h Q = RR S d 6 14 L (.int 3000 :: st) h Q := RR.sip (n := 3000) rfl (by decide) rfl
theorem r6_14 {x : Int32} {a : Nat} : RR S d 6 14 L (.int x :: .ref a :: st) h Q = kO (ai_obj h a 1) (fun fs => kB (decide (8 < fs.length)) (RR S d 6 17 L st (h.1.set a (.inr (1, fs.set 8 (.int x))), h.2) Q)) := RR.put rfl rfl (ai_okp_i rfl (by decide +kernel)) rfl
theorem r6_17 : RR S d 6 17 L st h Q = RR S d 6 18 L (.int 0 :: st) h Q := RR.icn (n := 0) rfl (by decide) rfl
theorem r6_18 {x : Int32} : RR S d 6 18 L (.int x :: st) h Q = RR S d 6 19 (ai_put 2 (.int x) L) st h Q := RR.do1 (19, ai_put 2 (.int x) L, st, h) rfl rfl rfl
theorem r6_19 : RR S d 6 19 L st h Q = kI (ai_look L 2) (fun x => RR S d 6 20 L (.int x :: st) h Q) := RR.ldi_n rfl rfl rfl
theorem r6_20 : RR S d 6 20 L st h Q = RR S d 6 21 L (.int 4 :: st) h Q := RR.icn (n := 4) rfl (by decide) rfl
theorem r6_21 {x y : Int32} : RR S d 6 21 L (.int y :: .int x :: st) h Q = if y ≤ x then RR S d 6 48 L st h Q else RR S d 6 24 L st h Q := RR.b2 (c := .ge) (off := 27) rfl rfl (by decide) rfl
theorem r6_24 : RR S d 6 24 L st h Q = kA (ai_look L 0) (fun x => RR S d 6 25 L (x :: st) h Q) := RR.lda_n rfl rfl rfl
theorem r6_25 {a : Nat} : RR S d 6 25 L (.ref a :: st) h Q = kO (ai_fld h a 1 4) (fun w => RR S d 6 28 L (w :: st) h Q) := RR.get rfl rfl rfl
theorem r6_28 : RR S d 6 28 L st h Q = kI (ai_look L 2) (fun x => RR S d 6 29 L (.int x :: st) h Q) := RR.ldi_n rfl rfl rfl
theorem r6_29 : RR S d 6 29 L st h Q = RR S d 6 32 L (.int 3000 :: st) h Q := RR.sip (n := 3000) rfl (by decide) rfl
theorem r6_32 {x y : Int32} {a : Nat} : RR S d 6 32 L (.int y :: .int x :: .ref a :: st) h Q = kO (ai_arr h a 0) (fun q => kB (ai_in x q.1) (RR S d 6 33 L st (h.1.set a (.inl (0, q.1, .inl (upd q.2 x.toNatClampNeg y))), h.2) Q)) := RR.ias rfl rfl
theorem r6_33 : RR S d 6 33 L st h Q = kA (ai_look L 0) (fun x => RR S d 6 34 L (x :: st) h Q) := RR.lda_n rfl rfl rfl
theorem r6_34 {a : Nat} : RR S d 6 34 L (.ref a :: st) h Q = kO (ai_fld h a 1 5) (fun w => RR S d 6 37 L (w :: st) h Q) := RR.get rfl rfl rfl
theorem r6_37 : RR S d 6 37 L st h Q = kI (ai_look L 2) (fun x => RR S d 6 38 L (.int x :: st) h Q) := RR.ldi_n rfl rfl rfl
theorem r6_38 : RR S d 6 38 L st h Q = RR S d 6 41 L (.int 3000 :: st) h Q := RR.sip (n := 3000) rfl (by decide) rfl
theorem r6_41 {x y : Int32} {a : Nat} : RR S d 6 41 L (.int y :: .int x :: .ref a :: st) h Q = kO (ai_arr h a 0) (fun q => kB (ai_in x q.1) (RR S d 6 42 L st (h.1.set a (.inl (0, q.1, .inl (upd q.2 x.toNatClampNeg y))), h.2) Q)) := RR.ias rfl rfl
theorem r6_42 : RR S d 6 42 L st h Q = kI (ai_look L 2) (fun x => RR S d 6 45 (ai_put 2 (.int (x + 1)) L) st h Q) := RR.iinc (k := 2) (n := 1) rfl (by decide) (by decide) rfl
theorem r6_45 : RR S d 6 45 L st h Q = RR S d 6 19 L st h Q := RR.jmp (off := (-26)) rfl (by decide)
theorem r6_48 : RR S d 6 48 L st h Q = kA (ai_look L 0) (fun x => RR S d 6 49 L (x :: st) h Q) := RR.lda_n rfl rfl rfl
theorem r6_49 {a : Nat} : RR S d 6 49 L (.ref a :: st) h Q = kO (ai_fld h a 1 4) (fun w => RR S d 6 52 L (w :: st) h Q) := RR.get rfl rfl rfl
theorem r6_52 : RR S d 6 52 L st h Q = RR S d 6 53 L (.int 0 :: st) h Q := RR.icn (n := 0) rfl (by decide) rfl
theorem r6_53 : RR S d 6 53 L st h Q = kA (ai_look L 0) (fun x => RR S d 6 54 L (x :: st) h Q) := RR.lda_n rfl rfl rfl
theorem r6_54 {a : Nat} : RR S d 6 54 L (.ref a :: st) h Q = kO (ai_fld h a 1 0) (fun w => RR S d 6 57 L (w :: st) h Q) := RR.get rfl rfl rfl
theorem r6_57 {x y : Int32} {a : Nat} : RR S d 6 57 L (.int y :: .int x :: .ref a :: st) h Q = kO (ai_arr h a 0) (fun q => kB (ai_in x q.1) (RR S d 6 58 L st (h.1.set a (.inl (0, q.1, .inl (upd q.2 x.toNatClampNeg y))), h.2) Q)) := RR.ias rfl rfl
theorem r6_58 : RR S d 6 58 L [] h Q = Q none h := RR.rt rfl rfl rfl
theorem r7_0 : RR S d 7 0 L st h Q = kA (ai_look L 0) (fun x => RR S d 7 1 L (x :: st) h Q) := RR.lda_n rfl rfl rfl
theorem r7_1 {a : Nat} : RR S d 7 1 L (.ref a :: st) h Q = kO (ai_fld h a 1 6) (fun w => RR S d 7 4 L (w :: st) h Q) := RR.get rfl rfl rfl
theorem r7_4 : RR S d 7 4 L st h Q = kA (ai_look L 0) (fun x => RR S d 7 5 L (x :: st) h Q) := RR.lda_n rfl rfl rfl
theorem r7_5 {a : Nat} : RR S d 7 5 L (.ref a :: st) h Q = kO (ai_fld h a 1 7) (fun w => RR S d 7 8 L (w :: st) h Q) := RR.get rfl rfl rfl
theorem r7_8 {p0 : Int32} {p1 : Int32} : RR S (d + 1) 7 8 L (.int p1 :: .int p0 :: st) h Q = kB (decide (ai_sum st ≤ 8)) (RR S d 73 0 [(0, .int p0), (1, .int p1)] [] h (fun r h1 => RR S (d + 1) 7 11 L (r.toList ++ st) h1 Q)) := RR.cs (j := 40) (mn' := 73) (n := 2) rfl rfl rfl rfl (by simp) rfl rfl
theorem r7_11 {x : Int32} : RR S d 7 11 L [.int x] h Q = Q (some (.int x)) h := RR.rt rfl rfl rfl
theorem r8_0 : RR S d 8 0 L st h Q = kA (ai_look L 0) (fun x => RR S d 8 1 L (x :: st) h Q) := RR.lda_n rfl rfl rfl
theorem r8_1 {a : Nat} : RR S d 8 1 L (.ref a :: st) h Q = kO (ai_fld h a 1 7) (fun w => RR S d 8 4 L (w :: st) h Q) := RR.get rfl rfl rfl
theorem r8_4 : RR S d 8 4 L st h Q = RR S d 8 5 L (.int 4 :: st) h Q := RR.icn (n := 4) rfl (by decide) rfl
theorem r8_5 {x y : Int32} : RR S d 8 5 L (.int y :: .int x :: st) h Q = if y ≤ x then RR S d 8 20 L st h Q else RR S d 8 8 L st h Q := RR.b2 (c := .ge) (off := 15) rfl rfl (by decide) rfl
theorem r8_8 : RR S d 8 8 L st h Q = kA (ai_look L 0) (fun x => RR S d 8 9 L (x :: st) h Q) := RR.lda_n rfl rfl rfl
theorem r8_9 {a : Nat} : RR S d 8 9 L (.ref a :: st) h Q = kO (ai_fld h a 1 4) (fun w => RR S d 8 12 L (w :: st) h Q) := RR.get rfl rfl rfl
theorem r8_12 : RR S d 8 12 L st h Q = kA (ai_look L 0) (fun x => RR S d 8 13 L (x :: st) h Q) := RR.lda_n rfl rfl rfl
theorem r8_13 {a : Nat} : RR S d 8 13 L (.ref a :: st) h Q = kO (ai_fld h a 1 7) (fun w => RR S d 8 16 L (w :: st) h Q) := RR.get rfl rfl rfl
theorem r8_16 {x : Int32} {a : Nat} : RR S d 8 16 L (.int x :: .ref a :: st) h Q = kO (ai_arr h a 0) (fun q => kB (ai_in x q.1) (RR S d 8 17 L (.int (q.2 x.toNatClampNeg) :: st) h Q)) := RR.ial rfl rfl
theorem r8_17 : RR S d 8 17 L st h Q = RR S d 8 23 L st h Q := RR.jmp (off := 6) rfl (by decide)
theorem r8_20 : RR S d 8 20 L st h Q = RR S d 8 23 L (.int 3000 :: st) h Q := RR.sip (n := 3000) rfl (by decide) rfl
theorem r8_23 {x : Int32} : RR S d 8 23 L [.int x] h Q = Q (some (.int x)) h := RR.rt rfl rfl rfl
theorem r9_0 : RR S d 9 0 L st h Q = kA (ai_look L 1) (fun x => RR S d 9 1 L (x :: st) h Q) := RR.lda_n rfl rfl rfl
theorem r9_1 {x : Nat} : RR S d 9 1 L (.ref x :: st) h Q = RR S d 9 4 L st h Q := RR.nul (b := false) (off := 14) (tgt := 15) rfl rfl rfl (by decide) rfl rfl
theorem r9_1n : RR S d 9 1 L (.null :: st) h Q = RR S d 9 15 L st h Q := RR.nul (b := true) (off := 14) (tgt := 15) rfl rfl rfl (by decide) rfl rfl
theorem r9_4 : RR S d 9 4 L st h Q = kA (ai_look L 0) (fun x => RR S d 9 5 L (x :: st) h Q) := RR.lda_n rfl rfl rfl
theorem r9_5 {a : Nat} : RR S (d + 1) 9 5 L (.ref a :: st) h Q = kB (decide (ai_sum st ≤ 8)) (kB ((ai_obj h a 1).isSome) (RR S d 8 0 [(0, .ref a)] [] h (fun r h1 => RR S (d + 1) 9 8 L (r.toList ++ st) h1 Q))) := RR.cv (j := 46) (mn' := 8) (n := 0) rfl rfl rfl rfl rfl rfl
theorem r9_8 : RR S d 9 8 L st h Q = kA (ai_look L 1) (fun x => RR S d 9 9 L (x :: st) h Q) := RR.lda_n rfl rfl rfl
theorem r9_9 {a : Nat} : RR S (d + 1) 9 9 L (.ref a :: st) h Q = kB (decide (ai_sum st ≤ 8)) (kB ((ai_obj h a 1).isSome) (RR S d 8 0 [(0, .ref a)] [] h (fun r h1 => RR S (d + 1) 9 12 L (r.toList ++ st) h1 Q))) := RR.cv (j := 46) (mn' := 8) (n := 0) rfl rfl rfl rfl rfl rfl
theorem r9_12 {x y : Int32} : RR S d 9 12 L (.int y :: .int x :: st) h Q = if y ≤ x then RR S d 9 19 L st h Q else RR S d 9 15 L st h Q := RR.b2 (c := .ge) (off := 7) rfl rfl (by decide) rfl
theorem r9_15 : RR S d 9 15 L st h Q = RR S d 9 16 L (.int 1 :: st) h Q := RR.icn (n := 1) rfl (by decide) rfl
theorem r9_16 : RR S d 9 16 L st h Q = RR S d 9 20 L st h Q := RR.jmp (off := 4) rfl (by decide)
theorem r9_19 : RR S d 9 19 L st h Q = RR S d 9 20 L (.int 0 :: st) h Q := RR.icn (n := 0) rfl (by decide) rfl
theorem r9_20f : RR S d 9 20 L [.int 0] h Q = Q (some (.int 0)) h := RR.zrt rfl rfl (by decide)
theorem r9_20t : RR S d 9 20 L [.int 1] h Q = Q (some (.int 1)) h := RR.zrt rfl rfl (by decide)
theorem r10_0 : RR S d 10 0 L st h Q = kA (ai_look L 0) (fun x => RR S d 10 1 L (x :: st) h Q) := RR.lda_n rfl rfl rfl
theorem r10_1 {a : Nat} : RR S d 10 1 L (.ref a :: st) h Q = kO (ai_fld h a 1 6) (fun w => RR S d 10 4 L (w :: st) h Q) := RR.get rfl rfl rfl
theorem r10_4 : RR S d 10 4 L st h Q = kI (ai_look L 1) (fun x => RR S d 10 5 L (.int x :: st) h Q) := RR.ldi_n rfl rfl rfl
theorem r10_5 {p0 : Int32} {p1 : Int32} : RR S (d + 1) 10 5 L (.int p1 :: .int p0 :: st) h Q = kB (decide (ai_sum st ≤ 8)) (RR S d 76 0 [(0, .int p0), (1, .int p1)] [] h (fun r h1 => RR S (d + 1) 10 8 L (r.toList ++ st) h1 Q)) := RR.cs (j := 50) (mn' := 76) (n := 2) rfl rfl rfl rfl (by simp) rfl rfl
theorem r10_8 {x : Int32} : RR S d 10 8 L (.int x :: st) h Q = RR S d 10 9 (ai_put 2 (.int x) L) st h Q := RR.do1 (9, ai_put 2 (.int x) L, st, h) rfl rfl rfl
theorem r10_9 : RR S d 10 9 L st h Q = kI (ai_look L 2) (fun x => RR S d 10 10 L (.int x :: st) h Q) := RR.ldi_n rfl rfl rfl
theorem r10_10 : RR S d 10 10 L st h Q = RR S d 10 11 L (.int (-1) :: st) h Q := RR.icn (n := (-1)) rfl (by decide) rfl
theorem r10_11 {x y : Int32} : RR S d 10 11 L (.int y :: .int x :: st) h Q = if ¬ x = y then RR S d 10 20 L st h Q else RR S d 10 14 L st h Q := RR.b2 (c := .ne) (off := 9) rfl rfl (by decide) rfl
theorem r10_14 : RR S d 10 14 L st h Q = RR S d 10 17 L (.int 3000 :: st) h Q := RR.sip (n := 3000) rfl (by decide) rfl
theorem r10_17 : RR S d 10 17 L st h Q = RR S d 10 26 L st h Q := RR.jmp (off := 9) rfl (by decide)
theorem r10_20 : RR S d 10 20 L st h Q = kA (ai_look L 0) (fun x => RR S d 10 21 L (x :: st) h Q) := RR.lda_n rfl rfl rfl
theorem r10_21 {a : Nat} : RR S d 10 21 L (.ref a :: st) h Q = kO (ai_fld h a 1 4) (fun w => RR S d 10 24 L (w :: st) h Q) := RR.get rfl rfl rfl
theorem r10_24 : RR S d 10 24 L st h Q = kI (ai_look L 2) (fun x => RR S d 10 25 L (.int x :: st) h Q) := RR.ldi_n rfl rfl rfl
theorem r10_25 {x : Int32} {a : Nat} : RR S d 10 25 L (.int x :: .ref a :: st) h Q = kO (ai_arr h a 0) (fun q => kB (ai_in x q.1) (RR S d 10 26 L (.int (q.2 x.toNatClampNeg) :: st) h Q)) := RR.ial rfl rfl
theorem r10_26 {x : Int32} : RR S d 10 26 L [.int x] h Q = Q (some (.int x)) h := RR.rt rfl rfl rfl
theorem r11_0 : RR S d 11 0 L st h Q = kA (ai_look L 0) (fun x => RR S d 11 1 L (x :: st) h Q) := RR.lda_n rfl rfl rfl
theorem r11_1 {a : Nat} : RR S d 11 1 L (.ref a :: st) h Q = kO (ai_fld h a 1 6) (fun w => RR S d 11 4 L (w :: st) h Q) := RR.get rfl rfl rfl
theorem r11_4 : RR S d 11 4 L st h Q = kI (ai_look L 1) (fun x => RR S d 11 5 L (.int x :: st) h Q) := RR.ldi_n rfl rfl rfl
theorem r11_5 {p0 : Int32} {p1 : Int32} : RR S (d + 1) 11 5 L (.int p1 :: .int p0 :: st) h Q = kB (decide (ai_sum st ≤ 8)) (RR S d 76 0 [(0, .int p0), (1, .int p1)] [] h (fun r h1 => RR S (d + 1) 11 8 L (r.toList ++ st) h1 Q)) := RR.cs (j := 50) (mn' := 76) (n := 2) rfl rfl rfl rfl (by simp) rfl rfl
theorem r11_8 {x : Int32} : RR S d 11 8 L (.int x :: st) h Q = RR S d 11 9 (ai_put 3 (.int x) L) st h Q := RR.do1 (9, ai_put 3 (.int x) L, st, h) rfl rfl rfl
theorem r11_9 : RR S d 11 9 L st h Q = kI (ai_look L 3) (fun x => RR S d 11 10 L (.int x :: st) h Q) := RR.ldi_n rfl rfl rfl
theorem r11_10 : RR S d 11 10 L st h Q = RR S d 11 11 L (.int (-1) :: st) h Q := RR.icn (n := (-1)) rfl (by decide) rfl
theorem r11_11 {x y : Int32} : RR S d 11 11 L (.int y :: .int x :: st) h Q = if x = y then RR S d 11 38 L st h Q else RR S d 11 14 L st h Q := RR.b2 (c := .eq) (off := 27) rfl rfl (by decide) rfl
theorem r11_14 : RR S d 11 14 L st h Q = kA (ai_look L 0) (fun x => RR S d 11 15 L (x :: st) h Q) := RR.lda_n rfl rfl rfl
theorem r11_15 {a : Nat} : RR S d 11 15 L (.ref a :: st) h Q = kO (ai_fld h a 1 4) (fun w => RR S d 11 18 L (w :: st) h Q) := RR.get rfl rfl rfl
theorem r11_18 : RR S d 11 18 L st h Q = kI (ai_look L 3) (fun x => RR S d 11 19 L (.int x :: st) h Q) := RR.ldi_n rfl rfl rfl
theorem r11_19 {x : Int32} {a : Nat} : RR S d 11 19 L (.int x :: .ref a :: st) h Q = kO (ai_arr h a 0) (fun q => kB (ai_in x q.1) (RR S d 11 20 L (.int (q.2 x.toNatClampNeg) :: st) h Q)) := RR.ial rfl rfl
theorem r11_20 : RR S d 11 20 L st h Q = kI (ai_look L 2) (fun x => RR S d 11 21 L (.int x :: st) h Q) := RR.ldi_n rfl rfl rfl
theorem r11_21 {x y : Int32} : RR S d 11 21 L (.int y :: .int x :: st) h Q = if y < x then RR S d 11 38 L st h Q else RR S d 11 24 L st h Q := RR.b2 (c := .gt) (off := 17) rfl rfl (by decide) rfl
theorem r11_24 : RR S d 11 24 L st h Q = kI (ai_look L 2) (fun x => RR S d 11 25 L (.int x :: st) h Q) := RR.ldi_n rfl rfl rfl
theorem r11_25 : RR S d 11 25 L st h Q = kA (ai_look L 0) (fun x => RR S d 11 26 L (x :: st) h Q) := RR.lda_n rfl rfl rfl
theorem r11_26 {a : Nat} : RR S d 11 26 L (.ref a :: st) h Q = kO (ai_fld h a 1 5) (fun w => RR S d 11 29 L (w :: st) h Q) := RR.get rfl rfl rfl
theorem r11_29 : RR S d 11 29 L st h Q = kI (ai_look L 3) (fun x => RR S d 11 30 L (.int x :: st) h Q) := RR.ldi_n rfl rfl rfl
theorem r11_30 {x : Int32} {a : Nat} : RR S d 11 30 L (.int x :: .ref a :: st) h Q = kO (ai_arr h a 0) (fun q => kB (ai_in x q.1) (RR S d 11 31 L (.int (q.2 x.toNatClampNeg) :: st) h Q)) := RR.ial rfl rfl
theorem r11_31 {x y : Int32} : RR S d 11 31 L (.int y :: .int x :: st) h Q = if y ≤ x then RR S d 11 38 L st h Q else RR S d 11 34 L st h Q := RR.b2 (c := .ge) (off := 7) rfl rfl (by decide) rfl
theorem r11_34 : RR S d 11 34 L st h Q = RR S d 11 35 L (.int 1 :: st) h Q := RR.icn (n := 1) rfl (by decide) rfl
theorem r11_35 : RR S d 11 35 L st h Q = RR S d 11 39 L st h Q := RR.jmp (off := 4) rfl (by decide)
theorem r11_38 : RR S d 11 38 L st h Q = RR S d 11 39 L (.int 0 :: st) h Q := RR.icn (n := 0) rfl (by decide) rfl
theorem r11_39f : RR S d 11 39 L [.int 0] h Q = Q (some (.int 0)) h := RR.zrt rfl rfl (by decide)
theorem r11_39t : RR S d 11 39 L [.int 1] h Q = Q (some (.int 1)) h := RR.zrt rfl rfl (by decide)
theorem r12_0 : RR S d 12 0 L st h Q = kA (ai_look L 0) (fun x => RR S d 12 1 L (x :: st) h Q) := RR.lda_n rfl rfl rfl
theorem r12_1 {a : Nat} : RR S d 12 1 L (.ref a :: st) h Q = kB (decide (ai_sum st ≤ 8)) (RR S d 12 4 L st h Q) := RR.oin (j := 3) rfl rfl rfl
theorem r12_4 : RR S d 12 4 L st h Q = kA (ai_look L 0) (fun x => RR S d 12 5 L (x :: st) h Q) := RR.lda_n rfl rfl rfl
theorem r12_5 : RR S d 12 5 L st h Q = RR S d 12 7 L (.int 6 :: st) h Q := RR.bip (n := 6) rfl (by decide) rfl
theorem r12_7 {n : Int32} : RR S d 12 7 L (.int n :: st) h Q = kB (decide (¬ n < 0) && decide (n.toNatClampNeg ≤ 100000)) (RR S d 12 9 L (.ref h.1.length :: st) (h.1 ++ [.inl (0, n.toNatClampNeg, .inl (fun _ => 0))], h.2 + n.toNatClampNeg) Q) := RR.newa0 rfl rfl
theorem r12_9 {x : Nat} {a : Nat} : RR S d 12 9 L (.ref x :: .ref a :: st) h Q = kO (ai_obj h a 2) (fun fs => kB (decide (0 < fs.length)) (RR S d 12 12 L st (h.1.set a (.inr (2, fs.set 0 (.ref x))), h.2) Q)) := RR.put rfl rfl (ai_okp_r (by decide +kernel)) rfl
theorem r12_12 : RR S d 12 12 L st h Q = kA (ai_look L 0) (fun x => RR S d 12 13 L (x :: st) h Q) := RR.lda_n rfl rfl rfl
theorem r12_13 : RR S d 12 13 L st h Q = RR S d 12 15 L (.int 6 :: st) h Q := RR.bip (n := 6) rfl (by decide) rfl
theorem r12_15 {n : Int32} : RR S d 12 15 L (.int n :: st) h Q = kB (decide (¬ n < 0) && decide (n.toNatClampNeg ≤ 100000)) (RR S d 12 17 L (.ref h.1.length :: st) (h.1 ++ [.inl (0, n.toNatClampNeg, .inl (fun _ => 0))], h.2 + n.toNatClampNeg) Q) := RR.newa0 rfl rfl
theorem r12_17 {x : Nat} {a : Nat} : RR S d 12 17 L (.ref x :: .ref a :: st) h Q = kO (ai_obj h a 2) (fun fs => kB (decide (1 < fs.length)) (RR S d 12 20 L st (h.1.set a (.inr (2, fs.set 1 (.ref x))), h.2) Q)) := RR.put rfl rfl (ai_okp_r (by decide +kernel)) rfl
theorem r12_20 : RR S d 12 20 L st h Q = kA (ai_look L 0) (fun x => RR S d 12 21 L (x :: st) h Q) := RR.lda_n rfl rfl rfl
theorem r12_21 : RR S d 12 21 L st h Q = RR S d 12 23 L (.int 12 :: st) h Q := RR.bip (n := 12) rfl (by decide) rfl
theorem r12_23 {n : Int32} : RR S d 12 23 L (.int n :: st) h Q = kB (decide (¬ n < 0) && decide (n.toNatClampNeg ≤ 100000)) (RR S d 12 25 L (.ref h.1.length :: st) (h.1 ++ [.inl (0, n.toNatClampNeg, .inl (fun _ => 0))], h.2 + n.toNatClampNeg) Q) := RR.newa0 rfl rfl
theorem r12_25 {x : Nat} {a : Nat} : RR S d 12 25 L (.ref x :: .ref a :: st) h Q = kO (ai_obj h a 2) (fun fs => kB (decide (2 < fs.length)) (RR S d 12 28 L st (h.1.set a (.inr (2, fs.set 2 (.ref x))), h.2) Q)) := RR.put rfl rfl (ai_okp_r (by decide +kernel)) rfl
theorem r12_28 : RR S d 12 28 L st h Q = kA (ai_look L 0) (fun x => RR S d 12 29 L (x :: st) h Q) := RR.lda_n rfl rfl rfl
theorem r12_29 : RR S d 12 29 L st h Q = RR S d 12 31 L (.int 12 :: st) h Q := RR.bip (n := 12) rfl (by decide) rfl
theorem r12_31 {n : Int32} : RR S d 12 31 L (.int n :: st) h Q = kB (decide (¬ n < 0) && decide (n.toNatClampNeg ≤ 100000)) (RR S d 12 33 L (.ref h.1.length :: st) (h.1 ++ [.inl (0, n.toNatClampNeg, .inl (fun _ => 0))], h.2 + n.toNatClampNeg) Q) := RR.newa0 rfl rfl
theorem r12_33 {x : Nat} {a : Nat} : RR S d 12 33 L (.ref x :: .ref a :: st) h Q = kO (ai_obj h a 2) (fun fs => kB (decide (3 < fs.length)) (RR S d 12 36 L st (h.1.set a (.inr (2, fs.set 3 (.ref x))), h.2) Q)) := RR.put rfl rfl (ai_okp_r (by decide +kernel)) rfl
theorem r12_36 : RR S d 12 36 L st h Q = kA (ai_look L 0) (fun x => RR S d 12 37 L (x :: st) h Q) := RR.lda_n rfl rfl rfl
theorem r12_37 : RR S d 12 37 L st h Q = RR S d 12 39 L (.int 12 :: st) h Q := RR.bip (n := 12) rfl (by decide) rfl
theorem r12_39 {n : Int32} : RR S d 12 39 L (.int n :: st) h Q = kB (decide (¬ n < 0) && decide (n.toNatClampNeg ≤ 100000)) (RR S d 12 41 L (.ref h.1.length :: st) (h.1 ++ [.inl (0, n.toNatClampNeg, .inl (fun _ => 0))], h.2 + n.toNatClampNeg) Q) := RR.newa0 rfl rfl
theorem r12_41 {x : Nat} {a : Nat} : RR S d 12 41 L (.ref x :: .ref a :: st) h Q = kO (ai_obj h a 2) (fun fs => kB (decide (4 < fs.length)) (RR S d 12 44 L st (h.1.set a (.inr (2, fs.set 4 (.ref x))), h.2) Q)) := RR.put rfl rfl (ai_okp_r (by decide +kernel)) rfl
theorem r12_44 : RR S d 12 44 L st h Q = kA (ai_look L 0) (fun x => RR S d 12 45 L (x :: st) h Q) := RR.lda_n rfl rfl rfl
theorem r12_45 : RR S d 12 45 L st h Q = RR S d 12 47 L (.int 12 :: st) h Q := RR.bip (n := 12) rfl (by decide) rfl
theorem r12_47 {n : Int32} : RR S d 12 47 L (.int n :: st) h Q = kB (decide (¬ n < 0) && decide (n.toNatClampNeg ≤ 100000)) (RR S d 12 49 L (.ref h.1.length :: st) (h.1 ++ [.inl (0, n.toNatClampNeg, .inl (fun _ => 0))], h.2 + n.toNatClampNeg) Q) := RR.newa0 rfl rfl
theorem r12_49 {x : Nat} {a : Nat} : RR S d 12 49 L (.ref x :: .ref a :: st) h Q = kO (ai_obj h a 2) (fun fs => kB (decide (5 < fs.length)) (RR S d 12 52 L st (h.1.set a (.inr (2, fs.set 5 (.ref x))), h.2) Q)) := RR.put rfl rfl (ai_okp_r (by decide +kernel)) rfl
theorem r12_52 : RR S d 12 52 L st h Q = kA (ai_look L 0) (fun x => RR S d 12 53 L (x :: st) h Q) := RR.lda_n rfl rfl rfl
theorem r12_53 : RR S d 12 53 L st h Q = RR S d 12 54 L (.int 0 :: st) h Q := RR.icn (n := 0) rfl (by decide) rfl
theorem r12_54 {x : Int32} {a : Nat} : RR S d 12 54 L (.int x :: .ref a :: st) h Q = kO (ai_obj h a 2) (fun fs => kB (decide (6 < fs.length)) (RR S d 12 57 L st (h.1.set a (.inr (2, fs.set 6 (.int x))), h.2) Q)) := RR.put rfl rfl (ai_okp_i rfl (by decide +kernel)) rfl
theorem r12_57 : RR S d 12 57 L st h Q = kA (ai_look L 0) (fun x => RR S d 12 58 L (x :: st) h Q) := RR.lda_n rfl rfl rfl
theorem r12_58 : RR S d 12 58 L st h Q = RR S d 12 59 L (.int 0 :: st) h Q := RR.icn (n := 0) rfl (by decide) rfl
theorem r12_59 {x : Int32} {a : Nat} : RR S d 12 59 L (.int x :: .ref a :: st) h Q = kO (ai_obj h a 2) (fun fs => kB (decide (7 < fs.length)) (RR S d 12 62 L st (h.1.set a (.inr (2, fs.set 7 (.int x))), h.2) Q)) := RR.put rfl rfl (ai_okp_i rfl (by decide +kernel)) rfl
theorem r12_62 : RR S d 12 62 L st h Q = kA (ai_look L 0) (fun x => RR S d 12 63 L (x :: st) h Q) := RR.lda_n rfl rfl rfl
theorem r12_63 : RR S d 12 63 L st h Q = RR S d 12 65 L (.int 12 :: st) h Q := RR.bip (n := 12) rfl (by decide) rfl
theorem r12_65 {x : Int32} {a : Nat} : RR S d 12 65 L (.int x :: .ref a :: st) h Q = kO (ai_obj h a 2) (fun fs => kB (decide (8 < fs.length)) (RR S d 12 68 L st (h.1.set a (.inr (2, fs.set 8 (.int x))), h.2) Q)) := RR.put rfl rfl (ai_okp_i rfl (by decide +kernel)) rfl
theorem r12_68 : RR S d 12 68 L st h Q = kA (ai_look L 0) (fun x => RR S d 12 69 L (x :: st) h Q) := RR.lda_n rfl rfl rfl
theorem r12_69 : RR S d 12 69 L st h Q = RR S d 12 70 L (.int 0 :: st) h Q := RR.icn (n := 0) rfl (by decide) rfl
theorem r12_70 {x : Int32} {a : Nat} : RR S d 12 70 L (.int x :: .ref a :: st) h Q = kO (ai_obj h a 2) (fun fs => kB (decide (9 < fs.length)) (RR S d 12 73 L st (h.1.set a (.inr (2, fs.set 9 (.int x))), h.2) Q)) := RR.put rfl rfl (ai_okp_i rfl (by decide +kernel)) rfl
theorem r12_73 : RR S d 12 73 L [] h Q = Q none h := RR.rt rfl rfl rfl
theorem r13_0 : RR S d 13 0 L st h Q = kI (ai_look L 1) (fun x => RR S d 13 1 L (.int x :: st) h Q) := RR.ldi_n rfl rfl rfl
theorem r13_1 {x : Int32} : RR S d 13 1 L (.int x :: st) h Q = if x < 0 then RR S d 13 16 L st h Q else RR S d 13 4 L st h Q := RR.b1 (c := .lt) (off := 15) rfl rfl (by decide) rfl
theorem r13_4 : RR S d 13 4 L st h Q = kI (ai_look L 1) (fun x => RR S d 13 5 L (.int x :: st) h Q) := RR.ldi_n rfl rfl rfl
theorem r13_5 : RR S d 13 5 L st h Q = kA (ai_look L 0) (fun x => RR S d 13 6 L (x :: st) h Q) := RR.lda_n rfl rfl rfl
theorem r13_6 {a : Nat} : RR S d 13 6 L (.ref a :: st) h Q = kO (ai_fld h a 2 6) (fun w => RR S d 13 9 L (w :: st) h Q) := RR.get rfl rfl rfl
theorem r13_9 {x y : Int32} : RR S d 13 9 L (.int y :: .int x :: st) h Q = if y ≤ x then RR S d 13 16 L st h Q else RR S d 13 12 L st h Q := RR.b2 (c := .ge) (off := 7) rfl rfl (by decide) rfl
theorem r13_12 : RR S d 13 12 L st h Q = RR S d 13 13 L (.int 1 :: st) h Q := RR.icn (n := 1) rfl (by decide) rfl
theorem r13_13 : RR S d 13 13 L st h Q = RR S d 13 17 L st h Q := RR.jmp (off := 4) rfl (by decide)
theorem r13_16 : RR S d 13 16 L st h Q = RR S d 13 17 L (.int 0 :: st) h Q := RR.icn (n := 0) rfl (by decide) rfl
theorem r13_17f : RR S d 13 17 L [.int 0] h Q = Q (some (.int 0)) h := RR.zrt rfl rfl (by decide)
theorem r13_17t : RR S d 13 17 L [.int 1] h Q = Q (some (.int 1)) h := RR.zrt rfl rfl (by decide)
theorem r14_0 : RR S d 14 0 L st h Q = kA (ai_look L 0) (fun x => RR S d 14 1 L (x :: st) h Q) := RR.lda_n rfl rfl rfl
theorem r14_1 : RR S d 14 1 L st h Q = kI (ai_look L 1) (fun x => RR S d 14 2 L (.int x :: st) h Q) := RR.ldi_n rfl rfl rfl
theorem r14_2 {p0 : Int32} {a : Nat} : RR S (d + 1) 14 2 L (.int p0 :: .ref a :: st) h Q = kB (decide (ai_sum st ≤ 8)) (kB ((ai_obj h a 2).isSome) (RR S d 13 0 [(0, .ref a), (1, .int p0)] [] h (fun r h1 => RR S (d + 1) 14 5 L (r.toList ++ st) h1 Q))) := RR.cv (j := 43) (mn' := 13) (n := 1) rfl rfl rfl rfl rfl rfl
theorem r14_5 {x : Int32} : RR S d 14 5 L (.int x :: st) h Q = if x = 0 then RR S d 14 25 L st h Q else RR S d 14 8 L st h Q := RR.b1 (c := .eq) (off := 20) rfl rfl (by decide) rfl
theorem r14_8 : RR S d 14 8 L st h Q = kA (ai_look L 0) (fun x => RR S d 14 9 L (x :: st) h Q) := RR.lda_n rfl rfl rfl
theorem r14_9 : RR S d 14 9 L st h Q = kI (ai_look L 2) (fun x => RR S d 14 10 L (.int x :: st) h Q) := RR.ldi_n rfl rfl rfl
theorem r14_10 {p0 : Int32} {a : Nat} : RR S (d + 1) 14 10 L (.int p0 :: .ref a :: st) h Q = kB (decide (ai_sum st ≤ 8)) (kB ((ai_obj h a 2).isSome) (RR S d 13 0 [(0, .ref a), (1, .int p0)] [] h (fun r h1 => RR S (d + 1) 14 13 L (r.toList ++ st) h1 Q))) := RR.cv (j := 43) (mn' := 13) (n := 1) rfl rfl rfl rfl rfl rfl
theorem r14_13 {x : Int32} : RR S d 14 13 L (.int x :: st) h Q = if x = 0 then RR S d 14 25 L st h Q else RR S d 14 16 L st h Q := RR.b1 (c := .eq) (off := 12) rfl rfl (by decide) rfl
theorem r14_16 : RR S d 14 16 L st h Q = kI (ai_look L 1) (fun x => RR S d 14 17 L (.int x :: st) h Q) := RR.ldi_n rfl rfl rfl
theorem r14_17 : RR S d 14 17 L st h Q = kI (ai_look L 2) (fun x => RR S d 14 18 L (.int x :: st) h Q) := RR.ldi_n rfl rfl rfl
theorem r14_18 {x y : Int32} : RR S d 14 18 L (.int y :: .int x :: st) h Q = if x = y then RR S d 14 25 L st h Q else RR S d 14 21 L st h Q := RR.b2 (c := .eq) (off := 7) rfl rfl (by decide) rfl
theorem r14_21 : RR S d 14 21 L st h Q = RR S d 14 22 L (.int 1 :: st) h Q := RR.icn (n := 1) rfl (by decide) rfl
theorem r14_22 : RR S d 14 22 L st h Q = RR S d 14 26 L st h Q := RR.jmp (off := 4) rfl (by decide)
theorem r14_25 : RR S d 14 25 L st h Q = RR S d 14 26 L (.int 0 :: st) h Q := RR.icn (n := 0) rfl (by decide) rfl
theorem r14_26f : RR S d 14 26 L [.int 0] h Q = Q (some (.int 0)) h := RR.zrt rfl rfl (by decide)
theorem r14_26t : RR S d 14 26 L [.int 1] h Q = Q (some (.int 1)) h := RR.zrt rfl rfl (by decide)
theorem r15_0 : RR S d 15 0 L st h Q = kI (ai_look L 1) (fun x => RR S d 15 1 L (.int x :: st) h Q) := RR.ldi_n rfl rfl rfl
theorem r15_1 {x : Int32} : RR S d 15 1 L (.int x :: st) h Q = if x < 0 then RR S d 15 16 L st h Q else RR S d 15 4 L st h Q := RR.b1 (c := .lt) (off := 15) rfl rfl (by decide) rfl
theorem r15_4 : RR S d 15 4 L st h Q = kI (ai_look L 1) (fun x => RR S d 15 5 L (.int x :: st) h Q) := RR.ldi_n rfl rfl rfl
theorem r15_5 : RR S d 15 5 L st h Q = kA (ai_look L 0) (fun x => RR S d 15 6 L (x :: st) h Q) := RR.lda_n rfl rfl rfl
theorem r15_6 {a : Nat} : RR S d 15 6 L (.ref a :: st) h Q = kO (ai_fld h a 2 7) (fun w => RR S d 15 9 L (w :: st) h Q) := RR.get rfl rfl rfl
theorem r15_9 {x y : Int32} : RR S d 15 9 L (.int y :: .int x :: st) h Q = if y ≤ x then RR S d 15 16 L st h Q else RR S d 15 12 L st h Q := RR.b2 (c := .ge) (off := 7) rfl rfl (by decide) rfl
theorem r15_12 : RR S d 15 12 L st h Q = RR S d 15 13 L (.int 1 :: st) h Q := RR.icn (n := 1) rfl (by decide) rfl
theorem r15_13 : RR S d 15 13 L st h Q = RR S d 15 17 L st h Q := RR.jmp (off := 4) rfl (by decide)
theorem r15_16 : RR S d 15 16 L st h Q = RR S d 15 17 L (.int 0 :: st) h Q := RR.icn (n := 0) rfl (by decide) rfl
theorem r15_17f : RR S d 15 17 L [.int 0] h Q = Q (some (.int 0)) h := RR.zrt rfl rfl (by decide)
theorem r15_17t : RR S d 15 17 L [.int 1] h Q = Q (some (.int 1)) h := RR.zrt rfl rfl (by decide)
theorem r16_0 : RR S d 16 0 L st h Q = kI (ai_look L 1) (fun x => RR S d 16 1 L (.int x :: st) h Q) := RR.ldi_n rfl rfl rfl
theorem r16_1 {x : Int32} : RR S d 16 1 L (.int x :: st) h Q = if x < 0 then RR S d 16 16 L st h Q else RR S d 16 4 L st h Q := RR.b1 (c := .lt) (off := 15) rfl rfl (by decide) rfl
theorem r16_4 : RR S d 16 4 L st h Q = kI (ai_look L 1) (fun x => RR S d 16 5 L (.int x :: st) h Q) := RR.ldi_n rfl rfl rfl
theorem r16_5 : RR S d 16 5 L st h Q = kA (ai_look L 0) (fun x => RR S d 16 6 L (x :: st) h Q) := RR.lda_n rfl rfl rfl
theorem r16_6 {a : Nat} : RR S d 16 6 L (.ref a :: st) h Q = kO (ai_fld h a 2 8) (fun w => RR S d 16 9 L (w :: st) h Q) := RR.get rfl rfl rfl
theorem r16_9 {x y : Int32} : RR S d 16 9 L (.int y :: .int x :: st) h Q = if y ≤ x then RR S d 16 16 L st h Q else RR S d 16 12 L st h Q := RR.b2 (c := .ge) (off := 7) rfl rfl (by decide) rfl
theorem r16_12 : RR S d 16 12 L st h Q = RR S d 16 13 L (.int 1 :: st) h Q := RR.icn (n := 1) rfl (by decide) rfl
theorem r16_13 : RR S d 16 13 L st h Q = RR S d 16 17 L st h Q := RR.jmp (off := 4) rfl (by decide)
theorem r16_16 : RR S d 16 16 L st h Q = RR S d 16 17 L (.int 0 :: st) h Q := RR.icn (n := 0) rfl (by decide) rfl
theorem r16_17f : RR S d 16 17 L [.int 0] h Q = Q (some (.int 0)) h := RR.zrt rfl rfl (by decide)
theorem r16_17t : RR S d 16 17 L [.int 1] h Q = Q (some (.int 1)) h := RR.zrt rfl rfl (by decide)
theorem r17_0 : RR S d 17 0 L st h Q = kA (ai_look L 0) (fun x => RR S d 17 1 L (x :: st) h Q) := RR.lda_n rfl rfl rfl
theorem r17_1 {a : Nat} : RR S d 17 1 L (.ref a :: st) h Q = kO (ai_fld h a 2 6) (fun w => RR S d 17 4 L (w :: st) h Q) := RR.get rfl rfl rfl
theorem r17_4 : RR S d 17 4 L st h Q = RR S d 17 6 L (.int 6 :: st) h Q := RR.bip (n := 6) rfl (by decide) rfl
theorem r17_6 {x y : Int32} : RR S d 17 6 L (.int y :: .int x :: st) h Q = if x < y then RR S d 17 11 L st h Q else RR S d 17 9 L st h Q := RR.b2 (c := .lt) (off := 5) rfl rfl (by decide) rfl
theorem r17_9 : RR S d 17 9 L st h Q = RR S d 17 10 L (.int (-1) :: st) h Q := RR.icn (n := (-1)) rfl (by decide) rfl
theorem r17_10 {x : Int32} : RR S d 17 10 L [.int x] h Q = Q (some (.int x)) h := RR.rt rfl rfl rfl
theorem r17_11 : RR S d 17 11 L st h Q = kA (ai_look L 0) (fun x => RR S d 17 12 L (x :: st) h Q) := RR.lda_n rfl rfl rfl
theorem r17_12 {a : Nat} : RR S d 17 12 L (.ref a :: st) h Q = kO (ai_fld h a 2 0) (fun w => RR S d 17 15 L (w :: st) h Q) := RR.get rfl rfl rfl
theorem r17_15 : RR S d 17 15 L st h Q = kA (ai_look L 0) (fun x => RR S d 17 16 L (x :: st) h Q) := RR.lda_n rfl rfl rfl
theorem r17_16 {a : Nat} : RR S d 17 16 L (.ref a :: st) h Q = kO (ai_fld h a 2 6) (fun w => RR S d 17 19 L (w :: st) h Q) := RR.get rfl rfl rfl
theorem r17_19 : RR S d 17 19 L st h Q = kI (ai_look L 1) (fun x => RR S d 17 20 L (.int x :: st) h Q) := RR.ldi_n rfl rfl rfl
theorem r17_20 {x y : Int32} {a : Nat} : RR S d 17 20 L (.int y :: .int x :: .ref a :: st) h Q = kO (ai_arr h a 0) (fun q => kB (ai_in x q.1) (RR S d 17 21 L st (h.1.set a (.inl (0, q.1, .inl (upd q.2 x.toNatClampNeg y))), h.2) Q)) := RR.ias rfl rfl
theorem r17_21 : RR S d 17 21 L st h Q = kA (ai_look L 0) (fun x => RR S d 17 22 L (x :: st) h Q) := RR.lda_n rfl rfl rfl
theorem r17_22 {v : Value} (hv : v.category = 1) : RR S d 17 22 L (v :: st) h Q = RR S d 17 23 L (v :: v :: st) h Q := RR.dup rfl hv rfl
theorem r17_23 {a : Nat} : RR S d 17 23 L (.ref a :: st) h Q = kO (ai_fld h a 2 6) (fun w => RR S d 17 26 L (w :: st) h Q) := RR.get rfl rfl rfl
theorem r17_26 : RR S d 17 26 L st h Q = RR S d 17 27 L (.int 1 :: st) h Q := RR.icn (n := 1) rfl (by decide) rfl
theorem r17_27 {x y : Int32} : RR S d 17 27 L (.int y :: .int x :: st) h Q = RR S d 17 28 L (.int (x + y) :: st) h Q := RR.do1 (28, L, .int (x + y) :: st, h) rfl rfl rfl
theorem r17_28 {x : Int32} {a : Nat} : RR S d 17 28 L (.int x :: .ref a :: st) h Q = kO (ai_obj h a 2) (fun fs => kB (decide (6 < fs.length)) (RR S d 17 31 L st (h.1.set a (.inr (2, fs.set 6 (.int x))), h.2) Q)) := RR.put rfl rfl (ai_okp_i rfl (by decide +kernel)) rfl
theorem r17_31 : RR S d 17 31 L st h Q = kA (ai_look L 0) (fun x => RR S d 17 32 L (x :: st) h Q) := RR.lda_n rfl rfl rfl
theorem r17_32 {a : Nat} : RR S d 17 32 L (.ref a :: st) h Q = kO (ai_fld h a 2 6) (fun w => RR S d 17 35 L (w :: st) h Q) := RR.get rfl rfl rfl
theorem r17_35 : RR S d 17 35 L st h Q = RR S d 17 36 L (.int 1 :: st) h Q := RR.icn (n := 1) rfl (by decide) rfl
theorem r17_36 {x y : Int32} : RR S d 17 36 L (.int y :: .int x :: st) h Q = RR S d 17 37 L (.int (x - y) :: st) h Q := RR.do1 (37, L, .int (x - y) :: st, h) rfl rfl rfl
theorem r17_37 {x : Int32} : RR S d 17 37 L [.int x] h Q = Q (some (.int x)) h := RR.rt rfl rfl rfl
theorem r18_0 : RR S d 18 0 L st h Q = kA (ai_look L 0) (fun x => RR S d 18 1 L (x :: st) h Q) := RR.lda_n rfl rfl rfl
theorem r18_1 {a : Nat} : RR S d 18 1 L (.ref a :: st) h Q = kO (ai_fld h a 2 7) (fun w => RR S d 18 4 L (w :: st) h Q) := RR.get rfl rfl rfl
theorem r18_4 : RR S d 18 4 L st h Q = RR S d 18 6 L (.int 12 :: st) h Q := RR.bip (n := 12) rfl (by decide) rfl
theorem r18_6 {x y : Int32} : RR S d 18 6 L (.int y :: .int x :: st) h Q = if x < y then RR S d 18 11 L st h Q else RR S d 18 9 L st h Q := RR.b2 (c := .lt) (off := 5) rfl rfl (by decide) rfl
theorem r18_9 : RR S d 18 9 L st h Q = RR S d 18 10 L (.int (-1) :: st) h Q := RR.icn (n := (-1)) rfl (by decide) rfl
theorem r18_10 {x : Int32} : RR S d 18 10 L [.int x] h Q = Q (some (.int x)) h := RR.rt rfl rfl rfl
theorem r18_11 : RR S d 18 11 L st h Q = kA (ai_look L 0) (fun x => RR S d 18 12 L (x :: st) h Q) := RR.lda_n rfl rfl rfl
theorem r18_12 {a : Nat} : RR S d 18 12 L (.ref a :: st) h Q = kO (ai_fld h a 2 2) (fun w => RR S d 18 15 L (w :: st) h Q) := RR.get rfl rfl rfl
theorem r18_15 : RR S d 18 15 L st h Q = kA (ai_look L 0) (fun x => RR S d 18 16 L (x :: st) h Q) := RR.lda_n rfl rfl rfl
theorem r18_16 {a : Nat} : RR S d 18 16 L (.ref a :: st) h Q = kO (ai_fld h a 2 7) (fun w => RR S d 18 19 L (w :: st) h Q) := RR.get rfl rfl rfl
theorem r18_19 : RR S d 18 19 L st h Q = kI (ai_look L 1) (fun x => RR S d 18 20 L (.int x :: st) h Q) := RR.ldi_n rfl rfl rfl
theorem r18_20 {x y : Int32} {a : Nat} : RR S d 18 20 L (.int y :: .int x :: .ref a :: st) h Q = kO (ai_arr h a 0) (fun q => kB (ai_in x q.1) (RR S d 18 21 L st (h.1.set a (.inl (0, q.1, .inl (upd q.2 x.toNatClampNeg y))), h.2) Q)) := RR.ias rfl rfl
theorem r18_21 : RR S d 18 21 L st h Q = kA (ai_look L 0) (fun x => RR S d 18 22 L (x :: st) h Q) := RR.lda_n rfl rfl rfl
theorem r18_22 {a : Nat} : RR S d 18 22 L (.ref a :: st) h Q = kO (ai_fld h a 2 3) (fun w => RR S d 18 25 L (w :: st) h Q) := RR.get rfl rfl rfl
theorem r18_25 : RR S d 18 25 L st h Q = kA (ai_look L 0) (fun x => RR S d 18 26 L (x :: st) h Q) := RR.lda_n rfl rfl rfl
theorem r18_26 {a : Nat} : RR S d 18 26 L (.ref a :: st) h Q = kO (ai_fld h a 2 7) (fun w => RR S d 18 29 L (w :: st) h Q) := RR.get rfl rfl rfl
theorem r18_29 : RR S d 18 29 L st h Q = kI (ai_look L 2) (fun x => RR S d 18 30 L (.int x :: st) h Q) := RR.ldi_n rfl rfl rfl
theorem r18_30 {x y : Int32} {a : Nat} : RR S d 18 30 L (.int y :: .int x :: .ref a :: st) h Q = kO (ai_arr h a 0) (fun q => kB (ai_in x q.1) (RR S d 18 31 L st (h.1.set a (.inl (0, q.1, .inl (upd q.2 x.toNatClampNeg y))), h.2) Q)) := RR.ias rfl rfl
theorem r18_31 : RR S d 18 31 L st h Q = kA (ai_look L 0) (fun x => RR S d 18 32 L (x :: st) h Q) := RR.lda_n rfl rfl rfl
theorem r18_32 {a : Nat} : RR S d 18 32 L (.ref a :: st) h Q = kO (ai_fld h a 2 4) (fun w => RR S d 18 35 L (w :: st) h Q) := RR.get rfl rfl rfl
theorem r18_35 : RR S d 18 35 L st h Q = kA (ai_look L 0) (fun x => RR S d 18 36 L (x :: st) h Q) := RR.lda_n rfl rfl rfl
theorem r18_36 {a : Nat} : RR S d 18 36 L (.ref a :: st) h Q = kO (ai_fld h a 2 7) (fun w => RR S d 18 39 L (w :: st) h Q) := RR.get rfl rfl rfl
theorem r18_39 : RR S d 18 39 L st h Q = kI (ai_look L 3) (fun x => RR S d 18 40 L (.int x :: st) h Q) := RR.ldi_n rfl rfl rfl
theorem r18_40 {x y : Int32} {a : Nat} : RR S d 18 40 L (.int y :: .int x :: .ref a :: st) h Q = kO (ai_arr h a 0) (fun q => kB (ai_in x q.1) (RR S d 18 41 L st (h.1.set a (.inl (0, q.1, .inl (upd q.2 x.toNatClampNeg y))), h.2) Q)) := RR.ias rfl rfl
theorem r18_41 : RR S d 18 41 L st h Q = kA (ai_look L 0) (fun x => RR S d 18 42 L (x :: st) h Q) := RR.lda_n rfl rfl rfl
theorem r18_42 {a : Nat} : RR S d 18 42 L (.ref a :: st) h Q = kO (ai_fld h a 2 5) (fun w => RR S d 18 45 L (w :: st) h Q) := RR.get rfl rfl rfl
theorem r18_45 : RR S d 18 45 L st h Q = kA (ai_look L 0) (fun x => RR S d 18 46 L (x :: st) h Q) := RR.lda_n rfl rfl rfl
theorem r18_46 {a : Nat} : RR S d 18 46 L (.ref a :: st) h Q = kO (ai_fld h a 2 7) (fun w => RR S d 18 49 L (w :: st) h Q) := RR.get rfl rfl rfl
theorem r18_49 : RR S d 18 49 L st h Q = kI (ai_look L 4) (fun x => RR S d 18 51 L (.int x :: st) h Q) := RR.ldi rfl rfl
theorem r18_51 {x y : Int32} {a : Nat} : RR S d 18 51 L (.int y :: .int x :: .ref a :: st) h Q = kO (ai_arr h a 0) (fun q => kB (ai_in x q.1) (RR S d 18 52 L st (h.1.set a (.inl (0, q.1, .inl (upd q.2 x.toNatClampNeg y))), h.2) Q)) := RR.ias rfl rfl
theorem r18_52 : RR S d 18 52 L st h Q = kA (ai_look L 0) (fun x => RR S d 18 53 L (x :: st) h Q) := RR.lda_n rfl rfl rfl
theorem r18_53 {v : Value} (hv : v.category = 1) : RR S d 18 53 L (v :: st) h Q = RR S d 18 54 L (v :: v :: st) h Q := RR.dup rfl hv rfl
theorem r18_54 {a : Nat} : RR S d 18 54 L (.ref a :: st) h Q = kO (ai_fld h a 2 7) (fun w => RR S d 18 57 L (w :: st) h Q) := RR.get rfl rfl rfl
theorem r18_57 : RR S d 18 57 L st h Q = RR S d 18 58 L (.int 1 :: st) h Q := RR.icn (n := 1) rfl (by decide) rfl
theorem r18_58 {x y : Int32} : RR S d 18 58 L (.int y :: .int x :: st) h Q = RR S d 18 59 L (.int (x + y) :: st) h Q := RR.do1 (59, L, .int (x + y) :: st, h) rfl rfl rfl
theorem r18_59 {x : Int32} {a : Nat} : RR S d 18 59 L (.int x :: .ref a :: st) h Q = kO (ai_obj h a 2) (fun fs => kB (decide (7 < fs.length)) (RR S d 18 62 L st (h.1.set a (.inr (2, fs.set 7 (.int x))), h.2) Q)) := RR.put rfl rfl (ai_okp_i rfl (by decide +kernel)) rfl
theorem r18_62 : RR S d 18 62 L st h Q = kA (ai_look L 0) (fun x => RR S d 18 63 L (x :: st) h Q) := RR.lda_n rfl rfl rfl
theorem r18_63 {a : Nat} : RR S d 18 63 L (.ref a :: st) h Q = kO (ai_fld h a 2 7) (fun w => RR S d 18 66 L (w :: st) h Q) := RR.get rfl rfl rfl
theorem r18_66 : RR S d 18 66 L st h Q = RR S d 18 67 L (.int 1 :: st) h Q := RR.icn (n := 1) rfl (by decide) rfl
theorem r18_67 {x y : Int32} : RR S d 18 67 L (.int y :: .int x :: st) h Q = RR S d 18 68 L (.int (x - y) :: st) h Q := RR.do1 (68, L, .int (x - y) :: st, h) rfl rfl rfl
theorem r18_68 {x : Int32} : RR S d 18 68 L [.int x] h Q = Q (some (.int x)) h := RR.rt rfl rfl rfl
theorem r19_0 : RR S d 19 0 L st h Q = RR S d 19 1 L (.int 0 :: st) h Q := RR.icn (n := 0) rfl (by decide) rfl
theorem r19_1 {x : Int32} : RR S d 19 1 L (.int x :: st) h Q = RR S d 19 2 (ai_put 1 (.int x) L) st h Q := RR.do1 (2, ai_put 1 (.int x) L, st, h) rfl rfl rfl
theorem r19_2 : RR S d 19 2 L st h Q = kI (ai_look L 1) (fun x => RR S d 19 3 L (.int x :: st) h Q) := RR.ldi_n rfl rfl rfl
theorem r19_3 : RR S d 19 3 L st h Q = RR S d 19 5 L (.int 6 :: st) h Q := RR.bip (n := 6) rfl (by decide) rfl
theorem r19_5 {x y : Int32} : RR S d 19 5 L (.int y :: .int x :: st) h Q = if y ≤ x then RR S d 19 21 L st h Q else RR S d 19 8 L st h Q := RR.b2 (c := .ge) (off := 16) rfl rfl (by decide) rfl
theorem r19_8 : RR S d 19 8 L st h Q = kA (ai_look L 0) (fun x => RR S d 19 9 L (x :: st) h Q) := RR.lda_n rfl rfl rfl
theorem r19_9 {a : Nat} : RR S d 19 9 L (.ref a :: st) h Q = kO (ai_fld h a 2 1) (fun w => RR S d 19 12 L (w :: st) h Q) := RR.get rfl rfl rfl
theorem r19_12 : RR S d 19 12 L st h Q = kI (ai_look L 1) (fun x => RR S d 19 13 L (.int x :: st) h Q) := RR.ldi_n rfl rfl rfl
theorem r19_13 : RR S d 19 13 L st h Q = RR S d 19 14 L (.int 0 :: st) h Q := RR.icn (n := 0) rfl (by decide) rfl
theorem r19_14 {x y : Int32} {a : Nat} : RR S d 19 14 L (.int y :: .int x :: .ref a :: st) h Q = kO (ai_arr h a 0) (fun q => kB (ai_in x q.1) (RR S d 19 15 L st (h.1.set a (.inl (0, q.1, .inl (upd q.2 x.toNatClampNeg y))), h.2) Q)) := RR.ias rfl rfl
theorem r19_15 : RR S d 19 15 L st h Q = kI (ai_look L 1) (fun x => RR S d 19 18 (ai_put 1 (.int (x + 1)) L) st h Q) := RR.iinc (k := 1) (n := 1) rfl (by decide) (by decide) rfl
theorem r19_18 : RR S d 19 18 L st h Q = RR S d 19 2 L st h Q := RR.jmp (off := (-16)) rfl (by decide)
theorem r19_21 : RR S d 19 21 L [] h Q = Q none h := RR.rt rfl rfl rfl
theorem r20_0 : RR S d 20 0 L st h Q = kA (ai_look L 0) (fun x => RR S d 20 1 L (x :: st) h Q) := RR.lda_n rfl rfl rfl
theorem r20_1 : RR S d 20 1 L st h Q = kI (ai_look L 1) (fun x => RR S d 20 2 L (.int x :: st) h Q) := RR.ldi_n rfl rfl rfl
theorem r20_2 {p0 : Int32} {a : Nat} : RR S (d + 1) 20 2 L (.int p0 :: .ref a :: st) h Q = kB (decide (ai_sum st ≤ 8)) (kB ((ai_obj h a 2).isSome) (RR S d 15 0 [(0, .ref a), (1, .int p0)] [] h (fun r h1 => RR S (d + 1) 20 5 L (r.toList ++ st) h1 Q))) := RR.cv (j := 47) (mn' := 15) (n := 1) rfl rfl rfl rfl rfl rfl
theorem r20_5 {x : Int32} : RR S d 20 5 L (.int x :: st) h Q = if x = 0 then RR S d 20 19 L st h Q else RR S d 20 8 L st h Q := RR.b1 (c := .eq) (off := 14) rfl rfl (by decide) rfl
theorem r20_8 : RR S d 20 8 L st h Q = kI (ai_look L 2) (fun x => RR S d 20 9 L (.int x :: st) h Q) := RR.ldi_n rfl rfl rfl
theorem r20_9 : RR S d 20 9 L st h Q = kA (ai_look L 0) (fun x => RR S d 20 10 L (x :: st) h Q) := RR.lda_n rfl rfl rfl
theorem r20_10 {a : Nat} : RR S d 20 10 L (.ref a :: st) h Q = kO (ai_fld h a 2 5) (fun w => RR S d 20 13 L (w :: st) h Q) := RR.get rfl rfl rfl
theorem r20_13 : RR S d 20 13 L st h Q = kI (ai_look L 1) (fun x => RR S d 20 14 L (.int x :: st) h Q) := RR.ldi_n rfl rfl rfl
theorem r20_14 {x : Int32} {a : Nat} : RR S d 20 14 L (.int x :: .ref a :: st) h Q = kO (ai_arr h a 0) (fun q => kB (ai_in x q.1) (RR S d 20 15 L (.int (q.2 x.toNatClampNeg) :: st) h Q)) := RR.ial rfl rfl
theorem r20_15 {x y : Int32} : RR S d 20 15 L (.int y :: .int x :: st) h Q = RR S d 20 16 L (.int (x * y) :: st) h Q := RR.do1 (16, L, .int (x * y) :: st, h) rfl rfl rfl
theorem r20_16 : RR S d 20 16 L st h Q = RR S d 20 20 L st h Q := RR.jmp (off := 4) rfl (by decide)
theorem r20_19 : RR S d 20 19 L st h Q = RR S d 20 20 L (.int 0 :: st) h Q := RR.icn (n := 0) rfl (by decide) rfl
theorem r20_20 {x : Int32} : RR S d 20 20 L [.int x] h Q = Q (some (.int x)) h := RR.rt rfl rfl rfl
theorem r21_0 : RR S d 21 0 L st h Q = kA (ai_look L 0) (fun x => RR S d 21 1 L (x :: st) h Q) := RR.lda_n rfl rfl rfl
theorem r21_1 : RR S d 21 1 L st h Q = kI (ai_look L 1) (fun x => RR S d 21 2 L (.int x :: st) h Q) := RR.ldi_n rfl rfl rfl
theorem r21_2 {p0 : Int32} {a : Nat} : RR S (d + 1) 21 2 L (.int p0 :: .ref a :: st) h Q = kB (decide (ai_sum st ≤ 8)) (kB ((ai_obj h a 2).isSome) (RR S d 15 0 [(0, .ref a), (1, .int p0)] [] h (fun r h1 => RR S (d + 1) 21 5 L (r.toList ++ st) h1 Q))) := RR.cv (j := 47) (mn' := 15) (n := 1) rfl rfl rfl rfl rfl rfl
theorem r21_5 {x : Int32} : RR S d 21 5 L (.int x :: st) h Q = if x = 0 then RR S d 21 26 L st h Q else RR S d 21 8 L st h Q := RR.b1 (c := .eq) (off := 21) rfl rfl (by decide) rfl
theorem r21_8 : RR S d 21 8 L st h Q = kI (ai_look L 2) (fun x => RR S d 21 9 L (.int x :: st) h Q) := RR.ldi_n rfl rfl rfl
theorem r21_9 : RR S d 21 9 L st h Q = kA (ai_look L 0) (fun x => RR S d 21 10 L (x :: st) h Q) := RR.lda_n rfl rfl rfl
theorem r21_10 {a : Nat} : RR S d 21 10 L (.ref a :: st) h Q = kO (ai_fld h a 2 5) (fun w => RR S d 21 13 L (w :: st) h Q) := RR.get rfl rfl rfl
theorem r21_13 : RR S d 21 13 L st h Q = kI (ai_look L 1) (fun x => RR S d 21 14 L (.int x :: st) h Q) := RR.ldi_n rfl rfl rfl
theorem r21_14 {x : Int32} {a : Nat} : RR S d 21 14 L (.int x :: .ref a :: st) h Q = kO (ai_arr h a 0) (fun q => kB (ai_in x q.1) (RR S d 21 15 L (.int (q.2 x.toNatClampNeg) :: st) h Q)) := RR.ial rfl rfl
theorem r21_15 {x y : Int32} : RR S d 21 15 L (.int y :: .int x :: st) h Q = RR S d 21 16 L (.int (x * y) :: st) h Q := RR.do1 (16, L, .int (x * y) :: st, h) rfl rfl rfl
theorem r21_16 : RR S d 21 16 L st h Q = kA (ai_look L 0) (fun x => RR S d 21 17 L (x :: st) h Q) := RR.lda_n rfl rfl rfl
theorem r21_17 {a : Nat} : RR S d 21 17 L (.ref a :: st) h Q = kO (ai_fld h a 2 4) (fun w => RR S d 21 20 L (w :: st) h Q) := RR.get rfl rfl rfl
theorem r21_20 : RR S d 21 20 L st h Q = kI (ai_look L 1) (fun x => RR S d 21 21 L (.int x :: st) h Q) := RR.ldi_n rfl rfl rfl
theorem r21_21 {x : Int32} {a : Nat} : RR S d 21 21 L (.int x :: .ref a :: st) h Q = kO (ai_arr h a 0) (fun q => kB (ai_in x q.1) (RR S d 21 22 L (.int (q.2 x.toNatClampNeg) :: st) h Q)) := RR.ial rfl rfl
theorem r21_22 {x y : Int32} : RR S d 21 22 L (.int y :: .int x :: st) h Q = RR S d 21 23 L (.int (x + y) :: st) h Q := RR.do1 (23, L, .int (x + y) :: st, h) rfl rfl rfl
theorem r21_23 : RR S d 21 23 L st h Q = RR S d 21 27 L st h Q := RR.jmp (off := 4) rfl (by decide)
theorem r21_26 : RR S d 21 26 L st h Q = RR S d 21 27 L (.int 0 :: st) h Q := RR.icn (n := 0) rfl (by decide) rfl
theorem r21_27 {x : Int32} : RR S d 21 27 L [.int x] h Q = Q (some (.int x)) h := RR.rt rfl rfl rfl
theorem r22_0 : RR S d 22 0 L st h Q = kA (ai_look L 0) (fun x => RR S d 22 1 L (x :: st) h Q) := RR.lda_n rfl rfl rfl
theorem r22_1 : RR S d 22 1 L st h Q = kI (ai_look L 1) (fun x => RR S d 22 2 L (.int x :: st) h Q) := RR.ldi_n rfl rfl rfl
theorem r22_2 {p0 : Int32} {a : Nat} : RR S (d + 1) 22 2 L (.int p0 :: .ref a :: st) h Q = kB (decide (ai_sum st ≤ 8)) (kB ((ai_obj h a 2).isSome) (RR S d 15 0 [(0, .ref a), (1, .int p0)] [] h (fun r h1 => RR S (d + 1) 22 5 L (r.toList ++ st) h1 Q))) := RR.cv (j := 47) (mn' := 15) (n := 1) rfl rfl rfl rfl rfl rfl
theorem r22_5 {x : Int32} : RR S d 22 5 L (.int x :: st) h Q = if x = 0 then RR S d 22 35 L st h Q else RR S d 22 8 L st h Q := RR.b1 (c := .eq) (off := 30) rfl rfl (by decide) rfl
theorem r22_8 : RR S d 22 8 L st h Q = kA (ai_look L 0) (fun x => RR S d 22 9 L (x :: st) h Q) := RR.lda_n rfl rfl rfl
theorem r22_9 : RR S d 22 9 L st h Q = kA (ai_look L 0) (fun x => RR S d 22 10 L (x :: st) h Q) := RR.lda_n rfl rfl rfl
theorem r22_10 {a : Nat} : RR S d 22 10 L (.ref a :: st) h Q = kO (ai_fld h a 2 3) (fun w => RR S d 22 13 L (w :: st) h Q) := RR.get rfl rfl rfl
theorem r22_13 : RR S d 22 13 L st h Q = kI (ai_look L 1) (fun x => RR S d 22 14 L (.int x :: st) h Q) := RR.ldi_n rfl rfl rfl
theorem r22_14 {x : Int32} {a : Nat} : RR S d 22 14 L (.int x :: .ref a :: st) h Q = kO (ai_arr h a 0) (fun q => kB (ai_in x q.1) (RR S d 22 15 L (.int (q.2 x.toNatClampNeg) :: st) h Q)) := RR.ial rfl rfl
theorem r22_15 {p0 : Int32} {a : Nat} : RR S (d + 1) 22 15 L (.int p0 :: .ref a :: st) h Q = kB (decide (ai_sum st ≤ 8)) (kB ((ai_obj h a 2).isSome) (RR S d 13 0 [(0, .ref a), (1, .int p0)] [] h (fun r h1 => RR S (d + 1) 22 18 L (r.toList ++ st) h1 Q))) := RR.cv (j := 43) (mn' := 13) (n := 1) rfl rfl rfl rfl rfl rfl
theorem r22_18 {x : Int32} : RR S d 22 18 L (.int x :: st) h Q = if x = 0 then RR S d 22 35 L st h Q else RR S d 22 21 L st h Q := RR.b1 (c := .eq) (off := 17) rfl rfl (by decide) rfl
theorem r22_21 : RR S d 22 21 L st h Q = kA (ai_look L 0) (fun x => RR S d 22 22 L (x :: st) h Q) := RR.lda_n rfl rfl rfl
theorem r22_22 {a : Nat} : RR S d 22 22 L (.ref a :: st) h Q = kO (ai_fld h a 2 0) (fun w => RR S d 22 25 L (w :: st) h Q) := RR.get rfl rfl rfl
theorem r22_25 : RR S d 22 25 L st h Q = kA (ai_look L 0) (fun x => RR S d 22 26 L (x :: st) h Q) := RR.lda_n rfl rfl rfl
theorem r22_26 {a : Nat} : RR S d 22 26 L (.ref a :: st) h Q = kO (ai_fld h a 2 3) (fun w => RR S d 22 29 L (w :: st) h Q) := RR.get rfl rfl rfl
theorem r22_29 : RR S d 22 29 L st h Q = kI (ai_look L 1) (fun x => RR S d 22 30 L (.int x :: st) h Q) := RR.ldi_n rfl rfl rfl
theorem r22_30 {x : Int32} {a : Nat} : RR S d 22 30 L (.int x :: .ref a :: st) h Q = kO (ai_arr h a 0) (fun q => kB (ai_in x q.1) (RR S d 22 31 L (.int (q.2 x.toNatClampNeg) :: st) h Q)) := RR.ial rfl rfl
theorem r22_31 {x : Int32} {a : Nat} : RR S d 22 31 L (.int x :: .ref a :: st) h Q = kO (ai_arr h a 0) (fun q => kB (ai_in x q.1) (RR S d 22 32 L (.int (q.2 x.toNatClampNeg) :: st) h Q)) := RR.ial rfl rfl
theorem r22_32 : RR S d 22 32 L st h Q = RR S d 22 36 L st h Q := RR.jmp (off := 4) rfl (by decide)
theorem r22_35 : RR S d 22 35 L st h Q = RR S d 22 36 L (.int 0 :: st) h Q := RR.icn (n := 0) rfl (by decide) rfl
theorem r22_36 {x : Int32} : RR S d 22 36 L [.int x] h Q = Q (some (.int x)) h := RR.rt rfl rfl rfl
theorem r23_0 : RR S d 23 0 L st h Q = kA (ai_look L 0) (fun x => RR S d 23 1 L (x :: st) h Q) := RR.lda_n rfl rfl rfl
theorem r23_1 : RR S d 23 1 L st h Q = kI (ai_look L 1) (fun x => RR S d 23 2 L (.int x :: st) h Q) := RR.ldi_n rfl rfl rfl
theorem r23_2 {p0 : Int32} {a : Nat} : RR S (d + 1) 23 2 L (.int p0 :: .ref a :: st) h Q = kB (decide (ai_sum st ≤ 8)) (kB ((ai_obj h a 2).isSome) (RR S d 15 0 [(0, .ref a), (1, .int p0)] [] h (fun r h1 => RR S (d + 1) 23 5 L (r.toList ++ st) h1 Q))) := RR.cv (j := 47) (mn' := 15) (n := 1) rfl rfl rfl rfl rfl rfl
theorem r23_5 {x : Int32} : RR S d 23 5 L (.int x :: st) h Q = if x = 0 then RR S d 23 42 L st h Q else RR S d 23 8 L st h Q := RR.b1 (c := .eq) (off := 37) rfl rfl (by decide) rfl
theorem r23_8 : RR S d 23 8 L st h Q = kA (ai_look L 0) (fun x => RR S d 23 9 L (x :: st) h Q) := RR.lda_n rfl rfl rfl
theorem r23_9 : RR S d 23 9 L st h Q = kA (ai_look L 0) (fun x => RR S d 23 10 L (x :: st) h Q) := RR.lda_n rfl rfl rfl
theorem r23_10 {a : Nat} : RR S d 23 10 L (.ref a :: st) h Q = kO (ai_fld h a 2 3) (fun w => RR S d 23 13 L (w :: st) h Q) := RR.get rfl rfl rfl
theorem r23_13 : RR S d 23 13 L st h Q = kI (ai_look L 1) (fun x => RR S d 23 14 L (.int x :: st) h Q) := RR.ldi_n rfl rfl rfl
theorem r23_14 {x : Int32} {a : Nat} : RR S d 23 14 L (.int x :: .ref a :: st) h Q = kO (ai_arr h a 0) (fun q => kB (ai_in x q.1) (RR S d 23 15 L (.int (q.2 x.toNatClampNeg) :: st) h Q)) := RR.ial rfl rfl
theorem r23_15 {p0 : Int32} {a : Nat} : RR S (d + 1) 23 15 L (.int p0 :: .ref a :: st) h Q = kB (decide (ai_sum st ≤ 8)) (kB ((ai_obj h a 2).isSome) (RR S d 13 0 [(0, .ref a), (1, .int p0)] [] h (fun r h1 => RR S (d + 1) 23 18 L (r.toList ++ st) h1 Q))) := RR.cv (j := 43) (mn' := 13) (n := 1) rfl rfl rfl rfl rfl rfl
theorem r23_18 {x : Int32} : RR S d 23 18 L (.int x :: st) h Q = if x = 0 then RR S d 23 42 L st h Q else RR S d 23 21 L st h Q := RR.b1 (c := .eq) (off := 24) rfl rfl (by decide) rfl
theorem r23_21 : RR S d 23 21 L st h Q = kA (ai_look L 0) (fun x => RR S d 23 22 L (x :: st) h Q) := RR.lda_n rfl rfl rfl
theorem r23_22 {a : Nat} : RR S d 23 22 L (.ref a :: st) h Q = kO (ai_fld h a 2 0) (fun w => RR S d 23 25 L (w :: st) h Q) := RR.get rfl rfl rfl
theorem r23_25 : RR S d 23 25 L st h Q = kA (ai_look L 0) (fun x => RR S d 23 26 L (x :: st) h Q) := RR.lda_n rfl rfl rfl
theorem r23_26 {a : Nat} : RR S d 23 26 L (.ref a :: st) h Q = kO (ai_fld h a 2 3) (fun w => RR S d 23 29 L (w :: st) h Q) := RR.get rfl rfl rfl
theorem r23_29 : RR S d 23 29 L st h Q = kI (ai_look L 1) (fun x => RR S d 23 30 L (.int x :: st) h Q) := RR.ldi_n rfl rfl rfl
theorem r23_30 {x : Int32} {a : Nat} : RR S d 23 30 L (.int x :: .ref a :: st) h Q = kO (ai_arr h a 0) (fun q => kB (ai_in x q.1) (RR S d 23 31 L (.int (q.2 x.toNatClampNeg) :: st) h Q)) := RR.ial rfl rfl
theorem r23_31 {x : Int32} {a : Nat} : RR S d 23 31 L (.int x :: .ref a :: st) h Q = kO (ai_arr h a 0) (fun q => kB (ai_in x q.1) (RR S d 23 32 L (.int (q.2 x.toNatClampNeg) :: st) h Q)) := RR.ial rfl rfl
theorem r23_32 : RR S d 23 32 L st h Q = RR S d 23 33 L (.int 2 :: st) h Q := RR.icn (n := 2) rfl (by decide) rfl
theorem r23_33 : RR S d 23 33 L st h Q = kA (ai_look L 0) (fun x => RR S d 23 34 L (x :: st) h Q) := RR.lda_n rfl rfl rfl
theorem r23_34 {a : Nat} : RR S d 23 34 L (.ref a :: st) h Q = kO (ai_fld h a 2 9) (fun w => RR S d 23 37 L (w :: st) h Q) := RR.get rfl rfl rfl
theorem r23_37 {x y : Int32} : RR S d 23 37 L (.int y :: .int x :: st) h Q = RR S d 23 38 L (.int (x * y) :: st) h Q := RR.do1 (38, L, .int (x * y) :: st, h) rfl rfl rfl
theorem r23_38 {x y : Int32} : RR S d 23 38 L (.int y :: .int x :: st) h Q = RR S d 23 39 L (.int (x + y) :: st) h Q := RR.do1 (39, L, .int (x + y) :: st, h) rfl rfl rfl
theorem r23_39 : RR S d 23 39 L st h Q = RR S d 23 43 L st h Q := RR.jmp (off := 4) rfl (by decide)
theorem r23_42 : RR S d 23 42 L st h Q = RR S d 23 43 L (.int 0 :: st) h Q := RR.icn (n := 0) rfl (by decide) rfl
theorem r23_43 {x : Int32} : RR S d 23 43 L [.int x] h Q = Q (some (.int x)) h := RR.rt rfl rfl rfl
theorem r24_0 : RR S d 24 0 L st h Q = kA (ai_look L 0) (fun x => RR S d 24 1 L (x :: st) h Q) := RR.lda_n rfl rfl rfl
theorem r24_1 : RR S d 24 1 L st h Q = kI (ai_look L 1) (fun x => RR S d 24 2 L (.int x :: st) h Q) := RR.ldi_n rfl rfl rfl
theorem r24_2 {p0 : Int32} {a : Nat} : RR S (d + 1) 24 2 L (.int p0 :: .ref a :: st) h Q = kB (decide (ai_sum st ≤ 8)) (kB ((ai_obj h a 2).isSome) (RR S d 15 0 [(0, .ref a), (1, .int p0)] [] h (fun r h1 => RR S (d + 1) 24 5 L (r.toList ++ st) h1 Q))) := RR.cv (j := 47) (mn' := 15) (n := 1) rfl rfl rfl rfl rfl rfl
theorem r24_5 {x : Int32} : RR S d 24 5 L (.int x :: st) h Q = if x = 0 then RR S d 24 35 L st h Q else RR S d 24 8 L st h Q := RR.b1 (c := .eq) (off := 30) rfl rfl (by decide) rfl
theorem r24_8 : RR S d 24 8 L st h Q = kA (ai_look L 0) (fun x => RR S d 24 9 L (x :: st) h Q) := RR.lda_n rfl rfl rfl
theorem r24_9 : RR S d 24 9 L st h Q = kA (ai_look L 0) (fun x => RR S d 24 10 L (x :: st) h Q) := RR.lda_n rfl rfl rfl
theorem r24_10 {a : Nat} : RR S d 24 10 L (.ref a :: st) h Q = kO (ai_fld h a 2 2) (fun w => RR S d 24 13 L (w :: st) h Q) := RR.get rfl rfl rfl
theorem r24_13 : RR S d 24 13 L st h Q = kI (ai_look L 1) (fun x => RR S d 24 14 L (.int x :: st) h Q) := RR.ldi_n rfl rfl rfl
theorem r24_14 {x : Int32} {a : Nat} : RR S d 24 14 L (.int x :: .ref a :: st) h Q = kO (ai_arr h a 0) (fun q => kB (ai_in x q.1) (RR S d 24 15 L (.int (q.2 x.toNatClampNeg) :: st) h Q)) := RR.ial rfl rfl
theorem r24_15 {p0 : Int32} {a : Nat} : RR S (d + 1) 24 15 L (.int p0 :: .ref a :: st) h Q = kB (decide (ai_sum st ≤ 8)) (kB ((ai_obj h a 2).isSome) (RR S d 13 0 [(0, .ref a), (1, .int p0)] [] h (fun r h1 => RR S (d + 1) 24 18 L (r.toList ++ st) h1 Q))) := RR.cv (j := 43) (mn' := 13) (n := 1) rfl rfl rfl rfl rfl rfl
theorem r24_18 {x : Int32} : RR S d 24 18 L (.int x :: st) h Q = if x = 0 then RR S d 24 35 L st h Q else RR S d 24 21 L st h Q := RR.b1 (c := .eq) (off := 17) rfl rfl (by decide) rfl
theorem r24_21 : RR S d 24 21 L st h Q = kA (ai_look L 0) (fun x => RR S d 24 22 L (x :: st) h Q) := RR.lda_n rfl rfl rfl
theorem r24_22 {a : Nat} : RR S d 24 22 L (.ref a :: st) h Q = kO (ai_fld h a 2 1) (fun w => RR S d 24 25 L (w :: st) h Q) := RR.get rfl rfl rfl
theorem r24_25 : RR S d 24 25 L st h Q = kA (ai_look L 0) (fun x => RR S d 24 26 L (x :: st) h Q) := RR.lda_n rfl rfl rfl
theorem r24_26 {a : Nat} : RR S d 24 26 L (.ref a :: st) h Q = kO (ai_fld h a 2 2) (fun w => RR S d 24 29 L (w :: st) h Q) := RR.get rfl rfl rfl
theorem r24_29 : RR S d 24 29 L st h Q = kI (ai_look L 1) (fun x => RR S d 24 30 L (.int x :: st) h Q) := RR.ldi_n rfl rfl rfl
theorem r24_30 {x : Int32} {a : Nat} : RR S d 24 30 L (.int x :: .ref a :: st) h Q = kO (ai_arr h a 0) (fun q => kB (ai_in x q.1) (RR S d 24 31 L (.int (q.2 x.toNatClampNeg) :: st) h Q)) := RR.ial rfl rfl
theorem r24_31 {x : Int32} {a : Nat} : RR S d 24 31 L (.int x :: .ref a :: st) h Q = kO (ai_arr h a 0) (fun q => kB (ai_in x q.1) (RR S d 24 32 L (.int (q.2 x.toNatClampNeg) :: st) h Q)) := RR.ial rfl rfl
theorem r24_32 : RR S d 24 32 L st h Q = RR S d 24 36 L st h Q := RR.jmp (off := 4) rfl (by decide)
theorem r24_35 : RR S d 24 35 L st h Q = RR S d 24 36 L (.int 0 :: st) h Q := RR.icn (n := 0) rfl (by decide) rfl
theorem r24_36 {x : Int32} : RR S d 24 36 L [.int x] h Q = Q (some (.int x)) h := RR.rt rfl rfl rfl
theorem r25_0 : RR S d 25 0 L st h Q = kA (ai_look L 1) (fun x => RR S d 25 1 L (x :: st) h Q) := RR.lda_n rfl rfl rfl
theorem r25_1 {a : Nat} : RR S d 25 1 L (.ref a :: st) h Q = kO (ai_fld h a 6 5) (fun w => RR S d 25 4 L (w :: st) h Q) := RR.get rfl rfl rfl
theorem r25_4 {x : Int32} : RR S d 25 4 L (.int x :: st) h Q = RR S d 25 5 (ai_put 3 (.int x) L) st h Q := RR.do1 (5, ai_put 3 (.int x) L, st, h) rfl rfl rfl
theorem r25_5 : RR S d 25 5 L st h Q = RR S d 25 6 L (.int 0 :: st) h Q := RR.icn (n := 0) rfl (by decide) rfl
theorem r25_6 {x : Int32} : RR S d 25 6 L (.int x :: st) h Q = RR S d 25 8 (ai_put 4 (.int x) L) st h Q := RR.do1 (8, ai_put 4 (.int x) L, st, h) rfl rfl rfl
theorem r25_8 : RR S d 25 8 L st h Q = kI (ai_look L 4) (fun x => RR S d 25 10 L (.int x :: st) h Q) := RR.ldi rfl rfl
theorem r25_10 : RR S d 25 10 L st h Q = kI (ai_look L 2) (fun x => RR S d 25 11 L (.int x :: st) h Q) := RR.ldi_n rfl rfl rfl
theorem r25_11 {x y : Int32} : RR S d 25 11 L (.int y :: .int x :: st) h Q = if y ≤ x then RR S d 25 57 L st h Q else RR S d 25 14 L st h Q := RR.b2 (c := .ge) (off := 46) rfl rfl (by decide) rfl
theorem r25_14 : RR S d 25 14 L st h Q = kI (ai_look L 4) (fun x => RR S d 25 16 L (.int x :: st) h Q) := RR.ldi rfl rfl
theorem r25_16 : RR S d 25 16 L st h Q = RR S d 25 17 L (.int 4 :: st) h Q := RR.icn (n := 4) rfl (by decide) rfl
theorem r25_17 {x y : Int32} : RR S d 25 17 L (.int y :: .int x :: st) h Q = if y ≤ x then RR S d 25 57 L st h Q else RR S d 25 20 L st h Q := RR.b2 (c := .ge) (off := 40) rfl rfl (by decide) rfl
theorem r25_20 : RR S d 25 20 L st h Q = kA (ai_look L 1) (fun x => RR S d 25 21 L (x :: st) h Q) := RR.lda_n rfl rfl rfl
theorem r25_21 {a : Nat} : RR S (d + 1) 25 21 L (.ref a :: st) h Q = kB (decide (ai_sum st ≤ 8)) (kB ((ai_obj h a 6).isSome) (RR S d 63 0 [(0, .ref a)] [] h (fun r h1 => RR S (d + 1) 25 24 L (r.toList ++ st) h1 Q))) := RR.cv (j := 55) (mn' := 63) (n := 0) rfl rfl rfl rfl rfl rfl
theorem r25_24 : RR S d 25 24 L st h Q = kI (ai_look L 4) (fun x => RR S d 25 26 L (.int x :: st) h Q) := RR.ldi rfl rfl
theorem r25_26 {p0 : Int32} {p1 : Int32} : RR S (d + 1) 25 26 L (.int p1 :: .int p0 :: st) h Q = kB (decide (ai_sum st ≤ 8)) (RR S d 73 0 [(0, .int p0), (1, .int p1)] [] h (fun r h1 => RR S (d + 1) 25 29 L (r.toList ++ st) h1 Q)) := RR.cs (j := 59) (mn' := 73) (n := 2) rfl rfl rfl rfl (by simp) rfl rfl
theorem r25_29 {x : Int32} : RR S d 25 29 L (.int x :: st) h Q = RR S d 25 31 (ai_put 5 (.int x) L) st h Q := RR.do1 (31, ai_put 5 (.int x) L, st, h) rfl rfl rfl
theorem r25_31 : RR S d 25 31 L st h Q = kI (ai_look L 3) (fun x => RR S d 25 32 L (.int x :: st) h Q) := RR.ldi_n rfl rfl rfl
theorem r25_32 : RR S d 25 32 L st h Q = kA (ai_look L 0) (fun x => RR S d 25 33 L (x :: st) h Q) := RR.lda_n rfl rfl rfl
theorem r25_33 : RR S d 25 33 L st h Q = kI (ai_look L 5) (fun x => RR S d 25 35 L (.int x :: st) h Q) := RR.ldi rfl rfl
theorem r25_35 : RR S d 25 35 L st h Q = kA (ai_look L 1) (fun x => RR S d 25 36 L (x :: st) h Q) := RR.lda_n rfl rfl rfl
theorem r25_36 {a : Nat} : RR S d 25 36 L (.ref a :: st) h Q = kO (ai_fld h a 6 0) (fun w => RR S d 25 39 L (w :: st) h Q) := RR.get rfl rfl rfl
theorem r25_39 {p0 : Int32} {p1 : Int32} {a : Nat} : RR S (d + 1) 25 39 L (.int p1 :: .int p0 :: .ref a :: st) h Q = kB (decide (ai_sum st ≤ 8)) (kB ((ai_obj h a 2).isSome) (RR S d 21 0 [(0, .ref a), (1, .int p0), (2, .int p1)] [] h (fun r h1 => RR S (d + 1) 25 42 L (r.toList ++ st) h1 Q))) := RR.cv (j := 68) (mn' := 21) (n := 2) rfl rfl rfl rfl rfl rfl
theorem r25_42 : RR S d 25 42 L st h Q = kA (ai_look L 0) (fun x => RR S d 25 43 L (x :: st) h Q) := RR.lda_n rfl rfl rfl
theorem r25_43 : RR S d 25 43 L st h Q = kI (ai_look L 5) (fun x => RR S d 25 45 L (.int x :: st) h Q) := RR.ldi rfl rfl
theorem r25_45 {p0 : Int32} {a : Nat} : RR S (d + 1) 25 45 L (.int p0 :: .ref a :: st) h Q = kB (decide (ai_sum st ≤ 8)) (kB ((ai_obj h a 2).isSome) (RR S d 23 0 [(0, .ref a), (1, .int p0)] [] h (fun r h1 => RR S (d + 1) 25 48 L (r.toList ++ st) h1 Q))) := RR.cv (j := 71) (mn' := 23) (n := 1) rfl rfl rfl rfl rfl rfl
theorem r25_48 {x y : Int32} : RR S d 25 48 L (.int y :: .int x :: st) h Q = RR S d 25 49 L (.int (x + y) :: st) h Q := RR.do1 (49, L, .int (x + y) :: st, h) rfl rfl rfl
theorem r25_49 {x y : Int32} : RR S d 25 49 L (.int y :: .int x :: st) h Q = RR S d 25 50 L (.int (x + y) :: st) h Q := RR.do1 (50, L, .int (x + y) :: st, h) rfl rfl rfl
theorem r25_50 {x : Int32} : RR S d 25 50 L (.int x :: st) h Q = RR S d 25 51 (ai_put 3 (.int x) L) st h Q := RR.do1 (51, ai_put 3 (.int x) L, st, h) rfl rfl rfl
theorem r25_51 : RR S d 25 51 L st h Q = kI (ai_look L 4) (fun x => RR S d 25 54 (ai_put 4 (.int (x + 1)) L) st h Q) := RR.iinc (k := 4) (n := 1) rfl (by decide) (by decide) rfl
theorem r25_54 : RR S d 25 54 L st h Q = RR S d 25 8 L st h Q := RR.jmp (off := (-46)) rfl (by decide)
theorem r25_57 : RR S d 25 57 L st h Q = kI (ai_look L 3) (fun x => RR S d 25 58 L (.int x :: st) h Q) := RR.ldi_n rfl rfl rfl
theorem r25_58 {x : Int32} : RR S d 25 58 L [.int x] h Q = Q (some (.int x)) h := RR.rt rfl rfl rfl
theorem r26_0 : RR S d 26 0 L st h Q = kA (ai_look L 0) (fun x => RR S d 26 1 L (x :: st) h Q) := RR.lda_n rfl rfl rfl
theorem r26_1 : RR S d 26 1 L st h Q = kA (ai_look L 1) (fun x => RR S d 26 2 L (x :: st) h Q) := RR.lda_n rfl rfl rfl
theorem r26_2 : RR S d 26 2 L st h Q = kI (ai_look L 3) (fun x => RR S d 26 3 L (.int x :: st) h Q) := RR.ldi_n rfl rfl rfl
theorem r26_3 {p0 : Nat} {p1 : Int32} {a : Nat} : RR S (d + 1) 26 3 L (.int p1 :: .ref p0 :: .ref a :: st) h Q = kB (decide (ai_sum st ≤ 8)) (kB ((ai_obj h a 2).isSome) (RR S d 25 0 [(0, .ref a), (1, .ref p0), (2, .int p1)] [] h (fun r h1 => RR S (d + 1) 26 6 L (r.toList ++ st) h1 Q))) := RR.cv (j := 75) (mn' := 25) (n := 2) rfl rfl rfl rfl rfl rfl
theorem r26_6 : RR S d 26 6 L st h Q = kI (ai_look L 2) (fun x => RR S d 26 7 L (.int x :: st) h Q) := RR.ldi_n rfl rfl rfl
theorem r26_7 : RR S d 26 7 L st h Q = kA (ai_look L 1) (fun x => RR S d 26 8 L (x :: st) h Q) := RR.lda_n rfl rfl rfl
theorem r26_8 {a : Nat} : RR S d 26 8 L (.ref a :: st) h Q = kO (ai_fld h a 6 1) (fun w => RR S d 26 11 L (w :: st) h Q) := RR.get rfl rfl rfl
theorem r26_11 {x y : Int32} : RR S d 26 11 L (.int y :: .int x :: st) h Q = RR S d 26 12 L (.int (x * y) :: st) h Q := RR.do1 (12, L, .int (x * y) :: st, h) rfl rfl rfl
theorem r26_12 {x y : Int32} : RR S d 26 12 L (.int y :: .int x :: st) h Q = RR S d 26 13 L (.int (x + y) :: st) h Q := RR.do1 (13, L, .int (x + y) :: st, h) rfl rfl rfl
theorem r26_13 : RR S d 26 13 L st h Q = kA (ai_look L 0) (fun x => RR S d 26 14 L (x :: st) h Q) := RR.lda_n rfl rfl rfl
theorem r26_14 : RR S d 26 14 L st h Q = kA (ai_look L 1) (fun x => RR S d 26 15 L (x :: st) h Q) := RR.lda_n rfl rfl rfl
theorem r26_15 {a : Nat} : RR S (d + 1) 26 15 L (.ref a :: st) h Q = kB (decide (ai_sum st ≤ 8)) (kB ((ai_obj h a 6).isSome) (RR S d 63 0 [(0, .ref a)] [] h (fun r h1 => RR S (d + 1) 26 18 L (r.toList ++ st) h1 Q))) := RR.cv (j := 55) (mn' := 63) (n := 0) rfl rfl rfl rfl rfl rfl
theorem r26_18 : RR S d 26 18 L st h Q = kI (ai_look L 3) (fun x => RR S d 26 19 L (.int x :: st) h Q) := RR.ldi_n rfl rfl rfl
theorem r26_19 {p0 : Int32} {p1 : Int32} : RR S (d + 1) 26 19 L (.int p1 :: .int p0 :: st) h Q = kB (decide (ai_sum st ≤ 8)) (RR S d 73 0 [(0, .int p0), (1, .int p1)] [] h (fun r h1 => RR S (d + 1) 26 22 L (r.toList ++ st) h1 Q)) := RR.cs (j := 59) (mn' := 73) (n := 2) rfl rfl rfl rfl (by simp) rfl rfl
theorem r26_22 {p0 : Int32} {a : Nat} : RR S (d + 1) 26 22 L (.int p0 :: .ref a :: st) h Q = kB (decide (ai_sum st ≤ 8)) (kB ((ai_obj h a 2).isSome) (RR S d 24 0 [(0, .ref a), (1, .int p0)] [] h (fun r h1 => RR S (d + 1) 26 25 L (r.toList ++ st) h1 Q))) := RR.cv (j := 82) (mn' := 24) (n := 1) rfl rfl rfl rfl rfl rfl
theorem r26_25 {x y : Int32} : RR S d 26 25 L (.int y :: .int x :: st) h Q = RR S d 26 26 L (.int (x + y) :: st) h Q := RR.do1 (26, L, .int (x + y) :: st, h) rfl rfl rfl
theorem r26_26 {x : Int32} : RR S d 26 26 L [.int x] h Q = Q (some (.int x)) h := RR.rt rfl rfl rfl
theorem r27_0 : RR S d 27 0 L st h Q = kA (ai_look L 1) (fun x => RR S d 27 1 L (x :: st) h Q) := RR.lda_n rfl rfl rfl
theorem r27_1 {a : Nat} : RR S (d + 1) 27 1 L (.ref a :: st) h Q = kB (decide (ai_sum st ≤ 8)) (kB ((ai_obj h a 6).isSome) (RR S d 63 0 [(0, .ref a)] [] h (fun r h1 => RR S (d + 1) 27 4 L (r.toList ++ st) h1 Q))) := RR.cv (j := 55) (mn' := 63) (n := 0) rfl rfl rfl rfl rfl rfl
theorem r27_4 : RR S d 27 4 L st h Q = kI (ai_look L 2) (fun x => RR S d 27 5 L (.int x :: st) h Q) := RR.ldi_n rfl rfl rfl
theorem r27_5 {p0 : Int32} {p1 : Int32} : RR S (d + 1) 27 5 L (.int p1 :: .int p0 :: st) h Q = kB (decide (ai_sum st ≤ 8)) (RR S d 76 0 [(0, .int p0), (1, .int p1)] [] h (fun r h1 => RR S (d + 1) 27 8 L (r.toList ++ st) h1 Q)) := RR.cs (j := 85) (mn' := 76) (n := 2) rfl rfl rfl rfl (by simp) rfl rfl
theorem r27_8 {x : Int32} : RR S d 27 8 L (.int x :: st) h Q = RR S d 27 10 (ai_put 4 (.int x) L) st h Q := RR.do1 (10, ai_put 4 (.int x) L, st, h) rfl rfl rfl
theorem r27_10 : RR S d 27 10 L st h Q = kI (ai_look L 4) (fun x => RR S d 27 12 L (.int x :: st) h Q) := RR.ldi rfl rfl
theorem r27_12 : RR S d 27 12 L st h Q = RR S d 27 13 L (.int (-1) :: st) h Q := RR.icn (n := (-1)) rfl (by decide) rfl
theorem r27_13 {x y : Int32} : RR S d 27 13 L (.int y :: .int x :: st) h Q = if x = y then RR S d 27 48 L st h Q else RR S d 27 16 L st h Q := RR.b2 (c := .eq) (off := 35) rfl rfl (by decide) rfl
theorem r27_16 : RR S d 27 16 L st h Q = kI (ai_look L 3) (fun x => RR S d 27 17 L (.int x :: st) h Q) := RR.ldi_n rfl rfl rfl
theorem r27_17 : RR S d 27 17 L st h Q = kA (ai_look L 0) (fun x => RR S d 27 18 L (x :: st) h Q) := RR.lda_n rfl rfl rfl
theorem r27_18 : RR S d 27 18 L st h Q = kA (ai_look L 1) (fun x => RR S d 27 19 L (x :: st) h Q) := RR.lda_n rfl rfl rfl
theorem r27_19 : RR S d 27 19 L st h Q = kI (ai_look L 4) (fun x => RR S d 27 21 L (.int x :: st) h Q) := RR.ldi rfl rfl
theorem r27_21 {p0 : Nat} {p1 : Int32} {a : Nat} : RR S (d + 1) 27 21 L (.int p1 :: .ref p0 :: .ref a :: st) h Q = kB (decide (ai_sum st ≤ 8)) (kB ((ai_obj h a 2).isSome) (RR S d 25 0 [(0, .ref a), (1, .ref p0), (2, .int p1)] [] h (fun r h1 => RR S (d + 1) 27 24 L (r.toList ++ st) h1 Q))) := RR.cv (j := 75) (mn' := 25) (n := 2) rfl rfl rfl rfl rfl rfl
theorem r27_24 {x y : Int32} : RR S d 27 24 L (.int y :: .int x :: st) h Q = RR S d 27 25 L (.int (x - y) :: st) h Q := RR.do1 (25, L, .int (x - y) :: st, h) rfl rfl rfl
theorem r27_25 : RR S d 27 25 L st h Q = kA (ai_look L 1) (fun x => RR S d 27 26 L (x :: st) h Q) := RR.lda_n rfl rfl rfl
theorem r27_26 {a : Nat} : RR S d 27 26 L (.ref a :: st) h Q = kO (ai_fld h a 6 1) (fun w => RR S d 27 29 L (w :: st) h Q) := RR.get rfl rfl rfl
theorem r27_29 {p0 : Int32} {p1 : Int32} : RR S (d + 1) 27 29 L (.int p1 :: .int p0 :: st) h Q = kB (decide (ai_sum st ≤ 8)) (RR S d 162 0 [(0, .int p0), (1, .int p1)] [] h (fun r h1 => RR S (d + 1) 27 32 L (r.toList ++ st) h1 Q)) := RR.cs (j := 88) (mn' := 162) (n := 2) rfl rfl rfl rfl (by simp) rfl rfl
theorem r27_32 : RR S d 27 32 L st h Q = kA (ai_look L 0) (fun x => RR S d 27 33 L (x :: st) h Q) := RR.lda_n rfl rfl rfl
theorem r27_33 : RR S d 27 33 L st h Q = kI (ai_look L 2) (fun x => RR S d 27 34 L (.int x :: st) h Q) := RR.ldi_n rfl rfl rfl
theorem r27_34 : RR S d 27 34 L st h Q = kA (ai_look L 1) (fun x => RR S d 27 35 L (x :: st) h Q) := RR.lda_n rfl rfl rfl
theorem r27_35 {a : Nat} : RR S d 27 35 L (.ref a :: st) h Q = kO (ai_fld h a 6 0) (fun w => RR S d 27 38 L (w :: st) h Q) := RR.get rfl rfl rfl
theorem r27_38 {p0 : Int32} {p1 : Int32} {a : Nat} : RR S (d + 1) 27 38 L (.int p1 :: .int p0 :: .ref a :: st) h Q = kB (decide (ai_sum st ≤ 8)) (kB ((ai_obj h a 2).isSome) (RR S d 20 0 [(0, .ref a), (1, .int p0), (2, .int p1)] [] h (fun r h1 => RR S (d + 1) 27 41 L (r.toList ++ st) h1 Q))) := RR.cv (j := 93) (mn' := 20) (n := 2) rfl rfl rfl rfl rfl rfl
theorem r27_41 {x y : Int32} : RR S d 27 41 L (.int y :: .int x :: st) h Q = if y ≤ x then RR S d 27 48 L st h Q else RR S d 27 44 L st h Q := RR.b2 (c := .ge) (off := 7) rfl rfl (by decide) rfl
theorem r27_44 : RR S d 27 44 L st h Q = RR S d 27 45 L (.int 1 :: st) h Q := RR.icn (n := 1) rfl (by decide) rfl
theorem r27_45 : RR S d 27 45 L st h Q = RR S d 27 49 L st h Q := RR.jmp (off := 4) rfl (by decide)
theorem r27_48 : RR S d 27 48 L st h Q = RR S d 27 49 L (.int 0 :: st) h Q := RR.icn (n := 0) rfl (by decide) rfl
theorem r27_49f : RR S d 27 49 L [.int 0] h Q = Q (some (.int 0)) h := RR.zrt rfl rfl (by decide)
theorem r27_49t : RR S d 27 49 L [.int 1] h Q = Q (some (.int 1)) h := RR.zrt rfl rfl (by decide)
theorem r28_0 : RR S d 28 0 L st h Q = kA (ai_look L 0) (fun x => RR S d 28 1 L (x :: st) h Q) := RR.lda_n rfl rfl rfl
theorem r28_1 {a : Nat} : RR S d 28 1 L (.ref a :: st) h Q = kB (decide (ai_sum st ≤ 8)) (RR S d 28 4 L st h Q) := RR.oin (j := 3) rfl rfl rfl
theorem r28_4 : RR S d 28 4 L st h Q = kA (ai_look L 0) (fun x => RR S d 28 5 L (x :: st) h Q) := RR.lda_n rfl rfl rfl
theorem r28_5 : RR S d 28 5 L st h Q = RR S d 28 7 L (.int 8 :: st) h Q := RR.bip (n := 8) rfl (by decide) rfl
theorem r28_7 {n : Int32} : RR S d 28 7 L (.int n :: st) h Q = kB (decide (¬ n < 0) && decide (n.toNatClampNeg ≤ 100000)) (RR S d 28 10 L (.ref h.1.length :: st) (h.1 ++ [.inl (3, n.toNatClampNeg, .inr (fun _ => none))], h.2 + n.toNatClampNeg) Q) := RR.newq rfl rfl rfl rfl
theorem r28_10 {x : Nat} {a : Nat} : RR S d 28 10 L (.ref x :: .ref a :: st) h Q = kO (ai_obj h a 3) (fun fs => kB (decide (2 < fs.length)) (RR S d 28 13 L st (h.1.set a (.inr (3, fs.set 2 (.ref x))), h.2) Q)) := RR.put rfl rfl (ai_okp_r (by decide +kernel)) rfl
theorem r28_13 : RR S d 28 13 L st h Q = kA (ai_look L 0) (fun x => RR S d 28 14 L (x :: st) h Q) := RR.lda_n rfl rfl rfl
theorem r28_14 : RR S d 28 14 L st h Q = RR S d 28 16 L (.int 8 :: st) h Q := RR.bip (n := 8) rfl (by decide) rfl
theorem r28_16 {n : Int32} : RR S d 28 16 L (.int n :: st) h Q = kB (decide (¬ n < 0) && decide (n.toNatClampNeg ≤ 100000)) (RR S d 28 19 L (.ref h.1.length :: st) (h.1 ++ [.inl (2, n.toNatClampNeg, .inr (fun _ => none))], h.2 + n.toNatClampNeg) Q) := RR.newq rfl rfl rfl rfl
theorem r28_19 {x : Nat} {a : Nat} : RR S d 28 19 L (.ref x :: .ref a :: st) h Q = kO (ai_obj h a 3) (fun fs => kB (decide (3 < fs.length)) (RR S d 28 22 L st (h.1.set a (.inr (3, fs.set 3 (.ref x))), h.2) Q)) := RR.put rfl rfl (ai_okp_r (by decide +kernel)) rfl
theorem r28_22 : RR S d 28 22 L st h Q = kA (ai_look L 0) (fun x => RR S d 28 23 L (x :: st) h Q) := RR.lda_n rfl rfl rfl
theorem r28_23 : RR S d 28 23 L st h Q = RR S d 28 25 L (.int 8 :: st) h Q := RR.bip (n := 8) rfl (by decide) rfl
theorem r28_25 {n : Int32} : RR S d 28 25 L (.int n :: st) h Q = kB (decide (¬ n < 0) && decide (n.toNatClampNeg ≤ 100000)) (RR S d 28 27 L (.ref h.1.length :: st) (h.1 ++ [.inl (0, n.toNatClampNeg, .inl (fun _ => 0))], h.2 + n.toNatClampNeg) Q) := RR.newa0 rfl rfl
theorem r28_27 {x : Nat} {a : Nat} : RR S d 28 27 L (.ref x :: .ref a :: st) h Q = kO (ai_obj h a 3) (fun fs => kB (decide (4 < fs.length)) (RR S d 28 30 L st (h.1.set a (.inr (3, fs.set 4 (.ref x))), h.2) Q)) := RR.put rfl rfl (ai_okp_r (by decide +kernel)) rfl
theorem r28_30 : RR S d 28 30 L st h Q = kA (ai_look L 0) (fun x => RR S d 28 31 L (x :: st) h Q) := RR.lda_n rfl rfl rfl
theorem r28_31 : RR S d 28 31 L st h Q = RR S d 28 33 L (.int 8 :: st) h Q := RR.bip (n := 8) rfl (by decide) rfl
theorem r28_33 {n : Int32} : RR S d 28 33 L (.int n :: st) h Q = kB (decide (¬ n < 0) && decide (n.toNatClampNeg ≤ 100000)) (RR S d 28 35 L (.ref h.1.length :: st) (h.1 ++ [.inl (0, n.toNatClampNeg, .inl (fun _ => 0))], h.2 + n.toNatClampNeg) Q) := RR.newa0 rfl rfl
theorem r28_35 {x : Nat} {a : Nat} : RR S d 28 35 L (.ref x :: .ref a :: st) h Q = kO (ai_obj h a 3) (fun fs => kB (decide (5 < fs.length)) (RR S d 28 38 L st (h.1.set a (.inr (3, fs.set 5 (.ref x))), h.2) Q)) := RR.put rfl rfl (ai_okp_r (by decide +kernel)) rfl
theorem r28_38 : RR S d 28 38 L st h Q = kA (ai_look L 0) (fun x => RR S d 28 39 L (x :: st) h Q) := RR.lda_n rfl rfl rfl
theorem r28_39 : RR S d 28 39 L st h Q = RR S d 28 40 L (.int 0 :: st) h Q := RR.icn (n := 0) rfl (by decide) rfl
theorem r28_40 {x : Int32} {a : Nat} : RR S d 28 40 L (.int x :: .ref a :: st) h Q = kO (ai_obj h a 3) (fun fs => kB (decide (6 < fs.length)) (RR S d 28 43 L st (h.1.set a (.inr (3, fs.set 6 (.int x))), h.2) Q)) := RR.put rfl rfl (ai_okp_i rfl (by decide +kernel)) rfl
theorem r28_43 : RR S d 28 43 L st h Q = kA (ai_look L 0) (fun x => RR S d 28 44 L (x :: st) h Q) := RR.lda_n rfl rfl rfl
theorem r28_44 : RR S d 28 44 L st h Q = RR S d 28 45 L (.int 0 :: st) h Q := RR.icn (n := 0) rfl (by decide) rfl
theorem r28_45 {x : Int32} {a : Nat} : RR S d 28 45 L (.int x :: .ref a :: st) h Q = kO (ai_obj h a 3) (fun fs => kB (decide (7 < fs.length)) (RR S d 28 48 L st (h.1.set a (.inr (3, fs.set 7 (.int x))), h.2) Q)) := RR.put rfl rfl (ai_okp_i rfl (by decide +kernel)) rfl
theorem r28_48 : RR S d 28 48 L st h Q = kA (ai_look L 0) (fun x => RR S d 28 49 L (x :: st) h Q) := RR.lda_n rfl rfl rfl
theorem r28_49 : RR S d 28 49 L st h Q = kA (ai_look L 2) (fun x => RR S d 28 50 L (x :: st) h Q) := RR.lda_n rfl rfl rfl
theorem r28_50 {x : Nat} {a : Nat} : RR S d 28 50 L (.ref x :: .ref a :: st) h Q = kO (ai_obj h a 3) (fun fs => kB (decide (0 < fs.length)) (RR S d 28 53 L st (h.1.set a (.inr (3, fs.set 0 (.ref x))), h.2) Q)) := RR.put rfl rfl (ai_okp_r (by decide +kernel)) rfl
theorem r28_53 : RR S d 28 53 L st h Q = kA (ai_look L 0) (fun x => RR S d 28 54 L (x :: st) h Q) := RR.lda_n rfl rfl rfl
theorem r28_54 : RR S d 28 54 L st h Q = kA (ai_look L 3) (fun x => RR S d 28 55 L (x :: st) h Q) := RR.lda_n rfl rfl rfl
theorem r28_55 {x : Nat} {a : Nat} : RR S d 28 55 L (.ref x :: .ref a :: st) h Q = kO (ai_obj h a 3) (fun fs => kB (decide (1 < fs.length)) (RR S d 28 58 L st (h.1.set a (.inr (3, fs.set 1 (.ref x))), h.2) Q)) := RR.put rfl rfl (ai_okp_r (by decide +kernel)) rfl
theorem r28_58 : RR S d 28 58 L st h Q = RR S d 28 59 L (.int 0 :: st) h Q := RR.icn (n := 0) rfl (by decide) rfl
theorem r28_59 {x : Int32} : RR S d 28 59 L (.int x :: st) h Q = RR S d 28 61 (ai_put 4 (.int x) L) st h Q := RR.do1 (61, ai_put 4 (.int x) L, st, h) rfl rfl rfl
theorem r28_61 : RR S d 28 61 L st h Q = kI (ai_look L 4) (fun x => RR S d 28 63 L (.int x :: st) h Q) := RR.ldi rfl rfl
theorem r28_63 : RR S d 28 63 L st h Q = RR S d 28 65 L (.int 8 :: st) h Q := RR.bip (n := 8) rfl (by decide) rfl
theorem r28_65 {x y : Int32} : RR S d 28 65 L (.int y :: .int x :: st) h Q = if y ≤ x then RR S d 28 89 L st h Q else RR S d 28 68 L st h Q := RR.b2 (c := .ge) (off := 24) rfl rfl (by decide) rfl
theorem r28_68 : RR S d 28 68 L st h Q = kA (ai_look L 0) (fun x => RR S d 28 69 L (x :: st) h Q) := RR.lda_n rfl rfl rfl
theorem r28_69 {a : Nat} : RR S d 28 69 L (.ref a :: st) h Q = kO (ai_fld h a 3 3) (fun w => RR S d 28 72 L (w :: st) h Q) := RR.get rfl rfl rfl
theorem r28_72 : RR S d 28 72 L st h Q = kI (ai_look L 4) (fun x => RR S d 28 74 L (.int x :: st) h Q) := RR.ldi rfl rfl
theorem r28_74 : RR S d 28 74 L st h Q = RR S d 28 77 L (.ref h.1.length :: st) (h.1 ++ [.inr (5, [.null, .long 0, .long 0])], h.2 + 3) Q := RR.do1 (77, L, .ref h.1.length :: st, (h.1 ++ [.inr (5, [.null, .long 0, .long 0])], h.2 + 3)) rfl rfl rfl
theorem r28_77 {v : Value} (hv : v.category = 1) : RR S d 28 77 L (v :: st) h Q = RR S d 28 78 L (v :: v :: st) h Q := RR.dup rfl hv rfl
theorem r28_78 : RR S d 28 78 L st h Q = kA (ai_look L 1) (fun x => RR S d 28 79 L (x :: st) h Q) := RR.lda_n rfl rfl rfl
theorem r28_79 {p0 : Nat} {a : Nat} : RR S (d + 1) 28 79 L (.ref p0 :: .ref a :: st) h Q = kB (decide (ai_sum st ≤ 8)) (RR S d 50 0 [(0, .ref a), (1, .ref p0)] [] h (fun r h1 => RR S (d + 1) 28 82 L (r.toList ++ st) h1 Q)) := RR.ci (j := 45) (mn' := 50) (n := 1) rfl rfl rfl rfl rfl rfl rfl
theorem r28_82n {x : Int32} {a : Nat} : RR S d 28 82 L (.null :: .int x :: .ref a :: st) h Q = kO (ai_arq h a) (fun q => kB (ai_in x q.2.1 && (decide (2 ≤ q.1) && decide (q.1 < 5))) (RR S d 28 83 L st (h.1.set a (.inl (q.1, q.2.1, .inr (va_up q.2.2 x.toNatClampNeg none))), h.2) Q)) := RR.aasn rfl rfl
theorem r28_82 {x : Int32} {a w : Nat} : RR S d 28 82 L (.ref w :: .int x :: .ref a :: st) h Q = kO (ai_arq h a) (fun q => kB (ai_in x q.2.1 && (decide (2 ≤ q.1) && decide (q.1 < 5))) (kO (ai_cno h w) (fun c => kB (decide (ai_ao c = some q.1)) (RR S d 28 83 L st (h.1.set a (.inl (q.1, q.2.1, .inr (va_up q.2.2 x.toNatClampNeg (some w)))), h.2) Q)))) := RR.aasr rfl rfl
theorem r28_83 : RR S d 28 83 L st h Q = kI (ai_look L 4) (fun x => RR S d 28 86 (ai_put 4 (.int (x + 1)) L) st h Q) := RR.iinc (k := 4) (n := 1) rfl (by decide) (by decide) rfl
theorem r28_86 : RR S d 28 86 L st h Q = RR S d 28 61 L st h Q := RR.jmp (off := (-25)) rfl (by decide)
theorem r28_89 : RR S d 28 89 L [] h Q = Q none h := RR.rt rfl rfl rfl
theorem r29_0 : RR S d 29 0 L st h Q = kA (ai_look L 0) (fun x => RR S d 29 1 L (x :: st) h Q) := RR.lda_n rfl rfl rfl
theorem r29_1 : RR S d 29 1 L st h Q = RR S d 29 2 L (.int 0 :: st) h Q := RR.icn (n := 0) rfl (by decide) rfl
theorem r29_2 {x : Int32} {a : Nat} : RR S d 29 2 L (.int x :: .ref a :: st) h Q = kO (ai_obj h a 3) (fun fs => kB (decide (7 < fs.length)) (RR S d 29 5 L st (h.1.set a (.inr (3, fs.set 7 (.int x))), h.2) Q)) := RR.put rfl rfl (ai_okp_i rfl (by decide +kernel)) rfl
theorem r29_5 : RR S d 29 5 L [] h Q = Q none h := RR.rt rfl rfl rfl
theorem r30_0 : RR S d 30 0 L st h Q = kA (ai_look L 0) (fun x => RR S d 30 1 L (x :: st) h Q) := RR.lda_n rfl rfl rfl
theorem r30_1 {a : Nat} : RR S d 30 1 L (.ref a :: st) h Q = kO (ai_fld h a 3 0) (fun w => RR S d 30 4 L (w :: st) h Q) := RR.get rfl rfl rfl
theorem r30_4 {a : Nat} : RR S (d + 1) 30 4 L (.ref a :: st) h Q = kB (decide (ai_sum st ≤ 8)) (kB ((ai_obj h a 7).isSome) (RR S d 69 0 [(0, .ref a)] [] h (fun r h1 => RR S (d + 1) 30 7 L (r.toList ++ st) h1 Q))) := RR.cv (j := 48) (mn' := 69) (n := 0) rfl rfl rfl rfl rfl rfl
theorem r30_7 {x : Int32} : RR S d 30 7 L (.int x :: st) h Q = RR S d 30 8 (ai_put 1 (.int x) L) st h Q := RR.do1 (8, ai_put 1 (.int x) L, st, h) rfl rfl rfl
theorem r30_8 : RR S d 30 8 L st h Q = kA (ai_look L 0) (fun x => RR S d 30 9 L (x :: st) h Q) := RR.lda_n rfl rfl rfl
theorem r30_9 {a : Nat} : RR S d 30 9 L (.ref a :: st) h Q = kO (ai_fld h a 3 0) (fun w => RR S d 30 12 L (w :: st) h Q) := RR.get rfl rfl rfl
theorem r30_12 {a : Nat} : RR S (d + 1) 30 12 L (.ref a :: st) h Q = kB (decide (ai_sum st ≤ 8)) (kB ((ai_obj h a 7).isSome) (RR S d 70 0 [(0, .ref a)] [] h (fun r h1 => RR S (d + 1) 30 15 L (r.toList ++ st) h1 Q))) := RR.cv (j := 54) (mn' := 70) (n := 0) rfl rfl rfl rfl rfl rfl
theorem r30_15 {x : Int32} : RR S d 30 15 L (.int x :: st) h Q = RR S d 30 16 (ai_put 2 (.int x) L) st h Q := RR.do1 (16, ai_put 2 (.int x) L, st, h) rfl rfl rfl
theorem r30_16 : RR S d 30 16 L st h Q = RR S d 30 17 L (.int 0 :: st) h Q := RR.icn (n := 0) rfl (by decide) rfl
theorem r30_17 {x : Int32} : RR S d 30 17 L (.int x :: st) h Q = RR S d 30 18 (ai_put 3 (.int x) L) st h Q := RR.do1 (18, ai_put 3 (.int x) L, st, h) rfl rfl rfl
theorem r30_18 : RR S d 30 18 L st h Q = kI (ai_look L 3) (fun x => RR S d 30 19 L (.int x :: st) h Q) := RR.ldi_n rfl rfl rfl
theorem r30_19 : RR S d 30 19 L st h Q = RR S d 30 20 L (.int 3 :: st) h Q := RR.icn (n := 3) rfl (by decide) rfl
theorem r30_20 {x y : Int32} : RR S d 30 20 L (.int y :: .int x :: st) h Q = if y < x then RR S d 30 101 L st h Q else RR S d 30 23 L st h Q := RR.b2 (c := .gt) (off := 81) rfl rfl (by decide) rfl
theorem r30_23 : RR S d 30 23 L st h Q = RR S d 30 26 L (.int 255 :: st) h Q := RR.sip (n := 255) rfl (by decide) rfl
theorem r30_26 {x : Int32} : RR S d 30 26 L (.int x :: st) h Q = RR S d 30 28 (ai_put 4 (.int x) L) st h Q := RR.do1 (28, ai_put 4 (.int x) L, st, h) rfl rfl rfl
theorem r30_28 : RR S d 30 28 L st h Q = kI (ai_look L 4) (fun x => RR S d 30 30 L (.int x :: st) h Q) := RR.ldi rfl rfl
theorem r30_30 {x : Int32} : RR S d 30 30 L (.int x :: st) h Q = if x < 0 then RR S d 30 95 L st h Q else RR S d 30 33 L st h Q := RR.b1 (c := .lt) (off := 65) rfl rfl (by decide) rfl
theorem r30_33 : RR S d 30 33 L st h Q = kI (ai_look L 4) (fun x => RR S d 30 35 L (.int x :: st) h Q) := RR.ldi rfl rfl
theorem r30_35 {p0 : Int32} : RR S (d + 1) 30 35 L (.int p0 :: st) h Q = kB (decide (ai_sum st ≤ 8)) (RR S d 31 0 [(0, .int p0)] [] h (fun r h1 => RR S (d + 1) 30 38 L (r.toList ++ st) h1 Q)) := RR.cs (j := 57) (mn' := 31) (n := 1) rfl rfl rfl rfl (by simp) rfl rfl
theorem r30_38 {x : Int32} : RR S d 30 38 L (.int x :: st) h Q = RR S d 30 40 (ai_put 5 (.int x) L) st h Q := RR.do1 (40, ai_put 5 (.int x) L, st, h) rfl rfl rfl
theorem r30_40 : RR S d 30 40 L st h Q = kI (ai_look L 5) (fun x => RR S d 30 42 L (.int x :: st) h Q) := RR.ldi rfl rfl
theorem r30_42 : RR S d 30 42 L st h Q = kI (ai_look L 1) (fun x => RR S d 30 43 L (.int x :: st) h Q) := RR.ldi_n rfl rfl rfl
theorem r30_43 : RR S d 30 43 L st h Q = RR S d 30 44 L (.int (-1) :: st) h Q := RR.icn (n := (-1)) rfl (by decide) rfl
theorem r30_44 {x y : Int32} : RR S d 30 44 L (.int y :: .int x :: st) h Q = RR S d 30 45 L (.int (x ^^^ y) :: st) h Q := RR.do1 (45, L, .int (x ^^^ y) :: st, h) rfl rfl rfl
theorem r30_45 {x y : Int32} : RR S d 30 45 L (.int y :: .int x :: st) h Q = RR S d 30 46 L (.int (x &&& y) :: st) h Q := RR.do1 (46, L, .int (x &&& y) :: st, h) rfl rfl rfl
theorem r30_46 {x : Int32} : RR S d 30 46 L (.int x :: st) h Q = if ¬ x = 0 then RR S d 30 89 L st h Q else RR S d 30 49 L st h Q := RR.b1 (c := .ne) (off := 43) rfl rfl (by decide) rfl
theorem r30_49 : RR S d 30 49 L st h Q = kI (ai_look L 5) (fun x => RR S d 30 51 L (.int x :: st) h Q) := RR.ldi rfl rfl
theorem r30_51 {p0 : Int32} : RR S (d + 1) 30 51 L (.int p0 :: st) h Q = kB (decide (ai_sum st ≤ 8)) (RR S d 161 0 [(0, .int p0)] [] h (fun r h1 => RR S (d + 1) 30 54 L (r.toList ++ st) h1 Q)) := RR.cs (j := 61) (mn' := 161) (n := 1) rfl rfl rfl rfl (by simp) rfl rfl
theorem r30_54 : RR S d 30 54 L st h Q = kI (ai_look L 3) (fun x => RR S d 30 55 L (.int x :: st) h Q) := RR.ldi_n rfl rfl rfl
theorem r30_55 {x y : Int32} : RR S d 30 55 L (.int y :: .int x :: st) h Q = if x = y then RR S d 30 61 L st h Q else RR S d 30 58 L st h Q := RR.b2 (c := .eq) (off := 6) rfl rfl (by decide) rfl
theorem r30_58 : RR S d 30 58 L st h Q = RR S d 30 89 L st h Q := RR.jmp (off := 31) rfl (by decide)
theorem r30_61 : RR S d 30 61 L st h Q = kA (ai_look L 0) (fun x => RR S d 30 62 L (x :: st) h Q) := RR.lda_n rfl rfl rfl
theorem r30_62 : RR S d 30 62 L st h Q = kI (ai_look L 5) (fun x => RR S d 30 64 L (.int x :: st) h Q) := RR.ldi rfl rfl
theorem r30_64 : RR S d 30 64 L st h Q = kI (ai_look L 2) (fun x => RR S d 30 65 L (.int x :: st) h Q) := RR.ldi_n rfl rfl rfl
theorem r30_65 {x y : Int32} : RR S d 30 65 L (.int y :: .int x :: st) h Q = RR S d 30 66 L (.int (x ||| y) :: st) h Q := RR.do1 (66, L, .int (x ||| y) :: st, h) rfl rfl rfl
theorem r30_66 {p0 : Int32} {a : Nat} : RR S (d + 1) 30 66 L (.int p0 :: .ref a :: st) h Q = kB (decide (ai_sum st ≤ 8)) (kB ((ai_obj h a 3).isSome) (RR S d 32 0 [(0, .ref a), (1, .int p0)] [] h (fun r h1 => RR S (d + 1) 30 69 L (r.toList ++ st) h1 Q))) := RR.cv (j := 66) (mn' := 32) (n := 1) rfl rfl rfl rfl rfl rfl
theorem r30_69 {x : Int32} : RR S d 30 69 L (.int x :: st) h Q = RR S d 30 71 (ai_put 6 (.int x) L) st h Q := RR.do1 (71, ai_put 6 (.int x) L, st, h) rfl rfl rfl
theorem r30_71 : RR S d 30 71 L st h Q = kI (ai_look L 6) (fun x => RR S d 30 73 L (.int x :: st) h Q) := RR.ldi rfl rfl
theorem r30_73 {x : Int32} : RR S d 30 73 L (.int x :: st) h Q = if x = 0 then RR S d 30 89 L st h Q else RR S d 30 76 L st h Q := RR.b1 (c := .eq) (off := 16) rfl rfl (by decide) rfl
theorem r30_76 : RR S d 30 76 L st h Q = kI (ai_look L 6) (fun x => RR S d 30 78 L (.int x :: st) h Q) := RR.ldi rfl rfl
theorem r30_78 : RR S d 30 78 L st h Q = RR S d 30 79 L (.int 1 :: st) h Q := RR.icn (n := 1) rfl (by decide) rfl
theorem r30_79 {x y : Int32} : RR S d 30 79 L (.int y :: .int x :: st) h Q = if ¬ x = y then RR S d 30 86 L st h Q else RR S d 30 82 L st h Q := RR.b2 (c := .ne) (off := 7) rfl rfl (by decide) rfl
theorem r30_82 : RR S d 30 82 L st h Q = kI (ai_look L 3) (fun x => RR S d 30 83 L (.int x :: st) h Q) := RR.ldi_n rfl rfl rfl
theorem r30_83 : RR S d 30 83 L st h Q = RR S d 30 88 L st h Q := RR.jmp (off := 5) rfl (by decide)
theorem r30_86 : RR S d 30 86 L st h Q = kI (ai_look L 6) (fun x => RR S d 30 88 L (.int x :: st) h Q) := RR.ldi rfl rfl
theorem r30_88 {x : Int32} : RR S d 30 88 L [.int x] h Q = Q (some (.int x)) h := RR.rt rfl rfl rfl
theorem r30_89 : RR S d 30 89 L st h Q = kI (ai_look L 4) (fun x => RR S d 30 92 (ai_put 4 (.int (x + (-1))) L) st h Q) := RR.iinc (k := 4) (n := (-1)) rfl (by decide) (by decide) rfl
theorem r30_92 : RR S d 30 92 L st h Q = RR S d 30 28 L st h Q := RR.jmp (off := (-64)) rfl (by decide)
theorem r30_95 : RR S d 30 95 L st h Q = kI (ai_look L 3) (fun x => RR S d 30 98 (ai_put 3 (.int (x + 1)) L) st h Q) := RR.iinc (k := 3) (n := 1) rfl (by decide) (by decide) rfl
theorem r30_98 : RR S d 30 98 L st h Q = RR S d 30 18 L st h Q := RR.jmp (off := (-80)) rfl (by decide)
theorem r30_101 : RR S d 30 101 L st h Q = RR S d 30 102 L (.int (-1) :: st) h Q := RR.icn (n := (-1)) rfl (by decide) rfl
theorem r30_102 {x : Int32} : RR S d 30 102 L [.int x] h Q = Q (some (.int x)) h := RR.rt rfl rfl rfl
theorem r31_0 : RR S d 31 0 L st h Q = RR S d 31 1 L (.int 0 :: st) h Q := RR.icn (n := 0) rfl (by decide) rfl
theorem r31_1 {x : Int32} : RR S d 31 1 L (.int x :: st) h Q = RR S d 31 2 (ai_put 1 (.int x) L) st h Q := RR.do1 (2, ai_put 1 (.int x) L, st, h) rfl rfl rfl
theorem r31_2 : RR S d 31 2 L st h Q = RR S d 31 3 L (.int 0 :: st) h Q := RR.icn (n := 0) rfl (by decide) rfl
theorem r31_3 {x : Int32} : RR S d 31 3 L (.int x :: st) h Q = RR S d 31 4 (ai_put 2 (.int x) L) st h Q := RR.do1 (4, ai_put 2 (.int x) L, st, h) rfl rfl rfl
theorem r31_4 : RR S d 31 4 L st h Q = kI (ai_look L 2) (fun x => RR S d 31 5 L (.int x :: st) h Q) := RR.ldi_n rfl rfl rfl
theorem r31_5 : RR S d 31 5 L st h Q = RR S d 31 7 L (.int 8 :: st) h Q := RR.bip (n := 8) rfl (by decide) rfl
theorem r31_7 {x y : Int32} : RR S d 31 7 L (.int y :: .int x :: st) h Q = if y ≤ x then RR S d 31 29 L st h Q else RR S d 31 10 L st h Q := RR.b2 (c := .ge) (off := 22) rfl rfl (by decide) rfl
theorem r31_10 : RR S d 31 10 L st h Q = kI (ai_look L 1) (fun x => RR S d 31 11 L (.int x :: st) h Q) := RR.ldi_n rfl rfl rfl
theorem r31_11 : RR S d 31 11 L st h Q = kI (ai_look L 0) (fun x => RR S d 31 12 L (.int x :: st) h Q) := RR.ldi_n rfl rfl rfl
theorem r31_12 : RR S d 31 12 L st h Q = RR S d 31 14 L (.int 7 :: st) h Q := RR.bip (n := 7) rfl (by decide) rfl
theorem r31_14 : RR S d 31 14 L st h Q = kI (ai_look L 2) (fun x => RR S d 31 15 L (.int x :: st) h Q) := RR.ldi_n rfl rfl rfl
theorem r31_15 {x y : Int32} : RR S d 31 15 L (.int y :: .int x :: st) h Q = RR S d 31 16 L (.int (x - y) :: st) h Q := RR.do1 (16, L, .int (x - y) :: st, h) rfl rfl rfl
theorem r31_16 {x y : Int32} : RR S d 31 16 L (.int y :: .int x :: st) h Q = RR S d 31 17 L (.int (x >>> (y &&& 31)) :: st) h Q := RR.do1 (17, L, .int (x >>> (y &&& 31)) :: st, h) rfl rfl rfl
theorem r31_17 : RR S d 31 17 L st h Q = RR S d 31 18 L (.int 1 :: st) h Q := RR.icn (n := 1) rfl (by decide) rfl
theorem r31_18 {x y : Int32} : RR S d 31 18 L (.int y :: .int x :: st) h Q = RR S d 31 19 L (.int (x &&& y) :: st) h Q := RR.do1 (19, L, .int (x &&& y) :: st, h) rfl rfl rfl
theorem r31_19 : RR S d 31 19 L st h Q = kI (ai_look L 2) (fun x => RR S d 31 20 L (.int x :: st) h Q) := RR.ldi_n rfl rfl rfl
theorem r31_20 {x y : Int32} : RR S d 31 20 L (.int y :: .int x :: st) h Q = RR S d 31 21 L (.int (x <<< (y &&& 31)) :: st) h Q := RR.do1 (21, L, .int (x <<< (y &&& 31)) :: st, h) rfl rfl rfl
theorem r31_21 {x y : Int32} : RR S d 31 21 L (.int y :: .int x :: st) h Q = RR S d 31 22 L (.int (x ||| y) :: st) h Q := RR.do1 (22, L, .int (x ||| y) :: st, h) rfl rfl rfl
theorem r31_22 {x : Int32} : RR S d 31 22 L (.int x :: st) h Q = RR S d 31 23 (ai_put 1 (.int x) L) st h Q := RR.do1 (23, ai_put 1 (.int x) L, st, h) rfl rfl rfl
theorem r31_23 : RR S d 31 23 L st h Q = kI (ai_look L 2) (fun x => RR S d 31 26 (ai_put 2 (.int (x + 1)) L) st h Q) := RR.iinc (k := 2) (n := 1) rfl (by decide) (by decide) rfl
theorem r31_26 : RR S d 31 26 L st h Q = RR S d 31 4 L st h Q := RR.jmp (off := (-22)) rfl (by decide)
theorem r31_29 : RR S d 31 29 L st h Q = kI (ai_look L 1) (fun x => RR S d 31 30 L (.int x :: st) h Q) := RR.ldi_n rfl rfl rfl
theorem r31_30 {x : Int32} : RR S d 31 30 L [.int x] h Q = Q (some (.int x)) h := RR.rt rfl rfl rfl
end Ru
end
