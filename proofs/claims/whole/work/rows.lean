section
-- ===== PART A: goes FIRST, ahead of the names: the tables' words, and 'selects' of the private methods out of them =====
/-- a private method of a class that the tables say can be made, by its rows of tables_1 -/
def lw_okq (q : MethodName × Nat) : Prop := (q.1.cls ≠ "java/lang/invoke/MethodHandle" ∧ q.1.cls ≠ "java/lang/invoke/VarHandle") ∧ Cond.instantiable q.1.cls q.2 ∈ tables_1 ∧ Cond.privateMethod q.1 ∈ tables_1 ∧ Cond.instanceMethod q.1 ∈ tables_1
theorem lw_p0 : lw_okq (⟨"GladRoad", "isNoThingOrNone", "(I)Z"⟩, 6) := ⟨⟨by decide +kernel, by decide +kernel⟩, List.mem_of_getElem? (i := 19) (by decide +kernel), List.mem_of_getElem? (i := 315) (by decide +kernel), List.mem_of_getElem? (i := 316) (by decide +kernel)⟩
theorem lw_p1 : lw_okq (⟨"GladRoad", "isHad", "(I)Z"⟩, 6) := ⟨⟨by decide +kernel, by decide +kernel⟩, List.mem_of_getElem? (i := 19) (by decide +kernel), List.mem_of_getElem? (i := 319) (by decide +kernel), List.mem_of_getElem? (i := 320) (by decide +kernel)⟩
theorem lw_p2 : lw_okq (⟨"GladRoad$Foresight", "waysFrom", "(II)I"⟩, 5) := ⟨⟨by decide +kernel, by decide +kernel⟩, List.mem_of_getElem? (i := 202) (by decide +kernel), List.mem_of_getElem? (i := 661) (by decide +kernel), List.mem_of_getElem? (i := 662) (by decide +kernel)⟩
theorem lw_p3 : lw_okq (⟨"GladRoad$Foresight", "waysBehind", "(III)I"⟩, 5) := ⟨⟨by decide +kernel, by decide +kernel⟩, List.mem_of_getElem? (i := 202) (by decide +kernel), List.mem_of_getElem? (i := 665) (by decide +kernel), List.mem_of_getElem? (i := 666) (by decide +kernel)⟩
theorem lw_p4 : lw_okq (⟨"GladRoad", "rowFault", "(IIII)I"⟩, 6) := ⟨⟨by decide +kernel, by decide +kernel⟩, List.mem_of_getElem? (i := 19) (by decide +kernel), List.mem_of_getElem? (i := 690) (by decide +kernel), List.mem_of_getElem? (i := 691) (by decide +kernel)⟩
theorem lw_p5 : lw_okq (⟨"GladRoad", "canDeal", "([JII)Z"⟩, 6) := ⟨⟨by decide +kernel, by decide +kernel⟩, List.mem_of_getElem? (i := 19) (by decide +kernel), List.mem_of_getElem? (i := 715) (by decide +kernel), List.mem_of_getElem? (i := 716) (by decide +kernel)⟩
theorem lw_p6 : lw_okq (⟨"GladRoadModel", "starts", "()V"⟩, 30) := ⟨⟨by decide +kernel, by decide +kernel⟩, List.mem_of_getElem? (i := 743) (by decide +kernel), List.mem_of_getElem? (i := 749) (by decide +kernel), List.mem_of_getElem? (i := 750) (by decide +kernel)⟩
theorem lw_p7 : lw_okq (⟨"GladRoadModel", "thingComes", "(IIII)V"⟩, 30) := ⟨⟨by decide +kernel, by decide +kernel⟩, List.mem_of_getElem? (i := 743) (by decide +kernel), List.mem_of_getElem? (i := 854) (by decide +kernel), List.mem_of_getElem? (i := 855) (by decide +kernel)⟩
theorem lw_p8 : lw_okq (⟨"GladRoadModel", "isThing", "(J)Z"⟩, 30) := ⟨⟨by decide +kernel, by decide +kernel⟩, List.mem_of_getElem? (i := 743) (by decide +kernel), List.mem_of_getElem? (i := 862) (by decide +kernel), List.mem_of_getElem? (i := 863) (by decide +kernel)⟩
theorem lw_p9 : lw_okq (⟨"GladRoadModel", "who", "(I)I"⟩, 30) := ⟨⟨by decide +kernel, by decide +kernel⟩, List.mem_of_getElem? (i := 743) (by decide +kernel), List.mem_of_getElem? (i := 867) (by decide +kernel), List.mem_of_getElem? (i := 868) (by decide +kernel)⟩
theorem lw_p10 : lw_okq (⟨"GladRoadModel", "feels", "(III)I"⟩, 30) := ⟨⟨by decide +kernel, by decide +kernel⟩, List.mem_of_getElem? (i := 743) (by decide +kernel), List.mem_of_getElem? (i := 875) (by decide +kernel), List.mem_of_getElem? (i := 876) (by decide +kernel)⟩
theorem lw_p11 : lw_okq (⟨"GladRoadModel", "personComes", "(III)V"⟩, 30) := ⟨⟨by decide +kernel, by decide +kernel⟩, List.mem_of_getElem? (i := 743) (by decide +kernel), List.mem_of_getElem? (i := 885) (by decide +kernel), List.mem_of_getElem? (i := 886) (by decide +kernel)⟩
theorem lw_p12 : lw_okq (⟨"GladRoadModel", "isPerson", "(I)Z"⟩, 30) := ⟨⟨by decide +kernel, by decide +kernel⟩, List.mem_of_getElem? (i := 743) (by decide +kernel), List.mem_of_getElem? (i := 893) (by decide +kernel), List.mem_of_getElem? (i := 894) (by decide +kernel)⟩
theorem lw_p13 : lw_okq (⟨"GladRoadModel", "readThing", "()V"⟩, 30) := ⟨⟨by decide +kernel, by decide +kernel⟩, List.mem_of_getElem? (i := 743) (by decide +kernel), List.mem_of_getElem? (i := 928) (by decide +kernel), List.mem_of_getElem? (i := 929) (by decide +kernel)⟩
theorem lw_p14 : lw_okq (⟨"GladRoadModel", "here", "()I"⟩, 30) := ⟨⟨by decide +kernel, by decide +kernel⟩, List.mem_of_getElem? (i := 743) (by decide +kernel), List.mem_of_getElem? (i := 932) (by decide +kernel), List.mem_of_getElem? (i := 933) (by decide +kernel)⟩
theorem lw_p15 : lw_okq (⟨"GladRoadModel", "number", "(I)I"⟩, 30) := ⟨⟨by decide +kernel, by decide +kernel⟩, List.mem_of_getElem? (i := 743) (by decide +kernel), List.mem_of_getElem? (i := 936) (by decide +kernel), List.mem_of_getElem? (i := 937) (by decide +kernel)⟩
def lw_privs_1 : List (MethodName × Nat) := [(⟨"GladRoad", "isNoThingOrNone", "(I)Z"⟩, 6), (⟨"GladRoad", "isHad", "(I)Z"⟩, 6), (⟨"GladRoad$Foresight", "waysFrom", "(II)I"⟩, 5), (⟨"GladRoad$Foresight", "waysBehind", "(III)I"⟩, 5), (⟨"GladRoad", "rowFault", "(IIII)I"⟩, 6), (⟨"GladRoad", "canDeal", "([JII)Z"⟩, 6), (⟨"GladRoadModel", "starts", "()V"⟩, 30), (⟨"GladRoadModel", "thingComes", "(IIII)V"⟩, 30), (⟨"GladRoadModel", "isThing", "(J)Z"⟩, 30), (⟨"GladRoadModel", "who", "(I)I"⟩, 30), (⟨"GladRoadModel", "feels", "(III)I"⟩, 30), (⟨"GladRoadModel", "personComes", "(III)V"⟩, 30), (⟨"GladRoadModel", "isPerson", "(I)Z"⟩, 30), (⟨"GladRoadModel", "readThing", "()V"⟩, 30), (⟨"GladRoadModel", "here", "()I"⟩, 30), (⟨"GladRoadModel", "number", "(I)I"⟩, 30)]
theorem lw_r1 : ∀ q ∈ lw_privs_1, lw_okq q := List.forall_mem_cons.mpr ⟨lw_p0, List.forall_mem_cons.mpr ⟨lw_p1, List.forall_mem_cons.mpr ⟨lw_p2, List.forall_mem_cons.mpr ⟨lw_p3, List.forall_mem_cons.mpr ⟨lw_p4, List.forall_mem_cons.mpr ⟨lw_p5, List.forall_mem_cons.mpr ⟨lw_p6, List.forall_mem_cons.mpr ⟨lw_p7, List.forall_mem_cons.mpr ⟨lw_p8, List.forall_mem_cons.mpr ⟨lw_p9, List.forall_mem_cons.mpr ⟨lw_p10, List.forall_mem_cons.mpr ⟨lw_p11, List.forall_mem_cons.mpr ⟨lw_p12, List.forall_mem_cons.mpr ⟨lw_p13, List.forall_mem_cons.mpr ⟨lw_p14, List.forall_mem_cons.mpr ⟨lw_p15, fun _ h => absurd h List.not_mem_nil⟩⟩⟩⟩⟩⟩⟩⟩⟩⟩⟩⟩⟩⟩⟩⟩
theorem lw_p16 : lw_okq (⟨"GladRoadModel", "has", "(I)Z"⟩, 30) := ⟨⟨by decide +kernel, by decide +kernel⟩, List.mem_of_getElem? (i := 743) (by decide +kernel), List.mem_of_getElem? (i := 942) (by decide +kernel), List.mem_of_getElem? (i := 943) (by decide +kernel)⟩
theorem lw_p17 : lw_okq (⟨"GladRoadModel", "readPerson", "()V"⟩, 30) := ⟨⟨by decide +kernel, by decide +kernel⟩, List.mem_of_getElem? (i := 743) (by decide +kernel), List.mem_of_getElem? (i := 946) (by decide +kernel), List.mem_of_getElem? (i := 947) (by decide +kernel)⟩
theorem lw_p18 : lw_okq (⟨"GladRoadModel", "readHad", "()I"⟩, 30) := ⟨⟨by decide +kernel, by decide +kernel⟩, List.mem_of_getElem? (i := 743) (by decide +kernel), List.mem_of_getElem? (i := 950) (by decide +kernel), List.mem_of_getElem? (i := 951) (by decide +kernel)⟩
theorem lw_p19 : lw_okq (⟨"GladRoadModel", "notes", "()V"⟩, 30) := ⟨⟨by decide +kernel, by decide +kernel⟩, List.mem_of_getElem? (i := 743) (by decide +kernel), List.mem_of_getElem? (i := 958) (by decide +kernel), List.mem_of_getElem? (i := 959) (by decide +kernel)⟩
theorem lw_p20 : lw_okq (⟨"GladRoadModel", "goesOn", "()V"⟩, 30) := ⟨⟨by decide +kernel, by decide +kernel⟩, List.mem_of_getElem? (i := 743) (by decide +kernel), List.mem_of_getElem? (i := 962) (by decide +kernel), List.mem_of_getElem? (i := 963) (by decide +kernel)⟩
theorem lw_p21 : lw_okq (⟨"GladRoadModel", "own", "(I)I"⟩, 30) := ⟨⟨by decide +kernel, by decide +kernel⟩, List.mem_of_getElem? (i := 743) (by decide +kernel), List.mem_of_getElem? (i := 966) (by decide +kernel), List.mem_of_getElem? (i := 967) (by decide +kernel)⟩
theorem lw_p22 : lw_okq (⟨"GladRoadModel", "care", "(II)I"⟩, 30) := ⟨⟨by decide +kernel, by decide +kernel⟩, List.mem_of_getElem? (i := 743) (by decide +kernel), List.mem_of_getElem? (i := 970) (by decide +kernel), List.mem_of_getElem? (i := 971) (by decide +kernel)⟩
theorem lw_p23 : lw_okq (⟨"GladRoadModel", "asks", "(II)V"⟩, 30) := ⟨⟨by decide +kernel, by decide +kernel⟩, List.mem_of_getElem? (i := 743) (by decide +kernel), List.mem_of_getElem? (i := 974) (by decide +kernel), List.mem_of_getElem? (i := 975) (by decide +kernel)⟩
theorem lw_p24 : lw_okq (⟨"GladRoadModel", "isGlad", "(I)Z"⟩, 30) := ⟨⟨by decide +kernel, by decide +kernel⟩, List.mem_of_getElem? (i := 743) (by decide +kernel), List.mem_of_getElem? (i := 978) (by decide +kernel), List.mem_of_getElem? (i := 979) (by decide +kernel)⟩
theorem lw_p25 : lw_okq (⟨"GladRoadModel", "worth", "(I)I"⟩, 30) := ⟨⟨by decide +kernel, by decide +kernel⟩, List.mem_of_getElem? (i := 743) (by decide +kernel), List.mem_of_getElem? (i := 982) (by decide +kernel), List.mem_of_getElem? (i := 983) (by decide +kernel)⟩
theorem lw_p26 : lw_okq (⟨"GladRoadModel", "asides", "()V"⟩, 30) := ⟨⟨by decide +kernel, by decide +kernel⟩, List.mem_of_getElem? (i := 743) (by decide +kernel), List.mem_of_getElem? (i := 1002) (by decide +kernel), List.mem_of_getElem? (i := 1003) (by decide +kernel)⟩
theorem lw_p27 : lw_okq (⟨"GladRoadModel", "goesHome", "()V"⟩, 30) := ⟨⟨by decide +kernel, by decide +kernel⟩, List.mem_of_getElem? (i := 743) (by decide +kernel), List.mem_of_getElem? (i := 1006) (by decide +kernel), List.mem_of_getElem? (i := 1007) (by decide +kernel)⟩
theorem lw_p28 : lw_okq (⟨"GladRoadModel", "backs", "()V"⟩, 30) := ⟨⟨by decide +kernel, by decide +kernel⟩, List.mem_of_getElem? (i := 743) (by decide +kernel), List.mem_of_getElem? (i := 1010) (by decide +kernel), List.mem_of_getElem? (i := 1011) (by decide +kernel)⟩
theorem lw_p29 : lw_okq (⟨"GladRoadModel", "sisters", "(II)I"⟩, 30) := ⟨⟨by decide +kernel, by decide +kernel⟩, List.mem_of_getElem? (i := 743) (by decide +kernel), List.mem_of_getElem? (i := 1030) (by decide +kernel), List.mem_of_getElem? (i := 1031) (by decide +kernel)⟩
theorem lw_p30 : lw_okq (⟨"GladRoadModel", "turns", "(II)Z"⟩, 30) := ⟨⟨by decide +kernel, by decide +kernel⟩, List.mem_of_getElem? (i := 743) (by decide +kernel), List.mem_of_getElem? (i := 1038) (by decide +kernel), List.mem_of_getElem? (i := 1039) (by decide +kernel)⟩
theorem lw_p31 : lw_okq (⟨"GladRoadModel", "notesRow", "([II)I"⟩, 30) := ⟨⟨by decide +kernel, by decide +kernel⟩, List.mem_of_getElem? (i := 743) (by decide +kernel), List.mem_of_getElem? (i := 1060) (by decide +kernel), List.mem_of_getElem? (i := 1061) (by decide +kernel)⟩
def lw_privs_2 : List (MethodName × Nat) := [(⟨"GladRoadModel", "has", "(I)Z"⟩, 30), (⟨"GladRoadModel", "readPerson", "()V"⟩, 30), (⟨"GladRoadModel", "readHad", "()I"⟩, 30), (⟨"GladRoadModel", "notes", "()V"⟩, 30), (⟨"GladRoadModel", "goesOn", "()V"⟩, 30), (⟨"GladRoadModel", "own", "(I)I"⟩, 30), (⟨"GladRoadModel", "care", "(II)I"⟩, 30), (⟨"GladRoadModel", "asks", "(II)V"⟩, 30), (⟨"GladRoadModel", "isGlad", "(I)Z"⟩, 30), (⟨"GladRoadModel", "worth", "(I)I"⟩, 30), (⟨"GladRoadModel", "asides", "()V"⟩, 30), (⟨"GladRoadModel", "goesHome", "()V"⟩, 30), (⟨"GladRoadModel", "backs", "()V"⟩, 30), (⟨"GladRoadModel", "sisters", "(II)I"⟩, 30), (⟨"GladRoadModel", "turns", "(II)Z"⟩, 30), (⟨"GladRoadModel", "notesRow", "([II)I"⟩, 30)]
theorem lw_r2 : ∀ q ∈ lw_privs_2, lw_okq q := List.forall_mem_cons.mpr ⟨lw_p16, List.forall_mem_cons.mpr ⟨lw_p17, List.forall_mem_cons.mpr ⟨lw_p18, List.forall_mem_cons.mpr ⟨lw_p19, List.forall_mem_cons.mpr ⟨lw_p20, List.forall_mem_cons.mpr ⟨lw_p21, List.forall_mem_cons.mpr ⟨lw_p22, List.forall_mem_cons.mpr ⟨lw_p23, List.forall_mem_cons.mpr ⟨lw_p24, List.forall_mem_cons.mpr ⟨lw_p25, List.forall_mem_cons.mpr ⟨lw_p26, List.forall_mem_cons.mpr ⟨lw_p27, List.forall_mem_cons.mpr ⟨lw_p28, List.forall_mem_cons.mpr ⟨lw_p29, List.forall_mem_cons.mpr ⟨lw_p30, List.forall_mem_cons.mpr ⟨lw_p31, fun _ h => absurd h List.not_mem_nil⟩⟩⟩⟩⟩⟩⟩⟩⟩⟩⟩⟩⟩⟩⟩⟩
theorem lw_p32 : lw_okq (⟨"GladRoadModel", "gives", "(I[I)I"⟩, 30) := ⟨⟨by decide +kernel, by decide +kernel⟩, List.mem_of_getElem? (i := 743) (by decide +kernel), List.mem_of_getElem? (i := 1068) (by decide +kernel), List.mem_of_getElem? (i := 1069) (by decide +kernel)⟩
theorem lw_p33 : lw_okq (⟨"GladRoadModel", "why", "(IIII)I"⟩, 30) := ⟨⟨by decide +kernel, by decide +kernel⟩, List.mem_of_getElem? (i := 743) (by decide +kernel), List.mem_of_getElem? (i := 1083) (by decide +kernel), List.mem_of_getElem? (i := 1084) (by decide +kernel)⟩
theorem lw_p34 : lw_okq (⟨"GladRoadModel", "puts", "(IIJ)V"⟩, 30) := ⟨⟨by decide +kernel, by decide +kernel⟩, List.mem_of_getElem? (i := 743) (by decide +kernel), List.mem_of_getElem? (i := 1091) (by decide +kernel), List.mem_of_getElem? (i := 1092) (by decide +kernel)⟩
def lw_privs_3 : List (MethodName × Nat) := [(⟨"GladRoadModel", "gives", "(I[I)I"⟩, 30), (⟨"GladRoadModel", "why", "(IIII)I"⟩, 30), (⟨"GladRoadModel", "puts", "(IIJ)V"⟩, 30)]
theorem lw_r3 : ∀ q ∈ lw_privs_3, lw_okq q := List.forall_mem_cons.mpr ⟨lw_p32, List.forall_mem_cons.mpr ⟨lw_p33, List.forall_mem_cons.mpr ⟨lw_p34, fun _ h => absurd h List.not_mem_nil⟩⟩⟩
def lw_privs : List (MethodName × Nat) := lw_privs_1 ++ (lw_privs_2 ++ (lw_privs_3))
def lw_tbl : List Cond := k2_sels lw_privs ++ tables_1
theorem lw_privs_ok : ∀ q ∈ lw_privs, lw_okq q := by
  show ∀ q ∈ lw_privs_1 ++ (lw_privs_2 ++ (lw_privs_3)), lw_okq q
  exact List.forall_mem_append.mpr ⟨lw_r1, List.forall_mem_append.mpr ⟨lw_r2, lw_r3⟩⟩
end
section
def RX0 : String := "GladRoad$Foresight"
def TX0 : u_T := fun k => match k with
  | 0 => ("GladRoad$Foresight", "road", "LGladRoad$Road;", true)
  | 1 => ("GladRoad$Foresight", "trip", "LGladRoad$Trip;", true)
  | 2 => ("GladRoad$Foresight", "other", "LGladRoad$Trip;", true)
  | 3 => ("GladRoad$Foresight", "forks", "[LGladRoad$Trip;", true)
  | _ => ("GladRoad$Foresight", "milestone", "I", false)
def tyX0 : Nat → FieldType := fun k => match k with
  | 0 => .object "GladRoad$Road"
  | 1 => .object "GladRoad$Trip"
  | 2 => .object "GladRoad$Trip"
  | 3 => .array (.object "GladRoad$Trip")
  | _ => .int
abbrev wsX00 : List Cond := u_ws RX0 TX0 5
theorem nmX0 : ∀ a, a < 5 → ∀ b, b < 5 → a ≠ b → (TX0 a).2.1 ≠ (TX0 b).2.1 := by decide +kernel
theorem tyX0_ok : ∀ k, k < 5 → parseFieldDescriptor (TX0 k).2.2.1 = some (tyX0 k) := by decide +kernel
abbrev cX0_init : ByteArray := prog_2_method_1_code
def yX0_init : MethodName := ⟨RX0, "<init>", "()V"⟩
abbrev cX0_begin : ByteArray := prog_2_method_2_code
def yX0_begin : MethodName := ⟨RX0, "begin", "(LGladRoad$World;)V"⟩
abbrev cX0_walkHome : ByteArray := prog_2_method_3_code
def yX0_walkHome : MethodName := ⟨RX0, "walkHome", "()V"⟩
abbrev cX0_endOf : ByteArray := prog_2_method_4_code
def yX0_endOf : MethodName := ⟨RX0, "endOf", "(LGladRoad$World;)LGladRoad$Trip;"⟩
abbrev cX0_waitFor : ByteArray := prog_2_method_5_code
def yX0_waitFor : MethodName := ⟨RX0, "waitFor", "(ILGladRoad$World;)I"⟩
abbrev cX0_mostWorthOf : ByteArray := prog_2_method_6_code
def yX0_mostWorthOf : MethodName := ⟨RX0, "mostWorthOf", "(ILGladRoad$World;)I"⟩
abbrev cX0_turnsWith : ByteArray := prog_2_method_7_code
def yX0_turnsWith : MethodName := ⟨RX0, "turnsWith", "(ILGladRoad$World;)I"⟩
abbrev cX0_takesTurn : ByteArray := prog_2_method_8_code
def yX0_takesTurn : MethodName := ⟨RX0, "takesTurn", "(LGladRoad$Trip;LGladRoad$Trip;I)Z"⟩
abbrev cX0_firstsFor : ByteArray := prog_2_method_9_code
def yX0_firstsFor : MethodName := ⟨RX0, "firstsFor", "(ILGladRoad$World;)I"⟩
abbrev cX0_heedFor : ByteArray := prog_2_method_10_code
def yX0_heedFor : MethodName := ⟨RX0, "heedFor", "(ILGladRoad$World;)I"⟩
abbrev cX0_waysTo : ByteArray := prog_2_method_11_code
def yX0_waysTo : MethodName := ⟨RX0, "waysTo", "(ILGladRoad$World;)I"⟩
abbrev cX0_waysFrom : ByteArray := prog_2_method_12_code
def yX0_waysFrom : MethodName := ⟨RX0, "waysFrom", "(II)I"⟩
abbrev cX0_waysBehind : ByteArray := prog_2_method_13_code
def yX0_waysBehind : MethodName := ⟨RX0, "waysBehind", "(III)I"⟩
def RX1 : String := "GladRoad$Road"
def TX1 : u_T := fun k => match k with
  | 0 => ("GladRoad$Road", "things", "[LGladRoad$Thing;", true)
  | 1 => ("GladRoad$Road", "thingCount", "I", false)
  | 2 => ("GladRoad$Road", "where", "[I", true)
  | 3 => ("GladRoad$Road", "margin", "[I", true)
  | 4 => ("GladRoad$Road", "personCount", "I", false)
  | 5 => ("GladRoad$Road", "heed", "I", false)
  | _ => ("GladRoad$Road", "well", "I", false)
def tyX1 : Nat → FieldType := fun k => match k with
  | 0 => .array (.object "GladRoad$Thing")
  | 1 => .int
  | 2 => .array .int
  | 3 => .array .int
  | 4 => .int
  | 5 => .int
  | _ => .int
abbrev wsX10 : List Cond := u_ws RX1 TX1 7
theorem nmX1 : ∀ a, a < 7 → ∀ b, b < 7 → a ≠ b → (TX1 a).2.1 ≠ (TX1 b).2.1 := by decide +kernel
theorem tyX1_ok : ∀ k, k < 7 → parseFieldDescriptor (TX1 k).2.2.1 = some (tyX1 k) := by decide +kernel
abbrev cX1_init : ByteArray := prog_3_method_1_code
def yX1_init : MethodName := ⟨RX1, "<init>", "()V"⟩
abbrev cX1_setFrom : ByteArray := prog_3_method_2_code
def yX1_setFrom : MethodName := ⟨RX1, "setFrom", "(LGladRoad$Road;)V"⟩
abbrev cX1_isThing : ByteArray := prog_3_method_3_code
def yX1_isThing : MethodName := ⟨RX1, "isThing", "(I)Z"⟩
abbrev cX1_isPerson : ByteArray := prog_3_method_4_code
def yX1_isPerson : MethodName := ⟨RX1, "isPerson", "(I)Z"⟩
abbrev cX1_addThing : ByteArray := prog_3_method_5_code
def yX1_addThing : MethodName := ⟨RX1, "addThing", "(IIII)I"⟩
abbrev cX1_addPerson : ByteArray := prog_3_method_6_code
def yX1_addPerson : MethodName := ⟨RX1, "addPerson", "(IIILGladRoad$Trip;)I"⟩
abbrev cX1_worthOf : ByteArray := prog_3_method_7_code
def yX1_worthOf : MethodName := ⟨RX1, "worthOf", "(I)I"⟩
abbrev cX1_whoHas : ByteArray := prog_3_method_8_code
def yX1_whoHas : MethodName := ⟨RX1, "whoHas", "(ILGladRoad$Trip;)I"⟩
abbrev cX1_isPeopled : ByteArray := prog_3_method_9_code
def yX1_isPeopled : MethodName := ⟨RX1, "isPeopled", "(I)Z"⟩
abbrev cX1_pass : ByteArray := prog_3_method_10_code
def yX1_pass : MethodName := ⟨RX1, "pass", "(LGladRoad$Trip;I)I"⟩
abbrev cX1_feelOneMore : ByteArray := prog_3_method_11_code
def yX1_feelOneMore : MethodName := ⟨RX1, "feelOneMore", "(LGladRoad$Trip;I)V"⟩
abbrev cX1_offer : ByteArray := prog_3_method_12_code
def yX1_offer : MethodName := ⟨RX1, "offer", "(LGladRoad$Trip;II)V"⟩
abbrev cX1_isGlad : ByteArray := prog_3_method_13_code
def yX1_isGlad : MethodName := ⟨RX1, "isGlad", "(LGladRoad$Trip;III)Z"⟩
abbrev cX1_mindsOf : ByteArray := prog_3_method_14_code
def yX1_mindsOf : MethodName := ⟨RX1, "mindsOf", "(II)I"⟩
def RX2 : String := "GladRoad$Sheet"
def TX2 : u_T := fun k => match k with
  | 0 => ("GladRoad$Sheet", "isThere", "Z", false)
  | 1 => ("GladRoad$Sheet", "lane", "I", false)
  | 2 => ("GladRoad$Sheet", "length", "I", false)
  | _ => ("GladRoad$Sheet", "items", "[J", true)
def tyX2 : Nat → FieldType := fun k => match k with
  | 0 => .boolean
  | 1 => .int
  | 2 => .int
  | _ => .array .long
abbrev wsX20 : List Cond := u_ws RX2 TX2 4
theorem nmX2 : ∀ a, a < 4 → ∀ b, b < 4 → a ≠ b → (TX2 a).2.1 ≠ (TX2 b).2.1 := by decide +kernel
theorem tyX2_ok : ∀ k, k < 4 → parseFieldDescriptor (TX2 k).2.2.1 = some (tyX2 k) := by decide +kernel
abbrev cX2_init : ByteArray := prog_4_method_1_code
def yX2_init : MethodName := ⟨RX2, "<init>", "()V"⟩
abbrev cX2_renew : ByteArray := prog_4_method_2_code
def yX2_renew : MethodName := ⟨RX2, "renew", "(II)V"⟩
abbrev cX2_hasRange : ByteArray := prog_4_method_3_code
def yX2_hasRange : MethodName := ⟨RX2, "hasRange", "(II)Z"⟩
abbrev cX2_put : ByteArray := prog_4_method_4_code
def yX2_put : MethodName := ⟨RX2, "put", "(IJ)V"⟩
def RX3 : String := "GladRoad$Tape"
def TX3 : u_T := fun k => match k with
  | 0 => ("GladRoad$Tape", "letters", "[C", true)
  | 1 => ("GladRoad$Tape", "length", "I", false)
  | 2 => ("GladRoad$Tape", "place", "I", false)
  | 3 => ("GladRoad$Tape", "road", "LGladRoad$Road;", true)
  | _ => ("GladRoad$Tape", "trip", "LGladRoad$Trip;", true)
def tyX3 : Nat → FieldType := fun k => match k with
  | 0 => .array .char
  | 1 => .int
  | 2 => .int
  | 3 => .object "GladRoad$Road"
  | _ => .object "GladRoad$Trip"
abbrev wsX30 : List Cond := u_ws RX3 TX3 5
theorem nmX3 : ∀ a, a < 5 → ∀ b, b < 5 → a ≠ b → (TX3 a).2.1 ≠ (TX3 b).2.1 := by decide +kernel
theorem tyX3_ok : ∀ k, k < 5 → parseFieldDescriptor (TX3 k).2.2.1 = some (tyX3 k) := by decide +kernel
abbrev cX3_init : ByteArray := prog_5_method_1_code
def yX3_init : MethodName := ⟨RX3, "<init>", "()V"⟩
abbrev cX3_readRoad : ByteArray := prog_5_method_2_code
def yX3_readRoad : MethodName := ⟨RX3, "readRoad", "(LGladRoad$World;)Z"⟩
abbrev cX3_readThings : ByteArray := prog_5_method_3_code
def yX3_readThings : MethodName := ⟨RX3, "readThings", "()Z"⟩
abbrev cX3_readThing : ByteArray := prog_5_method_4_code
def yX3_readThing : MethodName := ⟨RX3, "readThing", "()Z"⟩
abbrev cX3_readPeople : ByteArray := prog_5_method_5_code
def yX3_readPeople : MethodName := ⟨RX3, "readPeople", "()Z"⟩
abbrev cX3_readPerson : ByteArray := prog_5_method_6_code
def yX3_readPerson : MethodName := ⟨RX3, "readPerson", "()Z"⟩
abbrev cX3_readHis : ByteArray := prog_5_method_7_code
def yX3_readHis : MethodName := ⟨RX3, "readHis", "()Z"⟩
abbrev cX3_next : ByteArray := prog_5_method_8_code
def yX3_next : MethodName := ⟨RX3, "next", "()C"⟩
abbrev cX3_reads : ByteArray := prog_5_method_9_code
def yX3_reads : MethodName := ⟨RX3, "reads", "(C)Z"⟩
abbrev cX3_readNumber : ByteArray := prog_5_method_10_code
def yX3_readNumber : MethodName := ⟨RX3, "readNumber", "(I)I"⟩
abbrev cX3_readFreeThing : ByteArray := prog_5_method_11_code
def yX3_readFreeThing : MethodName := ⟨RX3, "readFreeThing", "()I"⟩
abbrev cX3_isDigit : ByteArray := prog_5_method_12_code
def yX3_isDigit : MethodName := ⟨RX3, "isDigit", "(C)Z"⟩
def RX4 : String := "GladRoad$Thing"
def TX4 : u_T := fun k => match k with
  | 0 => ("GladRoad$Thing", "kind", "I", false)
  | 1 => ("GladRoad$Thing", "worth", "I", false)
  | 2 => ("GladRoad$Thing", "load", "I", false)
  | _ => ("GladRoad$Thing", "care", "I", false)
def tyX4 : Nat → FieldType := fun k => match k with
  | 0 => .int
  | 1 => .int
  | 2 => .int
  | _ => .int
abbrev wsX40 : List Cond := u_ws RX4 TX4 4
theorem nmX4 : ∀ a, a < 4 → ∀ b, b < 4 → a ≠ b → (TX4 a).2.1 ≠ (TX4 b).2.1 := by decide +kernel
theorem tyX4_ok : ∀ k, k < 4 → parseFieldDescriptor (TX4 k).2.2.1 = some (tyX4 k) := by decide +kernel
abbrev cX4_init : ByteArray := prog_6_method_1_code
def yX4_init : MethodName := ⟨RX4, "<init>", "()V"⟩
abbrev cX4_set : ByteArray := prog_6_method_2_code
def yX4_set : MethodName := ⟨RX4, "set", "(IIII)V"⟩
abbrev cX4_feltBy : ByteArray := prog_6_method_3_code
def yX4_feltBy : MethodName := ⟨RX4, "feltBy", "(II)I"⟩
def RX5 : String := "GladRoad$Trip"
def TX5 : u_T := fun k => match k with
  | 0 => ("GladRoad$Trip", "his", "I", false)
  | 1 => ("GladRoad$Trip", "n", "I", false)
  | 2 => ("GladRoad$Trip", "mind", "I", false)
  | 3 => ("GladRoad$Trip", "ahead", "I", false)
  | 4 => ("GladRoad$Trip", "changes", "I", false)
  | 5 => ("GladRoad$Trip", "refused", "I", false)
  | _ => ("GladRoad$Trip", "theirs", "[I", true)
def tyX5 : Nat → FieldType := fun k => match k with
  | 0 => .int
  | 1 => .int
  | 2 => .int
  | 3 => .int
  | 4 => .int
  | 5 => .int
  | _ => .array .int
abbrev wsX50 : List Cond := u_ws RX5 TX5 7
theorem nmX5 : ∀ a, a < 7 → ∀ b, b < 7 → a ≠ b → (TX5 a).2.1 ≠ (TX5 b).2.1 := by decide +kernel
theorem tyX5_ok : ∀ k, k < 7 → parseFieldDescriptor (TX5 k).2.2.1 = some (tyX5 k) := by decide +kernel
abbrev cX5_init : ByteArray := prog_7_method_1_code
def yX5_init : MethodName := ⟨RX5, "<init>", "()V"⟩
abbrev cX5_setFrom : ByteArray := prog_7_method_2_code
def yX5_setFrom : MethodName := ⟨RX5, "setFrom", "(LGladRoad$Trip;)V"⟩
abbrev cX5_hasNew : ByteArray := prog_7_method_3_code
def yX5_hasNew : MethodName := ⟨RX5, "hasNew", "(I)V"⟩
abbrev cX5_setOut : ByteArray := prog_7_method_4_code
def yX5_setOut : MethodName := ⟨RX5, "setOut", "()V"⟩
def RX6 : String := "GladRoad$World"
def TX6 : u_T := fun k => match k with
  | 0 => ("GladRoad$World", "road", "LGladRoad$Road;", true)
  | 1 => ("GladRoad$World", "trip", "LGladRoad$Trip;", true)
  | 2 => ("GladRoad$World", "past", "[LGladRoad$Trip;", true)
  | _ => ("GladRoad$World", "known", "I", false)
def tyX6 : Nat → FieldType := fun k => match k with
  | 0 => .object "GladRoad$Road"
  | 1 => .object "GladRoad$Trip"
  | 2 => .array (.object "GladRoad$Trip")
  | _ => .int
abbrev wsX60 : List Cond := u_ws RX6 TX6 4
theorem nmX6 : ∀ a, a < 4 → ∀ b, b < 4 → a ≠ b → (TX6 a).2.1 ≠ (TX6 b).2.1 := by decide +kernel
theorem tyX6_ok : ∀ k, k < 4 → parseFieldDescriptor (TX6 k).2.2.1 = some (tyX6 k) := by decide +kernel
abbrev cX6_init : ByteArray := prog_8_method_1_code
def yX6_init : MethodName := ⟨RX6, "<init>", "()V"⟩
abbrev cX6_setFrom : ByteArray := prog_8_method_2_code
def yX6_setFrom : MethodName := ⟨RX6, "setFrom", "(LGladRoad$World;)V"⟩
abbrev cX6_remember : ByteArray := prog_8_method_3_code
def yX6_remember : MethodName := ⟨RX6, "remember", "()V"⟩
abbrev cX6_loseOldest : ByteArray := prog_8_method_4_code
def yX6_loseOldest : MethodName := ⟨RX6, "loseOldest", "()V"⟩
abbrev cX6_stepBack : ByteArray := prog_8_method_5_code
def yX6_stepBack : MethodName := ⟨RX6, "stepBack", "()V"⟩
def RX7 : String := "GladRoad"
def TX7 : u_T := fun k => match k with
  | 0 => ("GladRoad", "now", "LGladRoad$World;", true)
  | 1 => ("GladRoad", "kept", "LGladRoad$World;", true)
  | 2 => ("GladRoad", "isKept", "Z", false)
  | 3 => ("GladRoad", "tape", "LGladRoad$Tape;", true)
  | 4 => ("GladRoad", "foresight", "LGladRoad$Foresight;", true)
  | _ => ("GladRoad", "sheets", "[LGladRoad$Sheet;", true)
def tyX7 : Nat → FieldType := fun k => match k with
  | 0 => .object "GladRoad$World"
  | 1 => .object "GladRoad$World"
  | 2 => .boolean
  | 3 => .object "GladRoad$Tape"
  | 4 => .object "GladRoad$Foresight"
  | _ => .array (.object "GladRoad$Sheet")
abbrev wsX70 : List Cond := u_ws RX7 TX7 6
theorem nmX7 : ∀ a, a < 6 → ∀ b, b < 6 → a ≠ b → (TX7 a).2.1 ≠ (TX7 b).2.1 := by decide +kernel
theorem tyX7_ok : ∀ k, k < 6 → parseFieldDescriptor (TX7 k).2.2.1 = some (tyX7 k) := by decide +kernel
abbrev cX7_init : ByteArray := prog_1_method_1_code
def yX7_init : MethodName := ⟨RX7, "<init>", "()V"⟩
abbrev cX7_thing : ByteArray := prog_1_method_2_code
def yX7_thing : MethodName := ⟨RX7, "thing", "(IIII)I"⟩
abbrev cX7_of : ByteArray := prog_1_method_3_code
def yX7_of : MethodName := ⟨RX7, "of", "(II)I"⟩
abbrev cX7_felt : ByteArray := prog_1_method_4_code
def yX7_felt : MethodName := ⟨RX7, "felt", "(III)I"⟩
abbrev cX7_person : ByteArray := prog_1_method_5_code
def yX7_person : MethodName := ⟨RX7, "person", "(III)I"⟩
abbrev cX7_told : ByteArray := prog_1_method_6_code
def yX7_told : MethodName := ⟨RX7, "told", "(II)I"⟩
abbrev cX7_move : ByteArray := prog_1_method_7_code
def yX7_move : MethodName := ⟨RX7, "move", "(II)I"⟩
abbrev cX7_take : ByteArray := prog_1_method_8_code
def yX7_take : MethodName := ⟨RX7, "take", "(I)I"⟩
abbrev cX7_count : ByteArray := prog_1_method_9_code
def yX7_count : MethodName := ⟨RX7, "count", "(I)I"⟩
abbrev cX7_heed : ByteArray := prog_1_method_10_code
def yX7_heed : MethodName := ⟨RX7, "heed", "(I)I"⟩
abbrev cX7_well : ByteArray := prog_1_method_11_code
def yX7_well : MethodName := ⟨RX7, "well", "(I)I"⟩
abbrev cX7_type : ByteArray := prog_1_method_12_code
def yX7_type : MethodName := ⟨RX7, "type", "(I)I"⟩
abbrev cX7_road : ByteArray := prog_1_method_13_code
def yX7_road : MethodName := ⟨RX7, "road", "()I"⟩
abbrev cX7_go : ByteArray := prog_1_method_14_code
def yX7_go : MethodName := ⟨RX7, "go", "()I"⟩
abbrev cX7_undo : ByteArray := prog_1_method_15_code
def yX7_undo : MethodName := ⟨RX7, "undo", "()I"⟩
abbrev cX7_again : ByteArray := prog_1_method_16_code
def yX7_again : MethodName := ⟨RX7, "again", "()I"⟩
abbrev cX7_glad : ByteArray := prog_1_method_17_code
def yX7_glad : MethodName := ⟨RX7, "glad", "(I)I"⟩
abbrev cX7_home : ByteArray := prog_1_method_18_code
def yX7_home : MethodName := ⟨RX7, "home", "(I)I"⟩
abbrev cX7_lost : ByteArray := prog_1_method_19_code
def yX7_lost : MethodName := ⟨RX7, "lost", "()I"⟩
abbrev cX7_lurk : ByteArray := prog_1_method_20_code
def yX7_lurk : MethodName := ⟨RX7, "lurk", "(II)I"⟩
abbrev cX7_stand : ByteArray := prog_1_method_21_code
def yX7_stand : MethodName := ⟨RX7, "stand", "(II)I"⟩
abbrev cX7_sister : ByteArray := prog_1_method_22_code
def yX7_sister : MethodName := ⟨RX7, "sister", "(II)I"⟩
abbrev cX7_meet : ByteArray := prog_1_method_23_code
def yX7_meet : MethodName := ⟨RX7, "meet", "(II)I"⟩
abbrev cX7_first : ByteArray := prog_1_method_24_code
def yX7_first : MethodName := ⟨RX7, "first", "(I)I"⟩
abbrev cX7_cheated : ByteArray := prog_1_method_25_code
def yX7_cheated : MethodName := ⟨RX7, "cheated", "(I)I"⟩
abbrev cX7_chance : ByteArray := prog_1_method_26_code
def yX7_chance : MethodName := ⟨RX7, "chance", "(II)I"⟩
abbrev cX7_image : ByteArray := prog_1_method_27_code
def yX7_image : MethodName := ⟨RX7, "image", "()I"⟩
abbrev cX7_restore : ByteArray := prog_1_method_28_code
def yX7_restore : MethodName := ⟨RX7, "restore", "()I"⟩
abbrev cX7_seen : ByteArray := prog_1_method_29_code
def yX7_seen : MethodName := ⟨RX7, "seen", "(IIII)I"⟩
abbrev cX7_film : ByteArray := prog_1_method_30_code
def yX7_film : MethodName := ⟨RX7, "film", "(III)I"⟩
abbrev cX7_deal : ByteArray := prog_1_method_31_code
def yX7_deal : MethodName := ⟨RX7, "deal", "(III)I"⟩
abbrev cX7_sheet : ByteArray := prog_1_method_32_code
def yX7_sheet : MethodName := ⟨RX7, "sheet", "(III)I"⟩
abbrev cX7_drop : ByteArray := prog_1_method_33_code
def yX7_drop : MethodName := ⟨RX7, "drop", "(I)I"⟩
abbrev cX7_item : ByteArray := prog_1_method_34_code
def yX7_item : MethodName := ⟨RX7, "item", "(IIIJ)I"⟩
abbrev cX7_copy : ByteArray := prog_1_method_35_code
def yX7_copy : MethodName := ⟨RX7, "copy", "(IIIII)I"⟩
abbrev cX7_isNot : ByteArray := prog_1_method_36_code
def yX7_isNot : MethodName := ⟨RX7, "isNot", "(II)Z"⟩
abbrev cX7_isNoThingOrNone : ByteArray := prog_1_method_37_code
def yX7_isNoThingOrNone : MethodName := ⟨RX7, "isNoThingOrNone", "(I)Z"⟩
abbrev cX7_isHad : ByteArray := prog_1_method_38_code
def yX7_isHad : MethodName := ⟨RX7, "isHad", "(I)Z"⟩
abbrev cX7_rowFault : ByteArray := prog_1_method_39_code
def yX7_rowFault : MethodName := ⟨RX7, "rowFault", "(IIII)I"⟩
abbrev cX7_canDeal : ByteArray := prog_1_method_40_code
def yX7_canDeal : MethodName := ⟨RX7, "canDeal", "([JII)Z"⟩
def RX8 : String := "GladRoadModel"
def TX8 : u_T := fun k => match k with
  | 0 => ("GladRoadModel", "things", "I", false)
  | 1 => ("GladRoadModel", "people", "I", false)
  | 2 => ("GladRoadModel", "thing", "[I", true)
  | 3 => ("GladRoadModel", "person", "[I", true)
  | 4 => ("GladRoadModel", "now", "[I", true)
  | 5 => ("GladRoadModel", "heed", "I", false)
  | 6 => ("GladRoadModel", "well", "I", false)
  | 7 => ("GladRoadModel", "more", "I", false)
  | 8 => ("GladRoadModel", "tossed", "I", false)
  | 9 => ("GladRoadModel", "tape", "[I", true)
  | 10 => ("GladRoadModel", "taped", "I", false)
  | 11 => ("GladRoadModel", "at", "I", false)
  | 12 => ("GladRoadModel", "wrong", "Z", false)
  | 13 => ("GladRoadModel", "manyThings", "I", false)
  | 14 => ("GladRoadModel", "manyPeople", "I", false)
  | 15 => ("GladRoadModel", "his", "I", false)
  | 16 => ("GladRoadModel", "readThings", "[I", true)
  | 17 => ("GladRoadModel", "readPeople", "[I", true)
  | 18 => ("GladRoadModel", "refused", "I", false)
  | 19 => ("GladRoadModel", "undone", "[I", true)
  | 20 => ("GladRoadModel", "undos", "I", false)
  | 21 => ("GladRoadModel", "aside", "[I", true)
  | 22 => ("GladRoadModel", "meets", "[I", true)
  | 23 => ("GladRoadModel", "two", "[I", true)
  | 24 => ("GladRoadModel", "image", "[I", true)
  | 25 => ("GladRoadModel", "isImage", "Z", false)
  | 26 => ("GladRoadModel", "lanes", "[I", true)
  | 27 => ("GladRoadModel", "sizes", "[I", true)
  | 28 => ("GladRoadModel", "items", "[J", true)
  | _ => ("GladRoadModel", "moved", "[J", true)
def tyX8 : Nat → FieldType := fun k => match k with
  | 0 => .int
  | 1 => .int
  | 2 => .array .int
  | 3 => .array .int
  | 4 => .array .int
  | 5 => .int
  | 6 => .int
  | 7 => .int
  | 8 => .int
  | 9 => .array .int
  | 10 => .int
  | 11 => .int
  | 12 => .boolean
  | 13 => .int
  | 14 => .int
  | 15 => .int
  | 16 => .array .int
  | 17 => .array .int
  | 18 => .int
  | 19 => .array .int
  | 20 => .int
  | 21 => .array .int
  | 22 => .array .int
  | 23 => .array .int
  | 24 => .array .int
  | 25 => .boolean
  | 26 => .array .int
  | 27 => .array .int
  | 28 => .array .long
  | _ => .array .long
abbrev wsX80 : List Cond := u_ws RX8 TX8 30
theorem nmX8 : ∀ a, a < 30 → ∀ b, b < 30 → a ≠ b → (TX8 a).2.1 ≠ (TX8 b).2.1 := by decide +kernel
theorem tyX8_ok : ∀ k, k < 30 → parseFieldDescriptor (TX8 k).2.2.1 = some (tyX8 k) := by decide +kernel
abbrev cX8_in : ByteArray := prog_10_method_2_code
def yX8_in : MethodName := ⟨RX8, "in", "(JJJ)Z"⟩
abbrev cX8_init : ByteArray := prog_10_method_3_code
def yX8_init : MethodName := ⟨RX8, "<init>", "()V"⟩
abbrev cX8_starts : ByteArray := prog_10_method_4_code
def yX8_starts : MethodName := ⟨RX8, "starts", "()V"⟩
abbrev cX8_isThing : ByteArray := prog_10_method_5_code
def yX8_isThing : MethodName := ⟨RX8, "isThing", "(J)Z"⟩
abbrev cX8_isPerson : ByteArray := prog_10_method_6_code
def yX8_isPerson : MethodName := ⟨RX8, "isPerson", "(I)Z"⟩
abbrev cX8_thingComes : ByteArray := prog_10_method_7_code
def yX8_thingComes : MethodName := ⟨RX8, "thingComes", "(IIII)V"⟩
abbrev cX8_thing : ByteArray := prog_10_method_8_code
def yX8_thing : MethodName := ⟨RX8, "thing", "(IIII)I"⟩
abbrev cX8_who : ByteArray := prog_10_method_9_code
def yX8_who : MethodName := ⟨RX8, "who", "(I)I"⟩
abbrev cX8_of : ByteArray := prog_10_method_10_code
def yX8_of : MethodName := ⟨RX8, "of", "(II)I"⟩
abbrev cX8_worth : ByteArray := prog_10_method_11_code
def yX8_worth : MethodName := ⟨RX8, "worth", "(I)I"⟩
abbrev cX8_feels : ByteArray := prog_10_method_12_code
def yX8_feels : MethodName := ⟨RX8, "feels", "(III)I"⟩
abbrev cX8_felt : ByteArray := prog_10_method_13_code
def yX8_felt : MethodName := ⟨RX8, "felt", "(III)I"⟩
abbrev cX8_personComes : ByteArray := prog_10_method_14_code
def yX8_personComes : MethodName := ⟨RX8, "personComes", "(III)V"⟩
abbrev cX8_person : ByteArray := prog_10_method_15_code
def yX8_person : MethodName := ⟨RX8, "person", "(III)I"⟩
abbrev cX8_told : ByteArray := prog_10_method_16_code
def yX8_told : MethodName := ⟨RX8, "told", "(II)I"⟩
abbrev cX8_move : ByteArray := prog_10_method_17_code
def yX8_move : MethodName := ⟨RX8, "move", "(II)I"⟩
abbrev cX8_take : ByteArray := prog_10_method_18_code
def yX8_take : MethodName := ⟨RX8, "take", "(I)I"⟩
abbrev cX8_count : ByteArray := prog_10_method_19_code
def yX8_count : MethodName := ⟨RX8, "count", "(I)I"⟩
abbrev cX8_heed : ByteArray := prog_10_method_20_code
def yX8_heed : MethodName := ⟨RX8, "heed", "(I)I"⟩
abbrev cX8_well : ByteArray := prog_10_method_21_code
def yX8_well : MethodName := ⟨RX8, "well", "(I)I"⟩
abbrev cX8_type : ByteArray := prog_10_method_22_code
def yX8_type : MethodName := ⟨RX8, "type", "(I)I"⟩
abbrev cX8_here : ByteArray := prog_10_method_23_code
def yX8_here : MethodName := ⟨RX8, "here", "()I"⟩
abbrev cX8_has : ByteArray := prog_10_method_24_code
def yX8_has : MethodName := ⟨RX8, "has", "(I)Z"⟩
abbrev cX8_number : ByteArray := prog_10_method_25_code
def yX8_number : MethodName := ⟨RX8, "number", "(I)I"⟩
abbrev cX8_readThing : ByteArray := prog_10_method_26_code
def yX8_readThing : MethodName := ⟨RX8, "readThing", "()V"⟩
abbrev cX8_readHad : ByteArray := prog_10_method_27_code
def yX8_readHad : MethodName := ⟨RX8, "readHad", "()I"⟩
abbrev cX8_readPerson : ByteArray := prog_10_method_28_code
def yX8_readPerson : MethodName := ⟨RX8, "readPerson", "()V"⟩
abbrev cX8_road : ByteArray := prog_10_method_29_code
def yX8_road : MethodName := ⟨RX8, "road", "()I"⟩
abbrev cX8_care : ByteArray := prog_10_method_30_code
def yX8_care : MethodName := ⟨RX8, "care", "(II)I"⟩
abbrev cX8_own : ByteArray := prog_10_method_31_code
def yX8_own : MethodName := ⟨RX8, "own", "(I)I"⟩
abbrev cX8_isGlad : ByteArray := prog_10_method_32_code
def yX8_isGlad : MethodName := ⟨RX8, "isGlad", "(I)Z"⟩
abbrev cX8_asks : ByteArray := prog_10_method_33_code
def yX8_asks : MethodName := ⟨RX8, "asks", "(II)V"⟩
abbrev cX8_goesOn : ByteArray := prog_10_method_34_code
def yX8_goesOn : MethodName := ⟨RX8, "goesOn", "()V"⟩
abbrev cX8_notes : ByteArray := prog_10_method_35_code
def yX8_notes : MethodName := ⟨RX8, "notes", "()V"⟩
abbrev cX8_go : ByteArray := prog_10_method_36_code
def yX8_go : MethodName := ⟨RX8, "go", "()I"⟩
abbrev cX8_undo : ByteArray := prog_10_method_37_code
def yX8_undo : MethodName := ⟨RX8, "undo", "()I"⟩
abbrev cX8_again : ByteArray := prog_10_method_38_code
def yX8_again : MethodName := ⟨RX8, "again", "()I"⟩
abbrev cX8_glad : ByteArray := prog_10_method_39_code
def yX8_glad : MethodName := ⟨RX8, "glad", "(I)I"⟩
abbrev cX8_asides : ByteArray := prog_10_method_40_code
def yX8_asides : MethodName := ⟨RX8, "asides", "()V"⟩
abbrev cX8_backs : ByteArray := prog_10_method_41_code
def yX8_backs : MethodName := ⟨RX8, "backs", "()V"⟩
abbrev cX8_goesHome : ByteArray := prog_10_method_42_code
def yX8_goesHome : MethodName := ⟨RX8, "goesHome", "()V"⟩
abbrev cX8_home : ByteArray := prog_10_method_43_code
def yX8_home : MethodName := ⟨RX8, "home", "(I)I"⟩
abbrev cX8_lost : ByteArray := prog_10_method_44_code
def yX8_lost : MethodName := ⟨RX8, "lost", "()I"⟩
abbrev cX8_lurk : ByteArray := prog_10_method_45_code
def yX8_lurk : MethodName := ⟨RX8, "lurk", "(II)I"⟩
abbrev cX8_stand : ByteArray := prog_10_method_46_code
def yX8_stand : MethodName := ⟨RX8, "stand", "(II)I"⟩
abbrev cX8_sister : ByteArray := prog_10_method_47_code
def yX8_sister : MethodName := ⟨RX8, "sister", "(II)I"⟩
abbrev cX8_sisters : ByteArray := prog_10_method_48_code
def yX8_sisters : MethodName := ⟨RX8, "sisters", "(II)I"⟩
abbrev cX8_turns : ByteArray := prog_10_method_49_code
def yX8_turns : MethodName := ⟨RX8, "turns", "(II)Z"⟩
abbrev cX8_meet : ByteArray := prog_10_method_50_code
def yX8_meet : MethodName := ⟨RX8, "meet", "(II)I"⟩
abbrev cX8_first : ByteArray := prog_10_method_51_code
def yX8_first : MethodName := ⟨RX8, "first", "(I)I"⟩
abbrev cX8_cheated : ByteArray := prog_10_method_52_code
def yX8_cheated : MethodName := ⟨RX8, "cheated", "(I)I"⟩
abbrev cX8_chance : ByteArray := prog_10_method_53_code
def yX8_chance : MethodName := ⟨RX8, "chance", "(II)I"⟩
abbrev cX8_notesRow : ByteArray := prog_10_method_54_code
def yX8_notesRow : MethodName := ⟨RX8, "notesRow", "([II)I"⟩
abbrev cX8_gives : ByteArray := prog_10_method_55_code
def yX8_gives : MethodName := ⟨RX8, "gives", "(I[I)I"⟩
abbrev cX8_image : ByteArray := prog_10_method_56_code
def yX8_image : MethodName := ⟨RX8, "image", "()I"⟩
abbrev cX8_restore : ByteArray := prog_10_method_57_code
def yX8_restore : MethodName := ⟨RX8, "restore", "()I"⟩
abbrev cX8_isSheet : ByteArray := prog_10_method_58_code
def yX8_isSheet : MethodName := ⟨RX8, "isSheet", "(I)Z"⟩
abbrev cX8_isLane : ByteArray := prog_10_method_59_code
def yX8_isLane : MethodName := ⟨RX8, "isLane", "(I)Z"⟩
abbrev cX8_why : ByteArray := prog_10_method_60_code
def yX8_why : MethodName := ⟨RX8, "why", "(IIII)I"⟩
abbrev cX8_seen : ByteArray := prog_10_method_61_code
def yX8_seen : MethodName := ⟨RX8, "seen", "(IIII)I"⟩
abbrev cX8_puts : ByteArray := prog_10_method_62_code
def yX8_puts : MethodName := ⟨RX8, "puts", "(IIJ)V"⟩
abbrev cX8_film : ByteArray := prog_10_method_63_code
def yX8_film : MethodName := ⟨RX8, "film", "(III)I"⟩
abbrev cX8_deal : ByteArray := prog_10_method_64_code
def yX8_deal : MethodName := ⟨RX8, "deal", "(III)I"⟩
abbrev cX8_sheet : ByteArray := prog_10_method_65_code
def yX8_sheet : MethodName := ⟨RX8, "sheet", "(III)I"⟩
abbrev cX8_drop : ByteArray := prog_10_method_66_code
def yX8_drop : MethodName := ⟨RX8, "drop", "(I)I"⟩
abbrev cX8_item : ByteArray := prog_10_method_67_code
def yX8_item : MethodName := ⟨RX8, "item", "(IIIJ)I"⟩
abbrev cX8_copy : ByteArray := prog_10_method_68_code
def yX8_copy : MethodName := ⟨RX8, "copy", "(IIIII)I"⟩
def RJx145de : String := "java/io/Serializable"
def TJx145de : u_T := fun k => match k with
  | _ => ("", "", "", false)
def tyJx145de : Nat → FieldType := fun k => match k with
  | _ => .int
theorem nmJx145de : ∀ a, a < 0 → ∀ b, b < 0 → a ≠ b → (TJx145de a).2.1 ≠ (TJx145de b).2.1 := by decide +kernel
theorem tyJx145de_ok : ∀ k, k < 0 → parseFieldDescriptor (TJx145de k).2.2.1 = some (tyJx145de k) := by decide +kernel
def RJx9f9b0 : String := "java/lang/CharSequence"
def TJx9f9b0 : u_T := fun k => match k with
  | _ => ("", "", "", false)
def tyJx9f9b0 : Nat → FieldType := fun k => match k with
  | _ => .int
theorem nmJx9f9b0 : ∀ a, a < 0 → ∀ b, b < 0 → a ≠ b → (TJx9f9b0 a).2.1 ≠ (TJx9f9b0 b).2.1 := by decide +kernel
theorem tyJx9f9b0_ok : ∀ k, k < 0 → parseFieldDescriptor (TJx9f9b0 k).2.2.1 = some (tyJx9f9b0 k) := by decide +kernel
def RJ11 : String := "java/lang/Character"
def TJ11 : u_T := fun k => match k with
  | _ => ("", "", "", false)
def tyJ11 : Nat → FieldType := fun k => match k with
  | _ => .int
abbrev wsJ110 : List Cond := u_ws RJ11 TJ11 0
theorem nmJ11 : ∀ a, a < 0 → ∀ b, b < 0 → a ≠ b → (TJ11 a).2.1 ≠ (TJ11 b).2.1 := by decide +kernel
theorem tyJ11_ok : ∀ k, k < 0 → parseFieldDescriptor (TJ11 k).2.2.1 = some (tyJ11 k) := by decide +kernel
abbrev cJ11_isValidCodePoint_9a6ad : ByteArray := prog_11_method_11_code
def yJ11_isValidCodePoint_9a6ad : MethodName := ⟨RJ11, "isValidCodePoint", "(I)Z"⟩
abbrev cJ11_highSurrogate_5068e : ByteArray := prog_11_method_28_code
def yJ11_highSurrogate_5068e : MethodName := ⟨RJ11, "highSurrogate", "(I)C"⟩
abbrev cJ11_lowSurrogate_5068e : ByteArray := prog_11_method_29_code
def yJ11_lowSurrogate_5068e : MethodName := ⟨RJ11, "lowSurrogate", "(I)C"⟩
def RJxb160c : String := "java/lang/Comparable"
def TJxb160c : u_T := fun k => match k with
  | _ => ("", "", "", false)
def tyJxb160c : Nat → FieldType := fun k => match k with
  | _ => .int
theorem nmJxb160c : ∀ a, a < 0 → ∀ b, b < 0 → a ≠ b → (TJxb160c a).2.1 ≠ (TJxb160c b).2.1 := by decide +kernel
theorem tyJxb160c_ok : ∀ k, k < 0 → parseFieldDescriptor (TJxb160c k).2.2.1 = some (tyJxb160c k) := by decide +kernel
def RJ9 : String := "java/lang/Math"
def TJ9 : u_T := fun k => match k with
  | _ => ("", "", "", false)
def tyJ9 : Nat → FieldType := fun k => match k with
  | _ => .int
abbrev wsJ90 : List Cond := u_ws RJ9 TJ9 0
theorem nmJ9 : ∀ a, a < 0 → ∀ b, b < 0 → a ≠ b → (TJ9 a).2.1 ≠ (TJ9 b).2.1 := by decide +kernel
theorem tyJ9_ok : ∀ k, k < 0 → parseFieldDescriptor (TJ9 k).2.2.1 = some (tyJ9 k) := by decide +kernel
abbrev cJ9_max_7cf53 : ByteArray := prog_12_method_65_code
def yJ9_max_7cf53 : MethodName := ⟨RJ9, "max", "(II)I"⟩
abbrev cJ9_min_7cf53 : ByteArray := prog_12_method_69_code
def yJ9_min_7cf53 : MethodName := ⟨RJ9, "min", "(II)I"⟩
def RJ0 : String := "java/lang/String"
def TJ0 : u_T := fun k => match k with
  | _ => ("", "", "", false)
def tyJ0 : Nat → FieldType := fun k => match k with
  | _ => .int
abbrev wsJ00 : List Cond := u_ws RJ0 TJ0 0
theorem nmJ0 : ∀ a, a < 0 → ∀ b, b < 0 → a ≠ b → (TJ0 a).2.1 ≠ (TJ0 b).2.1 := by decide +kernel
theorem tyJ0_ok : ∀ k, k < 0 → parseFieldDescriptor (TJ0 k).2.2.1 = some (tyJ0 k) := by decide +kernel
abbrev cJ0_length_8abf5 : ByteArray := prog_13_method_54_code
def yJ0_length_8abf5 : MethodName := ⟨RJ0, "length", "()I"⟩
abbrev cJ0_indexOf_0f7a4 : ByteArray := prog_13_method_79_code
def yJ0_indexOf_0f7a4 : MethodName := ⟨RJ0, "indexOf", "(I)I"⟩
abbrev cJ0_indexOf_7cf53 : ByteArray := prog_13_method_80_code
def yJ0_indexOf_7cf53 : MethodName := ⟨RJ0, "indexOf", "(II)I"⟩
abbrev cJ0_coder_7d493 : ByteArray := prog_13_method_152_code
def yJ0_coder_7d493 : MethodName := ⟨RJ0, "coder", "()B"⟩
abbrev cJ0_isLatin1_aae02 : ByteArray := prog_13_method_154_code
def yJ0_isLatin1_aae02 : MethodName := ⟨RJ0, "isLatin1", "()Z"⟩
abbrev cJ0_checkBoundsBeginEnd_23922 : ByteArray := prog_13_method_158_code
def yJ0_checkBoundsBeginEnd_23922 : MethodName := ⟨RJ0, "checkBoundsBeginEnd", "(III)V"⟩
def RJ1 : String := "java/lang/StringLatin1"
def TJ1 : u_T := fun k => match k with
  | _ => ("", "", "", false)
def tyJ1 : Nat → FieldType := fun k => match k with
  | _ => .int
abbrev wsJ10 : List Cond := u_ws RJ1 TJ1 0
theorem nmJ1 : ∀ a, a < 0 → ∀ b, b < 0 → a ≠ b → (TJ1 a).2.1 ≠ (TJ1 b).2.1 := by decide +kernel
theorem tyJ1_ok : ∀ k, k < 0 → parseFieldDescriptor (TJ1 k).2.2.1 = some (tyJ1 k) := by decide +kernel
abbrev cJ1_canEncode_9a6ad : ByteArray := prog_14_method_4_code
def yJ1_canEncode_9a6ad : MethodName := ⟨RJ1, "canEncode", "(I)Z"⟩
abbrev cJ1_indexOf_4cfef : ByteArray := prog_14_method_22_code
def yJ1_indexOf_4cfef : MethodName := ⟨RJ1, "indexOf", "([BIII)I"⟩
abbrev cJ1_indexOfChar_4cfef : ByteArray := prog_14_method_23_code
def yJ1_indexOfChar_4cfef : MethodName := ⟨RJ1, "indexOfChar", "([BIII)I"⟩
def RJ2 : String := "java/lang/StringUTF16"
def TJ2 : u_T := fun k => match k with
  | _ => ("", "", "", false)
def tyJ2 : Nat → FieldType := fun k => match k with
  | _ => .int
abbrev wsJ20 : List Cond := u_ws RJ2 TJ2 0
theorem nmJ2 : ∀ a, a < 0 → ∀ b, b < 0 → a ≠ b → (TJ2 a).2.1 ≠ (TJ2 b).2.1 := by decide +kernel
theorem tyJ2_ok : ∀ k, k < 0 → parseFieldDescriptor (TJ2 k).2.2.1 = some (tyJ2 k) := by decide +kernel
abbrev cJ2_getChar_3b067 : ByteArray := prog_15_method_5_code
def yJ2_getChar_3b067 : MethodName := ⟨RJ2, "getChar", "([BI)C"⟩
abbrev cJ2_length_9d52b : ByteArray := prog_15_method_6_code
def yJ2_length_9d52b : MethodName := ⟨RJ2, "length", "([B)I"⟩
abbrev cJ2_indexOf_4cfef : ByteArray := prog_15_method_40_code
def yJ2_indexOf_4cfef : MethodName := ⟨RJ2, "indexOf", "([BIII)I"⟩
abbrev cJ2_indexOfChar_4cfef : ByteArray := prog_15_method_47_code
def yJ2_indexOfChar_4cfef : MethodName := ⟨RJ2, "indexOfChar", "([BIII)I"⟩
abbrev cJ2_indexOfCharUnsafe_4cfef : ByteArray := prog_15_method_48_code
def yJ2_indexOfCharUnsafe_4cfef : MethodName := ⟨RJ2, "indexOfCharUnsafe", "([BIII)I"⟩
abbrev cJ2_indexOfSupplementary_4cfef : ByteArray := prog_15_method_49_code
def yJ2_indexOfSupplementary_4cfef : MethodName := ⟨RJ2, "indexOfSupplementary", "([BIII)I"⟩
abbrev cJ2_checkBoundsBeginEnd_d044e : ByteArray := prog_15_method_93_code
def yJ2_checkBoundsBeginEnd_d044e : MethodName := ⟨RJ2, "checkBoundsBeginEnd", "(II[B)V"⟩
def RJ10 : String := "java/lang/System"
def TJ10 : u_T := fun k => match k with
  | _ => ("", "", "", false)
def tyJ10 : Nat → FieldType := fun k => match k with
  | _ => .int
abbrev wsJ100 : List Cond := u_ws RJ10 TJ10 0
theorem nmJ10 : ∀ a, a < 0 → ∀ b, b < 0 → a ≠ b → (TJ10 a).2.1 ≠ (TJ10 b).2.1 := by decide +kernel
theorem tyJ10_ok : ∀ k, k < 0 → parseFieldDescriptor (TJ10 k).2.2.1 = some (tyJ10 k) := by decide +kernel
def RJxfd54e : String := "java/lang/constant/Constable"
def TJxfd54e : u_T := fun k => match k with
  | _ => ("", "", "", false)
def tyJxfd54e : Nat → FieldType := fun k => match k with
  | _ => .int
theorem nmJxfd54e : ∀ a, a < 0 → ∀ b, b < 0 → a ≠ b → (TJxfd54e a).2.1 ≠ (TJxfd54e b).2.1 := by decide +kernel
theorem tyJxfd54e_ok : ∀ k, k < 0 → parseFieldDescriptor (TJxfd54e k).2.2.1 = some (tyJxfd54e k) := by decide +kernel
def RJx3cf43 : String := "java/lang/constant/ConstantDesc"
def TJx3cf43 : u_T := fun k => match k with
  | _ => ("", "", "", false)
def tyJx3cf43 : Nat → FieldType := fun k => match k with
  | _ => .int
theorem nmJx3cf43 : ∀ a, a < 0 → ∀ b, b < 0 → a ≠ b → (TJx3cf43 a).2.1 ≠ (TJx3cf43 b).2.1 := by decide +kernel
theorem tyJx3cf43_ok : ∀ k, k < 0 → parseFieldDescriptor (TJx3cf43 k).2.2.1 = some (tyJx3cf43 k) := by decide +kernel
def RJ7 : String := "java/util/Arrays"
def TJ7 : u_T := fun k => match k with
  | _ => ("", "", "", false)
def tyJ7 : Nat → FieldType := fun k => match k with
  | _ => .int
abbrev wsJ70 : List Cond := u_ws RJ7 TJ7 0
theorem nmJ7 : ∀ a, a < 0 → ∀ b, b < 0 → a ≠ b → (TJ7 a).2.1 ≠ (TJ7 b).2.1 := by decide +kernel
theorem tyJ7_ok : ∀ k, k < 0 → parseFieldDescriptor (TJ7 k).2.2.1 = some (tyJ7 k) := by decide +kernel
abbrev cJ7_fill_d0a16 : ByteArray := prog_17_method_101_code
def yJ7_fill_d0a16 : MethodName := ⟨RJ7, "fill", "([JJ)V"⟩
def RJ3 : String := "jdk/internal/util/Preconditions"
def TJ3 : u_T := fun k => match k with
  | _ => ("", "", "", false)
def tyJ3 : Nat → FieldType := fun k => match k with
  | _ => .int
abbrev wsJ30 : List Cond := u_ws RJ3 TJ3 0
theorem nmJ3 : ∀ a, a < 0 → ∀ b, b < 0 → a ≠ b → (TJ3 a).2.1 ≠ (TJ3 b).2.1 := by decide +kernel
theorem tyJ3_ok : ∀ k, k < 0 → parseFieldDescriptor (TJ3 k).2.2.1 = some (tyJ3 k) := by decide +kernel
abbrev cJ3_checkFromToIndex_8c36e : ByteArray := prog_18_method_12_code
def yJ3_checkFromToIndex_8c36e : MethodName := ⟨RJ3, "checkFromToIndex", "(IIILjava/util/function/BiFunction;)I"⟩
def RL : String := "GladRoadLaw"
abbrev cL_law : ByteArray := code
def yL_law : MethodName := ⟨RL, "law", "([I)Z"⟩
theorem inX0 : ∀ w ∈ wsX00, w ∈ lw_tbl := by decide +kernel
theorem inX1 : ∀ w ∈ wsX10, w ∈ lw_tbl := by decide +kernel
theorem inX2 : ∀ w ∈ wsX20, w ∈ lw_tbl := by decide +kernel
theorem inX3 : ∀ w ∈ wsX30, w ∈ lw_tbl := by decide +kernel
theorem inX4 : ∀ w ∈ wsX40, w ∈ lw_tbl := by decide +kernel
theorem inX5 : ∀ w ∈ wsX50, w ∈ lw_tbl := by decide +kernel
theorem inX6 : ∀ w ∈ wsX60, w ∈ lw_tbl := by decide +kernel
theorem inX7 : ∀ w ∈ wsX70, w ∈ lw_tbl := by decide +kernel
theorem inX8 : ∀ w ∈ wsX80, w ∈ lw_tbl := by decide +kernel
abbrev vwCl : List vw_C := [(RX0, TX0, 5), (RX1, TX1, 7), (RX2, TX2, 4), (RX3, TX3, 5), (RX4, TX4, 4), (RX5, TX5, 7), (RX6, TX6, 4), (RX7, TX7, 6), (RX8, TX8, 30)]
end
section
theorem dX2_init_0 : decode cX2_init 0 = .ok (.aload_n 0, 1) := by decide +kernel
theorem dX2_init_1 : decode cX2_init 1 = .ok (.invokespecial 3, 3) := by decide +kernel
theorem dX2_init_4 : decode cX2_init 4 = .ok (.aload_n 0, 1) := by decide +kernel
theorem dX2_init_5 : decode cX2_init 5 = .ok (.bipush 16, 2) := by decide +kernel
theorem dX2_init_7 : decode cX2_init 7 = .ok (.newarray .long, 2) := by decide +kernel
theorem dX2_init_9 : decode cX2_init 9 = .ok (.putfield 9, 3) := by decide +kernel
theorem dX2_init_12 : decode cX2_init 12 = .ok (.return_, 1) := by decide +kernel
theorem dX2_renew_0 : decode cX2_renew 0 = .ok (.aload_n 0, 1) := by decide +kernel
theorem dX2_renew_1 : decode cX2_renew 1 = .ok (.iconst 1, 1) := by decide +kernel
theorem dX2_renew_2 : decode cX2_renew 2 = .ok (.putfield 15, 3) := by decide +kernel
theorem dX2_renew_5 : decode cX2_renew 5 = .ok (.aload_n 0, 1) := by decide +kernel
theorem dX2_renew_6 : decode cX2_renew 6 = .ok (.iload_n 1, 1) := by decide +kernel
theorem dX2_renew_7 : decode cX2_renew 7 = .ok (.putfield 19, 3) := by decide +kernel
theorem dX2_renew_10 : decode cX2_renew 10 = .ok (.aload_n 0, 1) := by decide +kernel
theorem dX2_renew_11 : decode cX2_renew 11 = .ok (.iload_n 2, 1) := by decide +kernel
theorem dX2_renew_12 : decode cX2_renew 12 = .ok (.putfield 23, 3) := by decide +kernel
theorem dX2_renew_15 : decode cX2_renew 15 = .ok (.aload_n 0, 1) := by decide +kernel
theorem dX2_renew_16 : decode cX2_renew 16 = .ok (.getfield 9, 3) := by decide +kernel
theorem dX2_renew_19 : decode cX2_renew 19 = .ok (.lconst 0, 1) := by decide +kernel
theorem dX2_renew_20 : decode cX2_renew 20 = .ok (.invokestatic 26, 3) := by decide +kernel
theorem dX2_renew_23 : decode cX2_renew 23 = .ok (.return_, 1) := by decide +kernel
theorem dX2_hasRange_0 : decode cX2_hasRange 0 = .ok (.iload_n 1, 1) := by decide +kernel
theorem dX2_hasRange_1 : decode cX2_hasRange 1 = .ok (.ifCond .lt 29, 3) := by decide +kernel
theorem dX2_hasRange_4 : decode cX2_hasRange 4 = .ok (.iload_n 2, 1) := by decide +kernel
theorem dX2_hasRange_5 : decode cX2_hasRange 5 = .ok (.ifCond .lt 25, 3) := by decide +kernel
theorem dX2_hasRange_8 : decode cX2_hasRange 8 = .ok (.iload_n 2, 1) := by decide +kernel
theorem dX2_hasRange_9 : decode cX2_hasRange 9 = .ok (.aload_n 0, 1) := by decide +kernel
theorem dX2_hasRange_10 : decode cX2_hasRange 10 = .ok (.getfield 23, 3) := by decide +kernel
theorem dX2_hasRange_13 : decode cX2_hasRange 13 = .ok (.if_icmp .gt 17, 3) := by decide +kernel
theorem dX2_hasRange_16 : decode cX2_hasRange 16 = .ok (.iload_n 1, 1) := by decide +kernel
theorem dX2_hasRange_17 : decode cX2_hasRange 17 = .ok (.aload_n 0, 1) := by decide +kernel
theorem dX2_hasRange_18 : decode cX2_hasRange 18 = .ok (.getfield 23, 3) := by decide +kernel
theorem dX2_hasRange_21 : decode cX2_hasRange 21 = .ok (.iload_n 2, 1) := by decide +kernel
theorem dX2_hasRange_22 : decode cX2_hasRange 22 = .ok (.isub, 1) := by decide +kernel
theorem dX2_hasRange_23 : decode cX2_hasRange 23 = .ok (.if_icmp .gt 7, 3) := by decide +kernel
theorem dX2_hasRange_26 : decode cX2_hasRange 26 = .ok (.iconst 1, 1) := by decide +kernel
theorem dX2_hasRange_27 : decode cX2_hasRange 27 = .ok (.goto 4, 3) := by decide +kernel
theorem dX2_hasRange_30 : decode cX2_hasRange 30 = .ok (.iconst 0, 1) := by decide +kernel
theorem dX2_hasRange_31 : decode cX2_hasRange 31 = .ok (.ireturn, 1) := by decide +kernel
theorem dX2_put_0 : decode cX2_put 0 = .ok (.iload_n 1, 1) := by decide +kernel
theorem dX2_put_1 : decode cX2_put 1 = .ok (.ifCond .lt 12, 3) := by decide +kernel
theorem dX2_put_4 : decode cX2_put 4 = .ok (.iload_n 1, 1) := by decide +kernel
theorem dX2_put_5 : decode cX2_put 5 = .ok (.aload_n 0, 1) := by decide +kernel
theorem dX2_put_6 : decode cX2_put 6 = .ok (.getfield 9, 3) := by decide +kernel
theorem dX2_put_9 : decode cX2_put 9 = .ok (.arraylength, 1) := by decide +kernel
theorem dX2_put_10 : decode cX2_put 10 = .ok (.if_icmp .lt 4, 3) := by decide +kernel
theorem dX2_put_13 : decode cX2_put 13 = .ok (.return_, 1) := by decide +kernel
theorem dX2_put_14 : decode cX2_put 14 = .ok (.aload_n 0, 1) := by decide +kernel
theorem dX2_put_15 : decode cX2_put 15 = .ok (.getfield 19, 3) := by decide +kernel
theorem dX2_put_18 : decode cX2_put 18 = .ok (.tableswitch 64 0 2 #[26, 39, 52], 26) := by decide +kernel
theorem dX2_put_44 : decode cX2_put 44 = .ok (.aload_n 0, 1) := by decide +kernel
theorem dX2_put_45 : decode cX2_put 45 = .ok (.getfield 9, 3) := by decide +kernel
theorem dX2_put_48 : decode cX2_put 48 = .ok (.iload_n 1, 1) := by decide +kernel
theorem dX2_put_49 : decode cX2_put 49 = .ok (.lload_n 2, 1) := by decide +kernel
theorem dX2_put_50 : decode cX2_put 50 = .ok (.l2i, 1) := by decide +kernel
theorem dX2_put_51 : decode cX2_put 51 = .ok (.i2b, 1) := by decide +kernel
theorem dX2_put_52 : decode cX2_put 52 = .ok (.i2l, 1) := by decide +kernel
theorem dX2_put_53 : decode cX2_put 53 = .ok (.lastore, 1) := by decide +kernel
theorem dX2_put_54 : decode cX2_put 54 = .ok (.goto 35, 3) := by decide +kernel
theorem dX2_put_57 : decode cX2_put 57 = .ok (.aload_n 0, 1) := by decide +kernel
theorem dX2_put_58 : decode cX2_put 58 = .ok (.getfield 9, 3) := by decide +kernel
theorem dX2_put_61 : decode cX2_put 61 = .ok (.iload_n 1, 1) := by decide +kernel
theorem dX2_put_62 : decode cX2_put 62 = .ok (.lload_n 2, 1) := by decide +kernel
theorem dX2_put_63 : decode cX2_put 63 = .ok (.l2i, 1) := by decide +kernel
theorem dX2_put_64 : decode cX2_put 64 = .ok (.i2s, 1) := by decide +kernel
theorem dX2_put_65 : decode cX2_put 65 = .ok (.i2l, 1) := by decide +kernel
theorem dX2_put_66 : decode cX2_put 66 = .ok (.lastore, 1) := by decide +kernel
theorem dX2_put_67 : decode cX2_put 67 = .ok (.goto 22, 3) := by decide +kernel
theorem dX2_put_70 : decode cX2_put 70 = .ok (.aload_n 0, 1) := by decide +kernel
theorem dX2_put_71 : decode cX2_put 71 = .ok (.getfield 9, 3) := by decide +kernel
theorem dX2_put_74 : decode cX2_put 74 = .ok (.iload_n 1, 1) := by decide +kernel
theorem dX2_put_75 : decode cX2_put 75 = .ok (.lload_n 2, 1) := by decide +kernel
theorem dX2_put_76 : decode cX2_put 76 = .ok (.l2i, 1) := by decide +kernel
theorem dX2_put_77 : decode cX2_put 77 = .ok (.i2l, 1) := by decide +kernel
theorem dX2_put_78 : decode cX2_put 78 = .ok (.lastore, 1) := by decide +kernel
theorem dX2_put_79 : decode cX2_put 79 = .ok (.goto 10, 3) := by decide +kernel
theorem dX2_put_82 : decode cX2_put 82 = .ok (.aload_n 0, 1) := by decide +kernel
theorem dX2_put_83 : decode cX2_put 83 = .ok (.getfield 9, 3) := by decide +kernel
theorem dX2_put_86 : decode cX2_put 86 = .ok (.iload_n 1, 1) := by decide +kernel
theorem dX2_put_87 : decode cX2_put 87 = .ok (.lload_n 2, 1) := by decide +kernel
theorem dX2_put_88 : decode cX2_put 88 = .ok (.lastore, 1) := by decide +kernel
theorem dX2_put_89 : decode cX2_put 89 = .ok (.return_, 1) := by decide +kernel
theorem dX4_init_0 : decode cX4_init 0 = .ok (.aload_n 0, 1) := by decide +kernel
theorem dX4_init_1 : decode cX4_init 1 = .ok (.invokespecial 3, 3) := by decide +kernel
theorem dX4_init_4 : decode cX4_init 4 = .ok (.return_, 1) := by decide +kernel
theorem dX4_set_0 : decode cX4_set 0 = .ok (.aload_n 0, 1) := by decide +kernel
theorem dX4_set_1 : decode cX4_set 1 = .ok (.iload_n 1, 1) := by decide +kernel
theorem dX4_set_2 : decode cX4_set 2 = .ok (.putfield 9, 3) := by decide +kernel
theorem dX4_set_5 : decode cX4_set 5 = .ok (.aload_n 0, 1) := by decide +kernel
theorem dX4_set_6 : decode cX4_set 6 = .ok (.iload_n 2, 1) := by decide +kernel
theorem dX4_set_7 : decode cX4_set 7 = .ok (.putfield 15, 3) := by decide +kernel
theorem dX4_set_10 : decode cX4_set 10 = .ok (.aload_n 0, 1) := by decide +kernel
theorem dX4_set_11 : decode cX4_set 11 = .ok (.iload_n 3, 1) := by decide +kernel
theorem dX4_set_12 : decode cX4_set 12 = .ok (.putfield 18, 3) := by decide +kernel
theorem dX4_set_15 : decode cX4_set 15 = .ok (.aload_n 0, 1) := by decide +kernel
theorem dX4_set_16 : decode cX4_set 16 = .ok (.iload 4, 2) := by decide +kernel
theorem dX4_set_18 : decode cX4_set 18 = .ok (.putfield 21, 3) := by decide +kernel
theorem dX4_set_21 : decode cX4_set 21 = .ok (.return_, 1) := by decide +kernel
theorem dX4_feltBy_0 : decode cX4_feltBy 0 = .ok (.iload_n 1, 1) := by decide +kernel
theorem dX4_feltBy_1 : decode cX4_feltBy 1 = .ok (.ifCond .ne 27, 3) := by decide +kernel
theorem dX4_feltBy_4 : decode cX4_feltBy 4 = .ok (.aload_n 0, 1) := by decide +kernel
theorem dX4_feltBy_5 : decode cX4_feltBy 5 = .ok (.getfield 9, 3) := by decide +kernel
theorem dX4_feltBy_8 : decode cX4_feltBy 8 = .ok (.iconst 2, 1) := by decide +kernel
theorem dX4_feltBy_9 : decode cX4_feltBy 9 = .ok (.if_icmp .ne 14, 3) := by decide +kernel
theorem dX4_feltBy_12 : decode cX4_feltBy 12 = .ok (.aload_n 0, 1) := by decide +kernel
theorem dX4_feltBy_13 : decode cX4_feltBy 13 = .ok (.getfield 18, 3) := by decide +kernel
theorem dX4_feltBy_16 : decode cX4_feltBy 16 = .ok (.iconst 2, 1) := by decide +kernel
theorem dX4_feltBy_17 : decode cX4_feltBy 17 = .ok (.iload_n 2, 1) := by decide +kernel
theorem dX4_feltBy_18 : decode cX4_feltBy 18 = .ok (.imul, 1) := by decide +kernel
theorem dX4_feltBy_19 : decode cX4_feltBy 19 = .ok (.iadd, 1) := by decide +kernel
theorem dX4_feltBy_20 : decode cX4_feltBy 20 = .ok (.goto 7, 3) := by decide +kernel
theorem dX4_feltBy_23 : decode cX4_feltBy 23 = .ok (.aload_n 0, 1) := by decide +kernel
theorem dX4_feltBy_24 : decode cX4_feltBy 24 = .ok (.getfield 18, 3) := by decide +kernel
theorem dX4_feltBy_27 : decode cX4_feltBy 27 = .ok (.ireturn, 1) := by decide +kernel
theorem dX4_feltBy_28 : decode cX4_feltBy 28 = .ok (.aload_n 0, 1) := by decide +kernel
theorem dX4_feltBy_29 : decode cX4_feltBy 29 = .ok (.getfield 9, 3) := by decide +kernel
theorem dX4_feltBy_32 : decode cX4_feltBy 32 = .ok (.iconst 1, 1) := by decide +kernel
theorem dX4_feltBy_33 : decode cX4_feltBy 33 = .ok (.if_icmp .eq 16, 3) := by decide +kernel
theorem dX4_feltBy_36 : decode cX4_feltBy 36 = .ok (.aload_n 0, 1) := by decide +kernel
theorem dX4_feltBy_37 : decode cX4_feltBy 37 = .ok (.getfield 9, 3) := by decide +kernel
theorem dX4_feltBy_40 : decode cX4_feltBy 40 = .ok (.iconst 3, 1) := by decide +kernel
theorem dX4_feltBy_41 : decode cX4_feltBy 41 = .ok (.if_icmp .eq 8, 3) := by decide +kernel
theorem dX4_feltBy_44 : decode cX4_feltBy 44 = .ok (.aload_n 0, 1) := by decide +kernel
theorem dX4_feltBy_45 : decode cX4_feltBy 45 = .ok (.getfield 21, 3) := by decide +kernel
theorem dX4_feltBy_48 : decode cX4_feltBy 48 = .ok (.ireturn, 1) := by decide +kernel
theorem dX4_feltBy_49 : decode cX4_feltBy 49 = .ok (.aload_n 0, 1) := by decide +kernel
theorem dX4_feltBy_50 : decode cX4_feltBy 50 = .ok (.getfield 9, 3) := by decide +kernel
theorem dX4_feltBy_53 : decode cX4_feltBy 53 = .ok (.iconst 3, 1) := by decide +kernel
theorem dX4_feltBy_54 : decode cX4_feltBy 54 = .ok (.if_icmp .ne 19, 3) := by decide +kernel
theorem dX4_feltBy_57 : decode cX4_feltBy 57 = .ok (.iload_n 2, 1) := by decide +kernel
theorem dX4_feltBy_58 : decode cX4_feltBy 58 = .ok (.iconst 3, 1) := by decide +kernel
theorem dX4_feltBy_59 : decode cX4_feltBy 59 = .ok (.if_icmp .lt 14, 3) := by decide +kernel
theorem dX4_feltBy_62 : decode cX4_feltBy 62 = .ok (.aload_n 0, 1) := by decide +kernel
theorem dX4_feltBy_63 : decode cX4_feltBy 63 = .ok (.getfield 21, 3) := by decide +kernel
theorem dX4_feltBy_66 : decode cX4_feltBy 66 = .ok (.iload_n 2, 1) := by decide +kernel
theorem dX4_feltBy_67 : decode cX4_feltBy 67 = .ok (.iadd, 1) := by decide +kernel
theorem dX4_feltBy_68 : decode cX4_feltBy 68 = .ok (.iconst 5, 1) := by decide +kernel
theorem dX4_feltBy_69 : decode cX4_feltBy 69 = .ok (.iadd, 1) := by decide +kernel
theorem dX4_feltBy_70 : decode cX4_feltBy 70 = .ok (.goto 9, 3) := by decide +kernel
theorem dX4_feltBy_73 : decode cX4_feltBy 73 = .ok (.aload_n 0, 1) := by decide +kernel
theorem dX4_feltBy_74 : decode cX4_feltBy 74 = .ok (.getfield 21, 3) := by decide +kernel
theorem dX4_feltBy_77 : decode cX4_feltBy 77 = .ok (.iload_n 2, 1) := by decide +kernel
theorem dX4_feltBy_78 : decode cX4_feltBy 78 = .ok (.iadd, 1) := by decide +kernel
theorem dX4_feltBy_79 : decode cX4_feltBy 79 = .ok (.ireturn, 1) := by decide +kernel
theorem dX5_init_0 : decode cX5_init 0 = .ok (.aload_n 0, 1) := by decide +kernel
theorem dX5_init_1 : decode cX5_init 1 = .ok (.invokespecial 3, 3) := by decide +kernel
theorem dX5_init_4 : decode cX5_init 4 = .ok (.aload_n 0, 1) := by decide +kernel
theorem dX5_init_5 : decode cX5_init 5 = .ok (.bipush (-4), 2) := by decide +kernel
theorem dX5_init_7 : decode cX5_init 7 = .ok (.putfield 9, 3) := by decide +kernel
theorem dX5_init_10 : decode cX5_init 10 = .ok (.aload_n 0, 1) := by decide +kernel
theorem dX5_init_11 : decode cX5_init 11 = .ok (.bipush (-4), 2) := by decide +kernel
theorem dX5_init_13 : decode cX5_init 13 = .ok (.putfield 15, 3) := by decide +kernel
theorem dX5_init_16 : decode cX5_init 16 = .ok (.aload_n 0, 1) := by decide +kernel
theorem dX5_init_17 : decode cX5_init 17 = .ok (.bipush 9, 2) := by decide +kernel
theorem dX5_init_19 : decode cX5_init 19 = .ok (.newarray .int, 2) := by decide +kernel
theorem dX5_init_21 : decode cX5_init 21 = .ok (.putfield 18, 3) := by decide +kernel
theorem dX5_init_24 : decode cX5_init 24 = .ok (.return_, 1) := by decide +kernel
theorem dX5_setFrom_0 : decode cX5_setFrom 0 = .ok (.aload_n 0, 1) := by decide +kernel
theorem dX5_setFrom_1 : decode cX5_setFrom 1 = .ok (.aload_n 1, 1) := by decide +kernel
theorem dX5_setFrom_2 : decode cX5_setFrom 2 = .ok (.getfield 9, 3) := by decide +kernel
theorem dX5_setFrom_5 : decode cX5_setFrom 5 = .ok (.putfield 9, 3) := by decide +kernel
theorem dX5_setFrom_8 : decode cX5_setFrom 8 = .ok (.aload_n 0, 1) := by decide +kernel
theorem dX5_setFrom_9 : decode cX5_setFrom 9 = .ok (.aload_n 1, 1) := by decide +kernel
theorem dX5_setFrom_10 : decode cX5_setFrom 10 = .ok (.getfield 22, 3) := by decide +kernel
theorem dX5_setFrom_13 : decode cX5_setFrom 13 = .ok (.putfield 22, 3) := by decide +kernel
theorem dX5_setFrom_16 : decode cX5_setFrom 16 = .ok (.aload_n 0, 1) := by decide +kernel
theorem dX5_setFrom_17 : decode cX5_setFrom 17 = .ok (.aload_n 1, 1) := by decide +kernel
theorem dX5_setFrom_18 : decode cX5_setFrom 18 = .ok (.getfield 25, 3) := by decide +kernel
theorem dX5_setFrom_21 : decode cX5_setFrom 21 = .ok (.putfield 25, 3) := by decide +kernel
theorem dX5_setFrom_24 : decode cX5_setFrom 24 = .ok (.aload_n 0, 1) := by decide +kernel
theorem dX5_setFrom_25 : decode cX5_setFrom 25 = .ok (.aload_n 1, 1) := by decide +kernel
theorem dX5_setFrom_26 : decode cX5_setFrom 26 = .ok (.getfield 28, 3) := by decide +kernel
theorem dX5_setFrom_29 : decode cX5_setFrom 29 = .ok (.putfield 28, 3) := by decide +kernel
theorem dX5_setFrom_32 : decode cX5_setFrom 32 = .ok (.aload_n 0, 1) := by decide +kernel
theorem dX5_setFrom_33 : decode cX5_setFrom 33 = .ok (.aload_n 1, 1) := by decide +kernel
theorem dX5_setFrom_34 : decode cX5_setFrom 34 = .ok (.getfield 31, 3) := by decide +kernel
theorem dX5_setFrom_37 : decode cX5_setFrom 37 = .ok (.putfield 31, 3) := by decide +kernel
theorem dX5_setFrom_40 : decode cX5_setFrom 40 = .ok (.aload_n 1, 1) := by decide +kernel
theorem dX5_setFrom_41 : decode cX5_setFrom 41 = .ok (.getfield 18, 3) := by decide +kernel
theorem dX5_setFrom_44 : decode cX5_setFrom 44 = .ok (.iconst 0, 1) := by decide +kernel
theorem dX5_setFrom_45 : decode cX5_setFrom 45 = .ok (.aload_n 0, 1) := by decide +kernel
theorem dX5_setFrom_46 : decode cX5_setFrom 46 = .ok (.getfield 18, 3) := by decide +kernel
theorem dX5_setFrom_49 : decode cX5_setFrom 49 = .ok (.iconst 0, 1) := by decide +kernel
theorem dX5_setFrom_50 : decode cX5_setFrom 50 = .ok (.aload_n 0, 1) := by decide +kernel
theorem dX5_setFrom_51 : decode cX5_setFrom 51 = .ok (.getfield 18, 3) := by decide +kernel
theorem dX5_setFrom_54 : decode cX5_setFrom 54 = .ok (.arraylength, 1) := by decide +kernel
theorem dX5_setFrom_55 : decode cX5_setFrom 55 = .ok (.invokestatic 34, 3) := by decide +kernel
theorem dX5_setFrom_58 : decode cX5_setFrom 58 = .ok (.return_, 1) := by decide +kernel
theorem dX5_hasNew_0 : decode cX5_hasNew 0 = .ok (.aload_n 0, 1) := by decide +kernel
theorem dX5_hasNew_1 : decode cX5_hasNew 1 = .ok (.iload_n 1, 1) := by decide +kernel
theorem dX5_hasNew_2 : decode cX5_hasNew 2 = .ok (.putfield 9, 3) := by decide +kernel
theorem dX5_hasNew_5 : decode cX5_hasNew 5 = .ok (.aload_n 0, 1) := by decide +kernel
theorem dX5_hasNew_6 : decode cX5_hasNew 6 = .ok (.iconst 0, 1) := by decide +kernel
theorem dX5_hasNew_7 : decode cX5_hasNew 7 = .ok (.putfield 22, 3) := by decide +kernel
theorem dX5_hasNew_10 : decode cX5_hasNew 10 = .ok (.return_, 1) := by decide +kernel
theorem dX5_setOut_0 : decode cX5_setOut 0 = .ok (.aload_n 0, 1) := by decide +kernel
theorem dX5_setOut_1 : decode cX5_setOut 1 = .ok (.bipush (-4), 2) := by decide +kernel
theorem dX5_setOut_3 : decode cX5_setOut 3 = .ok (.invokevirtual 40, 3) := by decide +kernel
theorem dX5_setOut_6 : decode cX5_setOut 6 = .ok (.aload_n 0, 1) := by decide +kernel
theorem dX5_setOut_7 : decode cX5_setOut 7 = .ok (.iconst 0, 1) := by decide +kernel
theorem dX5_setOut_8 : decode cX5_setOut 8 = .ok (.putfield 25, 3) := by decide +kernel
theorem dX5_setOut_11 : decode cX5_setOut 11 = .ok (.aload_n 0, 1) := by decide +kernel
theorem dX5_setOut_12 : decode cX5_setOut 12 = .ok (.iconst 0, 1) := by decide +kernel
theorem dX5_setOut_13 : decode cX5_setOut 13 = .ok (.putfield 28, 3) := by decide +kernel
theorem dX5_setOut_16 : decode cX5_setOut 16 = .ok (.return_, 1) := by decide +kernel
theorem dX6_init_0 : decode cX6_init 0 = .ok (.aload_n 0, 1) := by decide +kernel
theorem dX6_init_1 : decode cX6_init 1 = .ok (.invokespecial 3, 3) := by decide +kernel
theorem dX6_init_4 : decode cX6_init 4 = .ok (.aload_n 0, 1) := by decide +kernel
theorem dX6_init_5 : decode cX6_init 5 = .ok (.new 9, 3) := by decide +kernel
theorem dX6_init_8 : decode cX6_init 8 = .ok (.dup, 1) := by decide +kernel
theorem dX6_init_9 : decode cX6_init 9 = .ok (.invokespecial 11, 3) := by decide +kernel
theorem dX6_init_12 : decode cX6_init 12 = .ok (.putfield 12, 3) := by decide +kernel
theorem dX6_init_15 : decode cX6_init 15 = .ok (.aload_n 0, 1) := by decide +kernel
theorem dX6_init_16 : decode cX6_init 16 = .ok (.new 18, 3) := by decide +kernel
theorem dX6_init_19 : decode cX6_init 19 = .ok (.dup, 1) := by decide +kernel
theorem dX6_init_20 : decode cX6_init 20 = .ok (.invokespecial 20, 3) := by decide +kernel
theorem dX6_init_23 : decode cX6_init 23 = .ok (.putfield 21, 3) := by decide +kernel
theorem dX6_init_26 : decode cX6_init 26 = .ok (.aload_n 0, 1) := by decide +kernel
theorem dX6_init_27 : decode cX6_init 27 = .ok (.bipush 8, 2) := by decide +kernel
theorem dX6_init_29 : decode cX6_init 29 = .ok (.anewarray 18, 3) := by decide +kernel
theorem dX6_init_32 : decode cX6_init 32 = .ok (.putfield 25, 3) := by decide +kernel
theorem dX6_init_35 : decode cX6_init 35 = .ok (.iconst 0, 1) := by decide +kernel
theorem dX6_init_36 : decode cX6_init 36 = .ok (.istore_n 1, 1) := by decide +kernel
theorem dX6_init_37 : decode cX6_init 37 = .ok (.iload_n 1, 1) := by decide +kernel
theorem dX6_init_38 : decode cX6_init 38 = .ok (.aload_n 0, 1) := by decide +kernel
theorem dX6_init_39 : decode cX6_init 39 = .ok (.getfield 25, 3) := by decide +kernel
theorem dX6_init_42 : decode cX6_init 42 = .ok (.arraylength, 1) := by decide +kernel
theorem dX6_init_43 : decode cX6_init 43 = .ok (.if_icmp .ge 22, 3) := by decide +kernel
theorem dX6_init_46 : decode cX6_init 46 = .ok (.aload_n 0, 1) := by decide +kernel
theorem dX6_init_47 : decode cX6_init 47 = .ok (.getfield 25, 3) := by decide +kernel
theorem dX6_init_50 : decode cX6_init 50 = .ok (.iload_n 1, 1) := by decide +kernel
theorem dX6_init_51 : decode cX6_init 51 = .ok (.new 18, 3) := by decide +kernel
theorem dX6_init_54 : decode cX6_init 54 = .ok (.dup, 1) := by decide +kernel
theorem dX6_init_55 : decode cX6_init 55 = .ok (.invokespecial 20, 3) := by decide +kernel
theorem dX6_init_58 : decode cX6_init 58 = .ok (.aastore, 1) := by decide +kernel
theorem dX6_init_59 : decode cX6_init 59 = .ok (.iinc 1 1, 3) := by decide +kernel
theorem dX6_init_62 : decode cX6_init 62 = .ok (.goto (-25), 3) := by decide +kernel
theorem dX6_init_65 : decode cX6_init 65 = .ok (.return_, 1) := by decide +kernel
theorem dX6_setFrom_0 : decode cX6_setFrom 0 = .ok (.aload_n 0, 1) := by decide +kernel
theorem dX6_setFrom_1 : decode cX6_setFrom 1 = .ok (.getfield 12, 3) := by decide +kernel
theorem dX6_setFrom_4 : decode cX6_setFrom 4 = .ok (.aload_n 1, 1) := by decide +kernel
theorem dX6_setFrom_5 : decode cX6_setFrom 5 = .ok (.getfield 12, 3) := by decide +kernel
theorem dX6_setFrom_8 : decode cX6_setFrom 8 = .ok (.invokevirtual 29, 3) := by decide +kernel
theorem dX6_setFrom_11 : decode cX6_setFrom 11 = .ok (.aload_n 0, 1) := by decide +kernel
theorem dX6_setFrom_12 : decode cX6_setFrom 12 = .ok (.getfield 21, 3) := by decide +kernel
theorem dX6_setFrom_15 : decode cX6_setFrom 15 = .ok (.aload_n 1, 1) := by decide +kernel
theorem dX6_setFrom_16 : decode cX6_setFrom 16 = .ok (.getfield 21, 3) := by decide +kernel
theorem dX6_setFrom_19 : decode cX6_setFrom 19 = .ok (.invokevirtual 33, 3) := by decide +kernel
theorem dX6_setFrom_22 : decode cX6_setFrom 22 = .ok (.aload_n 0, 1) := by decide +kernel
theorem dX6_setFrom_23 : decode cX6_setFrom 23 = .ok (.aload_n 1, 1) := by decide +kernel
theorem dX6_setFrom_24 : decode cX6_setFrom 24 = .ok (.getfield 36, 3) := by decide +kernel
theorem dX6_setFrom_27 : decode cX6_setFrom 27 = .ok (.putfield 36, 3) := by decide +kernel
theorem dX6_setFrom_30 : decode cX6_setFrom 30 = .ok (.iconst 0, 1) := by decide +kernel
theorem dX6_setFrom_31 : decode cX6_setFrom 31 = .ok (.istore_n 2, 1) := by decide +kernel
theorem dX6_setFrom_32 : decode cX6_setFrom 32 = .ok (.iload_n 2, 1) := by decide +kernel
theorem dX6_setFrom_33 : decode cX6_setFrom 33 = .ok (.aload_n 0, 1) := by decide +kernel
theorem dX6_setFrom_34 : decode cX6_setFrom 34 = .ok (.getfield 36, 3) := by decide +kernel
theorem dX6_setFrom_37 : decode cX6_setFrom 37 = .ok (.if_icmp .ge 24, 3) := by decide +kernel
theorem dX6_setFrom_40 : decode cX6_setFrom 40 = .ok (.aload_n 0, 1) := by decide +kernel
theorem dX6_setFrom_41 : decode cX6_setFrom 41 = .ok (.getfield 25, 3) := by decide +kernel
theorem dX6_setFrom_44 : decode cX6_setFrom 44 = .ok (.iload_n 2, 1) := by decide +kernel
theorem dX6_setFrom_45 : decode cX6_setFrom 45 = .ok (.aaload, 1) := by decide +kernel
theorem dX6_setFrom_46 : decode cX6_setFrom 46 = .ok (.aload_n 1, 1) := by decide +kernel
theorem dX6_setFrom_47 : decode cX6_setFrom 47 = .ok (.getfield 25, 3) := by decide +kernel
theorem dX6_setFrom_50 : decode cX6_setFrom 50 = .ok (.iload_n 2, 1) := by decide +kernel
theorem dX6_setFrom_51 : decode cX6_setFrom 51 = .ok (.aaload, 1) := by decide +kernel
theorem dX6_setFrom_52 : decode cX6_setFrom 52 = .ok (.invokevirtual 33, 3) := by decide +kernel
theorem dX6_setFrom_55 : decode cX6_setFrom 55 = .ok (.iinc 2 1, 3) := by decide +kernel
theorem dX6_setFrom_58 : decode cX6_setFrom 58 = .ok (.goto (-26), 3) := by decide +kernel
theorem dX6_setFrom_61 : decode cX6_setFrom 61 = .ok (.return_, 1) := by decide +kernel
theorem dX6_remember_0 : decode cX6_remember 0 = .ok (.aload_n 0, 1) := by decide +kernel
theorem dX6_remember_1 : decode cX6_remember 1 = .ok (.getfield 36, 3) := by decide +kernel
theorem dX6_remember_4 : decode cX6_remember 4 = .ok (.aload_n 0, 1) := by decide +kernel
theorem dX6_remember_5 : decode cX6_remember 5 = .ok (.getfield 25, 3) := by decide +kernel
theorem dX6_remember_8 : decode cX6_remember 8 = .ok (.arraylength, 1) := by decide +kernel
theorem dX6_remember_9 : decode cX6_remember 9 = .ok (.if_icmp .lt 7, 3) := by decide +kernel
theorem dX6_remember_12 : decode cX6_remember 12 = .ok (.aload_n 0, 1) := by decide +kernel
theorem dX6_remember_13 : decode cX6_remember 13 = .ok (.invokevirtual 40, 3) := by decide +kernel
theorem dX6_remember_16 : decode cX6_remember 16 = .ok (.aload_n 0, 1) := by decide +kernel
theorem dX6_remember_17 : decode cX6_remember 17 = .ok (.getfield 25, 3) := by decide +kernel
theorem dX6_remember_20 : decode cX6_remember 20 = .ok (.aload_n 0, 1) := by decide +kernel
theorem dX6_remember_21 : decode cX6_remember 21 = .ok (.getfield 36, 3) := by decide +kernel
theorem dX6_remember_24 : decode cX6_remember 24 = .ok (.aaload, 1) := by decide +kernel
theorem dX6_remember_25 : decode cX6_remember 25 = .ok (.aload_n 0, 1) := by decide +kernel
theorem dX6_remember_26 : decode cX6_remember 26 = .ok (.getfield 21, 3) := by decide +kernel
theorem dX6_remember_29 : decode cX6_remember 29 = .ok (.invokevirtual 33, 3) := by decide +kernel
theorem dX6_remember_32 : decode cX6_remember 32 = .ok (.aload_n 0, 1) := by decide +kernel
theorem dX6_remember_33 : decode cX6_remember 33 = .ok (.dup, 1) := by decide +kernel
theorem dX6_remember_34 : decode cX6_remember 34 = .ok (.getfield 36, 3) := by decide +kernel
theorem dX6_remember_37 : decode cX6_remember 37 = .ok (.iconst 1, 1) := by decide +kernel
theorem dX6_remember_38 : decode cX6_remember 38 = .ok (.iadd, 1) := by decide +kernel
theorem dX6_remember_39 : decode cX6_remember 39 = .ok (.putfield 36, 3) := by decide +kernel
theorem dX6_remember_42 : decode cX6_remember 42 = .ok (.return_, 1) := by decide +kernel
theorem dX6_loseOldest_0 : decode cX6_loseOldest 0 = .ok (.aload_n 0, 1) := by decide +kernel
theorem dX6_loseOldest_1 : decode cX6_loseOldest 1 = .ok (.getfield 25, 3) := by decide +kernel
theorem dX6_loseOldest_4 : decode cX6_loseOldest 4 = .ok (.iconst 0, 1) := by decide +kernel
theorem dX6_loseOldest_5 : decode cX6_loseOldest 5 = .ok (.aaload, 1) := by decide +kernel
theorem dX6_loseOldest_6 : decode cX6_loseOldest 6 = .ok (.astore_n 1, 1) := by decide +kernel
theorem dX6_loseOldest_7 : decode cX6_loseOldest 7 = .ok (.iconst 1, 1) := by decide +kernel
theorem dX6_loseOldest_8 : decode cX6_loseOldest 8 = .ok (.istore_n 2, 1) := by decide +kernel
theorem dX6_loseOldest_9 : decode cX6_loseOldest 9 = .ok (.iload_n 2, 1) := by decide +kernel
theorem dX6_loseOldest_10 : decode cX6_loseOldest 10 = .ok (.aload_n 0, 1) := by decide +kernel
theorem dX6_loseOldest_11 : decode cX6_loseOldest 11 = .ok (.getfield 25, 3) := by decide +kernel
theorem dX6_loseOldest_14 : decode cX6_loseOldest 14 = .ok (.arraylength, 1) := by decide +kernel
theorem dX6_loseOldest_15 : decode cX6_loseOldest 15 = .ok (.if_icmp .ge 23, 3) := by decide +kernel
theorem dX6_loseOldest_18 : decode cX6_loseOldest 18 = .ok (.aload_n 0, 1) := by decide +kernel
theorem dX6_loseOldest_19 : decode cX6_loseOldest 19 = .ok (.getfield 25, 3) := by decide +kernel
theorem dX6_loseOldest_22 : decode cX6_loseOldest 22 = .ok (.iload_n 2, 1) := by decide +kernel
theorem dX6_loseOldest_23 : decode cX6_loseOldest 23 = .ok (.iconst 1, 1) := by decide +kernel
theorem dX6_loseOldest_24 : decode cX6_loseOldest 24 = .ok (.isub, 1) := by decide +kernel
theorem dX6_loseOldest_25 : decode cX6_loseOldest 25 = .ok (.aload_n 0, 1) := by decide +kernel
theorem dX6_loseOldest_26 : decode cX6_loseOldest 26 = .ok (.getfield 25, 3) := by decide +kernel
theorem dX6_loseOldest_29 : decode cX6_loseOldest 29 = .ok (.iload_n 2, 1) := by decide +kernel
theorem dX6_loseOldest_30 : decode cX6_loseOldest 30 = .ok (.aaload, 1) := by decide +kernel
theorem dX6_loseOldest_31 : decode cX6_loseOldest 31 = .ok (.aastore, 1) := by decide +kernel
theorem dX6_loseOldest_32 : decode cX6_loseOldest 32 = .ok (.iinc 2 1, 3) := by decide +kernel
theorem dX6_loseOldest_35 : decode cX6_loseOldest 35 = .ok (.goto (-26), 3) := by decide +kernel
theorem dX6_loseOldest_38 : decode cX6_loseOldest 38 = .ok (.aload_n 0, 1) := by decide +kernel
theorem dX6_loseOldest_39 : decode cX6_loseOldest 39 = .ok (.getfield 25, 3) := by decide +kernel
theorem dX6_loseOldest_42 : decode cX6_loseOldest 42 = .ok (.aload_n 0, 1) := by decide +kernel
theorem dX6_loseOldest_43 : decode cX6_loseOldest 43 = .ok (.getfield 25, 3) := by decide +kernel
theorem dX6_loseOldest_46 : decode cX6_loseOldest 46 = .ok (.arraylength, 1) := by decide +kernel
theorem dX6_loseOldest_47 : decode cX6_loseOldest 47 = .ok (.iconst 1, 1) := by decide +kernel
theorem dX6_loseOldest_48 : decode cX6_loseOldest 48 = .ok (.isub, 1) := by decide +kernel
theorem dX6_loseOldest_49 : decode cX6_loseOldest 49 = .ok (.aload_n 1, 1) := by decide +kernel
theorem dX6_loseOldest_50 : decode cX6_loseOldest 50 = .ok (.aastore, 1) := by decide +kernel
theorem dX6_loseOldest_51 : decode cX6_loseOldest 51 = .ok (.aload_n 0, 1) := by decide +kernel
theorem dX6_loseOldest_52 : decode cX6_loseOldest 52 = .ok (.aload_n 0, 1) := by decide +kernel
theorem dX6_loseOldest_53 : decode cX6_loseOldest 53 = .ok (.getfield 25, 3) := by decide +kernel
theorem dX6_loseOldest_56 : decode cX6_loseOldest 56 = .ok (.arraylength, 1) := by decide +kernel
theorem dX6_loseOldest_57 : decode cX6_loseOldest 57 = .ok (.iconst 1, 1) := by decide +kernel
theorem dX6_loseOldest_58 : decode cX6_loseOldest 58 = .ok (.isub, 1) := by decide +kernel
theorem dX6_loseOldest_59 : decode cX6_loseOldest 59 = .ok (.putfield 36, 3) := by decide +kernel
theorem dX6_loseOldest_62 : decode cX6_loseOldest 62 = .ok (.return_, 1) := by decide +kernel
theorem dX6_stepBack_0 : decode cX6_stepBack 0 = .ok (.aload_n 0, 1) := by decide +kernel
theorem dX6_stepBack_1 : decode cX6_stepBack 1 = .ok (.getfield 36, 3) := by decide +kernel
theorem dX6_stepBack_4 : decode cX6_stepBack 4 = .ok (.ifCond .le 29, 3) := by decide +kernel
theorem dX6_stepBack_7 : decode cX6_stepBack 7 = .ok (.aload_n 0, 1) := by decide +kernel
theorem dX6_stepBack_8 : decode cX6_stepBack 8 = .ok (.dup, 1) := by decide +kernel
theorem dX6_stepBack_9 : decode cX6_stepBack 9 = .ok (.getfield 36, 3) := by decide +kernel
theorem dX6_stepBack_12 : decode cX6_stepBack 12 = .ok (.iconst 1, 1) := by decide +kernel
theorem dX6_stepBack_13 : decode cX6_stepBack 13 = .ok (.isub, 1) := by decide +kernel
theorem dX6_stepBack_14 : decode cX6_stepBack 14 = .ok (.putfield 36, 3) := by decide +kernel
theorem dX6_stepBack_17 : decode cX6_stepBack 17 = .ok (.aload_n 0, 1) := by decide +kernel
theorem dX6_stepBack_18 : decode cX6_stepBack 18 = .ok (.getfield 21, 3) := by decide +kernel
theorem dX6_stepBack_21 : decode cX6_stepBack 21 = .ok (.aload_n 0, 1) := by decide +kernel
theorem dX6_stepBack_22 : decode cX6_stepBack 22 = .ok (.getfield 25, 3) := by decide +kernel
theorem dX6_stepBack_25 : decode cX6_stepBack 25 = .ok (.aload_n 0, 1) := by decide +kernel
theorem dX6_stepBack_26 : decode cX6_stepBack 26 = .ok (.getfield 36, 3) := by decide +kernel
theorem dX6_stepBack_29 : decode cX6_stepBack 29 = .ok (.aaload, 1) := by decide +kernel
theorem dX6_stepBack_30 : decode cX6_stepBack 30 = .ok (.invokevirtual 33, 3) := by decide +kernel
theorem dX6_stepBack_33 : decode cX6_stepBack 33 = .ok (.return_, 1) := by decide +kernel
theorem dX1_init_0 : decode cX1_init 0 = .ok (.aload_n 0, 1) := by decide +kernel
theorem dX1_init_1 : decode cX1_init 1 = .ok (.invokespecial 3, 3) := by decide +kernel
theorem dX1_init_4 : decode cX1_init 4 = .ok (.aload_n 0, 1) := by decide +kernel
theorem dX1_init_5 : decode cX1_init 5 = .ok (.bipush 10, 2) := by decide +kernel
theorem dX1_init_7 : decode cX1_init 7 = .ok (.anewarray 9, 3) := by decide +kernel
theorem dX1_init_10 : decode cX1_init 10 = .ok (.putfield 11, 3) := by decide +kernel
theorem dX1_init_13 : decode cX1_init 13 = .ok (.aload_n 0, 1) := by decide +kernel
theorem dX1_init_14 : decode cX1_init 14 = .ok (.bipush 9, 2) := by decide +kernel
theorem dX1_init_16 : decode cX1_init 16 = .ok (.newarray .int, 2) := by decide +kernel
theorem dX1_init_18 : decode cX1_init 18 = .ok (.putfield 17, 3) := by decide +kernel
theorem dX1_init_21 : decode cX1_init 21 = .ok (.aload_n 0, 1) := by decide +kernel
theorem dX1_init_22 : decode cX1_init 22 = .ok (.bipush 9, 2) := by decide +kernel
theorem dX1_init_24 : decode cX1_init 24 = .ok (.newarray .int, 2) := by decide +kernel
theorem dX1_init_26 : decode cX1_init 26 = .ok (.putfield 21, 3) := by decide +kernel
theorem dX1_init_29 : decode cX1_init 29 = .ok (.aload_n 0, 1) := by decide +kernel
theorem dX1_init_30 : decode cX1_init 30 = .ok (.bipush 99, 2) := by decide +kernel
theorem dX1_init_32 : decode cX1_init 32 = .ok (.putfield 24, 3) := by decide +kernel
theorem dX1_init_35 : decode cX1_init 35 = .ok (.aload_n 0, 1) := by decide +kernel
theorem dX1_init_36 : decode cX1_init 36 = .ok (.bipush (-4), 2) := by decide +kernel
theorem dX1_init_38 : decode cX1_init 38 = .ok (.putfield 28, 3) := by decide +kernel
theorem dX1_init_41 : decode cX1_init 41 = .ok (.iconst 0, 1) := by decide +kernel
theorem dX1_init_42 : decode cX1_init 42 = .ok (.istore_n 1, 1) := by decide +kernel
theorem dX1_init_43 : decode cX1_init 43 = .ok (.iload_n 1, 1) := by decide +kernel
theorem dX1_init_44 : decode cX1_init 44 = .ok (.aload_n 0, 1) := by decide +kernel
theorem dX1_init_45 : decode cX1_init 45 = .ok (.getfield 11, 3) := by decide +kernel
theorem dX1_init_48 : decode cX1_init 48 = .ok (.arraylength, 1) := by decide +kernel
theorem dX1_init_49 : decode cX1_init 49 = .ok (.if_icmp .ge 22, 3) := by decide +kernel
theorem dX1_init_52 : decode cX1_init 52 = .ok (.aload_n 0, 1) := by decide +kernel
theorem dX1_init_53 : decode cX1_init 53 = .ok (.getfield 11, 3) := by decide +kernel
theorem dX1_init_56 : decode cX1_init 56 = .ok (.iload_n 1, 1) := by decide +kernel
theorem dX1_init_57 : decode cX1_init 57 = .ok (.new 9, 3) := by decide +kernel
theorem dX1_init_60 : decode cX1_init 60 = .ok (.dup, 1) := by decide +kernel
theorem dX1_init_61 : decode cX1_init 61 = .ok (.invokespecial 31, 3) := by decide +kernel
theorem dX1_init_64 : decode cX1_init 64 = .ok (.aastore, 1) := by decide +kernel
theorem dX1_init_65 : decode cX1_init 65 = .ok (.iinc 1 1, 3) := by decide +kernel
theorem dX1_init_68 : decode cX1_init 68 = .ok (.goto (-25), 3) := by decide +kernel
theorem dX1_init_71 : decode cX1_init 71 = .ok (.return_, 1) := by decide +kernel
theorem dX1_setFrom_0 : decode cX1_setFrom 0 = .ok (.iconst 0, 1) := by decide +kernel
theorem dX1_setFrom_1 : decode cX1_setFrom 1 = .ok (.istore_n 2, 1) := by decide +kernel
theorem dX1_setFrom_2 : decode cX1_setFrom 2 = .ok (.iload_n 2, 1) := by decide +kernel
theorem dX1_setFrom_3 : decode cX1_setFrom 3 = .ok (.aload_n 0, 1) := by decide +kernel
theorem dX1_setFrom_4 : decode cX1_setFrom 4 = .ok (.getfield 11, 3) := by decide +kernel
theorem dX1_setFrom_7 : decode cX1_setFrom 7 = .ok (.arraylength, 1) := by decide +kernel
theorem dX1_setFrom_8 : decode cX1_setFrom 8 = .ok (.if_icmp .ge 41, 3) := by decide +kernel
theorem dX1_setFrom_11 : decode cX1_setFrom 11 = .ok (.aload_n 1, 1) := by decide +kernel
theorem dX1_setFrom_12 : decode cX1_setFrom 12 = .ok (.getfield 11, 3) := by decide +kernel
theorem dX1_setFrom_15 : decode cX1_setFrom 15 = .ok (.iload_n 2, 1) := by decide +kernel
theorem dX1_setFrom_16 : decode cX1_setFrom 16 = .ok (.aaload, 1) := by decide +kernel
theorem dX1_setFrom_17 : decode cX1_setFrom 17 = .ok (.astore_n 3, 1) := by decide +kernel
theorem dX1_setFrom_18 : decode cX1_setFrom 18 = .ok (.aload_n 0, 1) := by decide +kernel
theorem dX1_setFrom_19 : decode cX1_setFrom 19 = .ok (.getfield 11, 3) := by decide +kernel
theorem dX1_setFrom_22 : decode cX1_setFrom 22 = .ok (.iload_n 2, 1) := by decide +kernel
theorem dX1_setFrom_23 : decode cX1_setFrom 23 = .ok (.aaload, 1) := by decide +kernel
theorem dX1_setFrom_24 : decode cX1_setFrom 24 = .ok (.aload_n 3, 1) := by decide +kernel
theorem dX1_setFrom_25 : decode cX1_setFrom 25 = .ok (.getfield 32, 3) := by decide +kernel
theorem dX1_setFrom_28 : decode cX1_setFrom 28 = .ok (.aload_n 3, 1) := by decide +kernel
theorem dX1_setFrom_29 : decode cX1_setFrom 29 = .ok (.getfield 35, 3) := by decide +kernel
theorem dX1_setFrom_32 : decode cX1_setFrom 32 = .ok (.aload_n 3, 1) := by decide +kernel
theorem dX1_setFrom_33 : decode cX1_setFrom 33 = .ok (.getfield 38, 3) := by decide +kernel
theorem dX1_setFrom_36 : decode cX1_setFrom 36 = .ok (.aload_n 3, 1) := by decide +kernel
theorem dX1_setFrom_37 : decode cX1_setFrom 37 = .ok (.getfield 41, 3) := by decide +kernel
theorem dX1_setFrom_40 : decode cX1_setFrom 40 = .ok (.invokevirtual 44, 3) := by decide +kernel
theorem dX1_setFrom_43 : decode cX1_setFrom 43 = .ok (.iinc 2 1, 3) := by decide +kernel
theorem dX1_setFrom_46 : decode cX1_setFrom 46 = .ok (.goto (-44), 3) := by decide +kernel
theorem dX1_setFrom_49 : decode cX1_setFrom 49 = .ok (.aload_n 0, 1) := by decide +kernel
theorem dX1_setFrom_50 : decode cX1_setFrom 50 = .ok (.aload_n 1, 1) := by decide +kernel
theorem dX1_setFrom_51 : decode cX1_setFrom 51 = .ok (.getfield 48, 3) := by decide +kernel
theorem dX1_setFrom_54 : decode cX1_setFrom 54 = .ok (.putfield 48, 3) := by decide +kernel
theorem dX1_setFrom_57 : decode cX1_setFrom 57 = .ok (.aload_n 1, 1) := by decide +kernel
theorem dX1_setFrom_58 : decode cX1_setFrom 58 = .ok (.getfield 17, 3) := by decide +kernel
theorem dX1_setFrom_61 : decode cX1_setFrom 61 = .ok (.iconst 0, 1) := by decide +kernel
theorem dX1_setFrom_62 : decode cX1_setFrom 62 = .ok (.aload_n 0, 1) := by decide +kernel
theorem dX1_setFrom_63 : decode cX1_setFrom 63 = .ok (.getfield 17, 3) := by decide +kernel
theorem dX1_setFrom_66 : decode cX1_setFrom 66 = .ok (.iconst 0, 1) := by decide +kernel
theorem dX1_setFrom_67 : decode cX1_setFrom 67 = .ok (.aload_n 0, 1) := by decide +kernel
theorem dX1_setFrom_68 : decode cX1_setFrom 68 = .ok (.getfield 17, 3) := by decide +kernel
theorem dX1_setFrom_71 : decode cX1_setFrom 71 = .ok (.arraylength, 1) := by decide +kernel
theorem dX1_setFrom_72 : decode cX1_setFrom 72 = .ok (.invokestatic 51, 3) := by decide +kernel
theorem dX1_setFrom_75 : decode cX1_setFrom 75 = .ok (.aload_n 1, 1) := by decide +kernel
theorem dX1_setFrom_76 : decode cX1_setFrom 76 = .ok (.getfield 21, 3) := by decide +kernel
theorem dX1_setFrom_79 : decode cX1_setFrom 79 = .ok (.iconst 0, 1) := by decide +kernel
theorem dX1_setFrom_80 : decode cX1_setFrom 80 = .ok (.aload_n 0, 1) := by decide +kernel
theorem dX1_setFrom_81 : decode cX1_setFrom 81 = .ok (.getfield 21, 3) := by decide +kernel
theorem dX1_setFrom_84 : decode cX1_setFrom 84 = .ok (.iconst 0, 1) := by decide +kernel
theorem dX1_setFrom_85 : decode cX1_setFrom 85 = .ok (.aload_n 0, 1) := by decide +kernel
theorem dX1_setFrom_86 : decode cX1_setFrom 86 = .ok (.getfield 21, 3) := by decide +kernel
theorem dX1_setFrom_89 : decode cX1_setFrom 89 = .ok (.arraylength, 1) := by decide +kernel
theorem dX1_setFrom_90 : decode cX1_setFrom 90 = .ok (.invokestatic 51, 3) := by decide +kernel
theorem dX1_setFrom_93 : decode cX1_setFrom 93 = .ok (.aload_n 0, 1) := by decide +kernel
theorem dX1_setFrom_94 : decode cX1_setFrom 94 = .ok (.aload_n 1, 1) := by decide +kernel
theorem dX1_setFrom_95 : decode cX1_setFrom 95 = .ok (.getfield 57, 3) := by decide +kernel
theorem dX1_setFrom_98 : decode cX1_setFrom 98 = .ok (.putfield 57, 3) := by decide +kernel
theorem dX1_setFrom_101 : decode cX1_setFrom 101 = .ok (.aload_n 0, 1) := by decide +kernel
theorem dX1_setFrom_102 : decode cX1_setFrom 102 = .ok (.aload_n 1, 1) := by decide +kernel
theorem dX1_setFrom_103 : decode cX1_setFrom 103 = .ok (.getfield 24, 3) := by decide +kernel
theorem dX1_setFrom_106 : decode cX1_setFrom 106 = .ok (.putfield 24, 3) := by decide +kernel
theorem dX1_setFrom_109 : decode cX1_setFrom 109 = .ok (.aload_n 0, 1) := by decide +kernel
theorem dX1_setFrom_110 : decode cX1_setFrom 110 = .ok (.aload_n 1, 1) := by decide +kernel
theorem dX1_setFrom_111 : decode cX1_setFrom 111 = .ok (.getfield 28, 3) := by decide +kernel
theorem dX1_setFrom_114 : decode cX1_setFrom 114 = .ok (.putfield 28, 3) := by decide +kernel
theorem dX1_setFrom_117 : decode cX1_setFrom 117 = .ok (.return_, 1) := by decide +kernel
theorem dX1_isThing_0 : decode cX1_isThing 0 = .ok (.iload_n 1, 1) := by decide +kernel
theorem dX1_isThing_1 : decode cX1_isThing 1 = .ok (.ifCond .lt 15, 3) := by decide +kernel
theorem dX1_isThing_4 : decode cX1_isThing 4 = .ok (.iload_n 1, 1) := by decide +kernel
theorem dX1_isThing_5 : decode cX1_isThing 5 = .ok (.aload_n 0, 1) := by decide +kernel
theorem dX1_isThing_6 : decode cX1_isThing 6 = .ok (.getfield 48, 3) := by decide +kernel
theorem dX1_isThing_9 : decode cX1_isThing 9 = .ok (.if_icmp .ge 7, 3) := by decide +kernel
theorem dX1_isThing_12 : decode cX1_isThing 12 = .ok (.iconst 1, 1) := by decide +kernel
theorem dX1_isThing_13 : decode cX1_isThing 13 = .ok (.goto 4, 3) := by decide +kernel
theorem dX1_isThing_16 : decode cX1_isThing 16 = .ok (.iconst 0, 1) := by decide +kernel
theorem dX1_isThing_17 : decode cX1_isThing 17 = .ok (.ireturn, 1) := by decide +kernel
theorem dX1_isPerson_0 : decode cX1_isPerson 0 = .ok (.iload_n 1, 1) := by decide +kernel
theorem dX1_isPerson_1 : decode cX1_isPerson 1 = .ok (.ifCond .lt 15, 3) := by decide +kernel
theorem dX1_isPerson_4 : decode cX1_isPerson 4 = .ok (.iload_n 1, 1) := by decide +kernel
theorem dX1_isPerson_5 : decode cX1_isPerson 5 = .ok (.aload_n 0, 1) := by decide +kernel
theorem dX1_isPerson_6 : decode cX1_isPerson 6 = .ok (.getfield 57, 3) := by decide +kernel
theorem dX1_isPerson_9 : decode cX1_isPerson 9 = .ok (.if_icmp .ge 7, 3) := by decide +kernel
theorem dX1_isPerson_12 : decode cX1_isPerson 12 = .ok (.iconst 1, 1) := by decide +kernel
theorem dX1_isPerson_13 : decode cX1_isPerson 13 = .ok (.goto 4, 3) := by decide +kernel
theorem dX1_isPerson_16 : decode cX1_isPerson 16 = .ok (.iconst 0, 1) := by decide +kernel
theorem dX1_isPerson_17 : decode cX1_isPerson 17 = .ok (.ireturn, 1) := by decide +kernel
theorem dX1_addThing_0 : decode cX1_addThing 0 = .ok (.aload_n 0, 1) := by decide +kernel
theorem dX1_addThing_1 : decode cX1_addThing 1 = .ok (.getfield 48, 3) := by decide +kernel
theorem dX1_addThing_4 : decode cX1_addThing 4 = .ok (.aload_n 0, 1) := by decide +kernel
theorem dX1_addThing_5 : decode cX1_addThing 5 = .ok (.getfield 11, 3) := by decide +kernel
theorem dX1_addThing_8 : decode cX1_addThing 8 = .ok (.arraylength, 1) := by decide +kernel
theorem dX1_addThing_9 : decode cX1_addThing 9 = .ok (.if_icmp .lt 6, 3) := by decide +kernel
theorem dX1_addThing_12 : decode cX1_addThing 12 = .ok (.bipush (-3), 2) := by decide +kernel
theorem dX1_addThing_14 : decode cX1_addThing 14 = .ok (.ireturn, 1) := by decide +kernel
theorem dX1_addThing_15 : decode cX1_addThing 15 = .ok (.aload_n 0, 1) := by decide +kernel
theorem dX1_addThing_16 : decode cX1_addThing 16 = .ok (.getfield 11, 3) := by decide +kernel
theorem dX1_addThing_19 : decode cX1_addThing 19 = .ok (.aload_n 0, 1) := by decide +kernel
theorem dX1_addThing_20 : decode cX1_addThing 20 = .ok (.getfield 48, 3) := by decide +kernel
theorem dX1_addThing_23 : decode cX1_addThing 23 = .ok (.aaload, 1) := by decide +kernel
theorem dX1_addThing_24 : decode cX1_addThing 24 = .ok (.iload_n 1, 1) := by decide +kernel
theorem dX1_addThing_25 : decode cX1_addThing 25 = .ok (.iload_n 2, 1) := by decide +kernel
theorem dX1_addThing_26 : decode cX1_addThing 26 = .ok (.iload_n 3, 1) := by decide +kernel
theorem dX1_addThing_27 : decode cX1_addThing 27 = .ok (.iload 4, 2) := by decide +kernel
theorem dX1_addThing_29 : decode cX1_addThing 29 = .ok (.invokevirtual 44, 3) := by decide +kernel
theorem dX1_addThing_32 : decode cX1_addThing 32 = .ok (.aload_n 0, 1) := by decide +kernel
theorem dX1_addThing_33 : decode cX1_addThing 33 = .ok (.dup, 1) := by decide +kernel
theorem dX1_addThing_34 : decode cX1_addThing 34 = .ok (.getfield 48, 3) := by decide +kernel
theorem dX1_addThing_37 : decode cX1_addThing 37 = .ok (.iconst 1, 1) := by decide +kernel
theorem dX1_addThing_38 : decode cX1_addThing 38 = .ok (.iadd, 1) := by decide +kernel
theorem dX1_addThing_39 : decode cX1_addThing 39 = .ok (.putfield 48, 3) := by decide +kernel
theorem dX1_addThing_42 : decode cX1_addThing 42 = .ok (.aload_n 0, 1) := by decide +kernel
theorem dX1_addThing_43 : decode cX1_addThing 43 = .ok (.getfield 48, 3) := by decide +kernel
theorem dX1_addThing_46 : decode cX1_addThing 46 = .ok (.iconst 1, 1) := by decide +kernel
theorem dX1_addThing_47 : decode cX1_addThing 47 = .ok (.isub, 1) := by decide +kernel
theorem dX1_addThing_48 : decode cX1_addThing 48 = .ok (.ireturn, 1) := by decide +kernel
theorem dX1_addPerson_0 : decode cX1_addPerson 0 = .ok (.aload_n 0, 1) := by decide +kernel
theorem dX1_addPerson_1 : decode cX1_addPerson 1 = .ok (.getfield 57, 3) := by decide +kernel
theorem dX1_addPerson_4 : decode cX1_addPerson 4 = .ok (.aload_n 0, 1) := by decide +kernel
theorem dX1_addPerson_5 : decode cX1_addPerson 5 = .ok (.getfield 17, 3) := by decide +kernel
theorem dX1_addPerson_8 : decode cX1_addPerson 8 = .ok (.arraylength, 1) := by decide +kernel
theorem dX1_addPerson_9 : decode cX1_addPerson 9 = .ok (.if_icmp .lt 6, 3) := by decide +kernel
theorem dX1_addPerson_12 : decode cX1_addPerson 12 = .ok (.bipush (-3), 2) := by decide +kernel
theorem dX1_addPerson_14 : decode cX1_addPerson 14 = .ok (.ireturn, 1) := by decide +kernel
theorem dX1_addPerson_15 : decode cX1_addPerson 15 = .ok (.aload_n 0, 1) := by decide +kernel
theorem dX1_addPerson_16 : decode cX1_addPerson 16 = .ok (.getfield 17, 3) := by decide +kernel
theorem dX1_addPerson_19 : decode cX1_addPerson 19 = .ok (.aload_n 0, 1) := by decide +kernel
theorem dX1_addPerson_20 : decode cX1_addPerson 20 = .ok (.getfield 57, 3) := by decide +kernel
theorem dX1_addPerson_23 : decode cX1_addPerson 23 = .ok (.iload_n 1, 1) := by decide +kernel
theorem dX1_addPerson_24 : decode cX1_addPerson 24 = .ok (.iastore, 1) := by decide +kernel
theorem dX1_addPerson_25 : decode cX1_addPerson 25 = .ok (.aload_n 0, 1) := by decide +kernel
theorem dX1_addPerson_26 : decode cX1_addPerson 26 = .ok (.getfield 21, 3) := by decide +kernel
theorem dX1_addPerson_29 : decode cX1_addPerson 29 = .ok (.aload_n 0, 1) := by decide +kernel
theorem dX1_addPerson_30 : decode cX1_addPerson 30 = .ok (.getfield 57, 3) := by decide +kernel
theorem dX1_addPerson_33 : decode cX1_addPerson 33 = .ok (.iload_n 2, 1) := by decide +kernel
theorem dX1_addPerson_34 : decode cX1_addPerson 34 = .ok (.iastore, 1) := by decide +kernel
theorem dX1_addPerson_35 : decode cX1_addPerson 35 = .ok (.aload 4, 2) := by decide +kernel
theorem dX1_addPerson_37 : decode cX1_addPerson 37 = .ok (.getfield 60, 3) := by decide +kernel
theorem dX1_addPerson_40 : decode cX1_addPerson 40 = .ok (.aload_n 0, 1) := by decide +kernel
theorem dX1_addPerson_41 : decode cX1_addPerson 41 = .ok (.getfield 57, 3) := by decide +kernel
theorem dX1_addPerson_44 : decode cX1_addPerson 44 = .ok (.iload_n 3, 1) := by decide +kernel
theorem dX1_addPerson_45 : decode cX1_addPerson 45 = .ok (.iastore, 1) := by decide +kernel
theorem dX1_addPerson_46 : decode cX1_addPerson 46 = .ok (.aload_n 0, 1) := by decide +kernel
theorem dX1_addPerson_47 : decode cX1_addPerson 47 = .ok (.dup, 1) := by decide +kernel
theorem dX1_addPerson_48 : decode cX1_addPerson 48 = .ok (.getfield 57, 3) := by decide +kernel
theorem dX1_addPerson_51 : decode cX1_addPerson 51 = .ok (.iconst 1, 1) := by decide +kernel
theorem dX1_addPerson_52 : decode cX1_addPerson 52 = .ok (.iadd, 1) := by decide +kernel
theorem dX1_addPerson_53 : decode cX1_addPerson 53 = .ok (.putfield 57, 3) := by decide +kernel
theorem dX1_addPerson_56 : decode cX1_addPerson 56 = .ok (.aload_n 0, 1) := by decide +kernel
theorem dX1_addPerson_57 : decode cX1_addPerson 57 = .ok (.getfield 57, 3) := by decide +kernel
theorem dX1_addPerson_60 : decode cX1_addPerson 60 = .ok (.iconst 1, 1) := by decide +kernel
theorem dX1_addPerson_61 : decode cX1_addPerson 61 = .ok (.isub, 1) := by decide +kernel
theorem dX1_addPerson_62 : decode cX1_addPerson 62 = .ok (.ireturn, 1) := by decide +kernel
theorem dX1_worthOf_0 : decode cX1_worthOf 0 = .ok (.aload_n 0, 1) := by decide +kernel
theorem dX1_worthOf_1 : decode cX1_worthOf 1 = .ok (.iload_n 1, 1) := by decide +kernel
theorem dX1_worthOf_2 : decode cX1_worthOf 2 = .ok (.invokevirtual 65, 3) := by decide +kernel
theorem dX1_worthOf_5 : decode cX1_worthOf 5 = .ok (.ifCond .eq 15, 3) := by decide +kernel
theorem dX1_worthOf_8 : decode cX1_worthOf 8 = .ok (.aload_n 0, 1) := by decide +kernel
theorem dX1_worthOf_9 : decode cX1_worthOf 9 = .ok (.getfield 11, 3) := by decide +kernel
theorem dX1_worthOf_12 : decode cX1_worthOf 12 = .ok (.iload_n 1, 1) := by decide +kernel
theorem dX1_worthOf_13 : decode cX1_worthOf 13 = .ok (.aaload, 1) := by decide +kernel
theorem dX1_worthOf_14 : decode cX1_worthOf 14 = .ok (.getfield 35, 3) := by decide +kernel
theorem dX1_worthOf_17 : decode cX1_worthOf 17 = .ok (.goto 4, 3) := by decide +kernel
theorem dX1_worthOf_20 : decode cX1_worthOf 20 = .ok (.iconst 0, 1) := by decide +kernel
theorem dX1_worthOf_21 : decode cX1_worthOf 21 = .ok (.ireturn, 1) := by decide +kernel
theorem dX1_whoHas_0 : decode cX1_whoHas 0 = .ok (.aload_n 2, 1) := by decide +kernel
theorem dX1_whoHas_1 : decode cX1_whoHas 1 = .ok (.getfield 69, 3) := by decide +kernel
theorem dX1_whoHas_4 : decode cX1_whoHas 4 = .ok (.iload_n 1, 1) := by decide +kernel
theorem dX1_whoHas_5 : decode cX1_whoHas 5 = .ok (.if_icmp .ne 6, 3) := by decide +kernel
theorem dX1_whoHas_8 : decode cX1_whoHas 8 = .ok (.bipush 8, 2) := by decide +kernel
theorem dX1_whoHas_10 : decode cX1_whoHas 10 = .ok (.ireturn, 1) := by decide +kernel
theorem dX1_whoHas_11 : decode cX1_whoHas 11 = .ok (.iconst 0, 1) := by decide +kernel
theorem dX1_whoHas_12 : decode cX1_whoHas 12 = .ok (.istore_n 3, 1) := by decide +kernel
theorem dX1_whoHas_13 : decode cX1_whoHas 13 = .ok (.iload_n 3, 1) := by decide +kernel
theorem dX1_whoHas_14 : decode cX1_whoHas 14 = .ok (.aload_n 0, 1) := by decide +kernel
theorem dX1_whoHas_15 : decode cX1_whoHas 15 = .ok (.getfield 57, 3) := by decide +kernel
theorem dX1_whoHas_18 : decode cX1_whoHas 18 = .ok (.if_icmp .ge 21, 3) := by decide +kernel
theorem dX1_whoHas_21 : decode cX1_whoHas 21 = .ok (.aload_n 2, 1) := by decide +kernel
theorem dX1_whoHas_22 : decode cX1_whoHas 22 = .ok (.getfield 60, 3) := by decide +kernel
theorem dX1_whoHas_25 : decode cX1_whoHas 25 = .ok (.iload_n 3, 1) := by decide +kernel
theorem dX1_whoHas_26 : decode cX1_whoHas 26 = .ok (.iaload, 1) := by decide +kernel
theorem dX1_whoHas_27 : decode cX1_whoHas 27 = .ok (.iload_n 1, 1) := by decide +kernel
theorem dX1_whoHas_28 : decode cX1_whoHas 28 = .ok (.if_icmp .ne 5, 3) := by decide +kernel
theorem dX1_whoHas_31 : decode cX1_whoHas 31 = .ok (.iload_n 3, 1) := by decide +kernel
theorem dX1_whoHas_32 : decode cX1_whoHas 32 = .ok (.ireturn, 1) := by decide +kernel
theorem dX1_whoHas_33 : decode cX1_whoHas 33 = .ok (.iinc 3 1, 3) := by decide +kernel
theorem dX1_whoHas_36 : decode cX1_whoHas 36 = .ok (.goto (-23), 3) := by decide +kernel
theorem dX1_whoHas_39 : decode cX1_whoHas 39 = .ok (.bipush (-4), 2) := by decide +kernel
theorem dX1_whoHas_41 : decode cX1_whoHas 41 = .ok (.ireturn, 1) := by decide +kernel
theorem dX1_isPeopled_0 : decode cX1_isPeopled 0 = .ok (.iconst 0, 1) := by decide +kernel
theorem dX1_isPeopled_1 : decode cX1_isPeopled 1 = .ok (.istore_n 2, 1) := by decide +kernel
theorem dX1_isPeopled_2 : decode cX1_isPeopled 2 = .ok (.iload_n 2, 1) := by decide +kernel
theorem dX1_isPeopled_3 : decode cX1_isPeopled 3 = .ok (.aload_n 0, 1) := by decide +kernel
theorem dX1_isPeopled_4 : decode cX1_isPeopled 4 = .ok (.getfield 57, 3) := by decide +kernel
theorem dX1_isPeopled_7 : decode cX1_isPeopled 7 = .ok (.if_icmp .ge 21, 3) := by decide +kernel
theorem dX1_isPeopled_10 : decode cX1_isPeopled 10 = .ok (.aload_n 0, 1) := by decide +kernel
theorem dX1_isPeopled_11 : decode cX1_isPeopled 11 = .ok (.getfield 17, 3) := by decide +kernel
theorem dX1_isPeopled_14 : decode cX1_isPeopled 14 = .ok (.iload_n 2, 1) := by decide +kernel
theorem dX1_isPeopled_15 : decode cX1_isPeopled 15 = .ok (.iaload, 1) := by decide +kernel
theorem dX1_isPeopled_16 : decode cX1_isPeopled 16 = .ok (.iload_n 1, 1) := by decide +kernel
theorem dX1_isPeopled_17 : decode cX1_isPeopled 17 = .ok (.if_icmp .ne 5, 3) := by decide +kernel
theorem dX1_isPeopled_20 : decode cX1_isPeopled 20 = .ok (.iconst 1, 1) := by decide +kernel
theorem dX1_isPeopled_21 : decode cX1_isPeopled 21 = .ok (.ireturn, 1) := by decide +kernel
theorem dX1_isPeopled_22 : decode cX1_isPeopled 22 = .ok (.iinc 2 1, 3) := by decide +kernel
theorem dX1_isPeopled_25 : decode cX1_isPeopled 25 = .ok (.goto (-23), 3) := by decide +kernel
theorem dX1_isPeopled_28 : decode cX1_isPeopled 28 = .ok (.iconst 0, 1) := by decide +kernel
theorem dX1_isPeopled_29 : decode cX1_isPeopled 29 = .ok (.ireturn, 1) := by decide +kernel
theorem dX1_pass_0 : decode cX1_pass 0 = .ok (.aload_n 1, 1) := by decide +kernel
theorem dX1_pass_1 : decode cX1_pass 1 = .ok (.getfield 72, 3) := by decide +kernel
theorem dX1_pass_4 : decode cX1_pass 4 = .ok (.istore_n 3, 1) := by decide +kernel
theorem dX1_pass_5 : decode cX1_pass 5 = .ok (.aload_n 0, 1) := by decide +kernel
theorem dX1_pass_6 : decode cX1_pass 6 = .ok (.aload_n 1, 1) := by decide +kernel
theorem dX1_pass_7 : decode cX1_pass 7 = .ok (.getfield 69, 3) := by decide +kernel
theorem dX1_pass_10 : decode cX1_pass 10 = .ok (.invokevirtual 65, 3) := by decide +kernel
theorem dX1_pass_13 : decode cX1_pass 13 = .ok (.ifCond .eq 9, 3) := by decide +kernel
theorem dX1_pass_16 : decode cX1_pass 16 = .ok (.aload_n 0, 1) := by decide +kernel
theorem dX1_pass_17 : decode cX1_pass 17 = .ok (.aload_n 1, 1) := by decide +kernel
theorem dX1_pass_18 : decode cX1_pass 18 = .ok (.iload_n 2, 1) := by decide +kernel
theorem dX1_pass_19 : decode cX1_pass 19 = .ok (.invokevirtual 75, 3) := by decide +kernel
theorem dX1_pass_22 : decode cX1_pass 22 = .ok (.iconst 0, 1) := by decide +kernel
theorem dX1_pass_23 : decode cX1_pass 23 = .ok (.istore 4, 2) := by decide +kernel
theorem dX1_pass_25 : decode cX1_pass 25 = .ok (.iload 4, 2) := by decide +kernel
theorem dX1_pass_27 : decode cX1_pass 27 = .ok (.aload_n 0, 1) := by decide +kernel
theorem dX1_pass_28 : decode cX1_pass 28 = .ok (.getfield 57, 3) := by decide +kernel
theorem dX1_pass_31 : decode cX1_pass 31 = .ok (.if_icmp .ge 56, 3) := by decide +kernel
theorem dX1_pass_34 : decode cX1_pass 34 = .ok (.aload_n 0, 1) := by decide +kernel
theorem dX1_pass_35 : decode cX1_pass 35 = .ok (.getfield 17, 3) := by decide +kernel
theorem dX1_pass_38 : decode cX1_pass 38 = .ok (.iload 4, 2) := by decide +kernel
theorem dX1_pass_40 : decode cX1_pass 40 = .ok (.iaload, 1) := by decide +kernel
theorem dX1_pass_41 : decode cX1_pass 41 = .ok (.aload_n 1, 1) := by decide +kernel
theorem dX1_pass_42 : decode cX1_pass 42 = .ok (.getfield 79, 3) := by decide +kernel
theorem dX1_pass_45 : decode cX1_pass 45 = .ok (.if_icmp .ne 36, 3) := by decide +kernel
theorem dX1_pass_48 : decode cX1_pass 48 = .ok (.aload_n 0, 1) := by decide +kernel
theorem dX1_pass_49 : decode cX1_pass 49 = .ok (.aload_n 1, 1) := by decide +kernel
theorem dX1_pass_50 : decode cX1_pass 50 = .ok (.getfield 69, 3) := by decide +kernel
theorem dX1_pass_53 : decode cX1_pass 53 = .ok (.invokevirtual 65, 3) := by decide +kernel
theorem dX1_pass_56 : decode cX1_pass 56 = .ok (.ifCond .eq 25, 3) := by decide +kernel
theorem dX1_pass_59 : decode cX1_pass 59 = .ok (.aload_n 0, 1) := by decide +kernel
theorem dX1_pass_60 : decode cX1_pass 60 = .ok (.aload_n 1, 1) := by decide +kernel
theorem dX1_pass_61 : decode cX1_pass 61 = .ok (.getfield 60, 3) := by decide +kernel
theorem dX1_pass_64 : decode cX1_pass 64 = .ok (.iload 4, 2) := by decide +kernel
theorem dX1_pass_66 : decode cX1_pass 66 = .ok (.iaload, 1) := by decide +kernel
theorem dX1_pass_67 : decode cX1_pass 67 = .ok (.invokevirtual 65, 3) := by decide +kernel
theorem dX1_pass_70 : decode cX1_pass 70 = .ok (.ifCond .eq 11, 3) := by decide +kernel
theorem dX1_pass_73 : decode cX1_pass 73 = .ok (.aload_n 0, 1) := by decide +kernel
theorem dX1_pass_74 : decode cX1_pass 74 = .ok (.aload_n 1, 1) := by decide +kernel
theorem dX1_pass_75 : decode cX1_pass 75 = .ok (.iload 4, 2) := by decide +kernel
theorem dX1_pass_77 : decode cX1_pass 77 = .ok (.iload_n 2, 1) := by decide +kernel
theorem dX1_pass_78 : decode cX1_pass 78 = .ok (.invokevirtual 82, 3) := by decide +kernel
theorem dX1_pass_81 : decode cX1_pass 81 = .ok (.iinc 4 1, 3) := by decide +kernel
theorem dX1_pass_84 : decode cX1_pass 84 = .ok (.goto (-59), 3) := by decide +kernel
theorem dX1_pass_87 : decode cX1_pass 87 = .ok (.aload_n 0, 1) := by decide +kernel
theorem dX1_pass_88 : decode cX1_pass 88 = .ok (.getfield 28, 3) := by decide +kernel
theorem dX1_pass_91 : decode cX1_pass 91 = .ok (.aload_n 1, 1) := by decide +kernel
theorem dX1_pass_92 : decode cX1_pass 92 = .ok (.getfield 79, 3) := by decide +kernel
theorem dX1_pass_95 : decode cX1_pass 95 = .ok (.if_icmp .ne 42, 3) := by decide +kernel
theorem dX1_pass_98 : decode cX1_pass 98 = .ok (.aload_n 0, 1) := by decide +kernel
theorem dX1_pass_99 : decode cX1_pass 99 = .ok (.aload_n 1, 1) := by decide +kernel
theorem dX1_pass_100 : decode cX1_pass 100 = .ok (.getfield 69, 3) := by decide +kernel
theorem dX1_pass_103 : decode cX1_pass 103 = .ok (.invokevirtual 65, 3) := by decide +kernel
theorem dX1_pass_106 : decode cX1_pass 106 = .ok (.ifCond .eq 31, 3) := by decide +kernel
theorem dX1_pass_109 : decode cX1_pass 109 = .ok (.aload_n 0, 1) := by decide +kernel
theorem dX1_pass_110 : decode cX1_pass 110 = .ok (.getfield 11, 3) := by decide +kernel
theorem dX1_pass_113 : decode cX1_pass 113 = .ok (.aload_n 1, 1) := by decide +kernel
theorem dX1_pass_114 : decode cX1_pass 114 = .ok (.getfield 69, 3) := by decide +kernel
theorem dX1_pass_117 : decode cX1_pass 117 = .ok (.aaload, 1) := by decide +kernel
theorem dX1_pass_118 : decode cX1_pass 118 = .ok (.iconst 0, 1) := by decide +kernel
theorem dX1_pass_119 : decode cX1_pass 119 = .ok (.aload_n 1, 1) := by decide +kernel
theorem dX1_pass_120 : decode cX1_pass 120 = .ok (.getfield 86, 3) := by decide +kernel
theorem dX1_pass_123 : decode cX1_pass 123 = .ok (.invokevirtual 89, 3) := by decide +kernel
theorem dX1_pass_126 : decode cX1_pass 126 = .ok (.bipush 10, 2) := by decide +kernel
theorem dX1_pass_128 : decode cX1_pass 128 = .ok (.if_icmp .lt 9, 3) := by decide +kernel
theorem dX1_pass_131 : decode cX1_pass 131 = .ok (.aload_n 1, 1) := by decide +kernel
theorem dX1_pass_132 : decode cX1_pass 132 = .ok (.bipush (-4), 2) := by decide +kernel
theorem dX1_pass_134 : decode cX1_pass 134 = .ok (.invokevirtual 93, 3) := by decide +kernel
theorem dX1_pass_137 : decode cX1_pass 137 = .ok (.aload_n 1, 1) := by decide +kernel
theorem dX1_pass_138 : decode cX1_pass 138 = .ok (.dup, 1) := by decide +kernel
theorem dX1_pass_139 : decode cX1_pass 139 = .ok (.getfield 79, 3) := by decide +kernel
theorem dX1_pass_142 : decode cX1_pass 142 = .ok (.iconst 1, 1) := by decide +kernel
theorem dX1_pass_143 : decode cX1_pass 143 = .ok (.iadd, 1) := by decide +kernel
theorem dX1_pass_144 : decode cX1_pass 144 = .ok (.putfield 79, 3) := by decide +kernel
theorem dX1_pass_147 : decode cX1_pass 147 = .ok (.aload_n 1, 1) := by decide +kernel
theorem dX1_pass_148 : decode cX1_pass 148 = .ok (.getfield 72, 3) := by decide +kernel
theorem dX1_pass_151 : decode cX1_pass 151 = .ok (.iload_n 3, 1) := by decide +kernel
theorem dX1_pass_152 : decode cX1_pass 152 = .ok (.isub, 1) := by decide +kernel
theorem dX1_pass_153 : decode cX1_pass 153 = .ok (.ireturn, 1) := by decide +kernel
theorem dX1_feelOneMore_0 : decode cX1_feelOneMore 0 = .ok (.aload_n 1, 1) := by decide +kernel
theorem dX1_feelOneMore_1 : decode cX1_feelOneMore 1 = .ok (.dup, 1) := by decide +kernel
theorem dX1_feelOneMore_2 : decode cX1_feelOneMore 2 = .ok (.getfield 86, 3) := by decide +kernel
theorem dX1_feelOneMore_5 : decode cX1_feelOneMore 5 = .ok (.iconst 1, 1) := by decide +kernel
theorem dX1_feelOneMore_6 : decode cX1_feelOneMore 6 = .ok (.iadd, 1) := by decide +kernel
theorem dX1_feelOneMore_7 : decode cX1_feelOneMore 7 = .ok (.putfield 86, 3) := by decide +kernel
theorem dX1_feelOneMore_10 : decode cX1_feelOneMore 10 = .ok (.aload_n 0, 1) := by decide +kernel
theorem dX1_feelOneMore_11 : decode cX1_feelOneMore 11 = .ok (.getfield 11, 3) := by decide +kernel
theorem dX1_feelOneMore_14 : decode cX1_feelOneMore 14 = .ok (.aload_n 1, 1) := by decide +kernel
theorem dX1_feelOneMore_15 : decode cX1_feelOneMore 15 = .ok (.getfield 69, 3) := by decide +kernel
theorem dX1_feelOneMore_18 : decode cX1_feelOneMore 18 = .ok (.aaload, 1) := by decide +kernel
theorem dX1_feelOneMore_19 : decode cX1_feelOneMore 19 = .ok (.astore_n 3, 1) := by decide +kernel
theorem dX1_feelOneMore_20 : decode cX1_feelOneMore 20 = .ok (.aload_n 3, 1) := by decide +kernel
theorem dX1_feelOneMore_21 : decode cX1_feelOneMore 21 = .ok (.iconst 0, 1) := by decide +kernel
theorem dX1_feelOneMore_22 : decode cX1_feelOneMore 22 = .ok (.aload_n 1, 1) := by decide +kernel
theorem dX1_feelOneMore_23 : decode cX1_feelOneMore 23 = .ok (.getfield 86, 3) := by decide +kernel
theorem dX1_feelOneMore_26 : decode cX1_feelOneMore 26 = .ok (.invokevirtual 89, 3) := by decide +kernel
theorem dX1_feelOneMore_29 : decode cX1_feelOneMore 29 = .ok (.aload_n 3, 1) := by decide +kernel
theorem dX1_feelOneMore_30 : decode cX1_feelOneMore 30 = .ok (.iconst 1, 1) := by decide +kernel
theorem dX1_feelOneMore_31 : decode cX1_feelOneMore 31 = .ok (.aload_n 1, 1) := by decide +kernel
theorem dX1_feelOneMore_32 : decode cX1_feelOneMore 32 = .ok (.getfield 86, 3) := by decide +kernel
theorem dX1_feelOneMore_35 : decode cX1_feelOneMore 35 = .ok (.invokevirtual 89, 3) := by decide +kernel
theorem dX1_feelOneMore_38 : decode cX1_feelOneMore 38 = .ok (.iload_n 2, 1) := by decide +kernel
theorem dX1_feelOneMore_39 : decode cX1_feelOneMore 39 = .ok (.imul, 1) := by decide +kernel
theorem dX1_feelOneMore_40 : decode cX1_feelOneMore 40 = .ok (.if_icmp .lt 7, 3) := by decide +kernel
theorem dX1_feelOneMore_43 : decode cX1_feelOneMore 43 = .ok (.iconst 1, 1) := by decide +kernel
theorem dX1_feelOneMore_44 : decode cX1_feelOneMore 44 = .ok (.goto 4, 3) := by decide +kernel
theorem dX1_feelOneMore_47 : decode cX1_feelOneMore 47 = .ok (.iconst 0, 1) := by decide +kernel
theorem dX1_feelOneMore_48 : decode cX1_feelOneMore 48 = .ok (.istore 4, 2) := by decide +kernel
theorem dX1_feelOneMore_50 : decode cX1_feelOneMore 50 = .ok (.aload_n 1, 1) := by decide +kernel
theorem dX1_feelOneMore_51 : decode cX1_feelOneMore 51 = .ok (.iload 4, 2) := by decide +kernel
theorem dX1_feelOneMore_53 : decode cX1_feelOneMore 53 = .ok (.ifCond .eq 7, 3) := by decide +kernel
theorem dX1_feelOneMore_56 : decode cX1_feelOneMore 56 = .ok (.iconst 0, 1) := by decide +kernel
theorem dX1_feelOneMore_57 : decode cX1_feelOneMore 57 = .ok (.goto 4, 3) := by decide +kernel
theorem dX1_feelOneMore_60 : decode cX1_feelOneMore 60 = .ok (.iconst 1, 1) := by decide +kernel
theorem dX1_feelOneMore_61 : decode cX1_feelOneMore 61 = .ok (.putfield 97, 3) := by decide +kernel
theorem dX1_feelOneMore_64 : decode cX1_feelOneMore 64 = .ok (.return_, 1) := by decide +kernel
theorem dX1_offer_0 : decode cX1_offer 0 = .ok (.aload_n 1, 1) := by decide +kernel
theorem dX1_offer_1 : decode cX1_offer 1 = .ok (.getfield 60, 3) := by decide +kernel
theorem dX1_offer_4 : decode cX1_offer 4 = .ok (.iload_n 2, 1) := by decide +kernel
theorem dX1_offer_5 : decode cX1_offer 5 = .ok (.iaload, 1) := by decide +kernel
theorem dX1_offer_6 : decode cX1_offer 6 = .ok (.istore 4, 2) := by decide +kernel
theorem dX1_offer_8 : decode cX1_offer 8 = .ok (.aload_n 0, 1) := by decide +kernel
theorem dX1_offer_9 : decode cX1_offer 9 = .ok (.aload_n 1, 1) := by decide +kernel
theorem dX1_offer_10 : decode cX1_offer 10 = .ok (.iload 4, 2) := by decide +kernel
theorem dX1_offer_12 : decode cX1_offer 12 = .ok (.aload_n 0, 1) := by decide +kernel
theorem dX1_offer_13 : decode cX1_offer 13 = .ok (.getfield 24, 3) := by decide +kernel
theorem dX1_offer_16 : decode cX1_offer 16 = .ok (.iload_n 3, 1) := by decide +kernel
theorem dX1_offer_17 : decode cX1_offer 17 = .ok (.invokevirtual 100, 3) := by decide +kernel
theorem dX1_offer_20 : decode cX1_offer 20 = .ok (.ifCond .ne 4, 3) := by decide +kernel
theorem dX1_offer_23 : decode cX1_offer 23 = .ok (.return_, 1) := by decide +kernel
theorem dX1_offer_24 : decode cX1_offer 24 = .ok (.aload_n 0, 1) := by decide +kernel
theorem dX1_offer_25 : decode cX1_offer 25 = .ok (.getfield 11, 3) := by decide +kernel
theorem dX1_offer_28 : decode cX1_offer 28 = .ok (.aload_n 1, 1) := by decide +kernel
theorem dX1_offer_29 : decode cX1_offer 29 = .ok (.getfield 69, 3) := by decide +kernel
theorem dX1_offer_32 : decode cX1_offer 32 = .ok (.aaload, 1) := by decide +kernel
theorem dX1_offer_33 : decode cX1_offer 33 = .ok (.getfield 35, 3) := by decide +kernel
theorem dX1_offer_36 : decode cX1_offer 36 = .ok (.aload_n 0, 1) := by decide +kernel
theorem dX1_offer_37 : decode cX1_offer 37 = .ok (.getfield 11, 3) := by decide +kernel
theorem dX1_offer_40 : decode cX1_offer 40 = .ok (.iload 4, 2) := by decide +kernel
theorem dX1_offer_42 : decode cX1_offer 42 = .ok (.aaload, 1) := by decide +kernel
theorem dX1_offer_43 : decode cX1_offer 43 = .ok (.getfield 35, 3) := by decide +kernel
theorem dX1_offer_46 : decode cX1_offer 46 = .ok (.aload_n 0, 1) := by decide +kernel
theorem dX1_offer_47 : decode cX1_offer 47 = .ok (.getfield 21, 3) := by decide +kernel
theorem dX1_offer_50 : decode cX1_offer 50 = .ok (.iload_n 2, 1) := by decide +kernel
theorem dX1_offer_51 : decode cX1_offer 51 = .ok (.iaload, 1) := by decide +kernel
theorem dX1_offer_52 : decode cX1_offer 52 = .ok (.iadd, 1) := by decide +kernel
theorem dX1_offer_53 : decode cX1_offer 53 = .ok (.if_icmp .lt 7, 3) := by decide +kernel
theorem dX1_offer_56 : decode cX1_offer 56 = .ok (.iconst 1, 1) := by decide +kernel
theorem dX1_offer_57 : decode cX1_offer 57 = .ok (.goto 4, 3) := by decide +kernel
theorem dX1_offer_60 : decode cX1_offer 60 = .ok (.iconst 0, 1) := by decide +kernel
theorem dX1_offer_61 : decode cX1_offer 61 = .ok (.istore 5, 2) := by decide +kernel
theorem dX1_offer_63 : decode cX1_offer 63 = .ok (.iload 5, 2) := by decide +kernel
theorem dX1_offer_65 : decode cX1_offer 65 = .ok (.ifCond .eq 32, 3) := by decide +kernel
theorem dX1_offer_68 : decode cX1_offer 68 = .ok (.aload_n 1, 1) := by decide +kernel
theorem dX1_offer_69 : decode cX1_offer 69 = .ok (.getfield 60, 3) := by decide +kernel
theorem dX1_offer_72 : decode cX1_offer 72 = .ok (.iload_n 2, 1) := by decide +kernel
theorem dX1_offer_73 : decode cX1_offer 73 = .ok (.aload_n 1, 1) := by decide +kernel
theorem dX1_offer_74 : decode cX1_offer 74 = .ok (.getfield 69, 3) := by decide +kernel
theorem dX1_offer_77 : decode cX1_offer 77 = .ok (.iastore, 1) := by decide +kernel
theorem dX1_offer_78 : decode cX1_offer 78 = .ok (.aload_n 1, 1) := by decide +kernel
theorem dX1_offer_79 : decode cX1_offer 79 = .ok (.iload 4, 2) := by decide +kernel
theorem dX1_offer_81 : decode cX1_offer 81 = .ok (.invokevirtual 93, 3) := by decide +kernel
theorem dX1_offer_84 : decode cX1_offer 84 = .ok (.aload_n 1, 1) := by decide +kernel
theorem dX1_offer_85 : decode cX1_offer 85 = .ok (.dup, 1) := by decide +kernel
theorem dX1_offer_86 : decode cX1_offer 86 = .ok (.getfield 72, 3) := by decide +kernel
theorem dX1_offer_89 : decode cX1_offer 89 = .ok (.iconst 1, 1) := by decide +kernel
theorem dX1_offer_90 : decode cX1_offer 90 = .ok (.iadd, 1) := by decide +kernel
theorem dX1_offer_91 : decode cX1_offer 91 = .ok (.putfield 72, 3) := by decide +kernel
theorem dX1_offer_94 : decode cX1_offer 94 = .ok (.goto 20, 3) := by decide +kernel
theorem dX1_offer_97 : decode cX1_offer 97 = .ok (.aload_n 1, 1) := by decide +kernel
theorem dX1_offer_98 : decode cX1_offer 98 = .ok (.getfield 104, 3) := by decide +kernel
theorem dX1_offer_101 : decode cX1_offer 101 = .ok (.bipush (-4), 2) := by decide +kernel
theorem dX1_offer_103 : decode cX1_offer 103 = .ok (.if_icmp .ne 11, 3) := by decide +kernel
theorem dX1_offer_106 : decode cX1_offer 106 = .ok (.aload_n 1, 1) := by decide +kernel
theorem dX1_offer_107 : decode cX1_offer 107 = .ok (.aload_n 1, 1) := by decide +kernel
theorem dX1_offer_108 : decode cX1_offer 108 = .ok (.getfield 79, 3) := by decide +kernel
theorem dX1_offer_111 : decode cX1_offer 111 = .ok (.putfield 104, 3) := by decide +kernel
theorem dX1_offer_114 : decode cX1_offer 114 = .ok (.return_, 1) := by decide +kernel
theorem dX1_isGlad_0 : decode cX1_isGlad 0 = .ok (.aload_n 0, 1) := by decide +kernel
theorem dX1_isGlad_1 : decode cX1_isGlad 1 = .ok (.getfield 11, 3) := by decide +kernel
theorem dX1_isGlad_4 : decode cX1_isGlad 4 = .ok (.aload_n 1, 1) := by decide +kernel
theorem dX1_isGlad_5 : decode cX1_isGlad 5 = .ok (.getfield 69, 3) := by decide +kernel
theorem dX1_isGlad_8 : decode cX1_isGlad 8 = .ok (.aaload, 1) := by decide +kernel
theorem dX1_isGlad_9 : decode cX1_isGlad 9 = .ok (.astore 5, 2) := by decide +kernel
theorem dX1_isGlad_11 : decode cX1_isGlad 11 = .ok (.aload_n 0, 1) := by decide +kernel
theorem dX1_isGlad_12 : decode cX1_isGlad 12 = .ok (.getfield 11, 3) := by decide +kernel
theorem dX1_isGlad_15 : decode cX1_isGlad 15 = .ok (.iload_n 2, 1) := by decide +kernel
theorem dX1_isGlad_16 : decode cX1_isGlad 16 = .ok (.aaload, 1) := by decide +kernel
theorem dX1_isGlad_17 : decode cX1_isGlad 17 = .ok (.astore 6, 2) := by decide +kernel
theorem dX1_isGlad_19 : decode cX1_isGlad 19 = .ok (.aload_n 1, 1) := by decide +kernel
theorem dX1_isGlad_20 : decode cX1_isGlad 20 = .ok (.getfield 97, 3) := by decide +kernel
theorem dX1_isGlad_23 : decode cX1_isGlad 23 = .ok (.iconst 1, 1) := by decide +kernel
theorem dX1_isGlad_24 : decode cX1_isGlad 24 = .ok (.if_icmp .ne 8, 3) := by decide +kernel
theorem dX1_isGlad_27 : decode cX1_isGlad 27 = .ok (.iload 4, 2) := by decide +kernel
theorem dX1_isGlad_29 : decode cX1_isGlad 29 = .ok (.goto 4, 3) := by decide +kernel
theorem dX1_isGlad_32 : decode cX1_isGlad 32 = .ok (.iconst 1, 1) := by decide +kernel
theorem dX1_isGlad_33 : decode cX1_isGlad 33 = .ok (.istore 7, 2) := by decide +kernel
theorem dX1_isGlad_35 : decode cX1_isGlad 35 = .ok (.aload 5, 2) := by decide +kernel
theorem dX1_isGlad_37 : decode cX1_isGlad 37 = .ok (.aload_n 1, 1) := by decide +kernel
theorem dX1_isGlad_38 : decode cX1_isGlad 38 = .ok (.getfield 97, 3) := by decide +kernel
theorem dX1_isGlad_41 : decode cX1_isGlad 41 = .ok (.aload_n 1, 1) := by decide +kernel
theorem dX1_isGlad_42 : decode cX1_isGlad 42 = .ok (.getfield 86, 3) := by decide +kernel
theorem dX1_isGlad_45 : decode cX1_isGlad 45 = .ok (.invokevirtual 89, 3) := by decide +kernel
theorem dX1_isGlad_48 : decode cX1_isGlad 48 = .ok (.iload 7, 2) := by decide +kernel
theorem dX1_isGlad_50 : decode cX1_isGlad 50 = .ok (.imul, 1) := by decide +kernel
theorem dX1_isGlad_51 : decode cX1_isGlad 51 = .ok (.aload 6, 2) := by decide +kernel
theorem dX1_isGlad_53 : decode cX1_isGlad 53 = .ok (.aload_n 1, 1) := by decide +kernel
theorem dX1_isGlad_54 : decode cX1_isGlad 54 = .ok (.getfield 97, 3) := by decide +kernel
theorem dX1_isGlad_57 : decode cX1_isGlad 57 = .ok (.iconst 0, 1) := by decide +kernel
theorem dX1_isGlad_58 : decode cX1_isGlad 58 = .ok (.invokevirtual 89, 3) := by decide +kernel
theorem dX1_isGlad_61 : decode cX1_isGlad 61 = .ok (.if_icmp .le 22, 3) := by decide +kernel
theorem dX1_isGlad_64 : decode cX1_isGlad 64 = .ok (.aload 5, 2) := by decide +kernel
theorem dX1_isGlad_66 : decode cX1_isGlad 66 = .ok (.getfield 35, 3) := by decide +kernel
theorem dX1_isGlad_69 : decode cX1_isGlad 69 = .ok (.aload 6, 2) := by decide +kernel
theorem dX1_isGlad_71 : decode cX1_isGlad 71 = .ok (.getfield 35, 3) := by decide +kernel
theorem dX1_isGlad_74 : decode cX1_isGlad 74 = .ok (.isub, 1) := by decide +kernel
theorem dX1_isGlad_75 : decode cX1_isGlad 75 = .ok (.iload_n 3, 1) := by decide +kernel
theorem dX1_isGlad_76 : decode cX1_isGlad 76 = .ok (.if_icmp .gt 7, 3) := by decide +kernel
theorem dX1_isGlad_79 : decode cX1_isGlad 79 = .ok (.iconst 1, 1) := by decide +kernel
theorem dX1_isGlad_80 : decode cX1_isGlad 80 = .ok (.goto 4, 3) := by decide +kernel
theorem dX1_isGlad_83 : decode cX1_isGlad 83 = .ok (.iconst 0, 1) := by decide +kernel
theorem dX1_isGlad_84 : decode cX1_isGlad 84 = .ok (.ireturn, 1) := by decide +kernel
theorem dX1_mindsOf_0 : decode cX1_mindsOf 0 = .ok (.iconst 0, 1) := by decide +kernel
theorem dX1_mindsOf_1 : decode cX1_mindsOf 1 = .ok (.istore_n 3, 1) := by decide +kernel
theorem dX1_mindsOf_2 : decode cX1_mindsOf 2 = .ok (.iconst 0, 1) := by decide +kernel
theorem dX1_mindsOf_3 : decode cX1_mindsOf 3 = .ok (.istore 4, 2) := by decide +kernel
theorem dX1_mindsOf_5 : decode cX1_mindsOf 5 = .ok (.iload 4, 2) := by decide +kernel
theorem dX1_mindsOf_7 : decode cX1_mindsOf 7 = .ok (.iconst 1, 1) := by decide +kernel
theorem dX1_mindsOf_8 : decode cX1_mindsOf 8 = .ok (.if_icmp .gt 43, 3) := by decide +kernel
theorem dX1_mindsOf_11 : decode cX1_mindsOf 11 = .ok (.aload_n 0, 1) := by decide +kernel
theorem dX1_mindsOf_12 : decode cX1_mindsOf 12 = .ok (.getfield 11, 3) := by decide +kernel
theorem dX1_mindsOf_15 : decode cX1_mindsOf 15 = .ok (.iload_n 1, 1) := by decide +kernel
theorem dX1_mindsOf_16 : decode cX1_mindsOf 16 = .ok (.aaload, 1) := by decide +kernel
theorem dX1_mindsOf_17 : decode cX1_mindsOf 17 = .ok (.iload 4, 2) := by decide +kernel
theorem dX1_mindsOf_19 : decode cX1_mindsOf 19 = .ok (.iconst 0, 1) := by decide +kernel
theorem dX1_mindsOf_20 : decode cX1_mindsOf 20 = .ok (.invokevirtual 89, 3) := by decide +kernel
theorem dX1_mindsOf_23 : decode cX1_mindsOf 23 = .ok (.aload_n 0, 1) := by decide +kernel
theorem dX1_mindsOf_24 : decode cX1_mindsOf 24 = .ok (.getfield 11, 3) := by decide +kernel
theorem dX1_mindsOf_27 : decode cX1_mindsOf 27 = .ok (.iload_n 2, 1) := by decide +kernel
theorem dX1_mindsOf_28 : decode cX1_mindsOf 28 = .ok (.aaload, 1) := by decide +kernel
theorem dX1_mindsOf_29 : decode cX1_mindsOf 29 = .ok (.iload 4, 2) := by decide +kernel
theorem dX1_mindsOf_31 : decode cX1_mindsOf 31 = .ok (.iconst 0, 1) := by decide +kernel
theorem dX1_mindsOf_32 : decode cX1_mindsOf 32 = .ok (.invokevirtual 89, 3) := by decide +kernel
theorem dX1_mindsOf_35 : decode cX1_mindsOf 35 = .ok (.if_icmp .le 10, 3) := by decide +kernel
theorem dX1_mindsOf_38 : decode cX1_mindsOf 38 = .ok (.iload_n 3, 1) := by decide +kernel
theorem dX1_mindsOf_39 : decode cX1_mindsOf 39 = .ok (.iconst 1, 1) := by decide +kernel
theorem dX1_mindsOf_40 : decode cX1_mindsOf 40 = .ok (.iload 4, 2) := by decide +kernel
theorem dX1_mindsOf_42 : decode cX1_mindsOf 42 = .ok (.ishl, 1) := by decide +kernel
theorem dX1_mindsOf_43 : decode cX1_mindsOf 43 = .ok (.ior, 1) := by decide +kernel
theorem dX1_mindsOf_44 : decode cX1_mindsOf 44 = .ok (.istore_n 3, 1) := by decide +kernel
theorem dX1_mindsOf_45 : decode cX1_mindsOf 45 = .ok (.iinc 4 1, 3) := by decide +kernel
theorem dX1_mindsOf_48 : decode cX1_mindsOf 48 = .ok (.goto (-43), 3) := by decide +kernel
theorem dX1_mindsOf_51 : decode cX1_mindsOf 51 = .ok (.iload_n 3, 1) := by decide +kernel
theorem dX1_mindsOf_52 : decode cX1_mindsOf 52 = .ok (.ireturn, 1) := by decide +kernel
theorem dX0_init_0 : decode cX0_init 0 = .ok (.aload_n 0, 1) := by decide +kernel
theorem dX0_init_1 : decode cX0_init 1 = .ok (.invokespecial 3, 3) := by decide +kernel
theorem dX0_init_4 : decode cX0_init 4 = .ok (.aload_n 0, 1) := by decide +kernel
theorem dX0_init_5 : decode cX0_init 5 = .ok (.new 9, 3) := by decide +kernel
theorem dX0_init_8 : decode cX0_init 8 = .ok (.dup, 1) := by decide +kernel
theorem dX0_init_9 : decode cX0_init 9 = .ok (.invokespecial 11, 3) := by decide +kernel
theorem dX0_init_12 : decode cX0_init 12 = .ok (.putfield 12, 3) := by decide +kernel
theorem dX0_init_15 : decode cX0_init 15 = .ok (.aload_n 0, 1) := by decide +kernel
theorem dX0_init_16 : decode cX0_init 16 = .ok (.new 18, 3) := by decide +kernel
theorem dX0_init_19 : decode cX0_init 19 = .ok (.dup, 1) := by decide +kernel
theorem dX0_init_20 : decode cX0_init 20 = .ok (.invokespecial 20, 3) := by decide +kernel
theorem dX0_init_23 : decode cX0_init 23 = .ok (.putfield 21, 3) := by decide +kernel
theorem dX0_init_26 : decode cX0_init 26 = .ok (.aload_n 0, 1) := by decide +kernel
theorem dX0_init_27 : decode cX0_init 27 = .ok (.new 18, 3) := by decide +kernel
theorem dX0_init_30 : decode cX0_init 30 = .ok (.dup, 1) := by decide +kernel
theorem dX0_init_31 : decode cX0_init 31 = .ok (.invokespecial 20, 3) := by decide +kernel
theorem dX0_init_34 : decode cX0_init 34 = .ok (.putfield 25, 3) := by decide +kernel
theorem dX0_init_37 : decode cX0_init 37 = .ok (.aload_n 0, 1) := by decide +kernel
theorem dX0_init_38 : decode cX0_init 38 = .ok (.bipush 11, 2) := by decide +kernel
theorem dX0_init_40 : decode cX0_init 40 = .ok (.anewarray 18, 3) := by decide +kernel
theorem dX0_init_43 : decode cX0_init 43 = .ok (.putfield 28, 3) := by decide +kernel
theorem dX0_init_46 : decode cX0_init 46 = .ok (.iconst 0, 1) := by decide +kernel
theorem dX0_init_47 : decode cX0_init 47 = .ok (.istore_n 1, 1) := by decide +kernel
theorem dX0_init_48 : decode cX0_init 48 = .ok (.iload_n 1, 1) := by decide +kernel
theorem dX0_init_49 : decode cX0_init 49 = .ok (.aload_n 0, 1) := by decide +kernel
theorem dX0_init_50 : decode cX0_init 50 = .ok (.getfield 28, 3) := by decide +kernel
theorem dX0_init_53 : decode cX0_init 53 = .ok (.arraylength, 1) := by decide +kernel
theorem dX0_init_54 : decode cX0_init 54 = .ok (.if_icmp .ge 22, 3) := by decide +kernel
theorem dX0_init_57 : decode cX0_init 57 = .ok (.aload_n 0, 1) := by decide +kernel
theorem dX0_init_58 : decode cX0_init 58 = .ok (.getfield 28, 3) := by decide +kernel
theorem dX0_init_61 : decode cX0_init 61 = .ok (.iload_n 1, 1) := by decide +kernel
theorem dX0_init_62 : decode cX0_init 62 = .ok (.new 18, 3) := by decide +kernel
theorem dX0_init_65 : decode cX0_init 65 = .ok (.dup, 1) := by decide +kernel
theorem dX0_init_66 : decode cX0_init 66 = .ok (.invokespecial 20, 3) := by decide +kernel
theorem dX0_init_69 : decode cX0_init 69 = .ok (.aastore, 1) := by decide +kernel
theorem dX0_init_70 : decode cX0_init 70 = .ok (.iinc 1 1, 3) := by decide +kernel
theorem dX0_init_73 : decode cX0_init 73 = .ok (.goto (-25), 3) := by decide +kernel
theorem dX0_init_76 : decode cX0_init 76 = .ok (.return_, 1) := by decide +kernel
theorem dX0_begin_0 : decode cX0_begin 0 = .ok (.aload_n 0, 1) := by decide +kernel
theorem dX0_begin_1 : decode cX0_begin 1 = .ok (.getfield 12, 3) := by decide +kernel
theorem dX0_begin_4 : decode cX0_begin 4 = .ok (.aload_n 1, 1) := by decide +kernel
theorem dX0_begin_5 : decode cX0_begin 5 = .ok (.getfield 32, 3) := by decide +kernel
theorem dX0_begin_8 : decode cX0_begin 8 = .ok (.invokevirtual 35, 3) := by decide +kernel
theorem dX0_begin_11 : decode cX0_begin 11 = .ok (.aload_n 0, 1) := by decide +kernel
theorem dX0_begin_12 : decode cX0_begin 12 = .ok (.getfield 21, 3) := by decide +kernel
theorem dX0_begin_15 : decode cX0_begin 15 = .ok (.aload_n 1, 1) := by decide +kernel
theorem dX0_begin_16 : decode cX0_begin 16 = .ok (.getfield 39, 3) := by decide +kernel
theorem dX0_begin_19 : decode cX0_begin 19 = .ok (.invokevirtual 40, 3) := by decide +kernel
theorem dX0_begin_22 : decode cX0_begin 22 = .ok (.aload_n 0, 1) := by decide +kernel
theorem dX0_begin_23 : decode cX0_begin 23 = .ok (.getfield 21, 3) := by decide +kernel
theorem dX0_begin_26 : decode cX0_begin 26 = .ok (.bipush (-4), 2) := by decide +kernel
theorem dX0_begin_28 : decode cX0_begin 28 = .ok (.putfield 43, 3) := by decide +kernel
theorem dX0_begin_31 : decode cX0_begin 31 = .ok (.return_, 1) := by decide +kernel
theorem dX0_walkHome_0 : decode cX0_walkHome 0 = .ok (.aload_n 0, 1) := by decide +kernel
theorem dX0_walkHome_1 : decode cX0_walkHome 1 = .ok (.getfield 21, 3) := by decide +kernel
theorem dX0_walkHome_4 : decode cX0_walkHome 4 = .ok (.getfield 47, 3) := by decide +kernel
theorem dX0_walkHome_7 : decode cX0_walkHome 7 = .ok (.istore_n 1, 1) := by decide +kernel
theorem dX0_walkHome_8 : decode cX0_walkHome 8 = .ok (.iload_n 1, 1) := by decide +kernel
theorem dX0_walkHome_9 : decode cX0_walkHome 9 = .ok (.bipush 12, 2) := by decide +kernel
theorem dX0_walkHome_11 : decode cX0_walkHome 11 = .ok (.if_icmp .ge 22, 3) := by decide +kernel
theorem dX0_walkHome_14 : decode cX0_walkHome 14 = .ok (.aload_n 0, 1) := by decide +kernel
theorem dX0_walkHome_15 : decode cX0_walkHome 15 = .ok (.getfield 12, 3) := by decide +kernel
theorem dX0_walkHome_18 : decode cX0_walkHome 18 = .ok (.aload_n 0, 1) := by decide +kernel
theorem dX0_walkHome_19 : decode cX0_walkHome 19 = .ok (.getfield 21, 3) := by decide +kernel
theorem dX0_walkHome_22 : decode cX0_walkHome 22 = .ok (.iconst 1, 1) := by decide +kernel
theorem dX0_walkHome_23 : decode cX0_walkHome 23 = .ok (.invokevirtual 50, 3) := by decide +kernel
theorem dX0_walkHome_26 : decode cX0_walkHome 26 = .ok (.pop, 1) := by decide +kernel
theorem dX0_walkHome_27 : decode cX0_walkHome 27 = .ok (.iinc 1 1, 3) := by decide +kernel
theorem dX0_walkHome_30 : decode cX0_walkHome 30 = .ok (.goto (-22), 3) := by decide +kernel
theorem dX0_walkHome_33 : decode cX0_walkHome 33 = .ok (.return_, 1) := by decide +kernel
theorem dX0_endOf_0 : decode cX0_endOf 0 = .ok (.aload_n 0, 1) := by decide +kernel
theorem dX0_endOf_1 : decode cX0_endOf 1 = .ok (.aload_n 1, 1) := by decide +kernel
theorem dX0_endOf_2 : decode cX0_endOf 2 = .ok (.invokevirtual 54, 3) := by decide +kernel
theorem dX0_endOf_5 : decode cX0_endOf 5 = .ok (.aload_n 0, 1) := by decide +kernel
theorem dX0_endOf_6 : decode cX0_endOf 6 = .ok (.invokevirtual 58, 3) := by decide +kernel
theorem dX0_endOf_9 : decode cX0_endOf 9 = .ok (.aload_n 0, 1) := by decide +kernel
theorem dX0_endOf_10 : decode cX0_endOf 10 = .ok (.getfield 21, 3) := by decide +kernel
theorem dX0_endOf_13 : decode cX0_endOf 13 = .ok (.areturn, 1) := by decide +kernel
theorem dX0_waitFor_0 : decode cX0_waitFor 0 = .ok (.bipush (-4), 2) := by decide +kernel
theorem dX0_waitFor_2 : decode cX0_waitFor 2 = .ok (.istore_n 3, 1) := by decide +kernel
theorem dX0_waitFor_3 : decode cX0_waitFor 3 = .ok (.iconst 0, 1) := by decide +kernel
theorem dX0_waitFor_4 : decode cX0_waitFor 4 = .ok (.istore 4, 2) := by decide +kernel
theorem dX0_waitFor_6 : decode cX0_waitFor 6 = .ok (.iload 4, 2) := by decide +kernel
theorem dX0_waitFor_8 : decode cX0_waitFor 8 = .ok (.aload_n 2, 1) := by decide +kernel
theorem dX0_waitFor_9 : decode cX0_waitFor 9 = .ok (.getfield 32, 3) := by decide +kernel
theorem dX0_waitFor_12 : decode cX0_waitFor 12 = .ok (.getfield 61, 3) := by decide +kernel
theorem dX0_waitFor_15 : decode cX0_waitFor 15 = .ok (.if_icmp .ge 148, 3) := by decide +kernel
theorem dX0_waitFor_18 : decode cX0_waitFor 18 = .ok (.iload_n 3, 1) := by decide +kernel
theorem dX0_waitFor_19 : decode cX0_waitFor 19 = .ok (.bipush (-4), 2) := by decide +kernel
theorem dX0_waitFor_21 : decode cX0_waitFor 21 = .ok (.if_icmp .eq 23, 3) := by decide +kernel
theorem dX0_waitFor_24 : decode cX0_waitFor 24 = .ok (.aload_n 2, 1) := by decide +kernel
theorem dX0_waitFor_25 : decode cX0_waitFor 25 = .ok (.getfield 32, 3) := by decide +kernel
theorem dX0_waitFor_28 : decode cX0_waitFor 28 = .ok (.iload 4, 2) := by decide +kernel
theorem dX0_waitFor_30 : decode cX0_waitFor 30 = .ok (.invokevirtual 64, 3) := by decide +kernel
theorem dX0_waitFor_33 : decode cX0_waitFor 33 = .ok (.aload_n 2, 1) := by decide +kernel
theorem dX0_waitFor_34 : decode cX0_waitFor 34 = .ok (.getfield 32, 3) := by decide +kernel
theorem dX0_waitFor_37 : decode cX0_waitFor 37 = .ok (.iload_n 3, 1) := by decide +kernel
theorem dX0_waitFor_38 : decode cX0_waitFor 38 = .ok (.invokevirtual 64, 3) := by decide +kernel
theorem dX0_waitFor_41 : decode cX0_waitFor 41 = .ok (.if_icmp .ge 7, 3) := by decide +kernel
theorem dX0_waitFor_44 : decode cX0_waitFor 44 = .ok (.iconst 1, 1) := by decide +kernel
theorem dX0_waitFor_45 : decode cX0_waitFor 45 = .ok (.goto 4, 3) := by decide +kernel
theorem dX0_waitFor_48 : decode cX0_waitFor 48 = .ok (.iconst 0, 1) := by decide +kernel
theorem dX0_waitFor_49 : decode cX0_waitFor 49 = .ok (.istore 5, 2) := by decide +kernel
theorem dX0_waitFor_51 : decode cX0_waitFor 51 = .ok (.iload 5, 2) := by decide +kernel
theorem dX0_waitFor_53 : decode cX0_waitFor 53 = .ok (.ifCond .eq 104, 3) := by decide +kernel
theorem dX0_waitFor_56 : decode cX0_waitFor 56 = .ok (.aload_n 2, 1) := by decide +kernel
theorem dX0_waitFor_57 : decode cX0_waitFor 57 = .ok (.getfield 32, 3) := by decide +kernel
theorem dX0_waitFor_60 : decode cX0_waitFor 60 = .ok (.iload 4, 2) := by decide +kernel
theorem dX0_waitFor_62 : decode cX0_waitFor 62 = .ok (.aload_n 2, 1) := by decide +kernel
theorem dX0_waitFor_63 : decode cX0_waitFor 63 = .ok (.getfield 39, 3) := by decide +kernel
theorem dX0_waitFor_66 : decode cX0_waitFor 66 = .ok (.invokevirtual 68, 3) := by decide +kernel
theorem dX0_waitFor_69 : decode cX0_waitFor 69 = .ok (.bipush (-4), 2) := by decide +kernel
theorem dX0_waitFor_71 : decode cX0_waitFor 71 = .ok (.if_icmp .eq 6, 3) := by decide +kernel
theorem dX0_waitFor_74 : decode cX0_waitFor 74 = .ok (.goto 83, 3) := by decide +kernel
theorem dX0_waitFor_77 : decode cX0_waitFor 77 = .ok (.aload_n 2, 1) := by decide +kernel
theorem dX0_waitFor_78 : decode cX0_waitFor 78 = .ok (.getfield 39, 3) := by decide +kernel
theorem dX0_waitFor_81 : decode cX0_waitFor 81 = .ok (.getfield 47, 3) := by decide +kernel
theorem dX0_waitFor_84 : decode cX0_waitFor 84 = .ok (.istore 6, 2) := by decide +kernel
theorem dX0_waitFor_86 : decode cX0_waitFor 86 = .ok (.iload 6, 2) := by decide +kernel
theorem dX0_waitFor_88 : decode cX0_waitFor 88 = .ok (.bipush 12, 2) := by decide +kernel
theorem dX0_waitFor_90 : decode cX0_waitFor 90 = .ok (.if_icmp .ge 67, 3) := by decide +kernel
theorem dX0_waitFor_93 : decode cX0_waitFor 93 = .ok (.aload_n 0, 1) := by decide +kernel
theorem dX0_waitFor_94 : decode cX0_waitFor 94 = .ok (.aload_n 2, 1) := by decide +kernel
theorem dX0_waitFor_95 : decode cX0_waitFor 95 = .ok (.invokevirtual 54, 3) := by decide +kernel
theorem dX0_waitFor_98 : decode cX0_waitFor 98 = .ok (.aload_n 0, 1) := by decide +kernel
theorem dX0_waitFor_99 : decode cX0_waitFor 99 = .ok (.getfield 12, 3) := by decide +kernel
theorem dX0_waitFor_102 : decode cX0_waitFor 102 = .ok (.iload 6, 2) := by decide +kernel
theorem dX0_waitFor_104 : decode cX0_waitFor 104 = .ok (.iconst 0, 1) := by decide +kernel
theorem dX0_waitFor_105 : decode cX0_waitFor 105 = .ok (.iload 4, 2) := by decide +kernel
theorem dX0_waitFor_107 : decode cX0_waitFor 107 = .ok (.aload_n 0, 1) := by decide +kernel
theorem dX0_waitFor_108 : decode cX0_waitFor 108 = .ok (.getfield 21, 3) := by decide +kernel
theorem dX0_waitFor_111 : decode cX0_waitFor 111 = .ok (.invokevirtual 72, 3) := by decide +kernel
theorem dX0_waitFor_114 : decode cX0_waitFor 114 = .ok (.istore 7, 2) := by decide +kernel
theorem dX0_waitFor_116 : decode cX0_waitFor 116 = .ok (.aload_n 0, 1) := by decide +kernel
theorem dX0_waitFor_117 : decode cX0_waitFor 117 = .ok (.invokevirtual 58, 3) := by decide +kernel
theorem dX0_waitFor_120 : decode cX0_waitFor 120 = .ok (.iload 7, 2) := by decide +kernel
theorem dX0_waitFor_122 : decode cX0_waitFor 122 = .ok (.ifCond .lt 29, 3) := by decide +kernel
theorem dX0_waitFor_125 : decode cX0_waitFor 125 = .ok (.aload_n 0, 1) := by decide +kernel
theorem dX0_waitFor_126 : decode cX0_waitFor 126 = .ok (.getfield 21, 3) := by decide +kernel
theorem dX0_waitFor_129 : decode cX0_waitFor 129 = .ok (.getfield 76, 3) := by decide +kernel
theorem dX0_waitFor_132 : decode cX0_waitFor 132 = .ok (.iload 7, 2) := by decide +kernel
theorem dX0_waitFor_134 : decode cX0_waitFor 134 = .ok (.iaload, 1) := by decide +kernel
theorem dX0_waitFor_135 : decode cX0_waitFor 135 = .ok (.iload_n 1, 1) := by decide +kernel
theorem dX0_waitFor_136 : decode cX0_waitFor 136 = .ok (.if_icmp .ne 15, 3) := by decide +kernel
theorem dX0_waitFor_139 : decode cX0_waitFor 139 = .ok (.iload 4, 2) := by decide +kernel
theorem dX0_waitFor_141 : decode cX0_waitFor 141 = .ok (.istore_n 3, 1) := by decide +kernel
theorem dX0_waitFor_142 : decode cX0_waitFor 142 = .ok (.aload_n 0, 1) := by decide +kernel
theorem dX0_waitFor_143 : decode cX0_waitFor 143 = .ok (.iload 6, 2) := by decide +kernel
theorem dX0_waitFor_145 : decode cX0_waitFor 145 = .ok (.putfield 80, 3) := by decide +kernel
theorem dX0_waitFor_148 : decode cX0_waitFor 148 = .ok (.goto 9, 3) := by decide +kernel
theorem dX0_waitFor_151 : decode cX0_waitFor 151 = .ok (.iinc 6 1, 3) := by decide +kernel
theorem dX0_waitFor_154 : decode cX0_waitFor 154 = .ok (.goto (-68), 3) := by decide +kernel
theorem dX0_waitFor_157 : decode cX0_waitFor 157 = .ok (.iinc 4 1, 3) := by decide +kernel
theorem dX0_waitFor_160 : decode cX0_waitFor 160 = .ok (.goto (-154), 3) := by decide +kernel
theorem dX0_waitFor_163 : decode cX0_waitFor 163 = .ok (.iload_n 3, 1) := by decide +kernel
theorem dX0_waitFor_164 : decode cX0_waitFor 164 = .ok (.ireturn, 1) := by decide +kernel
theorem dX0_mostWorthOf_0 : decode cX0_mostWorthOf 0 = .ok (.iconst (-1), 1) := by decide +kernel
theorem dX0_mostWorthOf_1 : decode cX0_mostWorthOf 1 = .ok (.istore_n 3, 1) := by decide +kernel
theorem dX0_mostWorthOf_2 : decode cX0_mostWorthOf 2 = .ok (.aload_n 2, 1) := by decide +kernel
theorem dX0_mostWorthOf_3 : decode cX0_mostWorthOf 3 = .ok (.getfield 39, 3) := by decide +kernel
theorem dX0_mostWorthOf_6 : decode cX0_mostWorthOf 6 = .ok (.getfield 47, 3) := by decide +kernel
theorem dX0_mostWorthOf_9 : decode cX0_mostWorthOf 9 = .ok (.istore 4, 2) := by decide +kernel
theorem dX0_mostWorthOf_11 : decode cX0_mostWorthOf 11 = .ok (.iload 4, 2) := by decide +kernel
theorem dX0_mostWorthOf_13 : decode cX0_mostWorthOf 13 = .ok (.bipush 12, 2) := by decide +kernel
theorem dX0_mostWorthOf_15 : decode cX0_mostWorthOf 15 = .ok (.if_icmp .ge 62, 3) := by decide +kernel
theorem dX0_mostWorthOf_18 : decode cX0_mostWorthOf 18 = .ok (.aload_n 0, 1) := by decide +kernel
theorem dX0_mostWorthOf_19 : decode cX0_mostWorthOf 19 = .ok (.aload_n 2, 1) := by decide +kernel
theorem dX0_mostWorthOf_20 : decode cX0_mostWorthOf 20 = .ok (.invokevirtual 54, 3) := by decide +kernel
theorem dX0_mostWorthOf_23 : decode cX0_mostWorthOf 23 = .ok (.aload_n 0, 1) := by decide +kernel
theorem dX0_mostWorthOf_24 : decode cX0_mostWorthOf 24 = .ok (.getfield 12, 3) := by decide +kernel
theorem dX0_mostWorthOf_27 : decode cX0_mostWorthOf 27 = .ok (.getfield 83, 3) := by decide +kernel
theorem dX0_mostWorthOf_30 : decode cX0_mostWorthOf 30 = .ok (.iload_n 1, 1) := by decide +kernel
theorem dX0_mostWorthOf_31 : decode cX0_mostWorthOf 31 = .ok (.iload 4, 2) := by decide +kernel
theorem dX0_mostWorthOf_33 : decode cX0_mostWorthOf 33 = .ok (.iastore, 1) := by decide +kernel
theorem dX0_mostWorthOf_34 : decode cX0_mostWorthOf 34 = .ok (.aload_n 0, 1) := by decide +kernel
theorem dX0_mostWorthOf_35 : decode cX0_mostWorthOf 35 = .ok (.invokevirtual 58, 3) := by decide +kernel
theorem dX0_mostWorthOf_38 : decode cX0_mostWorthOf 38 = .ok (.aload_n 0, 1) := by decide +kernel
theorem dX0_mostWorthOf_39 : decode cX0_mostWorthOf 39 = .ok (.getfield 12, 3) := by decide +kernel
theorem dX0_mostWorthOf_42 : decode cX0_mostWorthOf 42 = .ok (.aload_n 0, 1) := by decide +kernel
theorem dX0_mostWorthOf_43 : decode cX0_mostWorthOf 43 = .ok (.getfield 21, 3) := by decide +kernel
theorem dX0_mostWorthOf_46 : decode cX0_mostWorthOf 46 = .ok (.getfield 76, 3) := by decide +kernel
theorem dX0_mostWorthOf_49 : decode cX0_mostWorthOf 49 = .ok (.iload_n 1, 1) := by decide +kernel
theorem dX0_mostWorthOf_50 : decode cX0_mostWorthOf 50 = .ok (.iaload, 1) := by decide +kernel
theorem dX0_mostWorthOf_51 : decode cX0_mostWorthOf 51 = .ok (.invokevirtual 64, 3) := by decide +kernel
theorem dX0_mostWorthOf_54 : decode cX0_mostWorthOf 54 = .ok (.istore 5, 2) := by decide +kernel
theorem dX0_mostWorthOf_56 : decode cX0_mostWorthOf 56 = .ok (.iload 5, 2) := by decide +kernel
theorem dX0_mostWorthOf_58 : decode cX0_mostWorthOf 58 = .ok (.iload_n 3, 1) := by decide +kernel
theorem dX0_mostWorthOf_59 : decode cX0_mostWorthOf 59 = .ok (.if_icmp .le 12, 3) := by decide +kernel
theorem dX0_mostWorthOf_62 : decode cX0_mostWorthOf 62 = .ok (.iload 5, 2) := by decide +kernel
theorem dX0_mostWorthOf_64 : decode cX0_mostWorthOf 64 = .ok (.istore_n 3, 1) := by decide +kernel
theorem dX0_mostWorthOf_65 : decode cX0_mostWorthOf 65 = .ok (.aload_n 0, 1) := by decide +kernel
theorem dX0_mostWorthOf_66 : decode cX0_mostWorthOf 66 = .ok (.iload 4, 2) := by decide +kernel
theorem dX0_mostWorthOf_68 : decode cX0_mostWorthOf 68 = .ok (.putfield 80, 3) := by decide +kernel
theorem dX0_mostWorthOf_71 : decode cX0_mostWorthOf 71 = .ok (.iinc 4 1, 3) := by decide +kernel
theorem dX0_mostWorthOf_74 : decode cX0_mostWorthOf 74 = .ok (.goto (-63), 3) := by decide +kernel
theorem dX0_mostWorthOf_77 : decode cX0_mostWorthOf 77 = .ok (.iload_n 3, 1) := by decide +kernel
theorem dX0_mostWorthOf_78 : decode cX0_mostWorthOf 78 = .ok (.ireturn, 1) := by decide +kernel
theorem dX0_turnsWith_0 : decode cX0_turnsWith 0 = .ok (.aload_n 0, 1) := by decide +kernel
theorem dX0_turnsWith_1 : decode cX0_turnsWith 1 = .ok (.aload_n 2, 1) := by decide +kernel
theorem dX0_turnsWith_2 : decode cX0_turnsWith 2 = .ok (.invokevirtual 54, 3) := by decide +kernel
theorem dX0_turnsWith_5 : decode cX0_turnsWith 5 = .ok (.aload_n 0, 1) := by decide +kernel
theorem dX0_turnsWith_6 : decode cX0_turnsWith 6 = .ok (.getfield 25, 3) := by decide +kernel
theorem dX0_turnsWith_9 : decode cX0_turnsWith 9 = .ok (.invokevirtual 86, 3) := by decide +kernel
theorem dX0_turnsWith_12 : decode cX0_turnsWith 12 = .ok (.aload_n 0, 1) := by decide +kernel
theorem dX0_turnsWith_13 : decode cX0_turnsWith 13 = .ok (.getfield 25, 3) := by decide +kernel
theorem dX0_turnsWith_16 : decode cX0_turnsWith 16 = .ok (.iload_n 1, 1) := by decide +kernel
theorem dX0_turnsWith_17 : decode cX0_turnsWith 17 = .ok (.putfield 89, 3) := by decide +kernel
theorem dX0_turnsWith_20 : decode cX0_turnsWith 20 = .ok (.iconst 0, 1) := by decide +kernel
theorem dX0_turnsWith_21 : decode cX0_turnsWith 21 = .ok (.istore_n 3, 1) := by decide +kernel
theorem dX0_turnsWith_22 : decode cX0_turnsWith 22 = .ok (.iconst 1, 1) := by decide +kernel
theorem dX0_turnsWith_23 : decode cX0_turnsWith 23 = .ok (.istore 4, 2) := by decide +kernel
theorem dX0_turnsWith_25 : decode cX0_turnsWith 25 = .ok (.iload 4, 2) := by decide +kernel
theorem dX0_turnsWith_27 : decode cX0_turnsWith 27 = .ok (.sipush 200, 3) := by decide +kernel
theorem dX0_turnsWith_30 : decode cX0_turnsWith 30 = .ok (.if_icmp .gt 88, 3) := by decide +kernel
theorem dX0_turnsWith_33 : decode cX0_turnsWith 33 = .ok (.iload 4, 2) := by decide +kernel
theorem dX0_turnsWith_35 : decode cX0_turnsWith 35 = .ok (.iconst 2, 1) := by decide +kernel
theorem dX0_turnsWith_36 : decode cX0_turnsWith 36 = .ok (.irem, 1) := by decide +kernel
theorem dX0_turnsWith_37 : decode cX0_turnsWith 37 = .ok (.iconst 1, 1) := by decide +kernel
theorem dX0_turnsWith_38 : decode cX0_turnsWith 38 = .ok (.if_icmp .ne 7, 3) := by decide +kernel
theorem dX0_turnsWith_41 : decode cX0_turnsWith 41 = .ok (.iconst 1, 1) := by decide +kernel
theorem dX0_turnsWith_42 : decode cX0_turnsWith 42 = .ok (.goto 4, 3) := by decide +kernel
theorem dX0_turnsWith_45 : decode cX0_turnsWith 45 = .ok (.iconst 0, 1) := by decide +kernel
theorem dX0_turnsWith_46 : decode cX0_turnsWith 46 = .ok (.istore 5, 2) := by decide +kernel
theorem dX0_turnsWith_48 : decode cX0_turnsWith 48 = .ok (.iload 5, 2) := by decide +kernel
theorem dX0_turnsWith_50 : decode cX0_turnsWith 50 = .ok (.ifCond .eq 25, 3) := by decide +kernel
theorem dX0_turnsWith_53 : decode cX0_turnsWith 53 = .ok (.aload_n 0, 1) := by decide +kernel
theorem dX0_turnsWith_54 : decode cX0_turnsWith 54 = .ok (.aload_n 0, 1) := by decide +kernel
theorem dX0_turnsWith_55 : decode cX0_turnsWith 55 = .ok (.getfield 21, 3) := by decide +kernel
theorem dX0_turnsWith_58 : decode cX0_turnsWith 58 = .ok (.aload_n 0, 1) := by decide +kernel
theorem dX0_turnsWith_59 : decode cX0_turnsWith 59 = .ok (.getfield 25, 3) := by decide +kernel
theorem dX0_turnsWith_62 : decode cX0_turnsWith 62 = .ok (.aload_n 0, 1) := by decide +kernel
theorem dX0_turnsWith_63 : decode cX0_turnsWith 63 = .ok (.getfield 12, 3) := by decide +kernel
theorem dX0_turnsWith_66 : decode cX0_turnsWith 66 = .ok (.getfield 92, 3) := by decide +kernel
theorem dX0_turnsWith_69 : decode cX0_turnsWith 69 = .ok (.invokevirtual 95, 3) := by decide +kernel
theorem dX0_turnsWith_72 : decode cX0_turnsWith 72 = .ok (.goto 17, 3) := by decide +kernel
theorem dX0_turnsWith_75 : decode cX0_turnsWith 75 = .ok (.aload_n 0, 1) := by decide +kernel
theorem dX0_turnsWith_76 : decode cX0_turnsWith 76 = .ok (.aload_n 0, 1) := by decide +kernel
theorem dX0_turnsWith_77 : decode cX0_turnsWith 77 = .ok (.getfield 25, 3) := by decide +kernel
theorem dX0_turnsWith_80 : decode cX0_turnsWith 80 = .ok (.aload_n 0, 1) := by decide +kernel
theorem dX0_turnsWith_81 : decode cX0_turnsWith 81 = .ok (.getfield 21, 3) := by decide +kernel
theorem dX0_turnsWith_84 : decode cX0_turnsWith 84 = .ok (.bipush 99, 2) := by decide +kernel
theorem dX0_turnsWith_86 : decode cX0_turnsWith 86 = .ok (.invokevirtual 95, 3) := by decide +kernel
theorem dX0_turnsWith_89 : decode cX0_turnsWith 89 = .ok (.istore 6, 2) := by decide +kernel
theorem dX0_turnsWith_91 : decode cX0_turnsWith 91 = .ok (.iload 6, 2) := by decide +kernel
theorem dX0_turnsWith_93 : decode cX0_turnsWith 93 = .ok (.ifCond .eq 7, 3) := by decide +kernel
theorem dX0_turnsWith_96 : decode cX0_turnsWith 96 = .ok (.iconst 0, 1) := by decide +kernel
theorem dX0_turnsWith_97 : decode cX0_turnsWith 97 = .ok (.goto 6, 3) := by decide +kernel
theorem dX0_turnsWith_100 : decode cX0_turnsWith 100 = .ok (.iload_n 3, 1) := by decide +kernel
theorem dX0_turnsWith_101 : decode cX0_turnsWith 101 = .ok (.iconst 1, 1) := by decide +kernel
theorem dX0_turnsWith_102 : decode cX0_turnsWith 102 = .ok (.iadd, 1) := by decide +kernel
theorem dX0_turnsWith_103 : decode cX0_turnsWith 103 = .ok (.istore_n 3, 1) := by decide +kernel
theorem dX0_turnsWith_104 : decode cX0_turnsWith 104 = .ok (.iload_n 3, 1) := by decide +kernel
theorem dX0_turnsWith_105 : decode cX0_turnsWith 105 = .ok (.iconst 2, 1) := by decide +kernel
theorem dX0_turnsWith_106 : decode cX0_turnsWith 106 = .ok (.if_icmp .ne 6, 3) := by decide +kernel
theorem dX0_turnsWith_109 : decode cX0_turnsWith 109 = .ok (.iload 4, 2) := by decide +kernel
theorem dX0_turnsWith_111 : decode cX0_turnsWith 111 = .ok (.ireturn, 1) := by decide +kernel
theorem dX0_turnsWith_112 : decode cX0_turnsWith 112 = .ok (.iinc 4 1, 3) := by decide +kernel
theorem dX0_turnsWith_115 : decode cX0_turnsWith 115 = .ok (.goto (-90), 3) := by decide +kernel
theorem dX0_turnsWith_118 : decode cX0_turnsWith 118 = .ok (.bipush (-4), 2) := by decide +kernel
theorem dX0_turnsWith_120 : decode cX0_turnsWith 120 = .ok (.ireturn, 1) := by decide +kernel
theorem dX0_takesTurn_0 : decode cX0_takesTurn 0 = .ok (.aload_n 0, 1) := by decide +kernel
theorem dX0_takesTurn_1 : decode cX0_takesTurn 1 = .ok (.getfield 12, 3) := by decide +kernel
theorem dX0_takesTurn_4 : decode cX0_takesTurn 4 = .ok (.aload_n 1, 1) := by decide +kernel
theorem dX0_takesTurn_5 : decode cX0_takesTurn 5 = .ok (.iconst 1, 1) := by decide +kernel
theorem dX0_takesTurn_6 : decode cX0_takesTurn 6 = .ok (.invokevirtual 99, 3) := by decide +kernel
theorem dX0_takesTurn_9 : decode cX0_takesTurn 9 = .ok (.aload_n 0, 1) := by decide +kernel
theorem dX0_takesTurn_10 : decode cX0_takesTurn 10 = .ok (.getfield 12, 3) := by decide +kernel
theorem dX0_takesTurn_13 : decode cX0_takesTurn 13 = .ok (.aload_n 1, 1) := by decide +kernel
theorem dX0_takesTurn_14 : decode cX0_takesTurn 14 = .ok (.aload_n 2, 1) := by decide +kernel
theorem dX0_takesTurn_15 : decode cX0_takesTurn 15 = .ok (.getfield 89, 3) := by decide +kernel
theorem dX0_takesTurn_18 : decode cX0_takesTurn 18 = .ok (.iload_n 3, 1) := by decide +kernel
theorem dX0_takesTurn_19 : decode cX0_takesTurn 19 = .ok (.iconst 1, 1) := by decide +kernel
theorem dX0_takesTurn_20 : decode cX0_takesTurn 20 = .ok (.invokevirtual 103, 3) := by decide +kernel
theorem dX0_takesTurn_23 : decode cX0_takesTurn 23 = .ok (.ifCond .ne 5, 3) := by decide +kernel
theorem dX0_takesTurn_26 : decode cX0_takesTurn 26 = .ok (.iconst 0, 1) := by decide +kernel
theorem dX0_takesTurn_27 : decode cX0_takesTurn 27 = .ok (.ireturn, 1) := by decide +kernel
theorem dX0_takesTurn_28 : decode cX0_takesTurn 28 = .ok (.aload_n 1, 1) := by decide +kernel
theorem dX0_takesTurn_29 : decode cX0_takesTurn 29 = .ok (.getfield 89, 3) := by decide +kernel
theorem dX0_takesTurn_32 : decode cX0_takesTurn 32 = .ok (.istore 4, 2) := by decide +kernel
theorem dX0_takesTurn_34 : decode cX0_takesTurn 34 = .ok (.aload_n 1, 1) := by decide +kernel
theorem dX0_takesTurn_35 : decode cX0_takesTurn 35 = .ok (.aload_n 2, 1) := by decide +kernel
theorem dX0_takesTurn_36 : decode cX0_takesTurn 36 = .ok (.getfield 89, 3) := by decide +kernel
theorem dX0_takesTurn_39 : decode cX0_takesTurn 39 = .ok (.invokevirtual 107, 3) := by decide +kernel
theorem dX0_takesTurn_42 : decode cX0_takesTurn 42 = .ok (.aload_n 2, 1) := by decide +kernel
theorem dX0_takesTurn_43 : decode cX0_takesTurn 43 = .ok (.iload 4, 2) := by decide +kernel
theorem dX0_takesTurn_45 : decode cX0_takesTurn 45 = .ok (.invokevirtual 107, 3) := by decide +kernel
theorem dX0_takesTurn_48 : decode cX0_takesTurn 48 = .ok (.iconst 1, 1) := by decide +kernel
theorem dX0_takesTurn_49 : decode cX0_takesTurn 49 = .ok (.ireturn, 1) := by decide +kernel
theorem dX0_firstsFor_0 : decode cX0_firstsFor 0 = .ok (.iconst 0, 1) := by decide +kernel
theorem dX0_firstsFor_1 : decode cX0_firstsFor 1 = .ok (.istore_n 3, 1) := by decide +kernel
theorem dX0_firstsFor_2 : decode cX0_firstsFor 2 = .ok (.iconst 0, 1) := by decide +kernel
theorem dX0_firstsFor_3 : decode cX0_firstsFor 3 = .ok (.istore 4, 2) := by decide +kernel
theorem dX0_firstsFor_5 : decode cX0_firstsFor 5 = .ok (.iload 4, 2) := by decide +kernel
theorem dX0_firstsFor_7 : decode cX0_firstsFor 7 = .ok (.aload_n 2, 1) := by decide +kernel
theorem dX0_firstsFor_8 : decode cX0_firstsFor 8 = .ok (.getfield 32, 3) := by decide +kernel
theorem dX0_firstsFor_11 : decode cX0_firstsFor 11 = .ok (.getfield 61, 3) := by decide +kernel
theorem dX0_firstsFor_14 : decode cX0_firstsFor 14 = .ok (.if_icmp .ge 66, 3) := by decide +kernel
theorem dX0_firstsFor_17 : decode cX0_firstsFor 17 = .ok (.aload_n 2, 1) := by decide +kernel
theorem dX0_firstsFor_18 : decode cX0_firstsFor 18 = .ok (.getfield 32, 3) := by decide +kernel
theorem dX0_firstsFor_21 : decode cX0_firstsFor 21 = .ok (.iload 4, 2) := by decide +kernel
theorem dX0_firstsFor_23 : decode cX0_firstsFor 23 = .ok (.aload_n 2, 1) := by decide +kernel
theorem dX0_firstsFor_24 : decode cX0_firstsFor 24 = .ok (.getfield 39, 3) := by decide +kernel
theorem dX0_firstsFor_27 : decode cX0_firstsFor 27 = .ok (.invokevirtual 68, 3) := by decide +kernel
theorem dX0_firstsFor_30 : decode cX0_firstsFor 30 = .ok (.bipush (-4), 2) := by decide +kernel
theorem dX0_firstsFor_32 : decode cX0_firstsFor 32 = .ok (.if_icmp .eq 6, 3) := by decide +kernel
theorem dX0_firstsFor_35 : decode cX0_firstsFor 35 = .ok (.goto 39, 3) := by decide +kernel
theorem dX0_firstsFor_38 : decode cX0_firstsFor 38 = .ok (.aload_n 0, 1) := by decide +kernel
theorem dX0_firstsFor_39 : decode cX0_firstsFor 39 = .ok (.aload_n 2, 1) := by decide +kernel
theorem dX0_firstsFor_40 : decode cX0_firstsFor 40 = .ok (.invokevirtual 54, 3) := by decide +kernel
theorem dX0_firstsFor_43 : decode cX0_firstsFor 43 = .ok (.aload_n 0, 1) := by decide +kernel
theorem dX0_firstsFor_44 : decode cX0_firstsFor 44 = .ok (.getfield 21, 3) := by decide +kernel
theorem dX0_firstsFor_47 : decode cX0_firstsFor 47 = .ok (.iload 4, 2) := by decide +kernel
theorem dX0_firstsFor_49 : decode cX0_firstsFor 49 = .ok (.putfield 89, 3) := by decide +kernel
theorem dX0_firstsFor_52 : decode cX0_firstsFor 52 = .ok (.aload_n 0, 1) := by decide +kernel
theorem dX0_firstsFor_53 : decode cX0_firstsFor 53 = .ok (.invokevirtual 58, 3) := by decide +kernel
theorem dX0_firstsFor_56 : decode cX0_firstsFor 56 = .ok (.aload_n 0, 1) := by decide +kernel
theorem dX0_firstsFor_57 : decode cX0_firstsFor 57 = .ok (.getfield 21, 3) := by decide +kernel
theorem dX0_firstsFor_60 : decode cX0_firstsFor 60 = .ok (.getfield 89, 3) := by decide +kernel
theorem dX0_firstsFor_63 : decode cX0_firstsFor 63 = .ok (.iload_n 1, 1) := by decide +kernel
theorem dX0_firstsFor_64 : decode cX0_firstsFor 64 = .ok (.if_icmp .ne 10, 3) := by decide +kernel
theorem dX0_firstsFor_67 : decode cX0_firstsFor 67 = .ok (.iload_n 3, 1) := by decide +kernel
theorem dX0_firstsFor_68 : decode cX0_firstsFor 68 = .ok (.iconst 1, 1) := by decide +kernel
theorem dX0_firstsFor_69 : decode cX0_firstsFor 69 = .ok (.iload 4, 2) := by decide +kernel
theorem dX0_firstsFor_71 : decode cX0_firstsFor 71 = .ok (.ishl, 1) := by decide +kernel
theorem dX0_firstsFor_72 : decode cX0_firstsFor 72 = .ok (.ior, 1) := by decide +kernel
theorem dX0_firstsFor_73 : decode cX0_firstsFor 73 = .ok (.istore_n 3, 1) := by decide +kernel
theorem dX0_firstsFor_74 : decode cX0_firstsFor 74 = .ok (.iinc 4 1, 3) := by decide +kernel
theorem dX0_firstsFor_77 : decode cX0_firstsFor 77 = .ok (.goto (-72), 3) := by decide +kernel
theorem dX0_firstsFor_80 : decode cX0_firstsFor 80 = .ok (.iload_n 3, 1) := by decide +kernel
theorem dX0_firstsFor_81 : decode cX0_firstsFor 81 = .ok (.ireturn, 1) := by decide +kernel
theorem dX0_heedFor_0 : decode cX0_heedFor 0 = .ok (.bipush (-4), 2) := by decide +kernel
theorem dX0_heedFor_2 : decode cX0_heedFor 2 = .ok (.istore_n 3, 1) := by decide +kernel
theorem dX0_heedFor_3 : decode cX0_heedFor 3 = .ok (.iconst 0, 1) := by decide +kernel
theorem dX0_heedFor_4 : decode cX0_heedFor 4 = .ok (.istore 4, 2) := by decide +kernel
theorem dX0_heedFor_6 : decode cX0_heedFor 6 = .ok (.iconst 0, 1) := by decide +kernel
theorem dX0_heedFor_7 : decode cX0_heedFor 7 = .ok (.istore 5, 2) := by decide +kernel
theorem dX0_heedFor_9 : decode cX0_heedFor 9 = .ok (.iload 5, 2) := by decide +kernel
theorem dX0_heedFor_11 : decode cX0_heedFor 11 = .ok (.bipush 99, 2) := by decide +kernel
theorem dX0_heedFor_13 : decode cX0_heedFor 13 = .ok (.if_icmp .gt 84, 3) := by decide +kernel
theorem dX0_heedFor_16 : decode cX0_heedFor 16 = .ok (.aload_n 0, 1) := by decide +kernel
theorem dX0_heedFor_17 : decode cX0_heedFor 17 = .ok (.aload_n 2, 1) := by decide +kernel
theorem dX0_heedFor_18 : decode cX0_heedFor 18 = .ok (.invokevirtual 54, 3) := by decide +kernel
theorem dX0_heedFor_21 : decode cX0_heedFor 21 = .ok (.aload_n 0, 1) := by decide +kernel
theorem dX0_heedFor_22 : decode cX0_heedFor 22 = .ok (.getfield 12, 3) := by decide +kernel
theorem dX0_heedFor_25 : decode cX0_heedFor 25 = .ok (.iload 5, 2) := by decide +kernel
theorem dX0_heedFor_27 : decode cX0_heedFor 27 = .ok (.putfield 92, 3) := by decide +kernel
theorem dX0_heedFor_30 : decode cX0_heedFor 30 = .ok (.aload_n 0, 1) := by decide +kernel
theorem dX0_heedFor_31 : decode cX0_heedFor 31 = .ok (.invokevirtual 58, 3) := by decide +kernel
theorem dX0_heedFor_34 : decode cX0_heedFor 34 = .ok (.aload_n 0, 1) := by decide +kernel
theorem dX0_heedFor_35 : decode cX0_heedFor 35 = .ok (.getfield 12, 3) := by decide +kernel
theorem dX0_heedFor_38 : decode cX0_heedFor 38 = .ok (.aload_n 2, 1) := by decide +kernel
theorem dX0_heedFor_39 : decode cX0_heedFor 39 = .ok (.getfield 39, 3) := by decide +kernel
theorem dX0_heedFor_42 : decode cX0_heedFor 42 = .ok (.getfield 89, 3) := by decide +kernel
theorem dX0_heedFor_45 : decode cX0_heedFor 45 = .ok (.invokevirtual 64, 3) := by decide +kernel
theorem dX0_heedFor_48 : decode cX0_heedFor 48 = .ok (.aload_n 0, 1) := by decide +kernel
theorem dX0_heedFor_49 : decode cX0_heedFor 49 = .ok (.getfield 12, 3) := by decide +kernel
theorem dX0_heedFor_52 : decode cX0_heedFor 52 = .ok (.aload_n 0, 1) := by decide +kernel
theorem dX0_heedFor_53 : decode cX0_heedFor 53 = .ok (.getfield 21, 3) := by decide +kernel
theorem dX0_heedFor_56 : decode cX0_heedFor 56 = .ok (.getfield 89, 3) := by decide +kernel
theorem dX0_heedFor_59 : decode cX0_heedFor 59 = .ok (.invokevirtual 64, 3) := by decide +kernel
theorem dX0_heedFor_62 : decode cX0_heedFor 62 = .ok (.isub, 1) := by decide +kernel
theorem dX0_heedFor_63 : decode cX0_heedFor 63 = .ok (.istore 6, 2) := by decide +kernel
theorem dX0_heedFor_65 : decode cX0_heedFor 65 = .ok (.iload 6, 2) := by decide +kernel
theorem dX0_heedFor_67 : decode cX0_heedFor 67 = .ok (.iload_n 1, 1) := by decide +kernel
theorem dX0_heedFor_68 : decode cX0_heedFor 68 = .ok (.if_icmp .gt 23, 3) := by decide +kernel
theorem dX0_heedFor_71 : decode cX0_heedFor 71 = .ok (.iload_n 3, 1) := by decide +kernel
theorem dX0_heedFor_72 : decode cX0_heedFor 72 = .ok (.bipush (-4), 2) := by decide +kernel
theorem dX0_heedFor_74 : decode cX0_heedFor 74 = .ok (.if_icmp .eq 10, 3) := by decide +kernel
theorem dX0_heedFor_77 : decode cX0_heedFor 77 = .ok (.iload 6, 2) := by decide +kernel
theorem dX0_heedFor_79 : decode cX0_heedFor 79 = .ok (.iload 4, 2) := by decide +kernel
theorem dX0_heedFor_81 : decode cX0_heedFor 81 = .ok (.if_icmp .le 10, 3) := by decide +kernel
theorem dX0_heedFor_84 : decode cX0_heedFor 84 = .ok (.iload 5, 2) := by decide +kernel
theorem dX0_heedFor_86 : decode cX0_heedFor 86 = .ok (.istore_n 3, 1) := by decide +kernel
theorem dX0_heedFor_87 : decode cX0_heedFor 87 = .ok (.iload 6, 2) := by decide +kernel
theorem dX0_heedFor_89 : decode cX0_heedFor 89 = .ok (.istore 4, 2) := by decide +kernel
theorem dX0_heedFor_91 : decode cX0_heedFor 91 = .ok (.iinc 5 1, 3) := by decide +kernel
theorem dX0_heedFor_94 : decode cX0_heedFor 94 = .ok (.goto (-85), 3) := by decide +kernel
theorem dX0_heedFor_97 : decode cX0_heedFor 97 = .ok (.iload_n 3, 1) := by decide +kernel
theorem dX0_heedFor_98 : decode cX0_heedFor 98 = .ok (.ireturn, 1) := by decide +kernel
theorem dX0_waysTo_0 : decode cX0_waysTo 0 = .ok (.aload_n 0, 1) := by decide +kernel
theorem dX0_waysTo_1 : decode cX0_waysTo 1 = .ok (.getfield 12, 3) := by decide +kernel
theorem dX0_waysTo_4 : decode cX0_waysTo 4 = .ok (.aload_n 2, 1) := by decide +kernel
theorem dX0_waysTo_5 : decode cX0_waysTo 5 = .ok (.getfield 32, 3) := by decide +kernel
theorem dX0_waysTo_8 : decode cX0_waysTo 8 = .ok (.invokevirtual 35, 3) := by decide +kernel
theorem dX0_waysTo_11 : decode cX0_waysTo 11 = .ok (.aload_n 0, 1) := by decide +kernel
theorem dX0_waysTo_12 : decode cX0_waysTo 12 = .ok (.getfield 28, 3) := by decide +kernel
theorem dX0_waysTo_15 : decode cX0_waysTo 15 = .ok (.iconst 0, 1) := by decide +kernel
theorem dX0_waysTo_16 : decode cX0_waysTo 16 = .ok (.aaload, 1) := by decide +kernel
theorem dX0_waysTo_17 : decode cX0_waysTo 17 = .ok (.aload_n 2, 1) := by decide +kernel
theorem dX0_waysTo_18 : decode cX0_waysTo 18 = .ok (.getfield 39, 3) := by decide +kernel
theorem dX0_waysTo_21 : decode cX0_waysTo 21 = .ok (.invokevirtual 40, 3) := by decide +kernel
theorem dX0_waysTo_24 : decode cX0_waysTo 24 = .ok (.aload_n 0, 1) := by decide +kernel
theorem dX0_waysTo_25 : decode cX0_waysTo 25 = .ok (.iconst 0, 1) := by decide +kernel
theorem dX0_waysTo_26 : decode cX0_waysTo 26 = .ok (.iload_n 1, 1) := by decide +kernel
theorem dX0_waysTo_27 : decode cX0_waysTo 27 = .ok (.invokevirtual 111, 3) := by decide +kernel
theorem dX0_waysTo_30 : decode cX0_waysTo 30 = .ok (.ireturn, 1) := by decide +kernel
theorem dX0_waysFrom_0 : decode cX0_waysFrom 0 = .ok (.aload_n 0, 1) := by decide +kernel
theorem dX0_waysFrom_1 : decode cX0_waysFrom 1 = .ok (.getfield 28, 3) := by decide +kernel
theorem dX0_waysFrom_4 : decode cX0_waysFrom 4 = .ok (.iload_n 1, 1) := by decide +kernel
theorem dX0_waysFrom_5 : decode cX0_waysFrom 5 = .ok (.aaload, 1) := by decide +kernel
theorem dX0_waysFrom_6 : decode cX0_waysFrom 6 = .ok (.astore_n 3, 1) := by decide +kernel
theorem dX0_waysFrom_7 : decode cX0_waysFrom 7 = .ok (.aload_n 3, 1) := by decide +kernel
theorem dX0_waysFrom_8 : decode cX0_waysFrom 8 = .ok (.getfield 47, 3) := by decide +kernel
theorem dX0_waysFrom_11 : decode cX0_waysFrom 11 = .ok (.bipush 12, 2) := by decide +kernel
theorem dX0_waysFrom_13 : decode cX0_waysFrom 13 = .ok (.if_icmp .ge 14, 3) := by decide +kernel
theorem dX0_waysFrom_16 : decode cX0_waysFrom 16 = .ok (.iload_n 1, 1) := by decide +kernel
theorem dX0_waysFrom_17 : decode cX0_waysFrom 17 = .ok (.iconst 1, 1) := by decide +kernel
theorem dX0_waysFrom_18 : decode cX0_waysFrom 18 = .ok (.iadd, 1) := by decide +kernel
theorem dX0_waysFrom_19 : decode cX0_waysFrom 19 = .ok (.aload_n 0, 1) := by decide +kernel
theorem dX0_waysFrom_20 : decode cX0_waysFrom 20 = .ok (.getfield 28, 3) := by decide +kernel
theorem dX0_waysFrom_23 : decode cX0_waysFrom 23 = .ok (.arraylength, 1) := by decide +kernel
theorem dX0_waysFrom_24 : decode cX0_waysFrom 24 = .ok (.if_icmp .lt 17, 3) := by decide +kernel
theorem dX0_waysFrom_27 : decode cX0_waysFrom 27 = .ok (.aload_n 3, 1) := by decide +kernel
theorem dX0_waysFrom_28 : decode cX0_waysFrom 28 = .ok (.getfield 89, 3) := by decide +kernel
theorem dX0_waysFrom_31 : decode cX0_waysFrom 31 = .ok (.iload_n 2, 1) := by decide +kernel
theorem dX0_waysFrom_32 : decode cX0_waysFrom 32 = .ok (.if_icmp .ne 7, 3) := by decide +kernel
theorem dX0_waysFrom_35 : decode cX0_waysFrom 35 = .ok (.iconst 1, 1) := by decide +kernel
theorem dX0_waysFrom_36 : decode cX0_waysFrom 36 = .ok (.goto 4, 3) := by decide +kernel
theorem dX0_waysFrom_39 : decode cX0_waysFrom 39 = .ok (.iconst 0, 1) := by decide +kernel
theorem dX0_waysFrom_40 : decode cX0_waysFrom 40 = .ok (.ireturn, 1) := by decide +kernel
theorem dX0_waysFrom_41 : decode cX0_waysFrom 41 = .ok (.aload_n 0, 1) := by decide +kernel
theorem dX0_waysFrom_42 : decode cX0_waysFrom 42 = .ok (.iload_n 1, 1) := by decide +kernel
theorem dX0_waysFrom_43 : decode cX0_waysFrom 43 = .ok (.iload_n 2, 1) := by decide +kernel
theorem dX0_waysFrom_44 : decode cX0_waysFrom 44 = .ok (.iconst 1, 1) := by decide +kernel
theorem dX0_waysFrom_45 : decode cX0_waysFrom 45 = .ok (.invokevirtual 115, 3) := by decide +kernel
theorem dX0_waysFrom_48 : decode cX0_waysFrom 48 = .ok (.istore 4, 2) := by decide +kernel
theorem dX0_waysFrom_50 : decode cX0_waysFrom 50 = .ok (.aload_n 0, 1) := by decide +kernel
theorem dX0_waysFrom_51 : decode cX0_waysFrom 51 = .ok (.getfield 12, 3) := by decide +kernel
theorem dX0_waysFrom_54 : decode cX0_waysFrom 54 = .ok (.aload_n 3, 1) := by decide +kernel
theorem dX0_waysFrom_55 : decode cX0_waysFrom 55 = .ok (.getfield 47, 3) := by decide +kernel
theorem dX0_waysFrom_58 : decode cX0_waysFrom 58 = .ok (.invokevirtual 119, 3) := by decide +kernel
theorem dX0_waysFrom_61 : decode cX0_waysFrom 61 = .ok (.ifCond .eq 16, 3) := by decide +kernel
theorem dX0_waysFrom_64 : decode cX0_waysFrom 64 = .ok (.iload 4, 2) := by decide +kernel
theorem dX0_waysFrom_66 : decode cX0_waysFrom 66 = .ok (.aload_n 0, 1) := by decide +kernel
theorem dX0_waysFrom_67 : decode cX0_waysFrom 67 = .ok (.iload_n 1, 1) := by decide +kernel
theorem dX0_waysFrom_68 : decode cX0_waysFrom 68 = .ok (.iload_n 2, 1) := by decide +kernel
theorem dX0_waysFrom_69 : decode cX0_waysFrom 69 = .ok (.iconst 2, 1) := by decide +kernel
theorem dX0_waysFrom_70 : decode cX0_waysFrom 70 = .ok (.invokevirtual 115, 3) := by decide +kernel
theorem dX0_waysFrom_73 : decode cX0_waysFrom 73 = .ok (.iadd, 1) := by decide +kernel
theorem dX0_waysFrom_74 : decode cX0_waysFrom 74 = .ok (.goto 7, 3) := by decide +kernel
theorem dX0_waysFrom_77 : decode cX0_waysFrom 77 = .ok (.iconst 2, 1) := by decide +kernel
theorem dX0_waysFrom_78 : decode cX0_waysFrom 78 = .ok (.iload 4, 2) := by decide +kernel
theorem dX0_waysFrom_80 : decode cX0_waysFrom 80 = .ok (.imul, 1) := by decide +kernel
theorem dX0_waysFrom_81 : decode cX0_waysFrom 81 = .ok (.ireturn, 1) := by decide +kernel
theorem dX0_waysBehind_0 : decode cX0_waysBehind 0 = .ok (.aload_n 0, 1) := by decide +kernel
theorem dX0_waysBehind_1 : decode cX0_waysBehind 1 = .ok (.getfield 28, 3) := by decide +kernel
theorem dX0_waysBehind_4 : decode cX0_waysBehind 4 = .ok (.iload_n 1, 1) := by decide +kernel
theorem dX0_waysBehind_5 : decode cX0_waysBehind 5 = .ok (.iconst 1, 1) := by decide +kernel
theorem dX0_waysBehind_6 : decode cX0_waysBehind 6 = .ok (.iadd, 1) := by decide +kernel
theorem dX0_waysBehind_7 : decode cX0_waysBehind 7 = .ok (.aaload, 1) := by decide +kernel
theorem dX0_waysBehind_8 : decode cX0_waysBehind 8 = .ok (.aload_n 0, 1) := by decide +kernel
theorem dX0_waysBehind_9 : decode cX0_waysBehind 9 = .ok (.getfield 28, 3) := by decide +kernel
theorem dX0_waysBehind_12 : decode cX0_waysBehind 12 = .ok (.iload_n 1, 1) := by decide +kernel
theorem dX0_waysBehind_13 : decode cX0_waysBehind 13 = .ok (.aaload, 1) := by decide +kernel
theorem dX0_waysBehind_14 : decode cX0_waysBehind 14 = .ok (.invokevirtual 40, 3) := by decide +kernel
theorem dX0_waysBehind_17 : decode cX0_waysBehind 17 = .ok (.aload_n 0, 1) := by decide +kernel
theorem dX0_waysBehind_18 : decode cX0_waysBehind 18 = .ok (.getfield 12, 3) := by decide +kernel
theorem dX0_waysBehind_21 : decode cX0_waysBehind 21 = .ok (.aload_n 0, 1) := by decide +kernel
theorem dX0_waysBehind_22 : decode cX0_waysBehind 22 = .ok (.getfield 28, 3) := by decide +kernel
theorem dX0_waysBehind_25 : decode cX0_waysBehind 25 = .ok (.iload_n 1, 1) := by decide +kernel
theorem dX0_waysBehind_26 : decode cX0_waysBehind 26 = .ok (.iconst 1, 1) := by decide +kernel
theorem dX0_waysBehind_27 : decode cX0_waysBehind 27 = .ok (.iadd, 1) := by decide +kernel
theorem dX0_waysBehind_28 : decode cX0_waysBehind 28 = .ok (.aaload, 1) := by decide +kernel
theorem dX0_waysBehind_29 : decode cX0_waysBehind 29 = .ok (.iload_n 3, 1) := by decide +kernel
theorem dX0_waysBehind_30 : decode cX0_waysBehind 30 = .ok (.invokevirtual 50, 3) := by decide +kernel
theorem dX0_waysBehind_33 : decode cX0_waysBehind 33 = .ok (.pop, 1) := by decide +kernel
theorem dX0_waysBehind_34 : decode cX0_waysBehind 34 = .ok (.aload_n 0, 1) := by decide +kernel
theorem dX0_waysBehind_35 : decode cX0_waysBehind 35 = .ok (.iload_n 1, 1) := by decide +kernel
theorem dX0_waysBehind_36 : decode cX0_waysBehind 36 = .ok (.iconst 1, 1) := by decide +kernel
theorem dX0_waysBehind_37 : decode cX0_waysBehind 37 = .ok (.iadd, 1) := by decide +kernel
theorem dX0_waysBehind_38 : decode cX0_waysBehind 38 = .ok (.iload_n 2, 1) := by decide +kernel
theorem dX0_waysBehind_39 : decode cX0_waysBehind 39 = .ok (.invokevirtual 111, 3) := by decide +kernel
theorem dX0_waysBehind_42 : decode cX0_waysBehind 42 = .ok (.ireturn, 1) := by decide +kernel
theorem dX3_init_0 : decode cX3_init 0 = .ok (.aload_n 0, 1) := by decide +kernel
theorem dX3_init_1 : decode cX3_init 1 = .ok (.invokespecial 3, 3) := by decide +kernel
theorem dX3_init_4 : decode cX3_init 4 = .ok (.aload_n 0, 1) := by decide +kernel
theorem dX3_init_5 : decode cX3_init 5 = .ok (.bipush 120, 2) := by decide +kernel
theorem dX3_init_7 : decode cX3_init 7 = .ok (.newarray .char, 2) := by decide +kernel
theorem dX3_init_9 : decode cX3_init 9 = .ok (.putfield 9, 3) := by decide +kernel
theorem dX3_init_12 : decode cX3_init 12 = .ok (.aload_n 0, 1) := by decide +kernel
theorem dX3_init_13 : decode cX3_init 13 = .ok (.new 15, 3) := by decide +kernel
theorem dX3_init_16 : decode cX3_init 16 = .ok (.dup, 1) := by decide +kernel
theorem dX3_init_17 : decode cX3_init 17 = .ok (.invokespecial 17, 3) := by decide +kernel
theorem dX3_init_20 : decode cX3_init 20 = .ok (.putfield 18, 3) := by decide +kernel
theorem dX3_init_23 : decode cX3_init 23 = .ok (.aload_n 0, 1) := by decide +kernel
theorem dX3_init_24 : decode cX3_init 24 = .ok (.new 22, 3) := by decide +kernel
theorem dX3_init_27 : decode cX3_init 27 = .ok (.dup, 1) := by decide +kernel
theorem dX3_init_28 : decode cX3_init 28 = .ok (.invokespecial 24, 3) := by decide +kernel
theorem dX3_init_31 : decode cX3_init 31 = .ok (.putfield 25, 3) := by decide +kernel
theorem dX3_init_34 : decode cX3_init 34 = .ok (.return_, 1) := by decide +kernel
theorem dX3_readRoad_0 : decode cX3_readRoad 0 = .ok (.aload_n 0, 1) := by decide +kernel
theorem dX3_readRoad_1 : decode cX3_readRoad 1 = .ok (.iconst 0, 1) := by decide +kernel
theorem dX3_readRoad_2 : decode cX3_readRoad 2 = .ok (.putfield 29, 3) := by decide +kernel
theorem dX3_readRoad_5 : decode cX3_readRoad 5 = .ok (.aload_n 0, 1) := by decide +kernel
theorem dX3_readRoad_6 : decode cX3_readRoad 6 = .ok (.getfield 18, 3) := by decide +kernel
theorem dX3_readRoad_9 : decode cX3_readRoad 9 = .ok (.aload_n 1, 1) := by decide +kernel
theorem dX3_readRoad_10 : decode cX3_readRoad 10 = .ok (.getfield 33, 3) := by decide +kernel
theorem dX3_readRoad_13 : decode cX3_readRoad 13 = .ok (.invokevirtual 36, 3) := by decide +kernel
theorem dX3_readRoad_16 : decode cX3_readRoad 16 = .ok (.aload_n 0, 1) := by decide +kernel
theorem dX3_readRoad_17 : decode cX3_readRoad 17 = .ok (.getfield 25, 3) := by decide +kernel
theorem dX3_readRoad_20 : decode cX3_readRoad 20 = .ok (.aload_n 1, 1) := by decide +kernel
theorem dX3_readRoad_21 : decode cX3_readRoad 21 = .ok (.getfield 40, 3) := by decide +kernel
theorem dX3_readRoad_24 : decode cX3_readRoad 24 = .ok (.invokevirtual 41, 3) := by decide +kernel
theorem dX3_readRoad_27 : decode cX3_readRoad 27 = .ok (.aload_n 0, 1) := by decide +kernel
theorem dX3_readRoad_28 : decode cX3_readRoad 28 = .ok (.getfield 18, 3) := by decide +kernel
theorem dX3_readRoad_31 : decode cX3_readRoad 31 = .ok (.iconst 0, 1) := by decide +kernel
theorem dX3_readRoad_32 : decode cX3_readRoad 32 = .ok (.putfield 44, 3) := by decide +kernel
theorem dX3_readRoad_35 : decode cX3_readRoad 35 = .ok (.aload_n 0, 1) := by decide +kernel
theorem dX3_readRoad_36 : decode cX3_readRoad 36 = .ok (.getfield 18, 3) := by decide +kernel
theorem dX3_readRoad_39 : decode cX3_readRoad 39 = .ok (.iconst 0, 1) := by decide +kernel
theorem dX3_readRoad_40 : decode cX3_readRoad 40 = .ok (.putfield 47, 3) := by decide +kernel
theorem dX3_readRoad_43 : decode cX3_readRoad 43 = .ok (.aload_n 0, 1) := by decide +kernel
theorem dX3_readRoad_44 : decode cX3_readRoad 44 = .ok (.getfield 25, 3) := by decide +kernel
theorem dX3_readRoad_47 : decode cX3_readRoad 47 = .ok (.invokevirtual 50, 3) := by decide +kernel
theorem dX3_readRoad_50 : decode cX3_readRoad 50 = .ok (.aload_n 0, 1) := by decide +kernel
theorem dX3_readRoad_51 : decode cX3_readRoad 51 = .ok (.invokevirtual 53, 3) := by decide +kernel
theorem dX3_readRoad_54 : decode cX3_readRoad 54 = .ok (.ifCond .ne 5, 3) := by decide +kernel
theorem dX3_readRoad_57 : decode cX3_readRoad 57 = .ok (.iconst 0, 1) := by decide +kernel
theorem dX3_readRoad_58 : decode cX3_readRoad 58 = .ok (.ireturn, 1) := by decide +kernel
theorem dX3_readRoad_59 : decode cX3_readRoad 59 = .ok (.aload_n 0, 1) := by decide +kernel
theorem dX3_readRoad_60 : decode cX3_readRoad 60 = .ok (.bipush 59, 2) := by decide +kernel
theorem dX3_readRoad_62 : decode cX3_readRoad 62 = .ok (.invokevirtual 57, 3) := by decide +kernel
theorem dX3_readRoad_65 : decode cX3_readRoad 65 = .ok (.istore_n 2, 1) := by decide +kernel
theorem dX3_readRoad_66 : decode cX3_readRoad 66 = .ok (.iload_n 2, 1) := by decide +kernel
theorem dX3_readRoad_67 : decode cX3_readRoad 67 = .ok (.ifCond .eq 29, 3) := by decide +kernel
theorem dX3_readRoad_70 : decode cX3_readRoad 70 = .ok (.aload_n 0, 1) := by decide +kernel
theorem dX3_readRoad_71 : decode cX3_readRoad 71 = .ok (.invokevirtual 61, 3) := by decide +kernel
theorem dX3_readRoad_74 : decode cX3_readRoad 74 = .ok (.invokestatic 65, 3) := by decide +kernel
theorem dX3_readRoad_77 : decode cX3_readRoad 77 = .ok (.ifCond .eq 19, 3) := by decide +kernel
theorem dX3_readRoad_80 : decode cX3_readRoad 80 = .ok (.aload_n 0, 1) := by decide +kernel
theorem dX3_readRoad_81 : decode cX3_readRoad 81 = .ok (.invokevirtual 68, 3) := by decide +kernel
theorem dX3_readRoad_84 : decode cX3_readRoad 84 = .ok (.ifCond .ne 5, 3) := by decide +kernel
theorem dX3_readRoad_87 : decode cX3_readRoad 87 = .ok (.iconst 0, 1) := by decide +kernel
theorem dX3_readRoad_88 : decode cX3_readRoad 88 = .ok (.ireturn, 1) := by decide +kernel
theorem dX3_readRoad_89 : decode cX3_readRoad 89 = .ok (.aload_n 0, 1) := by decide +kernel
theorem dX3_readRoad_90 : decode cX3_readRoad 90 = .ok (.bipush 59, 2) := by decide +kernel
theorem dX3_readRoad_92 : decode cX3_readRoad 92 = .ok (.invokevirtual 57, 3) := by decide +kernel
theorem dX3_readRoad_95 : decode cX3_readRoad 95 = .ok (.istore_n 2, 1) := by decide +kernel
theorem dX3_readRoad_96 : decode cX3_readRoad 96 = .ok (.iload_n 2, 1) := by decide +kernel
theorem dX3_readRoad_97 : decode cX3_readRoad 97 = .ok (.ifCond .eq 12, 3) := by decide +kernel
theorem dX3_readRoad_100 : decode cX3_readRoad 100 = .ok (.aload_n 0, 1) := by decide +kernel
theorem dX3_readRoad_101 : decode cX3_readRoad 101 = .ok (.invokevirtual 71, 3) := by decide +kernel
theorem dX3_readRoad_104 : decode cX3_readRoad 104 = .ok (.ifCond .ne 5, 3) := by decide +kernel
theorem dX3_readRoad_107 : decode cX3_readRoad 107 = .ok (.iconst 0, 1) := by decide +kernel
theorem dX3_readRoad_108 : decode cX3_readRoad 108 = .ok (.ireturn, 1) := by decide +kernel
theorem dX3_readRoad_109 : decode cX3_readRoad 109 = .ok (.aload_n 0, 1) := by decide +kernel
theorem dX3_readRoad_110 : decode cX3_readRoad 110 = .ok (.invokevirtual 61, 3) := by decide +kernel
theorem dX3_readRoad_113 : decode cX3_readRoad 113 = .ok (.ifCond .ne 7, 3) := by decide +kernel
theorem dX3_readRoad_116 : decode cX3_readRoad 116 = .ok (.iconst 1, 1) := by decide +kernel
theorem dX3_readRoad_117 : decode cX3_readRoad 117 = .ok (.goto 4, 3) := by decide +kernel
theorem dX3_readRoad_120 : decode cX3_readRoad 120 = .ok (.iconst 0, 1) := by decide +kernel
theorem dX3_readRoad_121 : decode cX3_readRoad 121 = .ok (.ireturn, 1) := by decide +kernel
theorem dX3_readThings_0 : decode cX3_readThings 0 = .ok (.iconst 1, 1) := by decide +kernel
theorem dX3_readThings_1 : decode cX3_readThings 1 = .ok (.istore_n 1, 1) := by decide +kernel
theorem dX3_readThings_2 : decode cX3_readThings 2 = .ok (.iload_n 1, 1) := by decide +kernel
theorem dX3_readThings_3 : decode cX3_readThings 3 = .ok (.bipush 10, 2) := by decide +kernel
theorem dX3_readThings_5 : decode cX3_readThings 5 = .ok (.if_icmp .gt 35, 3) := by decide +kernel
theorem dX3_readThings_8 : decode cX3_readThings 8 = .ok (.aload_n 0, 1) := by decide +kernel
theorem dX3_readThings_9 : decode cX3_readThings 9 = .ok (.invokevirtual 74, 3) := by decide +kernel
theorem dX3_readThings_12 : decode cX3_readThings 12 = .ok (.ifCond .ne 5, 3) := by decide +kernel
theorem dX3_readThings_15 : decode cX3_readThings 15 = .ok (.iconst 0, 1) := by decide +kernel
theorem dX3_readThings_16 : decode cX3_readThings 16 = .ok (.ireturn, 1) := by decide +kernel
theorem dX3_readThings_17 : decode cX3_readThings 17 = .ok (.iload_n 1, 1) := by decide +kernel
theorem dX3_readThings_18 : decode cX3_readThings 18 = .ok (.bipush 10, 2) := by decide +kernel
theorem dX3_readThings_20 : decode cX3_readThings 20 = .ok (.if_icmp .eq 12, 3) := by decide +kernel
theorem dX3_readThings_23 : decode cX3_readThings 23 = .ok (.aload_n 0, 1) := by decide +kernel
theorem dX3_readThings_24 : decode cX3_readThings 24 = .ok (.bipush 44, 2) := by decide +kernel
theorem dX3_readThings_26 : decode cX3_readThings 26 = .ok (.invokevirtual 57, 3) := by decide +kernel
theorem dX3_readThings_29 : decode cX3_readThings 29 = .ok (.ifCond .ne 5, 3) := by decide +kernel
theorem dX3_readThings_32 : decode cX3_readThings 32 = .ok (.iconst 1, 1) := by decide +kernel
theorem dX3_readThings_33 : decode cX3_readThings 33 = .ok (.ireturn, 1) := by decide +kernel
theorem dX3_readThings_34 : decode cX3_readThings 34 = .ok (.iinc 1 1, 3) := by decide +kernel
theorem dX3_readThings_37 : decode cX3_readThings 37 = .ok (.goto (-35), 3) := by decide +kernel
theorem dX3_readThings_40 : decode cX3_readThings 40 = .ok (.iconst 1, 1) := by decide +kernel
theorem dX3_readThings_41 : decode cX3_readThings 41 = .ok (.ireturn, 1) := by decide +kernel
theorem dX3_readThing_0 : decode cX3_readThing 0 = .ok (.ldc 77, 2) := by decide +kernel
theorem dX3_readThing_2 : decode cX3_readThing 2 = .ok (.aload_n 0, 1) := by decide +kernel
theorem dX3_readThing_3 : decode cX3_readThing 3 = .ok (.invokevirtual 61, 3) := by decide +kernel
theorem dX3_readThing_6 : decode cX3_readThing 6 = .ok (.invokevirtual 79, 3) := by decide +kernel
theorem dX3_readThing_9 : decode cX3_readThing 9 = .ok (.istore_n 1, 1) := by decide +kernel
theorem dX3_readThing_10 : decode cX3_readThing 10 = .ok (.iload_n 1, 1) := by decide +kernel
theorem dX3_readThing_11 : decode cX3_readThing 11 = .ok (.ifCond .ge 5, 3) := by decide +kernel
theorem dX3_readThing_14 : decode cX3_readThing 14 = .ok (.iconst 0, 1) := by decide +kernel
theorem dX3_readThing_15 : decode cX3_readThing 15 = .ok (.ireturn, 1) := by decide +kernel
theorem dX3_readThing_16 : decode cX3_readThing 16 = .ok (.aload_n 0, 1) := by decide +kernel
theorem dX3_readThing_17 : decode cX3_readThing 17 = .ok (.dup, 1) := by decide +kernel
theorem dX3_readThing_18 : decode cX3_readThing 18 = .ok (.getfield 29, 3) := by decide +kernel
theorem dX3_readThing_21 : decode cX3_readThing 21 = .ok (.iconst 1, 1) := by decide +kernel
theorem dX3_readThing_22 : decode cX3_readThing 22 = .ok (.iadd, 1) := by decide +kernel
theorem dX3_readThing_23 : decode cX3_readThing 23 = .ok (.putfield 29, 3) := by decide +kernel
theorem dX3_readThing_26 : decode cX3_readThing 26 = .ok (.aload_n 0, 1) := by decide +kernel
theorem dX3_readThing_27 : decode cX3_readThing 27 = .ok (.bipush 99, 2) := by decide +kernel
theorem dX3_readThing_29 : decode cX3_readThing 29 = .ok (.invokevirtual 85, 3) := by decide +kernel
theorem dX3_readThing_32 : decode cX3_readThing 32 = .ok (.istore_n 2, 1) := by decide +kernel
theorem dX3_readThing_33 : decode cX3_readThing 33 = .ok (.iload_n 2, 1) := by decide +kernel
theorem dX3_readThing_34 : decode cX3_readThing 34 = .ok (.ifCond .ge 5, 3) := by decide +kernel
theorem dX3_readThing_37 : decode cX3_readThing 37 = .ok (.iconst 0, 1) := by decide +kernel
theorem dX3_readThing_38 : decode cX3_readThing 38 = .ok (.ireturn, 1) := by decide +kernel
theorem dX3_readThing_39 : decode cX3_readThing 39 = .ok (.aload_n 0, 1) := by decide +kernel
theorem dX3_readThing_40 : decode cX3_readThing 40 = .ok (.bipush 108, 2) := by decide +kernel
theorem dX3_readThing_42 : decode cX3_readThing 42 = .ok (.invokevirtual 57, 3) := by decide +kernel
theorem dX3_readThing_45 : decode cX3_readThing 45 = .ok (.ifCond .eq 12, 3) := by decide +kernel
theorem dX3_readThing_48 : decode cX3_readThing 48 = .ok (.aload_n 0, 1) := by decide +kernel
theorem dX3_readThing_49 : decode cX3_readThing 49 = .ok (.bipush 30, 2) := by decide +kernel
theorem dX3_readThing_51 : decode cX3_readThing 51 = .ok (.invokevirtual 85, 3) := by decide +kernel
theorem dX3_readThing_54 : decode cX3_readThing 54 = .ok (.goto 4, 3) := by decide +kernel
theorem dX3_readThing_57 : decode cX3_readThing 57 = .ok (.iconst 0, 1) := by decide +kernel
theorem dX3_readThing_58 : decode cX3_readThing 58 = .ok (.istore_n 3, 1) := by decide +kernel
theorem dX3_readThing_59 : decode cX3_readThing 59 = .ok (.iload_n 3, 1) := by decide +kernel
theorem dX3_readThing_60 : decode cX3_readThing 60 = .ok (.ifCond .ge 5, 3) := by decide +kernel
theorem dX3_readThing_63 : decode cX3_readThing 63 = .ok (.iconst 0, 1) := by decide +kernel
theorem dX3_readThing_64 : decode cX3_readThing 64 = .ok (.ireturn, 1) := by decide +kernel
theorem dX3_readThing_65 : decode cX3_readThing 65 = .ok (.aload_n 0, 1) := by decide +kernel
theorem dX3_readThing_66 : decode cX3_readThing 66 = .ok (.bipush 99, 2) := by decide +kernel
theorem dX3_readThing_68 : decode cX3_readThing 68 = .ok (.invokevirtual 57, 3) := by decide +kernel
theorem dX3_readThing_71 : decode cX3_readThing 71 = .ok (.ifCond .eq 12, 3) := by decide +kernel
theorem dX3_readThing_74 : decode cX3_readThing 74 = .ok (.aload_n 0, 1) := by decide +kernel
theorem dX3_readThing_75 : decode cX3_readThing 75 = .ok (.bipush 30, 2) := by decide +kernel
theorem dX3_readThing_77 : decode cX3_readThing 77 = .ok (.invokevirtual 85, 3) := by decide +kernel
theorem dX3_readThing_80 : decode cX3_readThing 80 = .ok (.goto 4, 3) := by decide +kernel
theorem dX3_readThing_83 : decode cX3_readThing 83 = .ok (.iconst 0, 1) := by decide +kernel
theorem dX3_readThing_84 : decode cX3_readThing 84 = .ok (.istore 4, 2) := by decide +kernel
theorem dX3_readThing_86 : decode cX3_readThing 86 = .ok (.iload 4, 2) := by decide +kernel
theorem dX3_readThing_88 : decode cX3_readThing 88 = .ok (.ifCond .ge 5, 3) := by decide +kernel
theorem dX3_readThing_91 : decode cX3_readThing 91 = .ok (.iconst 0, 1) := by decide +kernel
theorem dX3_readThing_92 : decode cX3_readThing 92 = .ok (.ireturn, 1) := by decide +kernel
theorem dX3_readThing_93 : decode cX3_readThing 93 = .ok (.aload_n 0, 1) := by decide +kernel
theorem dX3_readThing_94 : decode cX3_readThing 94 = .ok (.getfield 18, 3) := by decide +kernel
theorem dX3_readThing_97 : decode cX3_readThing 97 = .ok (.iload_n 1, 1) := by decide +kernel
theorem dX3_readThing_98 : decode cX3_readThing 98 = .ok (.iload_n 2, 1) := by decide +kernel
theorem dX3_readThing_99 : decode cX3_readThing 99 = .ok (.iload_n 3, 1) := by decide +kernel
theorem dX3_readThing_100 : decode cX3_readThing 100 = .ok (.iload 4, 2) := by decide +kernel
theorem dX3_readThing_102 : decode cX3_readThing 102 = .ok (.invokevirtual 88, 3) := by decide +kernel
theorem dX3_readThing_105 : decode cX3_readThing 105 = .ok (.pop, 1) := by decide +kernel
theorem dX3_readThing_106 : decode cX3_readThing 106 = .ok (.iconst 1, 1) := by decide +kernel
theorem dX3_readThing_107 : decode cX3_readThing 107 = .ok (.ireturn, 1) := by decide +kernel
theorem dX3_readPeople_0 : decode cX3_readPeople 0 = .ok (.iconst 1, 1) := by decide +kernel
theorem dX3_readPeople_1 : decode cX3_readPeople 1 = .ok (.istore_n 1, 1) := by decide +kernel
theorem dX3_readPeople_2 : decode cX3_readPeople 2 = .ok (.iload_n 1, 1) := by decide +kernel
theorem dX3_readPeople_3 : decode cX3_readPeople 3 = .ok (.bipush 8, 2) := by decide +kernel
theorem dX3_readPeople_5 : decode cX3_readPeople 5 = .ok (.if_icmp .gt 35, 3) := by decide +kernel
theorem dX3_readPeople_8 : decode cX3_readPeople 8 = .ok (.aload_n 0, 1) := by decide +kernel
theorem dX3_readPeople_9 : decode cX3_readPeople 9 = .ok (.invokevirtual 92, 3) := by decide +kernel
theorem dX3_readPeople_12 : decode cX3_readPeople 12 = .ok (.ifCond .ne 5, 3) := by decide +kernel
theorem dX3_readPeople_15 : decode cX3_readPeople 15 = .ok (.iconst 0, 1) := by decide +kernel
theorem dX3_readPeople_16 : decode cX3_readPeople 16 = .ok (.ireturn, 1) := by decide +kernel
theorem dX3_readPeople_17 : decode cX3_readPeople 17 = .ok (.iload_n 1, 1) := by decide +kernel
theorem dX3_readPeople_18 : decode cX3_readPeople 18 = .ok (.bipush 8, 2) := by decide +kernel
theorem dX3_readPeople_20 : decode cX3_readPeople 20 = .ok (.if_icmp .eq 12, 3) := by decide +kernel
theorem dX3_readPeople_23 : decode cX3_readPeople 23 = .ok (.aload_n 0, 1) := by decide +kernel
theorem dX3_readPeople_24 : decode cX3_readPeople 24 = .ok (.bipush 44, 2) := by decide +kernel
theorem dX3_readPeople_26 : decode cX3_readPeople 26 = .ok (.invokevirtual 57, 3) := by decide +kernel
theorem dX3_readPeople_29 : decode cX3_readPeople 29 = .ok (.ifCond .ne 5, 3) := by decide +kernel
theorem dX3_readPeople_32 : decode cX3_readPeople 32 = .ok (.iconst 1, 1) := by decide +kernel
theorem dX3_readPeople_33 : decode cX3_readPeople 33 = .ok (.ireturn, 1) := by decide +kernel
theorem dX3_readPeople_34 : decode cX3_readPeople 34 = .ok (.iinc 1 1, 3) := by decide +kernel
theorem dX3_readPeople_37 : decode cX3_readPeople 37 = .ok (.goto (-35), 3) := by decide +kernel
theorem dX3_readPeople_40 : decode cX3_readPeople 40 = .ok (.iconst 1, 1) := by decide +kernel
theorem dX3_readPeople_41 : decode cX3_readPeople 41 = .ok (.ireturn, 1) := by decide +kernel
theorem dX3_readPerson_0 : decode cX3_readPerson 0 = .ok (.aload_n 0, 1) := by decide +kernel
theorem dX3_readPerson_1 : decode cX3_readPerson 1 = .ok (.bipush 11, 2) := by decide +kernel
theorem dX3_readPerson_3 : decode cX3_readPerson 3 = .ok (.invokevirtual 85, 3) := by decide +kernel
theorem dX3_readPerson_6 : decode cX3_readPerson 6 = .ok (.istore_n 1, 1) := by decide +kernel
theorem dX3_readPerson_7 : decode cX3_readPerson 7 = .ok (.iload_n 1, 1) := by decide +kernel
theorem dX3_readPerson_8 : decode cX3_readPerson 8 = .ok (.ifCond .ge 5, 3) := by decide +kernel
theorem dX3_readPerson_11 : decode cX3_readPerson 11 = .ok (.iconst 0, 1) := by decide +kernel
theorem dX3_readPerson_12 : decode cX3_readPerson 12 = .ok (.ireturn, 1) := by decide +kernel
theorem dX3_readPerson_13 : decode cX3_readPerson 13 = .ok (.bipush (-4), 2) := by decide +kernel
theorem dX3_readPerson_15 : decode cX3_readPerson 15 = .ok (.istore_n 2, 1) := by decide +kernel
theorem dX3_readPerson_16 : decode cX3_readPerson 16 = .ok (.aload_n 0, 1) := by decide +kernel
theorem dX3_readPerson_17 : decode cX3_readPerson 17 = .ok (.bipush 61, 2) := by decide +kernel
theorem dX3_readPerson_19 : decode cX3_readPerson 19 = .ok (.invokevirtual 57, 3) := by decide +kernel
theorem dX3_readPerson_22 : decode cX3_readPerson 22 = .ok (.ifCond .eq 14, 3) := by decide +kernel
theorem dX3_readPerson_25 : decode cX3_readPerson 25 = .ok (.aload_n 0, 1) := by decide +kernel
theorem dX3_readPerson_26 : decode cX3_readPerson 26 = .ok (.invokevirtual 95, 3) := by decide +kernel
theorem dX3_readPerson_29 : decode cX3_readPerson 29 = .ok (.istore_n 2, 1) := by decide +kernel
theorem dX3_readPerson_30 : decode cX3_readPerson 30 = .ok (.iload_n 2, 1) := by decide +kernel
theorem dX3_readPerson_31 : decode cX3_readPerson 31 = .ok (.ifCond .ge 5, 3) := by decide +kernel
theorem dX3_readPerson_34 : decode cX3_readPerson 34 = .ok (.iconst 0, 1) := by decide +kernel
theorem dX3_readPerson_35 : decode cX3_readPerson 35 = .ok (.ireturn, 1) := by decide +kernel
theorem dX3_readPerson_36 : decode cX3_readPerson 36 = .ok (.aload_n 0, 1) := by decide +kernel
theorem dX3_readPerson_37 : decode cX3_readPerson 37 = .ok (.bipush 43, 2) := by decide +kernel
theorem dX3_readPerson_39 : decode cX3_readPerson 39 = .ok (.invokevirtual 57, 3) := by decide +kernel
theorem dX3_readPerson_42 : decode cX3_readPerson 42 = .ok (.ifCond .eq 12, 3) := by decide +kernel
theorem dX3_readPerson_45 : decode cX3_readPerson 45 = .ok (.aload_n 0, 1) := by decide +kernel
theorem dX3_readPerson_46 : decode cX3_readPerson 46 = .ok (.bipush 20, 2) := by decide +kernel
theorem dX3_readPerson_48 : decode cX3_readPerson 48 = .ok (.invokevirtual 85, 3) := by decide +kernel
theorem dX3_readPerson_51 : decode cX3_readPerson 51 = .ok (.goto 4, 3) := by decide +kernel
theorem dX3_readPerson_54 : decode cX3_readPerson 54 = .ok (.iconst 0, 1) := by decide +kernel
theorem dX3_readPerson_55 : decode cX3_readPerson 55 = .ok (.istore_n 3, 1) := by decide +kernel
theorem dX3_readPerson_56 : decode cX3_readPerson 56 = .ok (.iload_n 3, 1) := by decide +kernel
theorem dX3_readPerson_57 : decode cX3_readPerson 57 = .ok (.ifCond .ge 5, 3) := by decide +kernel
theorem dX3_readPerson_60 : decode cX3_readPerson 60 = .ok (.iconst 0, 1) := by decide +kernel
theorem dX3_readPerson_61 : decode cX3_readPerson 61 = .ok (.ireturn, 1) := by decide +kernel
theorem dX3_readPerson_62 : decode cX3_readPerson 62 = .ok (.aload_n 0, 1) := by decide +kernel
theorem dX3_readPerson_63 : decode cX3_readPerson 63 = .ok (.getfield 18, 3) := by decide +kernel
theorem dX3_readPerson_66 : decode cX3_readPerson 66 = .ok (.iload_n 1, 1) := by decide +kernel
theorem dX3_readPerson_67 : decode cX3_readPerson 67 = .ok (.iload_n 3, 1) := by decide +kernel
theorem dX3_readPerson_68 : decode cX3_readPerson 68 = .ok (.iload_n 2, 1) := by decide +kernel
theorem dX3_readPerson_69 : decode cX3_readPerson 69 = .ok (.aload_n 0, 1) := by decide +kernel
theorem dX3_readPerson_70 : decode cX3_readPerson 70 = .ok (.getfield 25, 3) := by decide +kernel
theorem dX3_readPerson_73 : decode cX3_readPerson 73 = .ok (.invokevirtual 99, 3) := by decide +kernel
theorem dX3_readPerson_76 : decode cX3_readPerson 76 = .ok (.pop, 1) := by decide +kernel
theorem dX3_readPerson_77 : decode cX3_readPerson 77 = .ok (.iconst 1, 1) := by decide +kernel
theorem dX3_readPerson_78 : decode cX3_readPerson 78 = .ok (.ireturn, 1) := by decide +kernel
theorem dX3_readHis_0 : decode cX3_readHis 0 = .ok (.aload_n 0, 1) := by decide +kernel
theorem dX3_readHis_1 : decode cX3_readHis 1 = .ok (.bipush 61, 2) := by decide +kernel
theorem dX3_readHis_3 : decode cX3_readHis 3 = .ok (.invokevirtual 57, 3) := by decide +kernel
theorem dX3_readHis_6 : decode cX3_readHis 6 = .ok (.ifCond .ne 5, 3) := by decide +kernel
theorem dX3_readHis_9 : decode cX3_readHis 9 = .ok (.iconst 0, 1) := by decide +kernel
theorem dX3_readHis_10 : decode cX3_readHis 10 = .ok (.ireturn, 1) := by decide +kernel
theorem dX3_readHis_11 : decode cX3_readHis 11 = .ok (.aload_n 0, 1) := by decide +kernel
theorem dX3_readHis_12 : decode cX3_readHis 12 = .ok (.invokevirtual 95, 3) := by decide +kernel
theorem dX3_readHis_15 : decode cX3_readHis 15 = .ok (.istore_n 1, 1) := by decide +kernel
theorem dX3_readHis_16 : decode cX3_readHis 16 = .ok (.iload_n 1, 1) := by decide +kernel
theorem dX3_readHis_17 : decode cX3_readHis 17 = .ok (.ifCond .ge 5, 3) := by decide +kernel
theorem dX3_readHis_20 : decode cX3_readHis 20 = .ok (.iconst 0, 1) := by decide +kernel
theorem dX3_readHis_21 : decode cX3_readHis 21 = .ok (.ireturn, 1) := by decide +kernel
theorem dX3_readHis_22 : decode cX3_readHis 22 = .ok (.aload_n 0, 1) := by decide +kernel
theorem dX3_readHis_23 : decode cX3_readHis 23 = .ok (.getfield 25, 3) := by decide +kernel
theorem dX3_readHis_26 : decode cX3_readHis 26 = .ok (.iload_n 1, 1) := by decide +kernel
theorem dX3_readHis_27 : decode cX3_readHis 27 = .ok (.putfield 103, 3) := by decide +kernel
theorem dX3_readHis_30 : decode cX3_readHis 30 = .ok (.iconst 1, 1) := by decide +kernel
theorem dX3_readHis_31 : decode cX3_readHis 31 = .ok (.ireturn, 1) := by decide +kernel
theorem dX3_next_0 : decode cX3_next 0 = .ok (.aload_n 0, 1) := by decide +kernel
theorem dX3_next_1 : decode cX3_next 1 = .ok (.getfield 29, 3) := by decide +kernel
theorem dX3_next_4 : decode cX3_next 4 = .ok (.aload_n 0, 1) := by decide +kernel
theorem dX3_next_5 : decode cX3_next 5 = .ok (.getfield 106, 3) := by decide +kernel
theorem dX3_next_8 : decode cX3_next 8 = .ok (.if_icmp .ge 30, 3) := by decide +kernel
theorem dX3_next_11 : decode cX3_next 11 = .ok (.aload_n 0, 1) := by decide +kernel
theorem dX3_next_12 : decode cX3_next 12 = .ok (.getfield 9, 3) := by decide +kernel
theorem dX3_next_15 : decode cX3_next 15 = .ok (.aload_n 0, 1) := by decide +kernel
theorem dX3_next_16 : decode cX3_next 16 = .ok (.getfield 29, 3) := by decide +kernel
theorem dX3_next_19 : decode cX3_next 19 = .ok (.caload, 1) := by decide +kernel
theorem dX3_next_20 : decode cX3_next 20 = .ok (.bipush 32, 2) := by decide +kernel
theorem dX3_next_22 : decode cX3_next 22 = .ok (.if_icmp .ne 16, 3) := by decide +kernel
theorem dX3_next_25 : decode cX3_next 25 = .ok (.aload_n 0, 1) := by decide +kernel
theorem dX3_next_26 : decode cX3_next 26 = .ok (.dup, 1) := by decide +kernel
theorem dX3_next_27 : decode cX3_next 27 = .ok (.getfield 29, 3) := by decide +kernel
theorem dX3_next_30 : decode cX3_next 30 = .ok (.iconst 1, 1) := by decide +kernel
theorem dX3_next_31 : decode cX3_next 31 = .ok (.iadd, 1) := by decide +kernel
theorem dX3_next_32 : decode cX3_next 32 = .ok (.putfield 29, 3) := by decide +kernel
theorem dX3_next_35 : decode cX3_next 35 = .ok (.goto (-35), 3) := by decide +kernel
theorem dX3_next_38 : decode cX3_next 38 = .ok (.aload_n 0, 1) := by decide +kernel
theorem dX3_next_39 : decode cX3_next 39 = .ok (.getfield 29, 3) := by decide +kernel
theorem dX3_next_42 : decode cX3_next 42 = .ok (.aload_n 0, 1) := by decide +kernel
theorem dX3_next_43 : decode cX3_next 43 = .ok (.getfield 106, 3) := by decide +kernel
theorem dX3_next_46 : decode cX3_next 46 = .ok (.if_icmp .ge 15, 3) := by decide +kernel
theorem dX3_next_49 : decode cX3_next 49 = .ok (.aload_n 0, 1) := by decide +kernel
theorem dX3_next_50 : decode cX3_next 50 = .ok (.getfield 9, 3) := by decide +kernel
theorem dX3_next_53 : decode cX3_next 53 = .ok (.aload_n 0, 1) := by decide +kernel
theorem dX3_next_54 : decode cX3_next 54 = .ok (.getfield 29, 3) := by decide +kernel
theorem dX3_next_57 : decode cX3_next 57 = .ok (.caload, 1) := by decide +kernel
theorem dX3_next_58 : decode cX3_next 58 = .ok (.goto 4, 3) := by decide +kernel
theorem dX3_next_61 : decode cX3_next 61 = .ok (.iconst 0, 1) := by decide +kernel
theorem dX3_next_62 : decode cX3_next 62 = .ok (.ireturn, 1) := by decide +kernel
theorem dX3_reads_0 : decode cX3_reads 0 = .ok (.aload_n 0, 1) := by decide +kernel
theorem dX3_reads_1 : decode cX3_reads 1 = .ok (.invokevirtual 61, 3) := by decide +kernel
theorem dX3_reads_4 : decode cX3_reads 4 = .ok (.iload_n 1, 1) := by decide +kernel
theorem dX3_reads_5 : decode cX3_reads 5 = .ok (.if_icmp .eq 5, 3) := by decide +kernel
theorem dX3_reads_8 : decode cX3_reads 8 = .ok (.iconst 0, 1) := by decide +kernel
theorem dX3_reads_9 : decode cX3_reads 9 = .ok (.ireturn, 1) := by decide +kernel
theorem dX3_reads_10 : decode cX3_reads 10 = .ok (.aload_n 0, 1) := by decide +kernel
theorem dX3_reads_11 : decode cX3_reads 11 = .ok (.dup, 1) := by decide +kernel
theorem dX3_reads_12 : decode cX3_reads 12 = .ok (.getfield 29, 3) := by decide +kernel
theorem dX3_reads_15 : decode cX3_reads 15 = .ok (.iconst 1, 1) := by decide +kernel
theorem dX3_reads_16 : decode cX3_reads 16 = .ok (.iadd, 1) := by decide +kernel
theorem dX3_reads_17 : decode cX3_reads 17 = .ok (.putfield 29, 3) := by decide +kernel
theorem dX3_reads_20 : decode cX3_reads 20 = .ok (.iconst 1, 1) := by decide +kernel
theorem dX3_reads_21 : decode cX3_reads 21 = .ok (.ireturn, 1) := by decide +kernel
theorem dX3_readNumber_0 : decode cX3_readNumber 0 = .ok (.aload_n 0, 1) := by decide +kernel
theorem dX3_readNumber_1 : decode cX3_readNumber 1 = .ok (.invokevirtual 61, 3) := by decide +kernel
theorem dX3_readNumber_4 : decode cX3_readNumber 4 = .ok (.invokestatic 65, 3) := by decide +kernel
theorem dX3_readNumber_7 : decode cX3_readNumber 7 = .ok (.ifCond .ne 5, 3) := by decide +kernel
theorem dX3_readNumber_10 : decode cX3_readNumber 10 = .ok (.iconst (-1), 1) := by decide +kernel
theorem dX3_readNumber_11 : decode cX3_readNumber 11 = .ok (.ireturn, 1) := by decide +kernel
theorem dX3_readNumber_12 : decode cX3_readNumber 12 = .ok (.aload_n 0, 1) := by decide +kernel
theorem dX3_readNumber_13 : decode cX3_readNumber 13 = .ok (.getfield 29, 3) := by decide +kernel
theorem dX3_readNumber_16 : decode cX3_readNumber 16 = .ok (.istore_n 2, 1) := by decide +kernel
theorem dX3_readNumber_17 : decode cX3_readNumber 17 = .ok (.iconst 0, 1) := by decide +kernel
theorem dX3_readNumber_18 : decode cX3_readNumber 18 = .ok (.istore_n 3, 1) := by decide +kernel
theorem dX3_readNumber_19 : decode cX3_readNumber 19 = .ok (.aload_n 0, 1) := by decide +kernel
theorem dX3_readNumber_20 : decode cX3_readNumber 20 = .ok (.getfield 29, 3) := by decide +kernel
theorem dX3_readNumber_23 : decode cX3_readNumber 23 = .ok (.aload_n 0, 1) := by decide +kernel
theorem dX3_readNumber_24 : decode cX3_readNumber 24 = .ok (.getfield 106, 3) := by decide +kernel
theorem dX3_readNumber_27 : decode cX3_readNumber 27 = .ok (.if_icmp .ge 55, 3) := by decide +kernel
theorem dX3_readNumber_30 : decode cX3_readNumber 30 = .ok (.aload_n 0, 1) := by decide +kernel
theorem dX3_readNumber_31 : decode cX3_readNumber 31 = .ok (.getfield 9, 3) := by decide +kernel
theorem dX3_readNumber_34 : decode cX3_readNumber 34 = .ok (.aload_n 0, 1) := by decide +kernel
theorem dX3_readNumber_35 : decode cX3_readNumber 35 = .ok (.getfield 29, 3) := by decide +kernel
theorem dX3_readNumber_38 : decode cX3_readNumber 38 = .ok (.caload, 1) := by decide +kernel
theorem dX3_readNumber_39 : decode cX3_readNumber 39 = .ok (.invokestatic 65, 3) := by decide +kernel
theorem dX3_readNumber_42 : decode cX3_readNumber 42 = .ok (.ifCond .eq 40, 3) := by decide +kernel
theorem dX3_readNumber_45 : decode cX3_readNumber 45 = .ok (.iload_n 3, 1) := by decide +kernel
theorem dX3_readNumber_46 : decode cX3_readNumber 46 = .ok (.bipush 10, 2) := by decide +kernel
theorem dX3_readNumber_48 : decode cX3_readNumber 48 = .ok (.imul, 1) := by decide +kernel
theorem dX3_readNumber_49 : decode cX3_readNumber 49 = .ok (.aload_n 0, 1) := by decide +kernel
theorem dX3_readNumber_50 : decode cX3_readNumber 50 = .ok (.getfield 9, 3) := by decide +kernel
theorem dX3_readNumber_53 : decode cX3_readNumber 53 = .ok (.aload_n 0, 1) := by decide +kernel
theorem dX3_readNumber_54 : decode cX3_readNumber 54 = .ok (.getfield 29, 3) := by decide +kernel
theorem dX3_readNumber_57 : decode cX3_readNumber 57 = .ok (.caload, 1) := by decide +kernel
theorem dX3_readNumber_58 : decode cX3_readNumber 58 = .ok (.iadd, 1) := by decide +kernel
theorem dX3_readNumber_59 : decode cX3_readNumber 59 = .ok (.bipush 48, 2) := by decide +kernel
theorem dX3_readNumber_61 : decode cX3_readNumber 61 = .ok (.isub, 1) := by decide +kernel
theorem dX3_readNumber_62 : decode cX3_readNumber 62 = .ok (.iload_n 1, 1) := by decide +kernel
theorem dX3_readNumber_63 : decode cX3_readNumber 63 = .ok (.iconst 1, 1) := by decide +kernel
theorem dX3_readNumber_64 : decode cX3_readNumber 64 = .ok (.iadd, 1) := by decide +kernel
theorem dX3_readNumber_65 : decode cX3_readNumber 65 = .ok (.invokestatic 109, 3) := by decide +kernel
theorem dX3_readNumber_68 : decode cX3_readNumber 68 = .ok (.istore_n 3, 1) := by decide +kernel
theorem dX3_readNumber_69 : decode cX3_readNumber 69 = .ok (.aload_n 0, 1) := by decide +kernel
theorem dX3_readNumber_70 : decode cX3_readNumber 70 = .ok (.dup, 1) := by decide +kernel
theorem dX3_readNumber_71 : decode cX3_readNumber 71 = .ok (.getfield 29, 3) := by decide +kernel
theorem dX3_readNumber_74 : decode cX3_readNumber 74 = .ok (.iconst 1, 1) := by decide +kernel
theorem dX3_readNumber_75 : decode cX3_readNumber 75 = .ok (.iadd, 1) := by decide +kernel
theorem dX3_readNumber_76 : decode cX3_readNumber 76 = .ok (.putfield 29, 3) := by decide +kernel
theorem dX3_readNumber_79 : decode cX3_readNumber 79 = .ok (.goto (-60), 3) := by decide +kernel
theorem dX3_readNumber_82 : decode cX3_readNumber 82 = .ok (.iload_n 3, 1) := by decide +kernel
theorem dX3_readNumber_83 : decode cX3_readNumber 83 = .ok (.iload_n 1, 1) := by decide +kernel
theorem dX3_readNumber_84 : decode cX3_readNumber 84 = .ok (.if_icmp .le 10, 3) := by decide +kernel
theorem dX3_readNumber_87 : decode cX3_readNumber 87 = .ok (.aload_n 0, 1) := by decide +kernel
theorem dX3_readNumber_88 : decode cX3_readNumber 88 = .ok (.iload_n 2, 1) := by decide +kernel
theorem dX3_readNumber_89 : decode cX3_readNumber 89 = .ok (.putfield 29, 3) := by decide +kernel
theorem dX3_readNumber_92 : decode cX3_readNumber 92 = .ok (.iconst (-1), 1) := by decide +kernel
theorem dX3_readNumber_93 : decode cX3_readNumber 93 = .ok (.ireturn, 1) := by decide +kernel
theorem dX3_readNumber_94 : decode cX3_readNumber 94 = .ok (.iload_n 3, 1) := by decide +kernel
theorem dX3_readNumber_95 : decode cX3_readNumber 95 = .ok (.ireturn, 1) := by decide +kernel
theorem dX3_readFreeThing_0 : decode cX3_readFreeThing 0 = .ok (.aload_n 0, 1) := by decide +kernel
theorem dX3_readFreeThing_1 : decode cX3_readFreeThing 1 = .ok (.invokevirtual 61, 3) := by decide +kernel
theorem dX3_readFreeThing_4 : decode cX3_readFreeThing 4 = .ok (.bipush 48, 2) := by decide +kernel
theorem dX3_readFreeThing_6 : decode cX3_readFreeThing 6 = .ok (.isub, 1) := by decide +kernel
theorem dX3_readFreeThing_7 : decode cX3_readFreeThing 7 = .ok (.istore_n 1, 1) := by decide +kernel
theorem dX3_readFreeThing_8 : decode cX3_readFreeThing 8 = .ok (.aload_n 0, 1) := by decide +kernel
theorem dX3_readFreeThing_9 : decode cX3_readFreeThing 9 = .ok (.getfield 18, 3) := by decide +kernel
theorem dX3_readFreeThing_12 : decode cX3_readFreeThing 12 = .ok (.iload_n 1, 1) := by decide +kernel
theorem dX3_readFreeThing_13 : decode cX3_readFreeThing 13 = .ok (.invokevirtual 115, 3) := by decide +kernel
theorem dX3_readFreeThing_16 : decode cX3_readFreeThing 16 = .ok (.ifCond .eq 20, 3) := by decide +kernel
theorem dX3_readFreeThing_19 : decode cX3_readFreeThing 19 = .ok (.aload_n 0, 1) := by decide +kernel
theorem dX3_readFreeThing_20 : decode cX3_readFreeThing 20 = .ok (.getfield 18, 3) := by decide +kernel
theorem dX3_readFreeThing_23 : decode cX3_readFreeThing 23 = .ok (.iload_n 1, 1) := by decide +kernel
theorem dX3_readFreeThing_24 : decode cX3_readFreeThing 24 = .ok (.aload_n 0, 1) := by decide +kernel
theorem dX3_readFreeThing_25 : decode cX3_readFreeThing 25 = .ok (.getfield 25, 3) := by decide +kernel
theorem dX3_readFreeThing_28 : decode cX3_readFreeThing 28 = .ok (.invokevirtual 119, 3) := by decide +kernel
theorem dX3_readFreeThing_31 : decode cX3_readFreeThing 31 = .ok (.bipush (-4), 2) := by decide +kernel
theorem dX3_readFreeThing_33 : decode cX3_readFreeThing 33 = .ok (.if_icmp .eq 5, 3) := by decide +kernel
theorem dX3_readFreeThing_36 : decode cX3_readFreeThing 36 = .ok (.iconst (-1), 1) := by decide +kernel
theorem dX3_readFreeThing_37 : decode cX3_readFreeThing 37 = .ok (.ireturn, 1) := by decide +kernel
theorem dX3_readFreeThing_38 : decode cX3_readFreeThing 38 = .ok (.aload_n 0, 1) := by decide +kernel
theorem dX3_readFreeThing_39 : decode cX3_readFreeThing 39 = .ok (.dup, 1) := by decide +kernel
theorem dX3_readFreeThing_40 : decode cX3_readFreeThing 40 = .ok (.getfield 29, 3) := by decide +kernel
theorem dX3_readFreeThing_43 : decode cX3_readFreeThing 43 = .ok (.iconst 1, 1) := by decide +kernel
theorem dX3_readFreeThing_44 : decode cX3_readFreeThing 44 = .ok (.iadd, 1) := by decide +kernel
theorem dX3_readFreeThing_45 : decode cX3_readFreeThing 45 = .ok (.putfield 29, 3) := by decide +kernel
theorem dX3_readFreeThing_48 : decode cX3_readFreeThing 48 = .ok (.iload_n 1, 1) := by decide +kernel
theorem dX3_readFreeThing_49 : decode cX3_readFreeThing 49 = .ok (.ireturn, 1) := by decide +kernel
theorem dX3_isDigit_0 : decode cX3_isDigit 0 = .ok (.iload_n 0, 1) := by decide +kernel
theorem dX3_isDigit_1 : decode cX3_isDigit 1 = .ok (.bipush 48, 2) := by decide +kernel
theorem dX3_isDigit_3 : decode cX3_isDigit 3 = .ok (.if_icmp .lt 13, 3) := by decide +kernel
theorem dX3_isDigit_6 : decode cX3_isDigit 6 = .ok (.iload_n 0, 1) := by decide +kernel
theorem dX3_isDigit_7 : decode cX3_isDigit 7 = .ok (.bipush 57, 2) := by decide +kernel
theorem dX3_isDigit_9 : decode cX3_isDigit 9 = .ok (.if_icmp .gt 7, 3) := by decide +kernel
theorem dX3_isDigit_12 : decode cX3_isDigit 12 = .ok (.iconst 1, 1) := by decide +kernel
theorem dX3_isDigit_13 : decode cX3_isDigit 13 = .ok (.goto 4, 3) := by decide +kernel
theorem dX3_isDigit_16 : decode cX3_isDigit 16 = .ok (.iconst 0, 1) := by decide +kernel
theorem dX3_isDigit_17 : decode cX3_isDigit 17 = .ok (.ireturn, 1) := by decide +kernel
end
section
theorem dX7_init_0 : decode cX7_init 0 = .ok (.aload_n 0, 1) := by decide +kernel
theorem dX7_init_1 : decode cX7_init 1 = .ok (.invokespecial 1, 3) := by decide +kernel
theorem dX7_init_4 : decode cX7_init 4 = .ok (.aload_n 0, 1) := by decide +kernel
theorem dX7_init_5 : decode cX7_init 5 = .ok (.new 7, 3) := by decide +kernel
theorem dX7_init_8 : decode cX7_init 8 = .ok (.dup, 1) := by decide +kernel
theorem dX7_init_9 : decode cX7_init 9 = .ok (.invokespecial 9, 3) := by decide +kernel
theorem dX7_init_12 : decode cX7_init 12 = .ok (.putfield 10, 3) := by decide +kernel
theorem dX7_init_15 : decode cX7_init 15 = .ok (.aload_n 0, 1) := by decide +kernel
theorem dX7_init_16 : decode cX7_init 16 = .ok (.new 7, 3) := by decide +kernel
theorem dX7_init_19 : decode cX7_init 19 = .ok (.dup, 1) := by decide +kernel
theorem dX7_init_20 : decode cX7_init 20 = .ok (.invokespecial 9, 3) := by decide +kernel
theorem dX7_init_23 : decode cX7_init 23 = .ok (.putfield 16, 3) := by decide +kernel
theorem dX7_init_26 : decode cX7_init 26 = .ok (.aload_n 0, 1) := by decide +kernel
theorem dX7_init_27 : decode cX7_init 27 = .ok (.new 19, 3) := by decide +kernel
theorem dX7_init_30 : decode cX7_init 30 = .ok (.dup, 1) := by decide +kernel
theorem dX7_init_31 : decode cX7_init 31 = .ok (.invokespecial 21, 3) := by decide +kernel
theorem dX7_init_34 : decode cX7_init 34 = .ok (.putfield 22, 3) := by decide +kernel
theorem dX7_init_37 : decode cX7_init 37 = .ok (.aload_n 0, 1) := by decide +kernel
theorem dX7_init_38 : decode cX7_init 38 = .ok (.new 26, 3) := by decide +kernel
theorem dX7_init_41 : decode cX7_init 41 = .ok (.dup, 1) := by decide +kernel
theorem dX7_init_42 : decode cX7_init 42 = .ok (.invokespecial 28, 3) := by decide +kernel
theorem dX7_init_45 : decode cX7_init 45 = .ok (.putfield 29, 3) := by decide +kernel
theorem dX7_init_48 : decode cX7_init 48 = .ok (.aload_n 0, 1) := by decide +kernel
theorem dX7_init_49 : decode cX7_init 49 = .ok (.iconst 4, 1) := by decide +kernel
theorem dX7_init_50 : decode cX7_init 50 = .ok (.anewarray 33, 3) := by decide +kernel
theorem dX7_init_53 : decode cX7_init 53 = .ok (.putfield 35, 3) := by decide +kernel
theorem dX7_init_56 : decode cX7_init 56 = .ok (.iconst 0, 1) := by decide +kernel
theorem dX7_init_57 : decode cX7_init 57 = .ok (.istore_n 1, 1) := by decide +kernel
theorem dX7_init_58 : decode cX7_init 58 = .ok (.iload_n 1, 1) := by decide +kernel
theorem dX7_init_59 : decode cX7_init 59 = .ok (.aload_n 0, 1) := by decide +kernel
theorem dX7_init_60 : decode cX7_init 60 = .ok (.getfield 35, 3) := by decide +kernel
theorem dX7_init_63 : decode cX7_init 63 = .ok (.arraylength, 1) := by decide +kernel
theorem dX7_init_64 : decode cX7_init 64 = .ok (.if_icmp .ge 22, 3) := by decide +kernel
theorem dX7_init_67 : decode cX7_init 67 = .ok (.aload_n 0, 1) := by decide +kernel
theorem dX7_init_68 : decode cX7_init 68 = .ok (.getfield 35, 3) := by decide +kernel
theorem dX7_init_71 : decode cX7_init 71 = .ok (.iload_n 1, 1) := by decide +kernel
theorem dX7_init_72 : decode cX7_init 72 = .ok (.new 33, 3) := by decide +kernel
theorem dX7_init_75 : decode cX7_init 75 = .ok (.dup, 1) := by decide +kernel
theorem dX7_init_76 : decode cX7_init 76 = .ok (.invokespecial 39, 3) := by decide +kernel
theorem dX7_init_79 : decode cX7_init 79 = .ok (.aastore, 1) := by decide +kernel
theorem dX7_init_80 : decode cX7_init 80 = .ok (.iinc 1 1, 3) := by decide +kernel
theorem dX7_init_83 : decode cX7_init 83 = .ok (.goto (-25), 3) := by decide +kernel
theorem dX7_init_86 : decode cX7_init 86 = .ok (.return_, 1) := by decide +kernel
theorem dX7_thing_0 : decode cX7_thing 0 = .ok (.iload_n 1, 1) := by decide +kernel
theorem dX7_thing_1 : decode cX7_thing 1 = .ok (.iconst 3, 1) := by decide +kernel
theorem dX7_thing_2 : decode cX7_thing 2 = .ok (.invokestatic 40, 3) := by decide +kernel
theorem dX7_thing_5 : decode cX7_thing 5 = .ok (.ifCond .ne 31, 3) := by decide +kernel
theorem dX7_thing_8 : decode cX7_thing 8 = .ok (.iload_n 2, 1) := by decide +kernel
theorem dX7_thing_9 : decode cX7_thing 9 = .ok (.bipush 99, 2) := by decide +kernel
theorem dX7_thing_11 : decode cX7_thing 11 = .ok (.invokestatic 40, 3) := by decide +kernel
theorem dX7_thing_14 : decode cX7_thing 14 = .ok (.ifCond .ne 22, 3) := by decide +kernel
theorem dX7_thing_17 : decode cX7_thing 17 = .ok (.iload_n 3, 1) := by decide +kernel
theorem dX7_thing_18 : decode cX7_thing 18 = .ok (.bipush 30, 2) := by decide +kernel
theorem dX7_thing_20 : decode cX7_thing 20 = .ok (.invokestatic 40, 3) := by decide +kernel
theorem dX7_thing_23 : decode cX7_thing 23 = .ok (.ifCond .ne 13, 3) := by decide +kernel
theorem dX7_thing_26 : decode cX7_thing 26 = .ok (.iload 4, 2) := by decide +kernel
theorem dX7_thing_28 : decode cX7_thing 28 = .ok (.bipush 30, 2) := by decide +kernel
theorem dX7_thing_30 : decode cX7_thing 30 = .ok (.invokestatic 40, 3) := by decide +kernel
theorem dX7_thing_33 : decode cX7_thing 33 = .ok (.ifCond .eq 5, 3) := by decide +kernel
theorem dX7_thing_36 : decode cX7_thing 36 = .ok (.iconst (-1), 1) := by decide +kernel
theorem dX7_thing_37 : decode cX7_thing 37 = .ok (.ireturn, 1) := by decide +kernel
theorem dX7_thing_38 : decode cX7_thing 38 = .ok (.aload_n 0, 1) := by decide +kernel
theorem dX7_thing_39 : decode cX7_thing 39 = .ok (.getfield 10, 3) := by decide +kernel
theorem dX7_thing_42 : decode cX7_thing 42 = .ok (.getfield 44, 3) := by decide +kernel
theorem dX7_thing_45 : decode cX7_thing 45 = .ok (.getfield 48, 3) := by decide +kernel
theorem dX7_thing_48 : decode cX7_thing 48 = .ok (.bipush 10, 2) := by decide +kernel
theorem dX7_thing_50 : decode cX7_thing 50 = .ok (.if_icmp .lt 6, 3) := by decide +kernel
theorem dX7_thing_53 : decode cX7_thing 53 = .ok (.bipush (-3), 2) := by decide +kernel
theorem dX7_thing_55 : decode cX7_thing 55 = .ok (.ireturn, 1) := by decide +kernel
theorem dX7_thing_56 : decode cX7_thing 56 = .ok (.aload_n 0, 1) := by decide +kernel
theorem dX7_thing_57 : decode cX7_thing 57 = .ok (.getfield 10, 3) := by decide +kernel
theorem dX7_thing_60 : decode cX7_thing 60 = .ok (.iconst 0, 1) := by decide +kernel
theorem dX7_thing_61 : decode cX7_thing 61 = .ok (.putfield 54, 3) := by decide +kernel
theorem dX7_thing_64 : decode cX7_thing 64 = .ok (.aload_n 0, 1) := by decide +kernel
theorem dX7_thing_65 : decode cX7_thing 65 = .ok (.getfield 10, 3) := by decide +kernel
theorem dX7_thing_68 : decode cX7_thing 68 = .ok (.getfield 44, 3) := by decide +kernel
theorem dX7_thing_71 : decode cX7_thing 71 = .ok (.iload_n 1, 1) := by decide +kernel
theorem dX7_thing_72 : decode cX7_thing 72 = .ok (.iload_n 2, 1) := by decide +kernel
theorem dX7_thing_73 : decode cX7_thing 73 = .ok (.iload_n 3, 1) := by decide +kernel
theorem dX7_thing_74 : decode cX7_thing 74 = .ok (.iload 4, 2) := by decide +kernel
theorem dX7_thing_76 : decode cX7_thing 76 = .ok (.invokevirtual 57, 3) := by decide +kernel
theorem dX7_thing_79 : decode cX7_thing 79 = .ok (.ireturn, 1) := by decide +kernel
theorem dX7_of_0 : decode cX7_of 0 = .ok (.aload_n 0, 1) := by decide +kernel
theorem dX7_of_1 : decode cX7_of 1 = .ok (.getfield 10, 3) := by decide +kernel
theorem dX7_of_4 : decode cX7_of 4 = .ok (.getfield 44, 3) := by decide +kernel
theorem dX7_of_7 : decode cX7_of 7 = .ok (.iload_n 1, 1) := by decide +kernel
theorem dX7_of_8 : decode cX7_of 8 = .ok (.invokevirtual 61, 3) := by decide +kernel
theorem dX7_of_11 : decode cX7_of 11 = .ok (.ifCond .ne 5, 3) := by decide +kernel
theorem dX7_of_14 : decode cX7_of 14 = .ok (.iconst (-1), 1) := by decide +kernel
theorem dX7_of_15 : decode cX7_of 15 = .ok (.ireturn, 1) := by decide +kernel
theorem dX7_of_16 : decode cX7_of 16 = .ok (.aload_n 0, 1) := by decide +kernel
theorem dX7_of_17 : decode cX7_of 17 = .ok (.getfield 10, 3) := by decide +kernel
theorem dX7_of_20 : decode cX7_of 20 = .ok (.getfield 44, 3) := by decide +kernel
theorem dX7_of_23 : decode cX7_of 23 = .ok (.getfield 65, 3) := by decide +kernel
theorem dX7_of_26 : decode cX7_of 26 = .ok (.iload_n 1, 1) := by decide +kernel
theorem dX7_of_27 : decode cX7_of 27 = .ok (.aaload, 1) := by decide +kernel
theorem dX7_of_28 : decode cX7_of 28 = .ok (.astore_n 3, 1) := by decide +kernel
theorem dX7_of_29 : decode cX7_of 29 = .ok (.iload_n 2, 1) := by decide +kernel
theorem dX7_of_30 : decode cX7_of 30 = .ok (.tableswitch 73 0 4 #[34, 39, 44, 49, 54], 34) := by decide +kernel
theorem dX7_of_64 : decode cX7_of 64 = .ok (.aload_n 3, 1) := by decide +kernel
theorem dX7_of_65 : decode cX7_of 65 = .ok (.getfield 69, 3) := by decide +kernel
theorem dX7_of_68 : decode cX7_of 68 = .ok (.ireturn, 1) := by decide +kernel
theorem dX7_of_69 : decode cX7_of 69 = .ok (.aload_n 3, 1) := by decide +kernel
theorem dX7_of_70 : decode cX7_of 70 = .ok (.getfield 74, 3) := by decide +kernel
theorem dX7_of_73 : decode cX7_of 73 = .ok (.ireturn, 1) := by decide +kernel
theorem dX7_of_74 : decode cX7_of 74 = .ok (.aload_n 3, 1) := by decide +kernel
theorem dX7_of_75 : decode cX7_of 75 = .ok (.getfield 77, 3) := by decide +kernel
theorem dX7_of_78 : decode cX7_of 78 = .ok (.ireturn, 1) := by decide +kernel
theorem dX7_of_79 : decode cX7_of 79 = .ok (.aload_n 3, 1) := by decide +kernel
theorem dX7_of_80 : decode cX7_of 80 = .ok (.getfield 80, 3) := by decide +kernel
theorem dX7_of_83 : decode cX7_of 83 = .ok (.ireturn, 1) := by decide +kernel
theorem dX7_of_84 : decode cX7_of 84 = .ok (.aload_n 0, 1) := by decide +kernel
theorem dX7_of_85 : decode cX7_of 85 = .ok (.getfield 10, 3) := by decide +kernel
theorem dX7_of_88 : decode cX7_of 88 = .ok (.getfield 44, 3) := by decide +kernel
theorem dX7_of_91 : decode cX7_of 91 = .ok (.iload_n 1, 1) := by decide +kernel
theorem dX7_of_92 : decode cX7_of 92 = .ok (.aload_n 0, 1) := by decide +kernel
theorem dX7_of_93 : decode cX7_of 93 = .ok (.getfield 10, 3) := by decide +kernel
theorem dX7_of_96 : decode cX7_of 96 = .ok (.getfield 83, 3) := by decide +kernel
theorem dX7_of_99 : decode cX7_of 99 = .ok (.invokevirtual 87, 3) := by decide +kernel
theorem dX7_of_102 : decode cX7_of 102 = .ok (.ireturn, 1) := by decide +kernel
theorem dX7_of_103 : decode cX7_of 103 = .ok (.iconst (-1), 1) := by decide +kernel
theorem dX7_of_104 : decode cX7_of 104 = .ok (.ireturn, 1) := by decide +kernel
theorem dX7_felt_0 : decode cX7_felt 0 = .ok (.aload_n 0, 1) := by decide +kernel
theorem dX7_felt_1 : decode cX7_felt 1 = .ok (.getfield 10, 3) := by decide +kernel
theorem dX7_felt_4 : decode cX7_felt 4 = .ok (.getfield 44, 3) := by decide +kernel
theorem dX7_felt_7 : decode cX7_felt 7 = .ok (.iload_n 1, 1) := by decide +kernel
theorem dX7_felt_8 : decode cX7_felt 8 = .ok (.invokevirtual 61, 3) := by decide +kernel
theorem dX7_felt_11 : decode cX7_felt 11 = .ok (.ifCond .eq 20, 3) := by decide +kernel
theorem dX7_felt_14 : decode cX7_felt 14 = .ok (.iload_n 2, 1) := by decide +kernel
theorem dX7_felt_15 : decode cX7_felt 15 = .ok (.bipush 99, 2) := by decide +kernel
theorem dX7_felt_17 : decode cX7_felt 17 = .ok (.invokestatic 40, 3) := by decide +kernel
theorem dX7_felt_20 : decode cX7_felt 20 = .ok (.ifCond .ne 11, 3) := by decide +kernel
theorem dX7_felt_23 : decode cX7_felt 23 = .ok (.iload_n 3, 1) := by decide +kernel
theorem dX7_felt_24 : decode cX7_felt 24 = .ok (.iconst 1, 1) := by decide +kernel
theorem dX7_felt_25 : decode cX7_felt 25 = .ok (.invokestatic 40, 3) := by decide +kernel
theorem dX7_felt_28 : decode cX7_felt 28 = .ok (.ifCond .eq 5, 3) := by decide +kernel
theorem dX7_felt_31 : decode cX7_felt 31 = .ok (.iconst (-1), 1) := by decide +kernel
theorem dX7_felt_32 : decode cX7_felt 32 = .ok (.ireturn, 1) := by decide +kernel
theorem dX7_felt_33 : decode cX7_felt 33 = .ok (.aload_n 0, 1) := by decide +kernel
theorem dX7_felt_34 : decode cX7_felt 34 = .ok (.getfield 10, 3) := by decide +kernel
theorem dX7_felt_37 : decode cX7_felt 37 = .ok (.getfield 44, 3) := by decide +kernel
theorem dX7_felt_40 : decode cX7_felt 40 = .ok (.getfield 65, 3) := by decide +kernel
theorem dX7_felt_43 : decode cX7_felt 43 = .ok (.iload_n 1, 1) := by decide +kernel
theorem dX7_felt_44 : decode cX7_felt 44 = .ok (.aaload, 1) := by decide +kernel
theorem dX7_felt_45 : decode cX7_felt 45 = .ok (.iload_n 3, 1) := by decide +kernel
theorem dX7_felt_46 : decode cX7_felt 46 = .ok (.iload_n 2, 1) := by decide +kernel
theorem dX7_felt_47 : decode cX7_felt 47 = .ok (.invokevirtual 91, 3) := by decide +kernel
theorem dX7_felt_50 : decode cX7_felt 50 = .ok (.ireturn, 1) := by decide +kernel
theorem dX7_person_0 : decode cX7_person 0 = .ok (.iload_n 1, 1) := by decide +kernel
theorem dX7_person_1 : decode cX7_person 1 = .ok (.bipush 11, 2) := by decide +kernel
theorem dX7_person_3 : decode cX7_person 3 = .ok (.invokestatic 40, 3) := by decide +kernel
theorem dX7_person_6 : decode cX7_person 6 = .ok (.ifCond .ne 20, 3) := by decide +kernel
theorem dX7_person_9 : decode cX7_person 9 = .ok (.aload_n 0, 1) := by decide +kernel
theorem dX7_person_10 : decode cX7_person 10 = .ok (.iload_n 2, 1) := by decide +kernel
theorem dX7_person_11 : decode cX7_person 11 = .ok (.invokevirtual 95, 3) := by decide +kernel
theorem dX7_person_14 : decode cX7_person 14 = .ok (.ifCond .ne 12, 3) := by decide +kernel
theorem dX7_person_17 : decode cX7_person 17 = .ok (.iload_n 3, 1) := by decide +kernel
theorem dX7_person_18 : decode cX7_person 18 = .ok (.bipush 20, 2) := by decide +kernel
theorem dX7_person_20 : decode cX7_person 20 = .ok (.invokestatic 40, 3) := by decide +kernel
theorem dX7_person_23 : decode cX7_person 23 = .ok (.ifCond .eq 5, 3) := by decide +kernel
theorem dX7_person_26 : decode cX7_person 26 = .ok (.iconst (-1), 1) := by decide +kernel
theorem dX7_person_27 : decode cX7_person 27 = .ok (.ireturn, 1) := by decide +kernel
theorem dX7_person_28 : decode cX7_person 28 = .ok (.iload_n 2, 1) := by decide +kernel
theorem dX7_person_29 : decode cX7_person 29 = .ok (.bipush (-4), 2) := by decide +kernel
theorem dX7_person_31 : decode cX7_person 31 = .ok (.if_icmp .eq 14, 3) := by decide +kernel
theorem dX7_person_34 : decode cX7_person 34 = .ok (.aload_n 0, 1) := by decide +kernel
theorem dX7_person_35 : decode cX7_person 35 = .ok (.iload_n 2, 1) := by decide +kernel
theorem dX7_person_36 : decode cX7_person 36 = .ok (.invokevirtual 98, 3) := by decide +kernel
theorem dX7_person_39 : decode cX7_person 39 = .ok (.ifCond .eq 6, 3) := by decide +kernel
theorem dX7_person_42 : decode cX7_person 42 = .ok (.bipush (-2), 2) := by decide +kernel
theorem dX7_person_44 : decode cX7_person 44 = .ok (.ireturn, 1) := by decide +kernel
theorem dX7_person_45 : decode cX7_person 45 = .ok (.aload_n 0, 1) := by decide +kernel
theorem dX7_person_46 : decode cX7_person 46 = .ok (.getfield 10, 3) := by decide +kernel
theorem dX7_person_49 : decode cX7_person 49 = .ok (.getfield 44, 3) := by decide +kernel
theorem dX7_person_52 : decode cX7_person 52 = .ok (.getfield 101, 3) := by decide +kernel
theorem dX7_person_55 : decode cX7_person 55 = .ok (.bipush 8, 2) := by decide +kernel
theorem dX7_person_57 : decode cX7_person 57 = .ok (.if_icmp .lt 6, 3) := by decide +kernel
theorem dX7_person_60 : decode cX7_person 60 = .ok (.bipush (-3), 2) := by decide +kernel
theorem dX7_person_62 : decode cX7_person 62 = .ok (.ireturn, 1) := by decide +kernel
theorem dX7_person_63 : decode cX7_person 63 = .ok (.aload_n 0, 1) := by decide +kernel
theorem dX7_person_64 : decode cX7_person 64 = .ok (.getfield 10, 3) := by decide +kernel
theorem dX7_person_67 : decode cX7_person 67 = .ok (.iconst 0, 1) := by decide +kernel
theorem dX7_person_68 : decode cX7_person 68 = .ok (.putfield 54, 3) := by decide +kernel
theorem dX7_person_71 : decode cX7_person 71 = .ok (.aload_n 0, 1) := by decide +kernel
theorem dX7_person_72 : decode cX7_person 72 = .ok (.getfield 10, 3) := by decide +kernel
theorem dX7_person_75 : decode cX7_person 75 = .ok (.getfield 44, 3) := by decide +kernel
theorem dX7_person_78 : decode cX7_person 78 = .ok (.iload_n 1, 1) := by decide +kernel
theorem dX7_person_79 : decode cX7_person 79 = .ok (.iload_n 3, 1) := by decide +kernel
theorem dX7_person_80 : decode cX7_person 80 = .ok (.iload_n 2, 1) := by decide +kernel
theorem dX7_person_81 : decode cX7_person 81 = .ok (.aload_n 0, 1) := by decide +kernel
theorem dX7_person_82 : decode cX7_person 82 = .ok (.getfield 10, 3) := by decide +kernel
theorem dX7_person_85 : decode cX7_person 85 = .ok (.getfield 83, 3) := by decide +kernel
theorem dX7_person_88 : decode cX7_person 88 = .ok (.invokevirtual 104, 3) := by decide +kernel
theorem dX7_person_91 : decode cX7_person 91 = .ok (.ireturn, 1) := by decide +kernel
theorem dX7_told_0 : decode cX7_told 0 = .ok (.aload_n 0, 1) := by decide +kernel
theorem dX7_told_1 : decode cX7_told 1 = .ok (.getfield 10, 3) := by decide +kernel
theorem dX7_told_4 : decode cX7_told 4 = .ok (.getfield 44, 3) := by decide +kernel
theorem dX7_told_7 : decode cX7_told 7 = .ok (.iload_n 1, 1) := by decide +kernel
theorem dX7_told_8 : decode cX7_told 8 = .ok (.invokevirtual 108, 3) := by decide +kernel
theorem dX7_told_11 : decode cX7_told 11 = .ok (.ifCond .ne 5, 3) := by decide +kernel
theorem dX7_told_14 : decode cX7_told 14 = .ok (.iconst (-1), 1) := by decide +kernel
theorem dX7_told_15 : decode cX7_told 15 = .ok (.ireturn, 1) := by decide +kernel
theorem dX7_told_16 : decode cX7_told 16 = .ok (.iload_n 2, 1) := by decide +kernel
theorem dX7_told_17 : decode cX7_told 17 = .ok (.tableswitch 66 0 2 #[27, 40, 53], 27) := by decide +kernel
theorem dX7_told_44 : decode cX7_told 44 = .ok (.aload_n 0, 1) := by decide +kernel
theorem dX7_told_45 : decode cX7_told 45 = .ok (.getfield 10, 3) := by decide +kernel
theorem dX7_told_48 : decode cX7_told 48 = .ok (.getfield 44, 3) := by decide +kernel
theorem dX7_told_51 : decode cX7_told 51 = .ok (.getfield 111, 3) := by decide +kernel
theorem dX7_told_54 : decode cX7_told 54 = .ok (.iload_n 1, 1) := by decide +kernel
theorem dX7_told_55 : decode cX7_told 55 = .ok (.iaload, 1) := by decide +kernel
theorem dX7_told_56 : decode cX7_told 56 = .ok (.ireturn, 1) := by decide +kernel
theorem dX7_told_57 : decode cX7_told 57 = .ok (.aload_n 0, 1) := by decide +kernel
theorem dX7_told_58 : decode cX7_told 58 = .ok (.getfield 10, 3) := by decide +kernel
theorem dX7_told_61 : decode cX7_told 61 = .ok (.getfield 83, 3) := by decide +kernel
theorem dX7_told_64 : decode cX7_told 64 = .ok (.getfield 115, 3) := by decide +kernel
theorem dX7_told_67 : decode cX7_told 67 = .ok (.iload_n 1, 1) := by decide +kernel
theorem dX7_told_68 : decode cX7_told 68 = .ok (.iaload, 1) := by decide +kernel
theorem dX7_told_69 : decode cX7_told 69 = .ok (.ireturn, 1) := by decide +kernel
theorem dX7_told_70 : decode cX7_told 70 = .ok (.aload_n 0, 1) := by decide +kernel
theorem dX7_told_71 : decode cX7_told 71 = .ok (.getfield 10, 3) := by decide +kernel
theorem dX7_told_74 : decode cX7_told 74 = .ok (.getfield 44, 3) := by decide +kernel
theorem dX7_told_77 : decode cX7_told 77 = .ok (.getfield 120, 3) := by decide +kernel
theorem dX7_told_80 : decode cX7_told 80 = .ok (.iload_n 1, 1) := by decide +kernel
theorem dX7_told_81 : decode cX7_told 81 = .ok (.iaload, 1) := by decide +kernel
theorem dX7_told_82 : decode cX7_told 82 = .ok (.ireturn, 1) := by decide +kernel
theorem dX7_told_83 : decode cX7_told 83 = .ok (.iconst (-1), 1) := by decide +kernel
theorem dX7_told_84 : decode cX7_told 84 = .ok (.ireturn, 1) := by decide +kernel
theorem dX7_move_0 : decode cX7_move 0 = .ok (.aload_n 0, 1) := by decide +kernel
theorem dX7_move_1 : decode cX7_move 1 = .ok (.getfield 10, 3) := by decide +kernel
theorem dX7_move_4 : decode cX7_move 4 = .ok (.getfield 44, 3) := by decide +kernel
theorem dX7_move_7 : decode cX7_move 7 = .ok (.iload_n 1, 1) := by decide +kernel
theorem dX7_move_8 : decode cX7_move 8 = .ok (.invokevirtual 108, 3) := by decide +kernel
theorem dX7_move_11 : decode cX7_move 11 = .ok (.ifCond .eq 12, 3) := by decide +kernel
theorem dX7_move_14 : decode cX7_move 14 = .ok (.iload_n 2, 1) := by decide +kernel
theorem dX7_move_15 : decode cX7_move 15 = .ok (.bipush 11, 2) := by decide +kernel
theorem dX7_move_17 : decode cX7_move 17 = .ok (.invokestatic 40, 3) := by decide +kernel
theorem dX7_move_20 : decode cX7_move 20 = .ok (.ifCond .eq 5, 3) := by decide +kernel
theorem dX7_move_23 : decode cX7_move 23 = .ok (.iconst (-1), 1) := by decide +kernel
theorem dX7_move_24 : decode cX7_move 24 = .ok (.ireturn, 1) := by decide +kernel
theorem dX7_move_25 : decode cX7_move 25 = .ok (.aload_n 0, 1) := by decide +kernel
theorem dX7_move_26 : decode cX7_move 26 = .ok (.getfield 10, 3) := by decide +kernel
theorem dX7_move_29 : decode cX7_move 29 = .ok (.getfield 44, 3) := by decide +kernel
theorem dX7_move_32 : decode cX7_move 32 = .ok (.getfield 111, 3) := by decide +kernel
theorem dX7_move_35 : decode cX7_move 35 = .ok (.iload_n 1, 1) := by decide +kernel
theorem dX7_move_36 : decode cX7_move 36 = .ok (.iaload, 1) := by decide +kernel
theorem dX7_move_37 : decode cX7_move 37 = .ok (.istore_n 3, 1) := by decide +kernel
theorem dX7_move_38 : decode cX7_move 38 = .ok (.aload_n 0, 1) := by decide +kernel
theorem dX7_move_39 : decode cX7_move 39 = .ok (.getfield 10, 3) := by decide +kernel
theorem dX7_move_42 : decode cX7_move 42 = .ok (.getfield 44, 3) := by decide +kernel
theorem dX7_move_45 : decode cX7_move 45 = .ok (.getfield 111, 3) := by decide +kernel
theorem dX7_move_48 : decode cX7_move 48 = .ok (.iload_n 1, 1) := by decide +kernel
theorem dX7_move_49 : decode cX7_move 49 = .ok (.iload_n 2, 1) := by decide +kernel
theorem dX7_move_50 : decode cX7_move 50 = .ok (.iastore, 1) := by decide +kernel
theorem dX7_move_51 : decode cX7_move 51 = .ok (.iload_n 3, 1) := by decide +kernel
theorem dX7_move_52 : decode cX7_move 52 = .ok (.ireturn, 1) := by decide +kernel
theorem dX7_take_0 : decode cX7_take 0 = .ok (.aload_n 0, 1) := by decide +kernel
theorem dX7_take_1 : decode cX7_take 1 = .ok (.iload_n 1, 1) := by decide +kernel
theorem dX7_take_2 : decode cX7_take 2 = .ok (.invokevirtual 95, 3) := by decide +kernel
theorem dX7_take_5 : decode cX7_take 5 = .ok (.ifCond .eq 5, 3) := by decide +kernel
theorem dX7_take_8 : decode cX7_take 8 = .ok (.iconst (-1), 1) := by decide +kernel
theorem dX7_take_9 : decode cX7_take 9 = .ok (.ireturn, 1) := by decide +kernel
theorem dX7_take_10 : decode cX7_take 10 = .ok (.aload_n 0, 1) := by decide +kernel
theorem dX7_take_11 : decode cX7_take 11 = .ok (.getfield 10, 3) := by decide +kernel
theorem dX7_take_14 : decode cX7_take 14 = .ok (.getfield 83, 3) := by decide +kernel
theorem dX7_take_17 : decode cX7_take 17 = .ok (.getfield 123, 3) := by decide +kernel
theorem dX7_take_20 : decode cX7_take 20 = .ok (.istore_n 2, 1) := by decide +kernel
theorem dX7_take_21 : decode cX7_take 21 = .ok (.iload_n 1, 1) := by decide +kernel
theorem dX7_take_22 : decode cX7_take 22 = .ok (.bipush (-4), 2) := by decide +kernel
theorem dX7_take_24 : decode cX7_take 24 = .ok (.if_icmp .eq 19, 3) := by decide +kernel
theorem dX7_take_27 : decode cX7_take 27 = .ok (.iload_n 1, 1) := by decide +kernel
theorem dX7_take_28 : decode cX7_take 28 = .ok (.iload_n 2, 1) := by decide +kernel
theorem dX7_take_29 : decode cX7_take 29 = .ok (.if_icmp .eq 14, 3) := by decide +kernel
theorem dX7_take_32 : decode cX7_take 32 = .ok (.aload_n 0, 1) := by decide +kernel
theorem dX7_take_33 : decode cX7_take 33 = .ok (.iload_n 1, 1) := by decide +kernel
theorem dX7_take_34 : decode cX7_take 34 = .ok (.invokevirtual 98, 3) := by decide +kernel
theorem dX7_take_37 : decode cX7_take 37 = .ok (.ifCond .eq 6, 3) := by decide +kernel
theorem dX7_take_40 : decode cX7_take 40 = .ok (.bipush (-2), 2) := by decide +kernel
theorem dX7_take_42 : decode cX7_take 42 = .ok (.ireturn, 1) := by decide +kernel
theorem dX7_take_43 : decode cX7_take 43 = .ok (.aload_n 0, 1) := by decide +kernel
theorem dX7_take_44 : decode cX7_take 44 = .ok (.getfield 10, 3) := by decide +kernel
theorem dX7_take_47 : decode cX7_take 47 = .ok (.getfield 83, 3) := by decide +kernel
theorem dX7_take_50 : decode cX7_take 50 = .ok (.iload_n 1, 1) := by decide +kernel
theorem dX7_take_51 : decode cX7_take 51 = .ok (.invokevirtual 126, 3) := by decide +kernel
theorem dX7_take_54 : decode cX7_take 54 = .ok (.iload_n 2, 1) := by decide +kernel
theorem dX7_take_55 : decode cX7_take 55 = .ok (.ireturn, 1) := by decide +kernel
theorem dX7_count_0 : decode cX7_count 0 = .ok (.iload_n 1, 1) := by decide +kernel
theorem dX7_count_1 : decode cX7_count 1 = .ok (.tableswitch 162 0 9 #[55, 66, 77, 88, 99, 110, 121, 132, 143, 154], 55) := by decide +kernel
theorem dX7_count_56 : decode cX7_count 56 = .ok (.aload_n 0, 1) := by decide +kernel
theorem dX7_count_57 : decode cX7_count 57 = .ok (.getfield 10, 3) := by decide +kernel
theorem dX7_count_60 : decode cX7_count 60 = .ok (.getfield 44, 3) := by decide +kernel
theorem dX7_count_63 : decode cX7_count 63 = .ok (.getfield 48, 3) := by decide +kernel
theorem dX7_count_66 : decode cX7_count 66 = .ok (.ireturn, 1) := by decide +kernel
theorem dX7_count_67 : decode cX7_count 67 = .ok (.aload_n 0, 1) := by decide +kernel
theorem dX7_count_68 : decode cX7_count 68 = .ok (.getfield 10, 3) := by decide +kernel
theorem dX7_count_71 : decode cX7_count 71 = .ok (.getfield 44, 3) := by decide +kernel
theorem dX7_count_74 : decode cX7_count 74 = .ok (.getfield 101, 3) := by decide +kernel
theorem dX7_count_77 : decode cX7_count 77 = .ok (.ireturn, 1) := by decide +kernel
theorem dX7_count_78 : decode cX7_count 78 = .ok (.aload_n 0, 1) := by decide +kernel
theorem dX7_count_79 : decode cX7_count 79 = .ok (.getfield 10, 3) := by decide +kernel
theorem dX7_count_82 : decode cX7_count 82 = .ok (.getfield 83, 3) := by decide +kernel
theorem dX7_count_85 : decode cX7_count 85 = .ok (.getfield 130, 3) := by decide +kernel
theorem dX7_count_88 : decode cX7_count 88 = .ok (.ireturn, 1) := by decide +kernel
theorem dX7_count_89 : decode cX7_count 89 = .ok (.aload_n 0, 1) := by decide +kernel
theorem dX7_count_90 : decode cX7_count 90 = .ok (.getfield 10, 3) := by decide +kernel
theorem dX7_count_93 : decode cX7_count 93 = .ok (.getfield 83, 3) := by decide +kernel
theorem dX7_count_96 : decode cX7_count 96 = .ok (.getfield 123, 3) := by decide +kernel
theorem dX7_count_99 : decode cX7_count 99 = .ok (.ireturn, 1) := by decide +kernel
theorem dX7_count_100 : decode cX7_count 100 = .ok (.aload_n 0, 1) := by decide +kernel
theorem dX7_count_101 : decode cX7_count 101 = .ok (.getfield 10, 3) := by decide +kernel
theorem dX7_count_104 : decode cX7_count 104 = .ok (.getfield 83, 3) := by decide +kernel
theorem dX7_count_107 : decode cX7_count 107 = .ok (.getfield 133, 3) := by decide +kernel
theorem dX7_count_110 : decode cX7_count 110 = .ok (.ireturn, 1) := by decide +kernel
theorem dX7_count_111 : decode cX7_count 111 = .ok (.aload_n 0, 1) := by decide +kernel
theorem dX7_count_112 : decode cX7_count 112 = .ok (.getfield 10, 3) := by decide +kernel
theorem dX7_count_115 : decode cX7_count 115 = .ok (.getfield 83, 3) := by decide +kernel
theorem dX7_count_118 : decode cX7_count 118 = .ok (.getfield 136, 3) := by decide +kernel
theorem dX7_count_121 : decode cX7_count 121 = .ok (.ireturn, 1) := by decide +kernel
theorem dX7_count_122 : decode cX7_count 122 = .ok (.aload_n 0, 1) := by decide +kernel
theorem dX7_count_123 : decode cX7_count 123 = .ok (.getfield 10, 3) := by decide +kernel
theorem dX7_count_126 : decode cX7_count 126 = .ok (.getfield 44, 3) := by decide +kernel
theorem dX7_count_129 : decode cX7_count 129 = .ok (.getfield 139, 3) := by decide +kernel
theorem dX7_count_132 : decode cX7_count 132 = .ok (.ireturn, 1) := by decide +kernel
theorem dX7_count_133 : decode cX7_count 133 = .ok (.aload_n 0, 1) := by decide +kernel
theorem dX7_count_134 : decode cX7_count 134 = .ok (.getfield 10, 3) := by decide +kernel
theorem dX7_count_137 : decode cX7_count 137 = .ok (.getfield 44, 3) := by decide +kernel
theorem dX7_count_140 : decode cX7_count 140 = .ok (.getfield 142, 3) := by decide +kernel
theorem dX7_count_143 : decode cX7_count 143 = .ok (.ireturn, 1) := by decide +kernel
theorem dX7_count_144 : decode cX7_count 144 = .ok (.aload_n 0, 1) := by decide +kernel
theorem dX7_count_145 : decode cX7_count 145 = .ok (.getfield 10, 3) := by decide +kernel
theorem dX7_count_148 : decode cX7_count 148 = .ok (.getfield 83, 3) := by decide +kernel
theorem dX7_count_151 : decode cX7_count 151 = .ok (.getfield 145, 3) := by decide +kernel
theorem dX7_count_154 : decode cX7_count 154 = .ok (.ireturn, 1) := by decide +kernel
theorem dX7_count_155 : decode cX7_count 155 = .ok (.aload_n 0, 1) := by decide +kernel
theorem dX7_count_156 : decode cX7_count 156 = .ok (.getfield 10, 3) := by decide +kernel
theorem dX7_count_159 : decode cX7_count 159 = .ok (.getfield 54, 3) := by decide +kernel
theorem dX7_count_162 : decode cX7_count 162 = .ok (.ireturn, 1) := by decide +kernel
theorem dX7_count_163 : decode cX7_count 163 = .ok (.iconst (-1), 1) := by decide +kernel
theorem dX7_count_164 : decode cX7_count 164 = .ok (.ireturn, 1) := by decide +kernel
theorem dX7_heed_0 : decode cX7_heed 0 = .ok (.iload_n 1, 1) := by decide +kernel
theorem dX7_heed_1 : decode cX7_heed 1 = .ok (.bipush 99, 2) := by decide +kernel
theorem dX7_heed_3 : decode cX7_heed 3 = .ok (.invokestatic 40, 3) := by decide +kernel
theorem dX7_heed_6 : decode cX7_heed 6 = .ok (.ifCond .eq 5, 3) := by decide +kernel
theorem dX7_heed_9 : decode cX7_heed 9 = .ok (.iconst (-1), 1) := by decide +kernel
theorem dX7_heed_10 : decode cX7_heed 10 = .ok (.ireturn, 1) := by decide +kernel
theorem dX7_heed_11 : decode cX7_heed 11 = .ok (.aload_n 0, 1) := by decide +kernel
theorem dX7_heed_12 : decode cX7_heed 12 = .ok (.getfield 10, 3) := by decide +kernel
theorem dX7_heed_15 : decode cX7_heed 15 = .ok (.getfield 44, 3) := by decide +kernel
theorem dX7_heed_18 : decode cX7_heed 18 = .ok (.getfield 139, 3) := by decide +kernel
theorem dX7_heed_21 : decode cX7_heed 21 = .ok (.istore_n 2, 1) := by decide +kernel
theorem dX7_heed_22 : decode cX7_heed 22 = .ok (.aload_n 0, 1) := by decide +kernel
theorem dX7_heed_23 : decode cX7_heed 23 = .ok (.getfield 10, 3) := by decide +kernel
theorem dX7_heed_26 : decode cX7_heed 26 = .ok (.getfield 44, 3) := by decide +kernel
theorem dX7_heed_29 : decode cX7_heed 29 = .ok (.iload_n 1, 1) := by decide +kernel
theorem dX7_heed_30 : decode cX7_heed 30 = .ok (.putfield 139, 3) := by decide +kernel
theorem dX7_heed_33 : decode cX7_heed 33 = .ok (.iload_n 2, 1) := by decide +kernel
theorem dX7_heed_34 : decode cX7_heed 34 = .ok (.ireturn, 1) := by decide +kernel
theorem dX7_well_0 : decode cX7_well 0 = .ok (.iload_n 1, 1) := by decide +kernel
theorem dX7_well_1 : decode cX7_well 1 = .ok (.bipush (-4), 2) := by decide +kernel
theorem dX7_well_3 : decode cX7_well 3 = .ok (.if_icmp .eq 14, 3) := by decide +kernel
theorem dX7_well_6 : decode cX7_well 6 = .ok (.iload_n 1, 1) := by decide +kernel
theorem dX7_well_7 : decode cX7_well 7 = .ok (.bipush 11, 2) := by decide +kernel
theorem dX7_well_9 : decode cX7_well 9 = .ok (.invokestatic 40, 3) := by decide +kernel
theorem dX7_well_12 : decode cX7_well 12 = .ok (.ifCond .eq 5, 3) := by decide +kernel
theorem dX7_well_15 : decode cX7_well 15 = .ok (.iconst (-1), 1) := by decide +kernel
theorem dX7_well_16 : decode cX7_well 16 = .ok (.ireturn, 1) := by decide +kernel
theorem dX7_well_17 : decode cX7_well 17 = .ok (.aload_n 0, 1) := by decide +kernel
theorem dX7_well_18 : decode cX7_well 18 = .ok (.getfield 10, 3) := by decide +kernel
theorem dX7_well_21 : decode cX7_well 21 = .ok (.getfield 44, 3) := by decide +kernel
theorem dX7_well_24 : decode cX7_well 24 = .ok (.getfield 142, 3) := by decide +kernel
theorem dX7_well_27 : decode cX7_well 27 = .ok (.istore_n 2, 1) := by decide +kernel
theorem dX7_well_28 : decode cX7_well 28 = .ok (.aload_n 0, 1) := by decide +kernel
theorem dX7_well_29 : decode cX7_well 29 = .ok (.getfield 10, 3) := by decide +kernel
theorem dX7_well_32 : decode cX7_well 32 = .ok (.getfield 44, 3) := by decide +kernel
theorem dX7_well_35 : decode cX7_well 35 = .ok (.iload_n 1, 1) := by decide +kernel
theorem dX7_well_36 : decode cX7_well 36 = .ok (.putfield 142, 3) := by decide +kernel
theorem dX7_well_39 : decode cX7_well 39 = .ok (.iload_n 2, 1) := by decide +kernel
theorem dX7_well_40 : decode cX7_well 40 = .ok (.ireturn, 1) := by decide +kernel
theorem dX7_type_0 : decode cX7_type 0 = .ok (.iload_n 1, 1) := by decide +kernel
theorem dX7_type_1 : decode cX7_type 1 = .ok (.bipush 32, 2) := by decide +kernel
theorem dX7_type_3 : decode cX7_type 3 = .ok (.if_icmp .lt 9, 3) := by decide +kernel
theorem dX7_type_6 : decode cX7_type 6 = .ok (.iload_n 1, 1) := by decide +kernel
theorem dX7_type_7 : decode cX7_type 7 = .ok (.bipush 126, 2) := by decide +kernel
theorem dX7_type_9 : decode cX7_type 9 = .ok (.if_icmp .le 5, 3) := by decide +kernel
theorem dX7_type_12 : decode cX7_type 12 = .ok (.iconst (-1), 1) := by decide +kernel
theorem dX7_type_13 : decode cX7_type 13 = .ok (.ireturn, 1) := by decide +kernel
theorem dX7_type_14 : decode cX7_type 14 = .ok (.aload_n 0, 1) := by decide +kernel
theorem dX7_type_15 : decode cX7_type 15 = .ok (.getfield 22, 3) := by decide +kernel
theorem dX7_type_18 : decode cX7_type 18 = .ok (.getfield 148, 3) := by decide +kernel
theorem dX7_type_21 : decode cX7_type 21 = .ok (.bipush 120, 2) := by decide +kernel
theorem dX7_type_23 : decode cX7_type 23 = .ok (.if_icmp .lt 6, 3) := by decide +kernel
theorem dX7_type_26 : decode cX7_type 26 = .ok (.bipush (-3), 2) := by decide +kernel
theorem dX7_type_28 : decode cX7_type 28 = .ok (.ireturn, 1) := by decide +kernel
theorem dX7_type_29 : decode cX7_type 29 = .ok (.aload_n 0, 1) := by decide +kernel
theorem dX7_type_30 : decode cX7_type 30 = .ok (.getfield 22, 3) := by decide +kernel
theorem dX7_type_33 : decode cX7_type 33 = .ok (.getfield 151, 3) := by decide +kernel
theorem dX7_type_36 : decode cX7_type 36 = .ok (.aload_n 0, 1) := by decide +kernel
theorem dX7_type_37 : decode cX7_type 37 = .ok (.getfield 22, 3) := by decide +kernel
theorem dX7_type_40 : decode cX7_type 40 = .ok (.getfield 148, 3) := by decide +kernel
theorem dX7_type_43 : decode cX7_type 43 = .ok (.iload_n 1, 1) := by decide +kernel
theorem dX7_type_44 : decode cX7_type 44 = .ok (.i2c, 1) := by decide +kernel
theorem dX7_type_45 : decode cX7_type 45 = .ok (.castore, 1) := by decide +kernel
theorem dX7_type_46 : decode cX7_type 46 = .ok (.aload_n 0, 1) := by decide +kernel
theorem dX7_type_47 : decode cX7_type 47 = .ok (.getfield 22, 3) := by decide +kernel
theorem dX7_type_50 : decode cX7_type 50 = .ok (.dup, 1) := by decide +kernel
theorem dX7_type_51 : decode cX7_type 51 = .ok (.getfield 148, 3) := by decide +kernel
theorem dX7_type_54 : decode cX7_type 54 = .ok (.iconst 1, 1) := by decide +kernel
theorem dX7_type_55 : decode cX7_type 55 = .ok (.iadd, 1) := by decide +kernel
theorem dX7_type_56 : decode cX7_type 56 = .ok (.putfield 148, 3) := by decide +kernel
theorem dX7_type_59 : decode cX7_type 59 = .ok (.aload_n 0, 1) := by decide +kernel
theorem dX7_type_60 : decode cX7_type 60 = .ok (.getfield 22, 3) := by decide +kernel
theorem dX7_type_63 : decode cX7_type 63 = .ok (.getfield 148, 3) := by decide +kernel
theorem dX7_type_66 : decode cX7_type 66 = .ok (.ireturn, 1) := by decide +kernel
theorem dX7_road_0 : decode cX7_road 0 = .ok (.aload_n 0, 1) := by decide +kernel
theorem dX7_road_1 : decode cX7_road 1 = .ok (.getfield 22, 3) := by decide +kernel
theorem dX7_road_4 : decode cX7_road 4 = .ok (.aload_n 0, 1) := by decide +kernel
theorem dX7_road_5 : decode cX7_road 5 = .ok (.getfield 10, 3) := by decide +kernel
theorem dX7_road_8 : decode cX7_road 8 = .ok (.invokevirtual 155, 3) := by decide +kernel
theorem dX7_road_11 : decode cX7_road 11 = .ok (.istore_n 1, 1) := by decide +kernel
theorem dX7_road_12 : decode cX7_road 12 = .ok (.aload_n 0, 1) := by decide +kernel
theorem dX7_road_13 : decode cX7_road 13 = .ok (.getfield 22, 3) := by decide +kernel
theorem dX7_road_16 : decode cX7_road 16 = .ok (.iconst 0, 1) := by decide +kernel
theorem dX7_road_17 : decode cX7_road 17 = .ok (.putfield 148, 3) := by decide +kernel
theorem dX7_road_20 : decode cX7_road 20 = .ok (.iload_n 1, 1) := by decide +kernel
theorem dX7_road_21 : decode cX7_road 21 = .ok (.ifCond .ne 14, 3) := by decide +kernel
theorem dX7_road_24 : decode cX7_road 24 = .ok (.bipush (-20), 2) := by decide +kernel
theorem dX7_road_26 : decode cX7_road 26 = .ok (.aload_n 0, 1) := by decide +kernel
theorem dX7_road_27 : decode cX7_road 27 = .ok (.getfield 22, 3) := by decide +kernel
theorem dX7_road_30 : decode cX7_road 30 = .ok (.getfield 159, 3) := by decide +kernel
theorem dX7_road_33 : decode cX7_road 33 = .ok (.isub, 1) := by decide +kernel
theorem dX7_road_34 : decode cX7_road 34 = .ok (.ireturn, 1) := by decide +kernel
theorem dX7_road_35 : decode cX7_road 35 = .ok (.aload_n 0, 1) := by decide +kernel
theorem dX7_road_36 : decode cX7_road 36 = .ok (.getfield 10, 3) := by decide +kernel
theorem dX7_road_39 : decode cX7_road 39 = .ok (.getfield 44, 3) := by decide +kernel
theorem dX7_road_42 : decode cX7_road 42 = .ok (.aload_n 0, 1) := by decide +kernel
theorem dX7_road_43 : decode cX7_road 43 = .ok (.getfield 22, 3) := by decide +kernel
theorem dX7_road_46 : decode cX7_road 46 = .ok (.getfield 162, 3) := by decide +kernel
theorem dX7_road_49 : decode cX7_road 49 = .ok (.invokevirtual 163, 3) := by decide +kernel
theorem dX7_road_52 : decode cX7_road 52 = .ok (.aload_n 0, 1) := by decide +kernel
theorem dX7_road_53 : decode cX7_road 53 = .ok (.getfield 10, 3) := by decide +kernel
theorem dX7_road_56 : decode cX7_road 56 = .ok (.getfield 83, 3) := by decide +kernel
theorem dX7_road_59 : decode cX7_road 59 = .ok (.aload_n 0, 1) := by decide +kernel
theorem dX7_road_60 : decode cX7_road 60 = .ok (.getfield 22, 3) := by decide +kernel
theorem dX7_road_63 : decode cX7_road 63 = .ok (.getfield 167, 3) := by decide +kernel
theorem dX7_road_66 : decode cX7_road 66 = .ok (.invokevirtual 168, 3) := by decide +kernel
theorem dX7_road_69 : decode cX7_road 69 = .ok (.aload_n 0, 1) := by decide +kernel
theorem dX7_road_70 : decode cX7_road 70 = .ok (.getfield 10, 3) := by decide +kernel
theorem dX7_road_73 : decode cX7_road 73 = .ok (.iconst 0, 1) := by decide +kernel
theorem dX7_road_74 : decode cX7_road 74 = .ok (.putfield 54, 3) := by decide +kernel
theorem dX7_road_77 : decode cX7_road 77 = .ok (.aload_n 0, 1) := by decide +kernel
theorem dX7_road_78 : decode cX7_road 78 = .ok (.getfield 10, 3) := by decide +kernel
theorem dX7_road_81 : decode cX7_road 81 = .ok (.getfield 44, 3) := by decide +kernel
theorem dX7_road_84 : decode cX7_road 84 = .ok (.getfield 48, 3) := by decide +kernel
theorem dX7_road_87 : decode cX7_road 87 = .ok (.ireturn, 1) := by decide +kernel
theorem dX7_go_0 : decode cX7_go 0 = .ok (.aload_n 0, 1) := by decide +kernel
theorem dX7_go_1 : decode cX7_go 1 = .ok (.getfield 10, 3) := by decide +kernel
theorem dX7_go_4 : decode cX7_go 4 = .ok (.getfield 83, 3) := by decide +kernel
theorem dX7_go_7 : decode cX7_go 7 = .ok (.getfield 130, 3) := by decide +kernel
theorem dX7_go_10 : decode cX7_go 10 = .ok (.bipush 12, 2) := by decide +kernel
theorem dX7_go_12 : decode cX7_go 12 = .ok (.if_icmp .lt 6, 3) := by decide +kernel
theorem dX7_go_15 : decode cX7_go 15 = .ok (.bipush (-2), 2) := by decide +kernel
theorem dX7_go_17 : decode cX7_go 17 = .ok (.ireturn, 1) := by decide +kernel
theorem dX7_go_18 : decode cX7_go 18 = .ok (.aload_n 0, 1) := by decide +kernel
theorem dX7_go_19 : decode cX7_go 19 = .ok (.getfield 10, 3) := by decide +kernel
theorem dX7_go_22 : decode cX7_go 22 = .ok (.invokevirtual 171, 3) := by decide +kernel
theorem dX7_go_25 : decode cX7_go 25 = .ok (.aload_n 0, 1) := by decide +kernel
theorem dX7_go_26 : decode cX7_go 26 = .ok (.getfield 10, 3) := by decide +kernel
theorem dX7_go_29 : decode cX7_go 29 = .ok (.getfield 44, 3) := by decide +kernel
theorem dX7_go_32 : decode cX7_go 32 = .ok (.aload_n 0, 1) := by decide +kernel
theorem dX7_go_33 : decode cX7_go 33 = .ok (.getfield 10, 3) := by decide +kernel
theorem dX7_go_36 : decode cX7_go 36 = .ok (.getfield 83, 3) := by decide +kernel
theorem dX7_go_39 : decode cX7_go 39 = .ok (.iconst 1, 1) := by decide +kernel
theorem dX7_go_40 : decode cX7_go 40 = .ok (.invokevirtual 174, 3) := by decide +kernel
theorem dX7_go_43 : decode cX7_go 43 = .ok (.ireturn, 1) := by decide +kernel
theorem dX7_undo_0 : decode cX7_undo 0 = .ok (.aload_n 0, 1) := by decide +kernel
theorem dX7_undo_1 : decode cX7_undo 1 = .ok (.getfield 10, 3) := by decide +kernel
theorem dX7_undo_4 : decode cX7_undo 4 = .ok (.getfield 54, 3) := by decide +kernel
theorem dX7_undo_7 : decode cX7_undo 7 = .ok (.ifCond .gt 6, 3) := by decide +kernel
theorem dX7_undo_10 : decode cX7_undo 10 = .ok (.bipush (-4), 2) := by decide +kernel
theorem dX7_undo_12 : decode cX7_undo 12 = .ok (.ireturn, 1) := by decide +kernel
theorem dX7_undo_13 : decode cX7_undo 13 = .ok (.aload_n 0, 1) := by decide +kernel
theorem dX7_undo_14 : decode cX7_undo 14 = .ok (.getfield 10, 3) := by decide +kernel
theorem dX7_undo_17 : decode cX7_undo 17 = .ok (.invokevirtual 178, 3) := by decide +kernel
theorem dX7_undo_20 : decode cX7_undo 20 = .ok (.aload_n 0, 1) := by decide +kernel
theorem dX7_undo_21 : decode cX7_undo 21 = .ok (.getfield 10, 3) := by decide +kernel
theorem dX7_undo_24 : decode cX7_undo 24 = .ok (.getfield 54, 3) := by decide +kernel
theorem dX7_undo_27 : decode cX7_undo 27 = .ok (.ireturn, 1) := by decide +kernel
theorem dX7_again_0 : decode cX7_again 0 = .ok (.aload_n 0, 1) := by decide +kernel
theorem dX7_again_1 : decode cX7_again 1 = .ok (.getfield 10, 3) := by decide +kernel
theorem dX7_again_4 : decode cX7_again 4 = .ok (.getfield 83, 3) := by decide +kernel
theorem dX7_again_7 : decode cX7_again 7 = .ok (.getfield 130, 3) := by decide +kernel
theorem dX7_again_10 : decode cX7_again 10 = .ok (.istore_n 1, 1) := by decide +kernel
theorem dX7_again_11 : decode cX7_again 11 = .ok (.aload_n 0, 1) := by decide +kernel
theorem dX7_again_12 : decode cX7_again 12 = .ok (.getfield 10, 3) := by decide +kernel
theorem dX7_again_15 : decode cX7_again 15 = .ok (.getfield 83, 3) := by decide +kernel
theorem dX7_again_18 : decode cX7_again 18 = .ok (.iconst 0, 1) := by decide +kernel
theorem dX7_again_19 : decode cX7_again 19 = .ok (.putfield 130, 3) := by decide +kernel
theorem dX7_again_22 : decode cX7_again 22 = .ok (.iload_n 1, 1) := by decide +kernel
theorem dX7_again_23 : decode cX7_again 23 = .ok (.ireturn, 1) := by decide +kernel
theorem dX7_glad_0 : decode cX7_glad 0 = .ok (.aload_n 0, 1) := by decide +kernel
theorem dX7_glad_1 : decode cX7_glad 1 = .ok (.getfield 10, 3) := by decide +kernel
theorem dX7_glad_4 : decode cX7_glad 4 = .ok (.getfield 44, 3) := by decide +kernel
theorem dX7_glad_7 : decode cX7_glad 7 = .ok (.iload_n 1, 1) := by decide +kernel
theorem dX7_glad_8 : decode cX7_glad 8 = .ok (.invokevirtual 61, 3) := by decide +kernel
theorem dX7_glad_11 : decode cX7_glad 11 = .ok (.ifCond .ne 5, 3) := by decide +kernel
theorem dX7_glad_14 : decode cX7_glad 14 = .ok (.iconst (-1), 1) := by decide +kernel
theorem dX7_glad_15 : decode cX7_glad 15 = .ok (.ireturn, 1) := by decide +kernel
theorem dX7_glad_16 : decode cX7_glad 16 = .ok (.aload_n 0, 1) := by decide +kernel
theorem dX7_glad_17 : decode cX7_glad 17 = .ok (.getfield 10, 3) := by decide +kernel
theorem dX7_glad_20 : decode cX7_glad 20 = .ok (.getfield 83, 3) := by decide +kernel
theorem dX7_glad_23 : decode cX7_glad 23 = .ok (.getfield 123, 3) := by decide +kernel
theorem dX7_glad_26 : decode cX7_glad 26 = .ok (.bipush (-4), 2) := by decide +kernel
theorem dX7_glad_28 : decode cX7_glad 28 = .ok (.if_icmp .eq 17, 3) := by decide +kernel
theorem dX7_glad_31 : decode cX7_glad 31 = .ok (.aload_n 0, 1) := by decide +kernel
theorem dX7_glad_32 : decode cX7_glad 32 = .ok (.getfield 10, 3) := by decide +kernel
theorem dX7_glad_35 : decode cX7_glad 35 = .ok (.getfield 83, 3) := by decide +kernel
theorem dX7_glad_38 : decode cX7_glad 38 = .ok (.getfield 123, 3) := by decide +kernel
theorem dX7_glad_41 : decode cX7_glad 41 = .ok (.iload_n 1, 1) := by decide +kernel
theorem dX7_glad_42 : decode cX7_glad 42 = .ok (.if_icmp .ne 6, 3) := by decide +kernel
theorem dX7_glad_45 : decode cX7_glad 45 = .ok (.bipush (-2), 2) := by decide +kernel
theorem dX7_glad_47 : decode cX7_glad 47 = .ok (.ireturn, 1) := by decide +kernel
theorem dX7_glad_48 : decode cX7_glad 48 = .ok (.aload_n 0, 1) := by decide +kernel
theorem dX7_glad_49 : decode cX7_glad 49 = .ok (.getfield 10, 3) := by decide +kernel
theorem dX7_glad_52 : decode cX7_glad 52 = .ok (.getfield 44, 3) := by decide +kernel
theorem dX7_glad_55 : decode cX7_glad 55 = .ok (.aload_n 0, 1) := by decide +kernel
theorem dX7_glad_56 : decode cX7_glad 56 = .ok (.getfield 10, 3) := by decide +kernel
theorem dX7_glad_59 : decode cX7_glad 59 = .ok (.getfield 83, 3) := by decide +kernel
theorem dX7_glad_62 : decode cX7_glad 62 = .ok (.iload_n 1, 1) := by decide +kernel
theorem dX7_glad_63 : decode cX7_glad 63 = .ok (.aload_n 0, 1) := by decide +kernel
theorem dX7_glad_64 : decode cX7_glad 64 = .ok (.getfield 10, 3) := by decide +kernel
theorem dX7_glad_67 : decode cX7_glad 67 = .ok (.getfield 44, 3) := by decide +kernel
theorem dX7_glad_70 : decode cX7_glad 70 = .ok (.getfield 139, 3) := by decide +kernel
theorem dX7_glad_73 : decode cX7_glad 73 = .ok (.iconst 1, 1) := by decide +kernel
theorem dX7_glad_74 : decode cX7_glad 74 = .ok (.invokevirtual 181, 3) := by decide +kernel
theorem dX7_glad_77 : decode cX7_glad 77 = .ok (.ifCond .eq 7, 3) := by decide +kernel
theorem dX7_glad_80 : decode cX7_glad 80 = .ok (.iconst 1, 1) := by decide +kernel
theorem dX7_glad_81 : decode cX7_glad 81 = .ok (.goto 4, 3) := by decide +kernel
theorem dX7_glad_84 : decode cX7_glad 84 = .ok (.iconst 0, 1) := by decide +kernel
theorem dX7_glad_85 : decode cX7_glad 85 = .ok (.ireturn, 1) := by decide +kernel
theorem dX7_home_0 : decode cX7_home 0 = .ok (.iload_n 1, 1) := by decide +kernel
theorem dX7_home_1 : decode cX7_home 1 = .ok (.iconst 2, 1) := by decide +kernel
theorem dX7_home_2 : decode cX7_home 2 = .ok (.invokestatic 40, 3) := by decide +kernel
theorem dX7_home_5 : decode cX7_home 5 = .ok (.ifCond .eq 5, 3) := by decide +kernel
theorem dX7_home_8 : decode cX7_home 8 = .ok (.iconst (-1), 1) := by decide +kernel
theorem dX7_home_9 : decode cX7_home 9 = .ok (.ireturn, 1) := by decide +kernel
theorem dX7_home_10 : decode cX7_home 10 = .ok (.aload_n 0, 1) := by decide +kernel
theorem dX7_home_11 : decode cX7_home 11 = .ok (.getfield 29, 3) := by decide +kernel
theorem dX7_home_14 : decode cX7_home 14 = .ok (.aload_n 0, 1) := by decide +kernel
theorem dX7_home_15 : decode cX7_home 15 = .ok (.getfield 10, 3) := by decide +kernel
theorem dX7_home_18 : decode cX7_home 18 = .ok (.invokevirtual 185, 3) := by decide +kernel
theorem dX7_home_21 : decode cX7_home 21 = .ok (.astore_n 2, 1) := by decide +kernel
theorem dX7_home_22 : decode cX7_home 22 = .ok (.iload_n 1, 1) := by decide +kernel
theorem dX7_home_23 : decode cX7_home 23 = .ok (.lookupswitch 46 #[(0, 25), (1, 30)], 25) := by decide +kernel
theorem dX7_home_48 : decode cX7_home 48 = .ok (.aload_n 2, 1) := by decide +kernel
theorem dX7_home_49 : decode cX7_home 49 = .ok (.getfield 123, 3) := by decide +kernel
theorem dX7_home_52 : decode cX7_home 52 = .ok (.ireturn, 1) := by decide +kernel
theorem dX7_home_53 : decode cX7_home 53 = .ok (.aload_n 2, 1) := by decide +kernel
theorem dX7_home_54 : decode cX7_home 54 = .ok (.getfield 145, 3) := by decide +kernel
theorem dX7_home_57 : decode cX7_home 57 = .ok (.aload_n 0, 1) := by decide +kernel
theorem dX7_home_58 : decode cX7_home 58 = .ok (.getfield 10, 3) := by decide +kernel
theorem dX7_home_61 : decode cX7_home 61 = .ok (.getfield 83, 3) := by decide +kernel
theorem dX7_home_64 : decode cX7_home 64 = .ok (.getfield 145, 3) := by decide +kernel
theorem dX7_home_67 : decode cX7_home 67 = .ok (.isub, 1) := by decide +kernel
theorem dX7_home_68 : decode cX7_home 68 = .ok (.ireturn, 1) := by decide +kernel
theorem dX7_home_69 : decode cX7_home 69 = .ok (.aload_n 2, 1) := by decide +kernel
theorem dX7_home_70 : decode cX7_home 70 = .ok (.getfield 189, 3) := by decide +kernel
theorem dX7_home_73 : decode cX7_home 73 = .ok (.ireturn, 1) := by decide +kernel
theorem dX7_lost_0 : decode cX7_lost 0 = .ok (.aload_n 0, 1) := by decide +kernel
theorem dX7_lost_1 : decode cX7_lost 1 = .ok (.getfield 10, 3) := by decide +kernel
theorem dX7_lost_4 : decode cX7_lost 4 = .ok (.getfield 44, 3) := by decide +kernel
theorem dX7_lost_7 : decode cX7_lost 7 = .ok (.aload_n 0, 1) := by decide +kernel
theorem dX7_lost_8 : decode cX7_lost 8 = .ok (.getfield 10, 3) := by decide +kernel
theorem dX7_lost_11 : decode cX7_lost 11 = .ok (.getfield 83, 3) := by decide +kernel
theorem dX7_lost_14 : decode cX7_lost 14 = .ok (.getfield 123, 3) := by decide +kernel
theorem dX7_lost_17 : decode cX7_lost 17 = .ok (.invokevirtual 192, 3) := by decide +kernel
theorem dX7_lost_20 : decode cX7_lost 20 = .ok (.aload_n 0, 1) := by decide +kernel
theorem dX7_lost_21 : decode cX7_lost 21 = .ok (.getfield 10, 3) := by decide +kernel
theorem dX7_lost_24 : decode cX7_lost 24 = .ok (.getfield 44, 3) := by decide +kernel
theorem dX7_lost_27 : decode cX7_lost 27 = .ok (.aload_n 0, 1) := by decide +kernel
theorem dX7_lost_28 : decode cX7_lost 28 = .ok (.getfield 29, 3) := by decide +kernel
theorem dX7_lost_31 : decode cX7_lost 31 = .ok (.aload_n 0, 1) := by decide +kernel
theorem dX7_lost_32 : decode cX7_lost 32 = .ok (.getfield 10, 3) := by decide +kernel
theorem dX7_lost_35 : decode cX7_lost 35 = .ok (.invokevirtual 185, 3) := by decide +kernel
theorem dX7_lost_38 : decode cX7_lost 38 = .ok (.getfield 123, 3) := by decide +kernel
theorem dX7_lost_41 : decode cX7_lost 41 = .ok (.invokevirtual 192, 3) := by decide +kernel
theorem dX7_lost_44 : decode cX7_lost 44 = .ok (.isub, 1) := by decide +kernel
theorem dX7_lost_45 : decode cX7_lost 45 = .ok (.ireturn, 1) := by decide +kernel
theorem dX7_lurk_0 : decode cX7_lurk 0 = .ok (.aload_n 0, 1) := by decide +kernel
theorem dX7_lurk_1 : decode cX7_lurk 1 = .ok (.getfield 10, 3) := by decide +kernel
theorem dX7_lurk_4 : decode cX7_lurk 4 = .ok (.getfield 44, 3) := by decide +kernel
theorem dX7_lurk_7 : decode cX7_lurk 7 = .ok (.iload_n 1, 1) := by decide +kernel
theorem dX7_lurk_8 : decode cX7_lurk 8 = .ok (.invokevirtual 61, 3) := by decide +kernel
theorem dX7_lurk_11 : decode cX7_lurk 11 = .ok (.ifCond .eq 11, 3) := by decide +kernel
theorem dX7_lurk_14 : decode cX7_lurk 14 = .ok (.iload_n 2, 1) := by decide +kernel
theorem dX7_lurk_15 : decode cX7_lurk 15 = .ok (.iconst 1, 1) := by decide +kernel
theorem dX7_lurk_16 : decode cX7_lurk 16 = .ok (.invokestatic 40, 3) := by decide +kernel
theorem dX7_lurk_19 : decode cX7_lurk 19 = .ok (.ifCond .eq 5, 3) := by decide +kernel
theorem dX7_lurk_22 : decode cX7_lurk 22 = .ok (.iconst (-1), 1) := by decide +kernel
theorem dX7_lurk_23 : decode cX7_lurk 23 = .ok (.ireturn, 1) := by decide +kernel
theorem dX7_lurk_24 : decode cX7_lurk 24 = .ok (.aload_n 0, 1) := by decide +kernel
theorem dX7_lurk_25 : decode cX7_lurk 25 = .ok (.iload_n 1, 1) := by decide +kernel
theorem dX7_lurk_26 : decode cX7_lurk 26 = .ok (.invokevirtual 98, 3) := by decide +kernel
theorem dX7_lurk_29 : decode cX7_lurk 29 = .ok (.ifCond .ne 6, 3) := by decide +kernel
theorem dX7_lurk_32 : decode cX7_lurk 32 = .ok (.bipush (-2), 2) := by decide +kernel
theorem dX7_lurk_34 : decode cX7_lurk 34 = .ok (.ireturn, 1) := by decide +kernel
theorem dX7_lurk_35 : decode cX7_lurk 35 = .ok (.aload_n 0, 1) := by decide +kernel
theorem dX7_lurk_36 : decode cX7_lurk 36 = .ok (.getfield 29, 3) := by decide +kernel
theorem dX7_lurk_39 : decode cX7_lurk 39 = .ok (.iload_n 1, 1) := by decide +kernel
theorem dX7_lurk_40 : decode cX7_lurk 40 = .ok (.aload_n 0, 1) := by decide +kernel
theorem dX7_lurk_41 : decode cX7_lurk 41 = .ok (.getfield 10, 3) := by decide +kernel
theorem dX7_lurk_44 : decode cX7_lurk 44 = .ok (.invokevirtual 196, 3) := by decide +kernel
theorem dX7_lurk_47 : decode cX7_lurk 47 = .ok (.istore_n 3, 1) := by decide +kernel
theorem dX7_lurk_48 : decode cX7_lurk 48 = .ok (.iload_n 3, 1) := by decide +kernel
theorem dX7_lurk_49 : decode cX7_lurk 49 = .ok (.bipush (-4), 2) := by decide +kernel
theorem dX7_lurk_51 : decode cX7_lurk 51 = .ok (.if_icmp .ne 6, 3) := by decide +kernel
theorem dX7_lurk_54 : decode cX7_lurk 54 = .ok (.bipush (-4), 2) := by decide +kernel
theorem dX7_lurk_56 : decode cX7_lurk 56 = .ok (.ireturn, 1) := by decide +kernel
theorem dX7_lurk_57 : decode cX7_lurk 57 = .ok (.iload_n 2, 1) := by decide +kernel
theorem dX7_lurk_58 : decode cX7_lurk 58 = .ok (.ifCond .ne 7, 3) := by decide +kernel
theorem dX7_lurk_61 : decode cX7_lurk 61 = .ok (.iload_n 3, 1) := by decide +kernel
theorem dX7_lurk_62 : decode cX7_lurk 62 = .ok (.goto 10, 3) := by decide +kernel
theorem dX7_lurk_65 : decode cX7_lurk 65 = .ok (.aload_n 0, 1) := by decide +kernel
theorem dX7_lurk_66 : decode cX7_lurk 66 = .ok (.getfield 29, 3) := by decide +kernel
theorem dX7_lurk_69 : decode cX7_lurk 69 = .ok (.getfield 200, 3) := by decide +kernel
theorem dX7_lurk_72 : decode cX7_lurk 72 = .ok (.ireturn, 1) := by decide +kernel
theorem dX7_stand_0 : decode cX7_stand 0 = .ok (.aload_n 0, 1) := by decide +kernel
theorem dX7_stand_1 : decode cX7_stand 1 = .ok (.getfield 10, 3) := by decide +kernel
theorem dX7_stand_4 : decode cX7_stand 4 = .ok (.getfield 44, 3) := by decide +kernel
theorem dX7_stand_7 : decode cX7_stand 7 = .ok (.iload_n 1, 1) := by decide +kernel
theorem dX7_stand_8 : decode cX7_stand 8 = .ok (.invokevirtual 108, 3) := by decide +kernel
theorem dX7_stand_11 : decode cX7_stand 11 = .ok (.ifCond .eq 11, 3) := by decide +kernel
theorem dX7_stand_14 : decode cX7_stand 14 = .ok (.iload_n 2, 1) := by decide +kernel
theorem dX7_stand_15 : decode cX7_stand 15 = .ok (.iconst 1, 1) := by decide +kernel
theorem dX7_stand_16 : decode cX7_stand 16 = .ok (.invokestatic 40, 3) := by decide +kernel
theorem dX7_stand_19 : decode cX7_stand 19 = .ok (.ifCond .eq 5, 3) := by decide +kernel
theorem dX7_stand_22 : decode cX7_stand 22 = .ok (.iconst (-1), 1) := by decide +kernel
theorem dX7_stand_23 : decode cX7_stand 23 = .ok (.ireturn, 1) := by decide +kernel
theorem dX7_stand_24 : decode cX7_stand 24 = .ok (.aload_n 0, 1) := by decide +kernel
theorem dX7_stand_25 : decode cX7_stand 25 = .ok (.getfield 10, 3) := by decide +kernel
theorem dX7_stand_28 : decode cX7_stand 28 = .ok (.getfield 83, 3) := by decide +kernel
theorem dX7_stand_31 : decode cX7_stand 31 = .ok (.getfield 130, 3) := by decide +kernel
theorem dX7_stand_34 : decode cX7_stand 34 = .ok (.bipush 12, 2) := by decide +kernel
theorem dX7_stand_36 : decode cX7_stand 36 = .ok (.if_icmp .lt 6, 3) := by decide +kernel
theorem dX7_stand_39 : decode cX7_stand 39 = .ok (.bipush (-2), 2) := by decide +kernel
theorem dX7_stand_41 : decode cX7_stand 41 = .ok (.ireturn, 1) := by decide +kernel
theorem dX7_stand_42 : decode cX7_stand 42 = .ok (.aload_n 0, 1) := by decide +kernel
theorem dX7_stand_43 : decode cX7_stand 43 = .ok (.getfield 29, 3) := by decide +kernel
theorem dX7_stand_46 : decode cX7_stand 46 = .ok (.iload_n 1, 1) := by decide +kernel
theorem dX7_stand_47 : decode cX7_stand 47 = .ok (.aload_n 0, 1) := by decide +kernel
theorem dX7_stand_48 : decode cX7_stand 48 = .ok (.getfield 10, 3) := by decide +kernel
theorem dX7_stand_51 : decode cX7_stand 51 = .ok (.invokevirtual 203, 3) := by decide +kernel
theorem dX7_stand_54 : decode cX7_stand 54 = .ok (.istore_n 3, 1) := by decide +kernel
theorem dX7_stand_55 : decode cX7_stand 55 = .ok (.iload_n 2, 1) := by decide +kernel
theorem dX7_stand_56 : decode cX7_stand 56 = .ok (.ifCond .ne 13, 3) := by decide +kernel
theorem dX7_stand_59 : decode cX7_stand 59 = .ok (.aload_n 0, 1) := by decide +kernel
theorem dX7_stand_60 : decode cX7_stand 60 = .ok (.getfield 29, 3) := by decide +kernel
theorem dX7_stand_63 : decode cX7_stand 63 = .ok (.getfield 200, 3) := by decide +kernel
theorem dX7_stand_66 : decode cX7_stand 66 = .ok (.goto 4, 3) := by decide +kernel
theorem dX7_stand_69 : decode cX7_stand 69 = .ok (.iload_n 3, 1) := by decide +kernel
theorem dX7_stand_70 : decode cX7_stand 70 = .ok (.ireturn, 1) := by decide +kernel
theorem dX7_sister_0 : decode cX7_sister 0 = .ok (.aload_n 0, 1) := by decide +kernel
theorem dX7_sister_1 : decode cX7_sister 1 = .ok (.getfield 10, 3) := by decide +kernel
theorem dX7_sister_4 : decode cX7_sister 4 = .ok (.getfield 44, 3) := by decide +kernel
theorem dX7_sister_7 : decode cX7_sister 7 = .ok (.iload_n 1, 1) := by decide +kernel
theorem dX7_sister_8 : decode cX7_sister 8 = .ok (.invokevirtual 61, 3) := by decide +kernel
theorem dX7_sister_11 : decode cX7_sister 11 = .ok (.ifCond .eq 11, 3) := by decide +kernel
theorem dX7_sister_14 : decode cX7_sister 14 = .ok (.iload_n 2, 1) := by decide +kernel
theorem dX7_sister_15 : decode cX7_sister 15 = .ok (.iconst 1, 1) := by decide +kernel
theorem dX7_sister_16 : decode cX7_sister 16 = .ok (.invokestatic 40, 3) := by decide +kernel
theorem dX7_sister_19 : decode cX7_sister 19 = .ok (.ifCond .eq 5, 3) := by decide +kernel
theorem dX7_sister_22 : decode cX7_sister 22 = .ok (.iconst (-1), 1) := by decide +kernel
theorem dX7_sister_23 : decode cX7_sister 23 = .ok (.ireturn, 1) := by decide +kernel
theorem dX7_sister_24 : decode cX7_sister 24 = .ok (.aload_n 0, 1) := by decide +kernel
theorem dX7_sister_25 : decode cX7_sister 25 = .ok (.getfield 10, 3) := by decide +kernel
theorem dX7_sister_28 : decode cX7_sister 28 = .ok (.getfield 44, 3) := by decide +kernel
theorem dX7_sister_31 : decode cX7_sister 31 = .ok (.iload_n 1, 1) := by decide +kernel
theorem dX7_sister_32 : decode cX7_sister 32 = .ok (.aload_n 0, 1) := by decide +kernel
theorem dX7_sister_33 : decode cX7_sister 33 = .ok (.getfield 29, 3) := by decide +kernel
theorem dX7_sister_36 : decode cX7_sister 36 = .ok (.aload_n 0, 1) := by decide +kernel
theorem dX7_sister_37 : decode cX7_sister 37 = .ok (.getfield 10, 3) := by decide +kernel
theorem dX7_sister_40 : decode cX7_sister 40 = .ok (.invokevirtual 185, 3) := by decide +kernel
theorem dX7_sister_43 : decode cX7_sister 43 = .ok (.invokevirtual 87, 3) := by decide +kernel
theorem dX7_sister_46 : decode cX7_sister 46 = .ok (.bipush (-4), 2) := by decide +kernel
theorem dX7_sister_48 : decode cX7_sister 48 = .ok (.if_icmp .eq 6, 3) := by decide +kernel
theorem dX7_sister_51 : decode cX7_sister 51 = .ok (.bipush (-2), 2) := by decide +kernel
theorem dX7_sister_53 : decode cX7_sister 53 = .ok (.ireturn, 1) := by decide +kernel
theorem dX7_sister_54 : decode cX7_sister 54 = .ok (.iload_n 2, 1) := by decide +kernel
theorem dX7_sister_55 : decode cX7_sister 55 = .ok (.ifCond .ne 17, 3) := by decide +kernel
theorem dX7_sister_58 : decode cX7_sister 58 = .ok (.aload_n 0, 1) := by decide +kernel
theorem dX7_sister_59 : decode cX7_sister 59 = .ok (.getfield 10, 3) := by decide +kernel
theorem dX7_sister_62 : decode cX7_sister 62 = .ok (.getfield 44, 3) := by decide +kernel
theorem dX7_sister_65 : decode cX7_sister 65 = .ok (.iload_n 1, 1) := by decide +kernel
theorem dX7_sister_66 : decode cX7_sister 66 = .ok (.invokevirtual 192, 3) := by decide +kernel
theorem dX7_sister_69 : decode cX7_sister 69 = .ok (.goto 4, 3) := by decide +kernel
theorem dX7_sister_72 : decode cX7_sister 72 = .ok (.iconst 0, 1) := by decide +kernel
theorem dX7_sister_73 : decode cX7_sister 73 = .ok (.ireturn, 1) := by decide +kernel
theorem dX7_meet_0 : decode cX7_meet 0 = .ok (.aload_n 0, 1) := by decide +kernel
theorem dX7_meet_1 : decode cX7_meet 1 = .ok (.getfield 10, 3) := by decide +kernel
theorem dX7_meet_4 : decode cX7_meet 4 = .ok (.getfield 44, 3) := by decide +kernel
theorem dX7_meet_7 : decode cX7_meet 7 = .ok (.iload_n 1, 1) := by decide +kernel
theorem dX7_meet_8 : decode cX7_meet 8 = .ok (.invokevirtual 61, 3) := by decide +kernel
theorem dX7_meet_11 : decode cX7_meet 11 = .ok (.ifCond .eq 11, 3) := by decide +kernel
theorem dX7_meet_14 : decode cX7_meet 14 = .ok (.iload_n 2, 1) := by decide +kernel
theorem dX7_meet_15 : decode cX7_meet 15 = .ok (.iconst 2, 1) := by decide +kernel
theorem dX7_meet_16 : decode cX7_meet 16 = .ok (.invokestatic 40, 3) := by decide +kernel
theorem dX7_meet_19 : decode cX7_meet 19 = .ok (.ifCond .eq 5, 3) := by decide +kernel
theorem dX7_meet_22 : decode cX7_meet 22 = .ok (.iconst (-1), 1) := by decide +kernel
theorem dX7_meet_23 : decode cX7_meet 23 = .ok (.ireturn, 1) := by decide +kernel
theorem dX7_meet_24 : decode cX7_meet 24 = .ok (.aload_n 0, 1) := by decide +kernel
theorem dX7_meet_25 : decode cX7_meet 25 = .ok (.iload_n 1, 1) := by decide +kernel
theorem dX7_meet_26 : decode cX7_meet 26 = .ok (.invokevirtual 98, 3) := by decide +kernel
theorem dX7_meet_29 : decode cX7_meet 29 = .ok (.ifCond .ne 18, 3) := by decide +kernel
theorem dX7_meet_32 : decode cX7_meet 32 = .ok (.aload_n 0, 1) := by decide +kernel
theorem dX7_meet_33 : decode cX7_meet 33 = .ok (.getfield 10, 3) := by decide +kernel
theorem dX7_meet_36 : decode cX7_meet 36 = .ok (.getfield 83, 3) := by decide +kernel
theorem dX7_meet_39 : decode cX7_meet 39 = .ok (.getfield 123, 3) := by decide +kernel
theorem dX7_meet_42 : decode cX7_meet 42 = .ok (.bipush (-4), 2) := by decide +kernel
theorem dX7_meet_44 : decode cX7_meet 44 = .ok (.if_icmp .ne 6, 3) := by decide +kernel
theorem dX7_meet_47 : decode cX7_meet 47 = .ok (.bipush (-2), 2) := by decide +kernel
theorem dX7_meet_49 : decode cX7_meet 49 = .ok (.ireturn, 1) := by decide +kernel
theorem dX7_meet_50 : decode cX7_meet 50 = .ok (.aload_n 0, 1) := by decide +kernel
theorem dX7_meet_51 : decode cX7_meet 51 = .ok (.getfield 29, 3) := by decide +kernel
theorem dX7_meet_54 : decode cX7_meet 54 = .ok (.iload_n 1, 1) := by decide +kernel
theorem dX7_meet_55 : decode cX7_meet 55 = .ok (.aload_n 0, 1) := by decide +kernel
theorem dX7_meet_56 : decode cX7_meet 56 = .ok (.getfield 10, 3) := by decide +kernel
theorem dX7_meet_59 : decode cX7_meet 59 = .ok (.invokevirtual 206, 3) := by decide +kernel
theorem dX7_meet_62 : decode cX7_meet 62 = .ok (.istore_n 3, 1) := by decide +kernel
theorem dX7_meet_63 : decode cX7_meet 63 = .ok (.iload_n 3, 1) := by decide +kernel
theorem dX7_meet_64 : decode cX7_meet 64 = .ok (.bipush (-4), 2) := by decide +kernel
theorem dX7_meet_66 : decode cX7_meet 66 = .ok (.if_icmp .eq 7, 3) := by decide +kernel
theorem dX7_meet_69 : decode cX7_meet 69 = .ok (.iload_n 2, 1) := by decide +kernel
theorem dX7_meet_70 : decode cX7_meet 70 = .ok (.ifCond .ne 5, 3) := by decide +kernel
theorem dX7_meet_73 : decode cX7_meet 73 = .ok (.iload_n 3, 1) := by decide +kernel
theorem dX7_meet_74 : decode cX7_meet 74 = .ok (.ireturn, 1) := by decide +kernel
theorem dX7_meet_75 : decode cX7_meet 75 = .ok (.iload_n 2, 1) := by decide +kernel
theorem dX7_meet_76 : decode cX7_meet 76 = .ok (.iconst 1, 1) := by decide +kernel
theorem dX7_meet_77 : decode cX7_meet 77 = .ok (.if_icmp .ne 16, 3) := by decide +kernel
theorem dX7_meet_80 : decode cX7_meet 80 = .ok (.aload_n 0, 1) := by decide +kernel
theorem dX7_meet_81 : decode cX7_meet 81 = .ok (.getfield 29, 3) := by decide +kernel
theorem dX7_meet_84 : decode cX7_meet 84 = .ok (.getfield 209, 3) := by decide +kernel
theorem dX7_meet_87 : decode cX7_meet 87 = .ok (.getfield 123, 3) := by decide +kernel
theorem dX7_meet_90 : decode cX7_meet 90 = .ok (.goto 13, 3) := by decide +kernel
theorem dX7_meet_93 : decode cX7_meet 93 = .ok (.aload_n 0, 1) := by decide +kernel
theorem dX7_meet_94 : decode cX7_meet 94 = .ok (.getfield 29, 3) := by decide +kernel
theorem dX7_meet_97 : decode cX7_meet 97 = .ok (.getfield 210, 3) := by decide +kernel
theorem dX7_meet_100 : decode cX7_meet 100 = .ok (.getfield 123, 3) := by decide +kernel
theorem dX7_meet_103 : decode cX7_meet 103 = .ok (.ireturn, 1) := by decide +kernel
theorem dX7_first_0 : decode cX7_first 0 = .ok (.aload_n 0, 1) := by decide +kernel
theorem dX7_first_1 : decode cX7_first 1 = .ok (.getfield 10, 3) := by decide +kernel
theorem dX7_first_4 : decode cX7_first 4 = .ok (.getfield 44, 3) := by decide +kernel
theorem dX7_first_7 : decode cX7_first 7 = .ok (.iload_n 1, 1) := by decide +kernel
theorem dX7_first_8 : decode cX7_first 8 = .ok (.invokevirtual 61, 3) := by decide +kernel
theorem dX7_first_11 : decode cX7_first 11 = .ok (.ifCond .eq 18, 3) := by decide +kernel
theorem dX7_first_14 : decode cX7_first 14 = .ok (.aload_n 0, 1) := by decide +kernel
theorem dX7_first_15 : decode cX7_first 15 = .ok (.getfield 29, 3) := by decide +kernel
theorem dX7_first_18 : decode cX7_first 18 = .ok (.iload_n 1, 1) := by decide +kernel
theorem dX7_first_19 : decode cX7_first 19 = .ok (.aload_n 0, 1) := by decide +kernel
theorem dX7_first_20 : decode cX7_first 20 = .ok (.getfield 10, 3) := by decide +kernel
theorem dX7_first_23 : decode cX7_first 23 = .ok (.invokevirtual 213, 3) := by decide +kernel
theorem dX7_first_26 : decode cX7_first 26 = .ok (.goto 4, 3) := by decide +kernel
theorem dX7_first_29 : decode cX7_first 29 = .ok (.iconst (-1), 1) := by decide +kernel
theorem dX7_first_30 : decode cX7_first 30 = .ok (.ireturn, 1) := by decide +kernel
theorem dX7_cheated_0 : decode cX7_cheated 0 = .ok (.iload_n 1, 1) := by decide +kernel
theorem dX7_cheated_1 : decode cX7_cheated 1 = .ok (.bipush (-99), 2) := by decide +kernel
theorem dX7_cheated_3 : decode cX7_cheated 3 = .ok (.if_icmp .lt 9, 3) := by decide +kernel
theorem dX7_cheated_6 : decode cX7_cheated 6 = .ok (.iload_n 1, 1) := by decide +kernel
theorem dX7_cheated_7 : decode cX7_cheated 7 = .ok (.bipush 99, 2) := by decide +kernel
theorem dX7_cheated_9 : decode cX7_cheated 9 = .ok (.if_icmp .le 5, 3) := by decide +kernel
theorem dX7_cheated_12 : decode cX7_cheated 12 = .ok (.iconst (-1), 1) := by decide +kernel
theorem dX7_cheated_13 : decode cX7_cheated 13 = .ok (.ireturn, 1) := by decide +kernel
theorem dX7_cheated_14 : decode cX7_cheated 14 = .ok (.aload_n 0, 1) := by decide +kernel
theorem dX7_cheated_15 : decode cX7_cheated 15 = .ok (.getfield 29, 3) := by decide +kernel
theorem dX7_cheated_18 : decode cX7_cheated 18 = .ok (.iload_n 1, 1) := by decide +kernel
theorem dX7_cheated_19 : decode cX7_cheated 19 = .ok (.aload_n 0, 1) := by decide +kernel
theorem dX7_cheated_20 : decode cX7_cheated 20 = .ok (.getfield 10, 3) := by decide +kernel
theorem dX7_cheated_23 : decode cX7_cheated 23 = .ok (.invokevirtual 216, 3) := by decide +kernel
theorem dX7_cheated_26 : decode cX7_cheated 26 = .ok (.ireturn, 1) := by decide +kernel
theorem dX7_chance_0 : decode cX7_chance 0 = .ok (.aload_n 0, 1) := by decide +kernel
theorem dX7_chance_1 : decode cX7_chance 1 = .ok (.iload_n 1, 1) := by decide +kernel
theorem dX7_chance_2 : decode cX7_chance 2 = .ok (.invokevirtual 95, 3) := by decide +kernel
theorem dX7_chance_5 : decode cX7_chance 5 = .ok (.ifCond .ne 11, 3) := by decide +kernel
theorem dX7_chance_8 : decode cX7_chance 8 = .ok (.iload_n 2, 1) := by decide +kernel
theorem dX7_chance_9 : decode cX7_chance 9 = .ok (.iconst 1, 1) := by decide +kernel
theorem dX7_chance_10 : decode cX7_chance 10 = .ok (.invokestatic 40, 3) := by decide +kernel
theorem dX7_chance_13 : decode cX7_chance 13 = .ok (.ifCond .eq 5, 3) := by decide +kernel
theorem dX7_chance_16 : decode cX7_chance 16 = .ok (.iconst (-1), 1) := by decide +kernel
theorem dX7_chance_17 : decode cX7_chance 17 = .ok (.ireturn, 1) := by decide +kernel
theorem dX7_chance_18 : decode cX7_chance 18 = .ok (.bipush 12, 2) := by decide +kernel
theorem dX7_chance_20 : decode cX7_chance 20 = .ok (.aload_n 0, 1) := by decide +kernel
theorem dX7_chance_21 : decode cX7_chance 21 = .ok (.getfield 10, 3) := by decide +kernel
theorem dX7_chance_24 : decode cX7_chance 24 = .ok (.getfield 83, 3) := by decide +kernel
theorem dX7_chance_27 : decode cX7_chance 27 = .ok (.getfield 130, 3) := by decide +kernel
theorem dX7_chance_30 : decode cX7_chance 30 = .ok (.isub, 1) := by decide +kernel
theorem dX7_chance_31 : decode cX7_chance 31 = .ok (.istore_n 3, 1) := by decide +kernel
theorem dX7_chance_32 : decode cX7_chance 32 = .ok (.iload_n 3, 1) := by decide +kernel
theorem dX7_chance_33 : decode cX7_chance 33 = .ok (.bipush 10, 2) := by decide +kernel
theorem dX7_chance_35 : decode cX7_chance 35 = .ok (.if_icmp .le 6, 3) := by decide +kernel
theorem dX7_chance_38 : decode cX7_chance 38 = .ok (.bipush (-3), 2) := by decide +kernel
theorem dX7_chance_40 : decode cX7_chance 40 = .ok (.ireturn, 1) := by decide +kernel
theorem dX7_chance_41 : decode cX7_chance 41 = .ok (.aload_n 0, 1) := by decide +kernel
theorem dX7_chance_42 : decode cX7_chance 42 = .ok (.getfield 29, 3) := by decide +kernel
theorem dX7_chance_45 : decode cX7_chance 45 = .ok (.iload_n 1, 1) := by decide +kernel
theorem dX7_chance_46 : decode cX7_chance 46 = .ok (.aload_n 0, 1) := by decide +kernel
theorem dX7_chance_47 : decode cX7_chance 47 = .ok (.getfield 10, 3) := by decide +kernel
theorem dX7_chance_50 : decode cX7_chance 50 = .ok (.invokevirtual 219, 3) := by decide +kernel
theorem dX7_chance_53 : decode cX7_chance 53 = .ok (.istore 4, 2) := by decide +kernel
theorem dX7_chance_55 : decode cX7_chance 55 = .ok (.iconst 1, 1) := by decide +kernel
theorem dX7_chance_56 : decode cX7_chance 56 = .ok (.iload_n 3, 1) := by decide +kernel
theorem dX7_chance_57 : decode cX7_chance 57 = .ok (.ishl, 1) := by decide +kernel
theorem dX7_chance_58 : decode cX7_chance 58 = .ok (.istore 5, 2) := by decide +kernel
theorem dX7_chance_60 : decode cX7_chance 60 = .ok (.iload 5, 2) := by decide +kernel
theorem dX7_chance_62 : decode cX7_chance 62 = .ok (.iconst 1, 1) := by decide +kernel
theorem dX7_chance_63 : decode cX7_chance 63 = .ok (.if_icmp .le 25, 3) := by decide +kernel
theorem dX7_chance_66 : decode cX7_chance 66 = .ok (.iload 4, 2) := by decide +kernel
theorem dX7_chance_68 : decode cX7_chance 68 = .ok (.iconst 2, 1) := by decide +kernel
theorem dX7_chance_69 : decode cX7_chance 69 = .ok (.irem, 1) := by decide +kernel
theorem dX7_chance_70 : decode cX7_chance 70 = .ok (.ifCond .ne 18, 3) := by decide +kernel
theorem dX7_chance_73 : decode cX7_chance 73 = .ok (.iload 4, 2) := by decide +kernel
theorem dX7_chance_75 : decode cX7_chance 75 = .ok (.iconst 2, 1) := by decide +kernel
theorem dX7_chance_76 : decode cX7_chance 76 = .ok (.idiv, 1) := by decide +kernel
theorem dX7_chance_77 : decode cX7_chance 77 = .ok (.istore 4, 2) := by decide +kernel
theorem dX7_chance_79 : decode cX7_chance 79 = .ok (.iload 5, 2) := by decide +kernel
theorem dX7_chance_81 : decode cX7_chance 81 = .ok (.iconst 2, 1) := by decide +kernel
theorem dX7_chance_82 : decode cX7_chance 82 = .ok (.idiv, 1) := by decide +kernel
theorem dX7_chance_83 : decode cX7_chance 83 = .ok (.istore 5, 2) := by decide +kernel
theorem dX7_chance_85 : decode cX7_chance 85 = .ok (.goto (-25), 3) := by decide +kernel
theorem dX7_chance_88 : decode cX7_chance 88 = .ok (.iload_n 2, 1) := by decide +kernel
theorem dX7_chance_89 : decode cX7_chance 89 = .ok (.ifCond .ne 8, 3) := by decide +kernel
theorem dX7_chance_92 : decode cX7_chance 92 = .ok (.iload 4, 2) := by decide +kernel
theorem dX7_chance_94 : decode cX7_chance 94 = .ok (.goto 5, 3) := by decide +kernel
theorem dX7_chance_97 : decode cX7_chance 97 = .ok (.iload 5, 2) := by decide +kernel
theorem dX7_chance_99 : decode cX7_chance 99 = .ok (.ireturn, 1) := by decide +kernel
theorem dX7_image_0 : decode cX7_image 0 = .ok (.aload_n 0, 1) := by decide +kernel
theorem dX7_image_1 : decode cX7_image 1 = .ok (.getfield 16, 3) := by decide +kernel
theorem dX7_image_4 : decode cX7_image 4 = .ok (.aload_n 0, 1) := by decide +kernel
theorem dX7_image_5 : decode cX7_image 5 = .ok (.getfield 10, 3) := by decide +kernel
theorem dX7_image_8 : decode cX7_image 8 = .ok (.invokevirtual 222, 3) := by decide +kernel
theorem dX7_image_11 : decode cX7_image 11 = .ok (.aload_n 0, 1) := by decide +kernel
theorem dX7_image_12 : decode cX7_image 12 = .ok (.iconst 1, 1) := by decide +kernel
theorem dX7_image_13 : decode cX7_image 13 = .ok (.putfield 225, 3) := by decide +kernel
theorem dX7_image_16 : decode cX7_image 16 = .ok (.iconst 1, 1) := by decide +kernel
theorem dX7_image_17 : decode cX7_image 17 = .ok (.ireturn, 1) := by decide +kernel
theorem dX7_restore_0 : decode cX7_restore 0 = .ok (.aload_n 0, 1) := by decide +kernel
theorem dX7_restore_1 : decode cX7_restore 1 = .ok (.getfield 225, 3) := by decide +kernel
theorem dX7_restore_4 : decode cX7_restore 4 = .ok (.ifCond .ne 6, 3) := by decide +kernel
theorem dX7_restore_7 : decode cX7_restore 7 = .ok (.bipush (-4), 2) := by decide +kernel
theorem dX7_restore_9 : decode cX7_restore 9 = .ok (.ireturn, 1) := by decide +kernel
theorem dX7_restore_10 : decode cX7_restore 10 = .ok (.aload_n 0, 1) := by decide +kernel
theorem dX7_restore_11 : decode cX7_restore 11 = .ok (.getfield 10, 3) := by decide +kernel
theorem dX7_restore_14 : decode cX7_restore 14 = .ok (.aload_n 0, 1) := by decide +kernel
theorem dX7_restore_15 : decode cX7_restore 15 = .ok (.getfield 16, 3) := by decide +kernel
theorem dX7_restore_18 : decode cX7_restore 18 = .ok (.invokevirtual 222, 3) := by decide +kernel
theorem dX7_restore_21 : decode cX7_restore 21 = .ok (.iconst 1, 1) := by decide +kernel
theorem dX7_restore_22 : decode cX7_restore 22 = .ok (.ireturn, 1) := by decide +kernel
theorem dX7_seen_0 : decode cX7_seen 0 = .ok (.iload 4, 2) := by decide +kernel
theorem dX7_seen_2 : decode cX7_seen 2 = .ok (.iconst 1, 1) := by decide +kernel
theorem dX7_seen_3 : decode cX7_seen 3 = .ok (.if_icmp .lt 10, 3) := by decide +kernel
theorem dX7_seen_6 : decode cX7_seen 6 = .ok (.iload 4, 2) := by decide +kernel
theorem dX7_seen_8 : decode cX7_seen 8 = .ok (.bipush 8, 2) := by decide +kernel
theorem dX7_seen_10 : decode cX7_seen 10 = .ok (.if_icmp .le 5, 3) := by decide +kernel
theorem dX7_seen_13 : decode cX7_seen 13 = .ok (.iconst (-1), 1) := by decide +kernel
theorem dX7_seen_14 : decode cX7_seen 14 = .ok (.ireturn, 1) := by decide +kernel
theorem dX7_seen_15 : decode cX7_seen 15 = .ok (.aload_n 0, 1) := by decide +kernel
theorem dX7_seen_16 : decode cX7_seen 16 = .ok (.iload_n 1, 1) := by decide +kernel
theorem dX7_seen_17 : decode cX7_seen 17 = .ok (.iload_n 2, 1) := by decide +kernel
theorem dX7_seen_18 : decode cX7_seen 18 = .ok (.iload_n 3, 1) := by decide +kernel
theorem dX7_seen_19 : decode cX7_seen 19 = .ok (.iconst 2, 1) := by decide +kernel
theorem dX7_seen_20 : decode cX7_seen 20 = .ok (.iload 4, 2) := by decide +kernel
theorem dX7_seen_22 : decode cX7_seen 22 = .ok (.imul, 1) := by decide +kernel
theorem dX7_seen_23 : decode cX7_seen 23 = .ok (.invokevirtual 229, 3) := by decide +kernel
theorem dX7_seen_26 : decode cX7_seen 26 = .ok (.istore 5, 2) := by decide +kernel
theorem dX7_seen_28 : decode cX7_seen 28 = .ok (.iload 5, 2) := by decide +kernel
theorem dX7_seen_30 : decode cX7_seen 30 = .ok (.ifCond .ge 6, 3) := by decide +kernel
theorem dX7_seen_33 : decode cX7_seen 33 = .ok (.iload 5, 2) := by decide +kernel
theorem dX7_seen_35 : decode cX7_seen 35 = .ok (.ireturn, 1) := by decide +kernel
theorem dX7_seen_36 : decode cX7_seen 36 = .ok (.aload_n 0, 1) := by decide +kernel
theorem dX7_seen_37 : decode cX7_seen 37 = .ok (.getfield 35, 3) := by decide +kernel
theorem dX7_seen_40 : decode cX7_seen 40 = .ok (.iload_n 1, 1) := by decide +kernel
theorem dX7_seen_41 : decode cX7_seen 41 = .ok (.aaload, 1) := by decide +kernel
theorem dX7_seen_42 : decode cX7_seen 42 = .ok (.getfield 232, 3) := by decide +kernel
theorem dX7_seen_45 : decode cX7_seen 45 = .ok (.astore 6, 2) := by decide +kernel
theorem dX7_seen_47 : decode cX7_seen 47 = .ok (.iload_n 3, 1) := by decide +kernel
theorem dX7_seen_48 : decode cX7_seen 48 = .ok (.istore 7, 2) := by decide +kernel
theorem dX7_seen_50 : decode cX7_seen 50 = .ok (.iload 7, 2) := by decide +kernel
theorem dX7_seen_52 : decode cX7_seen 52 = .ok (.iload_n 3, 1) := by decide +kernel
theorem dX7_seen_53 : decode cX7_seen 53 = .ok (.iconst 2, 1) := by decide +kernel
theorem dX7_seen_54 : decode cX7_seen 54 = .ok (.iload 4, 2) := by decide +kernel
theorem dX7_seen_56 : decode cX7_seen 56 = .ok (.imul, 1) := by decide +kernel
theorem dX7_seen_57 : decode cX7_seen 57 = .ok (.iadd, 1) := by decide +kernel
theorem dX7_seen_58 : decode cX7_seen 58 = .ok (.if_icmp .ge 42, 3) := by decide +kernel
theorem dX7_seen_61 : decode cX7_seen 61 = .ok (.aload 6, 2) := by decide +kernel
theorem dX7_seen_63 : decode cX7_seen 63 = .ok (.iload 7, 2) := by decide +kernel
theorem dX7_seen_65 : decode cX7_seen 65 = .ok (.laload, 1) := by decide +kernel
theorem dX7_seen_66 : decode cX7_seen 66 = .ok (.lconst 0, 1) := by decide +kernel
theorem dX7_seen_67 : decode cX7_seen 67 = .ok (.lcmp, 1) := by decide +kernel
theorem dX7_seen_68 : decode cX7_seen 68 = .ok (.ifCond .lt 23, 3) := by decide +kernel
theorem dX7_seen_71 : decode cX7_seen 71 = .ok (.aload 6, 2) := by decide +kernel
theorem dX7_seen_73 : decode cX7_seen 73 = .ok (.iload 7, 2) := by decide +kernel
theorem dX7_seen_75 : decode cX7_seen 75 = .ok (.laload, 1) := by decide +kernel
theorem dX7_seen_76 : decode cX7_seen 76 = .ok (.aload_n 0, 1) := by decide +kernel
theorem dX7_seen_77 : decode cX7_seen 77 = .ok (.getfield 10, 3) := by decide +kernel
theorem dX7_seen_80 : decode cX7_seen 80 = .ok (.getfield 44, 3) := by decide +kernel
theorem dX7_seen_83 : decode cX7_seen 83 = .ok (.getfield 48, 3) := by decide +kernel
theorem dX7_seen_86 : decode cX7_seen 86 = .ok (.i2l, 1) := by decide +kernel
theorem dX7_seen_87 : decode cX7_seen 87 = .ok (.lcmp, 1) := by decide +kernel
theorem dX7_seen_88 : decode cX7_seen 88 = .ok (.ifCond .lt 6, 3) := by decide +kernel
theorem dX7_seen_91 : decode cX7_seen 91 = .ok (.bipush (-2), 2) := by decide +kernel
theorem dX7_seen_93 : decode cX7_seen 93 = .ok (.ireturn, 1) := by decide +kernel
theorem dX7_seen_94 : decode cX7_seen 94 = .ok (.iinc 7 1, 3) := by decide +kernel
theorem dX7_seen_97 : decode cX7_seen 97 = .ok (.goto (-47), 3) := by decide +kernel
theorem dX7_seen_100 : decode cX7_seen 100 = .ok (.iconst 3, 1) := by decide +kernel
theorem dX7_seen_101 : decode cX7_seen 101 = .ok (.istore 7, 2) := by decide +kernel
theorem dX7_seen_103 : decode cX7_seen 103 = .ok (.iload_n 3, 1) := by decide +kernel
theorem dX7_seen_104 : decode cX7_seen 104 = .ok (.istore 8, 2) := by decide +kernel
theorem dX7_seen_106 : decode cX7_seen 106 = .ok (.iload 8, 2) := by decide +kernel
theorem dX7_seen_108 : decode cX7_seen 108 = .ok (.iload_n 3, 1) := by decide +kernel
theorem dX7_seen_109 : decode cX7_seen 109 = .ok (.iconst 2, 1) := by decide +kernel
theorem dX7_seen_110 : decode cX7_seen 110 = .ok (.iload 4, 2) := by decide +kernel
theorem dX7_seen_112 : decode cX7_seen 112 = .ok (.imul, 1) := by decide +kernel
theorem dX7_seen_113 : decode cX7_seen 113 = .ok (.iadd, 1) := by decide +kernel
theorem dX7_seen_114 : decode cX7_seen 114 = .ok (.if_icmp .ge 38, 3) := by decide +kernel
theorem dX7_seen_117 : decode cX7_seen 117 = .ok (.iload 7, 2) := by decide +kernel
theorem dX7_seen_119 : decode cX7_seen 119 = .ok (.aload_n 0, 1) := by decide +kernel
theorem dX7_seen_120 : decode cX7_seen 120 = .ok (.getfield 10, 3) := by decide +kernel
theorem dX7_seen_123 : decode cX7_seen 123 = .ok (.getfield 44, 3) := by decide +kernel
theorem dX7_seen_126 : decode cX7_seen 126 = .ok (.aload 6, 2) := by decide +kernel
theorem dX7_seen_128 : decode cX7_seen 128 = .ok (.iload 8, 2) := by decide +kernel
theorem dX7_seen_130 : decode cX7_seen 130 = .ok (.laload, 1) := by decide +kernel
theorem dX7_seen_131 : decode cX7_seen 131 = .ok (.l2i, 1) := by decide +kernel
theorem dX7_seen_132 : decode cX7_seen 132 = .ok (.aload 6, 2) := by decide +kernel
theorem dX7_seen_134 : decode cX7_seen 134 = .ok (.iload 8, 2) := by decide +kernel
theorem dX7_seen_136 : decode cX7_seen 136 = .ok (.iconst 1, 1) := by decide +kernel
theorem dX7_seen_137 : decode cX7_seen 137 = .ok (.iadd, 1) := by decide +kernel
theorem dX7_seen_138 : decode cX7_seen 138 = .ok (.laload, 1) := by decide +kernel
theorem dX7_seen_139 : decode cX7_seen 139 = .ok (.l2i, 1) := by decide +kernel
theorem dX7_seen_140 : decode cX7_seen 140 = .ok (.invokevirtual 236, 3) := by decide +kernel
theorem dX7_seen_143 : decode cX7_seen 143 = .ok (.iand, 1) := by decide +kernel
theorem dX7_seen_144 : decode cX7_seen 144 = .ok (.istore 7, 2) := by decide +kernel
theorem dX7_seen_146 : decode cX7_seen 146 = .ok (.iinc 8 2, 3) := by decide +kernel
theorem dX7_seen_149 : decode cX7_seen 149 = .ok (.goto (-43), 3) := by decide +kernel
theorem dX7_seen_152 : decode cX7_seen 152 = .ok (.iload 7, 2) := by decide +kernel
theorem dX7_seen_154 : decode cX7_seen 154 = .ok (.ireturn, 1) := by decide +kernel
theorem dX7_film_0 : decode cX7_film 0 = .ok (.bipush 12, 2) := by decide +kernel
theorem dX7_film_2 : decode cX7_film 2 = .ok (.aload_n 0, 1) := by decide +kernel
theorem dX7_film_3 : decode cX7_film 3 = .ok (.getfield 10, 3) := by decide +kernel
theorem dX7_film_6 : decode cX7_film 6 = .ok (.getfield 83, 3) := by decide +kernel
theorem dX7_film_9 : decode cX7_film 9 = .ok (.getfield 130, 3) := by decide +kernel
theorem dX7_film_12 : decode cX7_film 12 = .ok (.isub, 1) := by decide +kernel
theorem dX7_film_13 : decode cX7_film 13 = .ok (.istore 4, 2) := by decide +kernel
theorem dX7_film_15 : decode cX7_film 15 = .ok (.aload_n 0, 1) := by decide +kernel
theorem dX7_film_16 : decode cX7_film 16 = .ok (.iload_n 1, 1) := by decide +kernel
theorem dX7_film_17 : decode cX7_film 17 = .ok (.iload_n 2, 1) := by decide +kernel
theorem dX7_film_18 : decode cX7_film 18 = .ok (.iload_n 3, 1) := by decide +kernel
theorem dX7_film_19 : decode cX7_film 19 = .ok (.iload 4, 2) := by decide +kernel
theorem dX7_film_21 : decode cX7_film 21 = .ok (.invokevirtual 229, 3) := by decide +kernel
theorem dX7_film_24 : decode cX7_film 24 = .ok (.istore 5, 2) := by decide +kernel
theorem dX7_film_26 : decode cX7_film 26 = .ok (.iload 5, 2) := by decide +kernel
theorem dX7_film_28 : decode cX7_film 28 = .ok (.ifCond .ge 6, 3) := by decide +kernel
theorem dX7_film_31 : decode cX7_film 31 = .ok (.iload 5, 2) := by decide +kernel
theorem dX7_film_33 : decode cX7_film 33 = .ok (.ireturn, 1) := by decide +kernel
theorem dX7_film_34 : decode cX7_film 34 = .ok (.aload_n 0, 1) := by decide +kernel
theorem dX7_film_35 : decode cX7_film 35 = .ok (.getfield 29, 3) := by decide +kernel
theorem dX7_film_38 : decode cX7_film 38 = .ok (.aload_n 0, 1) := by decide +kernel
theorem dX7_film_39 : decode cX7_film 39 = .ok (.getfield 10, 3) := by decide +kernel
theorem dX7_film_42 : decode cX7_film 42 = .ok (.invokevirtual 239, 3) := by decide +kernel
theorem dX7_film_45 : decode cX7_film 45 = .ok (.iload_n 3, 1) := by decide +kernel
theorem dX7_film_46 : decode cX7_film 46 = .ok (.istore 6, 2) := by decide +kernel
theorem dX7_film_48 : decode cX7_film 48 = .ok (.iload 6, 2) := by decide +kernel
theorem dX7_film_50 : decode cX7_film 50 = .ok (.iload_n 3, 1) := by decide +kernel
theorem dX7_film_51 : decode cX7_film 51 = .ok (.iload 4, 2) := by decide +kernel
theorem dX7_film_53 : decode cX7_film 53 = .ok (.iadd, 1) := by decide +kernel
theorem dX7_film_54 : decode cX7_film 54 = .ok (.if_icmp .ge 50, 3) := by decide +kernel
theorem dX7_film_57 : decode cX7_film 57 = .ok (.aload_n 0, 1) := by decide +kernel
theorem dX7_film_58 : decode cX7_film 58 = .ok (.getfield 29, 3) := by decide +kernel
theorem dX7_film_61 : decode cX7_film 61 = .ok (.getfield 242, 3) := by decide +kernel
theorem dX7_film_64 : decode cX7_film 64 = .ok (.aload_n 0, 1) := by decide +kernel
theorem dX7_film_65 : decode cX7_film 65 = .ok (.getfield 29, 3) := by decide +kernel
theorem dX7_film_68 : decode cX7_film 68 = .ok (.getfield 209, 3) := by decide +kernel
theorem dX7_film_71 : decode cX7_film 71 = .ok (.iconst 1, 1) := by decide +kernel
theorem dX7_film_72 : decode cX7_film 72 = .ok (.invokevirtual 174, 3) := by decide +kernel
theorem dX7_film_75 : decode cX7_film 75 = .ok (.pop, 1) := by decide +kernel
theorem dX7_film_76 : decode cX7_film 76 = .ok (.aload_n 0, 1) := by decide +kernel
theorem dX7_film_77 : decode cX7_film 77 = .ok (.getfield 35, 3) := by decide +kernel
theorem dX7_film_80 : decode cX7_film 80 = .ok (.iload_n 1, 1) := by decide +kernel
theorem dX7_film_81 : decode cX7_film 81 = .ok (.aaload, 1) := by decide +kernel
theorem dX7_film_82 : decode cX7_film 82 = .ok (.iload 6, 2) := by decide +kernel
theorem dX7_film_84 : decode cX7_film 84 = .ok (.aload_n 0, 1) := by decide +kernel
theorem dX7_film_85 : decode cX7_film 85 = .ok (.getfield 29, 3) := by decide +kernel
theorem dX7_film_88 : decode cX7_film 88 = .ok (.getfield 209, 3) := by decide +kernel
theorem dX7_film_91 : decode cX7_film 91 = .ok (.getfield 123, 3) := by decide +kernel
theorem dX7_film_94 : decode cX7_film 94 = .ok (.i2l, 1) := by decide +kernel
theorem dX7_film_95 : decode cX7_film 95 = .ok (.invokevirtual 243, 3) := by decide +kernel
theorem dX7_film_98 : decode cX7_film 98 = .ok (.iinc 6 1, 3) := by decide +kernel
theorem dX7_film_101 : decode cX7_film 101 = .ok (.goto (-53), 3) := by decide +kernel
theorem dX7_film_104 : decode cX7_film 104 = .ok (.iload 4, 2) := by decide +kernel
theorem dX7_film_106 : decode cX7_film 106 = .ok (.ireturn, 1) := by decide +kernel
theorem dX7_deal_0 : decode cX7_deal 0 = .ok (.aload_n 0, 1) := by decide +kernel
theorem dX7_deal_1 : decode cX7_deal 1 = .ok (.getfield 10, 3) := by decide +kernel
theorem dX7_deal_4 : decode cX7_deal 4 = .ok (.getfield 44, 3) := by decide +kernel
theorem dX7_deal_7 : decode cX7_deal 7 = .ok (.getfield 101, 3) := by decide +kernel
theorem dX7_deal_10 : decode cX7_deal 10 = .ok (.istore 4, 2) := by decide +kernel
theorem dX7_deal_12 : decode cX7_deal 12 = .ok (.aload_n 0, 1) := by decide +kernel
theorem dX7_deal_13 : decode cX7_deal 13 = .ok (.iload_n 1, 1) := by decide +kernel
theorem dX7_deal_14 : decode cX7_deal 14 = .ok (.iload_n 2, 1) := by decide +kernel
theorem dX7_deal_15 : decode cX7_deal 15 = .ok (.iload_n 3, 1) := by decide +kernel
theorem dX7_deal_16 : decode cX7_deal 16 = .ok (.iload 4, 2) := by decide +kernel
theorem dX7_deal_18 : decode cX7_deal 18 = .ok (.invokevirtual 229, 3) := by decide +kernel
theorem dX7_deal_21 : decode cX7_deal 21 = .ok (.istore 5, 2) := by decide +kernel
theorem dX7_deal_23 : decode cX7_deal 23 = .ok (.iload 5, 2) := by decide +kernel
theorem dX7_deal_25 : decode cX7_deal 25 = .ok (.ifCond .ge 6, 3) := by decide +kernel
theorem dX7_deal_28 : decode cX7_deal 28 = .ok (.iload 5, 2) := by decide +kernel
theorem dX7_deal_30 : decode cX7_deal 30 = .ok (.ireturn, 1) := by decide +kernel
theorem dX7_deal_31 : decode cX7_deal 31 = .ok (.aload_n 0, 1) := by decide +kernel
theorem dX7_deal_32 : decode cX7_deal 32 = .ok (.getfield 35, 3) := by decide +kernel
theorem dX7_deal_35 : decode cX7_deal 35 = .ok (.iload_n 1, 1) := by decide +kernel
theorem dX7_deal_36 : decode cX7_deal 36 = .ok (.aaload, 1) := by decide +kernel
theorem dX7_deal_37 : decode cX7_deal 37 = .ok (.getfield 232, 3) := by decide +kernel
theorem dX7_deal_40 : decode cX7_deal 40 = .ok (.astore 6, 2) := by decide +kernel
theorem dX7_deal_42 : decode cX7_deal 42 = .ok (.aload_n 0, 1) := by decide +kernel
theorem dX7_deal_43 : decode cX7_deal 43 = .ok (.aload 6, 2) := by decide +kernel
theorem dX7_deal_45 : decode cX7_deal 45 = .ok (.iload_n 3, 1) := by decide +kernel
theorem dX7_deal_46 : decode cX7_deal 46 = .ok (.iload 4, 2) := by decide +kernel
theorem dX7_deal_48 : decode cX7_deal 48 = .ok (.invokevirtual 247, 3) := by decide +kernel
theorem dX7_deal_51 : decode cX7_deal 51 = .ok (.ifCond .ne 6, 3) := by decide +kernel
theorem dX7_deal_54 : decode cX7_deal 54 = .ok (.bipush (-2), 2) := by decide +kernel
theorem dX7_deal_56 : decode cX7_deal 56 = .ok (.ireturn, 1) := by decide +kernel
theorem dX7_deal_57 : decode cX7_deal 57 = .ok (.iconst 0, 1) := by decide +kernel
theorem dX7_deal_58 : decode cX7_deal 58 = .ok (.istore 7, 2) := by decide +kernel
theorem dX7_deal_60 : decode cX7_deal 60 = .ok (.iload 7, 2) := by decide +kernel
theorem dX7_deal_62 : decode cX7_deal 62 = .ok (.iload 4, 2) := by decide +kernel
theorem dX7_deal_64 : decode cX7_deal 64 = .ok (.if_icmp .ge 46, 3) := by decide +kernel
theorem dX7_deal_67 : decode cX7_deal 67 = .ok (.aload 6, 2) := by decide +kernel
theorem dX7_deal_69 : decode cX7_deal 69 = .ok (.iload_n 3, 1) := by decide +kernel
theorem dX7_deal_70 : decode cX7_deal 70 = .ok (.iload 7, 2) := by decide +kernel
theorem dX7_deal_72 : decode cX7_deal 72 = .ok (.iadd, 1) := by decide +kernel
theorem dX7_deal_73 : decode cX7_deal 73 = .ok (.laload, 1) := by decide +kernel
theorem dX7_deal_74 : decode cX7_deal 74 = .ok (.lstore 8, 2) := by decide +kernel
theorem dX7_deal_76 : decode cX7_deal 76 = .ok (.aload_n 0, 1) := by decide +kernel
theorem dX7_deal_77 : decode cX7_deal 77 = .ok (.getfield 10, 3) := by decide +kernel
theorem dX7_deal_80 : decode cX7_deal 80 = .ok (.getfield 83, 3) := by decide +kernel
theorem dX7_deal_83 : decode cX7_deal 83 = .ok (.getfield 115, 3) := by decide +kernel
theorem dX7_deal_86 : decode cX7_deal 86 = .ok (.iload 7, 2) := by decide +kernel
theorem dX7_deal_88 : decode cX7_deal 88 = .ok (.lload 8, 2) := by decide +kernel
theorem dX7_deal_90 : decode cX7_deal 90 = .ok (.lconst 0, 1) := by decide +kernel
theorem dX7_deal_91 : decode cX7_deal 91 = .ok (.lcmp, 1) := by decide +kernel
theorem dX7_deal_92 : decode cX7_deal 92 = .ok (.ifCond .ge 8, 3) := by decide +kernel
theorem dX7_deal_95 : decode cX7_deal 95 = .ok (.bipush (-4), 2) := by decide +kernel
theorem dX7_deal_97 : decode cX7_deal 97 = .ok (.goto 6, 3) := by decide +kernel
theorem dX7_deal_100 : decode cX7_deal 100 = .ok (.lload 8, 2) := by decide +kernel
theorem dX7_deal_102 : decode cX7_deal 102 = .ok (.l2i, 1) := by decide +kernel
theorem dX7_deal_103 : decode cX7_deal 103 = .ok (.iastore, 1) := by decide +kernel
theorem dX7_deal_104 : decode cX7_deal 104 = .ok (.iinc 7 1, 3) := by decide +kernel
theorem dX7_deal_107 : decode cX7_deal 107 = .ok (.goto (-47), 3) := by decide +kernel
theorem dX7_deal_110 : decode cX7_deal 110 = .ok (.iload 4, 2) := by decide +kernel
theorem dX7_deal_112 : decode cX7_deal 112 = .ok (.ireturn, 1) := by decide +kernel
theorem dX7_sheet_0 : decode cX7_sheet 0 = .ok (.iload_n 1, 1) := by decide +kernel
theorem dX7_sheet_1 : decode cX7_sheet 1 = .ok (.iconst 3, 1) := by decide +kernel
theorem dX7_sheet_2 : decode cX7_sheet 2 = .ok (.invokestatic 40, 3) := by decide +kernel
theorem dX7_sheet_5 : decode cX7_sheet 5 = .ok (.ifCond .ne 17, 3) := by decide +kernel
theorem dX7_sheet_8 : decode cX7_sheet 8 = .ok (.iload_n 2, 1) := by decide +kernel
theorem dX7_sheet_9 : decode cX7_sheet 9 = .ok (.iconst 3, 1) := by decide +kernel
theorem dX7_sheet_10 : decode cX7_sheet 10 = .ok (.invokestatic 40, 3) := by decide +kernel
theorem dX7_sheet_13 : decode cX7_sheet 13 = .ok (.ifCond .ne 9, 3) := by decide +kernel
theorem dX7_sheet_16 : decode cX7_sheet 16 = .ok (.iload_n 3, 1) := by decide +kernel
theorem dX7_sheet_17 : decode cX7_sheet 17 = .ok (.bipush 16, 2) := by decide +kernel
theorem dX7_sheet_19 : decode cX7_sheet 19 = .ok (.if_icmp .le 5, 3) := by decide +kernel
theorem dX7_sheet_22 : decode cX7_sheet 22 = .ok (.iconst (-1), 1) := by decide +kernel
theorem dX7_sheet_23 : decode cX7_sheet 23 = .ok (.ireturn, 1) := by decide +kernel
theorem dX7_sheet_24 : decode cX7_sheet 24 = .ok (.iload_n 3, 1) := by decide +kernel
theorem dX7_sheet_25 : decode cX7_sheet 25 = .ok (.ifCond .ge 6, 3) := by decide +kernel
theorem dX7_sheet_28 : decode cX7_sheet 28 = .ok (.bipush (-14), 2) := by decide +kernel
theorem dX7_sheet_30 : decode cX7_sheet 30 = .ok (.ireturn, 1) := by decide +kernel
theorem dX7_sheet_31 : decode cX7_sheet 31 = .ok (.aload_n 0, 1) := by decide +kernel
theorem dX7_sheet_32 : decode cX7_sheet 32 = .ok (.getfield 35, 3) := by decide +kernel
theorem dX7_sheet_35 : decode cX7_sheet 35 = .ok (.iload_n 1, 1) := by decide +kernel
theorem dX7_sheet_36 : decode cX7_sheet 36 = .ok (.aaload, 1) := by decide +kernel
theorem dX7_sheet_37 : decode cX7_sheet 37 = .ok (.iload_n 2, 1) := by decide +kernel
theorem dX7_sheet_38 : decode cX7_sheet 38 = .ok (.iload_n 3, 1) := by decide +kernel
theorem dX7_sheet_39 : decode cX7_sheet 39 = .ok (.invokevirtual 251, 3) := by decide +kernel
theorem dX7_sheet_42 : decode cX7_sheet 42 = .ok (.iload_n 3, 1) := by decide +kernel
theorem dX7_sheet_43 : decode cX7_sheet 43 = .ok (.ireturn, 1) := by decide +kernel
theorem dX7_drop_0 : decode cX7_drop 0 = .ok (.iload_n 1, 1) := by decide +kernel
theorem dX7_drop_1 : decode cX7_drop 1 = .ok (.iconst 3, 1) := by decide +kernel
theorem dX7_drop_2 : decode cX7_drop 2 = .ok (.invokestatic 40, 3) := by decide +kernel
theorem dX7_drop_5 : decode cX7_drop 5 = .ok (.ifCond .eq 5, 3) := by decide +kernel
theorem dX7_drop_8 : decode cX7_drop 8 = .ok (.iconst (-1), 1) := by decide +kernel
theorem dX7_drop_9 : decode cX7_drop 9 = .ok (.ireturn, 1) := by decide +kernel
theorem dX7_drop_10 : decode cX7_drop 10 = .ok (.aload_n 0, 1) := by decide +kernel
theorem dX7_drop_11 : decode cX7_drop 11 = .ok (.getfield 35, 3) := by decide +kernel
theorem dX7_drop_14 : decode cX7_drop 14 = .ok (.iload_n 1, 1) := by decide +kernel
theorem dX7_drop_15 : decode cX7_drop 15 = .ok (.aaload, 1) := by decide +kernel
theorem dX7_drop_16 : decode cX7_drop 16 = .ok (.getfield 255, 3) := by decide +kernel
theorem dX7_drop_19 : decode cX7_drop 19 = .ok (.ifCond .ne 6, 3) := by decide +kernel
theorem dX7_drop_22 : decode cX7_drop 22 = .ok (.bipush (-11), 2) := by decide +kernel
theorem dX7_drop_24 : decode cX7_drop 24 = .ok (.ireturn, 1) := by decide +kernel
theorem dX7_drop_25 : decode cX7_drop 25 = .ok (.aload_n 0, 1) := by decide +kernel
theorem dX7_drop_26 : decode cX7_drop 26 = .ok (.getfield 35, 3) := by decide +kernel
theorem dX7_drop_29 : decode cX7_drop 29 = .ok (.iload_n 1, 1) := by decide +kernel
theorem dX7_drop_30 : decode cX7_drop 30 = .ok (.aaload, 1) := by decide +kernel
theorem dX7_drop_31 : decode cX7_drop 31 = .ok (.iconst 0, 1) := by decide +kernel
theorem dX7_drop_32 : decode cX7_drop 32 = .ok (.putfield 255, 3) := by decide +kernel
theorem dX7_drop_35 : decode cX7_drop 35 = .ok (.aload_n 0, 1) := by decide +kernel
theorem dX7_drop_36 : decode cX7_drop 36 = .ok (.getfield 35, 3) := by decide +kernel
theorem dX7_drop_39 : decode cX7_drop 39 = .ok (.iload_n 1, 1) := by decide +kernel
theorem dX7_drop_40 : decode cX7_drop 40 = .ok (.aaload, 1) := by decide +kernel
theorem dX7_drop_41 : decode cX7_drop 41 = .ok (.getfield 258, 3) := by decide +kernel
theorem dX7_drop_44 : decode cX7_drop 44 = .ok (.ireturn, 1) := by decide +kernel
theorem dX7_item_0 : decode cX7_item 0 = .ok (.aload_n 0, 1) := by decide +kernel
theorem dX7_item_1 : decode cX7_item 1 = .ok (.iload_n 1, 1) := by decide +kernel
theorem dX7_item_2 : decode cX7_item 2 = .ok (.iload_n 2, 1) := by decide +kernel
theorem dX7_item_3 : decode cX7_item 3 = .ok (.iload_n 3, 1) := by decide +kernel
theorem dX7_item_4 : decode cX7_item 4 = .ok (.iconst 1, 1) := by decide +kernel
theorem dX7_item_5 : decode cX7_item 5 = .ok (.invokevirtual 229, 3) := by decide +kernel
theorem dX7_item_8 : decode cX7_item 8 = .ok (.istore 6, 2) := by decide +kernel
theorem dX7_item_10 : decode cX7_item 10 = .ok (.iload 6, 2) := by decide +kernel
theorem dX7_item_12 : decode cX7_item 12 = .ok (.ifCond .ge 6, 3) := by decide +kernel
theorem dX7_item_15 : decode cX7_item 15 = .ok (.iload 6, 2) := by decide +kernel
theorem dX7_item_17 : decode cX7_item 17 = .ok (.ireturn, 1) := by decide +kernel
theorem dX7_item_18 : decode cX7_item 18 = .ok (.aload_n 0, 1) := by decide +kernel
theorem dX7_item_19 : decode cX7_item 19 = .ok (.getfield 35, 3) := by decide +kernel
theorem dX7_item_22 : decode cX7_item 22 = .ok (.iload_n 1, 1) := by decide +kernel
theorem dX7_item_23 : decode cX7_item 23 = .ok (.aaload, 1) := by decide +kernel
theorem dX7_item_24 : decode cX7_item 24 = .ok (.iload_n 3, 1) := by decide +kernel
theorem dX7_item_25 : decode cX7_item 25 = .ok (.lload 4, 2) := by decide +kernel
theorem dX7_item_27 : decode cX7_item 27 = .ok (.invokevirtual 243, 3) := by decide +kernel
theorem dX7_item_30 : decode cX7_item 30 = .ok (.iconst 1, 1) := by decide +kernel
theorem dX7_item_31 : decode cX7_item 31 = .ok (.ireturn, 1) := by decide +kernel
theorem dX7_copy_0 : decode cX7_copy 0 = .ok (.iload_n 1, 1) := by decide +kernel
theorem dX7_copy_1 : decode cX7_copy 1 = .ok (.iconst 3, 1) := by decide +kernel
theorem dX7_copy_2 : decode cX7_copy 2 = .ok (.invokestatic 40, 3) := by decide +kernel
theorem dX7_copy_5 : decode cX7_copy 5 = .ok (.ifCond .ne 11, 3) := by decide +kernel
theorem dX7_copy_8 : decode cX7_copy 8 = .ok (.iload_n 3, 1) := by decide +kernel
theorem dX7_copy_9 : decode cX7_copy 9 = .ok (.iconst 3, 1) := by decide +kernel
theorem dX7_copy_10 : decode cX7_copy 10 = .ok (.invokestatic 40, 3) := by decide +kernel
theorem dX7_copy_13 : decode cX7_copy 13 = .ok (.ifCond .eq 5, 3) := by decide +kernel
theorem dX7_copy_16 : decode cX7_copy 16 = .ok (.iconst (-1), 1) := by decide +kernel
theorem dX7_copy_17 : decode cX7_copy 17 = .ok (.ireturn, 1) := by decide +kernel
theorem dX7_copy_18 : decode cX7_copy 18 = .ok (.aload_n 0, 1) := by decide +kernel
theorem dX7_copy_19 : decode cX7_copy 19 = .ok (.getfield 35, 3) := by decide +kernel
theorem dX7_copy_22 : decode cX7_copy 22 = .ok (.iload_n 1, 1) := by decide +kernel
theorem dX7_copy_23 : decode cX7_copy 23 = .ok (.aaload, 1) := by decide +kernel
theorem dX7_copy_24 : decode cX7_copy 24 = .ok (.astore 6, 2) := by decide +kernel
theorem dX7_copy_26 : decode cX7_copy 26 = .ok (.aload_n 0, 1) := by decide +kernel
theorem dX7_copy_27 : decode cX7_copy 27 = .ok (.getfield 35, 3) := by decide +kernel
theorem dX7_copy_30 : decode cX7_copy 30 = .ok (.iload_n 3, 1) := by decide +kernel
theorem dX7_copy_31 : decode cX7_copy 31 = .ok (.aaload, 1) := by decide +kernel
theorem dX7_copy_32 : decode cX7_copy 32 = .ok (.astore 7, 2) := by decide +kernel
theorem dX7_copy_34 : decode cX7_copy 34 = .ok (.aload 6, 2) := by decide +kernel
theorem dX7_copy_36 : decode cX7_copy 36 = .ok (.getfield 255, 3) := by decide +kernel
theorem dX7_copy_39 : decode cX7_copy 39 = .ok (.ifCond .eq 11, 3) := by decide +kernel
theorem dX7_copy_42 : decode cX7_copy 42 = .ok (.aload 7, 2) := by decide +kernel
theorem dX7_copy_44 : decode cX7_copy 44 = .ok (.getfield 255, 3) := by decide +kernel
theorem dX7_copy_47 : decode cX7_copy 47 = .ok (.ifCond .ne 6, 3) := by decide +kernel
theorem dX7_copy_50 : decode cX7_copy 50 = .ok (.bipush (-11), 2) := by decide +kernel
theorem dX7_copy_52 : decode cX7_copy 52 = .ok (.ireturn, 1) := by decide +kernel
theorem dX7_copy_53 : decode cX7_copy 53 = .ok (.aload 6, 2) := by decide +kernel
theorem dX7_copy_55 : decode cX7_copy 55 = .ok (.getfield 259, 3) := by decide +kernel
theorem dX7_copy_58 : decode cX7_copy 58 = .ok (.aload 7, 2) := by decide +kernel
theorem dX7_copy_60 : decode cX7_copy 60 = .ok (.getfield 259, 3) := by decide +kernel
theorem dX7_copy_63 : decode cX7_copy 63 = .ok (.if_icmp .eq 6, 3) := by decide +kernel
theorem dX7_copy_66 : decode cX7_copy 66 = .ok (.bipush (-12), 2) := by decide +kernel
theorem dX7_copy_68 : decode cX7_copy 68 = .ok (.ireturn, 1) := by decide +kernel
theorem dX7_copy_69 : decode cX7_copy 69 = .ok (.aload 6, 2) := by decide +kernel
theorem dX7_copy_71 : decode cX7_copy 71 = .ok (.iload_n 2, 1) := by decide +kernel
theorem dX7_copy_72 : decode cX7_copy 72 = .ok (.iload 5, 2) := by decide +kernel
theorem dX7_copy_74 : decode cX7_copy 74 = .ok (.invokevirtual 262, 3) := by decide +kernel
theorem dX7_copy_77 : decode cX7_copy 77 = .ok (.ifCond .eq 15, 3) := by decide +kernel
theorem dX7_copy_80 : decode cX7_copy 80 = .ok (.aload 7, 2) := by decide +kernel
theorem dX7_copy_82 : decode cX7_copy 82 = .ok (.iload 4, 2) := by decide +kernel
theorem dX7_copy_84 : decode cX7_copy 84 = .ok (.iload 5, 2) := by decide +kernel
theorem dX7_copy_86 : decode cX7_copy 86 = .ok (.invokevirtual 262, 3) := by decide +kernel
theorem dX7_copy_89 : decode cX7_copy 89 = .ok (.ifCond .ne 6, 3) := by decide +kernel
theorem dX7_copy_92 : decode cX7_copy 92 = .ok (.bipush (-13), 2) := by decide +kernel
theorem dX7_copy_94 : decode cX7_copy 94 = .ok (.ireturn, 1) := by decide +kernel
theorem dX7_copy_95 : decode cX7_copy 95 = .ok (.aload 6, 2) := by decide +kernel
theorem dX7_copy_97 : decode cX7_copy 97 = .ok (.getfield 232, 3) := by decide +kernel
theorem dX7_copy_100 : decode cX7_copy 100 = .ok (.iload_n 2, 1) := by decide +kernel
theorem dX7_copy_101 : decode cX7_copy 101 = .ok (.aload 7, 2) := by decide +kernel
theorem dX7_copy_103 : decode cX7_copy 103 = .ok (.getfield 232, 3) := by decide +kernel
theorem dX7_copy_106 : decode cX7_copy 106 = .ok (.iload 4, 2) := by decide +kernel
theorem dX7_copy_108 : decode cX7_copy 108 = .ok (.iload 5, 2) := by decide +kernel
theorem dX7_copy_110 : decode cX7_copy 110 = .ok (.invokestatic 265, 3) := by decide +kernel
theorem dX7_copy_113 : decode cX7_copy 113 = .ok (.iload 5, 2) := by decide +kernel
theorem dX7_copy_115 : decode cX7_copy 115 = .ok (.ireturn, 1) := by decide +kernel
theorem dX7_isNot_0 : decode cX7_isNot 0 = .ok (.iload_n 0, 1) := by decide +kernel
theorem dX7_isNot_1 : decode cX7_isNot 1 = .ok (.ifCond .lt 8, 3) := by decide +kernel
theorem dX7_isNot_4 : decode cX7_isNot 4 = .ok (.iload_n 0, 1) := by decide +kernel
theorem dX7_isNot_5 : decode cX7_isNot 5 = .ok (.iload_n 1, 1) := by decide +kernel
theorem dX7_isNot_6 : decode cX7_isNot 6 = .ok (.if_icmp .le 7, 3) := by decide +kernel
theorem dX7_isNot_9 : decode cX7_isNot 9 = .ok (.iconst 1, 1) := by decide +kernel
theorem dX7_isNot_10 : decode cX7_isNot 10 = .ok (.goto 4, 3) := by decide +kernel
theorem dX7_isNot_13 : decode cX7_isNot 13 = .ok (.iconst 0, 1) := by decide +kernel
theorem dX7_isNot_14 : decode cX7_isNot 14 = .ok (.ireturn, 1) := by decide +kernel
theorem dX7_isNoThingOrNone_0 : decode cX7_isNoThingOrNone 0 = .ok (.iload_n 1, 1) := by decide +kernel
theorem dX7_isNoThingOrNone_1 : decode cX7_isNoThingOrNone 1 = .ok (.bipush (-4), 2) := by decide +kernel
theorem dX7_isNoThingOrNone_3 : decode cX7_isNoThingOrNone 3 = .ok (.if_icmp .eq 21, 3) := by decide +kernel
theorem dX7_isNoThingOrNone_6 : decode cX7_isNoThingOrNone 6 = .ok (.aload_n 0, 1) := by decide +kernel
theorem dX7_isNoThingOrNone_7 : decode cX7_isNoThingOrNone 7 = .ok (.getfield 10, 3) := by decide +kernel
theorem dX7_isNoThingOrNone_10 : decode cX7_isNoThingOrNone 10 = .ok (.getfield 44, 3) := by decide +kernel
theorem dX7_isNoThingOrNone_13 : decode cX7_isNoThingOrNone 13 = .ok (.iload_n 1, 1) := by decide +kernel
theorem dX7_isNoThingOrNone_14 : decode cX7_isNoThingOrNone 14 = .ok (.invokevirtual 61, 3) := by decide +kernel
theorem dX7_isNoThingOrNone_17 : decode cX7_isNoThingOrNone 17 = .ok (.ifCond .ne 7, 3) := by decide +kernel
theorem dX7_isNoThingOrNone_20 : decode cX7_isNoThingOrNone 20 = .ok (.iconst 1, 1) := by decide +kernel
theorem dX7_isNoThingOrNone_21 : decode cX7_isNoThingOrNone 21 = .ok (.goto 4, 3) := by decide +kernel
theorem dX7_isNoThingOrNone_24 : decode cX7_isNoThingOrNone 24 = .ok (.iconst 0, 1) := by decide +kernel
theorem dX7_isNoThingOrNone_25 : decode cX7_isNoThingOrNone 25 = .ok (.ireturn, 1) := by decide +kernel
theorem dX7_isHad_0 : decode cX7_isHad 0 = .ok (.aload_n 0, 1) := by decide +kernel
theorem dX7_isHad_1 : decode cX7_isHad 1 = .ok (.getfield 10, 3) := by decide +kernel
theorem dX7_isHad_4 : decode cX7_isHad 4 = .ok (.getfield 44, 3) := by decide +kernel
theorem dX7_isHad_7 : decode cX7_isHad 7 = .ok (.iload_n 1, 1) := by decide +kernel
theorem dX7_isHad_8 : decode cX7_isHad 8 = .ok (.aload_n 0, 1) := by decide +kernel
theorem dX7_isHad_9 : decode cX7_isHad 9 = .ok (.getfield 10, 3) := by decide +kernel
theorem dX7_isHad_12 : decode cX7_isHad 12 = .ok (.getfield 83, 3) := by decide +kernel
theorem dX7_isHad_15 : decode cX7_isHad 15 = .ok (.invokevirtual 87, 3) := by decide +kernel
theorem dX7_isHad_18 : decode cX7_isHad 18 = .ok (.bipush (-4), 2) := by decide +kernel
theorem dX7_isHad_20 : decode cX7_isHad 20 = .ok (.if_icmp .eq 7, 3) := by decide +kernel
theorem dX7_isHad_23 : decode cX7_isHad 23 = .ok (.iconst 1, 1) := by decide +kernel
theorem dX7_isHad_24 : decode cX7_isHad 24 = .ok (.goto 4, 3) := by decide +kernel
theorem dX7_isHad_27 : decode cX7_isHad 27 = .ok (.iconst 0, 1) := by decide +kernel
theorem dX7_isHad_28 : decode cX7_isHad 28 = .ok (.ireturn, 1) := by decide +kernel
theorem dX7_rowFault_0 : decode cX7_rowFault 0 = .ok (.iload_n 1, 1) := by decide +kernel
theorem dX7_rowFault_1 : decode cX7_rowFault 1 = .ok (.iconst 3, 1) := by decide +kernel
theorem dX7_rowFault_2 : decode cX7_rowFault 2 = .ok (.invokestatic 40, 3) := by decide +kernel
theorem dX7_rowFault_5 : decode cX7_rowFault 5 = .ok (.ifCond .ne 11, 3) := by decide +kernel
theorem dX7_rowFault_8 : decode cX7_rowFault 8 = .ok (.iload_n 2, 1) := by decide +kernel
theorem dX7_rowFault_9 : decode cX7_rowFault 9 = .ok (.iconst 3, 1) := by decide +kernel
theorem dX7_rowFault_10 : decode cX7_rowFault 10 = .ok (.invokestatic 40, 3) := by decide +kernel
theorem dX7_rowFault_13 : decode cX7_rowFault 13 = .ok (.ifCond .eq 5, 3) := by decide +kernel
theorem dX7_rowFault_16 : decode cX7_rowFault 16 = .ok (.iconst (-1), 1) := by decide +kernel
theorem dX7_rowFault_17 : decode cX7_rowFault 17 = .ok (.ireturn, 1) := by decide +kernel
theorem dX7_rowFault_18 : decode cX7_rowFault 18 = .ok (.aload_n 0, 1) := by decide +kernel
theorem dX7_rowFault_19 : decode cX7_rowFault 19 = .ok (.getfield 35, 3) := by decide +kernel
theorem dX7_rowFault_22 : decode cX7_rowFault 22 = .ok (.iload_n 1, 1) := by decide +kernel
theorem dX7_rowFault_23 : decode cX7_rowFault 23 = .ok (.aaload, 1) := by decide +kernel
theorem dX7_rowFault_24 : decode cX7_rowFault 24 = .ok (.astore 5, 2) := by decide +kernel
theorem dX7_rowFault_26 : decode cX7_rowFault 26 = .ok (.aload 5, 2) := by decide +kernel
theorem dX7_rowFault_28 : decode cX7_rowFault 28 = .ok (.getfield 255, 3) := by decide +kernel
theorem dX7_rowFault_31 : decode cX7_rowFault 31 = .ok (.ifCond .ne 6, 3) := by decide +kernel
theorem dX7_rowFault_34 : decode cX7_rowFault 34 = .ok (.bipush (-11), 2) := by decide +kernel
theorem dX7_rowFault_36 : decode cX7_rowFault 36 = .ok (.ireturn, 1) := by decide +kernel
theorem dX7_rowFault_37 : decode cX7_rowFault 37 = .ok (.aload 5, 2) := by decide +kernel
theorem dX7_rowFault_39 : decode cX7_rowFault 39 = .ok (.getfield 259, 3) := by decide +kernel
theorem dX7_rowFault_42 : decode cX7_rowFault 42 = .ok (.iload_n 2, 1) := by decide +kernel
theorem dX7_rowFault_43 : decode cX7_rowFault 43 = .ok (.if_icmp .eq 6, 3) := by decide +kernel
theorem dX7_rowFault_46 : decode cX7_rowFault 46 = .ok (.bipush (-12), 2) := by decide +kernel
theorem dX7_rowFault_48 : decode cX7_rowFault 48 = .ok (.ireturn, 1) := by decide +kernel
theorem dX7_rowFault_49 : decode cX7_rowFault 49 = .ok (.aload 5, 2) := by decide +kernel
theorem dX7_rowFault_51 : decode cX7_rowFault 51 = .ok (.iload_n 3, 1) := by decide +kernel
theorem dX7_rowFault_52 : decode cX7_rowFault 52 = .ok (.iload 4, 2) := by decide +kernel
theorem dX7_rowFault_54 : decode cX7_rowFault 54 = .ok (.invokevirtual 262, 3) := by decide +kernel
theorem dX7_rowFault_57 : decode cX7_rowFault 57 = .ok (.ifCond .eq 7, 3) := by decide +kernel
theorem dX7_rowFault_60 : decode cX7_rowFault 60 = .ok (.iconst 0, 1) := by decide +kernel
theorem dX7_rowFault_61 : decode cX7_rowFault 61 = .ok (.goto 5, 3) := by decide +kernel
theorem dX7_rowFault_64 : decode cX7_rowFault 64 = .ok (.bipush (-13), 2) := by decide +kernel
theorem dX7_rowFault_66 : decode cX7_rowFault 66 = .ok (.ireturn, 1) := by decide +kernel
theorem dX7_canDeal_0 : decode cX7_canDeal 0 = .ok (.aload_n 0, 1) := by decide +kernel
theorem dX7_canDeal_1 : decode cX7_canDeal 1 = .ok (.getfield 10, 3) := by decide +kernel
theorem dX7_canDeal_4 : decode cX7_canDeal 4 = .ok (.getfield 44, 3) := by decide +kernel
theorem dX7_canDeal_7 : decode cX7_canDeal 7 = .ok (.aload_n 0, 1) := by decide +kernel
theorem dX7_canDeal_8 : decode cX7_canDeal 8 = .ok (.getfield 10, 3) := by decide +kernel
theorem dX7_canDeal_11 : decode cX7_canDeal 11 = .ok (.getfield 83, 3) := by decide +kernel
theorem dX7_canDeal_14 : decode cX7_canDeal 14 = .ok (.getfield 123, 3) := by decide +kernel
theorem dX7_canDeal_17 : decode cX7_canDeal 17 = .ok (.invokevirtual 61, 3) := by decide +kernel
theorem dX7_canDeal_20 : decode cX7_canDeal 20 = .ok (.ifCond .eq 18, 3) := by decide +kernel
theorem dX7_canDeal_23 : decode cX7_canDeal 23 = .ok (.iconst 1, 1) := by decide +kernel
theorem dX7_canDeal_24 : decode cX7_canDeal 24 = .ok (.aload_n 0, 1) := by decide +kernel
theorem dX7_canDeal_25 : decode cX7_canDeal 25 = .ok (.getfield 10, 3) := by decide +kernel
theorem dX7_canDeal_28 : decode cX7_canDeal 28 = .ok (.getfield 83, 3) := by decide +kernel
theorem dX7_canDeal_31 : decode cX7_canDeal 31 = .ok (.getfield 123, 3) := by decide +kernel
theorem dX7_canDeal_34 : decode cX7_canDeal 34 = .ok (.ishl, 1) := by decide +kernel
theorem dX7_canDeal_35 : decode cX7_canDeal 35 = .ok (.goto 4, 3) := by decide +kernel
theorem dX7_canDeal_38 : decode cX7_canDeal 38 = .ok (.iconst 0, 1) := by decide +kernel
theorem dX7_canDeal_39 : decode cX7_canDeal 39 = .ok (.istore 4, 2) := by decide +kernel
theorem dX7_canDeal_41 : decode cX7_canDeal 41 = .ok (.iload_n 2, 1) := by decide +kernel
theorem dX7_canDeal_42 : decode cX7_canDeal 42 = .ok (.istore 5, 2) := by decide +kernel
theorem dX7_canDeal_44 : decode cX7_canDeal 44 = .ok (.iload 5, 2) := by decide +kernel
theorem dX7_canDeal_46 : decode cX7_canDeal 46 = .ok (.iload_n 2, 1) := by decide +kernel
theorem dX7_canDeal_47 : decode cX7_canDeal 47 = .ok (.iload_n 3, 1) := by decide +kernel
theorem dX7_canDeal_48 : decode cX7_canDeal 48 = .ok (.iadd, 1) := by decide +kernel
theorem dX7_canDeal_49 : decode cX7_canDeal 49 = .ok (.if_icmp .ge 68, 3) := by decide +kernel
theorem dX7_canDeal_52 : decode cX7_canDeal 52 = .ok (.aload_n 1, 1) := by decide +kernel
theorem dX7_canDeal_53 : decode cX7_canDeal 53 = .ok (.iload 5, 2) := by decide +kernel
theorem dX7_canDeal_55 : decode cX7_canDeal 55 = .ok (.laload, 1) := by decide +kernel
theorem dX7_canDeal_56 : decode cX7_canDeal 56 = .ok (.lconst 0, 1) := by decide +kernel
theorem dX7_canDeal_57 : decode cX7_canDeal 57 = .ok (.lcmp, 1) := by decide +kernel
theorem dX7_canDeal_58 : decode cX7_canDeal 58 = .ok (.ifCond .ge 6, 3) := by decide +kernel
theorem dX7_canDeal_61 : decode cX7_canDeal 61 = .ok (.goto 50, 3) := by decide +kernel
theorem dX7_canDeal_64 : decode cX7_canDeal 64 = .ok (.aload_n 1, 1) := by decide +kernel
theorem dX7_canDeal_65 : decode cX7_canDeal 65 = .ok (.iload 5, 2) := by decide +kernel
theorem dX7_canDeal_67 : decode cX7_canDeal 67 = .ok (.laload, 1) := by decide +kernel
theorem dX7_canDeal_68 : decode cX7_canDeal 68 = .ok (.aload_n 0, 1) := by decide +kernel
theorem dX7_canDeal_69 : decode cX7_canDeal 69 = .ok (.getfield 10, 3) := by decide +kernel
theorem dX7_canDeal_72 : decode cX7_canDeal 72 = .ok (.getfield 44, 3) := by decide +kernel
theorem dX7_canDeal_75 : decode cX7_canDeal 75 = .ok (.getfield 48, 3) := by decide +kernel
theorem dX7_canDeal_78 : decode cX7_canDeal 78 = .ok (.i2l, 1) := by decide +kernel
theorem dX7_canDeal_79 : decode cX7_canDeal 79 = .ok (.lcmp, 1) := by decide +kernel
theorem dX7_canDeal_80 : decode cX7_canDeal 80 = .ok (.ifCond .lt 5, 3) := by decide +kernel
theorem dX7_canDeal_83 : decode cX7_canDeal 83 = .ok (.iconst 0, 1) := by decide +kernel
theorem dX7_canDeal_84 : decode cX7_canDeal 84 = .ok (.ireturn, 1) := by decide +kernel
theorem dX7_canDeal_85 : decode cX7_canDeal 85 = .ok (.iconst 1, 1) := by decide +kernel
theorem dX7_canDeal_86 : decode cX7_canDeal 86 = .ok (.aload_n 1, 1) := by decide +kernel
theorem dX7_canDeal_87 : decode cX7_canDeal 87 = .ok (.iload 5, 2) := by decide +kernel
theorem dX7_canDeal_89 : decode cX7_canDeal 89 = .ok (.laload, 1) := by decide +kernel
theorem dX7_canDeal_90 : decode cX7_canDeal 90 = .ok (.l2i, 1) := by decide +kernel
theorem dX7_canDeal_91 : decode cX7_canDeal 91 = .ok (.ishl, 1) := by decide +kernel
theorem dX7_canDeal_92 : decode cX7_canDeal 92 = .ok (.istore 6, 2) := by decide +kernel
theorem dX7_canDeal_94 : decode cX7_canDeal 94 = .ok (.iload 4, 2) := by decide +kernel
theorem dX7_canDeal_96 : decode cX7_canDeal 96 = .ok (.iload 6, 2) := by decide +kernel
theorem dX7_canDeal_98 : decode cX7_canDeal 98 = .ok (.iand, 1) := by decide +kernel
theorem dX7_canDeal_99 : decode cX7_canDeal 99 = .ok (.ifCond .eq 5, 3) := by decide +kernel
theorem dX7_canDeal_102 : decode cX7_canDeal 102 = .ok (.iconst 0, 1) := by decide +kernel
theorem dX7_canDeal_103 : decode cX7_canDeal 103 = .ok (.ireturn, 1) := by decide +kernel
theorem dX7_canDeal_104 : decode cX7_canDeal 104 = .ok (.iload 4, 2) := by decide +kernel
theorem dX7_canDeal_106 : decode cX7_canDeal 106 = .ok (.iload 6, 2) := by decide +kernel
theorem dX7_canDeal_108 : decode cX7_canDeal 108 = .ok (.ior, 1) := by decide +kernel
theorem dX7_canDeal_109 : decode cX7_canDeal 109 = .ok (.istore 4, 2) := by decide +kernel
theorem dX7_canDeal_111 : decode cX7_canDeal 111 = .ok (.iinc 5 1, 3) := by decide +kernel
theorem dX7_canDeal_114 : decode cX7_canDeal 114 = .ok (.goto (-70), 3) := by decide +kernel
theorem dX7_canDeal_117 : decode cX7_canDeal 117 = .ok (.iconst 1, 1) := by decide +kernel
theorem dX7_canDeal_118 : decode cX7_canDeal 118 = .ok (.ireturn, 1) := by decide +kernel
end
section
theorem dX8_in_0 : decode cX8_in 0 = .ok (.lload_n 0, 1) := by decide +kernel
theorem dX8_in_1 : decode cX8_in 1 = .ok (.lload_n 2, 1) := by decide +kernel
theorem dX8_in_2 : decode cX8_in 2 = .ok (.lcmp, 1) := by decide +kernel
theorem dX8_in_3 : decode cX8_in 3 = .ok (.ifCond .lt 14, 3) := by decide +kernel
theorem dX8_in_6 : decode cX8_in 6 = .ok (.lload_n 0, 1) := by decide +kernel
theorem dX8_in_7 : decode cX8_in 7 = .ok (.lload 4, 2) := by decide +kernel
theorem dX8_in_9 : decode cX8_in 9 = .ok (.lcmp, 1) := by decide +kernel
theorem dX8_in_10 : decode cX8_in 10 = .ok (.ifCond .gt 7, 3) := by decide +kernel
theorem dX8_in_13 : decode cX8_in 13 = .ok (.iconst 1, 1) := by decide +kernel
theorem dX8_in_14 : decode cX8_in 14 = .ok (.goto 4, 3) := by decide +kernel
theorem dX8_in_17 : decode cX8_in 17 = .ok (.iconst 0, 1) := by decide +kernel
theorem dX8_in_18 : decode cX8_in 18 = .ok (.ireturn, 1) := by decide +kernel
theorem dX8_init_0 : decode cX8_init 0 = .ok (.aload_n 0, 1) := by decide +kernel
theorem dX8_init_1 : decode cX8_init 1 = .ok (.invokespecial 1, 3) := by decide +kernel
theorem dX8_init_4 : decode cX8_init 4 = .ok (.aload_n 0, 1) := by decide +kernel
theorem dX8_init_5 : decode cX8_init 5 = .ok (.bipush 40, 2) := by decide +kernel
theorem dX8_init_7 : decode cX8_init 7 = .ok (.newarray .int, 2) := by decide +kernel
theorem dX8_init_9 : decode cX8_init 9 = .ok (.putfield 7, 3) := by decide +kernel
theorem dX8_init_12 : decode cX8_init 12 = .ok (.aload_n 0, 1) := by decide +kernel
theorem dX8_init_13 : decode cX8_init 13 = .ok (.bipush 16, 2) := by decide +kernel
theorem dX8_init_15 : decode cX8_init 15 = .ok (.newarray .int, 2) := by decide +kernel
theorem dX8_init_17 : decode cX8_init 17 = .ok (.putfield 13, 3) := by decide +kernel
theorem dX8_init_20 : decode cX8_init 20 = .ok (.aload_n 0, 1) := by decide +kernel
theorem dX8_init_21 : decode cX8_init 21 = .ok (.bipush 14, 2) := by decide +kernel
theorem dX8_init_23 : decode cX8_init 23 = .ok (.newarray .int, 2) := by decide +kernel
theorem dX8_init_25 : decode cX8_init 25 = .ok (.putfield 16, 3) := by decide +kernel
theorem dX8_init_28 : decode cX8_init 28 = .ok (.aload_n 0, 1) := by decide +kernel
theorem dX8_init_29 : decode cX8_init 29 = .ok (.bipush 120, 2) := by decide +kernel
theorem dX8_init_31 : decode cX8_init 31 = .ok (.newarray .int, 2) := by decide +kernel
theorem dX8_init_33 : decode cX8_init 33 = .ok (.putfield 19, 3) := by decide +kernel
theorem dX8_init_36 : decode cX8_init 36 = .ok (.aload_n 0, 1) := by decide +kernel
theorem dX8_init_37 : decode cX8_init 37 = .ok (.bipush 40, 2) := by decide +kernel
theorem dX8_init_39 : decode cX8_init 39 = .ok (.newarray .int, 2) := by decide +kernel
theorem dX8_init_41 : decode cX8_init 41 = .ok (.putfield 22, 3) := by decide +kernel
theorem dX8_init_44 : decode cX8_init 44 = .ok (.aload_n 0, 1) := by decide +kernel
theorem dX8_init_45 : decode cX8_init 45 = .ok (.bipush 24, 2) := by decide +kernel
theorem dX8_init_47 : decode cX8_init 47 = .ok (.newarray .int, 2) := by decide +kernel
theorem dX8_init_49 : decode cX8_init 49 = .ok (.putfield 25, 3) := by decide +kernel
theorem dX8_init_52 : decode cX8_init 52 = .ok (.aload_n 0, 1) := by decide +kernel
theorem dX8_init_53 : decode cX8_init 53 = .ok (.bipush 112, 2) := by decide +kernel
theorem dX8_init_55 : decode cX8_init 55 = .ok (.newarray .int, 2) := by decide +kernel
theorem dX8_init_57 : decode cX8_init 57 = .ok (.putfield 28, 3) := by decide +kernel
theorem dX8_init_60 : decode cX8_init 60 = .ok (.aload_n 0, 1) := by decide +kernel
theorem dX8_init_61 : decode cX8_init 61 = .ok (.bipush 14, 2) := by decide +kernel
theorem dX8_init_63 : decode cX8_init 63 = .ok (.newarray .int, 2) := by decide +kernel
theorem dX8_init_65 : decode cX8_init 65 = .ok (.putfield 31, 3) := by decide +kernel
theorem dX8_init_68 : decode cX8_init 68 = .ok (.aload_n 0, 1) := by decide +kernel
theorem dX8_init_69 : decode cX8_init 69 = .ok (.bipush 8, 2) := by decide +kernel
theorem dX8_init_71 : decode cX8_init 71 = .ok (.newarray .int, 2) := by decide +kernel
theorem dX8_init_73 : decode cX8_init 73 = .ok (.putfield 34, 3) := by decide +kernel
theorem dX8_init_76 : decode cX8_init 76 = .ok (.aload_n 0, 1) := by decide +kernel
theorem dX8_init_77 : decode cX8_init 77 = .ok (.bipush 8, 2) := by decide +kernel
theorem dX8_init_79 : decode cX8_init 79 = .ok (.newarray .int, 2) := by decide +kernel
theorem dX8_init_81 : decode cX8_init 81 = .ok (.putfield 37, 3) := by decide +kernel
theorem dX8_init_84 : decode cX8_init 84 = .ok (.aload_n 0, 1) := by decide +kernel
theorem dX8_init_85 : decode cX8_init 85 = .ok (.sipush 187, 3) := by decide +kernel
theorem dX8_init_88 : decode cX8_init 88 = .ok (.newarray .int, 2) := by decide +kernel
theorem dX8_init_90 : decode cX8_init 90 = .ok (.putfield 40, 3) := by decide +kernel
theorem dX8_init_93 : decode cX8_init 93 = .ok (.aload_n 0, 1) := by decide +kernel
theorem dX8_init_94 : decode cX8_init 94 = .ok (.iconst 4, 1) := by decide +kernel
theorem dX8_init_95 : decode cX8_init 95 = .ok (.newarray .int, 2) := by decide +kernel
theorem dX8_init_97 : decode cX8_init 97 = .ok (.putfield 43, 3) := by decide +kernel
theorem dX8_init_100 : decode cX8_init 100 = .ok (.aload_n 0, 1) := by decide +kernel
theorem dX8_init_101 : decode cX8_init 101 = .ok (.iconst 4, 1) := by decide +kernel
theorem dX8_init_102 : decode cX8_init 102 = .ok (.newarray .int, 2) := by decide +kernel
theorem dX8_init_104 : decode cX8_init 104 = .ok (.putfield 46, 3) := by decide +kernel
theorem dX8_init_107 : decode cX8_init 107 = .ok (.aload_n 0, 1) := by decide +kernel
theorem dX8_init_108 : decode cX8_init 108 = .ok (.bipush 64, 2) := by decide +kernel
theorem dX8_init_110 : decode cX8_init 110 = .ok (.newarray .long, 2) := by decide +kernel
theorem dX8_init_112 : decode cX8_init 112 = .ok (.putfield 49, 3) := by decide +kernel
theorem dX8_init_115 : decode cX8_init 115 = .ok (.aload_n 0, 1) := by decide +kernel
theorem dX8_init_116 : decode cX8_init 116 = .ok (.bipush 16, 2) := by decide +kernel
theorem dX8_init_118 : decode cX8_init 118 = .ok (.newarray .long, 2) := by decide +kernel
theorem dX8_init_120 : decode cX8_init 120 = .ok (.putfield 53, 3) := by decide +kernel
theorem dX8_init_123 : decode cX8_init 123 = .ok (.iconst 0, 1) := by decide +kernel
theorem dX8_init_124 : decode cX8_init 124 = .ok (.istore_n 1, 1) := by decide +kernel
theorem dX8_init_125 : decode cX8_init 125 = .ok (.iload_n 1, 1) := by decide +kernel
theorem dX8_init_126 : decode cX8_init 126 = .ok (.iconst 4, 1) := by decide +kernel
theorem dX8_init_127 : decode cX8_init 127 = .ok (.if_icmp .ge 16, 3) := by decide +kernel
theorem dX8_init_130 : decode cX8_init 130 = .ok (.aload_n 0, 1) := by decide +kernel
theorem dX8_init_131 : decode cX8_init 131 = .ok (.getfield 43, 3) := by decide +kernel
theorem dX8_init_134 : decode cX8_init 134 = .ok (.iload_n 1, 1) := by decide +kernel
theorem dX8_init_135 : decode cX8_init 135 = .ok (.iconst (-1), 1) := by decide +kernel
theorem dX8_init_136 : decode cX8_init 136 = .ok (.iastore, 1) := by decide +kernel
theorem dX8_init_137 : decode cX8_init 137 = .ok (.iinc 1 1, 3) := by decide +kernel
theorem dX8_init_140 : decode cX8_init 140 = .ok (.goto (-15), 3) := by decide +kernel
theorem dX8_init_143 : decode cX8_init 143 = .ok (.aload_n 0, 1) := by decide +kernel
theorem dX8_init_144 : decode cX8_init 144 = .ok (.bipush (-4), 2) := by decide +kernel
theorem dX8_init_146 : decode cX8_init 146 = .ok (.putfield 56, 3) := by decide +kernel
theorem dX8_init_149 : decode cX8_init 149 = .ok (.aload_n 0, 1) := by decide +kernel
theorem dX8_init_150 : decode cX8_init 150 = .ok (.bipush 99, 2) := by decide +kernel
theorem dX8_init_152 : decode cX8_init 152 = .ok (.putfield 60, 3) := by decide +kernel
theorem dX8_init_155 : decode cX8_init 155 = .ok (.aload_n 0, 1) := by decide +kernel
theorem dX8_init_156 : decode cX8_init 156 = .ok (.invokevirtual 63, 3) := by decide +kernel
theorem dX8_init_159 : decode cX8_init 159 = .ok (.return_, 1) := by decide +kernel
theorem dX8_starts_0 : decode cX8_starts 0 = .ok (.aload_n 0, 1) := by decide +kernel
theorem dX8_starts_1 : decode cX8_starts 1 = .ok (.getfield 16, 3) := by decide +kernel
theorem dX8_starts_4 : decode cX8_starts 4 = .ok (.iconst 0, 1) := by decide +kernel
theorem dX8_starts_5 : decode cX8_starts 5 = .ok (.bipush (-4), 2) := by decide +kernel
theorem dX8_starts_7 : decode cX8_starts 7 = .ok (.iastore, 1) := by decide +kernel
theorem dX8_starts_8 : decode cX8_starts 8 = .ok (.iconst 1, 1) := by decide +kernel
theorem dX8_starts_9 : decode cX8_starts 9 = .ok (.istore_n 1, 1) := by decide +kernel
theorem dX8_starts_10 : decode cX8_starts 10 = .ok (.iload_n 1, 1) := by decide +kernel
theorem dX8_starts_11 : decode cX8_starts 11 = .ok (.iconst 5, 1) := by decide +kernel
theorem dX8_starts_12 : decode cX8_starts 12 = .ok (.if_icmp .ge 16, 3) := by decide +kernel
theorem dX8_starts_15 : decode cX8_starts 15 = .ok (.aload_n 0, 1) := by decide +kernel
theorem dX8_starts_16 : decode cX8_starts 16 = .ok (.getfield 16, 3) := by decide +kernel
theorem dX8_starts_19 : decode cX8_starts 19 = .ok (.iload_n 1, 1) := by decide +kernel
theorem dX8_starts_20 : decode cX8_starts 20 = .ok (.iconst 0, 1) := by decide +kernel
theorem dX8_starts_21 : decode cX8_starts 21 = .ok (.iastore, 1) := by decide +kernel
theorem dX8_starts_22 : decode cX8_starts 22 = .ok (.iinc 1 1, 3) := by decide +kernel
theorem dX8_starts_25 : decode cX8_starts 25 = .ok (.goto (-15), 3) := by decide +kernel
theorem dX8_starts_28 : decode cX8_starts 28 = .ok (.iconst 5, 1) := by decide +kernel
theorem dX8_starts_29 : decode cX8_starts 29 = .ok (.istore_n 1, 1) := by decide +kernel
theorem dX8_starts_30 : decode cX8_starts 30 = .ok (.iload_n 1, 1) := by decide +kernel
theorem dX8_starts_31 : decode cX8_starts 31 = .ok (.bipush 14, 2) := by decide +kernel
theorem dX8_starts_33 : decode cX8_starts 33 = .ok (.if_icmp .ge 17, 3) := by decide +kernel
theorem dX8_starts_36 : decode cX8_starts 36 = .ok (.aload_n 0, 1) := by decide +kernel
theorem dX8_starts_37 : decode cX8_starts 37 = .ok (.getfield 16, 3) := by decide +kernel
theorem dX8_starts_40 : decode cX8_starts 40 = .ok (.iload_n 1, 1) := by decide +kernel
theorem dX8_starts_41 : decode cX8_starts 41 = .ok (.bipush (-4), 2) := by decide +kernel
theorem dX8_starts_43 : decode cX8_starts 43 = .ok (.iastore, 1) := by decide +kernel
theorem dX8_starts_44 : decode cX8_starts 44 = .ok (.iinc 1 1, 3) := by decide +kernel
theorem dX8_starts_47 : decode cX8_starts 47 = .ok (.goto (-17), 3) := by decide +kernel
theorem dX8_starts_50 : decode cX8_starts 50 = .ok (.aload_n 0, 1) := by decide +kernel
theorem dX8_starts_51 : decode cX8_starts 51 = .ok (.iconst 0, 1) := by decide +kernel
theorem dX8_starts_52 : decode cX8_starts 52 = .ok (.putfield 66, 3) := by decide +kernel
theorem dX8_starts_55 : decode cX8_starts 55 = .ok (.return_, 1) := by decide +kernel
theorem dX8_isThing_0 : decode cX8_isThing 0 = .ok (.lload_n 1, 1) := by decide +kernel
theorem dX8_isThing_1 : decode cX8_isThing 1 = .ok (.lconst 0, 1) := by decide +kernel
theorem dX8_isThing_2 : decode cX8_isThing 2 = .ok (.aload_n 0, 1) := by decide +kernel
theorem dX8_isThing_3 : decode cX8_isThing 3 = .ok (.getfield 69, 3) := by decide +kernel
theorem dX8_isThing_6 : decode cX8_isThing 6 = .ok (.iconst 1, 1) := by decide +kernel
theorem dX8_isThing_7 : decode cX8_isThing 7 = .ok (.isub, 1) := by decide +kernel
theorem dX8_isThing_8 : decode cX8_isThing 8 = .ok (.i2l, 1) := by decide +kernel
theorem dX8_isThing_9 : decode cX8_isThing 9 = .ok (.invokestatic 72, 3) := by decide +kernel
theorem dX8_isThing_12 : decode cX8_isThing 12 = .ok (.ireturn, 1) := by decide +kernel
theorem dX8_isPerson_0 : decode cX8_isPerson 0 = .ok (.iload_n 1, 1) := by decide +kernel
theorem dX8_isPerson_1 : decode cX8_isPerson 1 = .ok (.i2l, 1) := by decide +kernel
theorem dX8_isPerson_2 : decode cX8_isPerson 2 = .ok (.lconst 0, 1) := by decide +kernel
theorem dX8_isPerson_3 : decode cX8_isPerson 3 = .ok (.aload_n 0, 1) := by decide +kernel
theorem dX8_isPerson_4 : decode cX8_isPerson 4 = .ok (.getfield 76, 3) := by decide +kernel
theorem dX8_isPerson_7 : decode cX8_isPerson 7 = .ok (.iconst 1, 1) := by decide +kernel
theorem dX8_isPerson_8 : decode cX8_isPerson 8 = .ok (.isub, 1) := by decide +kernel
theorem dX8_isPerson_9 : decode cX8_isPerson 9 = .ok (.i2l, 1) := by decide +kernel
theorem dX8_isPerson_10 : decode cX8_isPerson 10 = .ok (.invokestatic 72, 3) := by decide +kernel
theorem dX8_isPerson_13 : decode cX8_isPerson 13 = .ok (.ireturn, 1) := by decide +kernel
theorem dX8_thingComes_0 : decode cX8_thingComes 0 = .ok (.aload_n 0, 1) := by decide +kernel
theorem dX8_thingComes_1 : decode cX8_thingComes 1 = .ok (.getfield 7, 3) := by decide +kernel
theorem dX8_thingComes_4 : decode cX8_thingComes 4 = .ok (.iconst 4, 1) := by decide +kernel
theorem dX8_thingComes_5 : decode cX8_thingComes 5 = .ok (.aload_n 0, 1) := by decide +kernel
theorem dX8_thingComes_6 : decode cX8_thingComes 6 = .ok (.getfield 69, 3) := by decide +kernel
theorem dX8_thingComes_9 : decode cX8_thingComes 9 = .ok (.imul, 1) := by decide +kernel
theorem dX8_thingComes_10 : decode cX8_thingComes 10 = .ok (.iload_n 1, 1) := by decide +kernel
theorem dX8_thingComes_11 : decode cX8_thingComes 11 = .ok (.iastore, 1) := by decide +kernel
theorem dX8_thingComes_12 : decode cX8_thingComes 12 = .ok (.aload_n 0, 1) := by decide +kernel
theorem dX8_thingComes_13 : decode cX8_thingComes 13 = .ok (.getfield 7, 3) := by decide +kernel
theorem dX8_thingComes_16 : decode cX8_thingComes 16 = .ok (.iconst 4, 1) := by decide +kernel
theorem dX8_thingComes_17 : decode cX8_thingComes 17 = .ok (.aload_n 0, 1) := by decide +kernel
theorem dX8_thingComes_18 : decode cX8_thingComes 18 = .ok (.getfield 69, 3) := by decide +kernel
theorem dX8_thingComes_21 : decode cX8_thingComes 21 = .ok (.imul, 1) := by decide +kernel
theorem dX8_thingComes_22 : decode cX8_thingComes 22 = .ok (.iconst 1, 1) := by decide +kernel
theorem dX8_thingComes_23 : decode cX8_thingComes 23 = .ok (.iadd, 1) := by decide +kernel
theorem dX8_thingComes_24 : decode cX8_thingComes 24 = .ok (.iload_n 2, 1) := by decide +kernel
theorem dX8_thingComes_25 : decode cX8_thingComes 25 = .ok (.iastore, 1) := by decide +kernel
theorem dX8_thingComes_26 : decode cX8_thingComes 26 = .ok (.aload_n 0, 1) := by decide +kernel
theorem dX8_thingComes_27 : decode cX8_thingComes 27 = .ok (.getfield 7, 3) := by decide +kernel
theorem dX8_thingComes_30 : decode cX8_thingComes 30 = .ok (.iconst 4, 1) := by decide +kernel
theorem dX8_thingComes_31 : decode cX8_thingComes 31 = .ok (.aload_n 0, 1) := by decide +kernel
theorem dX8_thingComes_32 : decode cX8_thingComes 32 = .ok (.getfield 69, 3) := by decide +kernel
theorem dX8_thingComes_35 : decode cX8_thingComes 35 = .ok (.imul, 1) := by decide +kernel
theorem dX8_thingComes_36 : decode cX8_thingComes 36 = .ok (.iconst 2, 1) := by decide +kernel
theorem dX8_thingComes_37 : decode cX8_thingComes 37 = .ok (.iadd, 1) := by decide +kernel
theorem dX8_thingComes_38 : decode cX8_thingComes 38 = .ok (.iload_n 3, 1) := by decide +kernel
theorem dX8_thingComes_39 : decode cX8_thingComes 39 = .ok (.iastore, 1) := by decide +kernel
theorem dX8_thingComes_40 : decode cX8_thingComes 40 = .ok (.aload_n 0, 1) := by decide +kernel
theorem dX8_thingComes_41 : decode cX8_thingComes 41 = .ok (.getfield 7, 3) := by decide +kernel
theorem dX8_thingComes_44 : decode cX8_thingComes 44 = .ok (.iconst 4, 1) := by decide +kernel
theorem dX8_thingComes_45 : decode cX8_thingComes 45 = .ok (.aload_n 0, 1) := by decide +kernel
theorem dX8_thingComes_46 : decode cX8_thingComes 46 = .ok (.getfield 69, 3) := by decide +kernel
theorem dX8_thingComes_49 : decode cX8_thingComes 49 = .ok (.imul, 1) := by decide +kernel
theorem dX8_thingComes_50 : decode cX8_thingComes 50 = .ok (.iconst 3, 1) := by decide +kernel
theorem dX8_thingComes_51 : decode cX8_thingComes 51 = .ok (.iadd, 1) := by decide +kernel
theorem dX8_thingComes_52 : decode cX8_thingComes 52 = .ok (.iload 4, 2) := by decide +kernel
theorem dX8_thingComes_54 : decode cX8_thingComes 54 = .ok (.iastore, 1) := by decide +kernel
theorem dX8_thingComes_55 : decode cX8_thingComes 55 = .ok (.aload_n 0, 1) := by decide +kernel
theorem dX8_thingComes_56 : decode cX8_thingComes 56 = .ok (.dup, 1) := by decide +kernel
theorem dX8_thingComes_57 : decode cX8_thingComes 57 = .ok (.getfield 69, 3) := by decide +kernel
theorem dX8_thingComes_60 : decode cX8_thingComes 60 = .ok (.iconst 1, 1) := by decide +kernel
theorem dX8_thingComes_61 : decode cX8_thingComes 61 = .ok (.iadd, 1) := by decide +kernel
theorem dX8_thingComes_62 : decode cX8_thingComes 62 = .ok (.putfield 69, 3) := by decide +kernel
theorem dX8_thingComes_65 : decode cX8_thingComes 65 = .ok (.return_, 1) := by decide +kernel
theorem dX8_thing_0 : decode cX8_thing 0 = .ok (.iload_n 1, 1) := by decide +kernel
theorem dX8_thing_1 : decode cX8_thing 1 = .ok (.i2l, 1) := by decide +kernel
theorem dX8_thing_2 : decode cX8_thing 2 = .ok (.lconst 0, 1) := by decide +kernel
theorem dX8_thing_3 : decode cX8_thing 3 = .ok (.ldc2_w 79, 3) := by decide +kernel
theorem dX8_thing_6 : decode cX8_thing 6 = .ok (.invokestatic 72, 3) := by decide +kernel
theorem dX8_thing_9 : decode cX8_thing 9 = .ok (.ifCond .eq 40, 3) := by decide +kernel
theorem dX8_thing_12 : decode cX8_thing 12 = .ok (.iload_n 2, 1) := by decide +kernel
theorem dX8_thing_13 : decode cX8_thing 13 = .ok (.i2l, 1) := by decide +kernel
theorem dX8_thing_14 : decode cX8_thing 14 = .ok (.lconst 0, 1) := by decide +kernel
theorem dX8_thing_15 : decode cX8_thing 15 = .ok (.ldc2_w 81, 3) := by decide +kernel
theorem dX8_thing_18 : decode cX8_thing 18 = .ok (.invokestatic 72, 3) := by decide +kernel
theorem dX8_thing_21 : decode cX8_thing 21 = .ok (.ifCond .eq 28, 3) := by decide +kernel
theorem dX8_thing_24 : decode cX8_thing 24 = .ok (.iload_n 3, 1) := by decide +kernel
theorem dX8_thing_25 : decode cX8_thing 25 = .ok (.i2l, 1) := by decide +kernel
theorem dX8_thing_26 : decode cX8_thing 26 = .ok (.lconst 0, 1) := by decide +kernel
theorem dX8_thing_27 : decode cX8_thing 27 = .ok (.ldc2_w 83, 3) := by decide +kernel
theorem dX8_thing_30 : decode cX8_thing 30 = .ok (.invokestatic 72, 3) := by decide +kernel
theorem dX8_thing_33 : decode cX8_thing 33 = .ok (.ifCond .eq 16, 3) := by decide +kernel
theorem dX8_thing_36 : decode cX8_thing 36 = .ok (.iload 4, 2) := by decide +kernel
theorem dX8_thing_38 : decode cX8_thing 38 = .ok (.i2l, 1) := by decide +kernel
theorem dX8_thing_39 : decode cX8_thing 39 = .ok (.lconst 0, 1) := by decide +kernel
theorem dX8_thing_40 : decode cX8_thing 40 = .ok (.ldc2_w 83, 3) := by decide +kernel
theorem dX8_thing_43 : decode cX8_thing 43 = .ok (.invokestatic 72, 3) := by decide +kernel
theorem dX8_thing_46 : decode cX8_thing 46 = .ok (.ifCond .ne 5, 3) := by decide +kernel
theorem dX8_thing_49 : decode cX8_thing 49 = .ok (.iconst (-1), 1) := by decide +kernel
theorem dX8_thing_50 : decode cX8_thing 50 = .ok (.ireturn, 1) := by decide +kernel
theorem dX8_thing_51 : decode cX8_thing 51 = .ok (.aload_n 0, 1) := by decide +kernel
theorem dX8_thing_52 : decode cX8_thing 52 = .ok (.getfield 69, 3) := by decide +kernel
theorem dX8_thing_55 : decode cX8_thing 55 = .ok (.bipush 10, 2) := by decide +kernel
theorem dX8_thing_57 : decode cX8_thing 57 = .ok (.if_icmp .ne 6, 3) := by decide +kernel
theorem dX8_thing_60 : decode cX8_thing 60 = .ok (.bipush (-3), 2) := by decide +kernel
theorem dX8_thing_62 : decode cX8_thing 62 = .ok (.ireturn, 1) := by decide +kernel
theorem dX8_thing_63 : decode cX8_thing 63 = .ok (.aload_n 0, 1) := by decide +kernel
theorem dX8_thing_64 : decode cX8_thing 64 = .ok (.iload_n 1, 1) := by decide +kernel
theorem dX8_thing_65 : decode cX8_thing 65 = .ok (.iload_n 2, 1) := by decide +kernel
theorem dX8_thing_66 : decode cX8_thing 66 = .ok (.iload_n 3, 1) := by decide +kernel
theorem dX8_thing_67 : decode cX8_thing 67 = .ok (.iload 4, 2) := by decide +kernel
theorem dX8_thing_69 : decode cX8_thing 69 = .ok (.invokevirtual 85, 3) := by decide +kernel
theorem dX8_thing_72 : decode cX8_thing 72 = .ok (.aload_n 0, 1) := by decide +kernel
theorem dX8_thing_73 : decode cX8_thing 73 = .ok (.iconst 0, 1) := by decide +kernel
theorem dX8_thing_74 : decode cX8_thing 74 = .ok (.putfield 66, 3) := by decide +kernel
theorem dX8_thing_77 : decode cX8_thing 77 = .ok (.aload_n 0, 1) := by decide +kernel
theorem dX8_thing_78 : decode cX8_thing 78 = .ok (.getfield 69, 3) := by decide +kernel
theorem dX8_thing_81 : decode cX8_thing 81 = .ok (.iconst 1, 1) := by decide +kernel
theorem dX8_thing_82 : decode cX8_thing 82 = .ok (.isub, 1) := by decide +kernel
theorem dX8_thing_83 : decode cX8_thing 83 = .ok (.ireturn, 1) := by decide +kernel
theorem dX8_who_0 : decode cX8_who 0 = .ok (.aload_n 0, 1) := by decide +kernel
theorem dX8_who_1 : decode cX8_who 1 = .ok (.getfield 16, 3) := by decide +kernel
theorem dX8_who_4 : decode cX8_who 4 = .ok (.iconst 0, 1) := by decide +kernel
theorem dX8_who_5 : decode cX8_who 5 = .ok (.iaload, 1) := by decide +kernel
theorem dX8_who_6 : decode cX8_who 6 = .ok (.iload_n 1, 1) := by decide +kernel
theorem dX8_who_7 : decode cX8_who 7 = .ok (.if_icmp .ne 8, 3) := by decide +kernel
theorem dX8_who_10 : decode cX8_who 10 = .ok (.bipush 8, 2) := by decide +kernel
theorem dX8_who_12 : decode cX8_who 12 = .ok (.goto 5, 3) := by decide +kernel
theorem dX8_who_15 : decode cX8_who 15 = .ok (.bipush (-4), 2) := by decide +kernel
theorem dX8_who_17 : decode cX8_who 17 = .ok (.istore_n 2, 1) := by decide +kernel
theorem dX8_who_18 : decode cX8_who 18 = .ok (.iconst 0, 1) := by decide +kernel
theorem dX8_who_19 : decode cX8_who 19 = .ok (.istore_n 3, 1) := by decide +kernel
theorem dX8_who_20 : decode cX8_who 20 = .ok (.iload_n 3, 1) := by decide +kernel
theorem dX8_who_21 : decode cX8_who 21 = .ok (.aload_n 0, 1) := by decide +kernel
theorem dX8_who_22 : decode cX8_who 22 = .ok (.getfield 76, 3) := by decide +kernel
theorem dX8_who_25 : decode cX8_who 25 = .ok (.if_icmp .ge 27, 3) := by decide +kernel
theorem dX8_who_28 : decode cX8_who 28 = .ok (.aload_n 0, 1) := by decide +kernel
theorem dX8_who_29 : decode cX8_who 29 = .ok (.getfield 16, 3) := by decide +kernel
theorem dX8_who_32 : decode cX8_who 32 = .ok (.iconst 5, 1) := by decide +kernel
theorem dX8_who_33 : decode cX8_who 33 = .ok (.iload_n 3, 1) := by decide +kernel
theorem dX8_who_34 : decode cX8_who 34 = .ok (.iadd, 1) := by decide +kernel
theorem dX8_who_35 : decode cX8_who 35 = .ok (.iaload, 1) := by decide +kernel
theorem dX8_who_36 : decode cX8_who 36 = .ok (.iload_n 1, 1) := by decide +kernel
theorem dX8_who_37 : decode cX8_who 37 = .ok (.if_icmp .ne 7, 3) := by decide +kernel
theorem dX8_who_40 : decode cX8_who 40 = .ok (.iload_n 3, 1) := by decide +kernel
theorem dX8_who_41 : decode cX8_who 41 = .ok (.goto 4, 3) := by decide +kernel
theorem dX8_who_44 : decode cX8_who 44 = .ok (.iload_n 2, 1) := by decide +kernel
theorem dX8_who_45 : decode cX8_who 45 = .ok (.istore_n 2, 1) := by decide +kernel
theorem dX8_who_46 : decode cX8_who 46 = .ok (.iinc 3 1, 3) := by decide +kernel
theorem dX8_who_49 : decode cX8_who 49 = .ok (.goto (-29), 3) := by decide +kernel
theorem dX8_who_52 : decode cX8_who 52 = .ok (.iload_n 2, 1) := by decide +kernel
theorem dX8_who_53 : decode cX8_who 53 = .ok (.ireturn, 1) := by decide +kernel
theorem dX8_of_0 : decode cX8_of 0 = .ok (.aload_n 0, 1) := by decide +kernel
theorem dX8_of_1 : decode cX8_of 1 = .ok (.iload_n 1, 1) := by decide +kernel
theorem dX8_of_2 : decode cX8_of 2 = .ok (.i2l, 1) := by decide +kernel
theorem dX8_of_3 : decode cX8_of 3 = .ok (.invokevirtual 89, 3) := by decide +kernel
theorem dX8_of_6 : decode cX8_of 6 = .ok (.ifCond .eq 15, 3) := by decide +kernel
theorem dX8_of_9 : decode cX8_of 9 = .ok (.iload_n 2, 1) := by decide +kernel
theorem dX8_of_10 : decode cX8_of 10 = .ok (.i2l, 1) := by decide +kernel
theorem dX8_of_11 : decode cX8_of 11 = .ok (.lconst 0, 1) := by decide +kernel
theorem dX8_of_12 : decode cX8_of 12 = .ok (.ldc2_w 93, 3) := by decide +kernel
theorem dX8_of_15 : decode cX8_of 15 = .ok (.invokestatic 72, 3) := by decide +kernel
theorem dX8_of_18 : decode cX8_of 18 = .ok (.ifCond .ne 5, 3) := by decide +kernel
theorem dX8_of_21 : decode cX8_of 21 = .ok (.iconst (-1), 1) := by decide +kernel
theorem dX8_of_22 : decode cX8_of 22 = .ok (.ireturn, 1) := by decide +kernel
theorem dX8_of_23 : decode cX8_of 23 = .ok (.iload_n 2, 1) := by decide +kernel
theorem dX8_of_24 : decode cX8_of 24 = .ok (.iconst 4, 1) := by decide +kernel
theorem dX8_of_25 : decode cX8_of 25 = .ok (.if_icmp .ne 11, 3) := by decide +kernel
theorem dX8_of_28 : decode cX8_of 28 = .ok (.aload_n 0, 1) := by decide +kernel
theorem dX8_of_29 : decode cX8_of 29 = .ok (.iload_n 1, 1) := by decide +kernel
theorem dX8_of_30 : decode cX8_of 30 = .ok (.invokevirtual 95, 3) := by decide +kernel
theorem dX8_of_33 : decode cX8_of 33 = .ok (.goto 13, 3) := by decide +kernel
theorem dX8_of_36 : decode cX8_of 36 = .ok (.aload_n 0, 1) := by decide +kernel
theorem dX8_of_37 : decode cX8_of 37 = .ok (.getfield 7, 3) := by decide +kernel
theorem dX8_of_40 : decode cX8_of 40 = .ok (.iconst 4, 1) := by decide +kernel
theorem dX8_of_41 : decode cX8_of 41 = .ok (.iload_n 1, 1) := by decide +kernel
theorem dX8_of_42 : decode cX8_of 42 = .ok (.imul, 1) := by decide +kernel
theorem dX8_of_43 : decode cX8_of 43 = .ok (.iload_n 2, 1) := by decide +kernel
theorem dX8_of_44 : decode cX8_of 44 = .ok (.iadd, 1) := by decide +kernel
theorem dX8_of_45 : decode cX8_of 45 = .ok (.iaload, 1) := by decide +kernel
theorem dX8_of_46 : decode cX8_of 46 = .ok (.ireturn, 1) := by decide +kernel
theorem dX8_worth_0 : decode cX8_worth 0 = .ok (.iload_n 1, 1) := by decide +kernel
theorem dX8_worth_1 : decode cX8_worth 1 = .ok (.ifCond .ge 7, 3) := by decide +kernel
theorem dX8_worth_4 : decode cX8_worth 4 = .ok (.iconst 0, 1) := by decide +kernel
theorem dX8_worth_5 : decode cX8_worth 5 = .ok (.goto 13, 3) := by decide +kernel
theorem dX8_worth_8 : decode cX8_worth 8 = .ok (.aload_n 0, 1) := by decide +kernel
theorem dX8_worth_9 : decode cX8_worth 9 = .ok (.getfield 7, 3) := by decide +kernel
theorem dX8_worth_12 : decode cX8_worth 12 = .ok (.iconst 4, 1) := by decide +kernel
theorem dX8_worth_13 : decode cX8_worth 13 = .ok (.iload_n 1, 1) := by decide +kernel
theorem dX8_worth_14 : decode cX8_worth 14 = .ok (.imul, 1) := by decide +kernel
theorem dX8_worth_15 : decode cX8_worth 15 = .ok (.iconst 1, 1) := by decide +kernel
theorem dX8_worth_16 : decode cX8_worth 16 = .ok (.iadd, 1) := by decide +kernel
theorem dX8_worth_17 : decode cX8_worth 17 = .ok (.iaload, 1) := by decide +kernel
theorem dX8_worth_18 : decode cX8_worth 18 = .ok (.ireturn, 1) := by decide +kernel
theorem dX8_feels_0 : decode cX8_feels 0 = .ok (.aload_n 0, 1) := by decide +kernel
theorem dX8_feels_1 : decode cX8_feels 1 = .ok (.getfield 7, 3) := by decide +kernel
theorem dX8_feels_4 : decode cX8_feels 4 = .ok (.iconst 4, 1) := by decide +kernel
theorem dX8_feels_5 : decode cX8_feels 5 = .ok (.iload_n 1, 1) := by decide +kernel
theorem dX8_feels_6 : decode cX8_feels 6 = .ok (.imul, 1) := by decide +kernel
theorem dX8_feels_7 : decode cX8_feels 7 = .ok (.iaload, 1) := by decide +kernel
theorem dX8_feels_8 : decode cX8_feels 8 = .ok (.istore 4, 2) := by decide +kernel
theorem dX8_feels_10 : decode cX8_feels 10 = .ok (.iload_n 3, 1) := by decide +kernel
theorem dX8_feels_11 : decode cX8_feels 11 = .ok (.ifCond .ne 28, 3) := by decide +kernel
theorem dX8_feels_14 : decode cX8_feels 14 = .ok (.aload_n 0, 1) := by decide +kernel
theorem dX8_feels_15 : decode cX8_feels 15 = .ok (.getfield 7, 3) := by decide +kernel
theorem dX8_feels_18 : decode cX8_feels 18 = .ok (.iconst 4, 1) := by decide +kernel
theorem dX8_feels_19 : decode cX8_feels 19 = .ok (.iload_n 1, 1) := by decide +kernel
theorem dX8_feels_20 : decode cX8_feels 20 = .ok (.imul, 1) := by decide +kernel
theorem dX8_feels_21 : decode cX8_feels 21 = .ok (.iconst 2, 1) := by decide +kernel
theorem dX8_feels_22 : decode cX8_feels 22 = .ok (.iadd, 1) := by decide +kernel
theorem dX8_feels_23 : decode cX8_feels 23 = .ok (.iaload, 1) := by decide +kernel
theorem dX8_feels_24 : decode cX8_feels 24 = .ok (.iload 4, 2) := by decide +kernel
theorem dX8_feels_26 : decode cX8_feels 26 = .ok (.iconst 2, 1) := by decide +kernel
theorem dX8_feels_27 : decode cX8_feels 27 = .ok (.if_icmp .ne 9, 3) := by decide +kernel
theorem dX8_feels_30 : decode cX8_feels 30 = .ok (.iconst 2, 1) := by decide +kernel
theorem dX8_feels_31 : decode cX8_feels 31 = .ok (.iload_n 2, 1) := by decide +kernel
theorem dX8_feels_32 : decode cX8_feels 32 = .ok (.imul, 1) := by decide +kernel
theorem dX8_feels_33 : decode cX8_feels 33 = .ok (.goto 4, 3) := by decide +kernel
theorem dX8_feels_36 : decode cX8_feels 36 = .ok (.iconst 0, 1) := by decide +kernel
theorem dX8_feels_37 : decode cX8_feels 37 = .ok (.iadd, 1) := by decide +kernel
theorem dX8_feels_38 : decode cX8_feels 38 = .ok (.ireturn, 1) := by decide +kernel
theorem dX8_feels_39 : decode cX8_feels 39 = .ok (.aload_n 0, 1) := by decide +kernel
theorem dX8_feels_40 : decode cX8_feels 40 = .ok (.getfield 7, 3) := by decide +kernel
theorem dX8_feels_43 : decode cX8_feels 43 = .ok (.iconst 4, 1) := by decide +kernel
theorem dX8_feels_44 : decode cX8_feels 44 = .ok (.iload_n 1, 1) := by decide +kernel
theorem dX8_feels_45 : decode cX8_feels 45 = .ok (.imul, 1) := by decide +kernel
theorem dX8_feels_46 : decode cX8_feels 46 = .ok (.iconst 3, 1) := by decide +kernel
theorem dX8_feels_47 : decode cX8_feels 47 = .ok (.iadd, 1) := by decide +kernel
theorem dX8_feels_48 : decode cX8_feels 48 = .ok (.iaload, 1) := by decide +kernel
theorem dX8_feels_49 : decode cX8_feels 49 = .ok (.iload 4, 2) := by decide +kernel
theorem dX8_feels_51 : decode cX8_feels 51 = .ok (.iconst 2, 1) := by decide +kernel
theorem dX8_feels_52 : decode cX8_feels 52 = .ok (.irem, 1) := by decide +kernel
theorem dX8_feels_53 : decode cX8_feels 53 = .ok (.iconst 1, 1) := by decide +kernel
theorem dX8_feels_54 : decode cX8_feels 54 = .ok (.if_icmp .ne 7, 3) := by decide +kernel
theorem dX8_feels_57 : decode cX8_feels 57 = .ok (.iload_n 2, 1) := by decide +kernel
theorem dX8_feels_58 : decode cX8_feels 58 = .ok (.goto 4, 3) := by decide +kernel
theorem dX8_feels_61 : decode cX8_feels 61 = .ok (.iconst 0, 1) := by decide +kernel
theorem dX8_feels_62 : decode cX8_feels 62 = .ok (.iadd, 1) := by decide +kernel
theorem dX8_feels_63 : decode cX8_feels 63 = .ok (.iload 4, 2) := by decide +kernel
theorem dX8_feels_65 : decode cX8_feels 65 = .ok (.iconst 3, 1) := by decide +kernel
theorem dX8_feels_66 : decode cX8_feels 66 = .ok (.if_icmp .ne 12, 3) := by decide +kernel
theorem dX8_feels_69 : decode cX8_feels 69 = .ok (.iload_n 2, 1) := by decide +kernel
theorem dX8_feels_70 : decode cX8_feels 70 = .ok (.iconst 2, 1) := by decide +kernel
theorem dX8_feels_71 : decode cX8_feels 71 = .ok (.if_icmp .le 7, 3) := by decide +kernel
theorem dX8_feels_74 : decode cX8_feels 74 = .ok (.iconst 5, 1) := by decide +kernel
theorem dX8_feels_75 : decode cX8_feels 75 = .ok (.goto 4, 3) := by decide +kernel
theorem dX8_feels_78 : decode cX8_feels 78 = .ok (.iconst 0, 1) := by decide +kernel
theorem dX8_feels_79 : decode cX8_feels 79 = .ok (.iadd, 1) := by decide +kernel
theorem dX8_feels_80 : decode cX8_feels 80 = .ok (.ireturn, 1) := by decide +kernel
theorem dX8_felt_0 : decode cX8_felt 0 = .ok (.aload_n 0, 1) := by decide +kernel
theorem dX8_felt_1 : decode cX8_felt 1 = .ok (.iload_n 1, 1) := by decide +kernel
theorem dX8_felt_2 : decode cX8_felt 2 = .ok (.i2l, 1) := by decide +kernel
theorem dX8_felt_3 : decode cX8_felt 3 = .ok (.invokevirtual 89, 3) := by decide +kernel
theorem dX8_felt_6 : decode cX8_felt 6 = .ok (.ifCond .eq 35, 3) := by decide +kernel
theorem dX8_felt_9 : decode cX8_felt 9 = .ok (.iload_n 2, 1) := by decide +kernel
theorem dX8_felt_10 : decode cX8_felt 10 = .ok (.i2l, 1) := by decide +kernel
theorem dX8_felt_11 : decode cX8_felt 11 = .ok (.lconst 0, 1) := by decide +kernel
theorem dX8_felt_12 : decode cX8_felt 12 = .ok (.ldc2_w 81, 3) := by decide +kernel
theorem dX8_felt_15 : decode cX8_felt 15 = .ok (.invokestatic 72, 3) := by decide +kernel
theorem dX8_felt_18 : decode cX8_felt 18 = .ok (.ifCond .eq 23, 3) := by decide +kernel
theorem dX8_felt_21 : decode cX8_felt 21 = .ok (.iload_n 3, 1) := by decide +kernel
theorem dX8_felt_22 : decode cX8_felt 22 = .ok (.i2l, 1) := by decide +kernel
theorem dX8_felt_23 : decode cX8_felt 23 = .ok (.lconst 0, 1) := by decide +kernel
theorem dX8_felt_24 : decode cX8_felt 24 = .ok (.lconst 1, 1) := by decide +kernel
theorem dX8_felt_25 : decode cX8_felt 25 = .ok (.invokestatic 72, 3) := by decide +kernel
theorem dX8_felt_28 : decode cX8_felt 28 = .ok (.ifCond .eq 13, 3) := by decide +kernel
theorem dX8_felt_31 : decode cX8_felt 31 = .ok (.aload_n 0, 1) := by decide +kernel
theorem dX8_felt_32 : decode cX8_felt 32 = .ok (.iload_n 1, 1) := by decide +kernel
theorem dX8_felt_33 : decode cX8_felt 33 = .ok (.iload_n 2, 1) := by decide +kernel
theorem dX8_felt_34 : decode cX8_felt 34 = .ok (.iload_n 3, 1) := by decide +kernel
theorem dX8_felt_35 : decode cX8_felt 35 = .ok (.invokevirtual 99, 3) := by decide +kernel
theorem dX8_felt_38 : decode cX8_felt 38 = .ok (.goto 4, 3) := by decide +kernel
theorem dX8_felt_41 : decode cX8_felt 41 = .ok (.iconst (-1), 1) := by decide +kernel
theorem dX8_felt_42 : decode cX8_felt 42 = .ok (.ireturn, 1) := by decide +kernel
theorem dX8_personComes_0 : decode cX8_personComes 0 = .ok (.aload_n 0, 1) := by decide +kernel
theorem dX8_personComes_1 : decode cX8_personComes 1 = .ok (.getfield 13, 3) := by decide +kernel
theorem dX8_personComes_4 : decode cX8_personComes 4 = .ok (.iconst 2, 1) := by decide +kernel
theorem dX8_personComes_5 : decode cX8_personComes 5 = .ok (.aload_n 0, 1) := by decide +kernel
theorem dX8_personComes_6 : decode cX8_personComes 6 = .ok (.getfield 76, 3) := by decide +kernel
theorem dX8_personComes_9 : decode cX8_personComes 9 = .ok (.imul, 1) := by decide +kernel
theorem dX8_personComes_10 : decode cX8_personComes 10 = .ok (.iload_n 1, 1) := by decide +kernel
theorem dX8_personComes_11 : decode cX8_personComes 11 = .ok (.iastore, 1) := by decide +kernel
theorem dX8_personComes_12 : decode cX8_personComes 12 = .ok (.aload_n 0, 1) := by decide +kernel
theorem dX8_personComes_13 : decode cX8_personComes 13 = .ok (.getfield 13, 3) := by decide +kernel
theorem dX8_personComes_16 : decode cX8_personComes 16 = .ok (.iconst 2, 1) := by decide +kernel
theorem dX8_personComes_17 : decode cX8_personComes 17 = .ok (.aload_n 0, 1) := by decide +kernel
theorem dX8_personComes_18 : decode cX8_personComes 18 = .ok (.getfield 76, 3) := by decide +kernel
theorem dX8_personComes_21 : decode cX8_personComes 21 = .ok (.imul, 1) := by decide +kernel
theorem dX8_personComes_22 : decode cX8_personComes 22 = .ok (.iconst 1, 1) := by decide +kernel
theorem dX8_personComes_23 : decode cX8_personComes 23 = .ok (.iadd, 1) := by decide +kernel
theorem dX8_personComes_24 : decode cX8_personComes 24 = .ok (.iload_n 3, 1) := by decide +kernel
theorem dX8_personComes_25 : decode cX8_personComes 25 = .ok (.iastore, 1) := by decide +kernel
theorem dX8_personComes_26 : decode cX8_personComes 26 = .ok (.aload_n 0, 1) := by decide +kernel
theorem dX8_personComes_27 : decode cX8_personComes 27 = .ok (.getfield 16, 3) := by decide +kernel
theorem dX8_personComes_30 : decode cX8_personComes 30 = .ok (.iconst 5, 1) := by decide +kernel
theorem dX8_personComes_31 : decode cX8_personComes 31 = .ok (.aload_n 0, 1) := by decide +kernel
theorem dX8_personComes_32 : decode cX8_personComes 32 = .ok (.getfield 76, 3) := by decide +kernel
theorem dX8_personComes_35 : decode cX8_personComes 35 = .ok (.iadd, 1) := by decide +kernel
theorem dX8_personComes_36 : decode cX8_personComes 36 = .ok (.iload_n 2, 1) := by decide +kernel
theorem dX8_personComes_37 : decode cX8_personComes 37 = .ok (.iastore, 1) := by decide +kernel
theorem dX8_personComes_38 : decode cX8_personComes 38 = .ok (.aload_n 0, 1) := by decide +kernel
theorem dX8_personComes_39 : decode cX8_personComes 39 = .ok (.dup, 1) := by decide +kernel
theorem dX8_personComes_40 : decode cX8_personComes 40 = .ok (.getfield 76, 3) := by decide +kernel
theorem dX8_personComes_43 : decode cX8_personComes 43 = .ok (.iconst 1, 1) := by decide +kernel
theorem dX8_personComes_44 : decode cX8_personComes 44 = .ok (.iadd, 1) := by decide +kernel
theorem dX8_personComes_45 : decode cX8_personComes 45 = .ok (.putfield 76, 3) := by decide +kernel
theorem dX8_personComes_48 : decode cX8_personComes 48 = .ok (.return_, 1) := by decide +kernel
theorem dX8_person_0 : decode cX8_person 0 = .ok (.iload_n 1, 1) := by decide +kernel
theorem dX8_person_1 : decode cX8_person 1 = .ok (.i2l, 1) := by decide +kernel
theorem dX8_person_2 : decode cX8_person 2 = .ok (.lconst 0, 1) := by decide +kernel
theorem dX8_person_3 : decode cX8_person 3 = .ok (.ldc2_w 103, 3) := by decide +kernel
theorem dX8_person_6 : decode cX8_person 6 = .ok (.invokestatic 72, 3) := by decide +kernel
theorem dX8_person_9 : decode cX8_person 9 = .ok (.ifCond .eq 30, 3) := by decide +kernel
theorem dX8_person_12 : decode cX8_person 12 = .ok (.iload_n 2, 1) := by decide +kernel
theorem dX8_person_13 : decode cX8_person 13 = .ok (.bipush (-4), 2) := by decide +kernel
theorem dX8_person_15 : decode cX8_person 15 = .ok (.if_icmp .eq 12, 3) := by decide +kernel
theorem dX8_person_18 : decode cX8_person 18 = .ok (.aload_n 0, 1) := by decide +kernel
theorem dX8_person_19 : decode cX8_person 19 = .ok (.iload_n 2, 1) := by decide +kernel
theorem dX8_person_20 : decode cX8_person 20 = .ok (.i2l, 1) := by decide +kernel
theorem dX8_person_21 : decode cX8_person 21 = .ok (.invokevirtual 89, 3) := by decide +kernel
theorem dX8_person_24 : decode cX8_person 24 = .ok (.ifCond .eq 15, 3) := by decide +kernel
theorem dX8_person_27 : decode cX8_person 27 = .ok (.iload_n 3, 1) := by decide +kernel
theorem dX8_person_28 : decode cX8_person 28 = .ok (.i2l, 1) := by decide +kernel
theorem dX8_person_29 : decode cX8_person 29 = .ok (.lconst 0, 1) := by decide +kernel
theorem dX8_person_30 : decode cX8_person 30 = .ok (.ldc2_w 105, 3) := by decide +kernel
theorem dX8_person_33 : decode cX8_person 33 = .ok (.invokestatic 72, 3) := by decide +kernel
theorem dX8_person_36 : decode cX8_person 36 = .ok (.ifCond .ne 5, 3) := by decide +kernel
theorem dX8_person_39 : decode cX8_person 39 = .ok (.iconst (-1), 1) := by decide +kernel
theorem dX8_person_40 : decode cX8_person 40 = .ok (.ireturn, 1) := by decide +kernel
theorem dX8_person_41 : decode cX8_person 41 = .ok (.iload_n 2, 1) := by decide +kernel
theorem dX8_person_42 : decode cX8_person 42 = .ok (.bipush (-4), 2) := by decide +kernel
theorem dX8_person_44 : decode cX8_person 44 = .ok (.if_icmp .eq 16, 3) := by decide +kernel
theorem dX8_person_47 : decode cX8_person 47 = .ok (.aload_n 0, 1) := by decide +kernel
theorem dX8_person_48 : decode cX8_person 48 = .ok (.iload_n 2, 1) := by decide +kernel
theorem dX8_person_49 : decode cX8_person 49 = .ok (.invokevirtual 95, 3) := by decide +kernel
theorem dX8_person_52 : decode cX8_person 52 = .ok (.bipush (-4), 2) := by decide +kernel
theorem dX8_person_54 : decode cX8_person 54 = .ok (.if_icmp .eq 6, 3) := by decide +kernel
theorem dX8_person_57 : decode cX8_person 57 = .ok (.bipush (-2), 2) := by decide +kernel
theorem dX8_person_59 : decode cX8_person 59 = .ok (.ireturn, 1) := by decide +kernel
theorem dX8_person_60 : decode cX8_person 60 = .ok (.aload_n 0, 1) := by decide +kernel
theorem dX8_person_61 : decode cX8_person 61 = .ok (.getfield 76, 3) := by decide +kernel
theorem dX8_person_64 : decode cX8_person 64 = .ok (.bipush 8, 2) := by decide +kernel
theorem dX8_person_66 : decode cX8_person 66 = .ok (.if_icmp .ne 6, 3) := by decide +kernel
theorem dX8_person_69 : decode cX8_person 69 = .ok (.bipush (-3), 2) := by decide +kernel
theorem dX8_person_71 : decode cX8_person 71 = .ok (.ireturn, 1) := by decide +kernel
theorem dX8_person_72 : decode cX8_person 72 = .ok (.aload_n 0, 1) := by decide +kernel
theorem dX8_person_73 : decode cX8_person 73 = .ok (.iload_n 1, 1) := by decide +kernel
theorem dX8_person_74 : decode cX8_person 74 = .ok (.iload_n 2, 1) := by decide +kernel
theorem dX8_person_75 : decode cX8_person 75 = .ok (.iload_n 3, 1) := by decide +kernel
theorem dX8_person_76 : decode cX8_person 76 = .ok (.invokevirtual 107, 3) := by decide +kernel
theorem dX8_person_79 : decode cX8_person 79 = .ok (.aload_n 0, 1) := by decide +kernel
theorem dX8_person_80 : decode cX8_person 80 = .ok (.iconst 0, 1) := by decide +kernel
theorem dX8_person_81 : decode cX8_person 81 = .ok (.putfield 66, 3) := by decide +kernel
theorem dX8_person_84 : decode cX8_person 84 = .ok (.aload_n 0, 1) := by decide +kernel
theorem dX8_person_85 : decode cX8_person 85 = .ok (.getfield 76, 3) := by decide +kernel
theorem dX8_person_88 : decode cX8_person 88 = .ok (.iconst 1, 1) := by decide +kernel
theorem dX8_person_89 : decode cX8_person 89 = .ok (.isub, 1) := by decide +kernel
theorem dX8_person_90 : decode cX8_person 90 = .ok (.ireturn, 1) := by decide +kernel
theorem dX8_told_0 : decode cX8_told 0 = .ok (.aload_n 0, 1) := by decide +kernel
theorem dX8_told_1 : decode cX8_told 1 = .ok (.iload_n 1, 1) := by decide +kernel
theorem dX8_told_2 : decode cX8_told 2 = .ok (.invokevirtual 111, 3) := by decide +kernel
theorem dX8_told_5 : decode cX8_told 5 = .ok (.ifCond .eq 15, 3) := by decide +kernel
theorem dX8_told_8 : decode cX8_told 8 = .ok (.iload_n 2, 1) := by decide +kernel
theorem dX8_told_9 : decode cX8_told 9 = .ok (.i2l, 1) := by decide +kernel
theorem dX8_told_10 : decode cX8_told 10 = .ok (.lconst 0, 1) := by decide +kernel
theorem dX8_told_11 : decode cX8_told 11 = .ok (.ldc2_w 115, 3) := by decide +kernel
theorem dX8_told_14 : decode cX8_told 14 = .ok (.invokestatic 72, 3) := by decide +kernel
theorem dX8_told_17 : decode cX8_told 17 = .ok (.ifCond .ne 5, 3) := by decide +kernel
theorem dX8_told_20 : decode cX8_told 20 = .ok (.iconst (-1), 1) := by decide +kernel
theorem dX8_told_21 : decode cX8_told 21 = .ok (.ireturn, 1) := by decide +kernel
theorem dX8_told_22 : decode cX8_told 22 = .ok (.iload_n 2, 1) := by decide +kernel
theorem dX8_told_23 : decode cX8_told 23 = .ok (.ifCond .ne 14, 3) := by decide +kernel
theorem dX8_told_26 : decode cX8_told 26 = .ok (.aload_n 0, 1) := by decide +kernel
theorem dX8_told_27 : decode cX8_told 27 = .ok (.getfield 13, 3) := by decide +kernel
theorem dX8_told_30 : decode cX8_told 30 = .ok (.iconst 2, 1) := by decide +kernel
theorem dX8_told_31 : decode cX8_told 31 = .ok (.iload_n 1, 1) := by decide +kernel
theorem dX8_told_32 : decode cX8_told 32 = .ok (.imul, 1) := by decide +kernel
theorem dX8_told_33 : decode cX8_told 33 = .ok (.iaload, 1) := by decide +kernel
theorem dX8_told_34 : decode cX8_told 34 = .ok (.goto 29, 3) := by decide +kernel
theorem dX8_told_37 : decode cX8_told 37 = .ok (.iload_n 2, 1) := by decide +kernel
theorem dX8_told_38 : decode cX8_told 38 = .ok (.iconst 1, 1) := by decide +kernel
theorem dX8_told_39 : decode cX8_told 39 = .ok (.if_icmp .ne 14, 3) := by decide +kernel
theorem dX8_told_42 : decode cX8_told 42 = .ok (.aload_n 0, 1) := by decide +kernel
theorem dX8_told_43 : decode cX8_told 43 = .ok (.getfield 16, 3) := by decide +kernel
theorem dX8_told_46 : decode cX8_told 46 = .ok (.iconst 5, 1) := by decide +kernel
theorem dX8_told_47 : decode cX8_told 47 = .ok (.iload_n 1, 1) := by decide +kernel
theorem dX8_told_48 : decode cX8_told 48 = .ok (.iadd, 1) := by decide +kernel
theorem dX8_told_49 : decode cX8_told 49 = .ok (.iaload, 1) := by decide +kernel
theorem dX8_told_50 : decode cX8_told 50 = .ok (.goto 13, 3) := by decide +kernel
theorem dX8_told_53 : decode cX8_told 53 = .ok (.aload_n 0, 1) := by decide +kernel
theorem dX8_told_54 : decode cX8_told 54 = .ok (.getfield 13, 3) := by decide +kernel
theorem dX8_told_57 : decode cX8_told 57 = .ok (.iconst 2, 1) := by decide +kernel
theorem dX8_told_58 : decode cX8_told 58 = .ok (.iload_n 1, 1) := by decide +kernel
theorem dX8_told_59 : decode cX8_told 59 = .ok (.imul, 1) := by decide +kernel
theorem dX8_told_60 : decode cX8_told 60 = .ok (.iconst 1, 1) := by decide +kernel
theorem dX8_told_61 : decode cX8_told 61 = .ok (.iadd, 1) := by decide +kernel
theorem dX8_told_62 : decode cX8_told 62 = .ok (.iaload, 1) := by decide +kernel
theorem dX8_told_63 : decode cX8_told 63 = .ok (.ireturn, 1) := by decide +kernel
theorem dX8_move_0 : decode cX8_move 0 = .ok (.aload_n 0, 1) := by decide +kernel
theorem dX8_move_1 : decode cX8_move 1 = .ok (.iload_n 1, 1) := by decide +kernel
theorem dX8_move_2 : decode cX8_move 2 = .ok (.invokevirtual 111, 3) := by decide +kernel
theorem dX8_move_5 : decode cX8_move 5 = .ok (.ifCond .eq 15, 3) := by decide +kernel
theorem dX8_move_8 : decode cX8_move 8 = .ok (.iload_n 2, 1) := by decide +kernel
theorem dX8_move_9 : decode cX8_move 9 = .ok (.i2l, 1) := by decide +kernel
theorem dX8_move_10 : decode cX8_move 10 = .ok (.lconst 0, 1) := by decide +kernel
theorem dX8_move_11 : decode cX8_move 11 = .ok (.ldc2_w 103, 3) := by decide +kernel
theorem dX8_move_14 : decode cX8_move 14 = .ok (.invokestatic 72, 3) := by decide +kernel
theorem dX8_move_17 : decode cX8_move 17 = .ok (.ifCond .ne 5, 3) := by decide +kernel
theorem dX8_move_20 : decode cX8_move 20 = .ok (.iconst (-1), 1) := by decide +kernel
theorem dX8_move_21 : decode cX8_move 21 = .ok (.ireturn, 1) := by decide +kernel
theorem dX8_move_22 : decode cX8_move 22 = .ok (.aload_n 0, 1) := by decide +kernel
theorem dX8_move_23 : decode cX8_move 23 = .ok (.getfield 13, 3) := by decide +kernel
theorem dX8_move_26 : decode cX8_move 26 = .ok (.iconst 2, 1) := by decide +kernel
theorem dX8_move_27 : decode cX8_move 27 = .ok (.iload_n 1, 1) := by decide +kernel
theorem dX8_move_28 : decode cX8_move 28 = .ok (.imul, 1) := by decide +kernel
theorem dX8_move_29 : decode cX8_move 29 = .ok (.iaload, 1) := by decide +kernel
theorem dX8_move_30 : decode cX8_move 30 = .ok (.istore_n 3, 1) := by decide +kernel
theorem dX8_move_31 : decode cX8_move 31 = .ok (.aload_n 0, 1) := by decide +kernel
theorem dX8_move_32 : decode cX8_move 32 = .ok (.getfield 13, 3) := by decide +kernel
theorem dX8_move_35 : decode cX8_move 35 = .ok (.iconst 2, 1) := by decide +kernel
theorem dX8_move_36 : decode cX8_move 36 = .ok (.iload_n 1, 1) := by decide +kernel
theorem dX8_move_37 : decode cX8_move 37 = .ok (.imul, 1) := by decide +kernel
theorem dX8_move_38 : decode cX8_move 38 = .ok (.iload_n 2, 1) := by decide +kernel
theorem dX8_move_39 : decode cX8_move 39 = .ok (.iastore, 1) := by decide +kernel
theorem dX8_move_40 : decode cX8_move 40 = .ok (.iload_n 3, 1) := by decide +kernel
theorem dX8_move_41 : decode cX8_move 41 = .ok (.ireturn, 1) := by decide +kernel
theorem dX8_take_0 : decode cX8_take 0 = .ok (.iload_n 1, 1) := by decide +kernel
theorem dX8_take_1 : decode cX8_take 1 = .ok (.bipush (-4), 2) := by decide +kernel
theorem dX8_take_3 : decode cX8_take 3 = .ok (.if_icmp .eq 14, 3) := by decide +kernel
theorem dX8_take_6 : decode cX8_take 6 = .ok (.aload_n 0, 1) := by decide +kernel
theorem dX8_take_7 : decode cX8_take 7 = .ok (.iload_n 1, 1) := by decide +kernel
theorem dX8_take_8 : decode cX8_take 8 = .ok (.i2l, 1) := by decide +kernel
theorem dX8_take_9 : decode cX8_take 9 = .ok (.invokevirtual 89, 3) := by decide +kernel
theorem dX8_take_12 : decode cX8_take 12 = .ok (.ifCond .ne 5, 3) := by decide +kernel
theorem dX8_take_15 : decode cX8_take 15 = .ok (.iconst (-1), 1) := by decide +kernel
theorem dX8_take_16 : decode cX8_take 16 = .ok (.ireturn, 1) := by decide +kernel
theorem dX8_take_17 : decode cX8_take 17 = .ok (.iload_n 1, 1) := by decide +kernel
theorem dX8_take_18 : decode cX8_take 18 = .ok (.bipush (-4), 2) := by decide +kernel
theorem dX8_take_20 : decode cX8_take 20 = .ok (.if_icmp .eq 24, 3) := by decide +kernel
theorem dX8_take_23 : decode cX8_take 23 = .ok (.aload_n 0, 1) := by decide +kernel
theorem dX8_take_24 : decode cX8_take 24 = .ok (.iload_n 1, 1) := by decide +kernel
theorem dX8_take_25 : decode cX8_take 25 = .ok (.invokevirtual 95, 3) := by decide +kernel
theorem dX8_take_28 : decode cX8_take 28 = .ok (.ifCond .lt 16, 3) := by decide +kernel
theorem dX8_take_31 : decode cX8_take 31 = .ok (.aload_n 0, 1) := by decide +kernel
theorem dX8_take_32 : decode cX8_take 32 = .ok (.iload_n 1, 1) := by decide +kernel
theorem dX8_take_33 : decode cX8_take 33 = .ok (.invokevirtual 95, 3) := by decide +kernel
theorem dX8_take_36 : decode cX8_take 36 = .ok (.bipush 8, 2) := by decide +kernel
theorem dX8_take_38 : decode cX8_take 38 = .ok (.if_icmp .ge 6, 3) := by decide +kernel
theorem dX8_take_41 : decode cX8_take 41 = .ok (.bipush (-2), 2) := by decide +kernel
theorem dX8_take_43 : decode cX8_take 43 = .ok (.ireturn, 1) := by decide +kernel
theorem dX8_take_44 : decode cX8_take 44 = .ok (.aload_n 0, 1) := by decide +kernel
theorem dX8_take_45 : decode cX8_take 45 = .ok (.getfield 16, 3) := by decide +kernel
theorem dX8_take_48 : decode cX8_take 48 = .ok (.iconst 0, 1) := by decide +kernel
theorem dX8_take_49 : decode cX8_take 49 = .ok (.iaload, 1) := by decide +kernel
theorem dX8_take_50 : decode cX8_take 50 = .ok (.istore_n 2, 1) := by decide +kernel
theorem dX8_take_51 : decode cX8_take 51 = .ok (.aload_n 0, 1) := by decide +kernel
theorem dX8_take_52 : decode cX8_take 52 = .ok (.getfield 16, 3) := by decide +kernel
theorem dX8_take_55 : decode cX8_take 55 = .ok (.iconst 0, 1) := by decide +kernel
theorem dX8_take_56 : decode cX8_take 56 = .ok (.iload_n 1, 1) := by decide +kernel
theorem dX8_take_57 : decode cX8_take 57 = .ok (.iastore, 1) := by decide +kernel
theorem dX8_take_58 : decode cX8_take 58 = .ok (.aload_n 0, 1) := by decide +kernel
theorem dX8_take_59 : decode cX8_take 59 = .ok (.getfield 16, 3) := by decide +kernel
theorem dX8_take_62 : decode cX8_take 62 = .ok (.iconst 1, 1) := by decide +kernel
theorem dX8_take_63 : decode cX8_take 63 = .ok (.iconst 0, 1) := by decide +kernel
theorem dX8_take_64 : decode cX8_take 64 = .ok (.iastore, 1) := by decide +kernel
theorem dX8_take_65 : decode cX8_take 65 = .ok (.iload_n 2, 1) := by decide +kernel
theorem dX8_take_66 : decode cX8_take 66 = .ok (.ireturn, 1) := by decide +kernel
theorem dX8_count_0 : decode cX8_count 0 = .ok (.iload_n 1, 1) := by decide +kernel
theorem dX8_count_1 : decode cX8_count 1 = .ok (.tableswitch 115 0 9 #[55, 60, 65, 72, 79, 86, 93, 98, 103, 110], 55) := by decide +kernel
theorem dX8_count_56 : decode cX8_count 56 = .ok (.aload_n 0, 1) := by decide +kernel
theorem dX8_count_57 : decode cX8_count 57 = .ok (.getfield 69, 3) := by decide +kernel
theorem dX8_count_60 : decode cX8_count 60 = .ok (.ireturn, 1) := by decide +kernel
theorem dX8_count_61 : decode cX8_count 61 = .ok (.aload_n 0, 1) := by decide +kernel
theorem dX8_count_62 : decode cX8_count 62 = .ok (.getfield 76, 3) := by decide +kernel
theorem dX8_count_65 : decode cX8_count 65 = .ok (.ireturn, 1) := by decide +kernel
theorem dX8_count_66 : decode cX8_count 66 = .ok (.aload_n 0, 1) := by decide +kernel
theorem dX8_count_67 : decode cX8_count 67 = .ok (.getfield 16, 3) := by decide +kernel
theorem dX8_count_70 : decode cX8_count 70 = .ok (.iconst 3, 1) := by decide +kernel
theorem dX8_count_71 : decode cX8_count 71 = .ok (.iaload, 1) := by decide +kernel
theorem dX8_count_72 : decode cX8_count 72 = .ok (.ireturn, 1) := by decide +kernel
theorem dX8_count_73 : decode cX8_count 73 = .ok (.aload_n 0, 1) := by decide +kernel
theorem dX8_count_74 : decode cX8_count 74 = .ok (.getfield 16, 3) := by decide +kernel
theorem dX8_count_77 : decode cX8_count 77 = .ok (.iconst 0, 1) := by decide +kernel
theorem dX8_count_78 : decode cX8_count 78 = .ok (.iaload, 1) := by decide +kernel
theorem dX8_count_79 : decode cX8_count 79 = .ok (.ireturn, 1) := by decide +kernel
theorem dX8_count_80 : decode cX8_count 80 = .ok (.aload_n 0, 1) := by decide +kernel
theorem dX8_count_81 : decode cX8_count 81 = .ok (.getfield 16, 3) := by decide +kernel
theorem dX8_count_84 : decode cX8_count 84 = .ok (.iconst 1, 1) := by decide +kernel
theorem dX8_count_85 : decode cX8_count 85 = .ok (.iaload, 1) := by decide +kernel
theorem dX8_count_86 : decode cX8_count 86 = .ok (.ireturn, 1) := by decide +kernel
theorem dX8_count_87 : decode cX8_count 87 = .ok (.aload_n 0, 1) := by decide +kernel
theorem dX8_count_88 : decode cX8_count 88 = .ok (.getfield 16, 3) := by decide +kernel
theorem dX8_count_91 : decode cX8_count 91 = .ok (.iconst 2, 1) := by decide +kernel
theorem dX8_count_92 : decode cX8_count 92 = .ok (.iaload, 1) := by decide +kernel
theorem dX8_count_93 : decode cX8_count 93 = .ok (.ireturn, 1) := by decide +kernel
theorem dX8_count_94 : decode cX8_count 94 = .ok (.aload_n 0, 1) := by decide +kernel
theorem dX8_count_95 : decode cX8_count 95 = .ok (.getfield 60, 3) := by decide +kernel
theorem dX8_count_98 : decode cX8_count 98 = .ok (.ireturn, 1) := by decide +kernel
theorem dX8_count_99 : decode cX8_count 99 = .ok (.aload_n 0, 1) := by decide +kernel
theorem dX8_count_100 : decode cX8_count 100 = .ok (.getfield 56, 3) := by decide +kernel
theorem dX8_count_103 : decode cX8_count 103 = .ok (.ireturn, 1) := by decide +kernel
theorem dX8_count_104 : decode cX8_count 104 = .ok (.aload_n 0, 1) := by decide +kernel
theorem dX8_count_105 : decode cX8_count 105 = .ok (.getfield 16, 3) := by decide +kernel
theorem dX8_count_108 : decode cX8_count 108 = .ok (.iconst 4, 1) := by decide +kernel
theorem dX8_count_109 : decode cX8_count 109 = .ok (.iaload, 1) := by decide +kernel
theorem dX8_count_110 : decode cX8_count 110 = .ok (.ireturn, 1) := by decide +kernel
theorem dX8_count_111 : decode cX8_count 111 = .ok (.aload_n 0, 1) := by decide +kernel
theorem dX8_count_112 : decode cX8_count 112 = .ok (.getfield 66, 3) := by decide +kernel
theorem dX8_count_115 : decode cX8_count 115 = .ok (.ireturn, 1) := by decide +kernel
theorem dX8_count_116 : decode cX8_count 116 = .ok (.iconst (-1), 1) := by decide +kernel
theorem dX8_count_117 : decode cX8_count 117 = .ok (.ireturn, 1) := by decide +kernel
theorem dX8_heed_0 : decode cX8_heed 0 = .ok (.iload_n 1, 1) := by decide +kernel
theorem dX8_heed_1 : decode cX8_heed 1 = .ok (.i2l, 1) := by decide +kernel
theorem dX8_heed_2 : decode cX8_heed 2 = .ok (.lconst 0, 1) := by decide +kernel
theorem dX8_heed_3 : decode cX8_heed 3 = .ok (.ldc2_w 81, 3) := by decide +kernel
theorem dX8_heed_6 : decode cX8_heed 6 = .ok (.invokestatic 72, 3) := by decide +kernel
theorem dX8_heed_9 : decode cX8_heed 9 = .ok (.ifCond .ne 5, 3) := by decide +kernel
theorem dX8_heed_12 : decode cX8_heed 12 = .ok (.iconst (-1), 1) := by decide +kernel
theorem dX8_heed_13 : decode cX8_heed 13 = .ok (.ireturn, 1) := by decide +kernel
theorem dX8_heed_14 : decode cX8_heed 14 = .ok (.aload_n 0, 1) := by decide +kernel
theorem dX8_heed_15 : decode cX8_heed 15 = .ok (.getfield 60, 3) := by decide +kernel
theorem dX8_heed_18 : decode cX8_heed 18 = .ok (.istore_n 2, 1) := by decide +kernel
theorem dX8_heed_19 : decode cX8_heed 19 = .ok (.aload_n 0, 1) := by decide +kernel
theorem dX8_heed_20 : decode cX8_heed 20 = .ok (.iload_n 1, 1) := by decide +kernel
theorem dX8_heed_21 : decode cX8_heed 21 = .ok (.putfield 60, 3) := by decide +kernel
theorem dX8_heed_24 : decode cX8_heed 24 = .ok (.iload_n 2, 1) := by decide +kernel
theorem dX8_heed_25 : decode cX8_heed 25 = .ok (.ireturn, 1) := by decide +kernel
theorem dX8_well_0 : decode cX8_well 0 = .ok (.iload_n 1, 1) := by decide +kernel
theorem dX8_well_1 : decode cX8_well 1 = .ok (.bipush (-4), 2) := by decide +kernel
theorem dX8_well_3 : decode cX8_well 3 = .ok (.if_icmp .eq 17, 3) := by decide +kernel
theorem dX8_well_6 : decode cX8_well 6 = .ok (.iload_n 1, 1) := by decide +kernel
theorem dX8_well_7 : decode cX8_well 7 = .ok (.i2l, 1) := by decide +kernel
theorem dX8_well_8 : decode cX8_well 8 = .ok (.lconst 0, 1) := by decide +kernel
theorem dX8_well_9 : decode cX8_well 9 = .ok (.ldc2_w 103, 3) := by decide +kernel
theorem dX8_well_12 : decode cX8_well 12 = .ok (.invokestatic 72, 3) := by decide +kernel
theorem dX8_well_15 : decode cX8_well 15 = .ok (.ifCond .ne 5, 3) := by decide +kernel
theorem dX8_well_18 : decode cX8_well 18 = .ok (.iconst (-1), 1) := by decide +kernel
theorem dX8_well_19 : decode cX8_well 19 = .ok (.ireturn, 1) := by decide +kernel
theorem dX8_well_20 : decode cX8_well 20 = .ok (.aload_n 0, 1) := by decide +kernel
theorem dX8_well_21 : decode cX8_well 21 = .ok (.getfield 56, 3) := by decide +kernel
theorem dX8_well_24 : decode cX8_well 24 = .ok (.istore_n 2, 1) := by decide +kernel
theorem dX8_well_25 : decode cX8_well 25 = .ok (.aload_n 0, 1) := by decide +kernel
theorem dX8_well_26 : decode cX8_well 26 = .ok (.iload_n 1, 1) := by decide +kernel
theorem dX8_well_27 : decode cX8_well 27 = .ok (.putfield 56, 3) := by decide +kernel
theorem dX8_well_30 : decode cX8_well 30 = .ok (.iload_n 2, 1) := by decide +kernel
theorem dX8_well_31 : decode cX8_well 31 = .ok (.ireturn, 1) := by decide +kernel
theorem dX8_type_0 : decode cX8_type 0 = .ok (.iload_n 1, 1) := by decide +kernel
theorem dX8_type_1 : decode cX8_type 1 = .ok (.i2l, 1) := by decide +kernel
theorem dX8_type_2 : decode cX8_type 2 = .ok (.ldc2_w 117, 3) := by decide +kernel
theorem dX8_type_5 : decode cX8_type 5 = .ok (.ldc2_w 119, 3) := by decide +kernel
theorem dX8_type_8 : decode cX8_type 8 = .ok (.invokestatic 72, 3) := by decide +kernel
theorem dX8_type_11 : decode cX8_type 11 = .ok (.ifCond .ne 5, 3) := by decide +kernel
theorem dX8_type_14 : decode cX8_type 14 = .ok (.iconst (-1), 1) := by decide +kernel
theorem dX8_type_15 : decode cX8_type 15 = .ok (.ireturn, 1) := by decide +kernel
theorem dX8_type_16 : decode cX8_type 16 = .ok (.aload_n 0, 1) := by decide +kernel
theorem dX8_type_17 : decode cX8_type 17 = .ok (.getfield 121, 3) := by decide +kernel
theorem dX8_type_20 : decode cX8_type 20 = .ok (.bipush 120, 2) := by decide +kernel
theorem dX8_type_22 : decode cX8_type 22 = .ok (.if_icmp .ne 6, 3) := by decide +kernel
theorem dX8_type_25 : decode cX8_type 25 = .ok (.bipush (-3), 2) := by decide +kernel
theorem dX8_type_27 : decode cX8_type 27 = .ok (.ireturn, 1) := by decide +kernel
theorem dX8_type_28 : decode cX8_type 28 = .ok (.aload_n 0, 1) := by decide +kernel
theorem dX8_type_29 : decode cX8_type 29 = .ok (.getfield 19, 3) := by decide +kernel
theorem dX8_type_32 : decode cX8_type 32 = .ok (.aload_n 0, 1) := by decide +kernel
theorem dX8_type_33 : decode cX8_type 33 = .ok (.getfield 121, 3) := by decide +kernel
theorem dX8_type_36 : decode cX8_type 36 = .ok (.iload_n 1, 1) := by decide +kernel
theorem dX8_type_37 : decode cX8_type 37 = .ok (.iastore, 1) := by decide +kernel
theorem dX8_type_38 : decode cX8_type 38 = .ok (.aload_n 0, 1) := by decide +kernel
theorem dX8_type_39 : decode cX8_type 39 = .ok (.dup, 1) := by decide +kernel
theorem dX8_type_40 : decode cX8_type 40 = .ok (.getfield 121, 3) := by decide +kernel
theorem dX8_type_43 : decode cX8_type 43 = .ok (.iconst 1, 1) := by decide +kernel
theorem dX8_type_44 : decode cX8_type 44 = .ok (.iadd, 1) := by decide +kernel
theorem dX8_type_45 : decode cX8_type 45 = .ok (.putfield 121, 3) := by decide +kernel
theorem dX8_type_48 : decode cX8_type 48 = .ok (.aload_n 0, 1) := by decide +kernel
theorem dX8_type_49 : decode cX8_type 49 = .ok (.getfield 121, 3) := by decide +kernel
theorem dX8_type_52 : decode cX8_type 52 = .ok (.ireturn, 1) := by decide +kernel
theorem dX8_here_0 : decode cX8_here 0 = .ok (.aload_n 0, 1) := by decide +kernel
theorem dX8_here_1 : decode cX8_here 1 = .ok (.getfield 124, 3) := by decide +kernel
theorem dX8_here_4 : decode cX8_here 4 = .ok (.aload_n 0, 1) := by decide +kernel
theorem dX8_here_5 : decode cX8_here 5 = .ok (.getfield 121, 3) := by decide +kernel
theorem dX8_here_8 : decode cX8_here 8 = .ok (.if_icmp .ge 30, 3) := by decide +kernel
theorem dX8_here_11 : decode cX8_here 11 = .ok (.aload_n 0, 1) := by decide +kernel
theorem dX8_here_12 : decode cX8_here 12 = .ok (.getfield 19, 3) := by decide +kernel
theorem dX8_here_15 : decode cX8_here 15 = .ok (.aload_n 0, 1) := by decide +kernel
theorem dX8_here_16 : decode cX8_here 16 = .ok (.getfield 124, 3) := by decide +kernel
theorem dX8_here_19 : decode cX8_here 19 = .ok (.iaload, 1) := by decide +kernel
theorem dX8_here_20 : decode cX8_here 20 = .ok (.bipush 32, 2) := by decide +kernel
theorem dX8_here_22 : decode cX8_here 22 = .ok (.if_icmp .ne 16, 3) := by decide +kernel
theorem dX8_here_25 : decode cX8_here 25 = .ok (.aload_n 0, 1) := by decide +kernel
theorem dX8_here_26 : decode cX8_here 26 = .ok (.dup, 1) := by decide +kernel
theorem dX8_here_27 : decode cX8_here 27 = .ok (.getfield 124, 3) := by decide +kernel
theorem dX8_here_30 : decode cX8_here 30 = .ok (.iconst 1, 1) := by decide +kernel
theorem dX8_here_31 : decode cX8_here 31 = .ok (.iadd, 1) := by decide +kernel
theorem dX8_here_32 : decode cX8_here 32 = .ok (.putfield 124, 3) := by decide +kernel
theorem dX8_here_35 : decode cX8_here 35 = .ok (.goto (-35), 3) := by decide +kernel
theorem dX8_here_38 : decode cX8_here 38 = .ok (.aload_n 0, 1) := by decide +kernel
theorem dX8_here_39 : decode cX8_here 39 = .ok (.getfield 124, 3) := by decide +kernel
theorem dX8_here_42 : decode cX8_here 42 = .ok (.aload_n 0, 1) := by decide +kernel
theorem dX8_here_43 : decode cX8_here 43 = .ok (.getfield 121, 3) := by decide +kernel
theorem dX8_here_46 : decode cX8_here 46 = .ok (.if_icmp .ge 15, 3) := by decide +kernel
theorem dX8_here_49 : decode cX8_here 49 = .ok (.aload_n 0, 1) := by decide +kernel
theorem dX8_here_50 : decode cX8_here 50 = .ok (.getfield 19, 3) := by decide +kernel
theorem dX8_here_53 : decode cX8_here 53 = .ok (.aload_n 0, 1) := by decide +kernel
theorem dX8_here_54 : decode cX8_here 54 = .ok (.getfield 124, 3) := by decide +kernel
theorem dX8_here_57 : decode cX8_here 57 = .ok (.iaload, 1) := by decide +kernel
theorem dX8_here_58 : decode cX8_here 58 = .ok (.goto 4, 3) := by decide +kernel
theorem dX8_here_61 : decode cX8_here 61 = .ok (.iconst 0, 1) := by decide +kernel
theorem dX8_here_62 : decode cX8_here 62 = .ok (.ireturn, 1) := by decide +kernel
theorem dX8_has_0 : decode cX8_has 0 = .ok (.aload_n 0, 1) := by decide +kernel
theorem dX8_has_1 : decode cX8_has 1 = .ok (.getfield 127, 3) := by decide +kernel
theorem dX8_has_4 : decode cX8_has 4 = .ok (.ifCond .ne 15, 3) := by decide +kernel
theorem dX8_has_7 : decode cX8_has 7 = .ok (.aload_n 0, 1) := by decide +kernel
theorem dX8_has_8 : decode cX8_has 8 = .ok (.invokevirtual 131, 3) := by decide +kernel
theorem dX8_has_11 : decode cX8_has 11 = .ok (.iload_n 1, 1) := by decide +kernel
theorem dX8_has_12 : decode cX8_has 12 = .ok (.if_icmp .ne 7, 3) := by decide +kernel
theorem dX8_has_15 : decode cX8_has 15 = .ok (.iconst 1, 1) := by decide +kernel
theorem dX8_has_16 : decode cX8_has 16 = .ok (.goto 4, 3) := by decide +kernel
theorem dX8_has_19 : decode cX8_has 19 = .ok (.iconst 0, 1) := by decide +kernel
theorem dX8_has_20 : decode cX8_has 20 = .ok (.istore_n 2, 1) := by decide +kernel
theorem dX8_has_21 : decode cX8_has 21 = .ok (.aload_n 0, 1) := by decide +kernel
theorem dX8_has_22 : decode cX8_has 22 = .ok (.dup, 1) := by decide +kernel
theorem dX8_has_23 : decode cX8_has 23 = .ok (.getfield 124, 3) := by decide +kernel
theorem dX8_has_26 : decode cX8_has 26 = .ok (.iload_n 2, 1) := by decide +kernel
theorem dX8_has_27 : decode cX8_has 27 = .ok (.ifCond .eq 7, 3) := by decide +kernel
theorem dX8_has_30 : decode cX8_has 30 = .ok (.iconst 1, 1) := by decide +kernel
theorem dX8_has_31 : decode cX8_has 31 = .ok (.goto 4, 3) := by decide +kernel
theorem dX8_has_34 : decode cX8_has 34 = .ok (.iconst 0, 1) := by decide +kernel
theorem dX8_has_35 : decode cX8_has 35 = .ok (.iadd, 1) := by decide +kernel
theorem dX8_has_36 : decode cX8_has 36 = .ok (.putfield 124, 3) := by decide +kernel
theorem dX8_has_39 : decode cX8_has 39 = .ok (.iload_n 2, 1) := by decide +kernel
theorem dX8_has_40 : decode cX8_has 40 = .ok (.ireturn, 1) := by decide +kernel
theorem dX8_number_0 : decode cX8_number 0 = .ok (.aload_n 0, 1) := by decide +kernel
theorem dX8_number_1 : decode cX8_number 1 = .ok (.getfield 127, 3) := by decide +kernel
theorem dX8_number_4 : decode cX8_number 4 = .ok (.ifCond .ne 20, 3) := by decide +kernel
theorem dX8_number_7 : decode cX8_number 7 = .ok (.aload_n 0, 1) := by decide +kernel
theorem dX8_number_8 : decode cX8_number 8 = .ok (.invokevirtual 131, 3) := by decide +kernel
theorem dX8_number_11 : decode cX8_number 11 = .ok (.i2l, 1) := by decide +kernel
theorem dX8_number_12 : decode cX8_number 12 = .ok (.ldc2_w 135, 3) := by decide +kernel
theorem dX8_number_15 : decode cX8_number 15 = .ok (.ldc2_w 137, 3) := by decide +kernel
theorem dX8_number_18 : decode cX8_number 18 = .ok (.invokestatic 72, 3) := by decide +kernel
theorem dX8_number_21 : decode cX8_number 21 = .ok (.ifCond .ne 10, 3) := by decide +kernel
theorem dX8_number_24 : decode cX8_number 24 = .ok (.aload_n 0, 1) := by decide +kernel
theorem dX8_number_25 : decode cX8_number 25 = .ok (.iconst 1, 1) := by decide +kernel
theorem dX8_number_26 : decode cX8_number 26 = .ok (.putfield 127, 3) := by decide +kernel
theorem dX8_number_29 : decode cX8_number 29 = .ok (.iconst 0, 1) := by decide +kernel
theorem dX8_number_30 : decode cX8_number 30 = .ok (.ireturn, 1) := by decide +kernel
theorem dX8_number_31 : decode cX8_number 31 = .ok (.aload_n 0, 1) := by decide +kernel
theorem dX8_number_32 : decode cX8_number 32 = .ok (.getfield 124, 3) := by decide +kernel
theorem dX8_number_35 : decode cX8_number 35 = .ok (.istore_n 2, 1) := by decide +kernel
theorem dX8_number_36 : decode cX8_number 36 = .ok (.iconst 0, 1) := by decide +kernel
theorem dX8_number_37 : decode cX8_number 37 = .ok (.istore_n 3, 1) := by decide +kernel
theorem dX8_number_38 : decode cX8_number 38 = .ok (.aload_n 0, 1) := by decide +kernel
theorem dX8_number_39 : decode cX8_number 39 = .ok (.getfield 124, 3) := by decide +kernel
theorem dX8_number_42 : decode cX8_number 42 = .ok (.aload_n 0, 1) := by decide +kernel
theorem dX8_number_43 : decode cX8_number 43 = .ok (.getfield 121, 3) := by decide +kernel
theorem dX8_number_46 : decode cX8_number 46 = .ok (.if_icmp .ge 67, 3) := by decide +kernel
theorem dX8_number_49 : decode cX8_number 49 = .ok (.aload_n 0, 1) := by decide +kernel
theorem dX8_number_50 : decode cX8_number 50 = .ok (.getfield 19, 3) := by decide +kernel
theorem dX8_number_53 : decode cX8_number 53 = .ok (.aload_n 0, 1) := by decide +kernel
theorem dX8_number_54 : decode cX8_number 54 = .ok (.getfield 124, 3) := by decide +kernel
theorem dX8_number_57 : decode cX8_number 57 = .ok (.iaload, 1) := by decide +kernel
theorem dX8_number_58 : decode cX8_number 58 = .ok (.i2l, 1) := by decide +kernel
theorem dX8_number_59 : decode cX8_number 59 = .ok (.ldc2_w 135, 3) := by decide +kernel
theorem dX8_number_62 : decode cX8_number 62 = .ok (.ldc2_w 137, 3) := by decide +kernel
theorem dX8_number_65 : decode cX8_number 65 = .ok (.invokestatic 72, 3) := by decide +kernel
theorem dX8_number_68 : decode cX8_number 68 = .ok (.ifCond .eq 45, 3) := by decide +kernel
theorem dX8_number_71 : decode cX8_number 71 = .ok (.iload_n 3, 1) := by decide +kernel
theorem dX8_number_72 : decode cX8_number 72 = .ok (.sipush 9999, 3) := by decide +kernel
theorem dX8_number_75 : decode cX8_number 75 = .ok (.if_icmp .le 7, 3) := by decide +kernel
theorem dX8_number_78 : decode cX8_number 78 = .ok (.iload_n 3, 1) := by decide +kernel
theorem dX8_number_79 : decode cX8_number 79 = .ok (.goto 20, 3) := by decide +kernel
theorem dX8_number_82 : decode cX8_number 82 = .ok (.bipush 10, 2) := by decide +kernel
theorem dX8_number_84 : decode cX8_number 84 = .ok (.iload_n 3, 1) := by decide +kernel
theorem dX8_number_85 : decode cX8_number 85 = .ok (.imul, 1) := by decide +kernel
theorem dX8_number_86 : decode cX8_number 86 = .ok (.aload_n 0, 1) := by decide +kernel
theorem dX8_number_87 : decode cX8_number 87 = .ok (.getfield 19, 3) := by decide +kernel
theorem dX8_number_90 : decode cX8_number 90 = .ok (.aload_n 0, 1) := by decide +kernel
theorem dX8_number_91 : decode cX8_number 91 = .ok (.getfield 124, 3) := by decide +kernel
theorem dX8_number_94 : decode cX8_number 94 = .ok (.iaload, 1) := by decide +kernel
theorem dX8_number_95 : decode cX8_number 95 = .ok (.iadd, 1) := by decide +kernel
theorem dX8_number_96 : decode cX8_number 96 = .ok (.bipush 48, 2) := by decide +kernel
theorem dX8_number_98 : decode cX8_number 98 = .ok (.isub, 1) := by decide +kernel
theorem dX8_number_99 : decode cX8_number 99 = .ok (.istore_n 3, 1) := by decide +kernel
theorem dX8_number_100 : decode cX8_number 100 = .ok (.aload_n 0, 1) := by decide +kernel
theorem dX8_number_101 : decode cX8_number 101 = .ok (.dup, 1) := by decide +kernel
theorem dX8_number_102 : decode cX8_number 102 = .ok (.getfield 124, 3) := by decide +kernel
theorem dX8_number_105 : decode cX8_number 105 = .ok (.iconst 1, 1) := by decide +kernel
theorem dX8_number_106 : decode cX8_number 106 = .ok (.iadd, 1) := by decide +kernel
theorem dX8_number_107 : decode cX8_number 107 = .ok (.putfield 124, 3) := by decide +kernel
theorem dX8_number_110 : decode cX8_number 110 = .ok (.goto (-72), 3) := by decide +kernel
theorem dX8_number_113 : decode cX8_number 113 = .ok (.aload_n 0, 1) := by decide +kernel
theorem dX8_number_114 : decode cX8_number 114 = .ok (.iload_n 3, 1) := by decide +kernel
theorem dX8_number_115 : decode cX8_number 115 = .ok (.iload_n 1, 1) := by decide +kernel
theorem dX8_number_116 : decode cX8_number 116 = .ok (.if_icmp .le 7, 3) := by decide +kernel
theorem dX8_number_119 : decode cX8_number 119 = .ok (.iconst 1, 1) := by decide +kernel
theorem dX8_number_120 : decode cX8_number 120 = .ok (.goto 4, 3) := by decide +kernel
theorem dX8_number_123 : decode cX8_number 123 = .ok (.iconst 0, 1) := by decide +kernel
theorem dX8_number_124 : decode cX8_number 124 = .ok (.putfield 127, 3) := by decide +kernel
theorem dX8_number_127 : decode cX8_number 127 = .ok (.aload_n 0, 1) := by decide +kernel
theorem dX8_number_128 : decode cX8_number 128 = .ok (.aload_n 0, 1) := by decide +kernel
theorem dX8_number_129 : decode cX8_number 129 = .ok (.getfield 127, 3) := by decide +kernel
theorem dX8_number_132 : decode cX8_number 132 = .ok (.ifCond .eq 7, 3) := by decide +kernel
theorem dX8_number_135 : decode cX8_number 135 = .ok (.iload_n 2, 1) := by decide +kernel
theorem dX8_number_136 : decode cX8_number 136 = .ok (.goto 7, 3) := by decide +kernel
theorem dX8_number_139 : decode cX8_number 139 = .ok (.aload_n 0, 1) := by decide +kernel
theorem dX8_number_140 : decode cX8_number 140 = .ok (.getfield 124, 3) := by decide +kernel
theorem dX8_number_143 : decode cX8_number 143 = .ok (.putfield 124, 3) := by decide +kernel
theorem dX8_number_146 : decode cX8_number 146 = .ok (.iload_n 3, 1) := by decide +kernel
theorem dX8_number_147 : decode cX8_number 147 = .ok (.ireturn, 1) := by decide +kernel
theorem dX8_readThing_0 : decode cX8_readThing 0 = .ok (.iconst 4, 1) := by decide +kernel
theorem dX8_readThing_1 : decode cX8_readThing 1 = .ok (.aload_n 0, 1) := by decide +kernel
theorem dX8_readThing_2 : decode cX8_readThing 2 = .ok (.getfield 139, 3) := by decide +kernel
theorem dX8_readThing_5 : decode cX8_readThing 5 = .ok (.imul, 1) := by decide +kernel
theorem dX8_readThing_6 : decode cX8_readThing 6 = .ok (.istore_n 1, 1) := by decide +kernel
theorem dX8_readThing_7 : decode cX8_readThing 7 = .ok (.aload_n 0, 1) := by decide +kernel
theorem dX8_readThing_8 : decode cX8_readThing 8 = .ok (.getfield 127, 3) := by decide +kernel
theorem dX8_readThing_11 : decode cX8_readThing 11 = .ok (.ifCond .eq 7, 3) := by decide +kernel
theorem dX8_readThing_14 : decode cX8_readThing 14 = .ok (.iconst 0, 1) := by decide +kernel
theorem dX8_readThing_15 : decode cX8_readThing 15 = .ok (.goto 7, 3) := by decide +kernel
theorem dX8_readThing_18 : decode cX8_readThing 18 = .ok (.aload_n 0, 1) := by decide +kernel
theorem dX8_readThing_19 : decode cX8_readThing 19 = .ok (.invokevirtual 131, 3) := by decide +kernel
theorem dX8_readThing_22 : decode cX8_readThing 22 = .ok (.istore_n 2, 1) := by decide +kernel
theorem dX8_readThing_23 : decode cX8_readThing 23 = .ok (.aload_n 0, 1) := by decide +kernel
theorem dX8_readThing_24 : decode cX8_readThing 24 = .ok (.getfield 22, 3) := by decide +kernel
theorem dX8_readThing_27 : decode cX8_readThing 27 = .ok (.iload_n 1, 1) := by decide +kernel
theorem dX8_readThing_28 : decode cX8_readThing 28 = .ok (.iload_n 2, 1) := by decide +kernel
theorem dX8_readThing_29 : decode cX8_readThing 29 = .ok (.bipush 112, 2) := by decide +kernel
theorem dX8_readThing_31 : decode cX8_readThing 31 = .ok (.if_icmp .ne 7, 3) := by decide +kernel
theorem dX8_readThing_34 : decode cX8_readThing 34 = .ok (.iconst 0, 1) := by decide +kernel
theorem dX8_readThing_35 : decode cX8_readThing 35 = .ok (.goto 24, 3) := by decide +kernel
theorem dX8_readThing_38 : decode cX8_readThing 38 = .ok (.iload_n 2, 1) := by decide +kernel
theorem dX8_readThing_39 : decode cX8_readThing 39 = .ok (.bipush 98, 2) := by decide +kernel
theorem dX8_readThing_41 : decode cX8_readThing 41 = .ok (.if_icmp .ne 7, 3) := by decide +kernel
theorem dX8_readThing_44 : decode cX8_readThing 44 = .ok (.iconst 1, 1) := by decide +kernel
theorem dX8_readThing_45 : decode cX8_readThing 45 = .ok (.goto 14, 3) := by decide +kernel
theorem dX8_readThing_48 : decode cX8_readThing 48 = .ok (.iload_n 2, 1) := by decide +kernel
theorem dX8_readThing_49 : decode cX8_readThing 49 = .ok (.bipush 117, 2) := by decide +kernel
theorem dX8_readThing_51 : decode cX8_readThing 51 = .ok (.if_icmp .ne 7, 3) := by decide +kernel
theorem dX8_readThing_54 : decode cX8_readThing 54 = .ok (.iconst 2, 1) := by decide +kernel
theorem dX8_readThing_55 : decode cX8_readThing 55 = .ok (.goto 4, 3) := by decide +kernel
theorem dX8_readThing_58 : decode cX8_readThing 58 = .ok (.iconst 3, 1) := by decide +kernel
theorem dX8_readThing_59 : decode cX8_readThing 59 = .ok (.iastore, 1) := by decide +kernel
theorem dX8_readThing_60 : decode cX8_readThing 60 = .ok (.aload_n 0, 1) := by decide +kernel
theorem dX8_readThing_61 : decode cX8_readThing 61 = .ok (.aload_n 0, 1) := by decide +kernel
theorem dX8_readThing_62 : decode cX8_readThing 62 = .ok (.getfield 127, 3) := by decide +kernel
theorem dX8_readThing_65 : decode cX8_readThing 65 = .ok (.ifCond .ne 27, 3) := by decide +kernel
theorem dX8_readThing_68 : decode cX8_readThing 68 = .ok (.iload_n 2, 1) := by decide +kernel
theorem dX8_readThing_69 : decode cX8_readThing 69 = .ok (.bipush 112, 2) := by decide +kernel
theorem dX8_readThing_71 : decode cX8_readThing 71 = .ok (.if_icmp .eq 25, 3) := by decide +kernel
theorem dX8_readThing_74 : decode cX8_readThing 74 = .ok (.iload_n 2, 1) := by decide +kernel
theorem dX8_readThing_75 : decode cX8_readThing 75 = .ok (.bipush 98, 2) := by decide +kernel
theorem dX8_readThing_77 : decode cX8_readThing 77 = .ok (.if_icmp .eq 19, 3) := by decide +kernel
theorem dX8_readThing_80 : decode cX8_readThing 80 = .ok (.iload_n 2, 1) := by decide +kernel
theorem dX8_readThing_81 : decode cX8_readThing 81 = .ok (.bipush 117, 2) := by decide +kernel
theorem dX8_readThing_83 : decode cX8_readThing 83 = .ok (.if_icmp .eq 13, 3) := by decide +kernel
theorem dX8_readThing_86 : decode cX8_readThing 86 = .ok (.iload_n 2, 1) := by decide +kernel
theorem dX8_readThing_87 : decode cX8_readThing 87 = .ok (.bipush 109, 2) := by decide +kernel
theorem dX8_readThing_89 : decode cX8_readThing 89 = .ok (.if_icmp .eq 7, 3) := by decide +kernel
theorem dX8_readThing_92 : decode cX8_readThing 92 = .ok (.iconst 1, 1) := by decide +kernel
theorem dX8_readThing_93 : decode cX8_readThing 93 = .ok (.goto 4, 3) := by decide +kernel
theorem dX8_readThing_96 : decode cX8_readThing 96 = .ok (.iconst 0, 1) := by decide +kernel
theorem dX8_readThing_97 : decode cX8_readThing 97 = .ok (.putfield 127, 3) := by decide +kernel
theorem dX8_readThing_100 : decode cX8_readThing 100 = .ok (.aload_n 0, 1) := by decide +kernel
theorem dX8_readThing_101 : decode cX8_readThing 101 = .ok (.dup, 1) := by decide +kernel
theorem dX8_readThing_102 : decode cX8_readThing 102 = .ok (.getfield 124, 3) := by decide +kernel
theorem dX8_readThing_105 : decode cX8_readThing 105 = .ok (.aload_n 0, 1) := by decide +kernel
theorem dX8_readThing_106 : decode cX8_readThing 106 = .ok (.getfield 127, 3) := by decide +kernel
theorem dX8_readThing_109 : decode cX8_readThing 109 = .ok (.ifCond .eq 7, 3) := by decide +kernel
theorem dX8_readThing_112 : decode cX8_readThing 112 = .ok (.iconst 0, 1) := by decide +kernel
theorem dX8_readThing_113 : decode cX8_readThing 113 = .ok (.goto 4, 3) := by decide +kernel
theorem dX8_readThing_116 : decode cX8_readThing 116 = .ok (.iconst 1, 1) := by decide +kernel
theorem dX8_readThing_117 : decode cX8_readThing 117 = .ok (.iadd, 1) := by decide +kernel
theorem dX8_readThing_118 : decode cX8_readThing 118 = .ok (.putfield 124, 3) := by decide +kernel
theorem dX8_readThing_121 : decode cX8_readThing 121 = .ok (.aload_n 0, 1) := by decide +kernel
theorem dX8_readThing_122 : decode cX8_readThing 122 = .ok (.getfield 22, 3) := by decide +kernel
theorem dX8_readThing_125 : decode cX8_readThing 125 = .ok (.iload_n 1, 1) := by decide +kernel
theorem dX8_readThing_126 : decode cX8_readThing 126 = .ok (.iconst 1, 1) := by decide +kernel
theorem dX8_readThing_127 : decode cX8_readThing 127 = .ok (.iadd, 1) := by decide +kernel
theorem dX8_readThing_128 : decode cX8_readThing 128 = .ok (.aload_n 0, 1) := by decide +kernel
theorem dX8_readThing_129 : decode cX8_readThing 129 = .ok (.bipush 99, 2) := by decide +kernel
theorem dX8_readThing_131 : decode cX8_readThing 131 = .ok (.invokevirtual 142, 3) := by decide +kernel
theorem dX8_readThing_134 : decode cX8_readThing 134 = .ok (.iastore, 1) := by decide +kernel
theorem dX8_readThing_135 : decode cX8_readThing 135 = .ok (.aload_n 0, 1) := by decide +kernel
theorem dX8_readThing_136 : decode cX8_readThing 136 = .ok (.getfield 22, 3) := by decide +kernel
theorem dX8_readThing_139 : decode cX8_readThing 139 = .ok (.iload_n 1, 1) := by decide +kernel
theorem dX8_readThing_140 : decode cX8_readThing 140 = .ok (.iconst 2, 1) := by decide +kernel
theorem dX8_readThing_141 : decode cX8_readThing 141 = .ok (.iadd, 1) := by decide +kernel
theorem dX8_readThing_142 : decode cX8_readThing 142 = .ok (.aload_n 0, 1) := by decide +kernel
theorem dX8_readThing_143 : decode cX8_readThing 143 = .ok (.bipush 108, 2) := by decide +kernel
theorem dX8_readThing_145 : decode cX8_readThing 145 = .ok (.invokevirtual 145, 3) := by decide +kernel
theorem dX8_readThing_148 : decode cX8_readThing 148 = .ok (.ifCond .eq 12, 3) := by decide +kernel
theorem dX8_readThing_151 : decode cX8_readThing 151 = .ok (.aload_n 0, 1) := by decide +kernel
theorem dX8_readThing_152 : decode cX8_readThing 152 = .ok (.bipush 30, 2) := by decide +kernel
theorem dX8_readThing_154 : decode cX8_readThing 154 = .ok (.invokevirtual 142, 3) := by decide +kernel
theorem dX8_readThing_157 : decode cX8_readThing 157 = .ok (.goto 4, 3) := by decide +kernel
theorem dX8_readThing_160 : decode cX8_readThing 160 = .ok (.iconst 0, 1) := by decide +kernel
theorem dX8_readThing_161 : decode cX8_readThing 161 = .ok (.iastore, 1) := by decide +kernel
theorem dX8_readThing_162 : decode cX8_readThing 162 = .ok (.aload_n 0, 1) := by decide +kernel
theorem dX8_readThing_163 : decode cX8_readThing 163 = .ok (.getfield 22, 3) := by decide +kernel
theorem dX8_readThing_166 : decode cX8_readThing 166 = .ok (.iload_n 1, 1) := by decide +kernel
theorem dX8_readThing_167 : decode cX8_readThing 167 = .ok (.iconst 3, 1) := by decide +kernel
theorem dX8_readThing_168 : decode cX8_readThing 168 = .ok (.iadd, 1) := by decide +kernel
theorem dX8_readThing_169 : decode cX8_readThing 169 = .ok (.aload_n 0, 1) := by decide +kernel
theorem dX8_readThing_170 : decode cX8_readThing 170 = .ok (.bipush 99, 2) := by decide +kernel
theorem dX8_readThing_172 : decode cX8_readThing 172 = .ok (.invokevirtual 145, 3) := by decide +kernel
theorem dX8_readThing_175 : decode cX8_readThing 175 = .ok (.ifCond .eq 12, 3) := by decide +kernel
theorem dX8_readThing_178 : decode cX8_readThing 178 = .ok (.aload_n 0, 1) := by decide +kernel
theorem dX8_readThing_179 : decode cX8_readThing 179 = .ok (.bipush 30, 2) := by decide +kernel
theorem dX8_readThing_181 : decode cX8_readThing 181 = .ok (.invokevirtual 142, 3) := by decide +kernel
theorem dX8_readThing_184 : decode cX8_readThing 184 = .ok (.goto 4, 3) := by decide +kernel
theorem dX8_readThing_187 : decode cX8_readThing 187 = .ok (.iconst 0, 1) := by decide +kernel
theorem dX8_readThing_188 : decode cX8_readThing 188 = .ok (.iastore, 1) := by decide +kernel
theorem dX8_readThing_189 : decode cX8_readThing 189 = .ok (.aload_n 0, 1) := by decide +kernel
theorem dX8_readThing_190 : decode cX8_readThing 190 = .ok (.dup, 1) := by decide +kernel
theorem dX8_readThing_191 : decode cX8_readThing 191 = .ok (.getfield 139, 3) := by decide +kernel
theorem dX8_readThing_194 : decode cX8_readThing 194 = .ok (.iconst 1, 1) := by decide +kernel
theorem dX8_readThing_195 : decode cX8_readThing 195 = .ok (.iadd, 1) := by decide +kernel
theorem dX8_readThing_196 : decode cX8_readThing 196 = .ok (.putfield 139, 3) := by decide +kernel
theorem dX8_readThing_199 : decode cX8_readThing 199 = .ok (.return_, 1) := by decide +kernel
theorem dX8_readHad_0 : decode cX8_readHad 0 = .ok (.aload_n 0, 1) := by decide +kernel
theorem dX8_readHad_1 : decode cX8_readHad 1 = .ok (.getfield 127, 3) := by decide +kernel
theorem dX8_readHad_4 : decode cX8_readHad 4 = .ok (.ifCond .eq 7, 3) := by decide +kernel
theorem dX8_readHad_7 : decode cX8_readHad 7 = .ok (.iconst (-1), 1) := by decide +kernel
theorem dX8_readHad_8 : decode cX8_readHad 8 = .ok (.goto 10, 3) := by decide +kernel
theorem dX8_readHad_11 : decode cX8_readHad 11 = .ok (.aload_n 0, 1) := by decide +kernel
theorem dX8_readHad_12 : decode cX8_readHad 12 = .ok (.invokevirtual 131, 3) := by decide +kernel
theorem dX8_readHad_15 : decode cX8_readHad 15 = .ok (.bipush 48, 2) := by decide +kernel
theorem dX8_readHad_17 : decode cX8_readHad 17 = .ok (.isub, 1) := by decide +kernel
theorem dX8_readHad_18 : decode cX8_readHad 18 = .ok (.istore_n 1, 1) := by decide +kernel
theorem dX8_readHad_19 : decode cX8_readHad 19 = .ok (.aload_n 0, 1) := by decide +kernel
theorem dX8_readHad_20 : decode cX8_readHad 20 = .ok (.aload_n 0, 1) := by decide +kernel
theorem dX8_readHad_21 : decode cX8_readHad 21 = .ok (.getfield 127, 3) := by decide +kernel
theorem dX8_readHad_24 : decode cX8_readHad 24 = .ok (.ifCond .ne 19, 3) := by decide +kernel
theorem dX8_readHad_27 : decode cX8_readHad 27 = .ok (.iload_n 1, 1) := by decide +kernel
theorem dX8_readHad_28 : decode cX8_readHad 28 = .ok (.i2l, 1) := by decide +kernel
theorem dX8_readHad_29 : decode cX8_readHad 29 = .ok (.lconst 0, 1) := by decide +kernel
theorem dX8_readHad_30 : decode cX8_readHad 30 = .ok (.aload_n 0, 1) := by decide +kernel
theorem dX8_readHad_31 : decode cX8_readHad 31 = .ok (.getfield 139, 3) := by decide +kernel
theorem dX8_readHad_34 : decode cX8_readHad 34 = .ok (.iconst 1, 1) := by decide +kernel
theorem dX8_readHad_35 : decode cX8_readHad 35 = .ok (.isub, 1) := by decide +kernel
theorem dX8_readHad_36 : decode cX8_readHad 36 = .ok (.i2l, 1) := by decide +kernel
theorem dX8_readHad_37 : decode cX8_readHad 37 = .ok (.invokestatic 72, 3) := by decide +kernel
theorem dX8_readHad_40 : decode cX8_readHad 40 = .ok (.ifCond .ne 7, 3) := by decide +kernel
theorem dX8_readHad_43 : decode cX8_readHad 43 = .ok (.iconst 1, 1) := by decide +kernel
theorem dX8_readHad_44 : decode cX8_readHad 44 = .ok (.goto 4, 3) := by decide +kernel
theorem dX8_readHad_47 : decode cX8_readHad 47 = .ok (.iconst 0, 1) := by decide +kernel
theorem dX8_readHad_48 : decode cX8_readHad 48 = .ok (.putfield 127, 3) := by decide +kernel
theorem dX8_readHad_51 : decode cX8_readHad 51 = .ok (.iconst 0, 1) := by decide +kernel
theorem dX8_readHad_52 : decode cX8_readHad 52 = .ok (.istore_n 2, 1) := by decide +kernel
theorem dX8_readHad_53 : decode cX8_readHad 53 = .ok (.iload_n 2, 1) := by decide +kernel
theorem dX8_readHad_54 : decode cX8_readHad 54 = .ok (.aload_n 0, 1) := by decide +kernel
theorem dX8_readHad_55 : decode cX8_readHad 55 = .ok (.getfield 148, 3) := by decide +kernel
theorem dX8_readHad_58 : decode cX8_readHad 58 = .ok (.if_icmp .ge 39, 3) := by decide +kernel
theorem dX8_readHad_61 : decode cX8_readHad 61 = .ok (.aload_n 0, 1) := by decide +kernel
theorem dX8_readHad_62 : decode cX8_readHad 62 = .ok (.getfield 127, 3) := by decide +kernel
theorem dX8_readHad_65 : decode cX8_readHad 65 = .ok (.ifCond .ne 32, 3) := by decide +kernel
theorem dX8_readHad_68 : decode cX8_readHad 68 = .ok (.aload_n 0, 1) := by decide +kernel
theorem dX8_readHad_69 : decode cX8_readHad 69 = .ok (.aload_n 0, 1) := by decide +kernel
theorem dX8_readHad_70 : decode cX8_readHad 70 = .ok (.getfield 25, 3) := by decide +kernel
theorem dX8_readHad_73 : decode cX8_readHad 73 = .ok (.iconst 3, 1) := by decide +kernel
theorem dX8_readHad_74 : decode cX8_readHad 74 = .ok (.iload_n 2, 1) := by decide +kernel
theorem dX8_readHad_75 : decode cX8_readHad 75 = .ok (.imul, 1) := by decide +kernel
theorem dX8_readHad_76 : decode cX8_readHad 76 = .ok (.iconst 1, 1) := by decide +kernel
theorem dX8_readHad_77 : decode cX8_readHad 77 = .ok (.iadd, 1) := by decide +kernel
theorem dX8_readHad_78 : decode cX8_readHad 78 = .ok (.iaload, 1) := by decide +kernel
theorem dX8_readHad_79 : decode cX8_readHad 79 = .ok (.iload_n 1, 1) := by decide +kernel
theorem dX8_readHad_80 : decode cX8_readHad 80 = .ok (.if_icmp .ne 7, 3) := by decide +kernel
theorem dX8_readHad_83 : decode cX8_readHad 83 = .ok (.iconst 1, 1) := by decide +kernel
theorem dX8_readHad_84 : decode cX8_readHad 84 = .ok (.goto 4, 3) := by decide +kernel
theorem dX8_readHad_87 : decode cX8_readHad 87 = .ok (.iconst 0, 1) := by decide +kernel
theorem dX8_readHad_88 : decode cX8_readHad 88 = .ok (.putfield 127, 3) := by decide +kernel
theorem dX8_readHad_91 : decode cX8_readHad 91 = .ok (.iinc 2 1, 3) := by decide +kernel
theorem dX8_readHad_94 : decode cX8_readHad 94 = .ok (.goto (-41), 3) := by decide +kernel
theorem dX8_readHad_97 : decode cX8_readHad 97 = .ok (.aload_n 0, 1) := by decide +kernel
theorem dX8_readHad_98 : decode cX8_readHad 98 = .ok (.dup, 1) := by decide +kernel
theorem dX8_readHad_99 : decode cX8_readHad 99 = .ok (.getfield 124, 3) := by decide +kernel
theorem dX8_readHad_102 : decode cX8_readHad 102 = .ok (.aload_n 0, 1) := by decide +kernel
theorem dX8_readHad_103 : decode cX8_readHad 103 = .ok (.getfield 127, 3) := by decide +kernel
theorem dX8_readHad_106 : decode cX8_readHad 106 = .ok (.ifCond .eq 7, 3) := by decide +kernel
theorem dX8_readHad_109 : decode cX8_readHad 109 = .ok (.iconst 0, 1) := by decide +kernel
theorem dX8_readHad_110 : decode cX8_readHad 110 = .ok (.goto 4, 3) := by decide +kernel
theorem dX8_readHad_113 : decode cX8_readHad 113 = .ok (.iconst 1, 1) := by decide +kernel
theorem dX8_readHad_114 : decode cX8_readHad 114 = .ok (.iadd, 1) := by decide +kernel
theorem dX8_readHad_115 : decode cX8_readHad 115 = .ok (.putfield 124, 3) := by decide +kernel
theorem dX8_readHad_118 : decode cX8_readHad 118 = .ok (.iload_n 1, 1) := by decide +kernel
theorem dX8_readHad_119 : decode cX8_readHad 119 = .ok (.ireturn, 1) := by decide +kernel
theorem dX8_readPerson_0 : decode cX8_readPerson 0 = .ok (.iconst 3, 1) := by decide +kernel
theorem dX8_readPerson_1 : decode cX8_readPerson 1 = .ok (.aload_n 0, 1) := by decide +kernel
theorem dX8_readPerson_2 : decode cX8_readPerson 2 = .ok (.getfield 148, 3) := by decide +kernel
theorem dX8_readPerson_5 : decode cX8_readPerson 5 = .ok (.imul, 1) := by decide +kernel
theorem dX8_readPerson_6 : decode cX8_readPerson 6 = .ok (.istore_n 1, 1) := by decide +kernel
theorem dX8_readPerson_7 : decode cX8_readPerson 7 = .ok (.aload_n 0, 1) := by decide +kernel
theorem dX8_readPerson_8 : decode cX8_readPerson 8 = .ok (.getfield 25, 3) := by decide +kernel
theorem dX8_readPerson_11 : decode cX8_readPerson 11 = .ok (.iload_n 1, 1) := by decide +kernel
theorem dX8_readPerson_12 : decode cX8_readPerson 12 = .ok (.aload_n 0, 1) := by decide +kernel
theorem dX8_readPerson_13 : decode cX8_readPerson 13 = .ok (.bipush 11, 2) := by decide +kernel
theorem dX8_readPerson_15 : decode cX8_readPerson 15 = .ok (.invokevirtual 142, 3) := by decide +kernel
theorem dX8_readPerson_18 : decode cX8_readPerson 18 = .ok (.iastore, 1) := by decide +kernel
theorem dX8_readPerson_19 : decode cX8_readPerson 19 = .ok (.aload_n 0, 1) := by decide +kernel
theorem dX8_readPerson_20 : decode cX8_readPerson 20 = .ok (.getfield 25, 3) := by decide +kernel
theorem dX8_readPerson_23 : decode cX8_readPerson 23 = .ok (.iload_n 1, 1) := by decide +kernel
theorem dX8_readPerson_24 : decode cX8_readPerson 24 = .ok (.iconst 1, 1) := by decide +kernel
theorem dX8_readPerson_25 : decode cX8_readPerson 25 = .ok (.iadd, 1) := by decide +kernel
theorem dX8_readPerson_26 : decode cX8_readPerson 26 = .ok (.aload_n 0, 1) := by decide +kernel
theorem dX8_readPerson_27 : decode cX8_readPerson 27 = .ok (.bipush 61, 2) := by decide +kernel
theorem dX8_readPerson_29 : decode cX8_readPerson 29 = .ok (.invokevirtual 145, 3) := by decide +kernel
theorem dX8_readPerson_32 : decode cX8_readPerson 32 = .ok (.ifCond .eq 10, 3) := by decide +kernel
theorem dX8_readPerson_35 : decode cX8_readPerson 35 = .ok (.aload_n 0, 1) := by decide +kernel
theorem dX8_readPerson_36 : decode cX8_readPerson 36 = .ok (.invokevirtual 151, 3) := by decide +kernel
theorem dX8_readPerson_39 : decode cX8_readPerson 39 = .ok (.goto 5, 3) := by decide +kernel
theorem dX8_readPerson_42 : decode cX8_readPerson 42 = .ok (.bipush (-4), 2) := by decide +kernel
theorem dX8_readPerson_44 : decode cX8_readPerson 44 = .ok (.iastore, 1) := by decide +kernel
theorem dX8_readPerson_45 : decode cX8_readPerson 45 = .ok (.aload_n 0, 1) := by decide +kernel
theorem dX8_readPerson_46 : decode cX8_readPerson 46 = .ok (.getfield 25, 3) := by decide +kernel
theorem dX8_readPerson_49 : decode cX8_readPerson 49 = .ok (.iload_n 1, 1) := by decide +kernel
theorem dX8_readPerson_50 : decode cX8_readPerson 50 = .ok (.iconst 2, 1) := by decide +kernel
theorem dX8_readPerson_51 : decode cX8_readPerson 51 = .ok (.iadd, 1) := by decide +kernel
theorem dX8_readPerson_52 : decode cX8_readPerson 52 = .ok (.aload_n 0, 1) := by decide +kernel
theorem dX8_readPerson_53 : decode cX8_readPerson 53 = .ok (.bipush 43, 2) := by decide +kernel
theorem dX8_readPerson_55 : decode cX8_readPerson 55 = .ok (.invokevirtual 145, 3) := by decide +kernel
theorem dX8_readPerson_58 : decode cX8_readPerson 58 = .ok (.ifCond .eq 12, 3) := by decide +kernel
theorem dX8_readPerson_61 : decode cX8_readPerson 61 = .ok (.aload_n 0, 1) := by decide +kernel
theorem dX8_readPerson_62 : decode cX8_readPerson 62 = .ok (.bipush 20, 2) := by decide +kernel
theorem dX8_readPerson_64 : decode cX8_readPerson 64 = .ok (.invokevirtual 142, 3) := by decide +kernel
theorem dX8_readPerson_67 : decode cX8_readPerson 67 = .ok (.goto 4, 3) := by decide +kernel
theorem dX8_readPerson_70 : decode cX8_readPerson 70 = .ok (.iconst 0, 1) := by decide +kernel
theorem dX8_readPerson_71 : decode cX8_readPerson 71 = .ok (.iastore, 1) := by decide +kernel
theorem dX8_readPerson_72 : decode cX8_readPerson 72 = .ok (.aload_n 0, 1) := by decide +kernel
theorem dX8_readPerson_73 : decode cX8_readPerson 73 = .ok (.dup, 1) := by decide +kernel
theorem dX8_readPerson_74 : decode cX8_readPerson 74 = .ok (.getfield 148, 3) := by decide +kernel
theorem dX8_readPerson_77 : decode cX8_readPerson 77 = .ok (.iconst 1, 1) := by decide +kernel
theorem dX8_readPerson_78 : decode cX8_readPerson 78 = .ok (.iadd, 1) := by decide +kernel
theorem dX8_readPerson_79 : decode cX8_readPerson 79 = .ok (.putfield 148, 3) := by decide +kernel
theorem dX8_readPerson_82 : decode cX8_readPerson 82 = .ok (.return_, 1) := by decide +kernel
theorem dX8_road_0 : decode cX8_road 0 = .ok (.aload_n 0, 1) := by decide +kernel
theorem dX8_road_1 : decode cX8_road 1 = .ok (.iconst 0, 1) := by decide +kernel
theorem dX8_road_2 : decode cX8_road 2 = .ok (.putfield 124, 3) := by decide +kernel
theorem dX8_road_5 : decode cX8_road 5 = .ok (.aload_n 0, 1) := by decide +kernel
theorem dX8_road_6 : decode cX8_road 6 = .ok (.iconst 0, 1) := by decide +kernel
theorem dX8_road_7 : decode cX8_road 7 = .ok (.putfield 127, 3) := by decide +kernel
theorem dX8_road_10 : decode cX8_road 10 = .ok (.aload_n 0, 1) := by decide +kernel
theorem dX8_road_11 : decode cX8_road 11 = .ok (.iconst 0, 1) := by decide +kernel
theorem dX8_road_12 : decode cX8_road 12 = .ok (.putfield 139, 3) := by decide +kernel
theorem dX8_road_15 : decode cX8_road 15 = .ok (.aload_n 0, 1) := by decide +kernel
theorem dX8_road_16 : decode cX8_road 16 = .ok (.iconst 0, 1) := by decide +kernel
theorem dX8_road_17 : decode cX8_road 17 = .ok (.putfield 148, 3) := by decide +kernel
theorem dX8_road_20 : decode cX8_road 20 = .ok (.aload_n 0, 1) := by decide +kernel
theorem dX8_road_21 : decode cX8_road 21 = .ok (.bipush (-4), 2) := by decide +kernel
theorem dX8_road_23 : decode cX8_road 23 = .ok (.putfield 154, 3) := by decide +kernel
theorem dX8_road_26 : decode cX8_road 26 = .ok (.iconst 1, 1) := by decide +kernel
theorem dX8_road_27 : decode cX8_road 27 = .ok (.istore_n 1, 1) := by decide +kernel
theorem dX8_road_28 : decode cX8_road 28 = .ok (.iload_n 1, 1) := by decide +kernel
theorem dX8_road_29 : decode cX8_road 29 = .ok (.ifCond .eq 34, 3) := by decide +kernel
theorem dX8_road_32 : decode cX8_road 32 = .ok (.aload_n 0, 1) := by decide +kernel
theorem dX8_road_33 : decode cX8_road 33 = .ok (.invokevirtual 157, 3) := by decide +kernel
theorem dX8_road_36 : decode cX8_road 36 = .ok (.aload_n 0, 1) := by decide +kernel
theorem dX8_road_37 : decode cX8_road 37 = .ok (.getfield 139, 3) := by decide +kernel
theorem dX8_road_40 : decode cX8_road 40 = .ok (.bipush 10, 2) := by decide +kernel
theorem dX8_road_42 : decode cX8_road 42 = .ok (.if_icmp .ge 16, 3) := by decide +kernel
theorem dX8_road_45 : decode cX8_road 45 = .ok (.aload_n 0, 1) := by decide +kernel
theorem dX8_road_46 : decode cX8_road 46 = .ok (.bipush 44, 2) := by decide +kernel
theorem dX8_road_48 : decode cX8_road 48 = .ok (.invokevirtual 145, 3) := by decide +kernel
theorem dX8_road_51 : decode cX8_road 51 = .ok (.ifCond .eq 7, 3) := by decide +kernel
theorem dX8_road_54 : decode cX8_road 54 = .ok (.iconst 1, 1) := by decide +kernel
theorem dX8_road_55 : decode cX8_road 55 = .ok (.goto 4, 3) := by decide +kernel
theorem dX8_road_58 : decode cX8_road 58 = .ok (.iconst 0, 1) := by decide +kernel
theorem dX8_road_59 : decode cX8_road 59 = .ok (.istore_n 1, 1) := by decide +kernel
theorem dX8_road_60 : decode cX8_road 60 = .ok (.goto (-32), 3) := by decide +kernel
theorem dX8_road_63 : decode cX8_road 63 = .ok (.aload_n 0, 1) := by decide +kernel
theorem dX8_road_64 : decode cX8_road 64 = .ok (.bipush 59, 2) := by decide +kernel
theorem dX8_road_66 : decode cX8_road 66 = .ok (.invokevirtual 145, 3) := by decide +kernel
theorem dX8_road_69 : decode cX8_road 69 = .ok (.ifCond .eq 112, 3) := by decide +kernel
theorem dX8_road_72 : decode cX8_road 72 = .ok (.aload_n 0, 1) := by decide +kernel
theorem dX8_road_73 : decode cX8_road 73 = .ok (.bipush 61, 2) := by decide +kernel
theorem dX8_road_75 : decode cX8_road 75 = .ok (.invokevirtual 145, 3) := by decide +kernel
theorem dX8_road_78 : decode cX8_road 78 = .ok (.istore_n 2, 1) := by decide +kernel
theorem dX8_road_79 : decode cX8_road 79 = .ok (.iload_n 2, 1) := by decide +kernel
theorem dX8_road_80 : decode cX8_road 80 = .ok (.ifCond .ne 7, 3) := by decide +kernel
theorem dX8_road_83 : decode cX8_road 83 = .ok (.iconst 1, 1) := by decide +kernel
theorem dX8_road_84 : decode cX8_road 84 = .ok (.goto 4, 3) := by decide +kernel
theorem dX8_road_87 : decode cX8_road 87 = .ok (.iconst 0, 1) := by decide +kernel
theorem dX8_road_88 : decode cX8_road 88 = .ok (.istore_n 1, 1) := by decide +kernel
theorem dX8_road_89 : decode cX8_road 89 = .ok (.iload_n 1, 1) := by decide +kernel
theorem dX8_road_90 : decode cX8_road 90 = .ok (.ifCond .eq 34, 3) := by decide +kernel
theorem dX8_road_93 : decode cX8_road 93 = .ok (.aload_n 0, 1) := by decide +kernel
theorem dX8_road_94 : decode cX8_road 94 = .ok (.invokevirtual 160, 3) := by decide +kernel
theorem dX8_road_97 : decode cX8_road 97 = .ok (.aload_n 0, 1) := by decide +kernel
theorem dX8_road_98 : decode cX8_road 98 = .ok (.getfield 148, 3) := by decide +kernel
theorem dX8_road_101 : decode cX8_road 101 = .ok (.bipush 8, 2) := by decide +kernel
theorem dX8_road_103 : decode cX8_road 103 = .ok (.if_icmp .ge 16, 3) := by decide +kernel
theorem dX8_road_106 : decode cX8_road 106 = .ok (.aload_n 0, 1) := by decide +kernel
theorem dX8_road_107 : decode cX8_road 107 = .ok (.bipush 44, 2) := by decide +kernel
theorem dX8_road_109 : decode cX8_road 109 = .ok (.invokevirtual 145, 3) := by decide +kernel
theorem dX8_road_112 : decode cX8_road 112 = .ok (.ifCond .eq 7, 3) := by decide +kernel
theorem dX8_road_115 : decode cX8_road 115 = .ok (.iconst 1, 1) := by decide +kernel
theorem dX8_road_116 : decode cX8_road 116 = .ok (.goto 4, 3) := by decide +kernel
theorem dX8_road_119 : decode cX8_road 119 = .ok (.iconst 0, 1) := by decide +kernel
theorem dX8_road_120 : decode cX8_road 120 = .ok (.istore_n 1, 1) := by decide +kernel
theorem dX8_road_121 : decode cX8_road 121 = .ok (.goto (-32), 3) := by decide +kernel
theorem dX8_road_124 : decode cX8_road 124 = .ok (.iload_n 2, 1) := by decide +kernel
theorem dX8_road_125 : decode cX8_road 125 = .ok (.ifCond .ne 39, 3) := by decide +kernel
theorem dX8_road_128 : decode cX8_road 128 = .ok (.aload_n 0, 1) := by decide +kernel
theorem dX8_road_129 : decode cX8_road 129 = .ok (.bipush 59, 2) := by decide +kernel
theorem dX8_road_131 : decode cX8_road 131 = .ok (.invokevirtual 145, 3) := by decide +kernel
theorem dX8_road_134 : decode cX8_road 134 = .ok (.ifCond .eq 30, 3) := by decide +kernel
theorem dX8_road_137 : decode cX8_road 137 = .ok (.aload_n 0, 1) := by decide +kernel
theorem dX8_road_138 : decode cX8_road 138 = .ok (.bipush 61, 2) := by decide +kernel
theorem dX8_road_140 : decode cX8_road 140 = .ok (.invokevirtual 145, 3) := by decide +kernel
theorem dX8_road_143 : decode cX8_road 143 = .ok (.istore_n 2, 1) := by decide +kernel
theorem dX8_road_144 : decode cX8_road 144 = .ok (.aload_n 0, 1) := by decide +kernel
theorem dX8_road_145 : decode cX8_road 145 = .ok (.aload_n 0, 1) := by decide +kernel
theorem dX8_road_146 : decode cX8_road 146 = .ok (.getfield 127, 3) := by decide +kernel
theorem dX8_road_149 : decode cX8_road 149 = .ok (.ifCond .ne 7, 3) := by decide +kernel
theorem dX8_road_152 : decode cX8_road 152 = .ok (.iload_n 2, 1) := by decide +kernel
theorem dX8_road_153 : decode cX8_road 153 = .ok (.ifCond .ne 7, 3) := by decide +kernel
theorem dX8_road_156 : decode cX8_road 156 = .ok (.iconst 1, 1) := by decide +kernel
theorem dX8_road_157 : decode cX8_road 157 = .ok (.goto 4, 3) := by decide +kernel
theorem dX8_road_160 : decode cX8_road 160 = .ok (.iconst 0, 1) := by decide +kernel
theorem dX8_road_161 : decode cX8_road 161 = .ok (.putfield 127, 3) := by decide +kernel
theorem dX8_road_164 : decode cX8_road 164 = .ok (.aload_n 0, 1) := by decide +kernel
theorem dX8_road_165 : decode cX8_road 165 = .ok (.iload_n 2, 1) := by decide +kernel
theorem dX8_road_166 : decode cX8_road 166 = .ok (.ifCond .eq 10, 3) := by decide +kernel
theorem dX8_road_169 : decode cX8_road 169 = .ok (.aload_n 0, 1) := by decide +kernel
theorem dX8_road_170 : decode cX8_road 170 = .ok (.invokevirtual 151, 3) := by decide +kernel
theorem dX8_road_173 : decode cX8_road 173 = .ok (.goto 5, 3) := by decide +kernel
theorem dX8_road_176 : decode cX8_road 176 = .ok (.bipush (-4), 2) := by decide +kernel
theorem dX8_road_178 : decode cX8_road 178 = .ok (.putfield 154, 3) := by decide +kernel
theorem dX8_road_181 : decode cX8_road 181 = .ok (.aload_n 0, 1) := by decide +kernel
theorem dX8_road_182 : decode cX8_road 182 = .ok (.aload_n 0, 1) := by decide +kernel
theorem dX8_road_183 : decode cX8_road 183 = .ok (.getfield 127, 3) := by decide +kernel
theorem dX8_road_186 : decode cX8_road 186 = .ok (.ifCond .ne 10, 3) := by decide +kernel
theorem dX8_road_189 : decode cX8_road 189 = .ok (.aload_n 0, 1) := by decide +kernel
theorem dX8_road_190 : decode cX8_road 190 = .ok (.invokevirtual 131, 3) := by decide +kernel
theorem dX8_road_193 : decode cX8_road 193 = .ok (.ifCond .eq 7, 3) := by decide +kernel
theorem dX8_road_196 : decode cX8_road 196 = .ok (.iconst 1, 1) := by decide +kernel
theorem dX8_road_197 : decode cX8_road 197 = .ok (.goto 4, 3) := by decide +kernel
theorem dX8_road_200 : decode cX8_road 200 = .ok (.iconst 0, 1) := by decide +kernel
theorem dX8_road_201 : decode cX8_road 201 = .ok (.putfield 127, 3) := by decide +kernel
theorem dX8_road_204 : decode cX8_road 204 = .ok (.aload_n 0, 1) := by decide +kernel
theorem dX8_road_205 : decode cX8_road 205 = .ok (.iconst 0, 1) := by decide +kernel
theorem dX8_road_206 : decode cX8_road 206 = .ok (.putfield 121, 3) := by decide +kernel
theorem dX8_road_209 : decode cX8_road 209 = .ok (.aload_n 0, 1) := by decide +kernel
theorem dX8_road_210 : decode cX8_road 210 = .ok (.getfield 127, 3) := by decide +kernel
theorem dX8_road_213 : decode cX8_road 213 = .ok (.ifCond .eq 11, 3) := by decide +kernel
theorem dX8_road_216 : decode cX8_road 216 = .ok (.bipush (-20), 2) := by decide +kernel
theorem dX8_road_218 : decode cX8_road 218 = .ok (.aload_n 0, 1) := by decide +kernel
theorem dX8_road_219 : decode cX8_road 219 = .ok (.getfield 124, 3) := by decide +kernel
theorem dX8_road_222 : decode cX8_road 222 = .ok (.isub, 1) := by decide +kernel
theorem dX8_road_223 : decode cX8_road 223 = .ok (.ireturn, 1) := by decide +kernel
theorem dX8_road_224 : decode cX8_road 224 = .ok (.aload_n 0, 1) := by decide +kernel
theorem dX8_road_225 : decode cX8_road 225 = .ok (.iconst 0, 1) := by decide +kernel
theorem dX8_road_226 : decode cX8_road 226 = .ok (.putfield 69, 3) := by decide +kernel
theorem dX8_road_229 : decode cX8_road 229 = .ok (.aload_n 0, 1) := by decide +kernel
theorem dX8_road_230 : decode cX8_road 230 = .ok (.iconst 0, 1) := by decide +kernel
theorem dX8_road_231 : decode cX8_road 231 = .ok (.putfield 76, 3) := by decide +kernel
theorem dX8_road_234 : decode cX8_road 234 = .ok (.aload_n 0, 1) := by decide +kernel
theorem dX8_road_235 : decode cX8_road 235 = .ok (.invokevirtual 63, 3) := by decide +kernel
theorem dX8_road_238 : decode cX8_road 238 = .ok (.iconst 0, 1) := by decide +kernel
theorem dX8_road_239 : decode cX8_road 239 = .ok (.istore_n 2, 1) := by decide +kernel
theorem dX8_road_240 : decode cX8_road 240 = .ok (.iload_n 2, 1) := by decide +kernel
theorem dX8_road_241 : decode cX8_road 241 = .ok (.aload_n 0, 1) := by decide +kernel
theorem dX8_road_242 : decode cX8_road 242 = .ok (.getfield 139, 3) := by decide +kernel
theorem dX8_road_245 : decode cX8_road 245 = .ok (.if_icmp .ge 51, 3) := by decide +kernel
theorem dX8_road_248 : decode cX8_road 248 = .ok (.aload_n 0, 1) := by decide +kernel
theorem dX8_road_249 : decode cX8_road 249 = .ok (.aload_n 0, 1) := by decide +kernel
theorem dX8_road_250 : decode cX8_road 250 = .ok (.getfield 22, 3) := by decide +kernel
theorem dX8_road_253 : decode cX8_road 253 = .ok (.iconst 4, 1) := by decide +kernel
theorem dX8_road_254 : decode cX8_road 254 = .ok (.iload_n 2, 1) := by decide +kernel
theorem dX8_road_255 : decode cX8_road 255 = .ok (.imul, 1) := by decide +kernel
theorem dX8_road_256 : decode cX8_road 256 = .ok (.iaload, 1) := by decide +kernel
theorem dX8_road_257 : decode cX8_road 257 = .ok (.aload_n 0, 1) := by decide +kernel
theorem dX8_road_258 : decode cX8_road 258 = .ok (.getfield 22, 3) := by decide +kernel
theorem dX8_road_261 : decode cX8_road 261 = .ok (.iconst 4, 1) := by decide +kernel
theorem dX8_road_262 : decode cX8_road 262 = .ok (.iload_n 2, 1) := by decide +kernel
theorem dX8_road_263 : decode cX8_road 263 = .ok (.imul, 1) := by decide +kernel
theorem dX8_road_264 : decode cX8_road 264 = .ok (.iconst 1, 1) := by decide +kernel
theorem dX8_road_265 : decode cX8_road 265 = .ok (.iadd, 1) := by decide +kernel
theorem dX8_road_266 : decode cX8_road 266 = .ok (.iaload, 1) := by decide +kernel
theorem dX8_road_267 : decode cX8_road 267 = .ok (.aload_n 0, 1) := by decide +kernel
theorem dX8_road_268 : decode cX8_road 268 = .ok (.getfield 22, 3) := by decide +kernel
theorem dX8_road_271 : decode cX8_road 271 = .ok (.iconst 4, 1) := by decide +kernel
theorem dX8_road_272 : decode cX8_road 272 = .ok (.iload_n 2, 1) := by decide +kernel
theorem dX8_road_273 : decode cX8_road 273 = .ok (.imul, 1) := by decide +kernel
theorem dX8_road_274 : decode cX8_road 274 = .ok (.iconst 2, 1) := by decide +kernel
theorem dX8_road_275 : decode cX8_road 275 = .ok (.iadd, 1) := by decide +kernel
theorem dX8_road_276 : decode cX8_road 276 = .ok (.iaload, 1) := by decide +kernel
theorem dX8_road_277 : decode cX8_road 277 = .ok (.aload_n 0, 1) := by decide +kernel
theorem dX8_road_278 : decode cX8_road 278 = .ok (.getfield 22, 3) := by decide +kernel
theorem dX8_road_281 : decode cX8_road 281 = .ok (.iconst 4, 1) := by decide +kernel
theorem dX8_road_282 : decode cX8_road 282 = .ok (.iload_n 2, 1) := by decide +kernel
theorem dX8_road_283 : decode cX8_road 283 = .ok (.imul, 1) := by decide +kernel
theorem dX8_road_284 : decode cX8_road 284 = .ok (.iconst 3, 1) := by decide +kernel
theorem dX8_road_285 : decode cX8_road 285 = .ok (.iadd, 1) := by decide +kernel
theorem dX8_road_286 : decode cX8_road 286 = .ok (.iaload, 1) := by decide +kernel
theorem dX8_road_287 : decode cX8_road 287 = .ok (.invokevirtual 85, 3) := by decide +kernel
theorem dX8_road_290 : decode cX8_road 290 = .ok (.iinc 2 1, 3) := by decide +kernel
theorem dX8_road_293 : decode cX8_road 293 = .ok (.goto (-53), 3) := by decide +kernel
theorem dX8_road_296 : decode cX8_road 296 = .ok (.iconst 0, 1) := by decide +kernel
theorem dX8_road_297 : decode cX8_road 297 = .ok (.istore_n 2, 1) := by decide +kernel
theorem dX8_road_298 : decode cX8_road 298 = .ok (.iload_n 2, 1) := by decide +kernel
theorem dX8_road_299 : decode cX8_road 299 = .ok (.aload_n 0, 1) := by decide +kernel
theorem dX8_road_300 : decode cX8_road 300 = .ok (.getfield 148, 3) := by decide +kernel
theorem dX8_road_303 : decode cX8_road 303 = .ok (.if_icmp .ge 41, 3) := by decide +kernel
theorem dX8_road_306 : decode cX8_road 306 = .ok (.aload_n 0, 1) := by decide +kernel
theorem dX8_road_307 : decode cX8_road 307 = .ok (.aload_n 0, 1) := by decide +kernel
theorem dX8_road_308 : decode cX8_road 308 = .ok (.getfield 25, 3) := by decide +kernel
theorem dX8_road_311 : decode cX8_road 311 = .ok (.iconst 3, 1) := by decide +kernel
theorem dX8_road_312 : decode cX8_road 312 = .ok (.iload_n 2, 1) := by decide +kernel
theorem dX8_road_313 : decode cX8_road 313 = .ok (.imul, 1) := by decide +kernel
theorem dX8_road_314 : decode cX8_road 314 = .ok (.iaload, 1) := by decide +kernel
theorem dX8_road_315 : decode cX8_road 315 = .ok (.aload_n 0, 1) := by decide +kernel
theorem dX8_road_316 : decode cX8_road 316 = .ok (.getfield 25, 3) := by decide +kernel
theorem dX8_road_319 : decode cX8_road 319 = .ok (.iconst 3, 1) := by decide +kernel
theorem dX8_road_320 : decode cX8_road 320 = .ok (.iload_n 2, 1) := by decide +kernel
theorem dX8_road_321 : decode cX8_road 321 = .ok (.imul, 1) := by decide +kernel
theorem dX8_road_322 : decode cX8_road 322 = .ok (.iconst 1, 1) := by decide +kernel
theorem dX8_road_323 : decode cX8_road 323 = .ok (.iadd, 1) := by decide +kernel
theorem dX8_road_324 : decode cX8_road 324 = .ok (.iaload, 1) := by decide +kernel
theorem dX8_road_325 : decode cX8_road 325 = .ok (.aload_n 0, 1) := by decide +kernel
theorem dX8_road_326 : decode cX8_road 326 = .ok (.getfield 25, 3) := by decide +kernel
theorem dX8_road_329 : decode cX8_road 329 = .ok (.iconst 3, 1) := by decide +kernel
theorem dX8_road_330 : decode cX8_road 330 = .ok (.iload_n 2, 1) := by decide +kernel
theorem dX8_road_331 : decode cX8_road 331 = .ok (.imul, 1) := by decide +kernel
theorem dX8_road_332 : decode cX8_road 332 = .ok (.iconst 2, 1) := by decide +kernel
theorem dX8_road_333 : decode cX8_road 333 = .ok (.iadd, 1) := by decide +kernel
theorem dX8_road_334 : decode cX8_road 334 = .ok (.iaload, 1) := by decide +kernel
theorem dX8_road_335 : decode cX8_road 335 = .ok (.invokevirtual 107, 3) := by decide +kernel
theorem dX8_road_338 : decode cX8_road 338 = .ok (.iinc 2 1, 3) := by decide +kernel
theorem dX8_road_341 : decode cX8_road 341 = .ok (.goto (-43), 3) := by decide +kernel
theorem dX8_road_344 : decode cX8_road 344 = .ok (.aload_n 0, 1) := by decide +kernel
theorem dX8_road_345 : decode cX8_road 345 = .ok (.getfield 16, 3) := by decide +kernel
theorem dX8_road_348 : decode cX8_road 348 = .ok (.iconst 0, 1) := by decide +kernel
theorem dX8_road_349 : decode cX8_road 349 = .ok (.aload_n 0, 1) := by decide +kernel
theorem dX8_road_350 : decode cX8_road 350 = .ok (.getfield 154, 3) := by decide +kernel
theorem dX8_road_353 : decode cX8_road 353 = .ok (.iastore, 1) := by decide +kernel
theorem dX8_road_354 : decode cX8_road 354 = .ok (.aload_n 0, 1) := by decide +kernel
theorem dX8_road_355 : decode cX8_road 355 = .ok (.getfield 69, 3) := by decide +kernel
theorem dX8_road_358 : decode cX8_road 358 = .ok (.ireturn, 1) := by decide +kernel
theorem dX8_care_0 : decode cX8_care 0 = .ok (.aload_n 0, 1) := by decide +kernel
theorem dX8_care_1 : decode cX8_care 1 = .ok (.iload_n 1, 1) := by decide +kernel
theorem dX8_care_2 : decode cX8_care 2 = .ok (.iload_n 2, 1) := by decide +kernel
theorem dX8_care_3 : decode cX8_care 3 = .ok (.iconst 1, 1) := by decide +kernel
theorem dX8_care_4 : decode cX8_care 4 = .ok (.invokevirtual 99, 3) := by decide +kernel
theorem dX8_care_7 : decode cX8_care 7 = .ok (.aload_n 0, 1) := by decide +kernel
theorem dX8_care_8 : decode cX8_care 8 = .ok (.getfield 163, 3) := by decide +kernel
theorem dX8_care_11 : decode cX8_care 11 = .ok (.aload_n 0, 1) := by decide +kernel
theorem dX8_care_12 : decode cX8_care 12 = .ok (.getfield 16, 3) := by decide +kernel
theorem dX8_care_15 : decode cX8_care 15 = .ok (.iconst 3, 1) := by decide +kernel
theorem dX8_care_16 : decode cX8_care 16 = .ok (.iaload, 1) := by decide +kernel
theorem dX8_care_17 : decode cX8_care 17 = .ok (.ishr, 1) := by decide +kernel
theorem dX8_care_18 : decode cX8_care 18 = .ok (.iconst 1, 1) := by decide +kernel
theorem dX8_care_19 : decode cX8_care 19 = .ok (.iand, 1) := by decide +kernel
theorem dX8_care_20 : decode cX8_care 20 = .ok (.iconst 1, 1) := by decide +kernel
theorem dX8_care_21 : decode cX8_care 21 = .ok (.iadd, 1) := by decide +kernel
theorem dX8_care_22 : decode cX8_care 22 = .ok (.imul, 1) := by decide +kernel
theorem dX8_care_23 : decode cX8_care 23 = .ok (.ireturn, 1) := by decide +kernel
theorem dX8_own_0 : decode cX8_own 0 = .ok (.iload_n 1, 1) := by decide +kernel
theorem dX8_own_1 : decode cX8_own 1 = .ok (.ifCond .ne 23, 3) := by decide +kernel
theorem dX8_own_4 : decode cX8_own 4 = .ok (.aload_n 0, 1) := by decide +kernel
theorem dX8_own_5 : decode cX8_own 5 = .ok (.aload_n 0, 1) := by decide +kernel
theorem dX8_own_6 : decode cX8_own 6 = .ok (.getfield 16, 3) := by decide +kernel
theorem dX8_own_9 : decode cX8_own 9 = .ok (.iconst 0, 1) := by decide +kernel
theorem dX8_own_10 : decode cX8_own 10 = .ok (.iaload, 1) := by decide +kernel
theorem dX8_own_11 : decode cX8_own 11 = .ok (.aload_n 0, 1) := by decide +kernel
theorem dX8_own_12 : decode cX8_own 12 = .ok (.getfield 16, 3) := by decide +kernel
theorem dX8_own_15 : decode cX8_own 15 = .ok (.iconst 1, 1) := by decide +kernel
theorem dX8_own_16 : decode cX8_own 16 = .ok (.iaload, 1) := by decide +kernel
theorem dX8_own_17 : decode cX8_own 17 = .ok (.iconst 0, 1) := by decide +kernel
theorem dX8_own_18 : decode cX8_own 18 = .ok (.invokevirtual 99, 3) := by decide +kernel
theorem dX8_own_21 : decode cX8_own 21 = .ok (.goto 19, 3) := by decide +kernel
theorem dX8_own_24 : decode cX8_own 24 = .ok (.aload_n 0, 1) := by decide +kernel
theorem dX8_own_25 : decode cX8_own 25 = .ok (.aload_n 0, 1) := by decide +kernel
theorem dX8_own_26 : decode cX8_own 26 = .ok (.getfield 16, 3) := by decide +kernel
theorem dX8_own_29 : decode cX8_own 29 = .ok (.iconst 0, 1) := by decide +kernel
theorem dX8_own_30 : decode cX8_own 30 = .ok (.iaload, 1) := by decide +kernel
theorem dX8_own_31 : decode cX8_own 31 = .ok (.aload_n 0, 1) := by decide +kernel
theorem dX8_own_32 : decode cX8_own 32 = .ok (.getfield 16, 3) := by decide +kernel
theorem dX8_own_35 : decode cX8_own 35 = .ok (.iconst 1, 1) := by decide +kernel
theorem dX8_own_36 : decode cX8_own 36 = .ok (.iaload, 1) := by decide +kernel
theorem dX8_own_37 : decode cX8_own 37 = .ok (.invokevirtual 166, 3) := by decide +kernel
theorem dX8_own_40 : decode cX8_own 40 = .ok (.ireturn, 1) := by decide +kernel
theorem dX8_isGlad_0 : decode cX8_isGlad 0 = .ok (.aload_n 0, 1) := by decide +kernel
theorem dX8_isGlad_1 : decode cX8_isGlad 1 = .ok (.aload_n 0, 1) := by decide +kernel
theorem dX8_isGlad_2 : decode cX8_isGlad 2 = .ok (.getfield 16, 3) := by decide +kernel
theorem dX8_isGlad_5 : decode cX8_isGlad 5 = .ok (.iconst 2, 1) := by decide +kernel
theorem dX8_isGlad_6 : decode cX8_isGlad 6 = .ok (.iaload, 1) := by decide +kernel
theorem dX8_isGlad_7 : decode cX8_isGlad 7 = .ok (.invokevirtual 170, 3) := by decide +kernel
theorem dX8_isGlad_10 : decode cX8_isGlad 10 = .ok (.aload_n 0, 1) := by decide +kernel
theorem dX8_isGlad_11 : decode cX8_isGlad 11 = .ok (.iload_n 1, 1) := by decide +kernel
theorem dX8_isGlad_12 : decode cX8_isGlad 12 = .ok (.iconst 0, 1) := by decide +kernel
theorem dX8_isGlad_13 : decode cX8_isGlad 13 = .ok (.aload_n 0, 1) := by decide +kernel
theorem dX8_isGlad_14 : decode cX8_isGlad 14 = .ok (.getfield 16, 3) := by decide +kernel
theorem dX8_isGlad_17 : decode cX8_isGlad 17 = .ok (.iconst 2, 1) := by decide +kernel
theorem dX8_isGlad_18 : decode cX8_isGlad 18 = .ok (.iaload, 1) := by decide +kernel
theorem dX8_isGlad_19 : decode cX8_isGlad 19 = .ok (.invokevirtual 99, 3) := by decide +kernel
theorem dX8_isGlad_22 : decode cX8_isGlad 22 = .ok (.if_icmp .le 30, 3) := by decide +kernel
theorem dX8_isGlad_25 : decode cX8_isGlad 25 = .ok (.aload_n 0, 1) := by decide +kernel
theorem dX8_isGlad_26 : decode cX8_isGlad 26 = .ok (.aload_n 0, 1) := by decide +kernel
theorem dX8_isGlad_27 : decode cX8_isGlad 27 = .ok (.getfield 16, 3) := by decide +kernel
theorem dX8_isGlad_30 : decode cX8_isGlad 30 = .ok (.iconst 0, 1) := by decide +kernel
theorem dX8_isGlad_31 : decode cX8_isGlad 31 = .ok (.iaload, 1) := by decide +kernel
theorem dX8_isGlad_32 : decode cX8_isGlad 32 = .ok (.invokevirtual 173, 3) := by decide +kernel
theorem dX8_isGlad_35 : decode cX8_isGlad 35 = .ok (.aload_n 0, 1) := by decide +kernel
theorem dX8_isGlad_36 : decode cX8_isGlad 36 = .ok (.iload_n 1, 1) := by decide +kernel
theorem dX8_isGlad_37 : decode cX8_isGlad 37 = .ok (.invokevirtual 173, 3) := by decide +kernel
theorem dX8_isGlad_40 : decode cX8_isGlad 40 = .ok (.isub, 1) := by decide +kernel
theorem dX8_isGlad_41 : decode cX8_isGlad 41 = .ok (.aload_n 0, 1) := by decide +kernel
theorem dX8_isGlad_42 : decode cX8_isGlad 42 = .ok (.getfield 60, 3) := by decide +kernel
theorem dX8_isGlad_45 : decode cX8_isGlad 45 = .ok (.if_icmp .gt 7, 3) := by decide +kernel
theorem dX8_isGlad_48 : decode cX8_isGlad 48 = .ok (.iconst 1, 1) := by decide +kernel
theorem dX8_isGlad_49 : decode cX8_isGlad 49 = .ok (.goto 4, 3) := by decide +kernel
theorem dX8_isGlad_52 : decode cX8_isGlad 52 = .ok (.iconst 0, 1) := by decide +kernel
theorem dX8_isGlad_53 : decode cX8_isGlad 53 = .ok (.ireturn, 1) := by decide +kernel
theorem dX8_asks_0 : decode cX8_asks 0 = .ok (.aload_n 0, 1) := by decide +kernel
theorem dX8_asks_1 : decode cX8_asks 1 = .ok (.getfield 16, 3) := by decide +kernel
theorem dX8_asks_4 : decode cX8_asks 4 = .ok (.iconst 5, 1) := by decide +kernel
theorem dX8_asks_5 : decode cX8_asks 5 = .ok (.iload_n 1, 1) := by decide +kernel
theorem dX8_asks_6 : decode cX8_asks 6 = .ok (.iadd, 1) := by decide +kernel
theorem dX8_asks_7 : decode cX8_asks 7 = .ok (.iaload, 1) := by decide +kernel
theorem dX8_asks_8 : decode cX8_asks 8 = .ok (.istore_n 3, 1) := by decide +kernel
theorem dX8_asks_9 : decode cX8_asks 9 = .ok (.aload_n 0, 1) := by decide +kernel
theorem dX8_asks_10 : decode cX8_asks 10 = .ok (.getfield 16, 3) := by decide +kernel
theorem dX8_asks_13 : decode cX8_asks 13 = .ok (.iconst 0, 1) := by decide +kernel
theorem dX8_asks_14 : decode cX8_asks 14 = .ok (.iaload, 1) := by decide +kernel
theorem dX8_asks_15 : decode cX8_asks 15 = .ok (.bipush (-4), 2) := by decide +kernel
theorem dX8_asks_17 : decode cX8_asks 17 = .ok (.if_icmp .eq 17, 3) := by decide +kernel
theorem dX8_asks_20 : decode cX8_asks 20 = .ok (.iload_n 3, 1) := by decide +kernel
theorem dX8_asks_21 : decode cX8_asks 21 = .ok (.bipush (-4), 2) := by decide +kernel
theorem dX8_asks_23 : decode cX8_asks 23 = .ok (.if_icmp .eq 11, 3) := by decide +kernel
theorem dX8_asks_26 : decode cX8_asks 26 = .ok (.aload_n 0, 1) := by decide +kernel
theorem dX8_asks_27 : decode cX8_asks 27 = .ok (.iload_n 3, 1) := by decide +kernel
theorem dX8_asks_28 : decode cX8_asks 28 = .ok (.invokevirtual 176, 3) := by decide +kernel
theorem dX8_asks_31 : decode cX8_asks 31 = .ok (.ifCond .ne 4, 3) := by decide +kernel
theorem dX8_asks_34 : decode cX8_asks 34 = .ok (.return_, 1) := by decide +kernel
theorem dX8_asks_35 : decode cX8_asks 35 = .ok (.aload_n 0, 1) := by decide +kernel
theorem dX8_asks_36 : decode cX8_asks 36 = .ok (.aload_n 0, 1) := by decide +kernel
theorem dX8_asks_37 : decode cX8_asks 37 = .ok (.getfield 16, 3) := by decide +kernel
theorem dX8_asks_40 : decode cX8_asks 40 = .ok (.iconst 0, 1) := by decide +kernel
theorem dX8_asks_41 : decode cX8_asks 41 = .ok (.iaload, 1) := by decide +kernel
theorem dX8_asks_42 : decode cX8_asks 42 = .ok (.invokevirtual 173, 3) := by decide +kernel
theorem dX8_asks_45 : decode cX8_asks 45 = .ok (.aload_n 0, 1) := by decide +kernel
theorem dX8_asks_46 : decode cX8_asks 46 = .ok (.iload_n 3, 1) := by decide +kernel
theorem dX8_asks_47 : decode cX8_asks 47 = .ok (.invokevirtual 173, 3) := by decide +kernel
theorem dX8_asks_50 : decode cX8_asks 50 = .ok (.iload_n 2, 1) := by decide +kernel
theorem dX8_asks_51 : decode cX8_asks 51 = .ok (.iadd, 1) := by decide +kernel
theorem dX8_asks_52 : decode cX8_asks 52 = .ok (.if_icmp .lt 44, 3) := by decide +kernel
theorem dX8_asks_55 : decode cX8_asks 55 = .ok (.aload_n 0, 1) := by decide +kernel
theorem dX8_asks_56 : decode cX8_asks 56 = .ok (.getfield 16, 3) := by decide +kernel
theorem dX8_asks_59 : decode cX8_asks 59 = .ok (.iconst 5, 1) := by decide +kernel
theorem dX8_asks_60 : decode cX8_asks 60 = .ok (.iload_n 1, 1) := by decide +kernel
theorem dX8_asks_61 : decode cX8_asks 61 = .ok (.iadd, 1) := by decide +kernel
theorem dX8_asks_62 : decode cX8_asks 62 = .ok (.aload_n 0, 1) := by decide +kernel
theorem dX8_asks_63 : decode cX8_asks 63 = .ok (.getfield 16, 3) := by decide +kernel
theorem dX8_asks_66 : decode cX8_asks 66 = .ok (.iconst 0, 1) := by decide +kernel
theorem dX8_asks_67 : decode cX8_asks 67 = .ok (.iaload, 1) := by decide +kernel
theorem dX8_asks_68 : decode cX8_asks 68 = .ok (.iastore, 1) := by decide +kernel
theorem dX8_asks_69 : decode cX8_asks 69 = .ok (.aload_n 0, 1) := by decide +kernel
theorem dX8_asks_70 : decode cX8_asks 70 = .ok (.getfield 16, 3) := by decide +kernel
theorem dX8_asks_73 : decode cX8_asks 73 = .ok (.iconst 0, 1) := by decide +kernel
theorem dX8_asks_74 : decode cX8_asks 74 = .ok (.iload_n 3, 1) := by decide +kernel
theorem dX8_asks_75 : decode cX8_asks 75 = .ok (.iastore, 1) := by decide +kernel
theorem dX8_asks_76 : decode cX8_asks 76 = .ok (.aload_n 0, 1) := by decide +kernel
theorem dX8_asks_77 : decode cX8_asks 77 = .ok (.getfield 16, 3) := by decide +kernel
theorem dX8_asks_80 : decode cX8_asks 80 = .ok (.iconst 1, 1) := by decide +kernel
theorem dX8_asks_81 : decode cX8_asks 81 = .ok (.iconst 0, 1) := by decide +kernel
theorem dX8_asks_82 : decode cX8_asks 82 = .ok (.iastore, 1) := by decide +kernel
theorem dX8_asks_83 : decode cX8_asks 83 = .ok (.aload_n 0, 1) := by decide +kernel
theorem dX8_asks_84 : decode cX8_asks 84 = .ok (.getfield 16, 3) := by decide +kernel
theorem dX8_asks_87 : decode cX8_asks 87 = .ok (.iconst 4, 1) := by decide +kernel
theorem dX8_asks_88 : decode cX8_asks 88 = .ok (.dup2, 1) := by decide +kernel
theorem dX8_asks_89 : decode cX8_asks 89 = .ok (.iaload, 1) := by decide +kernel
theorem dX8_asks_90 : decode cX8_asks 90 = .ok (.iconst 1, 1) := by decide +kernel
theorem dX8_asks_91 : decode cX8_asks 91 = .ok (.iadd, 1) := by decide +kernel
theorem dX8_asks_92 : decode cX8_asks 92 = .ok (.iastore, 1) := by decide +kernel
theorem dX8_asks_93 : decode cX8_asks 93 = .ok (.goto 29, 3) := by decide +kernel
theorem dX8_asks_96 : decode cX8_asks 96 = .ok (.aload_n 0, 1) := by decide +kernel
theorem dX8_asks_97 : decode cX8_asks 97 = .ok (.aload_n 0, 1) := by decide +kernel
theorem dX8_asks_98 : decode cX8_asks 98 = .ok (.getfield 179, 3) := by decide +kernel
theorem dX8_asks_101 : decode cX8_asks 101 = .ok (.bipush (-4), 2) := by decide +kernel
theorem dX8_asks_103 : decode cX8_asks 103 = .ok (.if_icmp .ne 12, 3) := by decide +kernel
theorem dX8_asks_106 : decode cX8_asks 106 = .ok (.aload_n 0, 1) := by decide +kernel
theorem dX8_asks_107 : decode cX8_asks 107 = .ok (.getfield 16, 3) := by decide +kernel
theorem dX8_asks_110 : decode cX8_asks 110 = .ok (.iconst 3, 1) := by decide +kernel
theorem dX8_asks_111 : decode cX8_asks 111 = .ok (.iaload, 1) := by decide +kernel
theorem dX8_asks_112 : decode cX8_asks 112 = .ok (.goto 7, 3) := by decide +kernel
theorem dX8_asks_115 : decode cX8_asks 115 = .ok (.aload_n 0, 1) := by decide +kernel
theorem dX8_asks_116 : decode cX8_asks 116 = .ok (.getfield 179, 3) := by decide +kernel
theorem dX8_asks_119 : decode cX8_asks 119 = .ok (.putfield 179, 3) := by decide +kernel
theorem dX8_asks_122 : decode cX8_asks 122 = .ok (.return_, 1) := by decide +kernel
theorem dX8_goesOn_0 : decode cX8_goesOn 0 = .ok (.aload_n 0, 1) := by decide +kernel
theorem dX8_goesOn_1 : decode cX8_goesOn 1 = .ok (.getfield 16, 3) := by decide +kernel
theorem dX8_goesOn_4 : decode cX8_goesOn 4 = .ok (.iconst 3, 1) := by decide +kernel
theorem dX8_goesOn_5 : decode cX8_goesOn 5 = .ok (.iaload, 1) := by decide +kernel
theorem dX8_goesOn_6 : decode cX8_goesOn 6 = .ok (.istore_n 1, 1) := by decide +kernel
theorem dX8_goesOn_7 : decode cX8_goesOn 7 = .ok (.aload_n 0, 1) := by decide +kernel
theorem dX8_goesOn_8 : decode cX8_goesOn 8 = .ok (.getfield 16, 3) := by decide +kernel
theorem dX8_goesOn_11 : decode cX8_goesOn 11 = .ok (.iconst 0, 1) := by decide +kernel
theorem dX8_goesOn_12 : decode cX8_goesOn 12 = .ok (.iaload, 1) := by decide +kernel
theorem dX8_goesOn_13 : decode cX8_goesOn 13 = .ok (.bipush (-4), 2) := by decide +kernel
theorem dX8_goesOn_15 : decode cX8_goesOn 15 = .ok (.if_icmp .eq 37, 3) := by decide +kernel
theorem dX8_goesOn_18 : decode cX8_goesOn 18 = .ok (.aload_n 0, 1) := by decide +kernel
theorem dX8_goesOn_19 : decode cX8_goesOn 19 = .ok (.getfield 16, 3) := by decide +kernel
theorem dX8_goesOn_22 : decode cX8_goesOn 22 = .ok (.iconst 1, 1) := by decide +kernel
theorem dX8_goesOn_23 : decode cX8_goesOn 23 = .ok (.dup2, 1) := by decide +kernel
theorem dX8_goesOn_24 : decode cX8_goesOn 24 = .ok (.iaload, 1) := by decide +kernel
theorem dX8_goesOn_25 : decode cX8_goesOn 25 = .ok (.iconst 1, 1) := by decide +kernel
theorem dX8_goesOn_26 : decode cX8_goesOn 26 = .ok (.iadd, 1) := by decide +kernel
theorem dX8_goesOn_27 : decode cX8_goesOn 27 = .ok (.iastore, 1) := by decide +kernel
theorem dX8_goesOn_28 : decode cX8_goesOn 28 = .ok (.aload_n 0, 1) := by decide +kernel
theorem dX8_goesOn_29 : decode cX8_goesOn 29 = .ok (.getfield 16, 3) := by decide +kernel
theorem dX8_goesOn_32 : decode cX8_goesOn 32 = .ok (.iconst 2, 1) := by decide +kernel
theorem dX8_goesOn_33 : decode cX8_goesOn 33 = .ok (.aload_n 0, 1) := by decide +kernel
theorem dX8_goesOn_34 : decode cX8_goesOn 34 = .ok (.iconst 0, 1) := by decide +kernel
theorem dX8_goesOn_35 : decode cX8_goesOn 35 = .ok (.invokevirtual 170, 3) := by decide +kernel
theorem dX8_goesOn_38 : decode cX8_goesOn 38 = .ok (.aload_n 0, 1) := by decide +kernel
theorem dX8_goesOn_39 : decode cX8_goesOn 39 = .ok (.iconst 1, 1) := by decide +kernel
theorem dX8_goesOn_40 : decode cX8_goesOn 40 = .ok (.invokevirtual 170, 3) := by decide +kernel
theorem dX8_goesOn_43 : decode cX8_goesOn 43 = .ok (.if_icmp .lt 7, 3) := by decide +kernel
theorem dX8_goesOn_46 : decode cX8_goesOn 46 = .ok (.iconst 0, 1) := by decide +kernel
theorem dX8_goesOn_47 : decode cX8_goesOn 47 = .ok (.goto 4, 3) := by decide +kernel
theorem dX8_goesOn_50 : decode cX8_goesOn 50 = .ok (.iconst 1, 1) := by decide +kernel
theorem dX8_goesOn_51 : decode cX8_goesOn 51 = .ok (.iastore, 1) := by decide +kernel
theorem dX8_goesOn_52 : decode cX8_goesOn 52 = .ok (.iconst 0, 1) := by decide +kernel
theorem dX8_goesOn_53 : decode cX8_goesOn 53 = .ok (.istore_n 2, 1) := by decide +kernel
theorem dX8_goesOn_54 : decode cX8_goesOn 54 = .ok (.iload_n 2, 1) := by decide +kernel
theorem dX8_goesOn_55 : decode cX8_goesOn 55 = .ok (.aload_n 0, 1) := by decide +kernel
theorem dX8_goesOn_56 : decode cX8_goesOn 56 = .ok (.getfield 76, 3) := by decide +kernel
theorem dX8_goesOn_59 : decode cX8_goesOn 59 = .ok (.if_icmp .ge 36, 3) := by decide +kernel
theorem dX8_goesOn_62 : decode cX8_goesOn 62 = .ok (.aload_n 0, 1) := by decide +kernel
theorem dX8_goesOn_63 : decode cX8_goesOn 63 = .ok (.getfield 13, 3) := by decide +kernel
theorem dX8_goesOn_66 : decode cX8_goesOn 66 = .ok (.iconst 2, 1) := by decide +kernel
theorem dX8_goesOn_67 : decode cX8_goesOn 67 = .ok (.iload_n 2, 1) := by decide +kernel
theorem dX8_goesOn_68 : decode cX8_goesOn 68 = .ok (.imul, 1) := by decide +kernel
theorem dX8_goesOn_69 : decode cX8_goesOn 69 = .ok (.iaload, 1) := by decide +kernel
theorem dX8_goesOn_70 : decode cX8_goesOn 70 = .ok (.iload_n 1, 1) := by decide +kernel
theorem dX8_goesOn_71 : decode cX8_goesOn 71 = .ok (.if_icmp .ne 18, 3) := by decide +kernel
theorem dX8_goesOn_74 : decode cX8_goesOn 74 = .ok (.aload_n 0, 1) := by decide +kernel
theorem dX8_goesOn_75 : decode cX8_goesOn 75 = .ok (.iload_n 2, 1) := by decide +kernel
theorem dX8_goesOn_76 : decode cX8_goesOn 76 = .ok (.aload_n 0, 1) := by decide +kernel
theorem dX8_goesOn_77 : decode cX8_goesOn 77 = .ok (.getfield 13, 3) := by decide +kernel
theorem dX8_goesOn_80 : decode cX8_goesOn 80 = .ok (.iconst 2, 1) := by decide +kernel
theorem dX8_goesOn_81 : decode cX8_goesOn 81 = .ok (.iload_n 2, 1) := by decide +kernel
theorem dX8_goesOn_82 : decode cX8_goesOn 82 = .ok (.imul, 1) := by decide +kernel
theorem dX8_goesOn_83 : decode cX8_goesOn 83 = .ok (.iconst 1, 1) := by decide +kernel
theorem dX8_goesOn_84 : decode cX8_goesOn 84 = .ok (.iadd, 1) := by decide +kernel
theorem dX8_goesOn_85 : decode cX8_goesOn 85 = .ok (.iaload, 1) := by decide +kernel
theorem dX8_goesOn_86 : decode cX8_goesOn 86 = .ok (.invokevirtual 182, 3) := by decide +kernel
theorem dX8_goesOn_89 : decode cX8_goesOn 89 = .ok (.iinc 2 1, 3) := by decide +kernel
theorem dX8_goesOn_92 : decode cX8_goesOn 92 = .ok (.goto (-38), 3) := by decide +kernel
theorem dX8_goesOn_95 : decode cX8_goesOn 95 = .ok (.aload_n 0, 1) := by decide +kernel
theorem dX8_goesOn_96 : decode cX8_goesOn 96 = .ok (.getfield 186, 3) := by decide +kernel
theorem dX8_goesOn_99 : decode cX8_goesOn 99 = .ok (.iload_n 1, 1) := by decide +kernel
theorem dX8_goesOn_100 : decode cX8_goesOn 100 = .ok (.if_icmp .ne 10, 3) := by decide +kernel
theorem dX8_goesOn_103 : decode cX8_goesOn 103 = .ok (.aload_n 0, 1) := by decide +kernel
theorem dX8_goesOn_104 : decode cX8_goesOn 104 = .ok (.bipush 8, 2) := by decide +kernel
theorem dX8_goesOn_106 : decode cX8_goesOn 106 = .ok (.iconst 0, 1) := by decide +kernel
theorem dX8_goesOn_107 : decode cX8_goesOn 107 = .ok (.invokevirtual 182, 3) := by decide +kernel
theorem dX8_goesOn_110 : decode cX8_goesOn 110 = .ok (.aload_n 0, 1) := by decide +kernel
theorem dX8_goesOn_111 : decode cX8_goesOn 111 = .ok (.getfield 56, 3) := by decide +kernel
theorem dX8_goesOn_114 : decode cX8_goesOn 114 = .ok (.iload_n 1, 1) := by decide +kernel
theorem dX8_goesOn_115 : decode cX8_goesOn 115 = .ok (.if_icmp .ne 39, 3) := by decide +kernel
theorem dX8_goesOn_118 : decode cX8_goesOn 118 = .ok (.aload_n 0, 1) := by decide +kernel
theorem dX8_goesOn_119 : decode cX8_goesOn 119 = .ok (.getfield 16, 3) := by decide +kernel
theorem dX8_goesOn_122 : decode cX8_goesOn 122 = .ok (.iconst 0, 1) := by decide +kernel
theorem dX8_goesOn_123 : decode cX8_goesOn 123 = .ok (.iaload, 1) := by decide +kernel
theorem dX8_goesOn_124 : decode cX8_goesOn 124 = .ok (.bipush (-4), 2) := by decide +kernel
theorem dX8_goesOn_126 : decode cX8_goesOn 126 = .ok (.if_icmp .eq 28, 3) := by decide +kernel
theorem dX8_goesOn_129 : decode cX8_goesOn 129 = .ok (.aload_n 0, 1) := by decide +kernel
theorem dX8_goesOn_130 : decode cX8_goesOn 130 = .ok (.iconst 0, 1) := by decide +kernel
theorem dX8_goesOn_131 : decode cX8_goesOn 131 = .ok (.invokevirtual 170, 3) := by decide +kernel
theorem dX8_goesOn_134 : decode cX8_goesOn 134 = .ok (.bipush 10, 2) := by decide +kernel
theorem dX8_goesOn_136 : decode cX8_goesOn 136 = .ok (.if_icmp .lt 18, 3) := by decide +kernel
theorem dX8_goesOn_139 : decode cX8_goesOn 139 = .ok (.aload_n 0, 1) := by decide +kernel
theorem dX8_goesOn_140 : decode cX8_goesOn 140 = .ok (.getfield 16, 3) := by decide +kernel
theorem dX8_goesOn_143 : decode cX8_goesOn 143 = .ok (.iconst 0, 1) := by decide +kernel
theorem dX8_goesOn_144 : decode cX8_goesOn 144 = .ok (.bipush (-4), 2) := by decide +kernel
theorem dX8_goesOn_146 : decode cX8_goesOn 146 = .ok (.iastore, 1) := by decide +kernel
theorem dX8_goesOn_147 : decode cX8_goesOn 147 = .ok (.aload_n 0, 1) := by decide +kernel
theorem dX8_goesOn_148 : decode cX8_goesOn 148 = .ok (.getfield 16, 3) := by decide +kernel
theorem dX8_goesOn_151 : decode cX8_goesOn 151 = .ok (.iconst 1, 1) := by decide +kernel
theorem dX8_goesOn_152 : decode cX8_goesOn 152 = .ok (.iconst 0, 1) := by decide +kernel
theorem dX8_goesOn_153 : decode cX8_goesOn 153 = .ok (.iastore, 1) := by decide +kernel
theorem dX8_goesOn_154 : decode cX8_goesOn 154 = .ok (.aload_n 0, 1) := by decide +kernel
theorem dX8_goesOn_155 : decode cX8_goesOn 155 = .ok (.getfield 16, 3) := by decide +kernel
theorem dX8_goesOn_158 : decode cX8_goesOn 158 = .ok (.iconst 3, 1) := by decide +kernel
theorem dX8_goesOn_159 : decode cX8_goesOn 159 = .ok (.dup2, 1) := by decide +kernel
theorem dX8_goesOn_160 : decode cX8_goesOn 160 = .ok (.iaload, 1) := by decide +kernel
theorem dX8_goesOn_161 : decode cX8_goesOn 161 = .ok (.iconst 1, 1) := by decide +kernel
theorem dX8_goesOn_162 : decode cX8_goesOn 162 = .ok (.iadd, 1) := by decide +kernel
theorem dX8_goesOn_163 : decode cX8_goesOn 163 = .ok (.iastore, 1) := by decide +kernel
theorem dX8_goesOn_164 : decode cX8_goesOn 164 = .ok (.return_, 1) := by decide +kernel
theorem dX8_notes_0 : decode cX8_notes 0 = .ok (.aload_n 0, 1) := by decide +kernel
theorem dX8_notes_1 : decode cX8_notes 1 = .ok (.getfield 66, 3) := by decide +kernel
theorem dX8_notes_4 : decode cX8_notes 4 = .ok (.bipush 8, 2) := by decide +kernel
theorem dX8_notes_6 : decode cX8_notes 6 = .ok (.if_icmp .ne 39, 3) := by decide +kernel
theorem dX8_notes_9 : decode cX8_notes 9 = .ok (.bipush 14, 2) := by decide +kernel
theorem dX8_notes_11 : decode cX8_notes 11 = .ok (.istore_n 1, 1) := by decide +kernel
theorem dX8_notes_12 : decode cX8_notes 12 = .ok (.iload_n 1, 1) := by decide +kernel
theorem dX8_notes_13 : decode cX8_notes 13 = .ok (.bipush 112, 2) := by decide +kernel
theorem dX8_notes_15 : decode cX8_notes 15 = .ok (.if_icmp .ge 24, 3) := by decide +kernel
theorem dX8_notes_18 : decode cX8_notes 18 = .ok (.aload_n 0, 1) := by decide +kernel
theorem dX8_notes_19 : decode cX8_notes 19 = .ok (.getfield 28, 3) := by decide +kernel
theorem dX8_notes_22 : decode cX8_notes 22 = .ok (.iload_n 1, 1) := by decide +kernel
theorem dX8_notes_23 : decode cX8_notes 23 = .ok (.bipush 14, 2) := by decide +kernel
theorem dX8_notes_25 : decode cX8_notes 25 = .ok (.isub, 1) := by decide +kernel
theorem dX8_notes_26 : decode cX8_notes 26 = .ok (.aload_n 0, 1) := by decide +kernel
theorem dX8_notes_27 : decode cX8_notes 27 = .ok (.getfield 28, 3) := by decide +kernel
theorem dX8_notes_30 : decode cX8_notes 30 = .ok (.iload_n 1, 1) := by decide +kernel
theorem dX8_notes_31 : decode cX8_notes 31 = .ok (.iaload, 1) := by decide +kernel
theorem dX8_notes_32 : decode cX8_notes 32 = .ok (.iastore, 1) := by decide +kernel
theorem dX8_notes_33 : decode cX8_notes 33 = .ok (.iinc 1 1, 3) := by decide +kernel
theorem dX8_notes_36 : decode cX8_notes 36 = .ok (.goto (-24), 3) := by decide +kernel
theorem dX8_notes_39 : decode cX8_notes 39 = .ok (.aload_n 0, 1) := by decide +kernel
theorem dX8_notes_40 : decode cX8_notes 40 = .ok (.bipush 7, 2) := by decide +kernel
theorem dX8_notes_42 : decode cX8_notes 42 = .ok (.putfield 66, 3) := by decide +kernel
theorem dX8_notes_45 : decode cX8_notes 45 = .ok (.iconst 0, 1) := by decide +kernel
theorem dX8_notes_46 : decode cX8_notes 46 = .ok (.istore_n 1, 1) := by decide +kernel
theorem dX8_notes_47 : decode cX8_notes 47 = .ok (.iload_n 1, 1) := by decide +kernel
theorem dX8_notes_48 : decode cX8_notes 48 = .ok (.bipush 14, 2) := by decide +kernel
theorem dX8_notes_50 : decode cX8_notes 50 = .ok (.if_icmp .ge 29, 3) := by decide +kernel
theorem dX8_notes_53 : decode cX8_notes 53 = .ok (.aload_n 0, 1) := by decide +kernel
theorem dX8_notes_54 : decode cX8_notes 54 = .ok (.getfield 28, 3) := by decide +kernel
theorem dX8_notes_57 : decode cX8_notes 57 = .ok (.bipush 14, 2) := by decide +kernel
theorem dX8_notes_59 : decode cX8_notes 59 = .ok (.aload_n 0, 1) := by decide +kernel
theorem dX8_notes_60 : decode cX8_notes 60 = .ok (.getfield 66, 3) := by decide +kernel
theorem dX8_notes_63 : decode cX8_notes 63 = .ok (.imul, 1) := by decide +kernel
theorem dX8_notes_64 : decode cX8_notes 64 = .ok (.iload_n 1, 1) := by decide +kernel
theorem dX8_notes_65 : decode cX8_notes 65 = .ok (.iadd, 1) := by decide +kernel
theorem dX8_notes_66 : decode cX8_notes 66 = .ok (.aload_n 0, 1) := by decide +kernel
theorem dX8_notes_67 : decode cX8_notes 67 = .ok (.getfield 16, 3) := by decide +kernel
theorem dX8_notes_70 : decode cX8_notes 70 = .ok (.iload_n 1, 1) := by decide +kernel
theorem dX8_notes_71 : decode cX8_notes 71 = .ok (.iaload, 1) := by decide +kernel
theorem dX8_notes_72 : decode cX8_notes 72 = .ok (.iastore, 1) := by decide +kernel
theorem dX8_notes_73 : decode cX8_notes 73 = .ok (.iinc 1 1, 3) := by decide +kernel
theorem dX8_notes_76 : decode cX8_notes 76 = .ok (.goto (-29), 3) := by decide +kernel
theorem dX8_notes_79 : decode cX8_notes 79 = .ok (.aload_n 0, 1) := by decide +kernel
theorem dX8_notes_80 : decode cX8_notes 80 = .ok (.dup, 1) := by decide +kernel
theorem dX8_notes_81 : decode cX8_notes 81 = .ok (.getfield 66, 3) := by decide +kernel
theorem dX8_notes_84 : decode cX8_notes 84 = .ok (.iconst 1, 1) := by decide +kernel
theorem dX8_notes_85 : decode cX8_notes 85 = .ok (.iadd, 1) := by decide +kernel
theorem dX8_notes_86 : decode cX8_notes 86 = .ok (.putfield 66, 3) := by decide +kernel
theorem dX8_notes_89 : decode cX8_notes 89 = .ok (.return_, 1) := by decide +kernel
theorem dX8_go_0 : decode cX8_go 0 = .ok (.aload_n 0, 1) := by decide +kernel
theorem dX8_go_1 : decode cX8_go 1 = .ok (.getfield 16, 3) := by decide +kernel
theorem dX8_go_4 : decode cX8_go 4 = .ok (.iconst 3, 1) := by decide +kernel
theorem dX8_go_5 : decode cX8_go 5 = .ok (.iaload, 1) := by decide +kernel
theorem dX8_go_6 : decode cX8_go 6 = .ok (.bipush 12, 2) := by decide +kernel
theorem dX8_go_8 : decode cX8_go 8 = .ok (.if_icmp .ne 6, 3) := by decide +kernel
theorem dX8_go_11 : decode cX8_go 11 = .ok (.bipush (-2), 2) := by decide +kernel
theorem dX8_go_13 : decode cX8_go 13 = .ok (.ireturn, 1) := by decide +kernel
theorem dX8_go_14 : decode cX8_go 14 = .ok (.aload_n 0, 1) := by decide +kernel
theorem dX8_go_15 : decode cX8_go 15 = .ok (.invokevirtual 189, 3) := by decide +kernel
theorem dX8_go_18 : decode cX8_go 18 = .ok (.aload_n 0, 1) := by decide +kernel
theorem dX8_go_19 : decode cX8_go 19 = .ok (.getfield 16, 3) := by decide +kernel
theorem dX8_go_22 : decode cX8_go 22 = .ok (.iconst 4, 1) := by decide +kernel
theorem dX8_go_23 : decode cX8_go 23 = .ok (.iaload, 1) := by decide +kernel
theorem dX8_go_24 : decode cX8_go 24 = .ok (.istore_n 1, 1) := by decide +kernel
theorem dX8_go_25 : decode cX8_go 25 = .ok (.aload_n 0, 1) := by decide +kernel
theorem dX8_go_26 : decode cX8_go 26 = .ok (.bipush (-4), 2) := by decide +kernel
theorem dX8_go_28 : decode cX8_go 28 = .ok (.putfield 186, 3) := by decide +kernel
theorem dX8_go_31 : decode cX8_go 31 = .ok (.aload_n 0, 1) := by decide +kernel
theorem dX8_go_32 : decode cX8_go 32 = .ok (.invokevirtual 192, 3) := by decide +kernel
theorem dX8_go_35 : decode cX8_go 35 = .ok (.aload_n 0, 1) := by decide +kernel
theorem dX8_go_36 : decode cX8_go 36 = .ok (.getfield 16, 3) := by decide +kernel
theorem dX8_go_39 : decode cX8_go 39 = .ok (.iconst 4, 1) := by decide +kernel
theorem dX8_go_40 : decode cX8_go 40 = .ok (.iaload, 1) := by decide +kernel
theorem dX8_go_41 : decode cX8_go 41 = .ok (.iload_n 1, 1) := by decide +kernel
theorem dX8_go_42 : decode cX8_go 42 = .ok (.isub, 1) := by decide +kernel
theorem dX8_go_43 : decode cX8_go 43 = .ok (.ireturn, 1) := by decide +kernel
theorem dX8_undo_0 : decode cX8_undo 0 = .ok (.aload_n 0, 1) := by decide +kernel
theorem dX8_undo_1 : decode cX8_undo 1 = .ok (.getfield 66, 3) := by decide +kernel
theorem dX8_undo_4 : decode cX8_undo 4 = .ok (.ifCond .ne 6, 3) := by decide +kernel
theorem dX8_undo_7 : decode cX8_undo 7 = .ok (.bipush (-4), 2) := by decide +kernel
theorem dX8_undo_9 : decode cX8_undo 9 = .ok (.ireturn, 1) := by decide +kernel
theorem dX8_undo_10 : decode cX8_undo 10 = .ok (.aload_n 0, 1) := by decide +kernel
theorem dX8_undo_11 : decode cX8_undo 11 = .ok (.dup, 1) := by decide +kernel
theorem dX8_undo_12 : decode cX8_undo 12 = .ok (.getfield 66, 3) := by decide +kernel
theorem dX8_undo_15 : decode cX8_undo 15 = .ok (.iconst 1, 1) := by decide +kernel
theorem dX8_undo_16 : decode cX8_undo 16 = .ok (.isub, 1) := by decide +kernel
theorem dX8_undo_17 : decode cX8_undo 17 = .ok (.putfield 66, 3) := by decide +kernel
theorem dX8_undo_20 : decode cX8_undo 20 = .ok (.iconst 0, 1) := by decide +kernel
theorem dX8_undo_21 : decode cX8_undo 21 = .ok (.istore_n 1, 1) := by decide +kernel
theorem dX8_undo_22 : decode cX8_undo 22 = .ok (.iload_n 1, 1) := by decide +kernel
theorem dX8_undo_23 : decode cX8_undo 23 = .ok (.bipush 14, 2) := by decide +kernel
theorem dX8_undo_25 : decode cX8_undo 25 = .ok (.if_icmp .ge 29, 3) := by decide +kernel
theorem dX8_undo_28 : decode cX8_undo 28 = .ok (.aload_n 0, 1) := by decide +kernel
theorem dX8_undo_29 : decode cX8_undo 29 = .ok (.getfield 16, 3) := by decide +kernel
theorem dX8_undo_32 : decode cX8_undo 32 = .ok (.iload_n 1, 1) := by decide +kernel
theorem dX8_undo_33 : decode cX8_undo 33 = .ok (.aload_n 0, 1) := by decide +kernel
theorem dX8_undo_34 : decode cX8_undo 34 = .ok (.getfield 28, 3) := by decide +kernel
theorem dX8_undo_37 : decode cX8_undo 37 = .ok (.bipush 14, 2) := by decide +kernel
theorem dX8_undo_39 : decode cX8_undo 39 = .ok (.aload_n 0, 1) := by decide +kernel
theorem dX8_undo_40 : decode cX8_undo 40 = .ok (.getfield 66, 3) := by decide +kernel
theorem dX8_undo_43 : decode cX8_undo 43 = .ok (.imul, 1) := by decide +kernel
theorem dX8_undo_44 : decode cX8_undo 44 = .ok (.iload_n 1, 1) := by decide +kernel
theorem dX8_undo_45 : decode cX8_undo 45 = .ok (.iadd, 1) := by decide +kernel
theorem dX8_undo_46 : decode cX8_undo 46 = .ok (.iaload, 1) := by decide +kernel
theorem dX8_undo_47 : decode cX8_undo 47 = .ok (.iastore, 1) := by decide +kernel
theorem dX8_undo_48 : decode cX8_undo 48 = .ok (.iinc 1 1, 3) := by decide +kernel
theorem dX8_undo_51 : decode cX8_undo 51 = .ok (.goto (-29), 3) := by decide +kernel
theorem dX8_undo_54 : decode cX8_undo 54 = .ok (.aload_n 0, 1) := by decide +kernel
theorem dX8_undo_55 : decode cX8_undo 55 = .ok (.getfield 66, 3) := by decide +kernel
theorem dX8_undo_58 : decode cX8_undo 58 = .ok (.ireturn, 1) := by decide +kernel
theorem dX8_again_0 : decode cX8_again 0 = .ok (.aload_n 0, 1) := by decide +kernel
theorem dX8_again_1 : decode cX8_again 1 = .ok (.getfield 16, 3) := by decide +kernel
theorem dX8_again_4 : decode cX8_again 4 = .ok (.iconst 3, 1) := by decide +kernel
theorem dX8_again_5 : decode cX8_again 5 = .ok (.iaload, 1) := by decide +kernel
theorem dX8_again_6 : decode cX8_again 6 = .ok (.istore_n 1, 1) := by decide +kernel
theorem dX8_again_7 : decode cX8_again 7 = .ok (.aload_n 0, 1) := by decide +kernel
theorem dX8_again_8 : decode cX8_again 8 = .ok (.getfield 16, 3) := by decide +kernel
theorem dX8_again_11 : decode cX8_again 11 = .ok (.iconst 3, 1) := by decide +kernel
theorem dX8_again_12 : decode cX8_again 12 = .ok (.iconst 0, 1) := by decide +kernel
theorem dX8_again_13 : decode cX8_again 13 = .ok (.iastore, 1) := by decide +kernel
theorem dX8_again_14 : decode cX8_again 14 = .ok (.iload_n 1, 1) := by decide +kernel
theorem dX8_again_15 : decode cX8_again 15 = .ok (.ireturn, 1) := by decide +kernel
theorem dX8_glad_0 : decode cX8_glad 0 = .ok (.aload_n 0, 1) := by decide +kernel
theorem dX8_glad_1 : decode cX8_glad 1 = .ok (.iload_n 1, 1) := by decide +kernel
theorem dX8_glad_2 : decode cX8_glad 2 = .ok (.i2l, 1) := by decide +kernel
theorem dX8_glad_3 : decode cX8_glad 3 = .ok (.invokevirtual 89, 3) := by decide +kernel
theorem dX8_glad_6 : decode cX8_glad 6 = .ok (.ifCond .ne 5, 3) := by decide +kernel
theorem dX8_glad_9 : decode cX8_glad 9 = .ok (.iconst (-1), 1) := by decide +kernel
theorem dX8_glad_10 : decode cX8_glad 10 = .ok (.ireturn, 1) := by decide +kernel
theorem dX8_glad_11 : decode cX8_glad 11 = .ok (.aload_n 0, 1) := by decide +kernel
theorem dX8_glad_12 : decode cX8_glad 12 = .ok (.getfield 16, 3) := by decide +kernel
theorem dX8_glad_15 : decode cX8_glad 15 = .ok (.iconst 0, 1) := by decide +kernel
theorem dX8_glad_16 : decode cX8_glad 16 = .ok (.iaload, 1) := by decide +kernel
theorem dX8_glad_17 : decode cX8_glad 17 = .ok (.bipush (-4), 2) := by decide +kernel
theorem dX8_glad_19 : decode cX8_glad 19 = .ok (.if_icmp .eq 13, 3) := by decide +kernel
theorem dX8_glad_22 : decode cX8_glad 22 = .ok (.aload_n 0, 1) := by decide +kernel
theorem dX8_glad_23 : decode cX8_glad 23 = .ok (.getfield 16, 3) := by decide +kernel
theorem dX8_glad_26 : decode cX8_glad 26 = .ok (.iconst 0, 1) := by decide +kernel
theorem dX8_glad_27 : decode cX8_glad 27 = .ok (.iaload, 1) := by decide +kernel
theorem dX8_glad_28 : decode cX8_glad 28 = .ok (.iload_n 1, 1) := by decide +kernel
theorem dX8_glad_29 : decode cX8_glad 29 = .ok (.if_icmp .ne 6, 3) := by decide +kernel
theorem dX8_glad_32 : decode cX8_glad 32 = .ok (.bipush (-2), 2) := by decide +kernel
theorem dX8_glad_34 : decode cX8_glad 34 = .ok (.ireturn, 1) := by decide +kernel
theorem dX8_glad_35 : decode cX8_glad 35 = .ok (.aload_n 0, 1) := by decide +kernel
theorem dX8_glad_36 : decode cX8_glad 36 = .ok (.iload_n 1, 1) := by decide +kernel
theorem dX8_glad_37 : decode cX8_glad 37 = .ok (.invokevirtual 176, 3) := by decide +kernel
theorem dX8_glad_40 : decode cX8_glad 40 = .ok (.ifCond .eq 7, 3) := by decide +kernel
theorem dX8_glad_43 : decode cX8_glad 43 = .ok (.iconst 1, 1) := by decide +kernel
theorem dX8_glad_44 : decode cX8_glad 44 = .ok (.goto 4, 3) := by decide +kernel
theorem dX8_glad_47 : decode cX8_glad 47 = .ok (.iconst 0, 1) := by decide +kernel
theorem dX8_glad_48 : decode cX8_glad 48 = .ok (.ireturn, 1) := by decide +kernel
theorem dX8_asides_0 : decode cX8_asides 0 = .ok (.iconst 0, 1) := by decide +kernel
theorem dX8_asides_1 : decode cX8_asides 1 = .ok (.istore_n 1, 1) := by decide +kernel
theorem dX8_asides_2 : decode cX8_asides 2 = .ok (.iload_n 1, 1) := by decide +kernel
theorem dX8_asides_3 : decode cX8_asides 3 = .ok (.bipush 14, 2) := by decide +kernel
theorem dX8_asides_5 : decode cX8_asides 5 = .ok (.if_icmp .ge 21, 3) := by decide +kernel
theorem dX8_asides_8 : decode cX8_asides 8 = .ok (.aload_n 0, 1) := by decide +kernel
theorem dX8_asides_9 : decode cX8_asides 9 = .ok (.getfield 31, 3) := by decide +kernel
theorem dX8_asides_12 : decode cX8_asides 12 = .ok (.iload_n 1, 1) := by decide +kernel
theorem dX8_asides_13 : decode cX8_asides 13 = .ok (.aload_n 0, 1) := by decide +kernel
theorem dX8_asides_14 : decode cX8_asides 14 = .ok (.getfield 16, 3) := by decide +kernel
theorem dX8_asides_17 : decode cX8_asides 17 = .ok (.iload_n 1, 1) := by decide +kernel
theorem dX8_asides_18 : decode cX8_asides 18 = .ok (.iaload, 1) := by decide +kernel
theorem dX8_asides_19 : decode cX8_asides 19 = .ok (.iastore, 1) := by decide +kernel
theorem dX8_asides_20 : decode cX8_asides 20 = .ok (.iinc 1 1, 3) := by decide +kernel
theorem dX8_asides_23 : decode cX8_asides 23 = .ok (.goto (-21), 3) := by decide +kernel
theorem dX8_asides_26 : decode cX8_asides 26 = .ok (.return_, 1) := by decide +kernel
theorem dX8_backs_0 : decode cX8_backs 0 = .ok (.iconst 0, 1) := by decide +kernel
theorem dX8_backs_1 : decode cX8_backs 1 = .ok (.istore_n 1, 1) := by decide +kernel
theorem dX8_backs_2 : decode cX8_backs 2 = .ok (.iload_n 1, 1) := by decide +kernel
theorem dX8_backs_3 : decode cX8_backs 3 = .ok (.bipush 14, 2) := by decide +kernel
theorem dX8_backs_5 : decode cX8_backs 5 = .ok (.if_icmp .ge 21, 3) := by decide +kernel
theorem dX8_backs_8 : decode cX8_backs 8 = .ok (.aload_n 0, 1) := by decide +kernel
theorem dX8_backs_9 : decode cX8_backs 9 = .ok (.getfield 16, 3) := by decide +kernel
theorem dX8_backs_12 : decode cX8_backs 12 = .ok (.iload_n 1, 1) := by decide +kernel
theorem dX8_backs_13 : decode cX8_backs 13 = .ok (.aload_n 0, 1) := by decide +kernel
theorem dX8_backs_14 : decode cX8_backs 14 = .ok (.getfield 31, 3) := by decide +kernel
theorem dX8_backs_17 : decode cX8_backs 17 = .ok (.iload_n 1, 1) := by decide +kernel
theorem dX8_backs_18 : decode cX8_backs 18 = .ok (.iaload, 1) := by decide +kernel
theorem dX8_backs_19 : decode cX8_backs 19 = .ok (.iastore, 1) := by decide +kernel
theorem dX8_backs_20 : decode cX8_backs 20 = .ok (.iinc 1 1, 3) := by decide +kernel
theorem dX8_backs_23 : decode cX8_backs 23 = .ok (.goto (-21), 3) := by decide +kernel
theorem dX8_backs_26 : decode cX8_backs 26 = .ok (.aload_n 0, 1) := by decide +kernel
theorem dX8_backs_27 : decode cX8_backs 27 = .ok (.bipush (-4), 2) := by decide +kernel
theorem dX8_backs_29 : decode cX8_backs 29 = .ok (.putfield 186, 3) := by decide +kernel
theorem dX8_backs_32 : decode cX8_backs 32 = .ok (.aload_n 0, 1) := by decide +kernel
theorem dX8_backs_33 : decode cX8_backs 33 = .ok (.iconst 0, 1) := by decide +kernel
theorem dX8_backs_34 : decode cX8_backs 34 = .ok (.putfield 163, 3) := by decide +kernel
theorem dX8_backs_37 : decode cX8_backs 37 = .ok (.return_, 1) := by decide +kernel
theorem dX8_goesHome_0 : decode cX8_goesHome 0 = .ok (.aload_n 0, 1) := by decide +kernel
theorem dX8_goesHome_1 : decode cX8_goesHome 1 = .ok (.bipush (-4), 2) := by decide +kernel
theorem dX8_goesHome_3 : decode cX8_goesHome 3 = .ok (.putfield 179, 3) := by decide +kernel
theorem dX8_goesHome_6 : decode cX8_goesHome 6 = .ok (.aload_n 0, 1) := by decide +kernel
theorem dX8_goesHome_7 : decode cX8_goesHome 7 = .ok (.getfield 16, 3) := by decide +kernel
theorem dX8_goesHome_10 : decode cX8_goesHome 10 = .ok (.iconst 3, 1) := by decide +kernel
theorem dX8_goesHome_11 : decode cX8_goesHome 11 = .ok (.iaload, 1) := by decide +kernel
theorem dX8_goesHome_12 : decode cX8_goesHome 12 = .ok (.bipush 12, 2) := by decide +kernel
theorem dX8_goesHome_14 : decode cX8_goesHome 14 = .ok (.if_icmp .ge 10, 3) := by decide +kernel
theorem dX8_goesHome_17 : decode cX8_goesHome 17 = .ok (.aload_n 0, 1) := by decide +kernel
theorem dX8_goesHome_18 : decode cX8_goesHome 18 = .ok (.invokevirtual 192, 3) := by decide +kernel
theorem dX8_goesHome_21 : decode cX8_goesHome 21 = .ok (.goto (-15), 3) := by decide +kernel
theorem dX8_goesHome_24 : decode cX8_goesHome 24 = .ok (.return_, 1) := by decide +kernel
theorem dX8_home_0 : decode cX8_home 0 = .ok (.iload_n 1, 1) := by decide +kernel
theorem dX8_home_1 : decode cX8_home 1 = .ok (.i2l, 1) := by decide +kernel
theorem dX8_home_2 : decode cX8_home 2 = .ok (.lconst 0, 1) := by decide +kernel
theorem dX8_home_3 : decode cX8_home 3 = .ok (.ldc2_w 115, 3) := by decide +kernel
theorem dX8_home_6 : decode cX8_home 6 = .ok (.invokestatic 72, 3) := by decide +kernel
theorem dX8_home_9 : decode cX8_home 9 = .ok (.ifCond .ne 5, 3) := by decide +kernel
theorem dX8_home_12 : decode cX8_home 12 = .ok (.iconst (-1), 1) := by decide +kernel
theorem dX8_home_13 : decode cX8_home 13 = .ok (.ireturn, 1) := by decide +kernel
theorem dX8_home_14 : decode cX8_home 14 = .ok (.aload_n 0, 1) := by decide +kernel
theorem dX8_home_15 : decode cX8_home 15 = .ok (.invokevirtual 195, 3) := by decide +kernel
theorem dX8_home_18 : decode cX8_home 18 = .ok (.aload_n 0, 1) := by decide +kernel
theorem dX8_home_19 : decode cX8_home 19 = .ok (.bipush (-4), 2) := by decide +kernel
theorem dX8_home_21 : decode cX8_home 21 = .ok (.putfield 186, 3) := by decide +kernel
theorem dX8_home_24 : decode cX8_home 24 = .ok (.aload_n 0, 1) := by decide +kernel
theorem dX8_home_25 : decode cX8_home 25 = .ok (.invokevirtual 198, 3) := by decide +kernel
theorem dX8_home_28 : decode cX8_home 28 = .ok (.iload_n 1, 1) := by decide +kernel
theorem dX8_home_29 : decode cX8_home 29 = .ok (.ifCond .ne 12, 3) := by decide +kernel
theorem dX8_home_32 : decode cX8_home 32 = .ok (.aload_n 0, 1) := by decide +kernel
theorem dX8_home_33 : decode cX8_home 33 = .ok (.getfield 16, 3) := by decide +kernel
theorem dX8_home_36 : decode cX8_home 36 = .ok (.iconst 0, 1) := by decide +kernel
theorem dX8_home_37 : decode cX8_home 37 = .ok (.iaload, 1) := by decide +kernel
theorem dX8_home_38 : decode cX8_home 38 = .ok (.goto 28, 3) := by decide +kernel
theorem dX8_home_41 : decode cX8_home 41 = .ok (.iload_n 1, 1) := by decide +kernel
theorem dX8_home_42 : decode cX8_home 42 = .ok (.iconst 1, 1) := by decide +kernel
theorem dX8_home_43 : decode cX8_home 43 = .ok (.if_icmp .ne 19, 3) := by decide +kernel
theorem dX8_home_46 : decode cX8_home 46 = .ok (.aload_n 0, 1) := by decide +kernel
theorem dX8_home_47 : decode cX8_home 47 = .ok (.getfield 16, 3) := by decide +kernel
theorem dX8_home_50 : decode cX8_home 50 = .ok (.iconst 4, 1) := by decide +kernel
theorem dX8_home_51 : decode cX8_home 51 = .ok (.iaload, 1) := by decide +kernel
theorem dX8_home_52 : decode cX8_home 52 = .ok (.aload_n 0, 1) := by decide +kernel
theorem dX8_home_53 : decode cX8_home 53 = .ok (.getfield 31, 3) := by decide +kernel
theorem dX8_home_56 : decode cX8_home 56 = .ok (.iconst 4, 1) := by decide +kernel
theorem dX8_home_57 : decode cX8_home 57 = .ok (.iaload, 1) := by decide +kernel
theorem dX8_home_58 : decode cX8_home 58 = .ok (.isub, 1) := by decide +kernel
theorem dX8_home_59 : decode cX8_home 59 = .ok (.goto 7, 3) := by decide +kernel
theorem dX8_home_62 : decode cX8_home 62 = .ok (.aload_n 0, 1) := by decide +kernel
theorem dX8_home_63 : decode cX8_home 63 = .ok (.getfield 179, 3) := by decide +kernel
theorem dX8_home_66 : decode cX8_home 66 = .ok (.istore_n 2, 1) := by decide +kernel
theorem dX8_home_67 : decode cX8_home 67 = .ok (.aload_n 0, 1) := by decide +kernel
theorem dX8_home_68 : decode cX8_home 68 = .ok (.invokevirtual 201, 3) := by decide +kernel
theorem dX8_home_71 : decode cX8_home 71 = .ok (.iload_n 2, 1) := by decide +kernel
theorem dX8_home_72 : decode cX8_home 72 = .ok (.ireturn, 1) := by decide +kernel
theorem dX8_lost_0 : decode cX8_lost 0 = .ok (.aload_n 0, 1) := by decide +kernel
theorem dX8_lost_1 : decode cX8_lost 1 = .ok (.invokevirtual 195, 3) := by decide +kernel
theorem dX8_lost_4 : decode cX8_lost 4 = .ok (.aload_n 0, 1) := by decide +kernel
theorem dX8_lost_5 : decode cX8_lost 5 = .ok (.bipush (-4), 2) := by decide +kernel
theorem dX8_lost_7 : decode cX8_lost 7 = .ok (.putfield 186, 3) := by decide +kernel
theorem dX8_lost_10 : decode cX8_lost 10 = .ok (.aload_n 0, 1) := by decide +kernel
theorem dX8_lost_11 : decode cX8_lost 11 = .ok (.invokevirtual 198, 3) := by decide +kernel
theorem dX8_lost_14 : decode cX8_lost 14 = .ok (.aload_n 0, 1) := by decide +kernel
theorem dX8_lost_15 : decode cX8_lost 15 = .ok (.aload_n 0, 1) := by decide +kernel
theorem dX8_lost_16 : decode cX8_lost 16 = .ok (.getfield 31, 3) := by decide +kernel
theorem dX8_lost_19 : decode cX8_lost 19 = .ok (.iconst 0, 1) := by decide +kernel
theorem dX8_lost_20 : decode cX8_lost 20 = .ok (.iaload, 1) := by decide +kernel
theorem dX8_lost_21 : decode cX8_lost 21 = .ok (.invokevirtual 173, 3) := by decide +kernel
theorem dX8_lost_24 : decode cX8_lost 24 = .ok (.aload_n 0, 1) := by decide +kernel
theorem dX8_lost_25 : decode cX8_lost 25 = .ok (.aload_n 0, 1) := by decide +kernel
theorem dX8_lost_26 : decode cX8_lost 26 = .ok (.getfield 16, 3) := by decide +kernel
theorem dX8_lost_29 : decode cX8_lost 29 = .ok (.iconst 0, 1) := by decide +kernel
theorem dX8_lost_30 : decode cX8_lost 30 = .ok (.iaload, 1) := by decide +kernel
theorem dX8_lost_31 : decode cX8_lost 31 = .ok (.invokevirtual 173, 3) := by decide +kernel
theorem dX8_lost_34 : decode cX8_lost 34 = .ok (.isub, 1) := by decide +kernel
theorem dX8_lost_35 : decode cX8_lost 35 = .ok (.istore_n 1, 1) := by decide +kernel
theorem dX8_lost_36 : decode cX8_lost 36 = .ok (.aload_n 0, 1) := by decide +kernel
theorem dX8_lost_37 : decode cX8_lost 37 = .ok (.invokevirtual 201, 3) := by decide +kernel
theorem dX8_lost_40 : decode cX8_lost 40 = .ok (.iload_n 1, 1) := by decide +kernel
theorem dX8_lost_41 : decode cX8_lost 41 = .ok (.ireturn, 1) := by decide +kernel
theorem dX8_lurk_0 : decode cX8_lurk 0 = .ok (.aload_n 0, 1) := by decide +kernel
theorem dX8_lurk_1 : decode cX8_lurk 1 = .ok (.iload_n 1, 1) := by decide +kernel
theorem dX8_lurk_2 : decode cX8_lurk 2 = .ok (.i2l, 1) := by decide +kernel
theorem dX8_lurk_3 : decode cX8_lurk 3 = .ok (.invokevirtual 89, 3) := by decide +kernel
theorem dX8_lurk_6 : decode cX8_lurk 6 = .ok (.ifCond .eq 13, 3) := by decide +kernel
theorem dX8_lurk_9 : decode cX8_lurk 9 = .ok (.iload_n 2, 1) := by decide +kernel
theorem dX8_lurk_10 : decode cX8_lurk 10 = .ok (.i2l, 1) := by decide +kernel
theorem dX8_lurk_11 : decode cX8_lurk 11 = .ok (.lconst 0, 1) := by decide +kernel
theorem dX8_lurk_12 : decode cX8_lurk 12 = .ok (.lconst 1, 1) := by decide +kernel
theorem dX8_lurk_13 : decode cX8_lurk 13 = .ok (.invokestatic 72, 3) := by decide +kernel
theorem dX8_lurk_16 : decode cX8_lurk 16 = .ok (.ifCond .ne 5, 3) := by decide +kernel
theorem dX8_lurk_19 : decode cX8_lurk 19 = .ok (.iconst (-1), 1) := by decide +kernel
theorem dX8_lurk_20 : decode cX8_lurk 20 = .ok (.ireturn, 1) := by decide +kernel
theorem dX8_lurk_21 : decode cX8_lurk 21 = .ok (.aload_n 0, 1) := by decide +kernel
theorem dX8_lurk_22 : decode cX8_lurk 22 = .ok (.iload_n 1, 1) := by decide +kernel
theorem dX8_lurk_23 : decode cX8_lurk 23 = .ok (.invokevirtual 95, 3) := by decide +kernel
theorem dX8_lurk_26 : decode cX8_lurk 26 = .ok (.bipush (-4), 2) := by decide +kernel
theorem dX8_lurk_28 : decode cX8_lurk 28 = .ok (.if_icmp .ne 6, 3) := by decide +kernel
theorem dX8_lurk_31 : decode cX8_lurk 31 = .ok (.bipush (-2), 2) := by decide +kernel
theorem dX8_lurk_33 : decode cX8_lurk 33 = .ok (.ireturn, 1) := by decide +kernel
theorem dX8_lurk_34 : decode cX8_lurk 34 = .ok (.aload_n 0, 1) := by decide +kernel
theorem dX8_lurk_35 : decode cX8_lurk 35 = .ok (.invokevirtual 195, 3) := by decide +kernel
theorem dX8_lurk_38 : decode cX8_lurk 38 = .ok (.bipush (-4), 2) := by decide +kernel
theorem dX8_lurk_40 : decode cX8_lurk 40 = .ok (.istore_n 3, 1) := by decide +kernel
theorem dX8_lurk_41 : decode cX8_lurk 41 = .ok (.bipush (-4), 2) := by decide +kernel
theorem dX8_lurk_43 : decode cX8_lurk 43 = .ok (.istore 4, 2) := by decide +kernel
theorem dX8_lurk_45 : decode cX8_lurk 45 = .ok (.iconst 0, 1) := by decide +kernel
theorem dX8_lurk_46 : decode cX8_lurk 46 = .ok (.istore 5, 2) := by decide +kernel
theorem dX8_lurk_48 : decode cX8_lurk 48 = .ok (.iload 5, 2) := by decide +kernel
theorem dX8_lurk_50 : decode cX8_lurk 50 = .ok (.aload_n 0, 1) := by decide +kernel
theorem dX8_lurk_51 : decode cX8_lurk 51 = .ok (.getfield 69, 3) := by decide +kernel
theorem dX8_lurk_54 : decode cX8_lurk 54 = .ok (.if_icmp .ge 150, 3) := by decide +kernel
theorem dX8_lurk_57 : decode cX8_lurk 57 = .ok (.aload_n 0, 1) := by decide +kernel
theorem dX8_lurk_58 : decode cX8_lurk 58 = .ok (.iload 5, 2) := by decide +kernel
theorem dX8_lurk_60 : decode cX8_lurk 60 = .ok (.invokevirtual 95, 3) := by decide +kernel
theorem dX8_lurk_63 : decode cX8_lurk 63 = .ok (.bipush (-4), 2) := by decide +kernel
theorem dX8_lurk_65 : decode cX8_lurk 65 = .ok (.if_icmp .ne 27, 3) := by decide +kernel
theorem dX8_lurk_68 : decode cX8_lurk 68 = .ok (.iload_n 3, 1) := by decide +kernel
theorem dX8_lurk_69 : decode cX8_lurk 69 = .ok (.bipush (-4), 2) := by decide +kernel
theorem dX8_lurk_71 : decode cX8_lurk 71 = .ok (.if_icmp .eq 17, 3) := by decide +kernel
theorem dX8_lurk_74 : decode cX8_lurk 74 = .ok (.aload_n 0, 1) := by decide +kernel
theorem dX8_lurk_75 : decode cX8_lurk 75 = .ok (.iload 5, 2) := by decide +kernel
theorem dX8_lurk_77 : decode cX8_lurk 77 = .ok (.invokevirtual 173, 3) := by decide +kernel
theorem dX8_lurk_80 : decode cX8_lurk 80 = .ok (.aload_n 0, 1) := by decide +kernel
theorem dX8_lurk_81 : decode cX8_lurk 81 = .ok (.iload_n 3, 1) := by decide +kernel
theorem dX8_lurk_82 : decode cX8_lurk 82 = .ok (.invokevirtual 173, 3) := by decide +kernel
theorem dX8_lurk_85 : decode cX8_lurk 85 = .ok (.if_icmp .ge 7, 3) := by decide +kernel
theorem dX8_lurk_88 : decode cX8_lurk 88 = .ok (.iconst 1, 1) := by decide +kernel
theorem dX8_lurk_89 : decode cX8_lurk 89 = .ok (.goto 4, 3) := by decide +kernel
theorem dX8_lurk_92 : decode cX8_lurk 92 = .ok (.iconst 0, 1) := by decide +kernel
theorem dX8_lurk_93 : decode cX8_lurk 93 = .ok (.istore 6, 2) := by decide +kernel
theorem dX8_lurk_95 : decode cX8_lurk 95 = .ok (.bipush (-4), 2) := by decide +kernel
theorem dX8_lurk_97 : decode cX8_lurk 97 = .ok (.istore 7, 2) := by decide +kernel
theorem dX8_lurk_99 : decode cX8_lurk 99 = .ok (.bipush 11, 2) := by decide +kernel
theorem dX8_lurk_101 : decode cX8_lurk 101 = .ok (.istore 8, 2) := by decide +kernel
theorem dX8_lurk_103 : decode cX8_lurk 103 = .ok (.iload 8, 2) := by decide +kernel
theorem dX8_lurk_105 : decode cX8_lurk 105 = .ok (.aload_n 0, 1) := by decide +kernel
theorem dX8_lurk_106 : decode cX8_lurk 106 = .ok (.getfield 31, 3) := by decide +kernel
theorem dX8_lurk_109 : decode cX8_lurk 109 = .ok (.iconst 3, 1) := by decide +kernel
theorem dX8_lurk_110 : decode cX8_lurk 110 = .ok (.iaload, 1) := by decide +kernel
theorem dX8_lurk_111 : decode cX8_lurk 111 = .ok (.if_icmp .lt 57, 3) := by decide +kernel
theorem dX8_lurk_114 : decode cX8_lurk 114 = .ok (.iload 6, 2) := by decide +kernel
theorem dX8_lurk_116 : decode cX8_lurk 116 = .ok (.ifCond .eq 52, 3) := by decide +kernel
theorem dX8_lurk_119 : decode cX8_lurk 119 = .ok (.aload_n 0, 1) := by decide +kernel
theorem dX8_lurk_120 : decode cX8_lurk 120 = .ok (.iload 8, 2) := by decide +kernel
theorem dX8_lurk_122 : decode cX8_lurk 122 = .ok (.putfield 186, 3) := by decide +kernel
theorem dX8_lurk_125 : decode cX8_lurk 125 = .ok (.aload_n 0, 1) := by decide +kernel
theorem dX8_lurk_126 : decode cX8_lurk 126 = .ok (.getfield 16, 3) := by decide +kernel
theorem dX8_lurk_129 : decode cX8_lurk 129 = .ok (.bipush 13, 2) := by decide +kernel
theorem dX8_lurk_131 : decode cX8_lurk 131 = .ok (.iload 5, 2) := by decide +kernel
theorem dX8_lurk_133 : decode cX8_lurk 133 = .ok (.iastore, 1) := by decide +kernel
theorem dX8_lurk_134 : decode cX8_lurk 134 = .ok (.aload_n 0, 1) := by decide +kernel
theorem dX8_lurk_135 : decode cX8_lurk 135 = .ok (.invokevirtual 198, 3) := by decide +kernel
theorem dX8_lurk_138 : decode cX8_lurk 138 = .ok (.aload_n 0, 1) := by decide +kernel
theorem dX8_lurk_139 : decode cX8_lurk 139 = .ok (.getfield 16, 3) := by decide +kernel
theorem dX8_lurk_142 : decode cX8_lurk 142 = .ok (.bipush 13, 2) := by decide +kernel
theorem dX8_lurk_144 : decode cX8_lurk 144 = .ok (.iaload, 1) := by decide +kernel
theorem dX8_lurk_145 : decode cX8_lurk 145 = .ok (.iload_n 1, 1) := by decide +kernel
theorem dX8_lurk_146 : decode cX8_lurk 146 = .ok (.if_icmp .ne 8, 3) := by decide +kernel
theorem dX8_lurk_149 : decode cX8_lurk 149 = .ok (.iload 8, 2) := by decide +kernel
theorem dX8_lurk_151 : decode cX8_lurk 151 = .ok (.goto 5, 3) := by decide +kernel
theorem dX8_lurk_154 : decode cX8_lurk 154 = .ok (.iload 7, 2) := by decide +kernel
theorem dX8_lurk_156 : decode cX8_lurk 156 = .ok (.istore 7, 2) := by decide +kernel
theorem dX8_lurk_158 : decode cX8_lurk 158 = .ok (.aload_n 0, 1) := by decide +kernel
theorem dX8_lurk_159 : decode cX8_lurk 159 = .ok (.invokevirtual 201, 3) := by decide +kernel
theorem dX8_lurk_162 : decode cX8_lurk 162 = .ok (.iinc 8 (-1), 3) := by decide +kernel
theorem dX8_lurk_165 : decode cX8_lurk 165 = .ok (.goto (-62), 3) := by decide +kernel
theorem dX8_lurk_168 : decode cX8_lurk 168 = .ok (.iload 7, 2) := by decide +kernel
theorem dX8_lurk_170 : decode cX8_lurk 170 = .ok (.bipush (-4), 2) := by decide +kernel
theorem dX8_lurk_172 : decode cX8_lurk 172 = .ok (.if_icmp .ne 7, 3) := by decide +kernel
theorem dX8_lurk_175 : decode cX8_lurk 175 = .ok (.iload_n 3, 1) := by decide +kernel
theorem dX8_lurk_176 : decode cX8_lurk 176 = .ok (.goto 5, 3) := by decide +kernel
theorem dX8_lurk_179 : decode cX8_lurk 179 = .ok (.iload 5, 2) := by decide +kernel
theorem dX8_lurk_181 : decode cX8_lurk 181 = .ok (.istore_n 3, 1) := by decide +kernel
theorem dX8_lurk_182 : decode cX8_lurk 182 = .ok (.iload 7, 2) := by decide +kernel
theorem dX8_lurk_184 : decode cX8_lurk 184 = .ok (.bipush (-4), 2) := by decide +kernel
theorem dX8_lurk_186 : decode cX8_lurk 186 = .ok (.if_icmp .ne 8, 3) := by decide +kernel
theorem dX8_lurk_189 : decode cX8_lurk 189 = .ok (.iload 4, 2) := by decide +kernel
theorem dX8_lurk_191 : decode cX8_lurk 191 = .ok (.goto 5, 3) := by decide +kernel
theorem dX8_lurk_194 : decode cX8_lurk 194 = .ok (.iload 7, 2) := by decide +kernel
theorem dX8_lurk_196 : decode cX8_lurk 196 = .ok (.istore 4, 2) := by decide +kernel
theorem dX8_lurk_198 : decode cX8_lurk 198 = .ok (.iinc 5 1, 3) := by decide +kernel
theorem dX8_lurk_201 : decode cX8_lurk 201 = .ok (.goto (-153), 3) := by decide +kernel
theorem dX8_lurk_204 : decode cX8_lurk 204 = .ok (.iload_n 2, 1) := by decide +kernel
theorem dX8_lurk_205 : decode cX8_lurk 205 = .ok (.ifCond .ne 7, 3) := by decide +kernel
theorem dX8_lurk_208 : decode cX8_lurk 208 = .ok (.iload_n 3, 1) := by decide +kernel
theorem dX8_lurk_209 : decode cX8_lurk 209 = .ok (.goto 5, 3) := by decide +kernel
theorem dX8_lurk_212 : decode cX8_lurk 212 = .ok (.iload 4, 2) := by decide +kernel
theorem dX8_lurk_214 : decode cX8_lurk 214 = .ok (.ireturn, 1) := by decide +kernel
theorem dX8_stand_0 : decode cX8_stand 0 = .ok (.aload_n 0, 1) := by decide +kernel
theorem dX8_stand_1 : decode cX8_stand 1 = .ok (.iload_n 1, 1) := by decide +kernel
theorem dX8_stand_2 : decode cX8_stand 2 = .ok (.invokevirtual 111, 3) := by decide +kernel
theorem dX8_stand_5 : decode cX8_stand 5 = .ok (.ifCond .eq 13, 3) := by decide +kernel
theorem dX8_stand_8 : decode cX8_stand 8 = .ok (.iload_n 2, 1) := by decide +kernel
theorem dX8_stand_9 : decode cX8_stand 9 = .ok (.i2l, 1) := by decide +kernel
theorem dX8_stand_10 : decode cX8_stand 10 = .ok (.lconst 0, 1) := by decide +kernel
theorem dX8_stand_11 : decode cX8_stand 11 = .ok (.lconst 1, 1) := by decide +kernel
theorem dX8_stand_12 : decode cX8_stand 12 = .ok (.invokestatic 72, 3) := by decide +kernel
theorem dX8_stand_15 : decode cX8_stand 15 = .ok (.ifCond .ne 5, 3) := by decide +kernel
theorem dX8_stand_18 : decode cX8_stand 18 = .ok (.iconst (-1), 1) := by decide +kernel
theorem dX8_stand_19 : decode cX8_stand 19 = .ok (.ireturn, 1) := by decide +kernel
theorem dX8_stand_20 : decode cX8_stand 20 = .ok (.aload_n 0, 1) := by decide +kernel
theorem dX8_stand_21 : decode cX8_stand 21 = .ok (.getfield 16, 3) := by decide +kernel
theorem dX8_stand_24 : decode cX8_stand 24 = .ok (.iconst 3, 1) := by decide +kernel
theorem dX8_stand_25 : decode cX8_stand 25 = .ok (.iaload, 1) := by decide +kernel
theorem dX8_stand_26 : decode cX8_stand 26 = .ok (.bipush 12, 2) := by decide +kernel
theorem dX8_stand_28 : decode cX8_stand 28 = .ok (.if_icmp .ne 6, 3) := by decide +kernel
theorem dX8_stand_31 : decode cX8_stand 31 = .ok (.bipush (-2), 2) := by decide +kernel
theorem dX8_stand_33 : decode cX8_stand 33 = .ok (.ireturn, 1) := by decide +kernel
theorem dX8_stand_34 : decode cX8_stand 34 = .ok (.aload_n 0, 1) := by decide +kernel
theorem dX8_stand_35 : decode cX8_stand 35 = .ok (.invokevirtual 195, 3) := by decide +kernel
theorem dX8_stand_38 : decode cX8_stand 38 = .ok (.aload_n 0, 1) := by decide +kernel
theorem dX8_stand_39 : decode cX8_stand 39 = .ok (.bipush (-4), 2) := by decide +kernel
theorem dX8_stand_41 : decode cX8_stand 41 = .ok (.putfield 186, 3) := by decide +kernel
theorem dX8_stand_44 : decode cX8_stand 44 = .ok (.aload_n 0, 1) := by decide +kernel
theorem dX8_stand_45 : decode cX8_stand 45 = .ok (.getfield 13, 3) := by decide +kernel
theorem dX8_stand_48 : decode cX8_stand 48 = .ok (.iconst 2, 1) := by decide +kernel
theorem dX8_stand_49 : decode cX8_stand 49 = .ok (.iload_n 1, 1) := by decide +kernel
theorem dX8_stand_50 : decode cX8_stand 50 = .ok (.imul, 1) := by decide +kernel
theorem dX8_stand_51 : decode cX8_stand 51 = .ok (.iaload, 1) := by decide +kernel
theorem dX8_stand_52 : decode cX8_stand 52 = .ok (.istore_n 3, 1) := by decide +kernel
theorem dX8_stand_53 : decode cX8_stand 53 = .ok (.bipush (-4), 2) := by decide +kernel
theorem dX8_stand_55 : decode cX8_stand 55 = .ok (.istore 4, 2) := by decide +kernel
theorem dX8_stand_57 : decode cX8_stand 57 = .ok (.iconst (-1), 1) := by decide +kernel
theorem dX8_stand_58 : decode cX8_stand 58 = .ok (.istore 5, 2) := by decide +kernel
theorem dX8_stand_60 : decode cX8_stand 60 = .ok (.aload_n 0, 1) := by decide +kernel
theorem dX8_stand_61 : decode cX8_stand 61 = .ok (.getfield 31, 3) := by decide +kernel
theorem dX8_stand_64 : decode cX8_stand 64 = .ok (.iconst 3, 1) := by decide +kernel
theorem dX8_stand_65 : decode cX8_stand 65 = .ok (.iaload, 1) := by decide +kernel
theorem dX8_stand_66 : decode cX8_stand 66 = .ok (.istore 6, 2) := by decide +kernel
theorem dX8_stand_68 : decode cX8_stand 68 = .ok (.iload 6, 2) := by decide +kernel
theorem dX8_stand_70 : decode cX8_stand 70 = .ok (.bipush 12, 2) := by decide +kernel
theorem dX8_stand_72 : decode cX8_stand 72 = .ok (.if_icmp .ge 73, 3) := by decide +kernel
theorem dX8_stand_75 : decode cX8_stand 75 = .ok (.aload_n 0, 1) := by decide +kernel
theorem dX8_stand_76 : decode cX8_stand 76 = .ok (.getfield 13, 3) := by decide +kernel
theorem dX8_stand_79 : decode cX8_stand 79 = .ok (.iconst 2, 1) := by decide +kernel
theorem dX8_stand_80 : decode cX8_stand 80 = .ok (.iload_n 1, 1) := by decide +kernel
theorem dX8_stand_81 : decode cX8_stand 81 = .ok (.imul, 1) := by decide +kernel
theorem dX8_stand_82 : decode cX8_stand 82 = .ok (.iload 6, 2) := by decide +kernel
theorem dX8_stand_84 : decode cX8_stand 84 = .ok (.iastore, 1) := by decide +kernel
theorem dX8_stand_85 : decode cX8_stand 85 = .ok (.aload_n 0, 1) := by decide +kernel
theorem dX8_stand_86 : decode cX8_stand 86 = .ok (.invokevirtual 198, 3) := by decide +kernel
theorem dX8_stand_89 : decode cX8_stand 89 = .ok (.aload_n 0, 1) := by decide +kernel
theorem dX8_stand_90 : decode cX8_stand 90 = .ok (.aload_n 0, 1) := by decide +kernel
theorem dX8_stand_91 : decode cX8_stand 91 = .ok (.getfield 16, 3) := by decide +kernel
theorem dX8_stand_94 : decode cX8_stand 94 = .ok (.iconst 5, 1) := by decide +kernel
theorem dX8_stand_95 : decode cX8_stand 95 = .ok (.iload_n 1, 1) := by decide +kernel
theorem dX8_stand_96 : decode cX8_stand 96 = .ok (.iadd, 1) := by decide +kernel
theorem dX8_stand_97 : decode cX8_stand 97 = .ok (.iaload, 1) := by decide +kernel
theorem dX8_stand_98 : decode cX8_stand 98 = .ok (.invokevirtual 173, 3) := by decide +kernel
theorem dX8_stand_101 : decode cX8_stand 101 = .ok (.istore 7, 2) := by decide +kernel
theorem dX8_stand_103 : decode cX8_stand 103 = .ok (.iload 7, 2) := by decide +kernel
theorem dX8_stand_105 : decode cX8_stand 105 = .ok (.iload 5, 2) := by decide +kernel
theorem dX8_stand_107 : decode cX8_stand 107 = .ok (.if_icmp .le 8, 3) := by decide +kernel
theorem dX8_stand_110 : decode cX8_stand 110 = .ok (.iload 6, 2) := by decide +kernel
theorem dX8_stand_112 : decode cX8_stand 112 = .ok (.goto 5, 3) := by decide +kernel
theorem dX8_stand_115 : decode cX8_stand 115 = .ok (.iload 4, 2) := by decide +kernel
theorem dX8_stand_117 : decode cX8_stand 117 = .ok (.istore 4, 2) := by decide +kernel
theorem dX8_stand_119 : decode cX8_stand 119 = .ok (.iload 7, 2) := by decide +kernel
theorem dX8_stand_121 : decode cX8_stand 121 = .ok (.iload 5, 2) := by decide +kernel
theorem dX8_stand_123 : decode cX8_stand 123 = .ok (.if_icmp .le 8, 3) := by decide +kernel
theorem dX8_stand_126 : decode cX8_stand 126 = .ok (.iload 7, 2) := by decide +kernel
theorem dX8_stand_128 : decode cX8_stand 128 = .ok (.goto 5, 3) := by decide +kernel
theorem dX8_stand_131 : decode cX8_stand 131 = .ok (.iload 5, 2) := by decide +kernel
theorem dX8_stand_133 : decode cX8_stand 133 = .ok (.istore 5, 2) := by decide +kernel
theorem dX8_stand_135 : decode cX8_stand 135 = .ok (.aload_n 0, 1) := by decide +kernel
theorem dX8_stand_136 : decode cX8_stand 136 = .ok (.invokevirtual 201, 3) := by decide +kernel
theorem dX8_stand_139 : decode cX8_stand 139 = .ok (.iinc 6 1, 3) := by decide +kernel
theorem dX8_stand_142 : decode cX8_stand 142 = .ok (.goto (-74), 3) := by decide +kernel
theorem dX8_stand_145 : decode cX8_stand 145 = .ok (.aload_n 0, 1) := by decide +kernel
theorem dX8_stand_146 : decode cX8_stand 146 = .ok (.getfield 13, 3) := by decide +kernel
theorem dX8_stand_149 : decode cX8_stand 149 = .ok (.iconst 2, 1) := by decide +kernel
theorem dX8_stand_150 : decode cX8_stand 150 = .ok (.iload_n 1, 1) := by decide +kernel
theorem dX8_stand_151 : decode cX8_stand 151 = .ok (.imul, 1) := by decide +kernel
theorem dX8_stand_152 : decode cX8_stand 152 = .ok (.iload_n 3, 1) := by decide +kernel
theorem dX8_stand_153 : decode cX8_stand 153 = .ok (.iastore, 1) := by decide +kernel
theorem dX8_stand_154 : decode cX8_stand 154 = .ok (.iload_n 2, 1) := by decide +kernel
theorem dX8_stand_155 : decode cX8_stand 155 = .ok (.ifCond .ne 8, 3) := by decide +kernel
theorem dX8_stand_158 : decode cX8_stand 158 = .ok (.iload 4, 2) := by decide +kernel
theorem dX8_stand_160 : decode cX8_stand 160 = .ok (.goto 5, 3) := by decide +kernel
theorem dX8_stand_163 : decode cX8_stand 163 = .ok (.iload 5, 2) := by decide +kernel
theorem dX8_stand_165 : decode cX8_stand 165 = .ok (.ireturn, 1) := by decide +kernel
theorem dX8_sister_0 : decode cX8_sister 0 = .ok (.aload_n 0, 1) := by decide +kernel
theorem dX8_sister_1 : decode cX8_sister 1 = .ok (.iload_n 1, 1) := by decide +kernel
theorem dX8_sister_2 : decode cX8_sister 2 = .ok (.i2l, 1) := by decide +kernel
theorem dX8_sister_3 : decode cX8_sister 3 = .ok (.invokevirtual 89, 3) := by decide +kernel
theorem dX8_sister_6 : decode cX8_sister 6 = .ok (.ifCond .eq 13, 3) := by decide +kernel
theorem dX8_sister_9 : decode cX8_sister 9 = .ok (.iload_n 2, 1) := by decide +kernel
theorem dX8_sister_10 : decode cX8_sister 10 = .ok (.i2l, 1) := by decide +kernel
theorem dX8_sister_11 : decode cX8_sister 11 = .ok (.lconst 0, 1) := by decide +kernel
theorem dX8_sister_12 : decode cX8_sister 12 = .ok (.lconst 1, 1) := by decide +kernel
theorem dX8_sister_13 : decode cX8_sister 13 = .ok (.invokestatic 72, 3) := by decide +kernel
theorem dX8_sister_16 : decode cX8_sister 16 = .ok (.ifCond .ne 5, 3) := by decide +kernel
theorem dX8_sister_19 : decode cX8_sister 19 = .ok (.iconst (-1), 1) := by decide +kernel
theorem dX8_sister_20 : decode cX8_sister 20 = .ok (.ireturn, 1) := by decide +kernel
theorem dX8_sister_21 : decode cX8_sister 21 = .ok (.aload_n 0, 1) := by decide +kernel
theorem dX8_sister_22 : decode cX8_sister 22 = .ok (.invokevirtual 195, 3) := by decide +kernel
theorem dX8_sister_25 : decode cX8_sister 25 = .ok (.aload_n 0, 1) := by decide +kernel
theorem dX8_sister_26 : decode cX8_sister 26 = .ok (.bipush (-4), 2) := by decide +kernel
theorem dX8_sister_28 : decode cX8_sister 28 = .ok (.putfield 186, 3) := by decide +kernel
theorem dX8_sister_31 : decode cX8_sister 31 = .ok (.aload_n 0, 1) := by decide +kernel
theorem dX8_sister_32 : decode cX8_sister 32 = .ok (.invokevirtual 198, 3) := by decide +kernel
theorem dX8_sister_35 : decode cX8_sister 35 = .ok (.aload_n 0, 1) := by decide +kernel
theorem dX8_sister_36 : decode cX8_sister 36 = .ok (.iload_n 1, 1) := by decide +kernel
theorem dX8_sister_37 : decode cX8_sister 37 = .ok (.invokevirtual 95, 3) := by decide +kernel
theorem dX8_sister_40 : decode cX8_sister 40 = .ok (.bipush (-4), 2) := by decide +kernel
theorem dX8_sister_42 : decode cX8_sister 42 = .ok (.if_icmp .ne 12, 3) := by decide +kernel
theorem dX8_sister_45 : decode cX8_sister 45 = .ok (.aload_n 0, 1) := by decide +kernel
theorem dX8_sister_46 : decode cX8_sister 46 = .ok (.iload_n 1, 1) := by decide +kernel
theorem dX8_sister_47 : decode cX8_sister 47 = .ok (.iload_n 2, 1) := by decide +kernel
theorem dX8_sister_48 : decode cX8_sister 48 = .ok (.invokevirtual 204, 3) := by decide +kernel
theorem dX8_sister_51 : decode cX8_sister 51 = .ok (.goto 5, 3) := by decide +kernel
theorem dX8_sister_54 : decode cX8_sister 54 = .ok (.bipush (-2), 2) := by decide +kernel
theorem dX8_sister_56 : decode cX8_sister 56 = .ok (.istore_n 3, 1) := by decide +kernel
theorem dX8_sister_57 : decode cX8_sister 57 = .ok (.aload_n 0, 1) := by decide +kernel
theorem dX8_sister_58 : decode cX8_sister 58 = .ok (.invokevirtual 201, 3) := by decide +kernel
theorem dX8_sister_61 : decode cX8_sister 61 = .ok (.iload_n 3, 1) := by decide +kernel
theorem dX8_sister_62 : decode cX8_sister 62 = .ok (.ireturn, 1) := by decide +kernel
theorem dX8_sisters_0 : decode cX8_sisters 0 = .ok (.iconst 0, 1) := by decide +kernel
theorem dX8_sisters_1 : decode cX8_sisters 1 = .ok (.istore_n 3, 1) := by decide +kernel
theorem dX8_sisters_2 : decode cX8_sisters 2 = .ok (.bipush 11, 2) := by decide +kernel
theorem dX8_sisters_4 : decode cX8_sisters 4 = .ok (.istore 4, 2) := by decide +kernel
theorem dX8_sisters_6 : decode cX8_sisters 6 = .ok (.iload 4, 2) := by decide +kernel
theorem dX8_sisters_8 : decode cX8_sisters 8 = .ok (.ifCond .lt 53, 3) := by decide +kernel
theorem dX8_sisters_11 : decode cX8_sisters 11 = .ok (.aload_n 0, 1) := by decide +kernel
theorem dX8_sisters_12 : decode cX8_sisters 12 = .ok (.getfield 76, 3) := by decide +kernel
theorem dX8_sisters_15 : decode cX8_sisters 15 = .ok (.iconst 1, 1) := by decide +kernel
theorem dX8_sisters_16 : decode cX8_sisters 16 = .ok (.isub, 1) := by decide +kernel
theorem dX8_sisters_17 : decode cX8_sisters 17 = .ok (.istore 5, 2) := by decide +kernel
theorem dX8_sisters_19 : decode cX8_sisters 19 = .ok (.iload 5, 2) := by decide +kernel
theorem dX8_sisters_21 : decode cX8_sisters 21 = .ok (.ifCond .lt 34, 3) := by decide +kernel
theorem dX8_sisters_24 : decode cX8_sisters 24 = .ok (.aload_n 0, 1) := by decide +kernel
theorem dX8_sisters_25 : decode cX8_sisters 25 = .ok (.getfield 13, 3) := by decide +kernel
theorem dX8_sisters_28 : decode cX8_sisters 28 = .ok (.iconst 2, 1) := by decide +kernel
theorem dX8_sisters_29 : decode cX8_sisters 29 = .ok (.iload 5, 2) := by decide +kernel
theorem dX8_sisters_31 : decode cX8_sisters 31 = .ok (.imul, 1) := by decide +kernel
theorem dX8_sisters_32 : decode cX8_sisters 32 = .ok (.iaload, 1) := by decide +kernel
theorem dX8_sisters_33 : decode cX8_sisters 33 = .ok (.iload 4, 2) := by decide +kernel
theorem dX8_sisters_35 : decode cX8_sisters 35 = .ok (.if_icmp .ne 14, 3) := by decide +kernel
theorem dX8_sisters_38 : decode cX8_sisters 38 = .ok (.aload_n 0, 1) := by decide +kernel
theorem dX8_sisters_39 : decode cX8_sisters 39 = .ok (.getfield 34, 3) := by decide +kernel
theorem dX8_sisters_42 : decode cX8_sisters 42 = .ok (.iload_n 3, 1) := by decide +kernel
theorem dX8_sisters_43 : decode cX8_sisters 43 = .ok (.iload 5, 2) := by decide +kernel
theorem dX8_sisters_45 : decode cX8_sisters 45 = .ok (.iastore, 1) := by decide +kernel
theorem dX8_sisters_46 : decode cX8_sisters 46 = .ok (.iinc 3 1, 3) := by decide +kernel
theorem dX8_sisters_49 : decode cX8_sisters 49 = .ok (.iinc 5 (-1), 3) := by decide +kernel
theorem dX8_sisters_52 : decode cX8_sisters 52 = .ok (.goto (-33), 3) := by decide +kernel
theorem dX8_sisters_55 : decode cX8_sisters 55 = .ok (.iinc 4 (-1), 3) := by decide +kernel
theorem dX8_sisters_58 : decode cX8_sisters 58 = .ok (.goto (-52), 3) := by decide +kernel
theorem dX8_sisters_61 : decode cX8_sisters 61 = .ok (.iconst (-1), 1) := by decide +kernel
theorem dX8_sisters_62 : decode cX8_sisters 62 = .ok (.istore 4, 2) := by decide +kernel
theorem dX8_sisters_64 : decode cX8_sisters 64 = .ok (.iconst 0, 1) := by decide +kernel
theorem dX8_sisters_65 : decode cX8_sisters 65 = .ok (.istore 5, 2) := by decide +kernel
theorem dX8_sisters_67 : decode cX8_sisters 67 = .ok (.iconst 0, 1) := by decide +kernel
theorem dX8_sisters_68 : decode cX8_sisters 68 = .ok (.istore 6, 2) := by decide +kernel
theorem dX8_sisters_70 : decode cX8_sisters 70 = .ok (.iload 6, 2) := by decide +kernel
theorem dX8_sisters_72 : decode cX8_sisters 72 = .ok (.iconst 1, 1) := by decide +kernel
theorem dX8_sisters_73 : decode cX8_sisters 73 = .ok (.iload_n 3, 1) := by decide +kernel
theorem dX8_sisters_74 : decode cX8_sisters 74 = .ok (.ishl, 1) := by decide +kernel
theorem dX8_sisters_75 : decode cX8_sisters 75 = .ok (.if_icmp .ge 165, 3) := by decide +kernel
theorem dX8_sisters_78 : decode cX8_sisters 78 = .ok (.iload_n 1, 1) := by decide +kernel
theorem dX8_sisters_79 : decode cX8_sisters 79 = .ok (.istore 7, 2) := by decide +kernel
theorem dX8_sisters_81 : decode cX8_sisters 81 = .ok (.iconst 0, 1) := by decide +kernel
theorem dX8_sisters_82 : decode cX8_sisters 82 = .ok (.istore 8, 2) := by decide +kernel
theorem dX8_sisters_84 : decode cX8_sisters 84 = .ok (.iconst 1, 1) := by decide +kernel
theorem dX8_sisters_85 : decode cX8_sisters 85 = .ok (.istore 9, 2) := by decide +kernel
theorem dX8_sisters_87 : decode cX8_sisters 87 = .ok (.iconst 0, 1) := by decide +kernel
theorem dX8_sisters_88 : decode cX8_sisters 88 = .ok (.istore 10, 2) := by decide +kernel
theorem dX8_sisters_90 : decode cX8_sisters 90 = .ok (.iload 10, 2) := by decide +kernel
theorem dX8_sisters_92 : decode cX8_sisters 92 = .ok (.iload_n 3, 1) := by decide +kernel
theorem dX8_sisters_93 : decode cX8_sisters 93 = .ok (.if_icmp .ge 113, 3) := by decide +kernel
theorem dX8_sisters_96 : decode cX8_sisters 96 = .ok (.iload 9, 2) := by decide +kernel
theorem dX8_sisters_98 : decode cX8_sisters 98 = .ok (.ifCond .eq 108, 3) := by decide +kernel
theorem dX8_sisters_101 : decode cX8_sisters 101 = .ok (.aload_n 0, 1) := by decide +kernel
theorem dX8_sisters_102 : decode cX8_sisters 102 = .ok (.getfield 34, 3) := by decide +kernel
theorem dX8_sisters_105 : decode cX8_sisters 105 = .ok (.iload 10, 2) := by decide +kernel
theorem dX8_sisters_107 : decode cX8_sisters 107 = .ok (.iaload, 1) := by decide +kernel
theorem dX8_sisters_108 : decode cX8_sisters 108 = .ok (.istore 11, 2) := by decide +kernel
theorem dX8_sisters_110 : decode cX8_sisters 110 = .ok (.iload 6, 2) := by decide +kernel
theorem dX8_sisters_112 : decode cX8_sisters 112 = .ok (.iload_n 3, 1) := by decide +kernel
theorem dX8_sisters_113 : decode cX8_sisters 113 = .ok (.iconst 1, 1) := by decide +kernel
theorem dX8_sisters_114 : decode cX8_sisters 114 = .ok (.isub, 1) := by decide +kernel
theorem dX8_sisters_115 : decode cX8_sisters 115 = .ok (.iload 10, 2) := by decide +kernel
theorem dX8_sisters_117 : decode cX8_sisters 117 = .ok (.isub, 1) := by decide +kernel
theorem dX8_sisters_118 : decode cX8_sisters 118 = .ok (.ishr, 1) := by decide +kernel
theorem dX8_sisters_119 : decode cX8_sisters 119 = .ok (.iconst 1, 1) := by decide +kernel
theorem dX8_sisters_120 : decode cX8_sisters 120 = .ok (.iand, 1) := by decide +kernel
theorem dX8_sisters_121 : decode cX8_sisters 121 = .ok (.iconst 1, 1) := by decide +kernel
theorem dX8_sisters_122 : decode cX8_sisters 122 = .ok (.if_icmp .ne 78, 3) := by decide +kernel
theorem dX8_sisters_125 : decode cX8_sisters 125 = .ok (.aload_n 0, 1) := by decide +kernel
theorem dX8_sisters_126 : decode cX8_sisters 126 = .ok (.getfield 16, 3) := by decide +kernel
theorem dX8_sisters_129 : decode cX8_sisters 129 = .ok (.iconst 5, 1) := by decide +kernel
theorem dX8_sisters_130 : decode cX8_sisters 130 = .ok (.iload 11, 2) := by decide +kernel
theorem dX8_sisters_132 : decode cX8_sisters 132 = .ok (.iadd, 1) := by decide +kernel
theorem dX8_sisters_133 : decode cX8_sisters 133 = .ok (.iaload, 1) := by decide +kernel
theorem dX8_sisters_134 : decode cX8_sisters 134 = .ok (.istore 12, 2) := by decide +kernel
theorem dX8_sisters_136 : decode cX8_sisters 136 = .ok (.iload 12, 2) := by decide +kernel
theorem dX8_sisters_138 : decode cX8_sisters 138 = .ok (.bipush (-4), 2) := by decide +kernel
theorem dX8_sisters_140 : decode cX8_sisters 140 = .ok (.if_icmp .eq 34, 3) := by decide +kernel
theorem dX8_sisters_143 : decode cX8_sisters 143 = .ok (.aload_n 0, 1) := by decide +kernel
theorem dX8_sisters_144 : decode cX8_sisters 144 = .ok (.iload 7, 2) := by decide +kernel
theorem dX8_sisters_146 : decode cX8_sisters 146 = .ok (.invokevirtual 173, 3) := by decide +kernel
theorem dX8_sisters_149 : decode cX8_sisters 149 = .ok (.aload_n 0, 1) := by decide +kernel
theorem dX8_sisters_150 : decode cX8_sisters 150 = .ok (.iload 12, 2) := by decide +kernel
theorem dX8_sisters_152 : decode cX8_sisters 152 = .ok (.invokevirtual 173, 3) := by decide +kernel
theorem dX8_sisters_155 : decode cX8_sisters 155 = .ok (.aload_n 0, 1) := by decide +kernel
theorem dX8_sisters_156 : decode cX8_sisters 156 = .ok (.getfield 13, 3) := by decide +kernel
theorem dX8_sisters_159 : decode cX8_sisters 159 = .ok (.iconst 2, 1) := by decide +kernel
theorem dX8_sisters_160 : decode cX8_sisters 160 = .ok (.iload 11, 2) := by decide +kernel
theorem dX8_sisters_162 : decode cX8_sisters 162 = .ok (.imul, 1) := by decide +kernel
theorem dX8_sisters_163 : decode cX8_sisters 163 = .ok (.iconst 1, 1) := by decide +kernel
theorem dX8_sisters_164 : decode cX8_sisters 164 = .ok (.iadd, 1) := by decide +kernel
theorem dX8_sisters_165 : decode cX8_sisters 165 = .ok (.iaload, 1) := by decide +kernel
theorem dX8_sisters_166 : decode cX8_sisters 166 = .ok (.iadd, 1) := by decide +kernel
theorem dX8_sisters_167 : decode cX8_sisters 167 = .ok (.if_icmp .lt 7, 3) := by decide +kernel
theorem dX8_sisters_170 : decode cX8_sisters 170 = .ok (.iconst 1, 1) := by decide +kernel
theorem dX8_sisters_171 : decode cX8_sisters 171 = .ok (.goto 4, 3) := by decide +kernel
theorem dX8_sisters_174 : decode cX8_sisters 174 = .ok (.iconst 0, 1) := by decide +kernel
theorem dX8_sisters_175 : decode cX8_sisters 175 = .ok (.istore 9, 2) := by decide +kernel
theorem dX8_sisters_177 : decode cX8_sisters 177 = .ok (.iload 9, 2) := by decide +kernel
theorem dX8_sisters_179 : decode cX8_sisters 179 = .ok (.ifCond .eq 8, 3) := by decide +kernel
theorem dX8_sisters_182 : decode cX8_sisters 182 = .ok (.iload 12, 2) := by decide +kernel
theorem dX8_sisters_184 : decode cX8_sisters 184 = .ok (.goto 5, 3) := by decide +kernel
theorem dX8_sisters_187 : decode cX8_sisters 187 = .ok (.iload 7, 2) := by decide +kernel
theorem dX8_sisters_189 : decode cX8_sisters 189 = .ok (.istore 7, 2) := by decide +kernel
theorem dX8_sisters_191 : decode cX8_sisters 191 = .ok (.iload 8, 2) := by decide +kernel
theorem dX8_sisters_193 : decode cX8_sisters 193 = .ok (.iconst 1, 1) := by decide +kernel
theorem dX8_sisters_194 : decode cX8_sisters 194 = .ok (.iload 11, 2) := by decide +kernel
theorem dX8_sisters_196 : decode cX8_sisters 196 = .ok (.ishl, 1) := by decide +kernel
theorem dX8_sisters_197 : decode cX8_sisters 197 = .ok (.ior, 1) := by decide +kernel
theorem dX8_sisters_198 : decode cX8_sisters 198 = .ok (.istore 8, 2) := by decide +kernel
theorem dX8_sisters_200 : decode cX8_sisters 200 = .ok (.iinc 10 1, 3) := by decide +kernel
theorem dX8_sisters_203 : decode cX8_sisters 203 = .ok (.goto (-113), 3) := by decide +kernel
theorem dX8_sisters_206 : decode cX8_sisters 206 = .ok (.iload 9, 2) := by decide +kernel
theorem dX8_sisters_208 : decode cX8_sisters 208 = .ok (.ifCond .eq 26, 3) := by decide +kernel
theorem dX8_sisters_211 : decode cX8_sisters 211 = .ok (.aload_n 0, 1) := by decide +kernel
theorem dX8_sisters_212 : decode cX8_sisters 212 = .ok (.iload 7, 2) := by decide +kernel
theorem dX8_sisters_214 : decode cX8_sisters 214 = .ok (.invokevirtual 173, 3) := by decide +kernel
theorem dX8_sisters_217 : decode cX8_sisters 217 = .ok (.iload 4, 2) := by decide +kernel
theorem dX8_sisters_219 : decode cX8_sisters 219 = .ok (.if_icmp .le 15, 3) := by decide +kernel
theorem dX8_sisters_222 : decode cX8_sisters 222 = .ok (.aload_n 0, 1) := by decide +kernel
theorem dX8_sisters_223 : decode cX8_sisters 223 = .ok (.iload 7, 2) := by decide +kernel
theorem dX8_sisters_225 : decode cX8_sisters 225 = .ok (.invokevirtual 173, 3) := by decide +kernel
theorem dX8_sisters_228 : decode cX8_sisters 228 = .ok (.istore 4, 2) := by decide +kernel
theorem dX8_sisters_230 : decode cX8_sisters 230 = .ok (.iload 8, 2) := by decide +kernel
theorem dX8_sisters_232 : decode cX8_sisters 232 = .ok (.istore 5, 2) := by decide +kernel
theorem dX8_sisters_234 : decode cX8_sisters 234 = .ok (.iinc 6 1, 3) := by decide +kernel
theorem dX8_sisters_237 : decode cX8_sisters 237 = .ok (.goto (-167), 3) := by decide +kernel
theorem dX8_sisters_240 : decode cX8_sisters 240 = .ok (.iload_n 2, 1) := by decide +kernel
theorem dX8_sisters_241 : decode cX8_sisters 241 = .ok (.ifCond .ne 8, 3) := by decide +kernel
theorem dX8_sisters_244 : decode cX8_sisters 244 = .ok (.iload 4, 2) := by decide +kernel
theorem dX8_sisters_246 : decode cX8_sisters 246 = .ok (.goto 5, 3) := by decide +kernel
theorem dX8_sisters_249 : decode cX8_sisters 249 = .ok (.iload 5, 2) := by decide +kernel
theorem dX8_sisters_251 : decode cX8_sisters 251 = .ok (.ireturn, 1) := by decide +kernel
theorem dX8_turns_0 : decode cX8_turns 0 = .ok (.aload_n 0, 1) := by decide +kernel
theorem dX8_turns_1 : decode cX8_turns 1 = .ok (.getfield 37, 3) := by decide +kernel
theorem dX8_turns_4 : decode cX8_turns 4 = .ok (.iload_n 1, 1) := by decide +kernel
theorem dX8_turns_5 : decode cX8_turns 5 = .ok (.iconst 1, 1) := by decide +kernel
theorem dX8_turns_6 : decode cX8_turns 6 = .ok (.iadd, 1) := by decide +kernel
theorem dX8_turns_7 : decode cX8_turns 7 = .ok (.dup2, 1) := by decide +kernel
theorem dX8_turns_8 : decode cX8_turns 8 = .ok (.iaload, 1) := by decide +kernel
theorem dX8_turns_9 : decode cX8_turns 9 = .ok (.iconst 1, 1) := by decide +kernel
theorem dX8_turns_10 : decode cX8_turns 10 = .ok (.iadd, 1) := by decide +kernel
theorem dX8_turns_11 : decode cX8_turns 11 = .ok (.iastore, 1) := by decide +kernel
theorem dX8_turns_12 : decode cX8_turns 12 = .ok (.aload_n 0, 1) := by decide +kernel
theorem dX8_turns_13 : decode cX8_turns 13 = .ok (.aload_n 0, 1) := by decide +kernel
theorem dX8_turns_14 : decode cX8_turns 14 = .ok (.getfield 37, 3) := by decide +kernel
theorem dX8_turns_17 : decode cX8_turns 17 = .ok (.iload_n 1, 1) := by decide +kernel
theorem dX8_turns_18 : decode cX8_turns 18 = .ok (.iaload, 1) := by decide +kernel
theorem dX8_turns_19 : decode cX8_turns 19 = .ok (.aload_n 0, 1) := by decide +kernel
theorem dX8_turns_20 : decode cX8_turns 20 = .ok (.getfield 37, 3) := by decide +kernel
theorem dX8_turns_23 : decode cX8_turns 23 = .ok (.iload_n 1, 1) := by decide +kernel
theorem dX8_turns_24 : decode cX8_turns 24 = .ok (.iconst 1, 1) := by decide +kernel
theorem dX8_turns_25 : decode cX8_turns 25 = .ok (.iadd, 1) := by decide +kernel
theorem dX8_turns_26 : decode cX8_turns 26 = .ok (.iaload, 1) := by decide +kernel
theorem dX8_turns_27 : decode cX8_turns 27 = .ok (.iconst 0, 1) := by decide +kernel
theorem dX8_turns_28 : decode cX8_turns 28 = .ok (.invokevirtual 99, 3) := by decide +kernel
theorem dX8_turns_31 : decode cX8_turns 31 = .ok (.istore_n 3, 1) := by decide +kernel
theorem dX8_turns_32 : decode cX8_turns 32 = .ok (.aload_n 0, 1) := by decide +kernel
theorem dX8_turns_33 : decode cX8_turns 33 = .ok (.aload_n 0, 1) := by decide +kernel
theorem dX8_turns_34 : decode cX8_turns 34 = .ok (.getfield 37, 3) := by decide +kernel
theorem dX8_turns_37 : decode cX8_turns 37 = .ok (.iload_n 1, 1) := by decide +kernel
theorem dX8_turns_38 : decode cX8_turns 38 = .ok (.iaload, 1) := by decide +kernel
theorem dX8_turns_39 : decode cX8_turns 39 = .ok (.aload_n 0, 1) := by decide +kernel
theorem dX8_turns_40 : decode cX8_turns 40 = .ok (.getfield 37, 3) := by decide +kernel
theorem dX8_turns_43 : decode cX8_turns 43 = .ok (.iload_n 1, 1) := by decide +kernel
theorem dX8_turns_44 : decode cX8_turns 44 = .ok (.iconst 1, 1) := by decide +kernel
theorem dX8_turns_45 : decode cX8_turns 45 = .ok (.iadd, 1) := by decide +kernel
theorem dX8_turns_46 : decode cX8_turns 46 = .ok (.iaload, 1) := by decide +kernel
theorem dX8_turns_47 : decode cX8_turns 47 = .ok (.iconst 1, 1) := by decide +kernel
theorem dX8_turns_48 : decode cX8_turns 48 = .ok (.invokevirtual 99, 3) := by decide +kernel
theorem dX8_turns_51 : decode cX8_turns 51 = .ok (.istore 4, 2) := by decide +kernel
theorem dX8_turns_53 : decode cX8_turns 53 = .ok (.aload_n 0, 1) := by decide +kernel
theorem dX8_turns_54 : decode cX8_turns 54 = .ok (.getfield 37, 3) := by decide +kernel
theorem dX8_turns_57 : decode cX8_turns 57 = .ok (.iload_n 1, 1) := by decide +kernel
theorem dX8_turns_58 : decode cX8_turns 58 = .ok (.iconst 2, 1) := by decide +kernel
theorem dX8_turns_59 : decode cX8_turns 59 = .ok (.iadd, 1) := by decide +kernel
theorem dX8_turns_60 : decode cX8_turns 60 = .ok (.iload_n 3, 1) := by decide +kernel
theorem dX8_turns_61 : decode cX8_turns 61 = .ok (.iload 4, 2) := by decide +kernel
theorem dX8_turns_63 : decode cX8_turns 63 = .ok (.if_icmp .lt 7, 3) := by decide +kernel
theorem dX8_turns_66 : decode cX8_turns 66 = .ok (.iconst 0, 1) := by decide +kernel
theorem dX8_turns_67 : decode cX8_turns 67 = .ok (.goto 4, 3) := by decide +kernel
theorem dX8_turns_70 : decode cX8_turns 70 = .ok (.iconst 1, 1) := by decide +kernel
theorem dX8_turns_71 : decode cX8_turns 71 = .ok (.iastore, 1) := by decide +kernel
theorem dX8_turns_72 : decode cX8_turns 72 = .ok (.iload_n 3, 1) := by decide +kernel
theorem dX8_turns_73 : decode cX8_turns 73 = .ok (.iload 4, 2) := by decide +kernel
theorem dX8_turns_75 : decode cX8_turns 75 = .ok (.if_icmp .lt 7, 3) := by decide +kernel
theorem dX8_turns_78 : decode cX8_turns 78 = .ok (.iload_n 3, 1) := by decide +kernel
theorem dX8_turns_79 : decode cX8_turns 79 = .ok (.goto 5, 3) := by decide +kernel
theorem dX8_turns_82 : decode cX8_turns 82 = .ok (.iload 4, 2) := by decide +kernel
theorem dX8_turns_84 : decode cX8_turns 84 = .ok (.istore 5, 2) := by decide +kernel
theorem dX8_turns_86 : decode cX8_turns 86 = .ok (.iload 5, 2) := by decide +kernel
theorem dX8_turns_88 : decode cX8_turns 88 = .ok (.aload_n 0, 1) := by decide +kernel
theorem dX8_turns_89 : decode cX8_turns 89 = .ok (.aload_n 0, 1) := by decide +kernel
theorem dX8_turns_90 : decode cX8_turns 90 = .ok (.getfield 37, 3) := by decide +kernel
theorem dX8_turns_93 : decode cX8_turns 93 = .ok (.iload_n 2, 1) := by decide +kernel
theorem dX8_turns_94 : decode cX8_turns 94 = .ok (.iaload, 1) := by decide +kernel
theorem dX8_turns_95 : decode cX8_turns 95 = .ok (.iconst 0, 1) := by decide +kernel
theorem dX8_turns_96 : decode cX8_turns 96 = .ok (.aload_n 0, 1) := by decide +kernel
theorem dX8_turns_97 : decode cX8_turns 97 = .ok (.getfield 37, 3) := by decide +kernel
theorem dX8_turns_100 : decode cX8_turns 100 = .ok (.iload_n 1, 1) := by decide +kernel
theorem dX8_turns_101 : decode cX8_turns 101 = .ok (.iconst 2, 1) := by decide +kernel
theorem dX8_turns_102 : decode cX8_turns 102 = .ok (.iadd, 1) := by decide +kernel
theorem dX8_turns_103 : decode cX8_turns 103 = .ok (.iaload, 1) := by decide +kernel
theorem dX8_turns_104 : decode cX8_turns 104 = .ok (.invokevirtual 99, 3) := by decide +kernel
theorem dX8_turns_107 : decode cX8_turns 107 = .ok (.if_icmp .le 39, 3) := by decide +kernel
theorem dX8_turns_110 : decode cX8_turns 110 = .ok (.aload_n 0, 1) := by decide +kernel
theorem dX8_turns_111 : decode cX8_turns 111 = .ok (.aload_n 0, 1) := by decide +kernel
theorem dX8_turns_112 : decode cX8_turns 112 = .ok (.getfield 37, 3) := by decide +kernel
theorem dX8_turns_115 : decode cX8_turns 115 = .ok (.iload_n 1, 1) := by decide +kernel
theorem dX8_turns_116 : decode cX8_turns 116 = .ok (.iaload, 1) := by decide +kernel
theorem dX8_turns_117 : decode cX8_turns 117 = .ok (.invokevirtual 173, 3) := by decide +kernel
theorem dX8_turns_120 : decode cX8_turns 120 = .ok (.aload_n 0, 1) := by decide +kernel
theorem dX8_turns_121 : decode cX8_turns 121 = .ok (.aload_n 0, 1) := by decide +kernel
theorem dX8_turns_122 : decode cX8_turns 122 = .ok (.getfield 37, 3) := by decide +kernel
theorem dX8_turns_125 : decode cX8_turns 125 = .ok (.iload_n 2, 1) := by decide +kernel
theorem dX8_turns_126 : decode cX8_turns 126 = .ok (.iaload, 1) := by decide +kernel
theorem dX8_turns_127 : decode cX8_turns 127 = .ok (.invokevirtual 173, 3) := by decide +kernel
theorem dX8_turns_130 : decode cX8_turns 130 = .ok (.isub, 1) := by decide +kernel
theorem dX8_turns_131 : decode cX8_turns 131 = .ok (.aload_n 0, 1) := by decide +kernel
theorem dX8_turns_132 : decode cX8_turns 132 = .ok (.getfield 37, 3) := by decide +kernel
theorem dX8_turns_135 : decode cX8_turns 135 = .ok (.iload_n 1, 1) := by decide +kernel
theorem dX8_turns_136 : decode cX8_turns 136 = .ok (.iconst 3, 1) := by decide +kernel
theorem dX8_turns_137 : decode cX8_turns 137 = .ok (.iadd, 1) := by decide +kernel
theorem dX8_turns_138 : decode cX8_turns 138 = .ok (.iaload, 1) := by decide +kernel
theorem dX8_turns_139 : decode cX8_turns 139 = .ok (.if_icmp .gt 7, 3) := by decide +kernel
theorem dX8_turns_142 : decode cX8_turns 142 = .ok (.iconst 1, 1) := by decide +kernel
theorem dX8_turns_143 : decode cX8_turns 143 = .ok (.goto 4, 3) := by decide +kernel
theorem dX8_turns_146 : decode cX8_turns 146 = .ok (.iconst 0, 1) := by decide +kernel
theorem dX8_turns_147 : decode cX8_turns 147 = .ok (.istore 6, 2) := by decide +kernel
theorem dX8_turns_149 : decode cX8_turns 149 = .ok (.iload 6, 2) := by decide +kernel
theorem dX8_turns_151 : decode cX8_turns 151 = .ok (.ifCond .eq 49, 3) := by decide +kernel
theorem dX8_turns_154 : decode cX8_turns 154 = .ok (.aload_n 0, 1) := by decide +kernel
theorem dX8_turns_155 : decode cX8_turns 155 = .ok (.getfield 37, 3) := by decide +kernel
theorem dX8_turns_158 : decode cX8_turns 158 = .ok (.iload_n 1, 1) := by decide +kernel
theorem dX8_turns_159 : decode cX8_turns 159 = .ok (.iaload, 1) := by decide +kernel
theorem dX8_turns_160 : decode cX8_turns 160 = .ok (.istore 7, 2) := by decide +kernel
theorem dX8_turns_162 : decode cX8_turns 162 = .ok (.aload_n 0, 1) := by decide +kernel
theorem dX8_turns_163 : decode cX8_turns 163 = .ok (.getfield 37, 3) := by decide +kernel
theorem dX8_turns_166 : decode cX8_turns 166 = .ok (.iload_n 1, 1) := by decide +kernel
theorem dX8_turns_167 : decode cX8_turns 167 = .ok (.aload_n 0, 1) := by decide +kernel
theorem dX8_turns_168 : decode cX8_turns 168 = .ok (.getfield 37, 3) := by decide +kernel
theorem dX8_turns_171 : decode cX8_turns 171 = .ok (.iload_n 2, 1) := by decide +kernel
theorem dX8_turns_172 : decode cX8_turns 172 = .ok (.iaload, 1) := by decide +kernel
theorem dX8_turns_173 : decode cX8_turns 173 = .ok (.iastore, 1) := by decide +kernel
theorem dX8_turns_174 : decode cX8_turns 174 = .ok (.aload_n 0, 1) := by decide +kernel
theorem dX8_turns_175 : decode cX8_turns 175 = .ok (.getfield 37, 3) := by decide +kernel
theorem dX8_turns_178 : decode cX8_turns 178 = .ok (.iload_n 2, 1) := by decide +kernel
theorem dX8_turns_179 : decode cX8_turns 179 = .ok (.iload 7, 2) := by decide +kernel
theorem dX8_turns_181 : decode cX8_turns 181 = .ok (.iastore, 1) := by decide +kernel
theorem dX8_turns_182 : decode cX8_turns 182 = .ok (.aload_n 0, 1) := by decide +kernel
theorem dX8_turns_183 : decode cX8_turns 183 = .ok (.getfield 37, 3) := by decide +kernel
theorem dX8_turns_186 : decode cX8_turns 186 = .ok (.iload_n 1, 1) := by decide +kernel
theorem dX8_turns_187 : decode cX8_turns 187 = .ok (.iconst 1, 1) := by decide +kernel
theorem dX8_turns_188 : decode cX8_turns 188 = .ok (.iadd, 1) := by decide +kernel
theorem dX8_turns_189 : decode cX8_turns 189 = .ok (.iconst 0, 1) := by decide +kernel
theorem dX8_turns_190 : decode cX8_turns 190 = .ok (.iastore, 1) := by decide +kernel
theorem dX8_turns_191 : decode cX8_turns 191 = .ok (.aload_n 0, 1) := by decide +kernel
theorem dX8_turns_192 : decode cX8_turns 192 = .ok (.getfield 37, 3) := by decide +kernel
theorem dX8_turns_195 : decode cX8_turns 195 = .ok (.iload_n 2, 1) := by decide +kernel
theorem dX8_turns_196 : decode cX8_turns 196 = .ok (.iconst 1, 1) := by decide +kernel
theorem dX8_turns_197 : decode cX8_turns 197 = .ok (.iadd, 1) := by decide +kernel
theorem dX8_turns_198 : decode cX8_turns 198 = .ok (.iconst 0, 1) := by decide +kernel
theorem dX8_turns_199 : decode cX8_turns 199 = .ok (.iastore, 1) := by decide +kernel
theorem dX8_turns_200 : decode cX8_turns 200 = .ok (.iload 6, 2) := by decide +kernel
theorem dX8_turns_202 : decode cX8_turns 202 = .ok (.ireturn, 1) := by decide +kernel
theorem dX8_meet_0 : decode cX8_meet 0 = .ok (.aload_n 0, 1) := by decide +kernel
theorem dX8_meet_1 : decode cX8_meet 1 = .ok (.iload_n 1, 1) := by decide +kernel
theorem dX8_meet_2 : decode cX8_meet 2 = .ok (.i2l, 1) := by decide +kernel
theorem dX8_meet_3 : decode cX8_meet 3 = .ok (.invokevirtual 89, 3) := by decide +kernel
theorem dX8_meet_6 : decode cX8_meet 6 = .ok (.ifCond .eq 15, 3) := by decide +kernel
theorem dX8_meet_9 : decode cX8_meet 9 = .ok (.iload_n 2, 1) := by decide +kernel
theorem dX8_meet_10 : decode cX8_meet 10 = .ok (.i2l, 1) := by decide +kernel
theorem dX8_meet_11 : decode cX8_meet 11 = .ok (.lconst 0, 1) := by decide +kernel
theorem dX8_meet_12 : decode cX8_meet 12 = .ok (.ldc2_w 115, 3) := by decide +kernel
theorem dX8_meet_15 : decode cX8_meet 15 = .ok (.invokestatic 72, 3) := by decide +kernel
theorem dX8_meet_18 : decode cX8_meet 18 = .ok (.ifCond .ne 5, 3) := by decide +kernel
theorem dX8_meet_21 : decode cX8_meet 21 = .ok (.iconst (-1), 1) := by decide +kernel
theorem dX8_meet_22 : decode cX8_meet 22 = .ok (.ireturn, 1) := by decide +kernel
theorem dX8_meet_23 : decode cX8_meet 23 = .ok (.aload_n 0, 1) := by decide +kernel
theorem dX8_meet_24 : decode cX8_meet 24 = .ok (.iload_n 1, 1) := by decide +kernel
theorem dX8_meet_25 : decode cX8_meet 25 = .ok (.invokevirtual 95, 3) := by decide +kernel
theorem dX8_meet_28 : decode cX8_meet 28 = .ok (.bipush (-4), 2) := by decide +kernel
theorem dX8_meet_30 : decode cX8_meet 30 = .ok (.if_icmp .ne 14, 3) := by decide +kernel
theorem dX8_meet_33 : decode cX8_meet 33 = .ok (.aload_n 0, 1) := by decide +kernel
theorem dX8_meet_34 : decode cX8_meet 34 = .ok (.getfield 16, 3) := by decide +kernel
theorem dX8_meet_37 : decode cX8_meet 37 = .ok (.iconst 0, 1) := by decide +kernel
theorem dX8_meet_38 : decode cX8_meet 38 = .ok (.iaload, 1) := by decide +kernel
theorem dX8_meet_39 : decode cX8_meet 39 = .ok (.bipush (-4), 2) := by decide +kernel
theorem dX8_meet_41 : decode cX8_meet 41 = .ok (.if_icmp .ne 6, 3) := by decide +kernel
theorem dX8_meet_44 : decode cX8_meet 44 = .ok (.bipush (-2), 2) := by decide +kernel
theorem dX8_meet_46 : decode cX8_meet 46 = .ok (.ireturn, 1) := by decide +kernel
theorem dX8_meet_47 : decode cX8_meet 47 = .ok (.aload_n 0, 1) := by decide +kernel
theorem dX8_meet_48 : decode cX8_meet 48 = .ok (.getfield 37, 3) := by decide +kernel
theorem dX8_meet_51 : decode cX8_meet 51 = .ok (.iconst 0, 1) := by decide +kernel
theorem dX8_meet_52 : decode cX8_meet 52 = .ok (.aload_n 0, 1) := by decide +kernel
theorem dX8_meet_53 : decode cX8_meet 53 = .ok (.getfield 16, 3) := by decide +kernel
theorem dX8_meet_56 : decode cX8_meet 56 = .ok (.iconst 0, 1) := by decide +kernel
theorem dX8_meet_57 : decode cX8_meet 57 = .ok (.iaload, 1) := by decide +kernel
theorem dX8_meet_58 : decode cX8_meet 58 = .ok (.iastore, 1) := by decide +kernel
theorem dX8_meet_59 : decode cX8_meet 59 = .ok (.aload_n 0, 1) := by decide +kernel
theorem dX8_meet_60 : decode cX8_meet 60 = .ok (.getfield 37, 3) := by decide +kernel
theorem dX8_meet_63 : decode cX8_meet 63 = .ok (.iconst 1, 1) := by decide +kernel
theorem dX8_meet_64 : decode cX8_meet 64 = .ok (.aload_n 0, 1) := by decide +kernel
theorem dX8_meet_65 : decode cX8_meet 65 = .ok (.getfield 16, 3) := by decide +kernel
theorem dX8_meet_68 : decode cX8_meet 68 = .ok (.iconst 1, 1) := by decide +kernel
theorem dX8_meet_69 : decode cX8_meet 69 = .ok (.iaload, 1) := by decide +kernel
theorem dX8_meet_70 : decode cX8_meet 70 = .ok (.iastore, 1) := by decide +kernel
theorem dX8_meet_71 : decode cX8_meet 71 = .ok (.aload_n 0, 1) := by decide +kernel
theorem dX8_meet_72 : decode cX8_meet 72 = .ok (.getfield 37, 3) := by decide +kernel
theorem dX8_meet_75 : decode cX8_meet 75 = .ok (.iconst 2, 1) := by decide +kernel
theorem dX8_meet_76 : decode cX8_meet 76 = .ok (.aload_n 0, 1) := by decide +kernel
theorem dX8_meet_77 : decode cX8_meet 77 = .ok (.getfield 16, 3) := by decide +kernel
theorem dX8_meet_80 : decode cX8_meet 80 = .ok (.iconst 2, 1) := by decide +kernel
theorem dX8_meet_81 : decode cX8_meet 81 = .ok (.iaload, 1) := by decide +kernel
theorem dX8_meet_82 : decode cX8_meet 82 = .ok (.iastore, 1) := by decide +kernel
theorem dX8_meet_83 : decode cX8_meet 83 = .ok (.aload_n 0, 1) := by decide +kernel
theorem dX8_meet_84 : decode cX8_meet 84 = .ok (.getfield 37, 3) := by decide +kernel
theorem dX8_meet_87 : decode cX8_meet 87 = .ok (.iconst 3, 1) := by decide +kernel
theorem dX8_meet_88 : decode cX8_meet 88 = .ok (.aload_n 0, 1) := by decide +kernel
theorem dX8_meet_89 : decode cX8_meet 89 = .ok (.getfield 60, 3) := by decide +kernel
theorem dX8_meet_92 : decode cX8_meet 92 = .ok (.iastore, 1) := by decide +kernel
theorem dX8_meet_93 : decode cX8_meet 93 = .ok (.aload_n 0, 1) := by decide +kernel
theorem dX8_meet_94 : decode cX8_meet 94 = .ok (.getfield 37, 3) := by decide +kernel
theorem dX8_meet_97 : decode cX8_meet 97 = .ok (.iconst 4, 1) := by decide +kernel
theorem dX8_meet_98 : decode cX8_meet 98 = .ok (.iload_n 1, 1) := by decide +kernel
theorem dX8_meet_99 : decode cX8_meet 99 = .ok (.iastore, 1) := by decide +kernel
theorem dX8_meet_100 : decode cX8_meet 100 = .ok (.aload_n 0, 1) := by decide +kernel
theorem dX8_meet_101 : decode cX8_meet 101 = .ok (.getfield 37, 3) := by decide +kernel
theorem dX8_meet_104 : decode cX8_meet 104 = .ok (.iconst 5, 1) := by decide +kernel
theorem dX8_meet_105 : decode cX8_meet 105 = .ok (.iconst 0, 1) := by decide +kernel
theorem dX8_meet_106 : decode cX8_meet 106 = .ok (.iastore, 1) := by decide +kernel
theorem dX8_meet_107 : decode cX8_meet 107 = .ok (.aload_n 0, 1) := by decide +kernel
theorem dX8_meet_108 : decode cX8_meet 108 = .ok (.getfield 37, 3) := by decide +kernel
theorem dX8_meet_111 : decode cX8_meet 111 = .ok (.bipush 6, 2) := by decide +kernel
theorem dX8_meet_113 : decode cX8_meet 113 = .ok (.iconst 0, 1) := by decide +kernel
theorem dX8_meet_114 : decode cX8_meet 114 = .ok (.iastore, 1) := by decide +kernel
theorem dX8_meet_115 : decode cX8_meet 115 = .ok (.aload_n 0, 1) := by decide +kernel
theorem dX8_meet_116 : decode cX8_meet 116 = .ok (.getfield 37, 3) := by decide +kernel
theorem dX8_meet_119 : decode cX8_meet 119 = .ok (.bipush 7, 2) := by decide +kernel
theorem dX8_meet_121 : decode cX8_meet 121 = .ok (.bipush 99, 2) := by decide +kernel
theorem dX8_meet_123 : decode cX8_meet 123 = .ok (.iastore, 1) := by decide +kernel
theorem dX8_meet_124 : decode cX8_meet 124 = .ok (.iconst 0, 1) := by decide +kernel
theorem dX8_meet_125 : decode cX8_meet 125 = .ok (.istore_n 3, 1) := by decide +kernel
theorem dX8_meet_126 : decode cX8_meet 126 = .ok (.iconst 0, 1) := by decide +kernel
theorem dX8_meet_127 : decode cX8_meet 127 = .ok (.istore 4, 2) := by decide +kernel
theorem dX8_meet_129 : decode cX8_meet 129 = .ok (.iload 4, 2) := by decide +kernel
theorem dX8_meet_131 : decode cX8_meet 131 = .ok (.sipush 200, 3) := by decide +kernel
theorem dX8_meet_134 : decode cX8_meet 134 = .ok (.if_icmp .ge 51, 3) := by decide +kernel
theorem dX8_meet_137 : decode cX8_meet 137 = .ok (.iload_n 3, 1) := by decide +kernel
theorem dX8_meet_138 : decode cX8_meet 138 = .ok (.iconst 2, 1) := by decide +kernel
theorem dX8_meet_139 : decode cX8_meet 139 = .ok (.if_icmp .ge 46, 3) := by decide +kernel
theorem dX8_meet_142 : decode cX8_meet 142 = .ok (.iload 4, 2) := by decide +kernel
theorem dX8_meet_144 : decode cX8_meet 144 = .ok (.iconst 2, 1) := by decide +kernel
theorem dX8_meet_145 : decode cX8_meet 145 = .ok (.irem, 1) := by decide +kernel
theorem dX8_meet_146 : decode cX8_meet 146 = .ok (.ifCond .ne 12, 3) := by decide +kernel
theorem dX8_meet_149 : decode cX8_meet 149 = .ok (.aload_n 0, 1) := by decide +kernel
theorem dX8_meet_150 : decode cX8_meet 150 = .ok (.iconst 0, 1) := by decide +kernel
theorem dX8_meet_151 : decode cX8_meet 151 = .ok (.iconst 4, 1) := by decide +kernel
theorem dX8_meet_152 : decode cX8_meet 152 = .ok (.invokevirtual 207, 3) := by decide +kernel
theorem dX8_meet_155 : decode cX8_meet 155 = .ok (.goto 9, 3) := by decide +kernel
theorem dX8_meet_158 : decode cX8_meet 158 = .ok (.aload_n 0, 1) := by decide +kernel
theorem dX8_meet_159 : decode cX8_meet 159 = .ok (.iconst 4, 1) := by decide +kernel
theorem dX8_meet_160 : decode cX8_meet 160 = .ok (.iconst 0, 1) := by decide +kernel
theorem dX8_meet_161 : decode cX8_meet 161 = .ok (.invokevirtual 207, 3) := by decide +kernel
theorem dX8_meet_164 : decode cX8_meet 164 = .ok (.istore 5, 2) := by decide +kernel
theorem dX8_meet_166 : decode cX8_meet 166 = .ok (.iload 5, 2) := by decide +kernel
theorem dX8_meet_168 : decode cX8_meet 168 = .ok (.ifCond .eq 7, 3) := by decide +kernel
theorem dX8_meet_171 : decode cX8_meet 171 = .ok (.iconst 0, 1) := by decide +kernel
theorem dX8_meet_172 : decode cX8_meet 172 = .ok (.goto 6, 3) := by decide +kernel
theorem dX8_meet_175 : decode cX8_meet 175 = .ok (.iload_n 3, 1) := by decide +kernel
theorem dX8_meet_176 : decode cX8_meet 176 = .ok (.iconst 1, 1) := by decide +kernel
theorem dX8_meet_177 : decode cX8_meet 177 = .ok (.iadd, 1) := by decide +kernel
theorem dX8_meet_178 : decode cX8_meet 178 = .ok (.istore_n 3, 1) := by decide +kernel
theorem dX8_meet_179 : decode cX8_meet 179 = .ok (.iinc 4 1, 3) := by decide +kernel
theorem dX8_meet_182 : decode cX8_meet 182 = .ok (.goto (-53), 3) := by decide +kernel
theorem dX8_meet_185 : decode cX8_meet 185 = .ok (.iload_n 3, 1) := by decide +kernel
theorem dX8_meet_186 : decode cX8_meet 186 = .ok (.iconst 2, 1) := by decide +kernel
theorem dX8_meet_187 : decode cX8_meet 187 = .ok (.if_icmp .ge 8, 3) := by decide +kernel
theorem dX8_meet_190 : decode cX8_meet 190 = .ok (.bipush (-4), 2) := by decide +kernel
theorem dX8_meet_192 : decode cX8_meet 192 = .ok (.goto 32, 3) := by decide +kernel
theorem dX8_meet_195 : decode cX8_meet 195 = .ok (.iload_n 2, 1) := by decide +kernel
theorem dX8_meet_196 : decode cX8_meet 196 = .ok (.ifCond .ne 8, 3) := by decide +kernel
theorem dX8_meet_199 : decode cX8_meet 199 = .ok (.iload 4, 2) := by decide +kernel
theorem dX8_meet_201 : decode cX8_meet 201 = .ok (.goto 23, 3) := by decide +kernel
theorem dX8_meet_204 : decode cX8_meet 204 = .ok (.iload_n 2, 1) := by decide +kernel
theorem dX8_meet_205 : decode cX8_meet 205 = .ok (.iconst 1, 1) := by decide +kernel
theorem dX8_meet_206 : decode cX8_meet 206 = .ok (.if_icmp .ne 12, 3) := by decide +kernel
theorem dX8_meet_209 : decode cX8_meet 209 = .ok (.aload_n 0, 1) := by decide +kernel
theorem dX8_meet_210 : decode cX8_meet 210 = .ok (.getfield 37, 3) := by decide +kernel
theorem dX8_meet_213 : decode cX8_meet 213 = .ok (.iconst 0, 1) := by decide +kernel
theorem dX8_meet_214 : decode cX8_meet 214 = .ok (.iaload, 1) := by decide +kernel
theorem dX8_meet_215 : decode cX8_meet 215 = .ok (.goto 9, 3) := by decide +kernel
theorem dX8_meet_218 : decode cX8_meet 218 = .ok (.aload_n 0, 1) := by decide +kernel
theorem dX8_meet_219 : decode cX8_meet 219 = .ok (.getfield 37, 3) := by decide +kernel
theorem dX8_meet_222 : decode cX8_meet 222 = .ok (.iconst 4, 1) := by decide +kernel
theorem dX8_meet_223 : decode cX8_meet 223 = .ok (.iaload, 1) := by decide +kernel
theorem dX8_meet_224 : decode cX8_meet 224 = .ok (.ireturn, 1) := by decide +kernel
theorem dX8_first_0 : decode cX8_first 0 = .ok (.aload_n 0, 1) := by decide +kernel
theorem dX8_first_1 : decode cX8_first 1 = .ok (.iload_n 1, 1) := by decide +kernel
theorem dX8_first_2 : decode cX8_first 2 = .ok (.i2l, 1) := by decide +kernel
theorem dX8_first_3 : decode cX8_first 3 = .ok (.invokevirtual 89, 3) := by decide +kernel
theorem dX8_first_6 : decode cX8_first 6 = .ok (.ifCond .ne 5, 3) := by decide +kernel
theorem dX8_first_9 : decode cX8_first 9 = .ok (.iconst (-1), 1) := by decide +kernel
theorem dX8_first_10 : decode cX8_first 10 = .ok (.ireturn, 1) := by decide +kernel
theorem dX8_first_11 : decode cX8_first 11 = .ok (.aload_n 0, 1) := by decide +kernel
theorem dX8_first_12 : decode cX8_first 12 = .ok (.invokevirtual 195, 3) := by decide +kernel
theorem dX8_first_15 : decode cX8_first 15 = .ok (.aload_n 0, 1) := by decide +kernel
theorem dX8_first_16 : decode cX8_first 16 = .ok (.bipush (-4), 2) := by decide +kernel
theorem dX8_first_18 : decode cX8_first 18 = .ok (.putfield 186, 3) := by decide +kernel
theorem dX8_first_21 : decode cX8_first 21 = .ok (.iconst 0, 1) := by decide +kernel
theorem dX8_first_22 : decode cX8_first 22 = .ok (.istore_n 2, 1) := by decide +kernel
theorem dX8_first_23 : decode cX8_first 23 = .ok (.iconst 0, 1) := by decide +kernel
theorem dX8_first_24 : decode cX8_first 24 = .ok (.istore_n 3, 1) := by decide +kernel
theorem dX8_first_25 : decode cX8_first 25 = .ok (.iload_n 3, 1) := by decide +kernel
theorem dX8_first_26 : decode cX8_first 26 = .ok (.aload_n 0, 1) := by decide +kernel
theorem dX8_first_27 : decode cX8_first 27 = .ok (.getfield 69, 3) := by decide +kernel
theorem dX8_first_30 : decode cX8_first 30 = .ok (.if_icmp .ge 81, 3) := by decide +kernel
theorem dX8_first_33 : decode cX8_first 33 = .ok (.aload_n 0, 1) := by decide +kernel
theorem dX8_first_34 : decode cX8_first 34 = .ok (.iload_n 3, 1) := by decide +kernel
theorem dX8_first_35 : decode cX8_first 35 = .ok (.invokevirtual 95, 3) := by decide +kernel
theorem dX8_first_38 : decode cX8_first 38 = .ok (.bipush (-4), 2) := by decide +kernel
theorem dX8_first_40 : decode cX8_first 40 = .ok (.if_icmp .ne 65, 3) := by decide +kernel
theorem dX8_first_43 : decode cX8_first 43 = .ok (.aload_n 0, 1) := by decide +kernel
theorem dX8_first_44 : decode cX8_first 44 = .ok (.getfield 16, 3) := by decide +kernel
theorem dX8_first_47 : decode cX8_first 47 = .ok (.iconst 0, 1) := by decide +kernel
theorem dX8_first_48 : decode cX8_first 48 = .ok (.iload_n 3, 1) := by decide +kernel
theorem dX8_first_49 : decode cX8_first 49 = .ok (.iastore, 1) := by decide +kernel
theorem dX8_first_50 : decode cX8_first 50 = .ok (.aload_n 0, 1) := by decide +kernel
theorem dX8_first_51 : decode cX8_first 51 = .ok (.getfield 16, 3) := by decide +kernel
theorem dX8_first_54 : decode cX8_first 54 = .ok (.iconst 1, 1) := by decide +kernel
theorem dX8_first_55 : decode cX8_first 55 = .ok (.aload_n 0, 1) := by decide +kernel
theorem dX8_first_56 : decode cX8_first 56 = .ok (.getfield 31, 3) := by decide +kernel
theorem dX8_first_59 : decode cX8_first 59 = .ok (.iconst 0, 1) := by decide +kernel
theorem dX8_first_60 : decode cX8_first 60 = .ok (.iaload, 1) := by decide +kernel
theorem dX8_first_61 : decode cX8_first 61 = .ok (.bipush (-4), 2) := by decide +kernel
theorem dX8_first_63 : decode cX8_first 63 = .ok (.if_icmp .ne 7, 3) := by decide +kernel
theorem dX8_first_66 : decode cX8_first 66 = .ok (.iconst 0, 1) := by decide +kernel
theorem dX8_first_67 : decode cX8_first 67 = .ok (.goto 9, 3) := by decide +kernel
theorem dX8_first_70 : decode cX8_first 70 = .ok (.aload_n 0, 1) := by decide +kernel
theorem dX8_first_71 : decode cX8_first 71 = .ok (.getfield 31, 3) := by decide +kernel
theorem dX8_first_74 : decode cX8_first 74 = .ok (.iconst 1, 1) := by decide +kernel
theorem dX8_first_75 : decode cX8_first 75 = .ok (.iaload, 1) := by decide +kernel
theorem dX8_first_76 : decode cX8_first 76 = .ok (.iastore, 1) := by decide +kernel
theorem dX8_first_77 : decode cX8_first 77 = .ok (.aload_n 0, 1) := by decide +kernel
theorem dX8_first_78 : decode cX8_first 78 = .ok (.invokevirtual 198, 3) := by decide +kernel
theorem dX8_first_81 : decode cX8_first 81 = .ok (.iload_n 2, 1) := by decide +kernel
theorem dX8_first_82 : decode cX8_first 82 = .ok (.aload_n 0, 1) := by decide +kernel
theorem dX8_first_83 : decode cX8_first 83 = .ok (.getfield 16, 3) := by decide +kernel
theorem dX8_first_86 : decode cX8_first 86 = .ok (.iconst 0, 1) := by decide +kernel
theorem dX8_first_87 : decode cX8_first 87 = .ok (.iaload, 1) := by decide +kernel
theorem dX8_first_88 : decode cX8_first 88 = .ok (.iload_n 1, 1) := by decide +kernel
theorem dX8_first_89 : decode cX8_first 89 = .ok (.if_icmp .ne 9, 3) := by decide +kernel
theorem dX8_first_92 : decode cX8_first 92 = .ok (.iconst 1, 1) := by decide +kernel
theorem dX8_first_93 : decode cX8_first 93 = .ok (.iload_n 3, 1) := by decide +kernel
theorem dX8_first_94 : decode cX8_first 94 = .ok (.ishl, 1) := by decide +kernel
theorem dX8_first_95 : decode cX8_first 95 = .ok (.goto 4, 3) := by decide +kernel
theorem dX8_first_98 : decode cX8_first 98 = .ok (.iconst 0, 1) := by decide +kernel
theorem dX8_first_99 : decode cX8_first 99 = .ok (.ior, 1) := by decide +kernel
theorem dX8_first_100 : decode cX8_first 100 = .ok (.istore_n 2, 1) := by decide +kernel
theorem dX8_first_101 : decode cX8_first 101 = .ok (.aload_n 0, 1) := by decide +kernel
theorem dX8_first_102 : decode cX8_first 102 = .ok (.invokevirtual 201, 3) := by decide +kernel
theorem dX8_first_105 : decode cX8_first 105 = .ok (.iinc 3 1, 3) := by decide +kernel
theorem dX8_first_108 : decode cX8_first 108 = .ok (.goto (-83), 3) := by decide +kernel
theorem dX8_first_111 : decode cX8_first 111 = .ok (.iload_n 2, 1) := by decide +kernel
theorem dX8_first_112 : decode cX8_first 112 = .ok (.ireturn, 1) := by decide +kernel
theorem dX8_cheated_0 : decode cX8_cheated 0 = .ok (.iload_n 1, 1) := by decide +kernel
theorem dX8_cheated_1 : decode cX8_cheated 1 = .ok (.i2l, 1) := by decide +kernel
theorem dX8_cheated_2 : decode cX8_cheated 2 = .ok (.ldc2_w 211, 3) := by decide +kernel
theorem dX8_cheated_5 : decode cX8_cheated 5 = .ok (.ldc2_w 81, 3) := by decide +kernel
theorem dX8_cheated_8 : decode cX8_cheated 8 = .ok (.invokestatic 72, 3) := by decide +kernel
theorem dX8_cheated_11 : decode cX8_cheated 11 = .ok (.ifCond .ne 5, 3) := by decide +kernel
theorem dX8_cheated_14 : decode cX8_cheated 14 = .ok (.iconst (-1), 1) := by decide +kernel
theorem dX8_cheated_15 : decode cX8_cheated 15 = .ok (.ireturn, 1) := by decide +kernel
theorem dX8_cheated_16 : decode cX8_cheated 16 = .ok (.aload_n 0, 1) := by decide +kernel
theorem dX8_cheated_17 : decode cX8_cheated 17 = .ok (.getfield 60, 3) := by decide +kernel
theorem dX8_cheated_20 : decode cX8_cheated 20 = .ok (.istore_n 2, 1) := by decide +kernel
theorem dX8_cheated_21 : decode cX8_cheated 21 = .ok (.bipush (-4), 2) := by decide +kernel
theorem dX8_cheated_23 : decode cX8_cheated 23 = .ok (.istore_n 3, 1) := by decide +kernel
theorem dX8_cheated_24 : decode cX8_cheated 24 = .ok (.sipush (-1000), 3) := by decide +kernel
theorem dX8_cheated_27 : decode cX8_cheated 27 = .ok (.istore 4, 2) := by decide +kernel
theorem dX8_cheated_29 : decode cX8_cheated 29 = .ok (.iconst 0, 1) := by decide +kernel
theorem dX8_cheated_30 : decode cX8_cheated 30 = .ok (.istore 5, 2) := by decide +kernel
theorem dX8_cheated_32 : decode cX8_cheated 32 = .ok (.iload 5, 2) := by decide +kernel
theorem dX8_cheated_34 : decode cX8_cheated 34 = .ok (.bipush 100, 2) := by decide +kernel
theorem dX8_cheated_36 : decode cX8_cheated 36 = .ok (.if_icmp .ge 67, 3) := by decide +kernel
theorem dX8_cheated_39 : decode cX8_cheated 39 = .ok (.aload_n 0, 1) := by decide +kernel
theorem dX8_cheated_40 : decode cX8_cheated 40 = .ok (.iload 5, 2) := by decide +kernel
theorem dX8_cheated_42 : decode cX8_cheated 42 = .ok (.putfield 60, 3) := by decide +kernel
theorem dX8_cheated_45 : decode cX8_cheated 45 = .ok (.aload_n 0, 1) := by decide +kernel
theorem dX8_cheated_46 : decode cX8_cheated 46 = .ok (.invokevirtual 213, 3) := by decide +kernel
theorem dX8_cheated_49 : decode cX8_cheated 49 = .ok (.istore 6, 2) := by decide +kernel
theorem dX8_cheated_51 : decode cX8_cheated 51 = .ok (.iload 6, 2) := by decide +kernel
theorem dX8_cheated_53 : decode cX8_cheated 53 = .ok (.iload_n 1, 1) := by decide +kernel
theorem dX8_cheated_54 : decode cX8_cheated 54 = .ok (.if_icmp .gt 14, 3) := by decide +kernel
theorem dX8_cheated_57 : decode cX8_cheated 57 = .ok (.iload 6, 2) := by decide +kernel
theorem dX8_cheated_59 : decode cX8_cheated 59 = .ok (.iload 4, 2) := by decide +kernel
theorem dX8_cheated_61 : decode cX8_cheated 61 = .ok (.if_icmp .le 7, 3) := by decide +kernel
theorem dX8_cheated_64 : decode cX8_cheated 64 = .ok (.iconst 1, 1) := by decide +kernel
theorem dX8_cheated_65 : decode cX8_cheated 65 = .ok (.goto 4, 3) := by decide +kernel
theorem dX8_cheated_68 : decode cX8_cheated 68 = .ok (.iconst 0, 1) := by decide +kernel
theorem dX8_cheated_69 : decode cX8_cheated 69 = .ok (.istore 7, 2) := by decide +kernel
theorem dX8_cheated_71 : decode cX8_cheated 71 = .ok (.iload 7, 2) := by decide +kernel
theorem dX8_cheated_73 : decode cX8_cheated 73 = .ok (.ifCond .eq 8, 3) := by decide +kernel
theorem dX8_cheated_76 : decode cX8_cheated 76 = .ok (.iload 5, 2) := by decide +kernel
theorem dX8_cheated_78 : decode cX8_cheated 78 = .ok (.goto 4, 3) := by decide +kernel
theorem dX8_cheated_81 : decode cX8_cheated 81 = .ok (.iload_n 3, 1) := by decide +kernel
theorem dX8_cheated_82 : decode cX8_cheated 82 = .ok (.istore_n 3, 1) := by decide +kernel
theorem dX8_cheated_83 : decode cX8_cheated 83 = .ok (.iload 7, 2) := by decide +kernel
theorem dX8_cheated_85 : decode cX8_cheated 85 = .ok (.ifCond .eq 8, 3) := by decide +kernel
theorem dX8_cheated_88 : decode cX8_cheated 88 = .ok (.iload 6, 2) := by decide +kernel
theorem dX8_cheated_90 : decode cX8_cheated 90 = .ok (.goto 5, 3) := by decide +kernel
theorem dX8_cheated_93 : decode cX8_cheated 93 = .ok (.iload 4, 2) := by decide +kernel
theorem dX8_cheated_95 : decode cX8_cheated 95 = .ok (.istore 4, 2) := by decide +kernel
theorem dX8_cheated_97 : decode cX8_cheated 97 = .ok (.iinc 5 1, 3) := by decide +kernel
theorem dX8_cheated_100 : decode cX8_cheated 100 = .ok (.goto (-68), 3) := by decide +kernel
theorem dX8_cheated_103 : decode cX8_cheated 103 = .ok (.aload_n 0, 1) := by decide +kernel
theorem dX8_cheated_104 : decode cX8_cheated 104 = .ok (.iload_n 2, 1) := by decide +kernel
theorem dX8_cheated_105 : decode cX8_cheated 105 = .ok (.putfield 60, 3) := by decide +kernel
theorem dX8_cheated_108 : decode cX8_cheated 108 = .ok (.iload_n 3, 1) := by decide +kernel
theorem dX8_cheated_109 : decode cX8_cheated 109 = .ok (.ireturn, 1) := by decide +kernel
theorem dX8_chance_0 : decode cX8_chance 0 = .ok (.iload_n 1, 1) := by decide +kernel
theorem dX8_chance_1 : decode cX8_chance 1 = .ok (.bipush (-4), 2) := by decide +kernel
theorem dX8_chance_3 : decode cX8_chance 3 = .ok (.if_icmp .eq 12, 3) := by decide +kernel
theorem dX8_chance_6 : decode cX8_chance 6 = .ok (.aload_n 0, 1) := by decide +kernel
theorem dX8_chance_7 : decode cX8_chance 7 = .ok (.iload_n 1, 1) := by decide +kernel
theorem dX8_chance_8 : decode cX8_chance 8 = .ok (.i2l, 1) := by decide +kernel
theorem dX8_chance_9 : decode cX8_chance 9 = .ok (.invokevirtual 89, 3) := by decide +kernel
theorem dX8_chance_12 : decode cX8_chance 12 = .ok (.ifCond .eq 13, 3) := by decide +kernel
theorem dX8_chance_15 : decode cX8_chance 15 = .ok (.iload_n 2, 1) := by decide +kernel
theorem dX8_chance_16 : decode cX8_chance 16 = .ok (.i2l, 1) := by decide +kernel
theorem dX8_chance_17 : decode cX8_chance 17 = .ok (.lconst 0, 1) := by decide +kernel
theorem dX8_chance_18 : decode cX8_chance 18 = .ok (.lconst 1, 1) := by decide +kernel
theorem dX8_chance_19 : decode cX8_chance 19 = .ok (.invokestatic 72, 3) := by decide +kernel
theorem dX8_chance_22 : decode cX8_chance 22 = .ok (.ifCond .ne 5, 3) := by decide +kernel
theorem dX8_chance_25 : decode cX8_chance 25 = .ok (.iconst (-1), 1) := by decide +kernel
theorem dX8_chance_26 : decode cX8_chance 26 = .ok (.ireturn, 1) := by decide +kernel
theorem dX8_chance_27 : decode cX8_chance 27 = .ok (.bipush 12, 2) := by decide +kernel
theorem dX8_chance_29 : decode cX8_chance 29 = .ok (.aload_n 0, 1) := by decide +kernel
theorem dX8_chance_30 : decode cX8_chance 30 = .ok (.getfield 16, 3) := by decide +kernel
theorem dX8_chance_33 : decode cX8_chance 33 = .ok (.iconst 3, 1) := by decide +kernel
theorem dX8_chance_34 : decode cX8_chance 34 = .ok (.iaload, 1) := by decide +kernel
theorem dX8_chance_35 : decode cX8_chance 35 = .ok (.isub, 1) := by decide +kernel
theorem dX8_chance_36 : decode cX8_chance 36 = .ok (.istore_n 3, 1) := by decide +kernel
theorem dX8_chance_37 : decode cX8_chance 37 = .ok (.iload_n 3, 1) := by decide +kernel
theorem dX8_chance_38 : decode cX8_chance 38 = .ok (.bipush 10, 2) := by decide +kernel
theorem dX8_chance_40 : decode cX8_chance 40 = .ok (.if_icmp .le 6, 3) := by decide +kernel
theorem dX8_chance_43 : decode cX8_chance 43 = .ok (.bipush (-3), 2) := by decide +kernel
theorem dX8_chance_45 : decode cX8_chance 45 = .ok (.ireturn, 1) := by decide +kernel
theorem dX8_chance_46 : decode cX8_chance 46 = .ok (.aload_n 0, 1) := by decide +kernel
theorem dX8_chance_47 : decode cX8_chance 47 = .ok (.invokevirtual 195, 3) := by decide +kernel
theorem dX8_chance_50 : decode cX8_chance 50 = .ok (.iconst 0, 1) := by decide +kernel
theorem dX8_chance_51 : decode cX8_chance 51 = .ok (.istore 4, 2) := by decide +kernel
theorem dX8_chance_53 : decode cX8_chance 53 = .ok (.iconst 0, 1) := by decide +kernel
theorem dX8_chance_54 : decode cX8_chance 54 = .ok (.istore 5, 2) := by decide +kernel
theorem dX8_chance_56 : decode cX8_chance 56 = .ok (.iload 5, 2) := by decide +kernel
theorem dX8_chance_58 : decode cX8_chance 58 = .ok (.iconst 1, 1) := by decide +kernel
theorem dX8_chance_59 : decode cX8_chance 59 = .ok (.iload_n 3, 1) := by decide +kernel
theorem dX8_chance_60 : decode cX8_chance 60 = .ok (.ishl, 1) := by decide +kernel
theorem dX8_chance_61 : decode cX8_chance 61 = .ok (.if_icmp .ge 56, 3) := by decide +kernel
theorem dX8_chance_64 : decode cX8_chance 64 = .ok (.aload_n 0, 1) := by decide +kernel
theorem dX8_chance_65 : decode cX8_chance 65 = .ok (.bipush (-4), 2) := by decide +kernel
theorem dX8_chance_67 : decode cX8_chance 67 = .ok (.putfield 186, 3) := by decide +kernel
theorem dX8_chance_70 : decode cX8_chance 70 = .ok (.aload_n 0, 1) := by decide +kernel
theorem dX8_chance_71 : decode cX8_chance 71 = .ok (.iload 5, 2) := by decide +kernel
theorem dX8_chance_73 : decode cX8_chance 73 = .ok (.aload_n 0, 1) := by decide +kernel
theorem dX8_chance_74 : decode cX8_chance 74 = .ok (.getfield 31, 3) := by decide +kernel
theorem dX8_chance_77 : decode cX8_chance 77 = .ok (.iconst 3, 1) := by decide +kernel
theorem dX8_chance_78 : decode cX8_chance 78 = .ok (.iaload, 1) := by decide +kernel
theorem dX8_chance_79 : decode cX8_chance 79 = .ok (.ishl, 1) := by decide +kernel
theorem dX8_chance_80 : decode cX8_chance 80 = .ok (.putfield 163, 3) := by decide +kernel
theorem dX8_chance_83 : decode cX8_chance 83 = .ok (.aload_n 0, 1) := by decide +kernel
theorem dX8_chance_84 : decode cX8_chance 84 = .ok (.invokevirtual 198, 3) := by decide +kernel
theorem dX8_chance_87 : decode cX8_chance 87 = .ok (.iload 4, 2) := by decide +kernel
theorem dX8_chance_89 : decode cX8_chance 89 = .ok (.aload_n 0, 1) := by decide +kernel
theorem dX8_chance_90 : decode cX8_chance 90 = .ok (.getfield 16, 3) := by decide +kernel
theorem dX8_chance_93 : decode cX8_chance 93 = .ok (.iconst 0, 1) := by decide +kernel
theorem dX8_chance_94 : decode cX8_chance 94 = .ok (.iaload, 1) := by decide +kernel
theorem dX8_chance_95 : decode cX8_chance 95 = .ok (.iload_n 1, 1) := by decide +kernel
theorem dX8_chance_96 : decode cX8_chance 96 = .ok (.if_icmp .ne 7, 3) := by decide +kernel
theorem dX8_chance_99 : decode cX8_chance 99 = .ok (.iconst 1, 1) := by decide +kernel
theorem dX8_chance_100 : decode cX8_chance 100 = .ok (.goto 4, 3) := by decide +kernel
theorem dX8_chance_103 : decode cX8_chance 103 = .ok (.iconst 0, 1) := by decide +kernel
theorem dX8_chance_104 : decode cX8_chance 104 = .ok (.iadd, 1) := by decide +kernel
theorem dX8_chance_105 : decode cX8_chance 105 = .ok (.istore 4, 2) := by decide +kernel
theorem dX8_chance_107 : decode cX8_chance 107 = .ok (.aload_n 0, 1) := by decide +kernel
theorem dX8_chance_108 : decode cX8_chance 108 = .ok (.invokevirtual 201, 3) := by decide +kernel
theorem dX8_chance_111 : decode cX8_chance 111 = .ok (.iinc 5 1, 3) := by decide +kernel
theorem dX8_chance_114 : decode cX8_chance 114 = .ok (.goto (-58), 3) := by decide +kernel
theorem dX8_chance_117 : decode cX8_chance 117 = .ok (.iconst 1, 1) := by decide +kernel
theorem dX8_chance_118 : decode cX8_chance 118 = .ok (.iload_n 3, 1) := by decide +kernel
theorem dX8_chance_119 : decode cX8_chance 119 = .ok (.ishl, 1) := by decide +kernel
theorem dX8_chance_120 : decode cX8_chance 120 = .ok (.istore 5, 2) := by decide +kernel
theorem dX8_chance_122 : decode cX8_chance 122 = .ok (.iload 4, 2) := by decide +kernel
theorem dX8_chance_124 : decode cX8_chance 124 = .ok (.iconst 2, 1) := by decide +kernel
theorem dX8_chance_125 : decode cX8_chance 125 = .ok (.irem, 1) := by decide +kernel
theorem dX8_chance_126 : decode cX8_chance 126 = .ok (.ifCond .ne 24, 3) := by decide +kernel
theorem dX8_chance_129 : decode cX8_chance 129 = .ok (.iload 5, 2) := by decide +kernel
theorem dX8_chance_131 : decode cX8_chance 131 = .ok (.iconst 1, 1) := by decide +kernel
theorem dX8_chance_132 : decode cX8_chance 132 = .ok (.if_icmp .le 18, 3) := by decide +kernel
theorem dX8_chance_135 : decode cX8_chance 135 = .ok (.iload 4, 2) := by decide +kernel
theorem dX8_chance_137 : decode cX8_chance 137 = .ok (.iconst 2, 1) := by decide +kernel
theorem dX8_chance_138 : decode cX8_chance 138 = .ok (.idiv, 1) := by decide +kernel
theorem dX8_chance_139 : decode cX8_chance 139 = .ok (.istore 4, 2) := by decide +kernel
theorem dX8_chance_141 : decode cX8_chance 141 = .ok (.iload 5, 2) := by decide +kernel
theorem dX8_chance_143 : decode cX8_chance 143 = .ok (.iconst 2, 1) := by decide +kernel
theorem dX8_chance_144 : decode cX8_chance 144 = .ok (.idiv, 1) := by decide +kernel
theorem dX8_chance_145 : decode cX8_chance 145 = .ok (.istore 5, 2) := by decide +kernel
theorem dX8_chance_147 : decode cX8_chance 147 = .ok (.goto (-25), 3) := by decide +kernel
theorem dX8_chance_150 : decode cX8_chance 150 = .ok (.iload_n 2, 1) := by decide +kernel
theorem dX8_chance_151 : decode cX8_chance 151 = .ok (.ifCond .ne 8, 3) := by decide +kernel
theorem dX8_chance_154 : decode cX8_chance 154 = .ok (.iload 4, 2) := by decide +kernel
theorem dX8_chance_156 : decode cX8_chance 156 = .ok (.goto 5, 3) := by decide +kernel
theorem dX8_chance_159 : decode cX8_chance 159 = .ok (.iload 5, 2) := by decide +kernel
theorem dX8_chance_161 : decode cX8_chance 161 = .ok (.ireturn, 1) := by decide +kernel
theorem dX8_notesRow_0 : decode cX8_notesRow 0 = .ok (.iconst 0, 1) := by decide +kernel
theorem dX8_notesRow_1 : decode cX8_notesRow 1 = .ok (.istore_n 3, 1) := by decide +kernel
theorem dX8_notesRow_2 : decode cX8_notesRow 2 = .ok (.iload_n 3, 1) := by decide +kernel
theorem dX8_notesRow_3 : decode cX8_notesRow 3 = .ok (.aload_n 1, 1) := by decide +kernel
theorem dX8_notesRow_4 : decode cX8_notesRow 4 = .ok (.arraylength, 1) := by decide +kernel
theorem dX8_notesRow_5 : decode cX8_notesRow 5 = .ok (.if_icmp .ge 20, 3) := by decide +kernel
theorem dX8_notesRow_8 : decode cX8_notesRow 8 = .ok (.aload_n 0, 1) := by decide +kernel
theorem dX8_notesRow_9 : decode cX8_notesRow 9 = .ok (.getfield 40, 3) := by decide +kernel
theorem dX8_notesRow_12 : decode cX8_notesRow 12 = .ok (.iload_n 2, 1) := by decide +kernel
theorem dX8_notesRow_13 : decode cX8_notesRow 13 = .ok (.iload_n 3, 1) := by decide +kernel
theorem dX8_notesRow_14 : decode cX8_notesRow 14 = .ok (.iadd, 1) := by decide +kernel
theorem dX8_notesRow_15 : decode cX8_notesRow 15 = .ok (.aload_n 1, 1) := by decide +kernel
theorem dX8_notesRow_16 : decode cX8_notesRow 16 = .ok (.iload_n 3, 1) := by decide +kernel
theorem dX8_notesRow_17 : decode cX8_notesRow 17 = .ok (.iaload, 1) := by decide +kernel
theorem dX8_notesRow_18 : decode cX8_notesRow 18 = .ok (.iastore, 1) := by decide +kernel
theorem dX8_notesRow_19 : decode cX8_notesRow 19 = .ok (.iinc 3 1, 3) := by decide +kernel
theorem dX8_notesRow_22 : decode cX8_notesRow 22 = .ok (.goto (-20), 3) := by decide +kernel
theorem dX8_notesRow_25 : decode cX8_notesRow 25 = .ok (.iload_n 2, 1) := by decide +kernel
theorem dX8_notesRow_26 : decode cX8_notesRow 26 = .ok (.aload_n 1, 1) := by decide +kernel
theorem dX8_notesRow_27 : decode cX8_notesRow 27 = .ok (.arraylength, 1) := by decide +kernel
theorem dX8_notesRow_28 : decode cX8_notesRow 28 = .ok (.iadd, 1) := by decide +kernel
theorem dX8_notesRow_29 : decode cX8_notesRow 29 = .ok (.ireturn, 1) := by decide +kernel
theorem dX8_gives_0 : decode cX8_gives 0 = .ok (.iconst 0, 1) := by decide +kernel
theorem dX8_gives_1 : decode cX8_gives 1 = .ok (.istore_n 3, 1) := by decide +kernel
theorem dX8_gives_2 : decode cX8_gives 2 = .ok (.iload_n 3, 1) := by decide +kernel
theorem dX8_gives_3 : decode cX8_gives 3 = .ok (.aload_n 2, 1) := by decide +kernel
theorem dX8_gives_4 : decode cX8_gives 4 = .ok (.arraylength, 1) := by decide +kernel
theorem dX8_gives_5 : decode cX8_gives 5 = .ok (.if_icmp .ge 20, 3) := by decide +kernel
theorem dX8_gives_8 : decode cX8_gives 8 = .ok (.aload_n 2, 1) := by decide +kernel
theorem dX8_gives_9 : decode cX8_gives 9 = .ok (.iload_n 3, 1) := by decide +kernel
theorem dX8_gives_10 : decode cX8_gives 10 = .ok (.aload_n 0, 1) := by decide +kernel
theorem dX8_gives_11 : decode cX8_gives 11 = .ok (.getfield 40, 3) := by decide +kernel
theorem dX8_gives_14 : decode cX8_gives 14 = .ok (.iload_n 1, 1) := by decide +kernel
theorem dX8_gives_15 : decode cX8_gives 15 = .ok (.iload_n 3, 1) := by decide +kernel
theorem dX8_gives_16 : decode cX8_gives 16 = .ok (.iadd, 1) := by decide +kernel
theorem dX8_gives_17 : decode cX8_gives 17 = .ok (.iaload, 1) := by decide +kernel
theorem dX8_gives_18 : decode cX8_gives 18 = .ok (.iastore, 1) := by decide +kernel
theorem dX8_gives_19 : decode cX8_gives 19 = .ok (.iinc 3 1, 3) := by decide +kernel
theorem dX8_gives_22 : decode cX8_gives 22 = .ok (.goto (-20), 3) := by decide +kernel
theorem dX8_gives_25 : decode cX8_gives 25 = .ok (.iload_n 1, 1) := by decide +kernel
theorem dX8_gives_26 : decode cX8_gives 26 = .ok (.aload_n 2, 1) := by decide +kernel
theorem dX8_gives_27 : decode cX8_gives 27 = .ok (.arraylength, 1) := by decide +kernel
theorem dX8_gives_28 : decode cX8_gives 28 = .ok (.iadd, 1) := by decide +kernel
theorem dX8_gives_29 : decode cX8_gives 29 = .ok (.ireturn, 1) := by decide +kernel
theorem dX8_image_0 : decode cX8_image 0 = .ok (.aload_n 0, 1) := by decide +kernel
theorem dX8_image_1 : decode cX8_image 1 = .ok (.getfield 40, 3) := by decide +kernel
theorem dX8_image_4 : decode cX8_image 4 = .ok (.iconst 0, 1) := by decide +kernel
theorem dX8_image_5 : decode cX8_image 5 = .ok (.aload_n 0, 1) := by decide +kernel
theorem dX8_image_6 : decode cX8_image 6 = .ok (.getfield 69, 3) := by decide +kernel
theorem dX8_image_9 : decode cX8_image 9 = .ok (.iastore, 1) := by decide +kernel
theorem dX8_image_10 : decode cX8_image 10 = .ok (.aload_n 0, 1) := by decide +kernel
theorem dX8_image_11 : decode cX8_image 11 = .ok (.getfield 40, 3) := by decide +kernel
theorem dX8_image_14 : decode cX8_image 14 = .ok (.iconst 1, 1) := by decide +kernel
theorem dX8_image_15 : decode cX8_image 15 = .ok (.aload_n 0, 1) := by decide +kernel
theorem dX8_image_16 : decode cX8_image 16 = .ok (.getfield 76, 3) := by decide +kernel
theorem dX8_image_19 : decode cX8_image 19 = .ok (.iastore, 1) := by decide +kernel
theorem dX8_image_20 : decode cX8_image 20 = .ok (.aload_n 0, 1) := by decide +kernel
theorem dX8_image_21 : decode cX8_image 21 = .ok (.getfield 40, 3) := by decide +kernel
theorem dX8_image_24 : decode cX8_image 24 = .ok (.iconst 2, 1) := by decide +kernel
theorem dX8_image_25 : decode cX8_image 25 = .ok (.aload_n 0, 1) := by decide +kernel
theorem dX8_image_26 : decode cX8_image 26 = .ok (.getfield 60, 3) := by decide +kernel
theorem dX8_image_29 : decode cX8_image 29 = .ok (.iastore, 1) := by decide +kernel
theorem dX8_image_30 : decode cX8_image 30 = .ok (.aload_n 0, 1) := by decide +kernel
theorem dX8_image_31 : decode cX8_image 31 = .ok (.getfield 40, 3) := by decide +kernel
theorem dX8_image_34 : decode cX8_image 34 = .ok (.iconst 3, 1) := by decide +kernel
theorem dX8_image_35 : decode cX8_image 35 = .ok (.aload_n 0, 1) := by decide +kernel
theorem dX8_image_36 : decode cX8_image 36 = .ok (.getfield 56, 3) := by decide +kernel
theorem dX8_image_39 : decode cX8_image 39 = .ok (.iastore, 1) := by decide +kernel
theorem dX8_image_40 : decode cX8_image 40 = .ok (.aload_n 0, 1) := by decide +kernel
theorem dX8_image_41 : decode cX8_image 41 = .ok (.getfield 40, 3) := by decide +kernel
theorem dX8_image_44 : decode cX8_image 44 = .ok (.iconst 4, 1) := by decide +kernel
theorem dX8_image_45 : decode cX8_image 45 = .ok (.aload_n 0, 1) := by decide +kernel
theorem dX8_image_46 : decode cX8_image 46 = .ok (.getfield 66, 3) := by decide +kernel
theorem dX8_image_49 : decode cX8_image 49 = .ok (.iastore, 1) := by decide +kernel
theorem dX8_image_50 : decode cX8_image 50 = .ok (.aload_n 0, 1) := by decide +kernel
theorem dX8_image_51 : decode cX8_image 51 = .ok (.aload_n 0, 1) := by decide +kernel
theorem dX8_image_52 : decode cX8_image 52 = .ok (.getfield 7, 3) := by decide +kernel
theorem dX8_image_55 : decode cX8_image 55 = .ok (.iconst 5, 1) := by decide +kernel
theorem dX8_image_56 : decode cX8_image 56 = .ok (.invokevirtual 216, 3) := by decide +kernel
theorem dX8_image_59 : decode cX8_image 59 = .ok (.istore_n 1, 1) := by decide +kernel
theorem dX8_image_60 : decode cX8_image 60 = .ok (.aload_n 0, 1) := by decide +kernel
theorem dX8_image_61 : decode cX8_image 61 = .ok (.aload_n 0, 1) := by decide +kernel
theorem dX8_image_62 : decode cX8_image 62 = .ok (.getfield 13, 3) := by decide +kernel
theorem dX8_image_65 : decode cX8_image 65 = .ok (.iload_n 1, 1) := by decide +kernel
theorem dX8_image_66 : decode cX8_image 66 = .ok (.invokevirtual 216, 3) := by decide +kernel
theorem dX8_image_69 : decode cX8_image 69 = .ok (.istore_n 1, 1) := by decide +kernel
theorem dX8_image_70 : decode cX8_image 70 = .ok (.aload_n 0, 1) := by decide +kernel
theorem dX8_image_71 : decode cX8_image 71 = .ok (.aload_n 0, 1) := by decide +kernel
theorem dX8_image_72 : decode cX8_image 72 = .ok (.getfield 16, 3) := by decide +kernel
theorem dX8_image_75 : decode cX8_image 75 = .ok (.iload_n 1, 1) := by decide +kernel
theorem dX8_image_76 : decode cX8_image 76 = .ok (.invokevirtual 216, 3) := by decide +kernel
theorem dX8_image_79 : decode cX8_image 79 = .ok (.istore_n 1, 1) := by decide +kernel
theorem dX8_image_80 : decode cX8_image 80 = .ok (.aload_n 0, 1) := by decide +kernel
theorem dX8_image_81 : decode cX8_image 81 = .ok (.aload_n 0, 1) := by decide +kernel
theorem dX8_image_82 : decode cX8_image 82 = .ok (.getfield 28, 3) := by decide +kernel
theorem dX8_image_85 : decode cX8_image 85 = .ok (.iload_n 1, 1) := by decide +kernel
theorem dX8_image_86 : decode cX8_image 86 = .ok (.invokevirtual 216, 3) := by decide +kernel
theorem dX8_image_89 : decode cX8_image 89 = .ok (.pop, 1) := by decide +kernel
theorem dX8_image_90 : decode cX8_image 90 = .ok (.aload_n 0, 1) := by decide +kernel
theorem dX8_image_91 : decode cX8_image 91 = .ok (.iconst 1, 1) := by decide +kernel
theorem dX8_image_92 : decode cX8_image 92 = .ok (.putfield 220, 3) := by decide +kernel
theorem dX8_image_95 : decode cX8_image 95 = .ok (.iconst 1, 1) := by decide +kernel
theorem dX8_image_96 : decode cX8_image 96 = .ok (.ireturn, 1) := by decide +kernel
theorem dX8_restore_0 : decode cX8_restore 0 = .ok (.aload_n 0, 1) := by decide +kernel
theorem dX8_restore_1 : decode cX8_restore 1 = .ok (.getfield 220, 3) := by decide +kernel
theorem dX8_restore_4 : decode cX8_restore 4 = .ok (.ifCond .ne 6, 3) := by decide +kernel
theorem dX8_restore_7 : decode cX8_restore 7 = .ok (.bipush (-4), 2) := by decide +kernel
theorem dX8_restore_9 : decode cX8_restore 9 = .ok (.ireturn, 1) := by decide +kernel
theorem dX8_restore_10 : decode cX8_restore 10 = .ok (.aload_n 0, 1) := by decide +kernel
theorem dX8_restore_11 : decode cX8_restore 11 = .ok (.aload_n 0, 1) := by decide +kernel
theorem dX8_restore_12 : decode cX8_restore 12 = .ok (.getfield 40, 3) := by decide +kernel
theorem dX8_restore_15 : decode cX8_restore 15 = .ok (.iconst 0, 1) := by decide +kernel
theorem dX8_restore_16 : decode cX8_restore 16 = .ok (.iaload, 1) := by decide +kernel
theorem dX8_restore_17 : decode cX8_restore 17 = .ok (.putfield 69, 3) := by decide +kernel
theorem dX8_restore_20 : decode cX8_restore 20 = .ok (.aload_n 0, 1) := by decide +kernel
theorem dX8_restore_21 : decode cX8_restore 21 = .ok (.aload_n 0, 1) := by decide +kernel
theorem dX8_restore_22 : decode cX8_restore 22 = .ok (.getfield 40, 3) := by decide +kernel
theorem dX8_restore_25 : decode cX8_restore 25 = .ok (.iconst 1, 1) := by decide +kernel
theorem dX8_restore_26 : decode cX8_restore 26 = .ok (.iaload, 1) := by decide +kernel
theorem dX8_restore_27 : decode cX8_restore 27 = .ok (.putfield 76, 3) := by decide +kernel
theorem dX8_restore_30 : decode cX8_restore 30 = .ok (.aload_n 0, 1) := by decide +kernel
theorem dX8_restore_31 : decode cX8_restore 31 = .ok (.aload_n 0, 1) := by decide +kernel
theorem dX8_restore_32 : decode cX8_restore 32 = .ok (.getfield 40, 3) := by decide +kernel
theorem dX8_restore_35 : decode cX8_restore 35 = .ok (.iconst 2, 1) := by decide +kernel
theorem dX8_restore_36 : decode cX8_restore 36 = .ok (.iaload, 1) := by decide +kernel
theorem dX8_restore_37 : decode cX8_restore 37 = .ok (.putfield 60, 3) := by decide +kernel
theorem dX8_restore_40 : decode cX8_restore 40 = .ok (.aload_n 0, 1) := by decide +kernel
theorem dX8_restore_41 : decode cX8_restore 41 = .ok (.aload_n 0, 1) := by decide +kernel
theorem dX8_restore_42 : decode cX8_restore 42 = .ok (.getfield 40, 3) := by decide +kernel
theorem dX8_restore_45 : decode cX8_restore 45 = .ok (.iconst 3, 1) := by decide +kernel
theorem dX8_restore_46 : decode cX8_restore 46 = .ok (.iaload, 1) := by decide +kernel
theorem dX8_restore_47 : decode cX8_restore 47 = .ok (.putfield 56, 3) := by decide +kernel
theorem dX8_restore_50 : decode cX8_restore 50 = .ok (.aload_n 0, 1) := by decide +kernel
theorem dX8_restore_51 : decode cX8_restore 51 = .ok (.aload_n 0, 1) := by decide +kernel
theorem dX8_restore_52 : decode cX8_restore 52 = .ok (.getfield 40, 3) := by decide +kernel
theorem dX8_restore_55 : decode cX8_restore 55 = .ok (.iconst 4, 1) := by decide +kernel
theorem dX8_restore_56 : decode cX8_restore 56 = .ok (.iaload, 1) := by decide +kernel
theorem dX8_restore_57 : decode cX8_restore 57 = .ok (.putfield 66, 3) := by decide +kernel
theorem dX8_restore_60 : decode cX8_restore 60 = .ok (.aload_n 0, 1) := by decide +kernel
theorem dX8_restore_61 : decode cX8_restore 61 = .ok (.iconst 5, 1) := by decide +kernel
theorem dX8_restore_62 : decode cX8_restore 62 = .ok (.aload_n 0, 1) := by decide +kernel
theorem dX8_restore_63 : decode cX8_restore 63 = .ok (.getfield 7, 3) := by decide +kernel
theorem dX8_restore_66 : decode cX8_restore 66 = .ok (.invokevirtual 223, 3) := by decide +kernel
theorem dX8_restore_69 : decode cX8_restore 69 = .ok (.istore_n 1, 1) := by decide +kernel
theorem dX8_restore_70 : decode cX8_restore 70 = .ok (.aload_n 0, 1) := by decide +kernel
theorem dX8_restore_71 : decode cX8_restore 71 = .ok (.iload_n 1, 1) := by decide +kernel
theorem dX8_restore_72 : decode cX8_restore 72 = .ok (.aload_n 0, 1) := by decide +kernel
theorem dX8_restore_73 : decode cX8_restore 73 = .ok (.getfield 13, 3) := by decide +kernel
theorem dX8_restore_76 : decode cX8_restore 76 = .ok (.invokevirtual 223, 3) := by decide +kernel
theorem dX8_restore_79 : decode cX8_restore 79 = .ok (.istore_n 1, 1) := by decide +kernel
theorem dX8_restore_80 : decode cX8_restore 80 = .ok (.aload_n 0, 1) := by decide +kernel
theorem dX8_restore_81 : decode cX8_restore 81 = .ok (.iload_n 1, 1) := by decide +kernel
theorem dX8_restore_82 : decode cX8_restore 82 = .ok (.aload_n 0, 1) := by decide +kernel
theorem dX8_restore_83 : decode cX8_restore 83 = .ok (.getfield 16, 3) := by decide +kernel
theorem dX8_restore_86 : decode cX8_restore 86 = .ok (.invokevirtual 223, 3) := by decide +kernel
theorem dX8_restore_89 : decode cX8_restore 89 = .ok (.istore_n 1, 1) := by decide +kernel
theorem dX8_restore_90 : decode cX8_restore 90 = .ok (.aload_n 0, 1) := by decide +kernel
theorem dX8_restore_91 : decode cX8_restore 91 = .ok (.iload_n 1, 1) := by decide +kernel
theorem dX8_restore_92 : decode cX8_restore 92 = .ok (.aload_n 0, 1) := by decide +kernel
theorem dX8_restore_93 : decode cX8_restore 93 = .ok (.getfield 28, 3) := by decide +kernel
theorem dX8_restore_96 : decode cX8_restore 96 = .ok (.invokevirtual 223, 3) := by decide +kernel
theorem dX8_restore_99 : decode cX8_restore 99 = .ok (.pop, 1) := by decide +kernel
theorem dX8_restore_100 : decode cX8_restore 100 = .ok (.iconst 1, 1) := by decide +kernel
theorem dX8_restore_101 : decode cX8_restore 101 = .ok (.ireturn, 1) := by decide +kernel
theorem dX8_isSheet_0 : decode cX8_isSheet 0 = .ok (.iload_n 0, 1) := by decide +kernel
theorem dX8_isSheet_1 : decode cX8_isSheet 1 = .ok (.i2l, 1) := by decide +kernel
theorem dX8_isSheet_2 : decode cX8_isSheet 2 = .ok (.lconst 0, 1) := by decide +kernel
theorem dX8_isSheet_3 : decode cX8_isSheet 3 = .ok (.ldc2_w 79, 3) := by decide +kernel
theorem dX8_isSheet_6 : decode cX8_isSheet 6 = .ok (.invokestatic 72, 3) := by decide +kernel
theorem dX8_isSheet_9 : decode cX8_isSheet 9 = .ok (.ireturn, 1) := by decide +kernel
theorem dX8_isLane_0 : decode cX8_isLane 0 = .ok (.iload_n 0, 1) := by decide +kernel
theorem dX8_isLane_1 : decode cX8_isLane 1 = .ok (.i2l, 1) := by decide +kernel
theorem dX8_isLane_2 : decode cX8_isLane 2 = .ok (.lconst 0, 1) := by decide +kernel
theorem dX8_isLane_3 : decode cX8_isLane 3 = .ok (.ldc2_w 79, 3) := by decide +kernel
theorem dX8_isLane_6 : decode cX8_isLane 6 = .ok (.invokestatic 72, 3) := by decide +kernel
theorem dX8_isLane_9 : decode cX8_isLane 9 = .ok (.ireturn, 1) := by decide +kernel
theorem dX8_why_0 : decode cX8_why 0 = .ok (.aload_n 0, 1) := by decide +kernel
theorem dX8_why_1 : decode cX8_why 1 = .ok (.getfield 43, 3) := by decide +kernel
theorem dX8_why_4 : decode cX8_why 4 = .ok (.iload_n 1, 1) := by decide +kernel
theorem dX8_why_5 : decode cX8_why 5 = .ok (.iaload, 1) := by decide +kernel
theorem dX8_why_6 : decode cX8_why 6 = .ok (.ifCond .ge 6, 3) := by decide +kernel
theorem dX8_why_9 : decode cX8_why 9 = .ok (.bipush (-11), 2) := by decide +kernel
theorem dX8_why_11 : decode cX8_why 11 = .ok (.ireturn, 1) := by decide +kernel
theorem dX8_why_12 : decode cX8_why 12 = .ok (.aload_n 0, 1) := by decide +kernel
theorem dX8_why_13 : decode cX8_why 13 = .ok (.getfield 43, 3) := by decide +kernel
theorem dX8_why_16 : decode cX8_why 16 = .ok (.iload_n 1, 1) := by decide +kernel
theorem dX8_why_17 : decode cX8_why 17 = .ok (.iaload, 1) := by decide +kernel
theorem dX8_why_18 : decode cX8_why 18 = .ok (.iload_n 2, 1) := by decide +kernel
theorem dX8_why_19 : decode cX8_why 19 = .ok (.if_icmp .eq 6, 3) := by decide +kernel
theorem dX8_why_22 : decode cX8_why 22 = .ok (.bipush (-12), 2) := by decide +kernel
theorem dX8_why_24 : decode cX8_why 24 = .ok (.ireturn, 1) := by decide +kernel
theorem dX8_why_25 : decode cX8_why 25 = .ok (.iload_n 3, 1) := by decide +kernel
theorem dX8_why_26 : decode cX8_why 26 = .ok (.ifCond .lt 20, 3) := by decide +kernel
theorem dX8_why_29 : decode cX8_why 29 = .ok (.iload_n 3, 1) := by decide +kernel
theorem dX8_why_30 : decode cX8_why 30 = .ok (.i2l, 1) := by decide +kernel
theorem dX8_why_31 : decode cX8_why 31 = .ok (.iload 4, 2) := by decide +kernel
theorem dX8_why_33 : decode cX8_why 33 = .ok (.i2l, 1) := by decide +kernel
theorem dX8_why_34 : decode cX8_why 34 = .ok (.ladd, 1) := by decide +kernel
theorem dX8_why_35 : decode cX8_why 35 = .ok (.aload_n 0, 1) := by decide +kernel
theorem dX8_why_36 : decode cX8_why 36 = .ok (.getfield 46, 3) := by decide +kernel
theorem dX8_why_39 : decode cX8_why 39 = .ok (.iload_n 1, 1) := by decide +kernel
theorem dX8_why_40 : decode cX8_why 40 = .ok (.iaload, 1) := by decide +kernel
theorem dX8_why_41 : decode cX8_why 41 = .ok (.i2l, 1) := by decide +kernel
theorem dX8_why_42 : decode cX8_why 42 = .ok (.lcmp, 1) := by decide +kernel
theorem dX8_why_43 : decode cX8_why 43 = .ok (.ifCond .le 8, 3) := by decide +kernel
theorem dX8_why_46 : decode cX8_why 46 = .ok (.bipush (-13), 2) := by decide +kernel
theorem dX8_why_48 : decode cX8_why 48 = .ok (.goto 4, 3) := by decide +kernel
theorem dX8_why_51 : decode cX8_why 51 = .ok (.iconst 0, 1) := by decide +kernel
theorem dX8_why_52 : decode cX8_why 52 = .ok (.ireturn, 1) := by decide +kernel
theorem dX8_seen_0 : decode cX8_seen 0 = .ok (.iload_n 1, 1) := by decide +kernel
theorem dX8_seen_1 : decode cX8_seen 1 = .ok (.invokestatic 227, 3) := by decide +kernel
theorem dX8_seen_4 : decode cX8_seen 4 = .ok (.ifCond .eq 23, 3) := by decide +kernel
theorem dX8_seen_7 : decode cX8_seen 7 = .ok (.iload_n 2, 1) := by decide +kernel
theorem dX8_seen_8 : decode cX8_seen 8 = .ok (.invokestatic 230, 3) := by decide +kernel
theorem dX8_seen_11 : decode cX8_seen 11 = .ok (.ifCond .eq 16, 3) := by decide +kernel
theorem dX8_seen_14 : decode cX8_seen 14 = .ok (.iload 4, 2) := by decide +kernel
theorem dX8_seen_16 : decode cX8_seen 16 = .ok (.i2l, 1) := by decide +kernel
theorem dX8_seen_17 : decode cX8_seen 17 = .ok (.lconst 1, 1) := by decide +kernel
theorem dX8_seen_18 : decode cX8_seen 18 = .ok (.ldc2_w 233, 3) := by decide +kernel
theorem dX8_seen_21 : decode cX8_seen 21 = .ok (.invokestatic 72, 3) := by decide +kernel
theorem dX8_seen_24 : decode cX8_seen 24 = .ok (.ifCond .ne 5, 3) := by decide +kernel
theorem dX8_seen_27 : decode cX8_seen 27 = .ok (.iconst (-1), 1) := by decide +kernel
theorem dX8_seen_28 : decode cX8_seen 28 = .ok (.ireturn, 1) := by decide +kernel
theorem dX8_seen_29 : decode cX8_seen 29 = .ok (.aload_n 0, 1) := by decide +kernel
theorem dX8_seen_30 : decode cX8_seen 30 = .ok (.iload_n 1, 1) := by decide +kernel
theorem dX8_seen_31 : decode cX8_seen 31 = .ok (.iload_n 2, 1) := by decide +kernel
theorem dX8_seen_32 : decode cX8_seen 32 = .ok (.iload_n 3, 1) := by decide +kernel
theorem dX8_seen_33 : decode cX8_seen 33 = .ok (.iconst 2, 1) := by decide +kernel
theorem dX8_seen_34 : decode cX8_seen 34 = .ok (.iload 4, 2) := by decide +kernel
theorem dX8_seen_36 : decode cX8_seen 36 = .ok (.imul, 1) := by decide +kernel
theorem dX8_seen_37 : decode cX8_seen 37 = .ok (.invokevirtual 235, 3) := by decide +kernel
theorem dX8_seen_40 : decode cX8_seen 40 = .ok (.istore 5, 2) := by decide +kernel
theorem dX8_seen_42 : decode cX8_seen 42 = .ok (.iload 5, 2) := by decide +kernel
theorem dX8_seen_44 : decode cX8_seen 44 = .ok (.ifCond .ge 6, 3) := by decide +kernel
theorem dX8_seen_47 : decode cX8_seen 47 = .ok (.iload 5, 2) := by decide +kernel
theorem dX8_seen_49 : decode cX8_seen 49 = .ok (.ireturn, 1) := by decide +kernel
theorem dX8_seen_50 : decode cX8_seen 50 = .ok (.iconst 3, 1) := by decide +kernel
theorem dX8_seen_51 : decode cX8_seen 51 = .ok (.istore 6, 2) := by decide +kernel
theorem dX8_seen_53 : decode cX8_seen 53 = .ok (.bipush 16, 2) := by decide +kernel
theorem dX8_seen_55 : decode cX8_seen 55 = .ok (.iload_n 1, 1) := by decide +kernel
theorem dX8_seen_56 : decode cX8_seen 56 = .ok (.imul, 1) := by decide +kernel
theorem dX8_seen_57 : decode cX8_seen 57 = .ok (.iload_n 3, 1) := by decide +kernel
theorem dX8_seen_58 : decode cX8_seen 58 = .ok (.iadd, 1) := by decide +kernel
theorem dX8_seen_59 : decode cX8_seen 59 = .ok (.istore 7, 2) := by decide +kernel
theorem dX8_seen_61 : decode cX8_seen 61 = .ok (.iload 7, 2) := by decide +kernel
theorem dX8_seen_63 : decode cX8_seen 63 = .ok (.bipush 16, 2) := by decide +kernel
theorem dX8_seen_65 : decode cX8_seen 65 = .ok (.iload_n 1, 1) := by decide +kernel
theorem dX8_seen_66 : decode cX8_seen 66 = .ok (.imul, 1) := by decide +kernel
theorem dX8_seen_67 : decode cX8_seen 67 = .ok (.iload_n 3, 1) := by decide +kernel
theorem dX8_seen_68 : decode cX8_seen 68 = .ok (.iadd, 1) := by decide +kernel
theorem dX8_seen_69 : decode cX8_seen 69 = .ok (.iconst 2, 1) := by decide +kernel
theorem dX8_seen_70 : decode cX8_seen 70 = .ok (.iload 4, 2) := by decide +kernel
theorem dX8_seen_72 : decode cX8_seen 72 = .ok (.imul, 1) := by decide +kernel
theorem dX8_seen_73 : decode cX8_seen 73 = .ok (.iadd, 1) := by decide +kernel
theorem dX8_seen_74 : decode cX8_seen 74 = .ok (.if_icmp .ge 42, 3) := by decide +kernel
theorem dX8_seen_77 : decode cX8_seen 77 = .ok (.aload_n 0, 1) := by decide +kernel
theorem dX8_seen_78 : decode cX8_seen 78 = .ok (.aload_n 0, 1) := by decide +kernel
theorem dX8_seen_79 : decode cX8_seen 79 = .ok (.getfield 49, 3) := by decide +kernel
theorem dX8_seen_82 : decode cX8_seen 82 = .ok (.iload 7, 2) := by decide +kernel
theorem dX8_seen_84 : decode cX8_seen 84 = .ok (.laload, 1) := by decide +kernel
theorem dX8_seen_85 : decode cX8_seen 85 = .ok (.invokevirtual 89, 3) := by decide +kernel
theorem dX8_seen_88 : decode cX8_seen 88 = .ok (.ifCond .eq 19, 3) := by decide +kernel
theorem dX8_seen_91 : decode cX8_seen 91 = .ok (.aload_n 0, 1) := by decide +kernel
theorem dX8_seen_92 : decode cX8_seen 92 = .ok (.aload_n 0, 1) := by decide +kernel
theorem dX8_seen_93 : decode cX8_seen 93 = .ok (.getfield 49, 3) := by decide +kernel
theorem dX8_seen_96 : decode cX8_seen 96 = .ok (.iload 7, 2) := by decide +kernel
theorem dX8_seen_98 : decode cX8_seen 98 = .ok (.iconst 1, 1) := by decide +kernel
theorem dX8_seen_99 : decode cX8_seen 99 = .ok (.iadd, 1) := by decide +kernel
theorem dX8_seen_100 : decode cX8_seen 100 = .ok (.laload, 1) := by decide +kernel
theorem dX8_seen_101 : decode cX8_seen 101 = .ok (.invokevirtual 89, 3) := by decide +kernel
theorem dX8_seen_104 : decode cX8_seen 104 = .ok (.ifCond .ne 6, 3) := by decide +kernel
theorem dX8_seen_107 : decode cX8_seen 107 = .ok (.bipush (-2), 2) := by decide +kernel
theorem dX8_seen_109 : decode cX8_seen 109 = .ok (.ireturn, 1) := by decide +kernel
theorem dX8_seen_110 : decode cX8_seen 110 = .ok (.iinc 7 2, 3) := by decide +kernel
theorem dX8_seen_113 : decode cX8_seen 113 = .ok (.goto (-52), 3) := by decide +kernel
theorem dX8_seen_116 : decode cX8_seen 116 = .ok (.bipush 16, 2) := by decide +kernel
theorem dX8_seen_118 : decode cX8_seen 118 = .ok (.iload_n 1, 1) := by decide +kernel
theorem dX8_seen_119 : decode cX8_seen 119 = .ok (.imul, 1) := by decide +kernel
theorem dX8_seen_120 : decode cX8_seen 120 = .ok (.iload_n 3, 1) := by decide +kernel
theorem dX8_seen_121 : decode cX8_seen 121 = .ok (.iadd, 1) := by decide +kernel
theorem dX8_seen_122 : decode cX8_seen 122 = .ok (.istore 7, 2) := by decide +kernel
theorem dX8_seen_124 : decode cX8_seen 124 = .ok (.iload 7, 2) := by decide +kernel
theorem dX8_seen_126 : decode cX8_seen 126 = .ok (.bipush 16, 2) := by decide +kernel
theorem dX8_seen_128 : decode cX8_seen 128 = .ok (.iload_n 1, 1) := by decide +kernel
theorem dX8_seen_129 : decode cX8_seen 129 = .ok (.imul, 1) := by decide +kernel
theorem dX8_seen_130 : decode cX8_seen 130 = .ok (.iload_n 3, 1) := by decide +kernel
theorem dX8_seen_131 : decode cX8_seen 131 = .ok (.iadd, 1) := by decide +kernel
theorem dX8_seen_132 : decode cX8_seen 132 = .ok (.iconst 2, 1) := by decide +kernel
theorem dX8_seen_133 : decode cX8_seen 133 = .ok (.iload 4, 2) := by decide +kernel
theorem dX8_seen_135 : decode cX8_seen 135 = .ok (.imul, 1) := by decide +kernel
theorem dX8_seen_136 : decode cX8_seen 136 = .ok (.iadd, 1) := by decide +kernel
theorem dX8_seen_137 : decode cX8_seen 137 = .ok (.if_icmp .ge 89, 3) := by decide +kernel
theorem dX8_seen_140 : decode cX8_seen 140 = .ok (.aload_n 0, 1) := by decide +kernel
theorem dX8_seen_141 : decode cX8_seen 141 = .ok (.getfield 49, 3) := by decide +kernel
theorem dX8_seen_144 : decode cX8_seen 144 = .ok (.iload 7, 2) := by decide +kernel
theorem dX8_seen_146 : decode cX8_seen 146 = .ok (.laload, 1) := by decide +kernel
theorem dX8_seen_147 : decode cX8_seen 147 = .ok (.l2i, 1) := by decide +kernel
theorem dX8_seen_148 : decode cX8_seen 148 = .ok (.istore 8, 2) := by decide +kernel
theorem dX8_seen_150 : decode cX8_seen 150 = .ok (.aload_n 0, 1) := by decide +kernel
theorem dX8_seen_151 : decode cX8_seen 151 = .ok (.getfield 49, 3) := by decide +kernel
theorem dX8_seen_154 : decode cX8_seen 154 = .ok (.iload 7, 2) := by decide +kernel
theorem dX8_seen_156 : decode cX8_seen 156 = .ok (.iconst 1, 1) := by decide +kernel
theorem dX8_seen_157 : decode cX8_seen 157 = .ok (.iadd, 1) := by decide +kernel
theorem dX8_seen_158 : decode cX8_seen 158 = .ok (.laload, 1) := by decide +kernel
theorem dX8_seen_159 : decode cX8_seen 159 = .ok (.l2i, 1) := by decide +kernel
theorem dX8_seen_160 : decode cX8_seen 160 = .ok (.istore 9, 2) := by decide +kernel
theorem dX8_seen_162 : decode cX8_seen 162 = .ok (.iload 6, 2) := by decide +kernel
theorem dX8_seen_164 : decode cX8_seen 164 = .ok (.aload_n 0, 1) := by decide +kernel
theorem dX8_seen_165 : decode cX8_seen 165 = .ok (.iload 8, 2) := by decide +kernel
theorem dX8_seen_167 : decode cX8_seen 167 = .ok (.iconst 0, 1) := by decide +kernel
theorem dX8_seen_168 : decode cX8_seen 168 = .ok (.iconst 0, 1) := by decide +kernel
theorem dX8_seen_169 : decode cX8_seen 169 = .ok (.invokevirtual 99, 3) := by decide +kernel
theorem dX8_seen_172 : decode cX8_seen 172 = .ok (.aload_n 0, 1) := by decide +kernel
theorem dX8_seen_173 : decode cX8_seen 173 = .ok (.iload 9, 2) := by decide +kernel
theorem dX8_seen_175 : decode cX8_seen 175 = .ok (.iconst 0, 1) := by decide +kernel
theorem dX8_seen_176 : decode cX8_seen 176 = .ok (.iconst 0, 1) := by decide +kernel
theorem dX8_seen_177 : decode cX8_seen 177 = .ok (.invokevirtual 99, 3) := by decide +kernel
theorem dX8_seen_180 : decode cX8_seen 180 = .ok (.if_icmp .le 7, 3) := by decide +kernel
theorem dX8_seen_183 : decode cX8_seen 183 = .ok (.iconst 3, 1) := by decide +kernel
theorem dX8_seen_184 : decode cX8_seen 184 = .ok (.goto 4, 3) := by decide +kernel
theorem dX8_seen_187 : decode cX8_seen 187 = .ok (.iconst 2, 1) := by decide +kernel
theorem dX8_seen_188 : decode cX8_seen 188 = .ok (.iand, 1) := by decide +kernel
theorem dX8_seen_189 : decode cX8_seen 189 = .ok (.istore 6, 2) := by decide +kernel
theorem dX8_seen_191 : decode cX8_seen 191 = .ok (.iload 6, 2) := by decide +kernel
theorem dX8_seen_193 : decode cX8_seen 193 = .ok (.aload_n 0, 1) := by decide +kernel
theorem dX8_seen_194 : decode cX8_seen 194 = .ok (.iload 8, 2) := by decide +kernel
theorem dX8_seen_196 : decode cX8_seen 196 = .ok (.iconst 0, 1) := by decide +kernel
theorem dX8_seen_197 : decode cX8_seen 197 = .ok (.iconst 1, 1) := by decide +kernel
theorem dX8_seen_198 : decode cX8_seen 198 = .ok (.invokevirtual 99, 3) := by decide +kernel
theorem dX8_seen_201 : decode cX8_seen 201 = .ok (.aload_n 0, 1) := by decide +kernel
theorem dX8_seen_202 : decode cX8_seen 202 = .ok (.iload 9, 2) := by decide +kernel
theorem dX8_seen_204 : decode cX8_seen 204 = .ok (.iconst 0, 1) := by decide +kernel
theorem dX8_seen_205 : decode cX8_seen 205 = .ok (.iconst 1, 1) := by decide +kernel
theorem dX8_seen_206 : decode cX8_seen 206 = .ok (.invokevirtual 99, 3) := by decide +kernel
theorem dX8_seen_209 : decode cX8_seen 209 = .ok (.if_icmp .le 7, 3) := by decide +kernel
theorem dX8_seen_212 : decode cX8_seen 212 = .ok (.iconst 3, 1) := by decide +kernel
theorem dX8_seen_213 : decode cX8_seen 213 = .ok (.goto 4, 3) := by decide +kernel
theorem dX8_seen_216 : decode cX8_seen 216 = .ok (.iconst 1, 1) := by decide +kernel
theorem dX8_seen_217 : decode cX8_seen 217 = .ok (.iand, 1) := by decide +kernel
theorem dX8_seen_218 : decode cX8_seen 218 = .ok (.istore 6, 2) := by decide +kernel
theorem dX8_seen_220 : decode cX8_seen 220 = .ok (.iinc 7 2, 3) := by decide +kernel
theorem dX8_seen_223 : decode cX8_seen 223 = .ok (.goto (-99), 3) := by decide +kernel
theorem dX8_seen_226 : decode cX8_seen 226 = .ok (.iload 6, 2) := by decide +kernel
theorem dX8_seen_228 : decode cX8_seen 228 = .ok (.ireturn, 1) := by decide +kernel
theorem dX8_puts_0 : decode cX8_puts 0 = .ok (.aload_n 0, 1) := by decide +kernel
theorem dX8_puts_1 : decode cX8_puts 1 = .ok (.getfield 43, 3) := by decide +kernel
theorem dX8_puts_4 : decode cX8_puts 4 = .ok (.iload_n 1, 1) := by decide +kernel
theorem dX8_puts_5 : decode cX8_puts 5 = .ok (.iaload, 1) := by decide +kernel
theorem dX8_puts_6 : decode cX8_puts 6 = .ok (.istore 5, 2) := by decide +kernel
theorem dX8_puts_8 : decode cX8_puts 8 = .ok (.aload_n 0, 1) := by decide +kernel
theorem dX8_puts_9 : decode cX8_puts 9 = .ok (.getfield 49, 3) := by decide +kernel
theorem dX8_puts_12 : decode cX8_puts 12 = .ok (.bipush 16, 2) := by decide +kernel
theorem dX8_puts_14 : decode cX8_puts 14 = .ok (.iload_n 1, 1) := by decide +kernel
theorem dX8_puts_15 : decode cX8_puts 15 = .ok (.imul, 1) := by decide +kernel
theorem dX8_puts_16 : decode cX8_puts 16 = .ok (.iload_n 2, 1) := by decide +kernel
theorem dX8_puts_17 : decode cX8_puts 17 = .ok (.iadd, 1) := by decide +kernel
theorem dX8_puts_18 : decode cX8_puts 18 = .ok (.iload 5, 2) := by decide +kernel
theorem dX8_puts_20 : decode cX8_puts 20 = .ok (.ifCond .ne 10, 3) := by decide +kernel
theorem dX8_puts_23 : decode cX8_puts 23 = .ok (.lload_n 3, 1) := by decide +kernel
theorem dX8_puts_24 : decode cX8_puts 24 = .ok (.l2i, 1) := by decide +kernel
theorem dX8_puts_25 : decode cX8_puts 25 = .ok (.i2b, 1) := by decide +kernel
theorem dX8_puts_26 : decode cX8_puts 26 = .ok (.i2l, 1) := by decide +kernel
theorem dX8_puts_27 : decode cX8_puts 27 = .ok (.goto 29, 3) := by decide +kernel
theorem dX8_puts_30 : decode cX8_puts 30 = .ok (.iload 5, 2) := by decide +kernel
theorem dX8_puts_32 : decode cX8_puts 32 = .ok (.iconst 1, 1) := by decide +kernel
theorem dX8_puts_33 : decode cX8_puts 33 = .ok (.if_icmp .ne 10, 3) := by decide +kernel
theorem dX8_puts_36 : decode cX8_puts 36 = .ok (.lload_n 3, 1) := by decide +kernel
theorem dX8_puts_37 : decode cX8_puts 37 = .ok (.l2i, 1) := by decide +kernel
theorem dX8_puts_38 : decode cX8_puts 38 = .ok (.i2s, 1) := by decide +kernel
theorem dX8_puts_39 : decode cX8_puts 39 = .ok (.i2l, 1) := by decide +kernel
theorem dX8_puts_40 : decode cX8_puts 40 = .ok (.goto 16, 3) := by decide +kernel
theorem dX8_puts_43 : decode cX8_puts 43 = .ok (.iload 5, 2) := by decide +kernel
theorem dX8_puts_45 : decode cX8_puts 45 = .ok (.iconst 2, 1) := by decide +kernel
theorem dX8_puts_46 : decode cX8_puts 46 = .ok (.if_icmp .ne 9, 3) := by decide +kernel
theorem dX8_puts_49 : decode cX8_puts 49 = .ok (.lload_n 3, 1) := by decide +kernel
theorem dX8_puts_50 : decode cX8_puts 50 = .ok (.l2i, 1) := by decide +kernel
theorem dX8_puts_51 : decode cX8_puts 51 = .ok (.i2l, 1) := by decide +kernel
theorem dX8_puts_52 : decode cX8_puts 52 = .ok (.goto 4, 3) := by decide +kernel
theorem dX8_puts_55 : decode cX8_puts 55 = .ok (.lload_n 3, 1) := by decide +kernel
theorem dX8_puts_56 : decode cX8_puts 56 = .ok (.lastore, 1) := by decide +kernel
theorem dX8_puts_57 : decode cX8_puts 57 = .ok (.return_, 1) := by decide +kernel
theorem dX8_film_0 : decode cX8_film 0 = .ok (.iload_n 1, 1) := by decide +kernel
theorem dX8_film_1 : decode cX8_film 1 = .ok (.invokestatic 227, 3) := by decide +kernel
theorem dX8_film_4 : decode cX8_film 4 = .ok (.ifCond .eq 10, 3) := by decide +kernel
theorem dX8_film_7 : decode cX8_film 7 = .ok (.iload_n 2, 1) := by decide +kernel
theorem dX8_film_8 : decode cX8_film 8 = .ok (.invokestatic 230, 3) := by decide +kernel
theorem dX8_film_11 : decode cX8_film 11 = .ok (.ifCond .ne 5, 3) := by decide +kernel
theorem dX8_film_14 : decode cX8_film 14 = .ok (.iconst (-1), 1) := by decide +kernel
theorem dX8_film_15 : decode cX8_film 15 = .ok (.ireturn, 1) := by decide +kernel
theorem dX8_film_16 : decode cX8_film 16 = .ok (.bipush 12, 2) := by decide +kernel
theorem dX8_film_18 : decode cX8_film 18 = .ok (.aload_n 0, 1) := by decide +kernel
theorem dX8_film_19 : decode cX8_film 19 = .ok (.getfield 16, 3) := by decide +kernel
theorem dX8_film_22 : decode cX8_film 22 = .ok (.iconst 3, 1) := by decide +kernel
theorem dX8_film_23 : decode cX8_film 23 = .ok (.iaload, 1) := by decide +kernel
theorem dX8_film_24 : decode cX8_film 24 = .ok (.isub, 1) := by decide +kernel
theorem dX8_film_25 : decode cX8_film 25 = .ok (.istore 4, 2) := by decide +kernel
theorem dX8_film_27 : decode cX8_film 27 = .ok (.aload_n 0, 1) := by decide +kernel
theorem dX8_film_28 : decode cX8_film 28 = .ok (.iload_n 1, 1) := by decide +kernel
theorem dX8_film_29 : decode cX8_film 29 = .ok (.iload_n 2, 1) := by decide +kernel
theorem dX8_film_30 : decode cX8_film 30 = .ok (.iload_n 3, 1) := by decide +kernel
theorem dX8_film_31 : decode cX8_film 31 = .ok (.iload 4, 2) := by decide +kernel
theorem dX8_film_33 : decode cX8_film 33 = .ok (.invokevirtual 235, 3) := by decide +kernel
theorem dX8_film_36 : decode cX8_film 36 = .ok (.istore 5, 2) := by decide +kernel
theorem dX8_film_38 : decode cX8_film 38 = .ok (.iload 5, 2) := by decide +kernel
theorem dX8_film_40 : decode cX8_film 40 = .ok (.ifCond .ge 6, 3) := by decide +kernel
theorem dX8_film_43 : decode cX8_film 43 = .ok (.iload 5, 2) := by decide +kernel
theorem dX8_film_45 : decode cX8_film 45 = .ok (.ireturn, 1) := by decide +kernel
theorem dX8_film_46 : decode cX8_film 46 = .ok (.aload_n 0, 1) := by decide +kernel
theorem dX8_film_47 : decode cX8_film 47 = .ok (.invokevirtual 195, 3) := by decide +kernel
theorem dX8_film_50 : decode cX8_film 50 = .ok (.aload_n 0, 1) := by decide +kernel
theorem dX8_film_51 : decode cX8_film 51 = .ok (.bipush (-4), 2) := by decide +kernel
theorem dX8_film_53 : decode cX8_film 53 = .ok (.putfield 186, 3) := by decide +kernel
theorem dX8_film_56 : decode cX8_film 56 = .ok (.iconst 0, 1) := by decide +kernel
theorem dX8_film_57 : decode cX8_film 57 = .ok (.istore 6, 2) := by decide +kernel
theorem dX8_film_59 : decode cX8_film 59 = .ok (.iload 6, 2) := by decide +kernel
theorem dX8_film_61 : decode cX8_film 61 = .ok (.iload 4, 2) := by decide +kernel
theorem dX8_film_63 : decode cX8_film 63 = .ok (.if_icmp .ge 29, 3) := by decide +kernel
theorem dX8_film_66 : decode cX8_film 66 = .ok (.aload_n 0, 1) := by decide +kernel
theorem dX8_film_67 : decode cX8_film 67 = .ok (.invokevirtual 192, 3) := by decide +kernel
theorem dX8_film_70 : decode cX8_film 70 = .ok (.aload_n 0, 1) := by decide +kernel
theorem dX8_film_71 : decode cX8_film 71 = .ok (.iload_n 1, 1) := by decide +kernel
theorem dX8_film_72 : decode cX8_film 72 = .ok (.iload_n 3, 1) := by decide +kernel
theorem dX8_film_73 : decode cX8_film 73 = .ok (.iload 6, 2) := by decide +kernel
theorem dX8_film_75 : decode cX8_film 75 = .ok (.iadd, 1) := by decide +kernel
theorem dX8_film_76 : decode cX8_film 76 = .ok (.aload_n 0, 1) := by decide +kernel
theorem dX8_film_77 : decode cX8_film 77 = .ok (.getfield 16, 3) := by decide +kernel
theorem dX8_film_80 : decode cX8_film 80 = .ok (.iconst 0, 1) := by decide +kernel
theorem dX8_film_81 : decode cX8_film 81 = .ok (.iaload, 1) := by decide +kernel
theorem dX8_film_82 : decode cX8_film 82 = .ok (.i2l, 1) := by decide +kernel
theorem dX8_film_83 : decode cX8_film 83 = .ok (.invokevirtual 239, 3) := by decide +kernel
theorem dX8_film_86 : decode cX8_film 86 = .ok (.iinc 6 1, 3) := by decide +kernel
theorem dX8_film_89 : decode cX8_film 89 = .ok (.goto (-30), 3) := by decide +kernel
theorem dX8_film_92 : decode cX8_film 92 = .ok (.aload_n 0, 1) := by decide +kernel
theorem dX8_film_93 : decode cX8_film 93 = .ok (.invokevirtual 201, 3) := by decide +kernel
theorem dX8_film_96 : decode cX8_film 96 = .ok (.iload 4, 2) := by decide +kernel
theorem dX8_film_98 : decode cX8_film 98 = .ok (.ireturn, 1) := by decide +kernel
theorem dX8_deal_0 : decode cX8_deal 0 = .ok (.iload_n 1, 1) := by decide +kernel
theorem dX8_deal_1 : decode cX8_deal 1 = .ok (.invokestatic 227, 3) := by decide +kernel
theorem dX8_deal_4 : decode cX8_deal 4 = .ok (.ifCond .eq 10, 3) := by decide +kernel
theorem dX8_deal_7 : decode cX8_deal 7 = .ok (.iload_n 2, 1) := by decide +kernel
theorem dX8_deal_8 : decode cX8_deal 8 = .ok (.invokestatic 230, 3) := by decide +kernel
theorem dX8_deal_11 : decode cX8_deal 11 = .ok (.ifCond .ne 5, 3) := by decide +kernel
theorem dX8_deal_14 : decode cX8_deal 14 = .ok (.iconst (-1), 1) := by decide +kernel
theorem dX8_deal_15 : decode cX8_deal 15 = .ok (.ireturn, 1) := by decide +kernel
theorem dX8_deal_16 : decode cX8_deal 16 = .ok (.aload_n 0, 1) := by decide +kernel
theorem dX8_deal_17 : decode cX8_deal 17 = .ok (.iload_n 1, 1) := by decide +kernel
theorem dX8_deal_18 : decode cX8_deal 18 = .ok (.iload_n 2, 1) := by decide +kernel
theorem dX8_deal_19 : decode cX8_deal 19 = .ok (.iload_n 3, 1) := by decide +kernel
theorem dX8_deal_20 : decode cX8_deal 20 = .ok (.aload_n 0, 1) := by decide +kernel
theorem dX8_deal_21 : decode cX8_deal 21 = .ok (.getfield 76, 3) := by decide +kernel
theorem dX8_deal_24 : decode cX8_deal 24 = .ok (.invokevirtual 235, 3) := by decide +kernel
theorem dX8_deal_27 : decode cX8_deal 27 = .ok (.istore 4, 2) := by decide +kernel
theorem dX8_deal_29 : decode cX8_deal 29 = .ok (.iload 4, 2) := by decide +kernel
theorem dX8_deal_31 : decode cX8_deal 31 = .ok (.ifCond .ge 6, 3) := by decide +kernel
theorem dX8_deal_34 : decode cX8_deal 34 = .ok (.iload 4, 2) := by decide +kernel
theorem dX8_deal_36 : decode cX8_deal 36 = .ok (.ireturn, 1) := by decide +kernel
theorem dX8_deal_37 : decode cX8_deal 37 = .ok (.aload_n 0, 1) := by decide +kernel
theorem dX8_deal_38 : decode cX8_deal 38 = .ok (.getfield 16, 3) := by decide +kernel
theorem dX8_deal_41 : decode cX8_deal 41 = .ok (.iconst 0, 1) := by decide +kernel
theorem dX8_deal_42 : decode cX8_deal 42 = .ok (.iaload, 1) := by decide +kernel
theorem dX8_deal_43 : decode cX8_deal 43 = .ok (.bipush (-4), 2) := by decide +kernel
theorem dX8_deal_45 : decode cX8_deal 45 = .ok (.if_icmp .ne 7, 3) := by decide +kernel
theorem dX8_deal_48 : decode cX8_deal 48 = .ok (.iconst 0, 1) := by decide +kernel
theorem dX8_deal_49 : decode cX8_deal 49 = .ok (.goto 11, 3) := by decide +kernel
theorem dX8_deal_52 : decode cX8_deal 52 = .ok (.iconst 1, 1) := by decide +kernel
theorem dX8_deal_53 : decode cX8_deal 53 = .ok (.aload_n 0, 1) := by decide +kernel
theorem dX8_deal_54 : decode cX8_deal 54 = .ok (.getfield 16, 3) := by decide +kernel
theorem dX8_deal_57 : decode cX8_deal 57 = .ok (.iconst 0, 1) := by decide +kernel
theorem dX8_deal_58 : decode cX8_deal 58 = .ok (.iaload, 1) := by decide +kernel
theorem dX8_deal_59 : decode cX8_deal 59 = .ok (.ishl, 1) := by decide +kernel
theorem dX8_deal_60 : decode cX8_deal 60 = .ok (.istore 5, 2) := by decide +kernel
theorem dX8_deal_62 : decode cX8_deal 62 = .ok (.iconst 0, 1) := by decide +kernel
theorem dX8_deal_63 : decode cX8_deal 63 = .ok (.istore 6, 2) := by decide +kernel
theorem dX8_deal_65 : decode cX8_deal 65 = .ok (.iload 6, 2) := by decide +kernel
theorem dX8_deal_67 : decode cX8_deal 67 = .ok (.aload_n 0, 1) := by decide +kernel
theorem dX8_deal_68 : decode cX8_deal 68 = .ok (.getfield 76, 3) := by decide +kernel
theorem dX8_deal_71 : decode cX8_deal 71 = .ok (.if_icmp .ge 79, 3) := by decide +kernel
theorem dX8_deal_74 : decode cX8_deal 74 = .ok (.aload_n 0, 1) := by decide +kernel
theorem dX8_deal_75 : decode cX8_deal 75 = .ok (.getfield 49, 3) := by decide +kernel
theorem dX8_deal_78 : decode cX8_deal 78 = .ok (.bipush 16, 2) := by decide +kernel
theorem dX8_deal_80 : decode cX8_deal 80 = .ok (.iload_n 1, 1) := by decide +kernel
theorem dX8_deal_81 : decode cX8_deal 81 = .ok (.imul, 1) := by decide +kernel
theorem dX8_deal_82 : decode cX8_deal 82 = .ok (.iload_n 3, 1) := by decide +kernel
theorem dX8_deal_83 : decode cX8_deal 83 = .ok (.iadd, 1) := by decide +kernel
theorem dX8_deal_84 : decode cX8_deal 84 = .ok (.iload 6, 2) := by decide +kernel
theorem dX8_deal_86 : decode cX8_deal 86 = .ok (.iadd, 1) := by decide +kernel
theorem dX8_deal_87 : decode cX8_deal 87 = .ok (.laload, 1) := by decide +kernel
theorem dX8_deal_88 : decode cX8_deal 88 = .ok (.lstore 7, 2) := by decide +kernel
theorem dX8_deal_90 : decode cX8_deal 90 = .ok (.lload 7, 2) := by decide +kernel
theorem dX8_deal_92 : decode cX8_deal 92 = .ok (.aload_n 0, 1) := by decide +kernel
theorem dX8_deal_93 : decode cX8_deal 93 = .ok (.getfield 69, 3) := by decide +kernel
theorem dX8_deal_96 : decode cX8_deal 96 = .ok (.i2l, 1) := by decide +kernel
theorem dX8_deal_97 : decode cX8_deal 97 = .ok (.lcmp, 1) := by decide +kernel
theorem dX8_deal_98 : decode cX8_deal 98 = .ok (.ifCond .ge 22, 3) := by decide +kernel
theorem dX8_deal_101 : decode cX8_deal 101 = .ok (.lload 7, 2) := by decide +kernel
theorem dX8_deal_103 : decode cX8_deal 103 = .ok (.lconst 0, 1) := by decide +kernel
theorem dX8_deal_104 : decode cX8_deal 104 = .ok (.lcmp, 1) := by decide +kernel
theorem dX8_deal_105 : decode cX8_deal 105 = .ok (.ifCond .lt 18, 3) := by decide +kernel
theorem dX8_deal_108 : decode cX8_deal 108 = .ok (.iload 5, 2) := by decide +kernel
theorem dX8_deal_110 : decode cX8_deal 110 = .ok (.lload 7, 2) := by decide +kernel
theorem dX8_deal_112 : decode cX8_deal 112 = .ok (.l2i, 1) := by decide +kernel
theorem dX8_deal_113 : decode cX8_deal 113 = .ok (.ishr, 1) := by decide +kernel
theorem dX8_deal_114 : decode cX8_deal 114 = .ok (.iconst 1, 1) := by decide +kernel
theorem dX8_deal_115 : decode cX8_deal 115 = .ok (.iand, 1) := by decide +kernel
theorem dX8_deal_116 : decode cX8_deal 116 = .ok (.iconst 1, 1) := by decide +kernel
theorem dX8_deal_117 : decode cX8_deal 117 = .ok (.if_icmp .ne 6, 3) := by decide +kernel
theorem dX8_deal_120 : decode cX8_deal 120 = .ok (.bipush (-2), 2) := by decide +kernel
theorem dX8_deal_122 : decode cX8_deal 122 = .ok (.ireturn, 1) := by decide +kernel
theorem dX8_deal_123 : decode cX8_deal 123 = .ok (.iload 5, 2) := by decide +kernel
theorem dX8_deal_125 : decode cX8_deal 125 = .ok (.lload 7, 2) := by decide +kernel
theorem dX8_deal_127 : decode cX8_deal 127 = .ok (.lconst 0, 1) := by decide +kernel
theorem dX8_deal_128 : decode cX8_deal 128 = .ok (.lcmp, 1) := by decide +kernel
theorem dX8_deal_129 : decode cX8_deal 129 = .ok (.ifCond .ge 7, 3) := by decide +kernel
theorem dX8_deal_132 : decode cX8_deal 132 = .ok (.iconst 0, 1) := by decide +kernel
theorem dX8_deal_133 : decode cX8_deal 133 = .ok (.goto 8, 3) := by decide +kernel
theorem dX8_deal_136 : decode cX8_deal 136 = .ok (.iconst 1, 1) := by decide +kernel
theorem dX8_deal_137 : decode cX8_deal 137 = .ok (.lload 7, 2) := by decide +kernel
theorem dX8_deal_139 : decode cX8_deal 139 = .ok (.l2i, 1) := by decide +kernel
theorem dX8_deal_140 : decode cX8_deal 140 = .ok (.ishl, 1) := by decide +kernel
theorem dX8_deal_141 : decode cX8_deal 141 = .ok (.ior, 1) := by decide +kernel
theorem dX8_deal_142 : decode cX8_deal 142 = .ok (.istore 5, 2) := by decide +kernel
theorem dX8_deal_144 : decode cX8_deal 144 = .ok (.iinc 6 1, 3) := by decide +kernel
theorem dX8_deal_147 : decode cX8_deal 147 = .ok (.goto (-82), 3) := by decide +kernel
theorem dX8_deal_150 : decode cX8_deal 150 = .ok (.iconst 0, 1) := by decide +kernel
theorem dX8_deal_151 : decode cX8_deal 151 = .ok (.istore 6, 2) := by decide +kernel
theorem dX8_deal_153 : decode cX8_deal 153 = .ok (.iload 6, 2) := by decide +kernel
theorem dX8_deal_155 : decode cX8_deal 155 = .ok (.aload_n 0, 1) := by decide +kernel
theorem dX8_deal_156 : decode cX8_deal 156 = .ok (.getfield 76, 3) := by decide +kernel
theorem dX8_deal_159 : decode cX8_deal 159 = .ok (.if_icmp .ge 49, 3) := by decide +kernel
theorem dX8_deal_162 : decode cX8_deal 162 = .ok (.aload_n 0, 1) := by decide +kernel
theorem dX8_deal_163 : decode cX8_deal 163 = .ok (.getfield 49, 3) := by decide +kernel
theorem dX8_deal_166 : decode cX8_deal 166 = .ok (.bipush 16, 2) := by decide +kernel
theorem dX8_deal_168 : decode cX8_deal 168 = .ok (.iload_n 1, 1) := by decide +kernel
theorem dX8_deal_169 : decode cX8_deal 169 = .ok (.imul, 1) := by decide +kernel
theorem dX8_deal_170 : decode cX8_deal 170 = .ok (.iload_n 3, 1) := by decide +kernel
theorem dX8_deal_171 : decode cX8_deal 171 = .ok (.iadd, 1) := by decide +kernel
theorem dX8_deal_172 : decode cX8_deal 172 = .ok (.iload 6, 2) := by decide +kernel
theorem dX8_deal_174 : decode cX8_deal 174 = .ok (.iadd, 1) := by decide +kernel
theorem dX8_deal_175 : decode cX8_deal 175 = .ok (.laload, 1) := by decide +kernel
theorem dX8_deal_176 : decode cX8_deal 176 = .ok (.lstore 7, 2) := by decide +kernel
theorem dX8_deal_178 : decode cX8_deal 178 = .ok (.aload_n 0, 1) := by decide +kernel
theorem dX8_deal_179 : decode cX8_deal 179 = .ok (.getfield 16, 3) := by decide +kernel
theorem dX8_deal_182 : decode cX8_deal 182 = .ok (.iconst 5, 1) := by decide +kernel
theorem dX8_deal_183 : decode cX8_deal 183 = .ok (.iload 6, 2) := by decide +kernel
theorem dX8_deal_185 : decode cX8_deal 185 = .ok (.iadd, 1) := by decide +kernel
theorem dX8_deal_186 : decode cX8_deal 186 = .ok (.lload 7, 2) := by decide +kernel
theorem dX8_deal_188 : decode cX8_deal 188 = .ok (.lconst 0, 1) := by decide +kernel
theorem dX8_deal_189 : decode cX8_deal 189 = .ok (.lcmp, 1) := by decide +kernel
theorem dX8_deal_190 : decode cX8_deal 190 = .ok (.ifCond .ge 8, 3) := by decide +kernel
theorem dX8_deal_193 : decode cX8_deal 193 = .ok (.bipush (-4), 2) := by decide +kernel
theorem dX8_deal_195 : decode cX8_deal 195 = .ok (.goto 6, 3) := by decide +kernel
theorem dX8_deal_198 : decode cX8_deal 198 = .ok (.lload 7, 2) := by decide +kernel
theorem dX8_deal_200 : decode cX8_deal 200 = .ok (.l2i, 1) := by decide +kernel
theorem dX8_deal_201 : decode cX8_deal 201 = .ok (.iastore, 1) := by decide +kernel
theorem dX8_deal_202 : decode cX8_deal 202 = .ok (.iinc 6 1, 3) := by decide +kernel
theorem dX8_deal_205 : decode cX8_deal 205 = .ok (.goto (-52), 3) := by decide +kernel
theorem dX8_deal_208 : decode cX8_deal 208 = .ok (.aload_n 0, 1) := by decide +kernel
theorem dX8_deal_209 : decode cX8_deal 209 = .ok (.getfield 76, 3) := by decide +kernel
theorem dX8_deal_212 : decode cX8_deal 212 = .ok (.ireturn, 1) := by decide +kernel
theorem dX8_sheet_0 : decode cX8_sheet 0 = .ok (.iload_n 1, 1) := by decide +kernel
theorem dX8_sheet_1 : decode cX8_sheet 1 = .ok (.invokestatic 227, 3) := by decide +kernel
theorem dX8_sheet_4 : decode cX8_sheet 4 = .ok (.ifCond .eq 16, 3) := by decide +kernel
theorem dX8_sheet_7 : decode cX8_sheet 7 = .ok (.iload_n 2, 1) := by decide +kernel
theorem dX8_sheet_8 : decode cX8_sheet 8 = .ok (.invokestatic 230, 3) := by decide +kernel
theorem dX8_sheet_11 : decode cX8_sheet 11 = .ok (.ifCond .eq 9, 3) := by decide +kernel
theorem dX8_sheet_14 : decode cX8_sheet 14 = .ok (.iload_n 3, 1) := by decide +kernel
theorem dX8_sheet_15 : decode cX8_sheet 15 = .ok (.bipush 16, 2) := by decide +kernel
theorem dX8_sheet_17 : decode cX8_sheet 17 = .ok (.if_icmp .le 5, 3) := by decide +kernel
theorem dX8_sheet_20 : decode cX8_sheet 20 = .ok (.iconst (-1), 1) := by decide +kernel
theorem dX8_sheet_21 : decode cX8_sheet 21 = .ok (.ireturn, 1) := by decide +kernel
theorem dX8_sheet_22 : decode cX8_sheet 22 = .ok (.iload_n 3, 1) := by decide +kernel
theorem dX8_sheet_23 : decode cX8_sheet 23 = .ok (.ifCond .ge 6, 3) := by decide +kernel
theorem dX8_sheet_26 : decode cX8_sheet 26 = .ok (.bipush (-14), 2) := by decide +kernel
theorem dX8_sheet_28 : decode cX8_sheet 28 = .ok (.ireturn, 1) := by decide +kernel
theorem dX8_sheet_29 : decode cX8_sheet 29 = .ok (.aload_n 0, 1) := by decide +kernel
theorem dX8_sheet_30 : decode cX8_sheet 30 = .ok (.getfield 43, 3) := by decide +kernel
theorem dX8_sheet_33 : decode cX8_sheet 33 = .ok (.iload_n 1, 1) := by decide +kernel
theorem dX8_sheet_34 : decode cX8_sheet 34 = .ok (.iload_n 2, 1) := by decide +kernel
theorem dX8_sheet_35 : decode cX8_sheet 35 = .ok (.iastore, 1) := by decide +kernel
theorem dX8_sheet_36 : decode cX8_sheet 36 = .ok (.aload_n 0, 1) := by decide +kernel
theorem dX8_sheet_37 : decode cX8_sheet 37 = .ok (.getfield 46, 3) := by decide +kernel
theorem dX8_sheet_40 : decode cX8_sheet 40 = .ok (.iload_n 1, 1) := by decide +kernel
theorem dX8_sheet_41 : decode cX8_sheet 41 = .ok (.iload_n 3, 1) := by decide +kernel
theorem dX8_sheet_42 : decode cX8_sheet 42 = .ok (.iastore, 1) := by decide +kernel
theorem dX8_sheet_43 : decode cX8_sheet 43 = .ok (.iconst 0, 1) := by decide +kernel
theorem dX8_sheet_44 : decode cX8_sheet 44 = .ok (.istore 4, 2) := by decide +kernel
theorem dX8_sheet_46 : decode cX8_sheet 46 = .ok (.iload 4, 2) := by decide +kernel
theorem dX8_sheet_48 : decode cX8_sheet 48 = .ok (.bipush 16, 2) := by decide +kernel
theorem dX8_sheet_50 : decode cX8_sheet 50 = .ok (.if_icmp .ge 22, 3) := by decide +kernel
theorem dX8_sheet_53 : decode cX8_sheet 53 = .ok (.aload_n 0, 1) := by decide +kernel
theorem dX8_sheet_54 : decode cX8_sheet 54 = .ok (.getfield 49, 3) := by decide +kernel
theorem dX8_sheet_57 : decode cX8_sheet 57 = .ok (.bipush 16, 2) := by decide +kernel
theorem dX8_sheet_59 : decode cX8_sheet 59 = .ok (.iload_n 1, 1) := by decide +kernel
theorem dX8_sheet_60 : decode cX8_sheet 60 = .ok (.imul, 1) := by decide +kernel
theorem dX8_sheet_61 : decode cX8_sheet 61 = .ok (.iload 4, 2) := by decide +kernel
theorem dX8_sheet_63 : decode cX8_sheet 63 = .ok (.iadd, 1) := by decide +kernel
theorem dX8_sheet_64 : decode cX8_sheet 64 = .ok (.lconst 0, 1) := by decide +kernel
theorem dX8_sheet_65 : decode cX8_sheet 65 = .ok (.lastore, 1) := by decide +kernel
theorem dX8_sheet_66 : decode cX8_sheet 66 = .ok (.iinc 4 1, 3) := by decide +kernel
theorem dX8_sheet_69 : decode cX8_sheet 69 = .ok (.goto (-23), 3) := by decide +kernel
theorem dX8_sheet_72 : decode cX8_sheet 72 = .ok (.iload_n 3, 1) := by decide +kernel
theorem dX8_sheet_73 : decode cX8_sheet 73 = .ok (.ireturn, 1) := by decide +kernel
theorem dX8_drop_0 : decode cX8_drop 0 = .ok (.iload_n 1, 1) := by decide +kernel
theorem dX8_drop_1 : decode cX8_drop 1 = .ok (.invokestatic 227, 3) := by decide +kernel
theorem dX8_drop_4 : decode cX8_drop 4 = .ok (.ifCond .ne 5, 3) := by decide +kernel
theorem dX8_drop_7 : decode cX8_drop 7 = .ok (.iconst (-1), 1) := by decide +kernel
theorem dX8_drop_8 : decode cX8_drop 8 = .ok (.ireturn, 1) := by decide +kernel
theorem dX8_drop_9 : decode cX8_drop 9 = .ok (.aload_n 0, 1) := by decide +kernel
theorem dX8_drop_10 : decode cX8_drop 10 = .ok (.getfield 43, 3) := by decide +kernel
theorem dX8_drop_13 : decode cX8_drop 13 = .ok (.iload_n 1, 1) := by decide +kernel
theorem dX8_drop_14 : decode cX8_drop 14 = .ok (.iaload, 1) := by decide +kernel
theorem dX8_drop_15 : decode cX8_drop 15 = .ok (.ifCond .ge 6, 3) := by decide +kernel
theorem dX8_drop_18 : decode cX8_drop 18 = .ok (.bipush (-11), 2) := by decide +kernel
theorem dX8_drop_20 : decode cX8_drop 20 = .ok (.ireturn, 1) := by decide +kernel
theorem dX8_drop_21 : decode cX8_drop 21 = .ok (.aload_n 0, 1) := by decide +kernel
theorem dX8_drop_22 : decode cX8_drop 22 = .ok (.getfield 43, 3) := by decide +kernel
theorem dX8_drop_25 : decode cX8_drop 25 = .ok (.iload_n 1, 1) := by decide +kernel
theorem dX8_drop_26 : decode cX8_drop 26 = .ok (.iconst (-1), 1) := by decide +kernel
theorem dX8_drop_27 : decode cX8_drop 27 = .ok (.iastore, 1) := by decide +kernel
theorem dX8_drop_28 : decode cX8_drop 28 = .ok (.aload_n 0, 1) := by decide +kernel
theorem dX8_drop_29 : decode cX8_drop 29 = .ok (.getfield 46, 3) := by decide +kernel
theorem dX8_drop_32 : decode cX8_drop 32 = .ok (.iload_n 1, 1) := by decide +kernel
theorem dX8_drop_33 : decode cX8_drop 33 = .ok (.iaload, 1) := by decide +kernel
theorem dX8_drop_34 : decode cX8_drop 34 = .ok (.ireturn, 1) := by decide +kernel
theorem dX8_item_0 : decode cX8_item 0 = .ok (.iload_n 1, 1) := by decide +kernel
theorem dX8_item_1 : decode cX8_item 1 = .ok (.invokestatic 227, 3) := by decide +kernel
theorem dX8_item_4 : decode cX8_item 4 = .ok (.ifCond .eq 10, 3) := by decide +kernel
theorem dX8_item_7 : decode cX8_item 7 = .ok (.iload_n 2, 1) := by decide +kernel
theorem dX8_item_8 : decode cX8_item 8 = .ok (.invokestatic 230, 3) := by decide +kernel
theorem dX8_item_11 : decode cX8_item 11 = .ok (.ifCond .ne 5, 3) := by decide +kernel
theorem dX8_item_14 : decode cX8_item 14 = .ok (.iconst (-1), 1) := by decide +kernel
theorem dX8_item_15 : decode cX8_item 15 = .ok (.ireturn, 1) := by decide +kernel
theorem dX8_item_16 : decode cX8_item 16 = .ok (.aload_n 0, 1) := by decide +kernel
theorem dX8_item_17 : decode cX8_item 17 = .ok (.iload_n 1, 1) := by decide +kernel
theorem dX8_item_18 : decode cX8_item 18 = .ok (.iload_n 2, 1) := by decide +kernel
theorem dX8_item_19 : decode cX8_item 19 = .ok (.iload_n 3, 1) := by decide +kernel
theorem dX8_item_20 : decode cX8_item 20 = .ok (.iconst 1, 1) := by decide +kernel
theorem dX8_item_21 : decode cX8_item 21 = .ok (.invokevirtual 235, 3) := by decide +kernel
theorem dX8_item_24 : decode cX8_item 24 = .ok (.istore 6, 2) := by decide +kernel
theorem dX8_item_26 : decode cX8_item 26 = .ok (.iload 6, 2) := by decide +kernel
theorem dX8_item_28 : decode cX8_item 28 = .ok (.ifCond .ge 6, 3) := by decide +kernel
theorem dX8_item_31 : decode cX8_item 31 = .ok (.iload 6, 2) := by decide +kernel
theorem dX8_item_33 : decode cX8_item 33 = .ok (.ireturn, 1) := by decide +kernel
theorem dX8_item_34 : decode cX8_item 34 = .ok (.aload_n 0, 1) := by decide +kernel
theorem dX8_item_35 : decode cX8_item 35 = .ok (.iload_n 1, 1) := by decide +kernel
theorem dX8_item_36 : decode cX8_item 36 = .ok (.iload_n 3, 1) := by decide +kernel
theorem dX8_item_37 : decode cX8_item 37 = .ok (.lload 4, 2) := by decide +kernel
theorem dX8_item_39 : decode cX8_item 39 = .ok (.invokevirtual 239, 3) := by decide +kernel
theorem dX8_item_42 : decode cX8_item 42 = .ok (.iconst 1, 1) := by decide +kernel
theorem dX8_item_43 : decode cX8_item 43 = .ok (.ireturn, 1) := by decide +kernel
theorem dX8_copy_0 : decode cX8_copy 0 = .ok (.iload_n 1, 1) := by decide +kernel
theorem dX8_copy_1 : decode cX8_copy 1 = .ok (.invokestatic 227, 3) := by decide +kernel
theorem dX8_copy_4 : decode cX8_copy 4 = .ok (.ifCond .eq 10, 3) := by decide +kernel
theorem dX8_copy_7 : decode cX8_copy 7 = .ok (.iload_n 3, 1) := by decide +kernel
theorem dX8_copy_8 : decode cX8_copy 8 = .ok (.invokestatic 227, 3) := by decide +kernel
theorem dX8_copy_11 : decode cX8_copy 11 = .ok (.ifCond .ne 5, 3) := by decide +kernel
theorem dX8_copy_14 : decode cX8_copy 14 = .ok (.iconst (-1), 1) := by decide +kernel
theorem dX8_copy_15 : decode cX8_copy 15 = .ok (.ireturn, 1) := by decide +kernel
theorem dX8_copy_16 : decode cX8_copy 16 = .ok (.aload_n 0, 1) := by decide +kernel
theorem dX8_copy_17 : decode cX8_copy 17 = .ok (.getfield 43, 3) := by decide +kernel
theorem dX8_copy_20 : decode cX8_copy 20 = .ok (.iload_n 1, 1) := by decide +kernel
theorem dX8_copy_21 : decode cX8_copy 21 = .ok (.iaload, 1) := by decide +kernel
theorem dX8_copy_22 : decode cX8_copy 22 = .ok (.ifCond .lt 12, 3) := by decide +kernel
theorem dX8_copy_25 : decode cX8_copy 25 = .ok (.aload_n 0, 1) := by decide +kernel
theorem dX8_copy_26 : decode cX8_copy 26 = .ok (.getfield 43, 3) := by decide +kernel
theorem dX8_copy_29 : decode cX8_copy 29 = .ok (.iload_n 3, 1) := by decide +kernel
theorem dX8_copy_30 : decode cX8_copy 30 = .ok (.iaload, 1) := by decide +kernel
theorem dX8_copy_31 : decode cX8_copy 31 = .ok (.ifCond .ge 6, 3) := by decide +kernel
theorem dX8_copy_34 : decode cX8_copy 34 = .ok (.bipush (-11), 2) := by decide +kernel
theorem dX8_copy_36 : decode cX8_copy 36 = .ok (.ireturn, 1) := by decide +kernel
theorem dX8_copy_37 : decode cX8_copy 37 = .ok (.aload_n 0, 1) := by decide +kernel
theorem dX8_copy_38 : decode cX8_copy 38 = .ok (.getfield 43, 3) := by decide +kernel
theorem dX8_copy_41 : decode cX8_copy 41 = .ok (.iload_n 1, 1) := by decide +kernel
theorem dX8_copy_42 : decode cX8_copy 42 = .ok (.iaload, 1) := by decide +kernel
theorem dX8_copy_43 : decode cX8_copy 43 = .ok (.aload_n 0, 1) := by decide +kernel
theorem dX8_copy_44 : decode cX8_copy 44 = .ok (.getfield 43, 3) := by decide +kernel
theorem dX8_copy_47 : decode cX8_copy 47 = .ok (.iload_n 3, 1) := by decide +kernel
theorem dX8_copy_48 : decode cX8_copy 48 = .ok (.iaload, 1) := by decide +kernel
theorem dX8_copy_49 : decode cX8_copy 49 = .ok (.if_icmp .eq 6, 3) := by decide +kernel
theorem dX8_copy_52 : decode cX8_copy 52 = .ok (.bipush (-12), 2) := by decide +kernel
theorem dX8_copy_54 : decode cX8_copy 54 = .ok (.ireturn, 1) := by decide +kernel
theorem dX8_copy_55 : decode cX8_copy 55 = .ok (.iload 5, 2) := by decide +kernel
theorem dX8_copy_57 : decode cX8_copy 57 = .ok (.ifCond .lt 38, 3) := by decide +kernel
theorem dX8_copy_60 : decode cX8_copy 60 = .ok (.aload_n 0, 1) := by decide +kernel
theorem dX8_copy_61 : decode cX8_copy 61 = .ok (.iload_n 1, 1) := by decide +kernel
theorem dX8_copy_62 : decode cX8_copy 62 = .ok (.aload_n 0, 1) := by decide +kernel
theorem dX8_copy_63 : decode cX8_copy 63 = .ok (.getfield 43, 3) := by decide +kernel
theorem dX8_copy_66 : decode cX8_copy 66 = .ok (.iload_n 1, 1) := by decide +kernel
theorem dX8_copy_67 : decode cX8_copy 67 = .ok (.iaload, 1) := by decide +kernel
theorem dX8_copy_68 : decode cX8_copy 68 = .ok (.iload_n 2, 1) := by decide +kernel
theorem dX8_copy_69 : decode cX8_copy 69 = .ok (.iload 5, 2) := by decide +kernel
theorem dX8_copy_71 : decode cX8_copy 71 = .ok (.invokevirtual 235, 3) := by decide +kernel
theorem dX8_copy_74 : decode cX8_copy 74 = .ok (.ifCond .lt 21, 3) := by decide +kernel
theorem dX8_copy_77 : decode cX8_copy 77 = .ok (.aload_n 0, 1) := by decide +kernel
theorem dX8_copy_78 : decode cX8_copy 78 = .ok (.iload_n 3, 1) := by decide +kernel
theorem dX8_copy_79 : decode cX8_copy 79 = .ok (.aload_n 0, 1) := by decide +kernel
theorem dX8_copy_80 : decode cX8_copy 80 = .ok (.getfield 43, 3) := by decide +kernel
theorem dX8_copy_83 : decode cX8_copy 83 = .ok (.iload_n 3, 1) := by decide +kernel
theorem dX8_copy_84 : decode cX8_copy 84 = .ok (.iaload, 1) := by decide +kernel
theorem dX8_copy_85 : decode cX8_copy 85 = .ok (.iload 4, 2) := by decide +kernel
theorem dX8_copy_87 : decode cX8_copy 87 = .ok (.iload 5, 2) := by decide +kernel
theorem dX8_copy_89 : decode cX8_copy 89 = .ok (.invokevirtual 235, 3) := by decide +kernel
theorem dX8_copy_92 : decode cX8_copy 92 = .ok (.ifCond .ge 6, 3) := by decide +kernel
theorem dX8_copy_95 : decode cX8_copy 95 = .ok (.bipush (-13), 2) := by decide +kernel
theorem dX8_copy_97 : decode cX8_copy 97 = .ok (.ireturn, 1) := by decide +kernel
theorem dX8_copy_98 : decode cX8_copy 98 = .ok (.iconst 0, 1) := by decide +kernel
theorem dX8_copy_99 : decode cX8_copy 99 = .ok (.istore 6, 2) := by decide +kernel
theorem dX8_copy_101 : decode cX8_copy 101 = .ok (.iload 6, 2) := by decide +kernel
theorem dX8_copy_103 : decode cX8_copy 103 = .ok (.iload 5, 2) := by decide +kernel
theorem dX8_copy_105 : decode cX8_copy 105 = .ok (.if_icmp .ge 30, 3) := by decide +kernel
theorem dX8_copy_108 : decode cX8_copy 108 = .ok (.aload_n 0, 1) := by decide +kernel
theorem dX8_copy_109 : decode cX8_copy 109 = .ok (.getfield 53, 3) := by decide +kernel
theorem dX8_copy_112 : decode cX8_copy 112 = .ok (.iload 6, 2) := by decide +kernel
theorem dX8_copy_114 : decode cX8_copy 114 = .ok (.aload_n 0, 1) := by decide +kernel
theorem dX8_copy_115 : decode cX8_copy 115 = .ok (.getfield 49, 3) := by decide +kernel
theorem dX8_copy_118 : decode cX8_copy 118 = .ok (.bipush 16, 2) := by decide +kernel
theorem dX8_copy_120 : decode cX8_copy 120 = .ok (.iload_n 1, 1) := by decide +kernel
theorem dX8_copy_121 : decode cX8_copy 121 = .ok (.imul, 1) := by decide +kernel
theorem dX8_copy_122 : decode cX8_copy 122 = .ok (.iload_n 2, 1) := by decide +kernel
theorem dX8_copy_123 : decode cX8_copy 123 = .ok (.iadd, 1) := by decide +kernel
theorem dX8_copy_124 : decode cX8_copy 124 = .ok (.iload 6, 2) := by decide +kernel
theorem dX8_copy_126 : decode cX8_copy 126 = .ok (.iadd, 1) := by decide +kernel
theorem dX8_copy_127 : decode cX8_copy 127 = .ok (.laload, 1) := by decide +kernel
theorem dX8_copy_128 : decode cX8_copy 128 = .ok (.lastore, 1) := by decide +kernel
theorem dX8_copy_129 : decode cX8_copy 129 = .ok (.iinc 6 1, 3) := by decide +kernel
theorem dX8_copy_132 : decode cX8_copy 132 = .ok (.goto (-31), 3) := by decide +kernel
theorem dX8_copy_135 : decode cX8_copy 135 = .ok (.iconst 0, 1) := by decide +kernel
theorem dX8_copy_136 : decode cX8_copy 136 = .ok (.istore 6, 2) := by decide +kernel
theorem dX8_copy_138 : decode cX8_copy 138 = .ok (.iload 6, 2) := by decide +kernel
theorem dX8_copy_140 : decode cX8_copy 140 = .ok (.iload 5, 2) := by decide +kernel
theorem dX8_copy_142 : decode cX8_copy 142 = .ok (.if_icmp .ge 31, 3) := by decide +kernel
theorem dX8_copy_145 : decode cX8_copy 145 = .ok (.aload_n 0, 1) := by decide +kernel
theorem dX8_copy_146 : decode cX8_copy 146 = .ok (.getfield 49, 3) := by decide +kernel
theorem dX8_copy_149 : decode cX8_copy 149 = .ok (.bipush 16, 2) := by decide +kernel
theorem dX8_copy_151 : decode cX8_copy 151 = .ok (.iload_n 3, 1) := by decide +kernel
theorem dX8_copy_152 : decode cX8_copy 152 = .ok (.imul, 1) := by decide +kernel
theorem dX8_copy_153 : decode cX8_copy 153 = .ok (.iload 4, 2) := by decide +kernel
theorem dX8_copy_155 : decode cX8_copy 155 = .ok (.iadd, 1) := by decide +kernel
theorem dX8_copy_156 : decode cX8_copy 156 = .ok (.iload 6, 2) := by decide +kernel
theorem dX8_copy_158 : decode cX8_copy 158 = .ok (.iadd, 1) := by decide +kernel
theorem dX8_copy_159 : decode cX8_copy 159 = .ok (.aload_n 0, 1) := by decide +kernel
theorem dX8_copy_160 : decode cX8_copy 160 = .ok (.getfield 53, 3) := by decide +kernel
theorem dX8_copy_163 : decode cX8_copy 163 = .ok (.iload 6, 2) := by decide +kernel
theorem dX8_copy_165 : decode cX8_copy 165 = .ok (.laload, 1) := by decide +kernel
theorem dX8_copy_166 : decode cX8_copy 166 = .ok (.lastore, 1) := by decide +kernel
theorem dX8_copy_167 : decode cX8_copy 167 = .ok (.iinc 6 1, 3) := by decide +kernel
theorem dX8_copy_170 : decode cX8_copy 170 = .ok (.goto (-32), 3) := by decide +kernel
theorem dX8_copy_173 : decode cX8_copy 173 = .ok (.iload 5, 2) := by decide +kernel
theorem dX8_copy_175 : decode cX8_copy 175 = .ok (.ireturn, 1) := by decide +kernel
end
section
theorem dL_law_0 : decode cL_law 0 = .ok (.new 7, 3) := by decide +kernel
theorem dL_law_3 : decode cL_law 3 = .ok (.dup, 1) := by decide +kernel
theorem dL_law_4 : decode cL_law 4 = .ok (.invokespecial 9, 3) := by decide +kernel
theorem dL_law_7 : decode cL_law 7 = .ok (.astore_n 1, 1) := by decide +kernel
theorem dL_law_8 : decode cL_law 8 = .ok (.new 10, 3) := by decide +kernel
theorem dL_law_11 : decode cL_law 11 = .ok (.dup, 1) := by decide +kernel
theorem dL_law_12 : decode cL_law 12 = .ok (.invokespecial 12, 3) := by decide +kernel
theorem dL_law_15 : decode cL_law 15 = .ok (.astore_n 2, 1) := by decide +kernel
theorem dL_law_16 : decode cL_law 16 = .ok (.iconst 0, 1) := by decide +kernel
theorem dL_law_17 : decode cL_law 17 = .ok (.istore_n 3, 1) := by decide +kernel
theorem dL_law_18 : decode cL_law 18 = .ok (.iload_n 3, 1) := by decide +kernel
theorem dL_law_19 : decode cL_law 19 = .ok (.aload_n 0, 1) := by decide +kernel
theorem dL_law_20 : decode cL_law 20 = .ok (.arraylength, 1) := by decide +kernel
theorem dL_law_21 : decode cL_law 21 = .ok (.bipush 6, 2) := by decide +kernel
theorem dL_law_23 : decode cL_law 23 = .ok (.isub, 1) := by decide +kernel
theorem dL_law_24 : decode cL_law 24 = .ok (.if_icmp .gt 1218, 3) := by decide +kernel
theorem dL_law_27 : decode cL_law 27 = .ok (.aload_n 0, 1) := by decide +kernel
theorem dL_law_28 : decode cL_law 28 = .ok (.iload_n 3, 1) := by decide +kernel
theorem dL_law_29 : decode cL_law 29 = .ok (.iaload, 1) := by decide +kernel
theorem dL_law_30 : decode cL_law 30 = .ok (.bipush 63, 2) := by decide +kernel
theorem dL_law_32 : decode cL_law 32 = .ok (.iand, 1) := by decide +kernel
theorem dL_law_33 : decode cL_law 33 = .ok (.tableswitch 1203 0 33 #[151, 204, 237, 280, 323, 356, 389, 412, 435, 458, 481, 504, 517, 530, 543, 556, 579, 602, 615, 648, 681, 714, 747, 770, 793, 826, 839, 852, 905, 948, 991, 1034, 1057, 1140], 151) := by decide +kernel
theorem dL_law_184 : decode cL_law 184 = .ok (.aload_n 1, 1) := by decide +kernel
theorem dL_law_185 : decode cL_law 185 = .ok (.aload_n 0, 1) := by decide +kernel
theorem dL_law_186 : decode cL_law 186 = .ok (.iload_n 3, 1) := by decide +kernel
theorem dL_law_187 : decode cL_law 187 = .ok (.iconst 1, 1) := by decide +kernel
theorem dL_law_188 : decode cL_law 188 = .ok (.iadd, 1) := by decide +kernel
theorem dL_law_189 : decode cL_law 189 = .ok (.iaload, 1) := by decide +kernel
theorem dL_law_190 : decode cL_law 190 = .ok (.aload_n 0, 1) := by decide +kernel
theorem dL_law_191 : decode cL_law 191 = .ok (.iload_n 3, 1) := by decide +kernel
theorem dL_law_192 : decode cL_law 192 = .ok (.iconst 2, 1) := by decide +kernel
theorem dL_law_193 : decode cL_law 193 = .ok (.iadd, 1) := by decide +kernel
theorem dL_law_194 : decode cL_law 194 = .ok (.iaload, 1) := by decide +kernel
theorem dL_law_195 : decode cL_law 195 = .ok (.aload_n 0, 1) := by decide +kernel
theorem dL_law_196 : decode cL_law 196 = .ok (.iload_n 3, 1) := by decide +kernel
theorem dL_law_197 : decode cL_law 197 = .ok (.iconst 3, 1) := by decide +kernel
theorem dL_law_198 : decode cL_law 198 = .ok (.iadd, 1) := by decide +kernel
theorem dL_law_199 : decode cL_law 199 = .ok (.iaload, 1) := by decide +kernel
theorem dL_law_200 : decode cL_law 200 = .ok (.aload_n 0, 1) := by decide +kernel
theorem dL_law_201 : decode cL_law 201 = .ok (.iload_n 3, 1) := by decide +kernel
theorem dL_law_202 : decode cL_law 202 = .ok (.iconst 4, 1) := by decide +kernel
theorem dL_law_203 : decode cL_law 203 = .ok (.iadd, 1) := by decide +kernel
theorem dL_law_204 : decode cL_law 204 = .ok (.iaload, 1) := by decide +kernel
theorem dL_law_205 : decode cL_law 205 = .ok (.invokevirtual 13, 3) := by decide +kernel
theorem dL_law_208 : decode cL_law 208 = .ok (.aload_n 2, 1) := by decide +kernel
theorem dL_law_209 : decode cL_law 209 = .ok (.aload_n 0, 1) := by decide +kernel
theorem dL_law_210 : decode cL_law 210 = .ok (.iload_n 3, 1) := by decide +kernel
theorem dL_law_211 : decode cL_law 211 = .ok (.iconst 1, 1) := by decide +kernel
theorem dL_law_212 : decode cL_law 212 = .ok (.iadd, 1) := by decide +kernel
theorem dL_law_213 : decode cL_law 213 = .ok (.iaload, 1) := by decide +kernel
theorem dL_law_214 : decode cL_law 214 = .ok (.aload_n 0, 1) := by decide +kernel
theorem dL_law_215 : decode cL_law 215 = .ok (.iload_n 3, 1) := by decide +kernel
theorem dL_law_216 : decode cL_law 216 = .ok (.iconst 2, 1) := by decide +kernel
theorem dL_law_217 : decode cL_law 217 = .ok (.iadd, 1) := by decide +kernel
theorem dL_law_218 : decode cL_law 218 = .ok (.iaload, 1) := by decide +kernel
theorem dL_law_219 : decode cL_law 219 = .ok (.aload_n 0, 1) := by decide +kernel
theorem dL_law_220 : decode cL_law 220 = .ok (.iload_n 3, 1) := by decide +kernel
theorem dL_law_221 : decode cL_law 221 = .ok (.iconst 3, 1) := by decide +kernel
theorem dL_law_222 : decode cL_law 222 = .ok (.iadd, 1) := by decide +kernel
theorem dL_law_223 : decode cL_law 223 = .ok (.iaload, 1) := by decide +kernel
theorem dL_law_224 : decode cL_law 224 = .ok (.aload_n 0, 1) := by decide +kernel
theorem dL_law_225 : decode cL_law 225 = .ok (.iload_n 3, 1) := by decide +kernel
theorem dL_law_226 : decode cL_law 226 = .ok (.iconst 4, 1) := by decide +kernel
theorem dL_law_227 : decode cL_law 227 = .ok (.iadd, 1) := by decide +kernel
theorem dL_law_228 : decode cL_law 228 = .ok (.iaload, 1) := by decide +kernel
theorem dL_law_229 : decode cL_law 229 = .ok (.invokevirtual 17, 3) := by decide +kernel
theorem dL_law_232 : decode cL_law 232 = .ok (.if_icmp .eq 1004, 3) := by decide +kernel
theorem dL_law_235 : decode cL_law 235 = .ok (.iconst 0, 1) := by decide +kernel
theorem dL_law_236 : decode cL_law 236 = .ok (.ireturn, 1) := by decide +kernel
theorem dL_law_237 : decode cL_law 237 = .ok (.aload_n 1, 1) := by decide +kernel
theorem dL_law_238 : decode cL_law 238 = .ok (.aload_n 0, 1) := by decide +kernel
theorem dL_law_239 : decode cL_law 239 = .ok (.iload_n 3, 1) := by decide +kernel
theorem dL_law_240 : decode cL_law 240 = .ok (.iconst 1, 1) := by decide +kernel
theorem dL_law_241 : decode cL_law 241 = .ok (.iadd, 1) := by decide +kernel
theorem dL_law_242 : decode cL_law 242 = .ok (.iaload, 1) := by decide +kernel
theorem dL_law_243 : decode cL_law 243 = .ok (.aload_n 0, 1) := by decide +kernel
theorem dL_law_244 : decode cL_law 244 = .ok (.iload_n 3, 1) := by decide +kernel
theorem dL_law_245 : decode cL_law 245 = .ok (.iconst 2, 1) := by decide +kernel
theorem dL_law_246 : decode cL_law 246 = .ok (.iadd, 1) := by decide +kernel
theorem dL_law_247 : decode cL_law 247 = .ok (.iaload, 1) := by decide +kernel
theorem dL_law_248 : decode cL_law 248 = .ok (.invokevirtual 18, 3) := by decide +kernel
theorem dL_law_251 : decode cL_law 251 = .ok (.aload_n 2, 1) := by decide +kernel
theorem dL_law_252 : decode cL_law 252 = .ok (.aload_n 0, 1) := by decide +kernel
theorem dL_law_253 : decode cL_law 253 = .ok (.iload_n 3, 1) := by decide +kernel
theorem dL_law_254 : decode cL_law 254 = .ok (.iconst 1, 1) := by decide +kernel
theorem dL_law_255 : decode cL_law 255 = .ok (.iadd, 1) := by decide +kernel
theorem dL_law_256 : decode cL_law 256 = .ok (.iaload, 1) := by decide +kernel
theorem dL_law_257 : decode cL_law 257 = .ok (.aload_n 0, 1) := by decide +kernel
theorem dL_law_258 : decode cL_law 258 = .ok (.iload_n 3, 1) := by decide +kernel
theorem dL_law_259 : decode cL_law 259 = .ok (.iconst 2, 1) := by decide +kernel
theorem dL_law_260 : decode cL_law 260 = .ok (.iadd, 1) := by decide +kernel
theorem dL_law_261 : decode cL_law 261 = .ok (.iaload, 1) := by decide +kernel
theorem dL_law_262 : decode cL_law 262 = .ok (.invokevirtual 22, 3) := by decide +kernel
theorem dL_law_265 : decode cL_law 265 = .ok (.if_icmp .eq 971, 3) := by decide +kernel
theorem dL_law_268 : decode cL_law 268 = .ok (.iconst 0, 1) := by decide +kernel
theorem dL_law_269 : decode cL_law 269 = .ok (.ireturn, 1) := by decide +kernel
theorem dL_law_270 : decode cL_law 270 = .ok (.aload_n 1, 1) := by decide +kernel
theorem dL_law_271 : decode cL_law 271 = .ok (.aload_n 0, 1) := by decide +kernel
theorem dL_law_272 : decode cL_law 272 = .ok (.iload_n 3, 1) := by decide +kernel
theorem dL_law_273 : decode cL_law 273 = .ok (.iconst 1, 1) := by decide +kernel
theorem dL_law_274 : decode cL_law 274 = .ok (.iadd, 1) := by decide +kernel
theorem dL_law_275 : decode cL_law 275 = .ok (.iaload, 1) := by decide +kernel
theorem dL_law_276 : decode cL_law 276 = .ok (.aload_n 0, 1) := by decide +kernel
theorem dL_law_277 : decode cL_law 277 = .ok (.iload_n 3, 1) := by decide +kernel
theorem dL_law_278 : decode cL_law 278 = .ok (.iconst 2, 1) := by decide +kernel
theorem dL_law_279 : decode cL_law 279 = .ok (.iadd, 1) := by decide +kernel
theorem dL_law_280 : decode cL_law 280 = .ok (.iaload, 1) := by decide +kernel
theorem dL_law_281 : decode cL_law 281 = .ok (.aload_n 0, 1) := by decide +kernel
theorem dL_law_282 : decode cL_law 282 = .ok (.iload_n 3, 1) := by decide +kernel
theorem dL_law_283 : decode cL_law 283 = .ok (.iconst 3, 1) := by decide +kernel
theorem dL_law_284 : decode cL_law 284 = .ok (.iadd, 1) := by decide +kernel
theorem dL_law_285 : decode cL_law 285 = .ok (.iaload, 1) := by decide +kernel
theorem dL_law_286 : decode cL_law 286 = .ok (.invokevirtual 23, 3) := by decide +kernel
theorem dL_law_289 : decode cL_law 289 = .ok (.aload_n 2, 1) := by decide +kernel
theorem dL_law_290 : decode cL_law 290 = .ok (.aload_n 0, 1) := by decide +kernel
theorem dL_law_291 : decode cL_law 291 = .ok (.iload_n 3, 1) := by decide +kernel
theorem dL_law_292 : decode cL_law 292 = .ok (.iconst 1, 1) := by decide +kernel
theorem dL_law_293 : decode cL_law 293 = .ok (.iadd, 1) := by decide +kernel
theorem dL_law_294 : decode cL_law 294 = .ok (.iaload, 1) := by decide +kernel
theorem dL_law_295 : decode cL_law 295 = .ok (.aload_n 0, 1) := by decide +kernel
theorem dL_law_296 : decode cL_law 296 = .ok (.iload_n 3, 1) := by decide +kernel
theorem dL_law_297 : decode cL_law 297 = .ok (.iconst 2, 1) := by decide +kernel
theorem dL_law_298 : decode cL_law 298 = .ok (.iadd, 1) := by decide +kernel
theorem dL_law_299 : decode cL_law 299 = .ok (.iaload, 1) := by decide +kernel
theorem dL_law_300 : decode cL_law 300 = .ok (.aload_n 0, 1) := by decide +kernel
theorem dL_law_301 : decode cL_law 301 = .ok (.iload_n 3, 1) := by decide +kernel
theorem dL_law_302 : decode cL_law 302 = .ok (.iconst 3, 1) := by decide +kernel
theorem dL_law_303 : decode cL_law 303 = .ok (.iadd, 1) := by decide +kernel
theorem dL_law_304 : decode cL_law 304 = .ok (.iaload, 1) := by decide +kernel
theorem dL_law_305 : decode cL_law 305 = .ok (.invokevirtual 27, 3) := by decide +kernel
theorem dL_law_308 : decode cL_law 308 = .ok (.if_icmp .eq 928, 3) := by decide +kernel
theorem dL_law_311 : decode cL_law 311 = .ok (.iconst 0, 1) := by decide +kernel
theorem dL_law_312 : decode cL_law 312 = .ok (.ireturn, 1) := by decide +kernel
theorem dL_law_313 : decode cL_law 313 = .ok (.aload_n 1, 1) := by decide +kernel
theorem dL_law_314 : decode cL_law 314 = .ok (.aload_n 0, 1) := by decide +kernel
theorem dL_law_315 : decode cL_law 315 = .ok (.iload_n 3, 1) := by decide +kernel
theorem dL_law_316 : decode cL_law 316 = .ok (.iconst 1, 1) := by decide +kernel
theorem dL_law_317 : decode cL_law 317 = .ok (.iadd, 1) := by decide +kernel
theorem dL_law_318 : decode cL_law 318 = .ok (.iaload, 1) := by decide +kernel
theorem dL_law_319 : decode cL_law 319 = .ok (.aload_n 0, 1) := by decide +kernel
theorem dL_law_320 : decode cL_law 320 = .ok (.iload_n 3, 1) := by decide +kernel
theorem dL_law_321 : decode cL_law 321 = .ok (.iconst 2, 1) := by decide +kernel
theorem dL_law_322 : decode cL_law 322 = .ok (.iadd, 1) := by decide +kernel
theorem dL_law_323 : decode cL_law 323 = .ok (.iaload, 1) := by decide +kernel
theorem dL_law_324 : decode cL_law 324 = .ok (.aload_n 0, 1) := by decide +kernel
theorem dL_law_325 : decode cL_law 325 = .ok (.iload_n 3, 1) := by decide +kernel
theorem dL_law_326 : decode cL_law 326 = .ok (.iconst 3, 1) := by decide +kernel
theorem dL_law_327 : decode cL_law 327 = .ok (.iadd, 1) := by decide +kernel
theorem dL_law_328 : decode cL_law 328 = .ok (.iaload, 1) := by decide +kernel
theorem dL_law_329 : decode cL_law 329 = .ok (.invokevirtual 28, 3) := by decide +kernel
theorem dL_law_332 : decode cL_law 332 = .ok (.aload_n 2, 1) := by decide +kernel
theorem dL_law_333 : decode cL_law 333 = .ok (.aload_n 0, 1) := by decide +kernel
theorem dL_law_334 : decode cL_law 334 = .ok (.iload_n 3, 1) := by decide +kernel
theorem dL_law_335 : decode cL_law 335 = .ok (.iconst 1, 1) := by decide +kernel
theorem dL_law_336 : decode cL_law 336 = .ok (.iadd, 1) := by decide +kernel
theorem dL_law_337 : decode cL_law 337 = .ok (.iaload, 1) := by decide +kernel
theorem dL_law_338 : decode cL_law 338 = .ok (.aload_n 0, 1) := by decide +kernel
theorem dL_law_339 : decode cL_law 339 = .ok (.iload_n 3, 1) := by decide +kernel
theorem dL_law_340 : decode cL_law 340 = .ok (.iconst 2, 1) := by decide +kernel
theorem dL_law_341 : decode cL_law 341 = .ok (.iadd, 1) := by decide +kernel
theorem dL_law_342 : decode cL_law 342 = .ok (.iaload, 1) := by decide +kernel
theorem dL_law_343 : decode cL_law 343 = .ok (.aload_n 0, 1) := by decide +kernel
theorem dL_law_344 : decode cL_law 344 = .ok (.iload_n 3, 1) := by decide +kernel
theorem dL_law_345 : decode cL_law 345 = .ok (.iconst 3, 1) := by decide +kernel
theorem dL_law_346 : decode cL_law 346 = .ok (.iadd, 1) := by decide +kernel
theorem dL_law_347 : decode cL_law 347 = .ok (.iaload, 1) := by decide +kernel
theorem dL_law_348 : decode cL_law 348 = .ok (.invokevirtual 31, 3) := by decide +kernel
theorem dL_law_351 : decode cL_law 351 = .ok (.if_icmp .eq 885, 3) := by decide +kernel
theorem dL_law_354 : decode cL_law 354 = .ok (.iconst 0, 1) := by decide +kernel
theorem dL_law_355 : decode cL_law 355 = .ok (.ireturn, 1) := by decide +kernel
theorem dL_law_356 : decode cL_law 356 = .ok (.aload_n 1, 1) := by decide +kernel
theorem dL_law_357 : decode cL_law 357 = .ok (.aload_n 0, 1) := by decide +kernel
theorem dL_law_358 : decode cL_law 358 = .ok (.iload_n 3, 1) := by decide +kernel
theorem dL_law_359 : decode cL_law 359 = .ok (.iconst 1, 1) := by decide +kernel
theorem dL_law_360 : decode cL_law 360 = .ok (.iadd, 1) := by decide +kernel
theorem dL_law_361 : decode cL_law 361 = .ok (.iaload, 1) := by decide +kernel
theorem dL_law_362 : decode cL_law 362 = .ok (.aload_n 0, 1) := by decide +kernel
theorem dL_law_363 : decode cL_law 363 = .ok (.iload_n 3, 1) := by decide +kernel
theorem dL_law_364 : decode cL_law 364 = .ok (.iconst 2, 1) := by decide +kernel
theorem dL_law_365 : decode cL_law 365 = .ok (.iadd, 1) := by decide +kernel
theorem dL_law_366 : decode cL_law 366 = .ok (.iaload, 1) := by decide +kernel
theorem dL_law_367 : decode cL_law 367 = .ok (.invokevirtual 32, 3) := by decide +kernel
theorem dL_law_370 : decode cL_law 370 = .ok (.aload_n 2, 1) := by decide +kernel
theorem dL_law_371 : decode cL_law 371 = .ok (.aload_n 0, 1) := by decide +kernel
theorem dL_law_372 : decode cL_law 372 = .ok (.iload_n 3, 1) := by decide +kernel
theorem dL_law_373 : decode cL_law 373 = .ok (.iconst 1, 1) := by decide +kernel
theorem dL_law_374 : decode cL_law 374 = .ok (.iadd, 1) := by decide +kernel
theorem dL_law_375 : decode cL_law 375 = .ok (.iaload, 1) := by decide +kernel
theorem dL_law_376 : decode cL_law 376 = .ok (.aload_n 0, 1) := by decide +kernel
theorem dL_law_377 : decode cL_law 377 = .ok (.iload_n 3, 1) := by decide +kernel
theorem dL_law_378 : decode cL_law 378 = .ok (.iconst 2, 1) := by decide +kernel
theorem dL_law_379 : decode cL_law 379 = .ok (.iadd, 1) := by decide +kernel
theorem dL_law_380 : decode cL_law 380 = .ok (.iaload, 1) := by decide +kernel
theorem dL_law_381 : decode cL_law 381 = .ok (.invokevirtual 35, 3) := by decide +kernel
theorem dL_law_384 : decode cL_law 384 = .ok (.if_icmp .eq 852, 3) := by decide +kernel
theorem dL_law_387 : decode cL_law 387 = .ok (.iconst 0, 1) := by decide +kernel
theorem dL_law_388 : decode cL_law 388 = .ok (.ireturn, 1) := by decide +kernel
theorem dL_law_389 : decode cL_law 389 = .ok (.aload_n 1, 1) := by decide +kernel
theorem dL_law_390 : decode cL_law 390 = .ok (.aload_n 0, 1) := by decide +kernel
theorem dL_law_391 : decode cL_law 391 = .ok (.iload_n 3, 1) := by decide +kernel
theorem dL_law_392 : decode cL_law 392 = .ok (.iconst 1, 1) := by decide +kernel
theorem dL_law_393 : decode cL_law 393 = .ok (.iadd, 1) := by decide +kernel
theorem dL_law_394 : decode cL_law 394 = .ok (.iaload, 1) := by decide +kernel
theorem dL_law_395 : decode cL_law 395 = .ok (.aload_n 0, 1) := by decide +kernel
theorem dL_law_396 : decode cL_law 396 = .ok (.iload_n 3, 1) := by decide +kernel
theorem dL_law_397 : decode cL_law 397 = .ok (.iconst 2, 1) := by decide +kernel
theorem dL_law_398 : decode cL_law 398 = .ok (.iadd, 1) := by decide +kernel
theorem dL_law_399 : decode cL_law 399 = .ok (.iaload, 1) := by decide +kernel
theorem dL_law_400 : decode cL_law 400 = .ok (.invokevirtual 36, 3) := by decide +kernel
theorem dL_law_403 : decode cL_law 403 = .ok (.aload_n 2, 1) := by decide +kernel
theorem dL_law_404 : decode cL_law 404 = .ok (.aload_n 0, 1) := by decide +kernel
theorem dL_law_405 : decode cL_law 405 = .ok (.iload_n 3, 1) := by decide +kernel
theorem dL_law_406 : decode cL_law 406 = .ok (.iconst 1, 1) := by decide +kernel
theorem dL_law_407 : decode cL_law 407 = .ok (.iadd, 1) := by decide +kernel
theorem dL_law_408 : decode cL_law 408 = .ok (.iaload, 1) := by decide +kernel
theorem dL_law_409 : decode cL_law 409 = .ok (.aload_n 0, 1) := by decide +kernel
theorem dL_law_410 : decode cL_law 410 = .ok (.iload_n 3, 1) := by decide +kernel
theorem dL_law_411 : decode cL_law 411 = .ok (.iconst 2, 1) := by decide +kernel
theorem dL_law_412 : decode cL_law 412 = .ok (.iadd, 1) := by decide +kernel
theorem dL_law_413 : decode cL_law 413 = .ok (.iaload, 1) := by decide +kernel
theorem dL_law_414 : decode cL_law 414 = .ok (.invokevirtual 39, 3) := by decide +kernel
theorem dL_law_417 : decode cL_law 417 = .ok (.if_icmp .eq 819, 3) := by decide +kernel
theorem dL_law_420 : decode cL_law 420 = .ok (.iconst 0, 1) := by decide +kernel
theorem dL_law_421 : decode cL_law 421 = .ok (.ireturn, 1) := by decide +kernel
theorem dL_law_422 : decode cL_law 422 = .ok (.aload_n 1, 1) := by decide +kernel
theorem dL_law_423 : decode cL_law 423 = .ok (.aload_n 0, 1) := by decide +kernel
theorem dL_law_424 : decode cL_law 424 = .ok (.iload_n 3, 1) := by decide +kernel
theorem dL_law_425 : decode cL_law 425 = .ok (.iconst 1, 1) := by decide +kernel
theorem dL_law_426 : decode cL_law 426 = .ok (.iadd, 1) := by decide +kernel
theorem dL_law_427 : decode cL_law 427 = .ok (.iaload, 1) := by decide +kernel
theorem dL_law_428 : decode cL_law 428 = .ok (.invokevirtual 40, 3) := by decide +kernel
theorem dL_law_431 : decode cL_law 431 = .ok (.aload_n 2, 1) := by decide +kernel
theorem dL_law_432 : decode cL_law 432 = .ok (.aload_n 0, 1) := by decide +kernel
theorem dL_law_433 : decode cL_law 433 = .ok (.iload_n 3, 1) := by decide +kernel
theorem dL_law_434 : decode cL_law 434 = .ok (.iconst 1, 1) := by decide +kernel
theorem dL_law_435 : decode cL_law 435 = .ok (.iadd, 1) := by decide +kernel
theorem dL_law_436 : decode cL_law 436 = .ok (.iaload, 1) := by decide +kernel
theorem dL_law_437 : decode cL_law 437 = .ok (.invokevirtual 44, 3) := by decide +kernel
theorem dL_law_440 : decode cL_law 440 = .ok (.if_icmp .eq 796, 3) := by decide +kernel
theorem dL_law_443 : decode cL_law 443 = .ok (.iconst 0, 1) := by decide +kernel
theorem dL_law_444 : decode cL_law 444 = .ok (.ireturn, 1) := by decide +kernel
theorem dL_law_445 : decode cL_law 445 = .ok (.aload_n 1, 1) := by decide +kernel
theorem dL_law_446 : decode cL_law 446 = .ok (.aload_n 0, 1) := by decide +kernel
theorem dL_law_447 : decode cL_law 447 = .ok (.iload_n 3, 1) := by decide +kernel
theorem dL_law_448 : decode cL_law 448 = .ok (.iconst 1, 1) := by decide +kernel
theorem dL_law_449 : decode cL_law 449 = .ok (.iadd, 1) := by decide +kernel
theorem dL_law_450 : decode cL_law 450 = .ok (.iaload, 1) := by decide +kernel
theorem dL_law_451 : decode cL_law 451 = .ok (.invokevirtual 45, 3) := by decide +kernel
theorem dL_law_454 : decode cL_law 454 = .ok (.aload_n 2, 1) := by decide +kernel
theorem dL_law_455 : decode cL_law 455 = .ok (.aload_n 0, 1) := by decide +kernel
theorem dL_law_456 : decode cL_law 456 = .ok (.iload_n 3, 1) := by decide +kernel
theorem dL_law_457 : decode cL_law 457 = .ok (.iconst 1, 1) := by decide +kernel
theorem dL_law_458 : decode cL_law 458 = .ok (.iadd, 1) := by decide +kernel
theorem dL_law_459 : decode cL_law 459 = .ok (.iaload, 1) := by decide +kernel
theorem dL_law_460 : decode cL_law 460 = .ok (.invokevirtual 48, 3) := by decide +kernel
theorem dL_law_463 : decode cL_law 463 = .ok (.if_icmp .eq 773, 3) := by decide +kernel
theorem dL_law_466 : decode cL_law 466 = .ok (.iconst 0, 1) := by decide +kernel
theorem dL_law_467 : decode cL_law 467 = .ok (.ireturn, 1) := by decide +kernel
theorem dL_law_468 : decode cL_law 468 = .ok (.aload_n 1, 1) := by decide +kernel
theorem dL_law_469 : decode cL_law 469 = .ok (.aload_n 0, 1) := by decide +kernel
theorem dL_law_470 : decode cL_law 470 = .ok (.iload_n 3, 1) := by decide +kernel
theorem dL_law_471 : decode cL_law 471 = .ok (.iconst 1, 1) := by decide +kernel
theorem dL_law_472 : decode cL_law 472 = .ok (.iadd, 1) := by decide +kernel
theorem dL_law_473 : decode cL_law 473 = .ok (.iaload, 1) := by decide +kernel
theorem dL_law_474 : decode cL_law 474 = .ok (.invokevirtual 49, 3) := by decide +kernel
theorem dL_law_477 : decode cL_law 477 = .ok (.aload_n 2, 1) := by decide +kernel
theorem dL_law_478 : decode cL_law 478 = .ok (.aload_n 0, 1) := by decide +kernel
theorem dL_law_479 : decode cL_law 479 = .ok (.iload_n 3, 1) := by decide +kernel
theorem dL_law_480 : decode cL_law 480 = .ok (.iconst 1, 1) := by decide +kernel
theorem dL_law_481 : decode cL_law 481 = .ok (.iadd, 1) := by decide +kernel
theorem dL_law_482 : decode cL_law 482 = .ok (.iaload, 1) := by decide +kernel
theorem dL_law_483 : decode cL_law 483 = .ok (.invokevirtual 52, 3) := by decide +kernel
theorem dL_law_486 : decode cL_law 486 = .ok (.if_icmp .eq 750, 3) := by decide +kernel
theorem dL_law_489 : decode cL_law 489 = .ok (.iconst 0, 1) := by decide +kernel
theorem dL_law_490 : decode cL_law 490 = .ok (.ireturn, 1) := by decide +kernel
theorem dL_law_491 : decode cL_law 491 = .ok (.aload_n 1, 1) := by decide +kernel
theorem dL_law_492 : decode cL_law 492 = .ok (.aload_n 0, 1) := by decide +kernel
theorem dL_law_493 : decode cL_law 493 = .ok (.iload_n 3, 1) := by decide +kernel
theorem dL_law_494 : decode cL_law 494 = .ok (.iconst 1, 1) := by decide +kernel
theorem dL_law_495 : decode cL_law 495 = .ok (.iadd, 1) := by decide +kernel
theorem dL_law_496 : decode cL_law 496 = .ok (.iaload, 1) := by decide +kernel
theorem dL_law_497 : decode cL_law 497 = .ok (.invokevirtual 53, 3) := by decide +kernel
theorem dL_law_500 : decode cL_law 500 = .ok (.aload_n 2, 1) := by decide +kernel
theorem dL_law_501 : decode cL_law 501 = .ok (.aload_n 0, 1) := by decide +kernel
theorem dL_law_502 : decode cL_law 502 = .ok (.iload_n 3, 1) := by decide +kernel
theorem dL_law_503 : decode cL_law 503 = .ok (.iconst 1, 1) := by decide +kernel
theorem dL_law_504 : decode cL_law 504 = .ok (.iadd, 1) := by decide +kernel
theorem dL_law_505 : decode cL_law 505 = .ok (.iaload, 1) := by decide +kernel
theorem dL_law_506 : decode cL_law 506 = .ok (.invokevirtual 56, 3) := by decide +kernel
theorem dL_law_509 : decode cL_law 509 = .ok (.if_icmp .eq 727, 3) := by decide +kernel
theorem dL_law_512 : decode cL_law 512 = .ok (.iconst 0, 1) := by decide +kernel
theorem dL_law_513 : decode cL_law 513 = .ok (.ireturn, 1) := by decide +kernel
theorem dL_law_514 : decode cL_law 514 = .ok (.aload_n 1, 1) := by decide +kernel
theorem dL_law_515 : decode cL_law 515 = .ok (.aload_n 0, 1) := by decide +kernel
theorem dL_law_516 : decode cL_law 516 = .ok (.iload_n 3, 1) := by decide +kernel
theorem dL_law_517 : decode cL_law 517 = .ok (.iconst 1, 1) := by decide +kernel
theorem dL_law_518 : decode cL_law 518 = .ok (.iadd, 1) := by decide +kernel
theorem dL_law_519 : decode cL_law 519 = .ok (.iaload, 1) := by decide +kernel
theorem dL_law_520 : decode cL_law 520 = .ok (.invokevirtual 57, 3) := by decide +kernel
theorem dL_law_523 : decode cL_law 523 = .ok (.aload_n 2, 1) := by decide +kernel
theorem dL_law_524 : decode cL_law 524 = .ok (.aload_n 0, 1) := by decide +kernel
theorem dL_law_525 : decode cL_law 525 = .ok (.iload_n 3, 1) := by decide +kernel
theorem dL_law_526 : decode cL_law 526 = .ok (.iconst 1, 1) := by decide +kernel
theorem dL_law_527 : decode cL_law 527 = .ok (.iadd, 1) := by decide +kernel
theorem dL_law_528 : decode cL_law 528 = .ok (.iaload, 1) := by decide +kernel
theorem dL_law_529 : decode cL_law 529 = .ok (.invokevirtual 60, 3) := by decide +kernel
theorem dL_law_532 : decode cL_law 532 = .ok (.if_icmp .eq 704, 3) := by decide +kernel
theorem dL_law_535 : decode cL_law 535 = .ok (.iconst 0, 1) := by decide +kernel
theorem dL_law_536 : decode cL_law 536 = .ok (.ireturn, 1) := by decide +kernel
theorem dL_law_537 : decode cL_law 537 = .ok (.aload_n 1, 1) := by decide +kernel
theorem dL_law_538 : decode cL_law 538 = .ok (.invokevirtual 61, 3) := by decide +kernel
theorem dL_law_541 : decode cL_law 541 = .ok (.aload_n 2, 1) := by decide +kernel
theorem dL_law_542 : decode cL_law 542 = .ok (.invokevirtual 65, 3) := by decide +kernel
theorem dL_law_545 : decode cL_law 545 = .ok (.if_icmp .eq 691, 3) := by decide +kernel
theorem dL_law_548 : decode cL_law 548 = .ok (.iconst 0, 1) := by decide +kernel
theorem dL_law_549 : decode cL_law 549 = .ok (.ireturn, 1) := by decide +kernel
theorem dL_law_550 : decode cL_law 550 = .ok (.aload_n 1, 1) := by decide +kernel
theorem dL_law_551 : decode cL_law 551 = .ok (.invokevirtual 66, 3) := by decide +kernel
theorem dL_law_554 : decode cL_law 554 = .ok (.aload_n 2, 1) := by decide +kernel
theorem dL_law_555 : decode cL_law 555 = .ok (.invokevirtual 69, 3) := by decide +kernel
theorem dL_law_558 : decode cL_law 558 = .ok (.if_icmp .eq 678, 3) := by decide +kernel
theorem dL_law_561 : decode cL_law 561 = .ok (.iconst 0, 1) := by decide +kernel
theorem dL_law_562 : decode cL_law 562 = .ok (.ireturn, 1) := by decide +kernel
theorem dL_law_563 : decode cL_law 563 = .ok (.aload_n 1, 1) := by decide +kernel
theorem dL_law_564 : decode cL_law 564 = .ok (.invokevirtual 70, 3) := by decide +kernel
theorem dL_law_567 : decode cL_law 567 = .ok (.aload_n 2, 1) := by decide +kernel
theorem dL_law_568 : decode cL_law 568 = .ok (.invokevirtual 73, 3) := by decide +kernel
theorem dL_law_571 : decode cL_law 571 = .ok (.if_icmp .eq 665, 3) := by decide +kernel
theorem dL_law_574 : decode cL_law 574 = .ok (.iconst 0, 1) := by decide +kernel
theorem dL_law_575 : decode cL_law 575 = .ok (.ireturn, 1) := by decide +kernel
theorem dL_law_576 : decode cL_law 576 = .ok (.aload_n 1, 1) := by decide +kernel
theorem dL_law_577 : decode cL_law 577 = .ok (.invokevirtual 74, 3) := by decide +kernel
theorem dL_law_580 : decode cL_law 580 = .ok (.aload_n 2, 1) := by decide +kernel
theorem dL_law_581 : decode cL_law 581 = .ok (.invokevirtual 77, 3) := by decide +kernel
theorem dL_law_584 : decode cL_law 584 = .ok (.if_icmp .eq 652, 3) := by decide +kernel
theorem dL_law_587 : decode cL_law 587 = .ok (.iconst 0, 1) := by decide +kernel
theorem dL_law_588 : decode cL_law 588 = .ok (.ireturn, 1) := by decide +kernel
theorem dL_law_589 : decode cL_law 589 = .ok (.aload_n 1, 1) := by decide +kernel
theorem dL_law_590 : decode cL_law 590 = .ok (.aload_n 0, 1) := by decide +kernel
theorem dL_law_591 : decode cL_law 591 = .ok (.iload_n 3, 1) := by decide +kernel
theorem dL_law_592 : decode cL_law 592 = .ok (.iconst 1, 1) := by decide +kernel
theorem dL_law_593 : decode cL_law 593 = .ok (.iadd, 1) := by decide +kernel
theorem dL_law_594 : decode cL_law 594 = .ok (.iaload, 1) := by decide +kernel
theorem dL_law_595 : decode cL_law 595 = .ok (.invokevirtual 78, 3) := by decide +kernel
theorem dL_law_598 : decode cL_law 598 = .ok (.aload_n 2, 1) := by decide +kernel
theorem dL_law_599 : decode cL_law 599 = .ok (.aload_n 0, 1) := by decide +kernel
theorem dL_law_600 : decode cL_law 600 = .ok (.iload_n 3, 1) := by decide +kernel
theorem dL_law_601 : decode cL_law 601 = .ok (.iconst 1, 1) := by decide +kernel
theorem dL_law_602 : decode cL_law 602 = .ok (.iadd, 1) := by decide +kernel
theorem dL_law_603 : decode cL_law 603 = .ok (.iaload, 1) := by decide +kernel
theorem dL_law_604 : decode cL_law 604 = .ok (.invokevirtual 81, 3) := by decide +kernel
theorem dL_law_607 : decode cL_law 607 = .ok (.if_icmp .eq 629, 3) := by decide +kernel
theorem dL_law_610 : decode cL_law 610 = .ok (.iconst 0, 1) := by decide +kernel
theorem dL_law_611 : decode cL_law 611 = .ok (.ireturn, 1) := by decide +kernel
theorem dL_law_612 : decode cL_law 612 = .ok (.aload_n 1, 1) := by decide +kernel
theorem dL_law_613 : decode cL_law 613 = .ok (.aload_n 0, 1) := by decide +kernel
theorem dL_law_614 : decode cL_law 614 = .ok (.iload_n 3, 1) := by decide +kernel
theorem dL_law_615 : decode cL_law 615 = .ok (.iconst 1, 1) := by decide +kernel
theorem dL_law_616 : decode cL_law 616 = .ok (.iadd, 1) := by decide +kernel
theorem dL_law_617 : decode cL_law 617 = .ok (.iaload, 1) := by decide +kernel
theorem dL_law_618 : decode cL_law 618 = .ok (.invokevirtual 82, 3) := by decide +kernel
theorem dL_law_621 : decode cL_law 621 = .ok (.aload_n 2, 1) := by decide +kernel
theorem dL_law_622 : decode cL_law 622 = .ok (.aload_n 0, 1) := by decide +kernel
theorem dL_law_623 : decode cL_law 623 = .ok (.iload_n 3, 1) := by decide +kernel
theorem dL_law_624 : decode cL_law 624 = .ok (.iconst 1, 1) := by decide +kernel
theorem dL_law_625 : decode cL_law 625 = .ok (.iadd, 1) := by decide +kernel
theorem dL_law_626 : decode cL_law 626 = .ok (.iaload, 1) := by decide +kernel
theorem dL_law_627 : decode cL_law 627 = .ok (.invokevirtual 85, 3) := by decide +kernel
theorem dL_law_630 : decode cL_law 630 = .ok (.if_icmp .eq 606, 3) := by decide +kernel
theorem dL_law_633 : decode cL_law 633 = .ok (.iconst 0, 1) := by decide +kernel
theorem dL_law_634 : decode cL_law 634 = .ok (.ireturn, 1) := by decide +kernel
theorem dL_law_635 : decode cL_law 635 = .ok (.aload_n 1, 1) := by decide +kernel
theorem dL_law_636 : decode cL_law 636 = .ok (.invokevirtual 86, 3) := by decide +kernel
theorem dL_law_639 : decode cL_law 639 = .ok (.aload_n 2, 1) := by decide +kernel
theorem dL_law_640 : decode cL_law 640 = .ok (.invokevirtual 89, 3) := by decide +kernel
theorem dL_law_643 : decode cL_law 643 = .ok (.if_icmp .eq 593, 3) := by decide +kernel
theorem dL_law_646 : decode cL_law 646 = .ok (.iconst 0, 1) := by decide +kernel
theorem dL_law_647 : decode cL_law 647 = .ok (.ireturn, 1) := by decide +kernel
theorem dL_law_648 : decode cL_law 648 = .ok (.aload_n 1, 1) := by decide +kernel
theorem dL_law_649 : decode cL_law 649 = .ok (.aload_n 0, 1) := by decide +kernel
theorem dL_law_650 : decode cL_law 650 = .ok (.iload_n 3, 1) := by decide +kernel
theorem dL_law_651 : decode cL_law 651 = .ok (.iconst 1, 1) := by decide +kernel
theorem dL_law_652 : decode cL_law 652 = .ok (.iadd, 1) := by decide +kernel
theorem dL_law_653 : decode cL_law 653 = .ok (.iaload, 1) := by decide +kernel
theorem dL_law_654 : decode cL_law 654 = .ok (.aload_n 0, 1) := by decide +kernel
theorem dL_law_655 : decode cL_law 655 = .ok (.iload_n 3, 1) := by decide +kernel
theorem dL_law_656 : decode cL_law 656 = .ok (.iconst 2, 1) := by decide +kernel
theorem dL_law_657 : decode cL_law 657 = .ok (.iadd, 1) := by decide +kernel
theorem dL_law_658 : decode cL_law 658 = .ok (.iaload, 1) := by decide +kernel
theorem dL_law_659 : decode cL_law 659 = .ok (.invokevirtual 90, 3) := by decide +kernel
theorem dL_law_662 : decode cL_law 662 = .ok (.aload_n 2, 1) := by decide +kernel
theorem dL_law_663 : decode cL_law 663 = .ok (.aload_n 0, 1) := by decide +kernel
theorem dL_law_664 : decode cL_law 664 = .ok (.iload_n 3, 1) := by decide +kernel
theorem dL_law_665 : decode cL_law 665 = .ok (.iconst 1, 1) := by decide +kernel
theorem dL_law_666 : decode cL_law 666 = .ok (.iadd, 1) := by decide +kernel
theorem dL_law_667 : decode cL_law 667 = .ok (.iaload, 1) := by decide +kernel
theorem dL_law_668 : decode cL_law 668 = .ok (.aload_n 0, 1) := by decide +kernel
theorem dL_law_669 : decode cL_law 669 = .ok (.iload_n 3, 1) := by decide +kernel
theorem dL_law_670 : decode cL_law 670 = .ok (.iconst 2, 1) := by decide +kernel
theorem dL_law_671 : decode cL_law 671 = .ok (.iadd, 1) := by decide +kernel
theorem dL_law_672 : decode cL_law 672 = .ok (.iaload, 1) := by decide +kernel
theorem dL_law_673 : decode cL_law 673 = .ok (.invokevirtual 93, 3) := by decide +kernel
theorem dL_law_676 : decode cL_law 676 = .ok (.if_icmp .eq 560, 3) := by decide +kernel
theorem dL_law_679 : decode cL_law 679 = .ok (.iconst 0, 1) := by decide +kernel
theorem dL_law_680 : decode cL_law 680 = .ok (.ireturn, 1) := by decide +kernel
theorem dL_law_681 : decode cL_law 681 = .ok (.aload_n 1, 1) := by decide +kernel
theorem dL_law_682 : decode cL_law 682 = .ok (.aload_n 0, 1) := by decide +kernel
theorem dL_law_683 : decode cL_law 683 = .ok (.iload_n 3, 1) := by decide +kernel
theorem dL_law_684 : decode cL_law 684 = .ok (.iconst 1, 1) := by decide +kernel
theorem dL_law_685 : decode cL_law 685 = .ok (.iadd, 1) := by decide +kernel
theorem dL_law_686 : decode cL_law 686 = .ok (.iaload, 1) := by decide +kernel
theorem dL_law_687 : decode cL_law 687 = .ok (.aload_n 0, 1) := by decide +kernel
theorem dL_law_688 : decode cL_law 688 = .ok (.iload_n 3, 1) := by decide +kernel
theorem dL_law_689 : decode cL_law 689 = .ok (.iconst 2, 1) := by decide +kernel
theorem dL_law_690 : decode cL_law 690 = .ok (.iadd, 1) := by decide +kernel
theorem dL_law_691 : decode cL_law 691 = .ok (.iaload, 1) := by decide +kernel
theorem dL_law_692 : decode cL_law 692 = .ok (.invokevirtual 94, 3) := by decide +kernel
theorem dL_law_695 : decode cL_law 695 = .ok (.aload_n 2, 1) := by decide +kernel
theorem dL_law_696 : decode cL_law 696 = .ok (.aload_n 0, 1) := by decide +kernel
theorem dL_law_697 : decode cL_law 697 = .ok (.iload_n 3, 1) := by decide +kernel
theorem dL_law_698 : decode cL_law 698 = .ok (.iconst 1, 1) := by decide +kernel
theorem dL_law_699 : decode cL_law 699 = .ok (.iadd, 1) := by decide +kernel
theorem dL_law_700 : decode cL_law 700 = .ok (.iaload, 1) := by decide +kernel
theorem dL_law_701 : decode cL_law 701 = .ok (.aload_n 0, 1) := by decide +kernel
theorem dL_law_702 : decode cL_law 702 = .ok (.iload_n 3, 1) := by decide +kernel
theorem dL_law_703 : decode cL_law 703 = .ok (.iconst 2, 1) := by decide +kernel
theorem dL_law_704 : decode cL_law 704 = .ok (.iadd, 1) := by decide +kernel
theorem dL_law_705 : decode cL_law 705 = .ok (.iaload, 1) := by decide +kernel
theorem dL_law_706 : decode cL_law 706 = .ok (.invokevirtual 97, 3) := by decide +kernel
theorem dL_law_709 : decode cL_law 709 = .ok (.if_icmp .eq 527, 3) := by decide +kernel
theorem dL_law_712 : decode cL_law 712 = .ok (.iconst 0, 1) := by decide +kernel
theorem dL_law_713 : decode cL_law 713 = .ok (.ireturn, 1) := by decide +kernel
theorem dL_law_714 : decode cL_law 714 = .ok (.aload_n 1, 1) := by decide +kernel
theorem dL_law_715 : decode cL_law 715 = .ok (.aload_n 0, 1) := by decide +kernel
theorem dL_law_716 : decode cL_law 716 = .ok (.iload_n 3, 1) := by decide +kernel
theorem dL_law_717 : decode cL_law 717 = .ok (.iconst 1, 1) := by decide +kernel
theorem dL_law_718 : decode cL_law 718 = .ok (.iadd, 1) := by decide +kernel
theorem dL_law_719 : decode cL_law 719 = .ok (.iaload, 1) := by decide +kernel
theorem dL_law_720 : decode cL_law 720 = .ok (.aload_n 0, 1) := by decide +kernel
theorem dL_law_721 : decode cL_law 721 = .ok (.iload_n 3, 1) := by decide +kernel
theorem dL_law_722 : decode cL_law 722 = .ok (.iconst 2, 1) := by decide +kernel
theorem dL_law_723 : decode cL_law 723 = .ok (.iadd, 1) := by decide +kernel
theorem dL_law_724 : decode cL_law 724 = .ok (.iaload, 1) := by decide +kernel
theorem dL_law_725 : decode cL_law 725 = .ok (.invokevirtual 98, 3) := by decide +kernel
theorem dL_law_728 : decode cL_law 728 = .ok (.aload_n 2, 1) := by decide +kernel
theorem dL_law_729 : decode cL_law 729 = .ok (.aload_n 0, 1) := by decide +kernel
theorem dL_law_730 : decode cL_law 730 = .ok (.iload_n 3, 1) := by decide +kernel
theorem dL_law_731 : decode cL_law 731 = .ok (.iconst 1, 1) := by decide +kernel
theorem dL_law_732 : decode cL_law 732 = .ok (.iadd, 1) := by decide +kernel
theorem dL_law_733 : decode cL_law 733 = .ok (.iaload, 1) := by decide +kernel
theorem dL_law_734 : decode cL_law 734 = .ok (.aload_n 0, 1) := by decide +kernel
theorem dL_law_735 : decode cL_law 735 = .ok (.iload_n 3, 1) := by decide +kernel
theorem dL_law_736 : decode cL_law 736 = .ok (.iconst 2, 1) := by decide +kernel
theorem dL_law_737 : decode cL_law 737 = .ok (.iadd, 1) := by decide +kernel
theorem dL_law_738 : decode cL_law 738 = .ok (.iaload, 1) := by decide +kernel
theorem dL_law_739 : decode cL_law 739 = .ok (.invokevirtual 101, 3) := by decide +kernel
theorem dL_law_742 : decode cL_law 742 = .ok (.if_icmp .eq 494, 3) := by decide +kernel
theorem dL_law_745 : decode cL_law 745 = .ok (.iconst 0, 1) := by decide +kernel
theorem dL_law_746 : decode cL_law 746 = .ok (.ireturn, 1) := by decide +kernel
theorem dL_law_747 : decode cL_law 747 = .ok (.aload_n 1, 1) := by decide +kernel
theorem dL_law_748 : decode cL_law 748 = .ok (.aload_n 0, 1) := by decide +kernel
theorem dL_law_749 : decode cL_law 749 = .ok (.iload_n 3, 1) := by decide +kernel
theorem dL_law_750 : decode cL_law 750 = .ok (.iconst 1, 1) := by decide +kernel
theorem dL_law_751 : decode cL_law 751 = .ok (.iadd, 1) := by decide +kernel
theorem dL_law_752 : decode cL_law 752 = .ok (.iaload, 1) := by decide +kernel
theorem dL_law_753 : decode cL_law 753 = .ok (.aload_n 0, 1) := by decide +kernel
theorem dL_law_754 : decode cL_law 754 = .ok (.iload_n 3, 1) := by decide +kernel
theorem dL_law_755 : decode cL_law 755 = .ok (.iconst 2, 1) := by decide +kernel
theorem dL_law_756 : decode cL_law 756 = .ok (.iadd, 1) := by decide +kernel
theorem dL_law_757 : decode cL_law 757 = .ok (.iaload, 1) := by decide +kernel
theorem dL_law_758 : decode cL_law 758 = .ok (.invokevirtual 102, 3) := by decide +kernel
theorem dL_law_761 : decode cL_law 761 = .ok (.aload_n 2, 1) := by decide +kernel
theorem dL_law_762 : decode cL_law 762 = .ok (.aload_n 0, 1) := by decide +kernel
theorem dL_law_763 : decode cL_law 763 = .ok (.iload_n 3, 1) := by decide +kernel
theorem dL_law_764 : decode cL_law 764 = .ok (.iconst 1, 1) := by decide +kernel
theorem dL_law_765 : decode cL_law 765 = .ok (.iadd, 1) := by decide +kernel
theorem dL_law_766 : decode cL_law 766 = .ok (.iaload, 1) := by decide +kernel
theorem dL_law_767 : decode cL_law 767 = .ok (.aload_n 0, 1) := by decide +kernel
theorem dL_law_768 : decode cL_law 768 = .ok (.iload_n 3, 1) := by decide +kernel
theorem dL_law_769 : decode cL_law 769 = .ok (.iconst 2, 1) := by decide +kernel
theorem dL_law_770 : decode cL_law 770 = .ok (.iadd, 1) := by decide +kernel
theorem dL_law_771 : decode cL_law 771 = .ok (.iaload, 1) := by decide +kernel
theorem dL_law_772 : decode cL_law 772 = .ok (.invokevirtual 105, 3) := by decide +kernel
theorem dL_law_775 : decode cL_law 775 = .ok (.if_icmp .eq 461, 3) := by decide +kernel
theorem dL_law_778 : decode cL_law 778 = .ok (.iconst 0, 1) := by decide +kernel
theorem dL_law_779 : decode cL_law 779 = .ok (.ireturn, 1) := by decide +kernel
theorem dL_law_780 : decode cL_law 780 = .ok (.aload_n 1, 1) := by decide +kernel
theorem dL_law_781 : decode cL_law 781 = .ok (.aload_n 0, 1) := by decide +kernel
theorem dL_law_782 : decode cL_law 782 = .ok (.iload_n 3, 1) := by decide +kernel
theorem dL_law_783 : decode cL_law 783 = .ok (.iconst 1, 1) := by decide +kernel
theorem dL_law_784 : decode cL_law 784 = .ok (.iadd, 1) := by decide +kernel
theorem dL_law_785 : decode cL_law 785 = .ok (.iaload, 1) := by decide +kernel
theorem dL_law_786 : decode cL_law 786 = .ok (.invokevirtual 106, 3) := by decide +kernel
theorem dL_law_789 : decode cL_law 789 = .ok (.aload_n 2, 1) := by decide +kernel
theorem dL_law_790 : decode cL_law 790 = .ok (.aload_n 0, 1) := by decide +kernel
theorem dL_law_791 : decode cL_law 791 = .ok (.iload_n 3, 1) := by decide +kernel
theorem dL_law_792 : decode cL_law 792 = .ok (.iconst 1, 1) := by decide +kernel
theorem dL_law_793 : decode cL_law 793 = .ok (.iadd, 1) := by decide +kernel
theorem dL_law_794 : decode cL_law 794 = .ok (.iaload, 1) := by decide +kernel
theorem dL_law_795 : decode cL_law 795 = .ok (.invokevirtual 109, 3) := by decide +kernel
theorem dL_law_798 : decode cL_law 798 = .ok (.if_icmp .eq 438, 3) := by decide +kernel
theorem dL_law_801 : decode cL_law 801 = .ok (.iconst 0, 1) := by decide +kernel
theorem dL_law_802 : decode cL_law 802 = .ok (.ireturn, 1) := by decide +kernel
theorem dL_law_803 : decode cL_law 803 = .ok (.aload_n 1, 1) := by decide +kernel
theorem dL_law_804 : decode cL_law 804 = .ok (.aload_n 0, 1) := by decide +kernel
theorem dL_law_805 : decode cL_law 805 = .ok (.iload_n 3, 1) := by decide +kernel
theorem dL_law_806 : decode cL_law 806 = .ok (.iconst 1, 1) := by decide +kernel
theorem dL_law_807 : decode cL_law 807 = .ok (.iadd, 1) := by decide +kernel
theorem dL_law_808 : decode cL_law 808 = .ok (.iaload, 1) := by decide +kernel
theorem dL_law_809 : decode cL_law 809 = .ok (.invokevirtual 110, 3) := by decide +kernel
theorem dL_law_812 : decode cL_law 812 = .ok (.aload_n 2, 1) := by decide +kernel
theorem dL_law_813 : decode cL_law 813 = .ok (.aload_n 0, 1) := by decide +kernel
theorem dL_law_814 : decode cL_law 814 = .ok (.iload_n 3, 1) := by decide +kernel
theorem dL_law_815 : decode cL_law 815 = .ok (.iconst 1, 1) := by decide +kernel
theorem dL_law_816 : decode cL_law 816 = .ok (.iadd, 1) := by decide +kernel
theorem dL_law_817 : decode cL_law 817 = .ok (.iaload, 1) := by decide +kernel
theorem dL_law_818 : decode cL_law 818 = .ok (.invokevirtual 113, 3) := by decide +kernel
theorem dL_law_821 : decode cL_law 821 = .ok (.if_icmp .eq 415, 3) := by decide +kernel
theorem dL_law_824 : decode cL_law 824 = .ok (.iconst 0, 1) := by decide +kernel
theorem dL_law_825 : decode cL_law 825 = .ok (.ireturn, 1) := by decide +kernel
theorem dL_law_826 : decode cL_law 826 = .ok (.aload_n 1, 1) := by decide +kernel
theorem dL_law_827 : decode cL_law 827 = .ok (.aload_n 0, 1) := by decide +kernel
theorem dL_law_828 : decode cL_law 828 = .ok (.iload_n 3, 1) := by decide +kernel
theorem dL_law_829 : decode cL_law 829 = .ok (.iconst 1, 1) := by decide +kernel
theorem dL_law_830 : decode cL_law 830 = .ok (.iadd, 1) := by decide +kernel
theorem dL_law_831 : decode cL_law 831 = .ok (.iaload, 1) := by decide +kernel
theorem dL_law_832 : decode cL_law 832 = .ok (.aload_n 0, 1) := by decide +kernel
theorem dL_law_833 : decode cL_law 833 = .ok (.iload_n 3, 1) := by decide +kernel
theorem dL_law_834 : decode cL_law 834 = .ok (.iconst 2, 1) := by decide +kernel
theorem dL_law_835 : decode cL_law 835 = .ok (.iadd, 1) := by decide +kernel
theorem dL_law_836 : decode cL_law 836 = .ok (.iaload, 1) := by decide +kernel
theorem dL_law_837 : decode cL_law 837 = .ok (.invokevirtual 114, 3) := by decide +kernel
theorem dL_law_840 : decode cL_law 840 = .ok (.aload_n 2, 1) := by decide +kernel
theorem dL_law_841 : decode cL_law 841 = .ok (.aload_n 0, 1) := by decide +kernel
theorem dL_law_842 : decode cL_law 842 = .ok (.iload_n 3, 1) := by decide +kernel
theorem dL_law_843 : decode cL_law 843 = .ok (.iconst 1, 1) := by decide +kernel
theorem dL_law_844 : decode cL_law 844 = .ok (.iadd, 1) := by decide +kernel
theorem dL_law_845 : decode cL_law 845 = .ok (.iaload, 1) := by decide +kernel
theorem dL_law_846 : decode cL_law 846 = .ok (.aload_n 0, 1) := by decide +kernel
theorem dL_law_847 : decode cL_law 847 = .ok (.iload_n 3, 1) := by decide +kernel
theorem dL_law_848 : decode cL_law 848 = .ok (.iconst 2, 1) := by decide +kernel
theorem dL_law_849 : decode cL_law 849 = .ok (.iadd, 1) := by decide +kernel
theorem dL_law_850 : decode cL_law 850 = .ok (.iaload, 1) := by decide +kernel
theorem dL_law_851 : decode cL_law 851 = .ok (.invokevirtual 117, 3) := by decide +kernel
theorem dL_law_854 : decode cL_law 854 = .ok (.if_icmp .eq 382, 3) := by decide +kernel
theorem dL_law_857 : decode cL_law 857 = .ok (.iconst 0, 1) := by decide +kernel
theorem dL_law_858 : decode cL_law 858 = .ok (.ireturn, 1) := by decide +kernel
theorem dL_law_859 : decode cL_law 859 = .ok (.aload_n 1, 1) := by decide +kernel
theorem dL_law_860 : decode cL_law 860 = .ok (.invokevirtual 118, 3) := by decide +kernel
theorem dL_law_863 : decode cL_law 863 = .ok (.aload_n 2, 1) := by decide +kernel
theorem dL_law_864 : decode cL_law 864 = .ok (.invokevirtual 121, 3) := by decide +kernel
theorem dL_law_867 : decode cL_law 867 = .ok (.if_icmp .eq 369, 3) := by decide +kernel
theorem dL_law_870 : decode cL_law 870 = .ok (.iconst 0, 1) := by decide +kernel
theorem dL_law_871 : decode cL_law 871 = .ok (.ireturn, 1) := by decide +kernel
theorem dL_law_872 : decode cL_law 872 = .ok (.aload_n 1, 1) := by decide +kernel
theorem dL_law_873 : decode cL_law 873 = .ok (.invokevirtual 122, 3) := by decide +kernel
theorem dL_law_876 : decode cL_law 876 = .ok (.aload_n 2, 1) := by decide +kernel
theorem dL_law_877 : decode cL_law 877 = .ok (.invokevirtual 125, 3) := by decide +kernel
theorem dL_law_880 : decode cL_law 880 = .ok (.if_icmp .eq 356, 3) := by decide +kernel
theorem dL_law_883 : decode cL_law 883 = .ok (.iconst 0, 1) := by decide +kernel
theorem dL_law_884 : decode cL_law 884 = .ok (.ireturn, 1) := by decide +kernel
theorem dL_law_885 : decode cL_law 885 = .ok (.aload_n 1, 1) := by decide +kernel
theorem dL_law_886 : decode cL_law 886 = .ok (.aload_n 0, 1) := by decide +kernel
theorem dL_law_887 : decode cL_law 887 = .ok (.iload_n 3, 1) := by decide +kernel
theorem dL_law_888 : decode cL_law 888 = .ok (.iconst 1, 1) := by decide +kernel
theorem dL_law_889 : decode cL_law 889 = .ok (.iadd, 1) := by decide +kernel
theorem dL_law_890 : decode cL_law 890 = .ok (.iaload, 1) := by decide +kernel
theorem dL_law_891 : decode cL_law 891 = .ok (.aload_n 0, 1) := by decide +kernel
theorem dL_law_892 : decode cL_law 892 = .ok (.iload_n 3, 1) := by decide +kernel
theorem dL_law_893 : decode cL_law 893 = .ok (.iconst 2, 1) := by decide +kernel
theorem dL_law_894 : decode cL_law 894 = .ok (.iadd, 1) := by decide +kernel
theorem dL_law_895 : decode cL_law 895 = .ok (.iaload, 1) := by decide +kernel
theorem dL_law_896 : decode cL_law 896 = .ok (.aload_n 0, 1) := by decide +kernel
theorem dL_law_897 : decode cL_law 897 = .ok (.iload_n 3, 1) := by decide +kernel
theorem dL_law_898 : decode cL_law 898 = .ok (.iconst 3, 1) := by decide +kernel
theorem dL_law_899 : decode cL_law 899 = .ok (.iadd, 1) := by decide +kernel
theorem dL_law_900 : decode cL_law 900 = .ok (.iaload, 1) := by decide +kernel
theorem dL_law_901 : decode cL_law 901 = .ok (.aload_n 0, 1) := by decide +kernel
theorem dL_law_902 : decode cL_law 902 = .ok (.iload_n 3, 1) := by decide +kernel
theorem dL_law_903 : decode cL_law 903 = .ok (.iconst 4, 1) := by decide +kernel
theorem dL_law_904 : decode cL_law 904 = .ok (.iadd, 1) := by decide +kernel
theorem dL_law_905 : decode cL_law 905 = .ok (.iaload, 1) := by decide +kernel
theorem dL_law_906 : decode cL_law 906 = .ok (.invokevirtual 126, 3) := by decide +kernel
theorem dL_law_909 : decode cL_law 909 = .ok (.aload_n 2, 1) := by decide +kernel
theorem dL_law_910 : decode cL_law 910 = .ok (.aload_n 0, 1) := by decide +kernel
theorem dL_law_911 : decode cL_law 911 = .ok (.iload_n 3, 1) := by decide +kernel
theorem dL_law_912 : decode cL_law 912 = .ok (.iconst 1, 1) := by decide +kernel
theorem dL_law_913 : decode cL_law 913 = .ok (.iadd, 1) := by decide +kernel
theorem dL_law_914 : decode cL_law 914 = .ok (.iaload, 1) := by decide +kernel
theorem dL_law_915 : decode cL_law 915 = .ok (.aload_n 0, 1) := by decide +kernel
theorem dL_law_916 : decode cL_law 916 = .ok (.iload_n 3, 1) := by decide +kernel
theorem dL_law_917 : decode cL_law 917 = .ok (.iconst 2, 1) := by decide +kernel
theorem dL_law_918 : decode cL_law 918 = .ok (.iadd, 1) := by decide +kernel
theorem dL_law_919 : decode cL_law 919 = .ok (.iaload, 1) := by decide +kernel
theorem dL_law_920 : decode cL_law 920 = .ok (.aload_n 0, 1) := by decide +kernel
theorem dL_law_921 : decode cL_law 921 = .ok (.iload_n 3, 1) := by decide +kernel
theorem dL_law_922 : decode cL_law 922 = .ok (.iconst 3, 1) := by decide +kernel
theorem dL_law_923 : decode cL_law 923 = .ok (.iadd, 1) := by decide +kernel
theorem dL_law_924 : decode cL_law 924 = .ok (.iaload, 1) := by decide +kernel
theorem dL_law_925 : decode cL_law 925 = .ok (.aload_n 0, 1) := by decide +kernel
theorem dL_law_926 : decode cL_law 926 = .ok (.iload_n 3, 1) := by decide +kernel
theorem dL_law_927 : decode cL_law 927 = .ok (.iconst 4, 1) := by decide +kernel
theorem dL_law_928 : decode cL_law 928 = .ok (.iadd, 1) := by decide +kernel
theorem dL_law_929 : decode cL_law 929 = .ok (.iaload, 1) := by decide +kernel
theorem dL_law_930 : decode cL_law 930 = .ok (.invokevirtual 129, 3) := by decide +kernel
theorem dL_law_933 : decode cL_law 933 = .ok (.if_icmp .eq 303, 3) := by decide +kernel
theorem dL_law_936 : decode cL_law 936 = .ok (.iconst 0, 1) := by decide +kernel
theorem dL_law_937 : decode cL_law 937 = .ok (.ireturn, 1) := by decide +kernel
theorem dL_law_938 : decode cL_law 938 = .ok (.aload_n 1, 1) := by decide +kernel
theorem dL_law_939 : decode cL_law 939 = .ok (.aload_n 0, 1) := by decide +kernel
theorem dL_law_940 : decode cL_law 940 = .ok (.iload_n 3, 1) := by decide +kernel
theorem dL_law_941 : decode cL_law 941 = .ok (.iconst 1, 1) := by decide +kernel
theorem dL_law_942 : decode cL_law 942 = .ok (.iadd, 1) := by decide +kernel
theorem dL_law_943 : decode cL_law 943 = .ok (.iaload, 1) := by decide +kernel
theorem dL_law_944 : decode cL_law 944 = .ok (.aload_n 0, 1) := by decide +kernel
theorem dL_law_945 : decode cL_law 945 = .ok (.iload_n 3, 1) := by decide +kernel
theorem dL_law_946 : decode cL_law 946 = .ok (.iconst 2, 1) := by decide +kernel
theorem dL_law_947 : decode cL_law 947 = .ok (.iadd, 1) := by decide +kernel
theorem dL_law_948 : decode cL_law 948 = .ok (.iaload, 1) := by decide +kernel
theorem dL_law_949 : decode cL_law 949 = .ok (.aload_n 0, 1) := by decide +kernel
theorem dL_law_950 : decode cL_law 950 = .ok (.iload_n 3, 1) := by decide +kernel
theorem dL_law_951 : decode cL_law 951 = .ok (.iconst 3, 1) := by decide +kernel
theorem dL_law_952 : decode cL_law 952 = .ok (.iadd, 1) := by decide +kernel
theorem dL_law_953 : decode cL_law 953 = .ok (.iaload, 1) := by decide +kernel
theorem dL_law_954 : decode cL_law 954 = .ok (.invokevirtual 130, 3) := by decide +kernel
theorem dL_law_957 : decode cL_law 957 = .ok (.aload_n 2, 1) := by decide +kernel
theorem dL_law_958 : decode cL_law 958 = .ok (.aload_n 0, 1) := by decide +kernel
theorem dL_law_959 : decode cL_law 959 = .ok (.iload_n 3, 1) := by decide +kernel
theorem dL_law_960 : decode cL_law 960 = .ok (.iconst 1, 1) := by decide +kernel
theorem dL_law_961 : decode cL_law 961 = .ok (.iadd, 1) := by decide +kernel
theorem dL_law_962 : decode cL_law 962 = .ok (.iaload, 1) := by decide +kernel
theorem dL_law_963 : decode cL_law 963 = .ok (.aload_n 0, 1) := by decide +kernel
theorem dL_law_964 : decode cL_law 964 = .ok (.iload_n 3, 1) := by decide +kernel
theorem dL_law_965 : decode cL_law 965 = .ok (.iconst 2, 1) := by decide +kernel
theorem dL_law_966 : decode cL_law 966 = .ok (.iadd, 1) := by decide +kernel
theorem dL_law_967 : decode cL_law 967 = .ok (.iaload, 1) := by decide +kernel
theorem dL_law_968 : decode cL_law 968 = .ok (.aload_n 0, 1) := by decide +kernel
theorem dL_law_969 : decode cL_law 969 = .ok (.iload_n 3, 1) := by decide +kernel
theorem dL_law_970 : decode cL_law 970 = .ok (.iconst 3, 1) := by decide +kernel
theorem dL_law_971 : decode cL_law 971 = .ok (.iadd, 1) := by decide +kernel
theorem dL_law_972 : decode cL_law 972 = .ok (.iaload, 1) := by decide +kernel
theorem dL_law_973 : decode cL_law 973 = .ok (.invokevirtual 133, 3) := by decide +kernel
theorem dL_law_976 : decode cL_law 976 = .ok (.if_icmp .eq 260, 3) := by decide +kernel
theorem dL_law_979 : decode cL_law 979 = .ok (.iconst 0, 1) := by decide +kernel
theorem dL_law_980 : decode cL_law 980 = .ok (.ireturn, 1) := by decide +kernel
theorem dL_law_981 : decode cL_law 981 = .ok (.aload_n 1, 1) := by decide +kernel
theorem dL_law_982 : decode cL_law 982 = .ok (.aload_n 0, 1) := by decide +kernel
theorem dL_law_983 : decode cL_law 983 = .ok (.iload_n 3, 1) := by decide +kernel
theorem dL_law_984 : decode cL_law 984 = .ok (.iconst 1, 1) := by decide +kernel
theorem dL_law_985 : decode cL_law 985 = .ok (.iadd, 1) := by decide +kernel
theorem dL_law_986 : decode cL_law 986 = .ok (.iaload, 1) := by decide +kernel
theorem dL_law_987 : decode cL_law 987 = .ok (.aload_n 0, 1) := by decide +kernel
theorem dL_law_988 : decode cL_law 988 = .ok (.iload_n 3, 1) := by decide +kernel
theorem dL_law_989 : decode cL_law 989 = .ok (.iconst 2, 1) := by decide +kernel
theorem dL_law_990 : decode cL_law 990 = .ok (.iadd, 1) := by decide +kernel
theorem dL_law_991 : decode cL_law 991 = .ok (.iaload, 1) := by decide +kernel
theorem dL_law_992 : decode cL_law 992 = .ok (.aload_n 0, 1) := by decide +kernel
theorem dL_law_993 : decode cL_law 993 = .ok (.iload_n 3, 1) := by decide +kernel
theorem dL_law_994 : decode cL_law 994 = .ok (.iconst 3, 1) := by decide +kernel
theorem dL_law_995 : decode cL_law 995 = .ok (.iadd, 1) := by decide +kernel
theorem dL_law_996 : decode cL_law 996 = .ok (.iaload, 1) := by decide +kernel
theorem dL_law_997 : decode cL_law 997 = .ok (.invokevirtual 134, 3) := by decide +kernel
theorem dL_law_1000 : decode cL_law 1000 = .ok (.aload_n 2, 1) := by decide +kernel
theorem dL_law_1001 : decode cL_law 1001 = .ok (.aload_n 0, 1) := by decide +kernel
theorem dL_law_1002 : decode cL_law 1002 = .ok (.iload_n 3, 1) := by decide +kernel
theorem dL_law_1003 : decode cL_law 1003 = .ok (.iconst 1, 1) := by decide +kernel
theorem dL_law_1004 : decode cL_law 1004 = .ok (.iadd, 1) := by decide +kernel
theorem dL_law_1005 : decode cL_law 1005 = .ok (.iaload, 1) := by decide +kernel
theorem dL_law_1006 : decode cL_law 1006 = .ok (.aload_n 0, 1) := by decide +kernel
theorem dL_law_1007 : decode cL_law 1007 = .ok (.iload_n 3, 1) := by decide +kernel
theorem dL_law_1008 : decode cL_law 1008 = .ok (.iconst 2, 1) := by decide +kernel
theorem dL_law_1009 : decode cL_law 1009 = .ok (.iadd, 1) := by decide +kernel
theorem dL_law_1010 : decode cL_law 1010 = .ok (.iaload, 1) := by decide +kernel
theorem dL_law_1011 : decode cL_law 1011 = .ok (.aload_n 0, 1) := by decide +kernel
theorem dL_law_1012 : decode cL_law 1012 = .ok (.iload_n 3, 1) := by decide +kernel
theorem dL_law_1013 : decode cL_law 1013 = .ok (.iconst 3, 1) := by decide +kernel
theorem dL_law_1014 : decode cL_law 1014 = .ok (.iadd, 1) := by decide +kernel
theorem dL_law_1015 : decode cL_law 1015 = .ok (.iaload, 1) := by decide +kernel
theorem dL_law_1016 : decode cL_law 1016 = .ok (.invokevirtual 137, 3) := by decide +kernel
theorem dL_law_1019 : decode cL_law 1019 = .ok (.if_icmp .eq 217, 3) := by decide +kernel
theorem dL_law_1022 : decode cL_law 1022 = .ok (.iconst 0, 1) := by decide +kernel
theorem dL_law_1023 : decode cL_law 1023 = .ok (.ireturn, 1) := by decide +kernel
theorem dL_law_1024 : decode cL_law 1024 = .ok (.aload_n 1, 1) := by decide +kernel
theorem dL_law_1025 : decode cL_law 1025 = .ok (.aload_n 0, 1) := by decide +kernel
theorem dL_law_1026 : decode cL_law 1026 = .ok (.iload_n 3, 1) := by decide +kernel
theorem dL_law_1027 : decode cL_law 1027 = .ok (.iconst 1, 1) := by decide +kernel
theorem dL_law_1028 : decode cL_law 1028 = .ok (.iadd, 1) := by decide +kernel
theorem dL_law_1029 : decode cL_law 1029 = .ok (.iaload, 1) := by decide +kernel
theorem dL_law_1030 : decode cL_law 1030 = .ok (.aload_n 0, 1) := by decide +kernel
theorem dL_law_1031 : decode cL_law 1031 = .ok (.iload_n 3, 1) := by decide +kernel
theorem dL_law_1032 : decode cL_law 1032 = .ok (.iconst 2, 1) := by decide +kernel
theorem dL_law_1033 : decode cL_law 1033 = .ok (.iadd, 1) := by decide +kernel
theorem dL_law_1034 : decode cL_law 1034 = .ok (.iaload, 1) := by decide +kernel
theorem dL_law_1035 : decode cL_law 1035 = .ok (.aload_n 0, 1) := by decide +kernel
theorem dL_law_1036 : decode cL_law 1036 = .ok (.iload_n 3, 1) := by decide +kernel
theorem dL_law_1037 : decode cL_law 1037 = .ok (.iconst 3, 1) := by decide +kernel
theorem dL_law_1038 : decode cL_law 1038 = .ok (.iadd, 1) := by decide +kernel
theorem dL_law_1039 : decode cL_law 1039 = .ok (.iaload, 1) := by decide +kernel
theorem dL_law_1040 : decode cL_law 1040 = .ok (.invokevirtual 138, 3) := by decide +kernel
theorem dL_law_1043 : decode cL_law 1043 = .ok (.aload_n 2, 1) := by decide +kernel
theorem dL_law_1044 : decode cL_law 1044 = .ok (.aload_n 0, 1) := by decide +kernel
theorem dL_law_1045 : decode cL_law 1045 = .ok (.iload_n 3, 1) := by decide +kernel
theorem dL_law_1046 : decode cL_law 1046 = .ok (.iconst 1, 1) := by decide +kernel
theorem dL_law_1047 : decode cL_law 1047 = .ok (.iadd, 1) := by decide +kernel
theorem dL_law_1048 : decode cL_law 1048 = .ok (.iaload, 1) := by decide +kernel
theorem dL_law_1049 : decode cL_law 1049 = .ok (.aload_n 0, 1) := by decide +kernel
theorem dL_law_1050 : decode cL_law 1050 = .ok (.iload_n 3, 1) := by decide +kernel
theorem dL_law_1051 : decode cL_law 1051 = .ok (.iconst 2, 1) := by decide +kernel
theorem dL_law_1052 : decode cL_law 1052 = .ok (.iadd, 1) := by decide +kernel
theorem dL_law_1053 : decode cL_law 1053 = .ok (.iaload, 1) := by decide +kernel
theorem dL_law_1054 : decode cL_law 1054 = .ok (.aload_n 0, 1) := by decide +kernel
theorem dL_law_1055 : decode cL_law 1055 = .ok (.iload_n 3, 1) := by decide +kernel
theorem dL_law_1056 : decode cL_law 1056 = .ok (.iconst 3, 1) := by decide +kernel
theorem dL_law_1057 : decode cL_law 1057 = .ok (.iadd, 1) := by decide +kernel
theorem dL_law_1058 : decode cL_law 1058 = .ok (.iaload, 1) := by decide +kernel
theorem dL_law_1059 : decode cL_law 1059 = .ok (.invokevirtual 141, 3) := by decide +kernel
theorem dL_law_1062 : decode cL_law 1062 = .ok (.if_icmp .eq 174, 3) := by decide +kernel
theorem dL_law_1065 : decode cL_law 1065 = .ok (.iconst 0, 1) := by decide +kernel
theorem dL_law_1066 : decode cL_law 1066 = .ok (.ireturn, 1) := by decide +kernel
theorem dL_law_1067 : decode cL_law 1067 = .ok (.aload_n 1, 1) := by decide +kernel
theorem dL_law_1068 : decode cL_law 1068 = .ok (.aload_n 0, 1) := by decide +kernel
theorem dL_law_1069 : decode cL_law 1069 = .ok (.iload_n 3, 1) := by decide +kernel
theorem dL_law_1070 : decode cL_law 1070 = .ok (.iconst 1, 1) := by decide +kernel
theorem dL_law_1071 : decode cL_law 1071 = .ok (.iadd, 1) := by decide +kernel
theorem dL_law_1072 : decode cL_law 1072 = .ok (.iaload, 1) := by decide +kernel
theorem dL_law_1073 : decode cL_law 1073 = .ok (.invokevirtual 142, 3) := by decide +kernel
theorem dL_law_1076 : decode cL_law 1076 = .ok (.aload_n 2, 1) := by decide +kernel
theorem dL_law_1077 : decode cL_law 1077 = .ok (.aload_n 0, 1) := by decide +kernel
theorem dL_law_1078 : decode cL_law 1078 = .ok (.iload_n 3, 1) := by decide +kernel
theorem dL_law_1079 : decode cL_law 1079 = .ok (.iconst 1, 1) := by decide +kernel
theorem dL_law_1080 : decode cL_law 1080 = .ok (.iadd, 1) := by decide +kernel
theorem dL_law_1081 : decode cL_law 1081 = .ok (.iaload, 1) := by decide +kernel
theorem dL_law_1082 : decode cL_law 1082 = .ok (.invokevirtual 145, 3) := by decide +kernel
theorem dL_law_1085 : decode cL_law 1085 = .ok (.if_icmp .eq 151, 3) := by decide +kernel
theorem dL_law_1088 : decode cL_law 1088 = .ok (.iconst 0, 1) := by decide +kernel
theorem dL_law_1089 : decode cL_law 1089 = .ok (.ireturn, 1) := by decide +kernel
theorem dL_law_1090 : decode cL_law 1090 = .ok (.aload_n 1, 1) := by decide +kernel
theorem dL_law_1091 : decode cL_law 1091 = .ok (.aload_n 0, 1) := by decide +kernel
theorem dL_law_1092 : decode cL_law 1092 = .ok (.iload_n 3, 1) := by decide +kernel
theorem dL_law_1093 : decode cL_law 1093 = .ok (.iconst 1, 1) := by decide +kernel
theorem dL_law_1094 : decode cL_law 1094 = .ok (.iadd, 1) := by decide +kernel
theorem dL_law_1095 : decode cL_law 1095 = .ok (.iaload, 1) := by decide +kernel
theorem dL_law_1096 : decode cL_law 1096 = .ok (.aload_n 0, 1) := by decide +kernel
theorem dL_law_1097 : decode cL_law 1097 = .ok (.iload_n 3, 1) := by decide +kernel
theorem dL_law_1098 : decode cL_law 1098 = .ok (.iconst 2, 1) := by decide +kernel
theorem dL_law_1099 : decode cL_law 1099 = .ok (.iadd, 1) := by decide +kernel
theorem dL_law_1100 : decode cL_law 1100 = .ok (.iaload, 1) := by decide +kernel
theorem dL_law_1101 : decode cL_law 1101 = .ok (.aload_n 0, 1) := by decide +kernel
theorem dL_law_1102 : decode cL_law 1102 = .ok (.iload_n 3, 1) := by decide +kernel
theorem dL_law_1103 : decode cL_law 1103 = .ok (.iconst 3, 1) := by decide +kernel
theorem dL_law_1104 : decode cL_law 1104 = .ok (.iadd, 1) := by decide +kernel
theorem dL_law_1105 : decode cL_law 1105 = .ok (.iaload, 1) := by decide +kernel
theorem dL_law_1106 : decode cL_law 1106 = .ok (.aload_n 0, 1) := by decide +kernel
theorem dL_law_1107 : decode cL_law 1107 = .ok (.iload_n 3, 1) := by decide +kernel
theorem dL_law_1108 : decode cL_law 1108 = .ok (.iconst 4, 1) := by decide +kernel
theorem dL_law_1109 : decode cL_law 1109 = .ok (.iadd, 1) := by decide +kernel
theorem dL_law_1110 : decode cL_law 1110 = .ok (.iaload, 1) := by decide +kernel
theorem dL_law_1111 : decode cL_law 1111 = .ok (.i2l, 1) := by decide +kernel
theorem dL_law_1112 : decode cL_law 1112 = .ok (.bipush 32, 2) := by decide +kernel
theorem dL_law_1114 : decode cL_law 1114 = .ok (.lshl, 1) := by decide +kernel
theorem dL_law_1115 : decode cL_law 1115 = .ok (.aload_n 0, 1) := by decide +kernel
theorem dL_law_1116 : decode cL_law 1116 = .ok (.iload_n 3, 1) := by decide +kernel
theorem dL_law_1117 : decode cL_law 1117 = .ok (.iconst 5, 1) := by decide +kernel
theorem dL_law_1118 : decode cL_law 1118 = .ok (.iadd, 1) := by decide +kernel
theorem dL_law_1119 : decode cL_law 1119 = .ok (.iaload, 1) := by decide +kernel
theorem dL_law_1120 : decode cL_law 1120 = .ok (.i2l, 1) := by decide +kernel
theorem dL_law_1121 : decode cL_law 1121 = .ok (.ldc2_w 146, 3) := by decide +kernel
theorem dL_law_1124 : decode cL_law 1124 = .ok (.land, 1) := by decide +kernel
theorem dL_law_1125 : decode cL_law 1125 = .ok (.lor, 1) := by decide +kernel
theorem dL_law_1126 : decode cL_law 1126 = .ok (.invokevirtual 148, 3) := by decide +kernel
theorem dL_law_1129 : decode cL_law 1129 = .ok (.aload_n 2, 1) := by decide +kernel
theorem dL_law_1130 : decode cL_law 1130 = .ok (.aload_n 0, 1) := by decide +kernel
theorem dL_law_1131 : decode cL_law 1131 = .ok (.iload_n 3, 1) := by decide +kernel
theorem dL_law_1132 : decode cL_law 1132 = .ok (.iconst 1, 1) := by decide +kernel
theorem dL_law_1133 : decode cL_law 1133 = .ok (.iadd, 1) := by decide +kernel
theorem dL_law_1134 : decode cL_law 1134 = .ok (.iaload, 1) := by decide +kernel
theorem dL_law_1135 : decode cL_law 1135 = .ok (.aload_n 0, 1) := by decide +kernel
theorem dL_law_1136 : decode cL_law 1136 = .ok (.iload_n 3, 1) := by decide +kernel
theorem dL_law_1137 : decode cL_law 1137 = .ok (.iconst 2, 1) := by decide +kernel
theorem dL_law_1138 : decode cL_law 1138 = .ok (.iadd, 1) := by decide +kernel
theorem dL_law_1139 : decode cL_law 1139 = .ok (.iaload, 1) := by decide +kernel
theorem dL_law_1140 : decode cL_law 1140 = .ok (.aload_n 0, 1) := by decide +kernel
theorem dL_law_1141 : decode cL_law 1141 = .ok (.iload_n 3, 1) := by decide +kernel
theorem dL_law_1142 : decode cL_law 1142 = .ok (.iconst 3, 1) := by decide +kernel
theorem dL_law_1143 : decode cL_law 1143 = .ok (.iadd, 1) := by decide +kernel
theorem dL_law_1144 : decode cL_law 1144 = .ok (.iaload, 1) := by decide +kernel
theorem dL_law_1145 : decode cL_law 1145 = .ok (.aload_n 0, 1) := by decide +kernel
theorem dL_law_1146 : decode cL_law 1146 = .ok (.iload_n 3, 1) := by decide +kernel
theorem dL_law_1147 : decode cL_law 1147 = .ok (.iconst 4, 1) := by decide +kernel
theorem dL_law_1148 : decode cL_law 1148 = .ok (.iadd, 1) := by decide +kernel
theorem dL_law_1149 : decode cL_law 1149 = .ok (.iaload, 1) := by decide +kernel
theorem dL_law_1150 : decode cL_law 1150 = .ok (.i2l, 1) := by decide +kernel
theorem dL_law_1151 : decode cL_law 1151 = .ok (.bipush 32, 2) := by decide +kernel
theorem dL_law_1153 : decode cL_law 1153 = .ok (.lshl, 1) := by decide +kernel
theorem dL_law_1154 : decode cL_law 1154 = .ok (.aload_n 0, 1) := by decide +kernel
theorem dL_law_1155 : decode cL_law 1155 = .ok (.iload_n 3, 1) := by decide +kernel
theorem dL_law_1156 : decode cL_law 1156 = .ok (.iconst 5, 1) := by decide +kernel
theorem dL_law_1157 : decode cL_law 1157 = .ok (.iadd, 1) := by decide +kernel
theorem dL_law_1158 : decode cL_law 1158 = .ok (.iaload, 1) := by decide +kernel
theorem dL_law_1159 : decode cL_law 1159 = .ok (.i2l, 1) := by decide +kernel
theorem dL_law_1160 : decode cL_law 1160 = .ok (.ldc2_w 146, 3) := by decide +kernel
theorem dL_law_1163 : decode cL_law 1163 = .ok (.land, 1) := by decide +kernel
theorem dL_law_1164 : decode cL_law 1164 = .ok (.lor, 1) := by decide +kernel
theorem dL_law_1165 : decode cL_law 1165 = .ok (.invokevirtual 152, 3) := by decide +kernel
theorem dL_law_1168 : decode cL_law 1168 = .ok (.if_icmp .eq 68, 3) := by decide +kernel
theorem dL_law_1171 : decode cL_law 1171 = .ok (.iconst 0, 1) := by decide +kernel
theorem dL_law_1172 : decode cL_law 1172 = .ok (.ireturn, 1) := by decide +kernel
theorem dL_law_1173 : decode cL_law 1173 = .ok (.aload_n 1, 1) := by decide +kernel
theorem dL_law_1174 : decode cL_law 1174 = .ok (.aload_n 0, 1) := by decide +kernel
theorem dL_law_1175 : decode cL_law 1175 = .ok (.iload_n 3, 1) := by decide +kernel
theorem dL_law_1176 : decode cL_law 1176 = .ok (.iconst 1, 1) := by decide +kernel
theorem dL_law_1177 : decode cL_law 1177 = .ok (.iadd, 1) := by decide +kernel
theorem dL_law_1178 : decode cL_law 1178 = .ok (.iaload, 1) := by decide +kernel
theorem dL_law_1179 : decode cL_law 1179 = .ok (.aload_n 0, 1) := by decide +kernel
theorem dL_law_1180 : decode cL_law 1180 = .ok (.iload_n 3, 1) := by decide +kernel
theorem dL_law_1181 : decode cL_law 1181 = .ok (.iconst 2, 1) := by decide +kernel
theorem dL_law_1182 : decode cL_law 1182 = .ok (.iadd, 1) := by decide +kernel
theorem dL_law_1183 : decode cL_law 1183 = .ok (.iaload, 1) := by decide +kernel
theorem dL_law_1184 : decode cL_law 1184 = .ok (.aload_n 0, 1) := by decide +kernel
theorem dL_law_1185 : decode cL_law 1185 = .ok (.iload_n 3, 1) := by decide +kernel
theorem dL_law_1186 : decode cL_law 1186 = .ok (.iconst 3, 1) := by decide +kernel
theorem dL_law_1187 : decode cL_law 1187 = .ok (.iadd, 1) := by decide +kernel
theorem dL_law_1188 : decode cL_law 1188 = .ok (.iaload, 1) := by decide +kernel
theorem dL_law_1189 : decode cL_law 1189 = .ok (.aload_n 0, 1) := by decide +kernel
theorem dL_law_1190 : decode cL_law 1190 = .ok (.iload_n 3, 1) := by decide +kernel
theorem dL_law_1191 : decode cL_law 1191 = .ok (.iconst 4, 1) := by decide +kernel
theorem dL_law_1192 : decode cL_law 1192 = .ok (.iadd, 1) := by decide +kernel
theorem dL_law_1193 : decode cL_law 1193 = .ok (.iaload, 1) := by decide +kernel
theorem dL_law_1194 : decode cL_law 1194 = .ok (.aload_n 0, 1) := by decide +kernel
theorem dL_law_1195 : decode cL_law 1195 = .ok (.iload_n 3, 1) := by decide +kernel
theorem dL_law_1196 : decode cL_law 1196 = .ok (.iconst 5, 1) := by decide +kernel
theorem dL_law_1197 : decode cL_law 1197 = .ok (.iadd, 1) := by decide +kernel
theorem dL_law_1198 : decode cL_law 1198 = .ok (.iaload, 1) := by decide +kernel
theorem dL_law_1199 : decode cL_law 1199 = .ok (.invokevirtual 153, 3) := by decide +kernel
theorem dL_law_1202 : decode cL_law 1202 = .ok (.aload_n 2, 1) := by decide +kernel
theorem dL_law_1203 : decode cL_law 1203 = .ok (.aload_n 0, 1) := by decide +kernel
theorem dL_law_1204 : decode cL_law 1204 = .ok (.iload_n 3, 1) := by decide +kernel
theorem dL_law_1205 : decode cL_law 1205 = .ok (.iconst 1, 1) := by decide +kernel
theorem dL_law_1206 : decode cL_law 1206 = .ok (.iadd, 1) := by decide +kernel
theorem dL_law_1207 : decode cL_law 1207 = .ok (.iaload, 1) := by decide +kernel
theorem dL_law_1208 : decode cL_law 1208 = .ok (.aload_n 0, 1) := by decide +kernel
theorem dL_law_1209 : decode cL_law 1209 = .ok (.iload_n 3, 1) := by decide +kernel
theorem dL_law_1210 : decode cL_law 1210 = .ok (.iconst 2, 1) := by decide +kernel
theorem dL_law_1211 : decode cL_law 1211 = .ok (.iadd, 1) := by decide +kernel
theorem dL_law_1212 : decode cL_law 1212 = .ok (.iaload, 1) := by decide +kernel
theorem dL_law_1213 : decode cL_law 1213 = .ok (.aload_n 0, 1) := by decide +kernel
theorem dL_law_1214 : decode cL_law 1214 = .ok (.iload_n 3, 1) := by decide +kernel
theorem dL_law_1215 : decode cL_law 1215 = .ok (.iconst 3, 1) := by decide +kernel
theorem dL_law_1216 : decode cL_law 1216 = .ok (.iadd, 1) := by decide +kernel
theorem dL_law_1217 : decode cL_law 1217 = .ok (.iaload, 1) := by decide +kernel
theorem dL_law_1218 : decode cL_law 1218 = .ok (.aload_n 0, 1) := by decide +kernel
theorem dL_law_1219 : decode cL_law 1219 = .ok (.iload_n 3, 1) := by decide +kernel
theorem dL_law_1220 : decode cL_law 1220 = .ok (.iconst 4, 1) := by decide +kernel
theorem dL_law_1221 : decode cL_law 1221 = .ok (.iadd, 1) := by decide +kernel
theorem dL_law_1222 : decode cL_law 1222 = .ok (.iaload, 1) := by decide +kernel
theorem dL_law_1223 : decode cL_law 1223 = .ok (.aload_n 0, 1) := by decide +kernel
theorem dL_law_1224 : decode cL_law 1224 = .ok (.iload_n 3, 1) := by decide +kernel
theorem dL_law_1225 : decode cL_law 1225 = .ok (.iconst 5, 1) := by decide +kernel
theorem dL_law_1226 : decode cL_law 1226 = .ok (.iadd, 1) := by decide +kernel
theorem dL_law_1227 : decode cL_law 1227 = .ok (.iaload, 1) := by decide +kernel
theorem dL_law_1228 : decode cL_law 1228 = .ok (.invokevirtual 157, 3) := by decide +kernel
theorem dL_law_1231 : decode cL_law 1231 = .ok (.if_icmp .eq 5, 3) := by decide +kernel
theorem dL_law_1234 : decode cL_law 1234 = .ok (.iconst 0, 1) := by decide +kernel
theorem dL_law_1235 : decode cL_law 1235 = .ok (.ireturn, 1) := by decide +kernel
theorem dL_law_1236 : decode cL_law 1236 = .ok (.iinc 3 6, 3) := by decide +kernel
theorem dL_law_1239 : decode cL_law 1239 = .ok (.goto (-1221), 3) := by decide +kernel
theorem dL_law_1242 : decode cL_law 1242 = .ok (.iconst 1, 1) := by decide +kernel
theorem dL_law_1243 : decode cL_law 1243 = .ok (.ireturn, 1) := by decide +kernel
end
section
/-! THE MEMORY: blocks of ints and blocks of longs; 154 cells at the addresses w.2.2 0 .. 153, of the kinds zk -/
abbrev zM : Type := (Nat → Nat → Int32) × (Nat → Nat → Int64)
abbrev zE : Type := va_G × (Nat → ClassId) × (Nat → Nat)
def zkR (j : Nat) : Nat := if j = 0 then 1 else if j = 1 then 16 else if j < 12 then 4 else if j = 12 then 12 else 13
def zkP (j : Nat) : Nat := if j % 2 = 0 then 5 else 11
def zkW (j : Nat) : Nat := if j = 0 then 6 else if j < 15 then zkR (j - 1) else if j < 17 then zkP (j - 15) else if j = 17 then 18 else zkP (j - 18)
def zkT (j : Nat) : Nat := if j = 0 then 3 else if j = 1 then 9 else if j < 16 then zkR (j - 2) else zkP (j - 16)
def zkF (j : Nat) : Nat := if j = 0 then 0 else if j < 15 then zkR (j - 1) else if j < 19 then zkP (j - 15) else if j = 19 then 17 else zkP (j - 20)
def zk (i : Nat) : Nat := if i = 0 then 7 else if i < 35 then zkW (i - 1) else if i < 69 then zkW (i - 35) else if i < 87 then zkT (i - 69) else if i < 129 then zkF (i - 87) else if i = 129 then 15 else if i < 138 then (if i % 2 = 0 then 2 else 14) else if i = 138 then 8 else if i < 152 then 10 else if i < 154 then 14 else 99
/-- a Thing's number in its road -/
def zo (i : Nat) : Nat := if i < 35 then i - 4 else if i < 69 then i - 38 else if i < 87 then i - 73 else i - 90
/-- a Thing's block: the cell of its array -/
def zb (i : Nat) : Nat := i - 1 - zo i
/-- lengths of the reference's arrays, and of rows of longs -/
def zn (i : Nat) : Nat := if i = 139 then 40 else if i = 140 then 16 else if i = 141 then 14 else if i = 142 then 120 else if i = 143 then 40 else if i = 144 then 24 else if i = 145 then 112 else if i = 146 then 14 else if i = 147 then 8 else if i = 148 then 8 else if i = 149 then 187 else if i = 150 then 4 else if i = 151 then 4 else if i = 152 then 64 else 16
def zcK (w : zE) (M : zM) (i : Nat) : Nat → va_E
  | 0 => .inr (0, [.ref (w.2.2 (i + 1)), .ref (w.2.2 (i + 15)), .ref (w.2.2 (i + 17)), .ref (w.2.2 (i + 19)), .int (M.1 i 4)])
  | 1 => .inr (1, [.ref (w.2.2 (i + 1)), .int (M.1 i 0), .ref (w.2.2 (i + 12)), .ref (w.2.2 (i + 13)), .int (M.1 i 1), .int (M.1 i 2), .int (M.1 i 3)])
  | 2 => .inr (2, [.int (M.1 i 0), .int (M.1 i 1), .int (M.1 i 2), .ref (w.2.2 (i + 1))])
  | 3 => .inr (3, [.ref (w.2.2 (i + 1)), .int (M.1 i 1), .int (M.1 i 2), .ref (w.2.2 (i + 2)), .ref (w.2.2 (i + 16))])
  | 4 => .inr (4, [.int (M.1 (zb i) (4 * zo i)), .int (M.1 (zb i) (4 * zo i + 1)), .int (M.1 (zb i) (4 * zo i + 2)), .int (M.1 (zb i) (4 * zo i + 3))])
  | 5 => .inr (5, [.int (M.1 i 0), .int (M.1 i 1), .int (M.1 i 2), .int (M.1 i 3), .int (M.1 i 4), .int (M.1 (i + 1) 0), .ref (w.2.2 (i + 1))])
  | 6 => .inr (6, [.ref (w.2.2 (i + 1)), .ref (w.2.2 (i + 15)), .ref (w.2.2 (i + 17)), .int (M.1 i 3)])
  | 7 => .inr (7, [.ref (w.2.2 (i + 1)), .ref (w.2.2 (i + 35)), .int (M.1 i 2), .ref (w.2.2 (i + 69)), .ref (w.2.2 (i + 87)), .ref (w.2.2 (i + 129))])
  | 8 => .inr (8, [.int (M.1 i 0), .int (M.1 i 1), .ref (w.2.2 (i + 1)), .ref (w.2.2 (i + 2)), .ref (w.2.2 (i + 3)), .int (M.1 i 5), .int (M.1 i 6), .int (M.1 i 7), .int (M.1 i 8), .ref (w.2.2 (i + 4)), .int (M.1 i 10), .int (M.1 i 11), .int (M.1 i 12), .int (M.1 i 13), .int (M.1 i 14), .int (M.1 i 15), .ref (w.2.2 (i + 5)), .ref (w.2.2 (i + 6)), .int (M.1 i 18), .ref (w.2.2 (i + 7)), .int (M.1 i 20), .ref (w.2.2 (i + 8)), .ref (w.2.2 (i + 9)), .ref (w.2.2 (i + 10)), .ref (w.2.2 (i + 11)), .int (M.1 i 25), .ref (w.2.2 (i + 12)), .ref (w.2.2 (i + 13)), .ref (w.2.2 (i + 14)), .ref (w.2.2 (i + 15))])
  | 9 => .inl (w.2.1 0, 120, .inl (M.1 i))
  | 10 => .inl (w.2.1 1, zn i, .inl (M.1 i))
  | 11 => .inl (w.2.1 1, 9, .inl (fun k => M.1 (i - 1) (5 + k)))
  | 12 => .inl (w.2.1 1, 9, .inl (fun k => M.1 i (2 * k)))
  | 13 => .inl (w.2.1 1, 9, .inl (fun k => M.1 (i - 1) (2 * k + 1)))
  | 14 => .inl (w.2.1 2, zn i, .inr (.inl (M.2 i)))
  | 15 => .inl (w.2.1 3, 4, .inr (.inr (.inr (.inr (fun k => some (w.2.2 (i + 1 + 2 * k)))))))
  | 16 => .inl (w.2.1 4, 10, .inr (.inr (.inr (.inr (fun k => some (w.2.2 (i + 1 + k)))))))
  | 17 => .inl (w.2.1 5, 11, .inr (.inr (.inr (.inr (fun k => some (w.2.2 (i + 1 + 2 * k)))))))
  | 18 => .inl (w.2.1 5, 8, .inr (.inr (.inr (.inr (fun k => some (w.2.2 (i + 1 + 2 * (M.1 i k).toNatClampNeg)))))))
  | _ => .inr (0, [])
def zc (w : zE) (M : zM) (i : Nat) : va_E := zcK w M i (zk i)
def zP (w : zE) (M : zM) (H : Heap) : Prop := ∀ i, i < 154 → va_at w.1 vwCl (w.2.2 i, zc w M i) H
def zJ (w : zE) : Prop := ∀ i j, i < 154 → j < 154 → w.2.2 i = w.2.2 j → i = j
def zA (w : zE) (q : Nat) : Prop := ∃ i, i < 154 ∧ q = w.2.2 i
def zT (w : zE) : List (ClassId × FieldType) := [(w.2.1 0, .char), (w.2.1 1, .int), (w.2.1 2, .long), (w.2.1 3, .object RX2), (w.2.1 4, .object RX4), (w.2.1 5, .object RX5)]
/-- a write: of an int, of a long -/
def zs (M : zM) (b o : Nat) (v : Int32) : zM := (va_up M.1 b (va_up (M.1 b) o v), M.2)
def zy (M : zM) (b o : Nat) (v : Int64) : zM := (M.1, va_up M.2 b (va_up (M.2 b) o v))
/-- which ints a cell holds -/
def zown (i b o : Nat) : Nat → Prop
  | 4 => b = zb i ∧ o / 4 = zo i
  | 5 => (b = i ∧ o < 5) ∨ b = i + 1
  | 11 => b = i - 1 ∧ 5 ≤ o
  | 12 => b = i ∧ o % 2 = 0
  | 13 => b = i - 1 ∧ o % 2 = 1
  | 14 => False
  | 15 => False
  | 16 => False
  | 17 => False
  | _ => b = i
def zowner (b o : Nat) : Nat := if zk b = 5 then (if o < 5 then b else b + 1) else if zk b = 11 then b - 1 else if zk b = 16 then b + 1 + o / 4 else if zk b = 12 then (if o % 2 = 0 then b else b + 1) else b
theorem zk_lt {i : Nat} (h : zk i ≠ 99) : i < 154 := by
  rcases Nat.lt_or_ge i 154 with q | q
  · exact q
  · exact absurd (by unfold zk; repeat (rw [if_neg (by omega)])) h
theorem zk_lay : ∀ i, i < 154 → (zk i = 4 → zk (zb i) = 16 ∧ zb i + 1 + zo i = i) ∧ (zk i = 5 → zk (i + 1) = 11) ∧ (zk i = 11 → 0 < i ∧ zk (i - 1) = 5) ∧ (zk i = 12 → zk (i + 1) = 13) ∧ (zk i = 13 → 0 < i ∧ zk (i - 1) = 12) ∧ zk i ≤ 18 := by decide +kernel
theorem zown_owner {i b o : Nat} (hi : i < 154) (h : zown i b o (zk i)) : zowner b o = i := by
  obtain ⟨h4, h5, h11, h12, h13, h18⟩ := zk_lay i hi
  generalize hk : zk i = k at *
  match k, h18 with
  | 0, _ => simp only [zown] at h; subst h; simp [zowner, hk]
  | 1, _ => simp only [zown] at h; subst h; simp [zowner, hk]
  | 2, _ => simp only [zown] at h; subst h; simp [zowner, hk]
  | 3, _ => simp only [zown] at h; subst h; simp [zowner, hk]
  | 4, _ =>
    simp only [zown] at h
    obtain ⟨rfl, h2⟩ := h
    obtain ⟨q1, q2⟩ := h4 rfl
    simp [zowner, q1, h2, q2]
  | 5, _ =>
    simp only [zown] at h
    rcases h with ⟨rfl, h2⟩ | rfl
    · simp [zowner, hk, h2]
    · simp [zowner, h5 rfl]
  | 6, _ => simp only [zown] at h; subst h; simp [zowner, hk]
  | 7, _ => simp only [zown] at h; subst h; simp [zowner, hk]
  | 8, _ => simp only [zown] at h; subst h; simp [zowner, hk]
  | 9, _ => simp only [zown] at h; subst h; simp [zowner, hk]
  | 10, _ => simp only [zown] at h; subst h; simp [zowner, hk]
  | 11, _ =>
    simp only [zown] at h
    obtain ⟨rfl, h2⟩ := h
    obtain ⟨q1, q2⟩ := h11 rfl
    have q3 : ¬ o < 5 := by omega
    simp only [zowner, q2, if_true, if_neg q3]
    omega
  | 12, _ =>
    simp only [zown] at h
    obtain ⟨rfl, h2⟩ := h
    simp [zowner, hk, h2]
  | 13, _ =>
    simp only [zown] at h
    obtain ⟨rfl, h2⟩ := h
    obtain ⟨q1, q2⟩ := h13 rfl
    have q3 : ¬ o % 2 = 0 := by omega
    simp [zowner, q2, q3]
    omega
  | 14, _ => exact absurd h (by simp [zown])
  | 15, _ => exact absurd h (by simp [zown])
  | 16, _ => exact absurd h (by simp [zown])
  | 17, _ => exact absurd h (by simp [zown])
  | 18, _ => simp only [zown] at h; subst h; simp [zowner, hk]
  | n + 19, q => omega
/-- a cell hangs on its own ints and longs alone -/
theorem zc_local {w : zE} {M M' : zM} {i : Nat} (h1 : ∀ b o, zown i b o (zk i) → M'.1 b o = M.1 b o) (h2 : M'.2 i = M.2 i) : zc w M' i = zc w M i := by
  unfold zc
  generalize zk i = k at *
  match k with
  | 0 => simp only [zcK, h1 _ _ (show zown i i 4 0 from rfl)]
  | 1 => simp only [zcK, h1 i _ (show zown i i _ 1 from rfl)]
  | 2 => simp only [zcK, h1 i _ (show zown i i _ 2 from rfl)]
  | 3 => simp only [zcK, h1 i _ (show zown i i _ 3 from rfl)]
  | 4 => simp only [zcK, h1 (zb i) (4 * zo i) ⟨rfl, by omega⟩, h1 (zb i) (4 * zo i + 1) ⟨rfl, by omega⟩, h1 (zb i) (4 * zo i + 2) ⟨rfl, by omega⟩, h1 (zb i) (4 * zo i + 3) ⟨rfl, by omega⟩]
  | 5 => simp only [zcK, h1 i 0 (Or.inl ⟨rfl, by omega⟩), h1 i 1 (Or.inl ⟨rfl, by omega⟩), h1 i 2 (Or.inl ⟨rfl, by omega⟩), h1 i 3 (Or.inl ⟨rfl, by omega⟩), h1 i 4 (Or.inl ⟨rfl, by omega⟩), h1 (i + 1) 0 (Or.inr rfl)]
  | 6 => simp only [zcK, h1 i _ (show zown i i _ 6 from rfl)]
  | 7 => simp only [zcK, h1 i _ (show zown i i _ 7 from rfl)]
  | 8 => simp only [zcK, h1 i _ (show zown i i _ 8 from rfl)]
  | 9 => have e : M'.1 i = M.1 i := funext fun k => h1 i k (show zown i i k 9 from rfl)
         simp only [zcK, e]
  | 10 => have e : M'.1 i = M.1 i := funext fun k => h1 i k (show zown i i k 10 from rfl)
          simp only [zcK, e]
  | 11 => have e : (fun k => M'.1 (i - 1) (5 + k)) = (fun k => M.1 (i - 1) (5 + k)) := funext fun k => h1 (i - 1) (5 + k) ⟨rfl, by omega⟩
          simp only [zcK, e]
  | 12 => have e : (fun k => M'.1 i (2 * k)) = (fun k => M.1 i (2 * k)) := funext fun k => h1 i (2 * k) ⟨rfl, by omega⟩
          simp only [zcK, e]
  | 13 => have e : (fun k => M'.1 (i - 1) (2 * k + 1)) = (fun k => M.1 (i - 1) (2 * k + 1)) := funext fun k => h1 (i - 1) (2 * k + 1) ⟨rfl, by omega⟩
          simp only [zcK, e]
  | 14 => simp only [zcK, h2]
  | 15 => simp only [zcK]
  | 16 => simp only [zcK]
  | 17 => simp only [zcK]
  | 18 => have e : M'.1 i = M.1 i := funext fun k => h1 i k (show zown i i k 18 from rfl)
          simp only [zcK, e]
  | n + 19 => simp only [zcK]
theorem zs_other {w : zE} {M : zM} {i b o : Nat} {v : Int32} (hi : i < 154) (ho : zown i b o (zk i)) : ∀ j, j < 154 → j ≠ i → zc w (zs M b o v) j = zc w M j := by
  intro j hj hne
  refine zc_local (fun b' o' h => ?_) rfl
  by_cases hb : b' = b
  · subst hb
    by_cases ho' : o' = o
    · subst ho'
      exact absurd ((zown_owner hj h).symm.trans (zown_owner hi ho)) hne
    · show va_up M.1 b' (va_up (M.1 b') o v) b' o' = _
      rw [va_up_self, va_up_ne _ _ ho']
  · show va_up M.1 b (va_up (M.1 b) o v) b' o' = _
    rw [va_up_ne _ _ hb]
theorem zy_other {w : zE} {M : zM} {i o : Nat} {v : Int64} : ∀ j, j < 154 → j ≠ i → zc w (zy M i o v) j = zc w M j := by
  intro j hj hne
  refine zc_local (fun b' o' h => rfl) ?_
  show va_up M.2 i _ j = _
  rw [va_up_ne _ _ hne]
/-- the cells as a list -/
def zL0 (w : zE) (M : zM) : va_W := (List.range 154).map (fun i => (w.2.2 i, zc w M i))
theorem zL0_at {w : zE} {M : zM} {i : Nat} (hi : i < 154) : (zL0 w M)[i]? = some (w.2.2 i, zc w M i) := by
  unfold zL0
  rw [List.getElem?_map, List.getElem?_range hi]
  rfl
theorem zL0_inv {w : zE} {M : zM} {k : Nat} {q : Nat × va_E} (h : (zL0 w M)[k]? = some q) : k < 154 ∧ q = (w.2.2 k, zc w M k) := by
  have hk : k < 154 := by
    have h1 := (List.getElem?_eq_some_iff.mp h).1
    unfold zL0 at h1
    rw [List.length_map, List.length_range] at h1
    exact h1
  rw [zL0_at hk] at h
  exact ⟨hk, (Option.some.inj h).symm⟩
theorem zP.P {w : zE} {M : zM} {H : Heap} (h : zP w M H) : va_P w.1 vwCl (zL0 w M) H := by
  intro k q hk
  obtain ⟨h1, rfl⟩ := zL0_inv hk
  exact h k h1
theorem zP.D {w : zE} {M : zM} {A : Nat → Prop} (hJ : zJ w) (hA : ∀ i, i < 154 → A (w.2.2 i)) : va_D A (zL0 w M) := by
  refine ⟨fun i j p q hi hj e => ?_, fun k q hk => ?_⟩
  · obtain ⟨h1, rfl⟩ := zL0_inv hi
    obtain ⟨h2, rfl⟩ := zL0_inv hj
    exact hJ i j h1 h2 e
  · obtain ⟨h1, rfl⟩ := zL0_inv hk
    exact hA k h1
theorem zP.put {w : zE} {M M' : zM} {H : Heap} {i : Nat} {e : va_E} (hi : i < 154) (h : va_P w.1 vwCl ((zL0 w M).set i (w.2.2 i, e)) H) (hs : zc w M' i = e) (ho : ∀ j, j < 154 → j ≠ i → zc w M' j = zc w M j) : zP w M' H := by
  intro j hj
  have hl : i < (zL0 w M).length := by unfold zL0; rw [List.length_map, List.length_range]; exact hi
  by_cases hji : j = i
  · subst hji
    rw [hs]
    exact h j _ (List.getElem?_set_self hl)
  · rw [ho j hj hji]
    exact h j _ (by rw [List.getElem?_set_ne (Ne.symm hji)]; exact zL0_at hj)
end
section
/-! THE WALK over the memory: zG is all that stays the same in a method's walk -/
abbrev zG : Type := (Program × Launch × Env × Room) × (State × MethodId × Array Value × List Frame) × (Method × Code × Nat × Nat) × ((Nat → Prop) × (State → Prop))
def zL : Nat → List (Option Value) → List (Nat × Value)
  | _, [] => []
  | n, none :: r => zL (n + 1) r
  | n, some v :: r => (n, v) :: zL (n + 1) r
theorem zL_mem : ∀ (lv : List (Option Value)) (n k : Nat) (v : Value), (k, v) ∈ zL n lv ↔ n ≤ k ∧ lv[k - n]? = some (some v)
  | [], n, k, v => by simp [zL]
  | none :: r, n, k, v => by
    rw [zL, zL_mem r (n + 1) k v]
    constructor
    · rintro ⟨h1, h2⟩
      refine ⟨by omega, ?_⟩
      rw [show k - n = (k - (n + 1)) + 1 by omega, List.getElem?_cons_succ]
      exact h2
    · rintro ⟨h1, h2⟩
      rcases Nat.eq_or_lt_of_le h1 with q | q
      · subst q
        rw [Nat.sub_self] at h2
        simp at h2
      · refine ⟨q, ?_⟩
        rw [show k - n = (k - (n + 1)) + 1 by omega, List.getElem?_cons_succ] at h2
        exact h2
  | some x :: r, n, k, v => by
    rw [zL, List.mem_cons, zL_mem r (n + 1) k v]
    constructor
    · rintro (h | ⟨h1, h2⟩)
      · cases h
        refine ⟨Nat.le_refl _, ?_⟩
        rw [Nat.sub_self]
        rfl
      · refine ⟨by omega, ?_⟩
        rw [show k - n = (k - (n + 1)) + 1 by omega, List.getElem?_cons_succ]
        exact h2
    · rintro ⟨h1, h2⟩
      rcases Nat.eq_or_lt_of_le h1 with q | q
      · subst q
        rw [Nat.sub_self] at h2
        simp at h2
        exact Or.inl (by rw [h2])
      · refine Or.inr ⟨q, ?_⟩
        rw [show k - n = (k - (n + 1)) + 1 by omega, List.getElem?_cons_succ] at h2
        exact h2
theorem zL_at {ls : Array Slot} {nL k : Nat} {lv : List (Option Value)} {v : Value} (h : lv_has ls nL (zL 0 lv)) (hk : lv[k]? = some (some v)) : ls[k]? = some (.val v) := h.2.2 (k, v) ((zL_mem lv 0 k v).mpr ⟨Nat.zero_le _, hk⟩)
theorem zL_less {ls : Array Slot} {nL : Nat} {l l' : List (Nat × Value)} (h : lv_has ls nL l) (hs : ∀ q ∈ l', q ∈ l) : lv_has ls nL l' := ⟨h.1, h.2.1, fun q hq => h.2.2 q (hs q hq)⟩
/-- no long stands just ahead of local i -/
def zok (lv : List (Option Value)) : Nat → Bool
  | 0 => true
  | i + 1 => match lv[i]? with
    | some (some v) => v.category == 1
    | _ => true
theorem zL_set {lv : List (Option Value)} {i : Nat} {v : Value} (hok : zok lv i = true) : ∀ q ∈ zL 0 (lv.set i (some v)), q ∈ (i, v) :: (zL 0 lv).filter (fun q => !(q.1 == i) && !(q.1 + 1 == i && q.2.category == 2)) := by
  rintro ⟨k, x⟩ hq
  obtain ⟨-, h2⟩ := (zL_mem _ 0 k x).mp hq
  rw [Nat.sub_zero] at h2
  by_cases hk : k = i
  · subst hk
    have hl : k < lv.length := by
      have := (List.getElem?_eq_some_iff.mp h2).1
      rwa [List.length_set] at this
    rw [List.getElem?_set_self hl] at h2
    have : v = x := by simpa using h2
    subst this
    exact List.mem_cons_self
  · rw [List.getElem?_set_ne (Ne.symm hk)] at h2
    refine List.mem_cons_of_mem _ (List.mem_filter.mpr ⟨(zL_mem lv 0 k x).mpr ⟨Nat.zero_le _, h2⟩, ?_⟩)
    have h1 : (k == i) = false := by simpa using hk
    by_cases hk1 : k + 1 = i
    · subst hk1
      simp only [zok, h2, beq_iff_eq] at hok
      simp [hok]
    · have h3 : (k + 1 == i) = false := by simpa using hk1
      simp [h3, hk]
theorem zL_set2 {lv : List (Option Value)} {i : Nat} {v : Value} (hok : zok lv i = true) : ∀ q ∈ zL 0 ((lv.set i (some v)).set (i + 1) none), q ∈ (i, v) :: (zL 0 lv).filter (fun q => !(q.1 == i) && (!(q.1 == i + 1) && !(q.1 + 1 == i && q.2.category == 2))) := by
  rintro ⟨k, x⟩ hq
  obtain ⟨-, h2⟩ := (zL_mem _ 0 k x).mp hq
  rw [Nat.sub_zero] at h2
  by_cases hk2 : k = i + 1
  · subst hk2
    have hl : i + 1 < (lv.set i (some v)).length := by
      have := (List.getElem?_eq_some_iff.mp h2).1
      rwa [List.length_set] at this
    rw [List.getElem?_set_self hl] at h2
    simp at h2
  · rw [List.getElem?_set_ne (Ne.symm hk2)] at h2
    by_cases hk : k = i
    · subst hk
      have hl : k < lv.length := by
        have := (List.getElem?_eq_some_iff.mp h2).1
        rwa [List.length_set] at this
      rw [List.getElem?_set_self hl] at h2
      have : v = x := by simpa using h2
      subst this
      exact List.mem_cons_self
    · rw [List.getElem?_set_ne (Ne.symm hk)] at h2
      refine List.mem_cons_of_mem _ (List.mem_filter.mpr ⟨(zL_mem lv 0 k x).mpr ⟨Nat.zero_le _, h2⟩, ?_⟩)
      by_cases hk1 : k + 1 = i
      · subst hk1
        simp only [zok, h2, beq_iff_eq] at hok
        simp [hok, hk2]
      · have h3 : (k + 1 == i) = false := by simpa using hk1
        simp [h3, hk, hk2]
/-- the words that every method may ask for -/
def zTb : List Cond := lw_tbl.filter goodWord
theorem zTb_in {c : Cond} (h : c ∈ lw_tbl) (hg : goodWord c = true) : c ∈ zTb := List.mem_filter.mpr ⟨h, hg⟩
/-- the Tape's own text and String's static, which lie outside A -/
def zSt (w : zE) (A : Nat → Prop) (U : State) (H : Heap) : Prop := vk_R "GladRoad$Tape" 77 "pbum" (w.2.2 200) U ∧ vk_S 1 [4] [[112, 98, 117, 109]] (fun _ => w.2.2 200) (fun _ => w.2.2 201) A U H ∧ va_Z "java/lang/String" "COMPACT_STRINGS" "Z" (.int 1) A U H
theorem zSt_use {w : zE} {A : Nat → Prop} {s U : State} {H : Heap} {locs : List Loc} (h : zSt w A s s.heap) (hS : va_S A s.heap H locs) (hA : ∀ q, zA w q → A q) (hW : s.WarmedH U.vm) (hU : U.heap = H) : zSt w (zA w) U U.heap := by
  subst hU
  exact ⟨vk_R.warm hW h.1, ((h.2.1.kept hS.2.1).narrow hA).moved hW.alike, ((h.2.2.kept hS.2.1).narrow hA).moved hW.alike⟩
def ZW (w : zE) (g : zG) (nL pc : Nat) (lv : List (Option Value)) (st : List Value) (M : zM) : Prop :=
  ∀ (H : Heap) (locs : List Loc) (ls : Array Slot), lv_has ls nL (zL 0 lv) → zP w M H → va_S g.2.2.2.1 g.2.1.1.heap H locs → W g.1.1 g.1.2.1 g.1.2.2.1 g.1.2.2.2 g.2.1.1 g.2.1.2.1 g.2.1.2.2.1 g.2.1.2.2.2 g.2.2.1.1 g.2.2.1.2.1 H locs g.2.2.1.2.2.1 g.2.2.1.2.2.2 g.2.2.2.2 (F0 g.2.1.2.1 pc ls st)
/-- what holds all along: the machine, the code, the tables, the classes, the room (D frames deep) -/
def zF (w : zE) (g : zG) (own : String) (cc : ByteArray) (nL D : Nat) : Prop :=
  g.1.1.tables.exec = Jvm.exec ∧ g.2.2.1.2.1.code = cc ∧ g.2.2.1.2.1.maxLocals = nL ∧ g.2.1.1.vm.findClass own = some g.2.1.2.1.cls ∧ (∀ c ∈ zTb, c.before g.2.1.2.2.1 g.2.1.1 = true) ∧ g.2.2.1.1.locks = false ∧ va_K w.1 vwCl (zT w) g.2.1.1 ∧ zJ w ∧ (∀ i, i < 154 → g.2.2.2.1 (w.2.2 i)) ∧ D ≤ g.1.2.2.2.frames ∧ 60 * D ≤ g.1.2.2.2.locals ∧ g.2.2.1.2.2.1 ≤ g.1.2.2.2.cells ∧ g.2.2.1.2.2.2 ≤ g.1.2.2.2.slots ∧ zSt w g.2.2.2.1 g.2.1.1 g.2.1.1.heap
section ZR
variable {w : zE} {g : zG} {own : String} {cc : ByteArray} {nL D pc : Nat} {lv lv' : List (Option Value)} {st : List Value} {M : zM}
theorem z_iconst {n : Int} {v : Int32} (F : zF w g own cc nL D) (hd : decode cc pc = .ok (.iconst n, 1)) (hv : Int32.ofInt n = v) (k : ZW w g nL (pc + 1) lv (.int v :: st) M) : ZW w g nL (pc) lv (st) M := fun H locs ls hl hP hS => lv_iconst F.1 F.2.1 hd hv (k H locs ls hl hP hS)
theorem z_bipush {n : Int} {v : Int32} (F : zF w g own cc nL D) (hd : decode cc pc = .ok (.bipush n, 2)) (hv : (Int8.ofInt n).toInt32 = v) (k : ZW w g nL (pc + 2) lv (.int v :: st) M) : ZW w g nL (pc) lv (st) M := fun H locs ls hl hP hS => lv_bipush F.1 F.2.1 hd hv (k H locs ls hl hP hS)
theorem z_sipush {n : Int} {v : Int32} (F : zF w g own cc nL D) (hd : decode cc pc = .ok (.sipush n, 3)) (hv : (Int16.ofInt n).toInt32 = v) (k : ZW w g nL (pc + 3) lv (.int v :: st) M) : ZW w g nL (pc) lv (st) M := fun H locs ls hl hP hS => lv_sipush F.1 F.2.1 hd hv (k H locs ls hl hP hS)
theorem z_lconst {n : Fin 2} {v : Int64} (F : zF w g own cc nL D) (hd : decode cc pc = .ok (.lconst n, 1)) (hv : Int64.ofNat (n : Nat) = v) (k : ZW w g nL (pc + 1) lv (.long v :: st) M) : ZW w g nL (pc) lv (st) M := fun H locs ls hl hP hS => lv_lconst F.1 F.2.1 hd hv (k H locs ls hl hP hS)
theorem z_iload_n {n : Fin 4} {x : Int32} (F : zF w g own cc nL D) (hd : decode cc pc = .ok (.iload_n n, 1)) (hv : lv[(n : Nat)]? = some (some (.int x))) (k : ZW w g nL (pc + 1) lv (.int x :: st) M) : ZW w g nL (pc) lv (st) M := fun H locs ls hl hP hS => lv_iload_n F.1 F.2.1 hd rfl (zL_at hl hv) (k H locs ls hl hP hS)
theorem z_iload {n : Nat} {x : Int32} (F : zF w g own cc nL D) (hd : decode cc pc = .ok (.iload n, 2)) (hv : lv[n]? = some (some (.int x))) (k : ZW w g nL (pc + 2) lv (.int x :: st) M) : ZW w g nL (pc) lv (st) M := fun H locs ls hl hP hS => lv_iload F.1 F.2.1 hd (zL_at hl hv) (k H locs ls hl hP hS)
theorem z_lload_n {n : Fin 4} {x : Int64} (F : zF w g own cc nL D) (hd : decode cc pc = .ok (.lload_n n, 1)) (hv : lv[(n : Nat)]? = some (some (.long x))) (k : ZW w g nL (pc + 1) lv (.long x :: st) M) : ZW w g nL (pc) lv (st) M := fun H locs ls hl hP hS => lv_lload_n F.1 F.2.1 hd rfl (zL_at hl hv) (k H locs ls hl hP hS)
theorem z_lload {n : Nat} {x : Int64} (F : zF w g own cc nL D) (hd : decode cc pc = .ok (.lload n, 2)) (hv : lv[n]? = some (some (.long x))) (k : ZW w g nL (pc + 2) lv (.long x :: st) M) : ZW w g nL (pc) lv (st) M := fun H locs ls hl hP hS => lv_lload F.1 F.2.1 hd (zL_at hl hv) (k H locs ls hl hP hS)
theorem z_aload_n {n : Fin 4} {x : Nat} (F : zF w g own cc nL D) (hd : decode cc pc = .ok (.aload_n n, 1)) (hv : lv[(n : Nat)]? = some (some (.ref x))) (k : ZW w g nL (pc + 1) lv (.ref x :: st) M) : ZW w g nL (pc) lv (st) M := fun H locs ls hl hP hS => lv_aload_n F.1 F.2.1 hd rfl (zL_at hl hv) (k H locs ls hl hP hS)
theorem z_aload {n : Nat} {x : Nat} (F : zF w g own cc nL D) (hd : decode cc pc = .ok (.aload n, 2)) (hv : lv[n]? = some (some (.ref x))) (k : ZW w g nL (pc + 2) lv (.ref x :: st) M) : ZW w g nL (pc) lv (st) M := fun H locs ls hl hP hS => lv_aload F.1 F.2.1 hd (zL_at hl hv) (k H locs ls hl hP hS)
theorem z_istore_n {n : Fin 4} {x : Int32} (F : zF w g own cc nL D) (hd : decode cc pc = .ok (.istore_n n, 1)) (hn : (n : Nat) < nL) (hok : zok lv (n : Nat) = true) (he : lv.set (n : Nat) (some (.int x)) = lv') (k : ZW w g nL (pc + 1) lv' (st) M) : ZW w g nL (pc) lv (.int x :: st) M := fun H locs ls hl hP hS => lv_istore_n F.1 F.2.1 hd rfl hl hn rfl (fun ls2 hl2 => k H locs ls2 (he ▸ zL_less hl2 (zL_set hok)) hP hS)
theorem z_istore {n : Nat} {x : Int32} (F : zF w g own cc nL D) (hd : decode cc pc = .ok (.istore n, 2)) (hn : n < nL) (hok : zok lv n = true) (he : lv.set n (some (.int x)) = lv') (k : ZW w g nL (pc + 2) lv' (st) M) : ZW w g nL (pc) lv (.int x :: st) M := fun H locs ls hl hP hS => lv_istore F.1 F.2.1 hd hl hn rfl (fun ls2 hl2 => k H locs ls2 (he ▸ zL_less hl2 (zL_set hok)) hP hS)
theorem z_astore_n {n : Fin 4} {x : Nat} (F : zF w g own cc nL D) (hd : decode cc pc = .ok (.astore_n n, 1)) (hn : (n : Nat) < nL) (hok : zok lv (n : Nat) = true) (he : lv.set (n : Nat) (some (.ref x)) = lv') (k : ZW w g nL (pc + 1) lv' (st) M) : ZW w g nL (pc) lv (.ref x :: st) M := fun H locs ls hl hP hS => lv_astore_n F.1 F.2.1 hd rfl hl hn rfl (fun ls2 hl2 => k H locs ls2 (he ▸ zL_less hl2 (zL_set hok)) hP hS)
theorem z_astore {n : Nat} {x : Nat} (F : zF w g own cc nL D) (hd : decode cc pc = .ok (.astore n, 2)) (hn : n < nL) (hok : zok lv n = true) (he : lv.set n (some (.ref x)) = lv') (k : ZW w g nL (pc + 2) lv' (st) M) : ZW w g nL (pc) lv (.ref x :: st) M := fun H locs ls hl hP hS => lv_astore F.1 F.2.1 hd hl hn rfl (fun ls2 hl2 => k H locs ls2 (he ▸ zL_less hl2 (zL_set hok)) hP hS)
theorem z_lstore {n : Nat} {x : Int64} (F : zF w g own cc nL D) (hd : decode cc pc = .ok (.lstore n, 2)) (hn : n + 1 < nL) (hok : zok lv n = true) (he : (lv.set n (some (.long x))).set (n + 1) none = lv') (k : ZW w g nL (pc + 2) lv' (st) M) : ZW w g nL (pc) lv (.long x :: st) M := fun H locs ls hl hP hS => lv_lstore F.1 F.2.1 hd hl hn rfl (fun ls2 hl2 => k H locs ls2 (he ▸ zL_less hl2 (zL_set2 hok)) hP hS)
theorem z_lstore_n {n : Fin 4} {x : Int64} (F : zF w g own cc nL D) (hd : decode cc pc = .ok (.lstore_n n, 1)) (hn : (n : Nat) + 1 < nL) (hok : zok lv (n : Nat) = true) (he : (lv.set (n : Nat) (some (.long x))).set ((n : Nat) + 1) none = lv') (k : ZW w g nL (pc + 1) lv' (st) M) : ZW w g nL (pc) lv (.long x :: st) M := fun H locs ls hl hP hS => lv_lstore_n F.1 F.2.1 hd rfl hl hn rfl (fun ls2 hl2 => k H locs ls2 (he ▸ zL_less hl2 (zL_set2 hok)) hP hS)
theorem z_iinc {n : Nat} {j : Int} {x v : Int32} (F : zF w g own cc nL D) (hd : decode cc pc = .ok (.iinc n j, 3)) (hv : lv[n]? = some (some (.int x))) (hj : x + Int32.ofInt j = v) (hn : n < nL) (hok : zok lv n = true) (he : lv.set n (some (.int v)) = lv') (k : ZW w g nL (pc + 3) lv' (st) M) : ZW w g nL (pc) lv (st) M := fun H locs ls hl hP hS => by
  obtain ⟨q, hq⟩ := List.getElem?_of_mem ((zL_mem lv 0 n _).mpr ⟨Nat.zero_le _, hv⟩)
  exact lv_iinc F.1 F.2.1 hd hl hq hj hn rfl (fun ls2 hl2 => k H locs ls2 (he ▸ zL_less hl2 (zL_set hok)) hP hS)
theorem z_iadd {x y : Int32} (F : zF w g own cc nL D) (hd : decode cc pc = .ok (.iadd, 1))  (k : ZW w g nL (pc + 1) lv (.int (x + y) :: st) M) : ZW w g nL (pc) lv (.int y :: .int x :: st) M := fun H locs ls hl hP hS => lv_iadd F.1 F.2.1 hd  (k H locs ls hl hP hS)
theorem z_isub {x y : Int32} (F : zF w g own cc nL D) (hd : decode cc pc = .ok (.isub, 1))  (k : ZW w g nL (pc + 1) lv (.int (x - y) :: st) M) : ZW w g nL (pc) lv (.int y :: .int x :: st) M := fun H locs ls hl hP hS => lv_isub F.1 F.2.1 hd  (k H locs ls hl hP hS)
theorem z_imul {x y : Int32} (F : zF w g own cc nL D) (hd : decode cc pc = .ok (.imul, 1))  (k : ZW w g nL (pc + 1) lv (.int (x * y) :: st) M) : ZW w g nL (pc) lv (.int y :: .int x :: st) M := fun H locs ls hl hP hS => lv_imul F.1 F.2.1 hd  (k H locs ls hl hP hS)
theorem z_iand {x y : Int32} (F : zF w g own cc nL D) (hd : decode cc pc = .ok (.iand, 1))  (k : ZW w g nL (pc + 1) lv (.int (x &&& y) :: st) M) : ZW w g nL (pc) lv (.int y :: .int x :: st) M := fun H locs ls hl hP hS => lv_iand F.1 F.2.1 hd  (k H locs ls hl hP hS)
theorem z_ior {x y : Int32} (F : zF w g own cc nL D) (hd : decode cc pc = .ok (.ior, 1))  (k : ZW w g nL (pc + 1) lv (.int (x ||| y) :: st) M) : ZW w g nL (pc) lv (.int y :: .int x :: st) M := fun H locs ls hl hP hS => lv_ior F.1 F.2.1 hd  (k H locs ls hl hP hS)
theorem z_ixor {x y : Int32} (F : zF w g own cc nL D) (hd : decode cc pc = .ok (.ixor, 1))  (k : ZW w g nL (pc + 1) lv (.int (x ^^^ y) :: st) M) : ZW w g nL (pc) lv (.int y :: .int x :: st) M := fun H locs ls hl hP hS => lv_ixor F.1 F.2.1 hd  (k H locs ls hl hP hS)
theorem z_ishl {x y : Int32} (F : zF w g own cc nL D) (hd : decode cc pc = .ok (.ishl, 1))  (k : ZW w g nL (pc + 1) lv (.int (x <<< (y &&& 31)) :: st) M) : ZW w g nL (pc) lv (.int y :: .int x :: st) M := fun H locs ls hl hP hS => lv_ishl F.1 F.2.1 hd  (k H locs ls hl hP hS)
theorem z_ishr {x y : Int32} (F : zF w g own cc nL D) (hd : decode cc pc = .ok (.ishr, 1))  (k : ZW w g nL (pc + 1) lv (.int (x >>> (y &&& 31)) :: st) M) : ZW w g nL (pc) lv (.int y :: .int x :: st) M := fun H locs ls hl hP hS => lv_ishr F.1 F.2.1 hd  (k H locs ls hl hP hS)
theorem z_idiv {x y : Int32} (F : zF w g own cc nL D) (hd : decode cc pc = .ok (.idiv, 1)) (hne : ¬ y = 0) (k : ZW w g nL (pc + 1) lv (.int (x / y) :: st) M) : ZW w g nL (pc) lv (.int y :: .int x :: st) M := fun H locs ls hl hP hS => lv_idiv F.1 F.2.1 hd hne (k H locs ls hl hP hS)
theorem z_irem {x y : Int32} (F : zF w g own cc nL D) (hd : decode cc pc = .ok (.irem, 1)) (hne : ¬ y = 0) (k : ZW w g nL (pc + 1) lv (.int (x - x / y * y) :: st) M) : ZW w g nL (pc) lv (.int y :: .int x :: st) M := fun H locs ls hl hP hS => lv_irem F.1 F.2.1 hd hne (k H locs ls hl hP hS)
theorem z_ladd {x y : Int64} (F : zF w g own cc nL D) (hd : decode cc pc = .ok (.ladd, 1))  (k : ZW w g nL (pc + 1) lv (.long (x + y) :: st) M) : ZW w g nL (pc) lv (.long y :: .long x :: st) M := fun H locs ls hl hP hS => lv_ladd F.1 F.2.1 hd  (k H locs ls hl hP hS)
theorem z_land {x y : Int64} (F : zF w g own cc nL D) (hd : decode cc pc = .ok (.land, 1))  (k : ZW w g nL (pc + 1) lv (.long (x &&& y) :: st) M) : ZW w g nL (pc) lv (.long y :: .long x :: st) M := fun H locs ls hl hP hS => lv_land F.1 F.2.1 hd  (k H locs ls hl hP hS)
theorem z_lor {x y : Int64} (F : zF w g own cc nL D) (hd : decode cc pc = .ok (.lor, 1))  (k : ZW w g nL (pc + 1) lv (.long (x ||| y) :: st) M) : ZW w g nL (pc) lv (.long y :: .long x :: st) M := fun H locs ls hl hP hS => lv_lor F.1 F.2.1 hd  (k H locs ls hl hP hS)
theorem z_lshl {x : Int64} {y : Int32} (F : zF w g own cc nL D) (hd : decode cc pc = .ok (.lshl, 1))  (k : ZW w g nL (pc + 1) lv (.long (x <<< (y.toInt64 &&& 63)) :: st) M) : ZW w g nL (pc) lv (.int y :: .long x :: st) M := fun H locs ls hl hP hS => lv_lshl F.1 F.2.1 hd rfl (k H locs ls hl hP hS)
theorem z_i2l {x : Int32} (F : zF w g own cc nL D) (hd : decode cc pc = .ok (.i2l, 1))  (k : ZW w g nL (pc + 1) lv (.long (x.toInt64) :: st) M) : ZW w g nL (pc) lv (.int x :: st) M := fun H locs ls hl hP hS => lv_i2l F.1 F.2.1 hd rfl (k H locs ls hl hP hS)
theorem z_l2i {x : Int64} (F : zF w g own cc nL D) (hd : decode cc pc = .ok (.l2i, 1))  (k : ZW w g nL (pc + 1) lv (.int (x.toInt32) :: st) M) : ZW w g nL (pc) lv (.long x :: st) M := fun H locs ls hl hP hS => lv_l2i F.1 F.2.1 hd rfl (k H locs ls hl hP hS)
theorem z_i2b {x : Int32} (F : zF w g own cc nL D) (hd : decode cc pc = .ok (.i2b, 1))  (k : ZW w g nL (pc + 1) lv (.int (x.toInt8.toInt32) :: st) M) : ZW w g nL (pc) lv (.int x :: st) M := fun H locs ls hl hP hS => lv_i2b F.1 F.2.1 hd rfl (k H locs ls hl hP hS)
theorem z_i2s {x : Int32} (F : zF w g own cc nL D) (hd : decode cc pc = .ok (.i2s, 1))  (k : ZW w g nL (pc + 1) lv (.int (x.toInt16.toInt32) :: st) M) : ZW w g nL (pc) lv (.int x :: st) M := fun H locs ls hl hP hS => lv_i2s F.1 F.2.1 hd rfl (k H locs ls hl hP hS)
theorem z_i2c {x : Int32} (F : zF w g own cc nL D) (hd : decode cc pc = .ok (.i2c, 1))  (k : ZW w g nL (pc + 1) lv (.int ((x.toUInt32 % 65536).toInt32) :: st) M) : ZW w g nL (pc) lv (.int x :: st) M := fun H locs ls hl hP hS => lv_i2c F.1 F.2.1 hd rfl (k H locs ls hl hP hS)
theorem z_lcmp {x y : Int64} (F : zF w g own cc nL D) (hd : decode cc pc = .ok (.lcmp, 1))  (k : ZW w g nL (pc + 1) lv (.int (lg_cmp x y) :: st) M) : ZW w g nL (pc) lv (.long y :: .long x :: st) M := fun H locs ls hl hP hS => W.lcmp F.1 F.2.1 hd  (k H locs ls hl hP hS)
theorem z_dup {v : Value} (F : zF w g own cc nL D) (hd : decode cc pc = .ok (.dup, 1)) (hc : v.category = 1) (k : ZW w g nL (pc + 1) lv (v :: v :: st) M) : ZW w g nL (pc) lv (v :: st) M := fun H locs ls hl hP hS => lv_dup F.1 F.2.1 hd hc (k H locs ls hl hP hS)
theorem z_pop {v : Value} (F : zF w g own cc nL D) (hd : decode cc pc = .ok (.pop, 1)) (hc : v.category = 1) (k : ZW w g nL (pc + 1) lv (st) M) : ZW w g nL (pc) lv (v :: st) M := fun H locs ls hl hP hS => lv_pop F.1 F.2.1 hd hc (k H locs ls hl hP hS)
theorem z_dup2 {a b : Value} (F : zF w g own cc nL D) (hd : decode cc pc = .ok (.dup2, 1)) (hc : a.category = 1) (hc2 : b.category = 1) (k : ZW w g nL (pc + 1) lv (a :: b :: a :: b :: st) M) : ZW w g nL (pc) lv (a :: b :: st) M := fun H locs ls hl hP hS => lv_dup2_11 F.1 F.2.1 hd hc hc2 (k H locs ls hl hP hS)
theorem z_ldc2 {n : Nat} {v : Int64} (F : zF w g own cc nL D) (hd : decode cc pc = .ok (.ldc2_w n, 3)) (hc : Cond.constantLong own n v ∈ zTb) (k : ZW w g nL (pc + 3) lv (.long v :: st) M) : ZW w g nL (pc) lv (st) M := fun H locs ls hl hP hS => lv_ldc2 F.1 F.2.1 F.2.2.2.1 (F.2.2.2.2.1 _ hc) hd (k H locs ls hl hP hS)
theorem z_if_eq {x : Int32} {off : Int} {tgt : Nat} (F : zF w g own cc nL D) (hd : decode cc pc = .ok (.ifCond .eq off, 3)) (ht : (pc : Int) + off = (tgt : Int)) (kt : x = 0 → ZW w g nL (tgt) lv (st) M) (kf : ¬ x = 0 → ZW w g nL (pc + 3) lv (st) M) : ZW w g nL (pc) lv (.int x :: st) M := fun H locs ls hl hP hS => lv_if_eq F.1 F.2.1 hd ht (fun q => kt q H locs ls hl hP hS) (fun q => kf q H locs ls hl hP hS)
theorem z_if_ne {x : Int32} {off : Int} {tgt : Nat} (F : zF w g own cc nL D) (hd : decode cc pc = .ok (.ifCond .ne off, 3)) (ht : (pc : Int) + off = (tgt : Int)) (kt : ¬ x = 0 → ZW w g nL (tgt) lv (st) M) (kf : x = 0 → ZW w g nL (pc + 3) lv (st) M) : ZW w g nL (pc) lv (.int x :: st) M := fun H locs ls hl hP hS => lv_if_ne F.1 F.2.1 hd ht (fun q => kt q H locs ls hl hP hS) (fun q => kf q H locs ls hl hP hS)
theorem z_if_lt {x : Int32} {off : Int} {tgt : Nat} (F : zF w g own cc nL D) (hd : decode cc pc = .ok (.ifCond .lt off, 3)) (ht : (pc : Int) + off = (tgt : Int)) (kt : x < 0 → ZW w g nL (tgt) lv (st) M) (kf : 0 ≤ x → ZW w g nL (pc + 3) lv (st) M) : ZW w g nL (pc) lv (.int x :: st) M := fun H locs ls hl hP hS => lv_if_lt F.1 F.2.1 hd ht (fun q => kt q H locs ls hl hP hS) (fun q => kf (Int32.not_lt.mp q) H locs ls hl hP hS)
theorem z_if_ge {x : Int32} {off : Int} {tgt : Nat} (F : zF w g own cc nL D) (hd : decode cc pc = .ok (.ifCond .ge off, 3)) (ht : (pc : Int) + off = (tgt : Int)) (kt : 0 ≤ x → ZW w g nL (tgt) lv (st) M) (kf : x < 0 → ZW w g nL (pc + 3) lv (st) M) : ZW w g nL (pc) lv (.int x :: st) M := fun H locs ls hl hP hS => lv_if_ge F.1 F.2.1 hd ht (fun q => kt q H locs ls hl hP hS) (fun q => kf (Int32.not_le.mp q) H locs ls hl hP hS)
theorem z_if_gt {x : Int32} {off : Int} {tgt : Nat} (F : zF w g own cc nL D) (hd : decode cc pc = .ok (.ifCond .gt off, 3)) (ht : (pc : Int) + off = (tgt : Int)) (kt : 0 < x → ZW w g nL (tgt) lv (st) M) (kf : x ≤ 0 → ZW w g nL (pc + 3) lv (st) M) : ZW w g nL (pc) lv (.int x :: st) M := fun H locs ls hl hP hS => lv_if_gt F.1 F.2.1 hd ht (fun q => kt q H locs ls hl hP hS) (fun q => kf (Int32.not_lt.mp q) H locs ls hl hP hS)
theorem z_if_le {x : Int32} {off : Int} {tgt : Nat} (F : zF w g own cc nL D) (hd : decode cc pc = .ok (.ifCond .le off, 3)) (ht : (pc : Int) + off = (tgt : Int)) (kt : x ≤ 0 → ZW w g nL (tgt) lv (st) M) (kf : 0 < x → ZW w g nL (pc + 3) lv (st) M) : ZW w g nL (pc) lv (.int x :: st) M := fun H locs ls hl hP hS => lv_if_le F.1 F.2.1 hd ht (fun q => kt q H locs ls hl hP hS) (fun q => kf (Int32.not_le.mp q) H locs ls hl hP hS)
theorem z_ic_eq {x y : Int32} {off : Int} {tgt : Nat} (F : zF w g own cc nL D) (hd : decode cc pc = .ok (.if_icmp .eq off, 3)) (ht : (pc : Int) + off = (tgt : Int)) (kt : x = y → ZW w g nL (tgt) lv (st) M) (kf : ¬ x = y → ZW w g nL (pc + 3) lv (st) M) : ZW w g nL (pc) lv (.int y :: .int x :: st) M := fun H locs ls hl hP hS => lv_icmp_eq F.1 F.2.1 hd ht (fun q => kt q H locs ls hl hP hS) (fun q => kf q H locs ls hl hP hS)
theorem z_ic_ne {x y : Int32} {off : Int} {tgt : Nat} (F : zF w g own cc nL D) (hd : decode cc pc = .ok (.if_icmp .ne off, 3)) (ht : (pc : Int) + off = (tgt : Int)) (kt : ¬ x = y → ZW w g nL (tgt) lv (st) M) (kf : x = y → ZW w g nL (pc + 3) lv (st) M) : ZW w g nL (pc) lv (.int y :: .int x :: st) M := fun H locs ls hl hP hS => lv_icmp_ne F.1 F.2.1 hd ht (fun q => kt q H locs ls hl hP hS) (fun q => kf q H locs ls hl hP hS)
theorem z_ic_lt {x y : Int32} {off : Int} {tgt : Nat} (F : zF w g own cc nL D) (hd : decode cc pc = .ok (.if_icmp .lt off, 3)) (ht : (pc : Int) + off = (tgt : Int)) (kt : x < y → ZW w g nL (tgt) lv (st) M) (kf : y ≤ x → ZW w g nL (pc + 3) lv (st) M) : ZW w g nL (pc) lv (.int y :: .int x :: st) M := fun H locs ls hl hP hS => lv_icmp_lt F.1 F.2.1 hd ht (fun q => kt q H locs ls hl hP hS) (fun q => kf (Int32.not_lt.mp q) H locs ls hl hP hS)
theorem z_ic_ge {x y : Int32} {off : Int} {tgt : Nat} (F : zF w g own cc nL D) (hd : decode cc pc = .ok (.if_icmp .ge off, 3)) (ht : (pc : Int) + off = (tgt : Int)) (kt : y ≤ x → ZW w g nL (tgt) lv (st) M) (kf : x < y → ZW w g nL (pc + 3) lv (st) M) : ZW w g nL (pc) lv (.int y :: .int x :: st) M := fun H locs ls hl hP hS => lv_icmp_ge F.1 F.2.1 hd ht (fun q => kt q H locs ls hl hP hS) (fun q => kf (Int32.not_le.mp q) H locs ls hl hP hS)
theorem z_ic_gt {x y : Int32} {off : Int} {tgt : Nat} (F : zF w g own cc nL D) (hd : decode cc pc = .ok (.if_icmp .gt off, 3)) (ht : (pc : Int) + off = (tgt : Int)) (kt : y < x → ZW w g nL (tgt) lv (st) M) (kf : x ≤ y → ZW w g nL (pc + 3) lv (st) M) : ZW w g nL (pc) lv (.int y :: .int x :: st) M := fun H locs ls hl hP hS => lv_icmp_gt F.1 F.2.1 hd ht (fun q => kt q H locs ls hl hP hS) (fun q => kf (Int32.not_lt.mp q) H locs ls hl hP hS)
theorem z_ic_le {x y : Int32} {off : Int} {tgt : Nat} (F : zF w g own cc nL D) (hd : decode cc pc = .ok (.if_icmp .le off, 3)) (ht : (pc : Int) + off = (tgt : Int)) (kt : x ≤ y → ZW w g nL (tgt) lv (st) M) (kf : y < x → ZW w g nL (pc + 3) lv (st) M) : ZW w g nL (pc) lv (.int y :: .int x :: st) M := fun H locs ls hl hP hS => lv_icmp_le F.1 F.2.1 hd ht (fun q => kt q H locs ls hl hP hS) (fun q => kf (Int32.not_le.mp q) H locs ls hl hP hS)
theorem z_goto {off : Int} {tgt : Nat} (F : zF w g own cc nL D) (hd : decode cc pc = .ok (.goto off, 3)) (ht : (pc : Int) + off = (tgt : Int)) (k : ZW w g nL (tgt) lv (st) M) : ZW w g nL (pc) lv (st) M := fun H locs ls hl hP hS => lv_goto F.1 F.2.1 hd ht (k H locs ls hl hP hS)
theorem z_tableIn {dflt lo hi : Int} {offs : Array Int} {len : Nat} {x : Int32} {off : Int} {tgt : Nat} (F : zF w g own cc nL D) (hd : decode cc pc = .ok (.tableswitch dflt lo hi offs, len)) (h1 : ¬ x.toInt < lo) (h2 : ¬ hi < x.toInt) (ho : offs[(x.toInt - lo).toNat]? = some off) (ht : (pc : Int) + off = (tgt : Int)) (k : ZW w g nL (tgt) lv (st) M) : ZW w g nL (pc) lv (.int x :: st) M := fun H locs ls hl hP hS => lv_tableIn F.1 F.2.1 hd h1 h2 ho ht (k H locs ls hl hP hS)
theorem z_tableOut {dflt lo hi : Int} {offs : Array Int} {len : Nat} {x : Int32} {tgt : Nat} (F : zF w g own cc nL D) (hd : decode cc pc = .ok (.tableswitch dflt lo hi offs, len)) (h : x.toInt < lo ∨ hi < x.toInt) (ht : (pc : Int) + dflt = (tgt : Int)) (k : ZW w g nL (tgt) lv (st) M) : ZW w g nL (pc) lv (.int x :: st) M := fun H locs ls hl hP hS => lv_tableOut F.1 F.2.1 hd h ht (k H locs ls hl hP hS)
theorem z_lookup {dflt : Int} {ps : Array (Int × Int)} {len : Nat} {x : Int32} {off : Int} {tgt : Nat} (F : zF w g own cc nL D) (hd : decode cc pc = .ok (.lookupswitch dflt ps, len)) (hp : (ps.toList.zip (ps.toList.drop 1)).all (fun (a, next) => a.1 < next.1) = true) (ho : Op.lookupswitch.offset ps.toList dflt x.toInt = off) (ht : (pc : Int) + off = (tgt : Int)) (k : ZW w g nL (tgt) lv (st) M) : ZW w g nL (pc) lv (.int x :: st) M := fun H locs ls hl hP hS => lv_lookup F.1 F.2.1 hd hp ho ht (k H locs ls hl hP hS)
theorem zc_eq {w : zE} {M : zM} {i k : Nat} (h : zk i = k) : zc w M i = zcK w M i k := by unfold zc; rw [h]
theorem z_get {C : String} {T : u_T} {N ci i idx j : Nat} {fs : List Value} {v : Value} (F : zF w g own cc nL D) (hi : i < 154) (he : zc w M i = .inr (ci, fs)) (hc : vwCl[ci]? = some (C, T, N)) (hin : ∀ c ∈ u_ws C T N, c ∈ zTb) (hj : j < N) (hdec : (T j).1 = C) (hl : Cond.fieldLink own idx C (T j).2.1 (T j).2.2.1 ∈ zTb) (hv : fs[j]? = some v) (hd : decode cc pc = .ok (.getfield idx, 3)) (k : ZW w g nL (pc + 3) lv (v :: st) M) : ZW w g nL (pc) lv (.ref (w.2.2 i) :: st) M := fun H locs ls hl1 hP hS =>
  va_get F.1 F.2.1 F.2.2.2.2.1 hin F.2.2.2.1 F.2.2.2.2.2.2.1 hP.P i (by rw [zL0_at hi, he]) hc j hj (F.2.2.2.2.1 _ hl) (fun _ h => by rw [hdec] at h; exact h) hv hd (k H locs ls hl1 hP hS)
theorem z_put {C : String} {T : u_T} {N ci i idx j : Nat} {fs : List Value} {v : Value} {M' : zM} {ty : FieldType} {ty0 : Nat → FieldType} (F : zF w g own cc nL D) (hi : i < 154) (he : zc w M i = .inr (ci, fs)) (hc : vwCl[ci]? = some (C, T, N)) (hin : ∀ c ∈ u_ws C T N, c ∈ zTb) (hty : ∀ k, k < N → parseFieldDescriptor (T k).2.2.1 = some (ty0 k)) (hnm : ∀ a, a < N → ∀ b, b < N → a ≠ b → (T a).2.1 ≠ (T b).2.1) (hj : j < N) (hdec : (T j).1 = C) (hfin : (T j).2.2.2 = false) (hl : Cond.fieldLink own idx C (T j).2.1 (T j).2.2.1 ∈ zTb) (hd2 : ty0 j = ty) (hn : narrow ty v = v) (hfit : fits ty v = true) (hlen : j < fs.length) (hs : zc w M' i = .inr (ci, fs.set j v)) (ho : ∀ q, q < 154 → q ≠ i → zc w M' q = zc w M q) (hd : decode cc pc = .ok (.putfield idx, 3)) (k : ZW w g nL (pc + 3) lv (st) M') : ZW w g nL (pc) lv (v :: .ref (w.2.2 i) :: st) M := fun H locs ls hl1 hP hS =>
  va_put F.1 F.2.1 F.2.2.2.2.1 hin ty0 hty hnm F.2.2.2.1 F.2.2.2.2.2.2.1 hP.P (zP.D F.2.2.2.2.2.2.2.1 F.2.2.2.2.2.2.2.2.1) hS i (by rw [zL0_at hi, he]) hc j hj (F.2.2.2.2.1 _ hl) (fun _ h => by rw [hdec] at h; exact h) hfin (hd2 ▸ hty j hj) hn hfit hlen hd (fun H1 locs1 hP1 _ hS1 => k H1 locs1 ls hl1 (zP.put hi hP1 hs ho) hS1)
end ZR
end
section
def za (M : zM) (b : Nat) (f : Nat → Int32) : zM := (va_up M.1 b f, M.2)
def zya (M : zM) (b : Nat) (f : Nat → Int64) : zM := (M.1, va_up M.2 b f)
theorem za_other {w : zE} {M : zM} {i b : Nat} {f : Nat → Int32} (hi : i < 154) (ho : ∀ o, f o ≠ M.1 b o → zown i b o (zk i)) : ∀ j, j < 154 → j ≠ i → zc w (za M b f) j = zc w M j := by
  intro j hj hne
  refine zc_local (fun b' o' h => ?_) rfl
  show va_up M.1 b f b' o' = _
  by_cases hb : b' = b
  · subst hb
    rw [va_up_self]
    by_cases he : f o' = M.1 b' o'
    · exact he
    · exact absurd ((zown_owner hj h).symm.trans (zown_owner hi (ho o' he))) hne
  · rw [va_up_ne _ _ hb]
theorem zya_other {w : zE} {M : zM} {i : Nat} {f : Nat → Int64} : ∀ j, j < 154 → j ≠ i → zc w (zya M i f) j = zc w M j := by
  intro j hj hne
  refine zc_local (fun b' o' h => rfl) ?_
  show va_up M.2 i _ j = _
  rw [va_up_ne _ _ hne]
theorem zk_i {i k : Nat} (h : zk i = k) (hk : k ≠ 99) : i < 154 := zk_lt (by rw [h]; exact hk)
theorem zkf0 : ∀ i, i < 154 → zk i = 0 → zk (i + 1) = 1 ∧ zk (i + 15) = 5 ∧ zk (i + 17) = 5 ∧ zk (i + 19) = 17 := by decide +kernel
theorem zkf1 : ∀ i, i < 154 → zk i = 1 → zk (i + 1) = 16 ∧ zk (i + 12) = 12 ∧ zk (i + 13) = 13 := by decide +kernel
theorem zkf2 : ∀ i, i < 154 → zk i = 2 → zk (i + 1) = 14 := by decide +kernel
theorem zkf3 : ∀ i, i < 154 → zk i = 3 → zk (i + 1) = 9 ∧ zk (i + 2) = 1 ∧ zk (i + 16) = 5 := by decide +kernel
theorem zkf5 : ∀ i, i < 154 → zk i = 5 → zk (i + 1) = 11 := by decide +kernel
theorem zkf6 : ∀ i, i < 154 → zk i = 6 → zk (i + 1) = 1 ∧ zk (i + 15) = 5 ∧ zk (i + 17) = 18 := by decide +kernel
theorem zkf7 : ∀ i, i < 154 → zk i = 7 → zk (i + 1) = 6 ∧ zk (i + 35) = 6 ∧ zk (i + 69) = 3 ∧ zk (i + 87) = 0 ∧ zk (i + 129) = 15 := by decide +kernel
theorem zkf8 : ∀ i, i < 154 → zk i = 8 → zk (i + 1) = 10 ∧ zk (i + 2) = 10 ∧ zk (i + 3) = 10 ∧ zk (i + 4) = 10 ∧ zk (i + 5) = 10 ∧ zk (i + 6) = 10 ∧ zk (i + 7) = 10 ∧ zk (i + 8) = 10 ∧ zk (i + 9) = 10 ∧ zk (i + 10) = 10 ∧ zk (i + 11) = 10 ∧ zk (i + 12) = 10 ∧ zk (i + 13) = 10 ∧ zk (i + 14) = 14 ∧ zk (i + 15) = 14 := by decide +kernel
theorem zkf15 : ∀ i, i < 154 → zk i = 15 → ∀ n, n < 4 → zk (i + 1 + 2 * n) = 2 := by decide +kernel
theorem zkf16 : ∀ i, i < 154 → zk i = 16 → ∀ n, n < 10 → zk (i + 1 + n) = 4 ∧ zb (i + 1 + n) = i ∧ zo (i + 1 + n) = n := by decide +kernel
theorem zkf17 : ∀ i, i < 154 → zk i = 17 → ∀ n, n < 11 → zk (i + 1 + 2 * n) = 5 := by decide +kernel
theorem zkf18 : ∀ i, i < 154 → zk i = 18 → ∀ n, n < 8 → zk (i + 1 + 2 * n) = 5 := by decide +kernel
theorem izX0 : ∀ c ∈ wsX00, c ∈ zTb := by decide +kernel
theorem izX1 : ∀ c ∈ wsX10, c ∈ zTb := by decide +kernel
theorem izX2 : ∀ c ∈ wsX20, c ∈ zTb := by decide +kernel
theorem izX3 : ∀ c ∈ wsX30, c ∈ zTb := by decide +kernel
theorem izX4 : ∀ c ∈ wsX40, c ∈ zTb := by decide +kernel
theorem izX5 : ∀ c ∈ wsX50, c ∈ zTb := by decide +kernel
theorem izX6 : ∀ c ∈ wsX60, c ∈ zTb := by decide +kernel
theorem izX7 : ∀ c ∈ wsX70, c ∈ zTb := by decide +kernel
theorem izX8 : ∀ c ∈ wsX80, c ∈ zTb := by decide +kernel
section ZC
variable {w : zE} {g : zG} {own : String} {cc : ByteArray} {nL D pc : Nat} {lv : List (Option Value)} {st : List Value} {M : zM}
theorem zg_X0_road {i idx : Nat} (F : zF w g own cc nL D) (hk : zk i = 0) (hl : Cond.fieldLink own idx "GladRoad$Foresight" "road" "LGladRoad$Road;" ∈ zTb) (hd : decode cc pc = .ok (.getfield idx, 3)) (k : zk (i + 1) = 1 → ZW w g nL (pc + 3) lv (.ref (w.2.2 (i + 1)) :: st) M) : ZW w g nL (pc) lv (.ref (w.2.2 i) :: st) M := z_get (C := RX0) (T := TX0) (N := 5) (ci := 0) (j := 0) F (zk_i hk (by decide)) (zc_eq hk) rfl izX0 (by decide) rfl hl rfl hd (k (zkf0 i (zk_i hk (by decide)) hk).1)
theorem zg_X0_trip {i idx : Nat} (F : zF w g own cc nL D) (hk : zk i = 0) (hl : Cond.fieldLink own idx "GladRoad$Foresight" "trip" "LGladRoad$Trip;" ∈ zTb) (hd : decode cc pc = .ok (.getfield idx, 3)) (k : zk (i + 15) = 5 → ZW w g nL (pc + 3) lv (.ref (w.2.2 (i + 15)) :: st) M) : ZW w g nL (pc) lv (.ref (w.2.2 i) :: st) M := z_get (C := RX0) (T := TX0) (N := 5) (ci := 0) (j := 1) F (zk_i hk (by decide)) (zc_eq hk) rfl izX0 (by decide) rfl hl rfl hd (k (zkf0 i (zk_i hk (by decide)) hk).2.1)
theorem zg_X0_other {i idx : Nat} (F : zF w g own cc nL D) (hk : zk i = 0) (hl : Cond.fieldLink own idx "GladRoad$Foresight" "other" "LGladRoad$Trip;" ∈ zTb) (hd : decode cc pc = .ok (.getfield idx, 3)) (k : zk (i + 17) = 5 → ZW w g nL (pc + 3) lv (.ref (w.2.2 (i + 17)) :: st) M) : ZW w g nL (pc) lv (.ref (w.2.2 i) :: st) M := z_get (C := RX0) (T := TX0) (N := 5) (ci := 0) (j := 2) F (zk_i hk (by decide)) (zc_eq hk) rfl izX0 (by decide) rfl hl rfl hd (k (zkf0 i (zk_i hk (by decide)) hk).2.2.1)
theorem zg_X0_forks {i idx : Nat} (F : zF w g own cc nL D) (hk : zk i = 0) (hl : Cond.fieldLink own idx "GladRoad$Foresight" "forks" "[LGladRoad$Trip;" ∈ zTb) (hd : decode cc pc = .ok (.getfield idx, 3)) (k : zk (i + 19) = 17 → ZW w g nL (pc + 3) lv (.ref (w.2.2 (i + 19)) :: st) M) : ZW w g nL (pc) lv (.ref (w.2.2 i) :: st) M := z_get (C := RX0) (T := TX0) (N := 5) (ci := 0) (j := 3) F (zk_i hk (by decide)) (zc_eq hk) rfl izX0 (by decide) rfl hl rfl hd (k (zkf0 i (zk_i hk (by decide)) hk).2.2.2)
theorem zg_X0_milestone {i idx : Nat} (F : zF w g own cc nL D) (hk : zk i = 0) (hl : Cond.fieldLink own idx "GladRoad$Foresight" "milestone" "I" ∈ zTb) (hd : decode cc pc = .ok (.getfield idx, 3)) (k : ZW w g nL (pc + 3) lv (.int (M.1 i 4) :: st) M) : ZW w g nL (pc) lv (.ref (w.2.2 i) :: st) M := z_get (C := RX0) (T := TX0) (N := 5) (ci := 0) (j := 4) F (zk_i hk (by decide)) (zc_eq hk) rfl izX0 (by decide) rfl hl rfl hd k
theorem zp_X0_milestone {i idx : Nat} {v : Int32} (F : zF w g own cc nL D) (hk : zk i = 0) (hl : Cond.fieldLink own idx "GladRoad$Foresight" "milestone" "I" ∈ zTb) (hd : decode cc pc = .ok (.putfield idx, 3)) (k : ZW w g nL (pc + 3) lv (st) (zs M i 4 v)) : ZW w g nL (pc) lv (.int v :: .ref (w.2.2 i) :: st) M := z_put (C := RX0) (T := TX0) (N := 5) (ci := 0) (j := 4) F (zk_i hk (by decide)) (zc_eq hk) rfl izX0 tyX0_ok nmX0 (by decide) rfl rfl hl rfl rfl rfl (Nat.le_of_ble_eq_true rfl) (by rw [zc_eq hk]; simp [zcK, zs, va_up]) (zs_other (zk_i hk (by decide)) (by rw [hk]; exact rfl)) hd k
theorem zg_X1_things {i idx : Nat} (F : zF w g own cc nL D) (hk : zk i = 1) (hl : Cond.fieldLink own idx "GladRoad$Road" "things" "[LGladRoad$Thing;" ∈ zTb) (hd : decode cc pc = .ok (.getfield idx, 3)) (k : zk (i + 1) = 16 → ZW w g nL (pc + 3) lv (.ref (w.2.2 (i + 1)) :: st) M) : ZW w g nL (pc) lv (.ref (w.2.2 i) :: st) M := z_get (C := RX1) (T := TX1) (N := 7) (ci := 1) (j := 0) F (zk_i hk (by decide)) (zc_eq hk) rfl izX1 (by decide) rfl hl rfl hd (k (zkf1 i (zk_i hk (by decide)) hk).1)
theorem zg_X1_thingCount {i idx : Nat} (F : zF w g own cc nL D) (hk : zk i = 1) (hl : Cond.fieldLink own idx "GladRoad$Road" "thingCount" "I" ∈ zTb) (hd : decode cc pc = .ok (.getfield idx, 3)) (k : ZW w g nL (pc + 3) lv (.int (M.1 i 0) :: st) M) : ZW w g nL (pc) lv (.ref (w.2.2 i) :: st) M := z_get (C := RX1) (T := TX1) (N := 7) (ci := 1) (j := 1) F (zk_i hk (by decide)) (zc_eq hk) rfl izX1 (by decide) rfl hl rfl hd k
theorem zp_X1_thingCount {i idx : Nat} {v : Int32} (F : zF w g own cc nL D) (hk : zk i = 1) (hl : Cond.fieldLink own idx "GladRoad$Road" "thingCount" "I" ∈ zTb) (hd : decode cc pc = .ok (.putfield idx, 3)) (k : ZW w g nL (pc + 3) lv (st) (zs M i 0 v)) : ZW w g nL (pc) lv (.int v :: .ref (w.2.2 i) :: st) M := z_put (C := RX1) (T := TX1) (N := 7) (ci := 1) (j := 1) F (zk_i hk (by decide)) (zc_eq hk) rfl izX1 tyX1_ok nmX1 (by decide) rfl rfl hl rfl rfl rfl (Nat.le_of_ble_eq_true rfl) (by rw [zc_eq hk]; simp [zcK, zs, va_up]) (zs_other (zk_i hk (by decide)) (by rw [hk]; exact rfl)) hd k
theorem zg_X1_where {i idx : Nat} (F : zF w g own cc nL D) (hk : zk i = 1) (hl : Cond.fieldLink own idx "GladRoad$Road" "where" "[I" ∈ zTb) (hd : decode cc pc = .ok (.getfield idx, 3)) (k : zk (i + 12) = 12 → ZW w g nL (pc + 3) lv (.ref (w.2.2 (i + 12)) :: st) M) : ZW w g nL (pc) lv (.ref (w.2.2 i) :: st) M := z_get (C := RX1) (T := TX1) (N := 7) (ci := 1) (j := 2) F (zk_i hk (by decide)) (zc_eq hk) rfl izX1 (by decide) rfl hl rfl hd (k (zkf1 i (zk_i hk (by decide)) hk).2.1)
theorem zg_X1_margin {i idx : Nat} (F : zF w g own cc nL D) (hk : zk i = 1) (hl : Cond.fieldLink own idx "GladRoad$Road" "margin" "[I" ∈ zTb) (hd : decode cc pc = .ok (.getfield idx, 3)) (k : zk (i + 13) = 13 → ZW w g nL (pc + 3) lv (.ref (w.2.2 (i + 13)) :: st) M) : ZW w g nL (pc) lv (.ref (w.2.2 i) :: st) M := z_get (C := RX1) (T := TX1) (N := 7) (ci := 1) (j := 3) F (zk_i hk (by decide)) (zc_eq hk) rfl izX1 (by decide) rfl hl rfl hd (k (zkf1 i (zk_i hk (by decide)) hk).2.2)
theorem zg_X1_personCount {i idx : Nat} (F : zF w g own cc nL D) (hk : zk i = 1) (hl : Cond.fieldLink own idx "GladRoad$Road" "personCount" "I" ∈ zTb) (hd : decode cc pc = .ok (.getfield idx, 3)) (k : ZW w g nL (pc + 3) lv (.int (M.1 i 1) :: st) M) : ZW w g nL (pc) lv (.ref (w.2.2 i) :: st) M := z_get (C := RX1) (T := TX1) (N := 7) (ci := 1) (j := 4) F (zk_i hk (by decide)) (zc_eq hk) rfl izX1 (by decide) rfl hl rfl hd k
theorem zp_X1_personCount {i idx : Nat} {v : Int32} (F : zF w g own cc nL D) (hk : zk i = 1) (hl : Cond.fieldLink own idx "GladRoad$Road" "personCount" "I" ∈ zTb) (hd : decode cc pc = .ok (.putfield idx, 3)) (k : ZW w g nL (pc + 3) lv (st) (zs M i 1 v)) : ZW w g nL (pc) lv (.int v :: .ref (w.2.2 i) :: st) M := z_put (C := RX1) (T := TX1) (N := 7) (ci := 1) (j := 4) F (zk_i hk (by decide)) (zc_eq hk) rfl izX1 tyX1_ok nmX1 (by decide) rfl rfl hl rfl rfl rfl (Nat.le_of_ble_eq_true rfl) (by rw [zc_eq hk]; simp [zcK, zs, va_up]) (zs_other (zk_i hk (by decide)) (by rw [hk]; exact rfl)) hd k
theorem zg_X1_heed {i idx : Nat} (F : zF w g own cc nL D) (hk : zk i = 1) (hl : Cond.fieldLink own idx "GladRoad$Road" "heed" "I" ∈ zTb) (hd : decode cc pc = .ok (.getfield idx, 3)) (k : ZW w g nL (pc + 3) lv (.int (M.1 i 2) :: st) M) : ZW w g nL (pc) lv (.ref (w.2.2 i) :: st) M := z_get (C := RX1) (T := TX1) (N := 7) (ci := 1) (j := 5) F (zk_i hk (by decide)) (zc_eq hk) rfl izX1 (by decide) rfl hl rfl hd k
theorem zp_X1_heed {i idx : Nat} {v : Int32} (F : zF w g own cc nL D) (hk : zk i = 1) (hl : Cond.fieldLink own idx "GladRoad$Road" "heed" "I" ∈ zTb) (hd : decode cc pc = .ok (.putfield idx, 3)) (k : ZW w g nL (pc + 3) lv (st) (zs M i 2 v)) : ZW w g nL (pc) lv (.int v :: .ref (w.2.2 i) :: st) M := z_put (C := RX1) (T := TX1) (N := 7) (ci := 1) (j := 5) F (zk_i hk (by decide)) (zc_eq hk) rfl izX1 tyX1_ok nmX1 (by decide) rfl rfl hl rfl rfl rfl (Nat.le_of_ble_eq_true rfl) (by rw [zc_eq hk]; simp [zcK, zs, va_up]) (zs_other (zk_i hk (by decide)) (by rw [hk]; exact rfl)) hd k
theorem zg_X1_well {i idx : Nat} (F : zF w g own cc nL D) (hk : zk i = 1) (hl : Cond.fieldLink own idx "GladRoad$Road" "well" "I" ∈ zTb) (hd : decode cc pc = .ok (.getfield idx, 3)) (k : ZW w g nL (pc + 3) lv (.int (M.1 i 3) :: st) M) : ZW w g nL (pc) lv (.ref (w.2.2 i) :: st) M := z_get (C := RX1) (T := TX1) (N := 7) (ci := 1) (j := 6) F (zk_i hk (by decide)) (zc_eq hk) rfl izX1 (by decide) rfl hl rfl hd k
theorem zp_X1_well {i idx : Nat} {v : Int32} (F : zF w g own cc nL D) (hk : zk i = 1) (hl : Cond.fieldLink own idx "GladRoad$Road" "well" "I" ∈ zTb) (hd : decode cc pc = .ok (.putfield idx, 3)) (k : ZW w g nL (pc + 3) lv (st) (zs M i 3 v)) : ZW w g nL (pc) lv (.int v :: .ref (w.2.2 i) :: st) M := z_put (C := RX1) (T := TX1) (N := 7) (ci := 1) (j := 6) F (zk_i hk (by decide)) (zc_eq hk) rfl izX1 tyX1_ok nmX1 (by decide) rfl rfl hl rfl rfl rfl (Nat.le_of_ble_eq_true rfl) (by rw [zc_eq hk]; simp [zcK, zs, va_up]) (zs_other (zk_i hk (by decide)) (by rw [hk]; exact rfl)) hd k
theorem zg_X2_isThere {i idx : Nat} (F : zF w g own cc nL D) (hk : zk i = 2) (hl : Cond.fieldLink own idx "GladRoad$Sheet" "isThere" "Z" ∈ zTb) (hd : decode cc pc = .ok (.getfield idx, 3)) (k : ZW w g nL (pc + 3) lv (.int (M.1 i 0) :: st) M) : ZW w g nL (pc) lv (.ref (w.2.2 i) :: st) M := z_get (C := RX2) (T := TX2) (N := 4) (ci := 2) (j := 0) F (zk_i hk (by decide)) (zc_eq hk) rfl izX2 (by decide) rfl hl rfl hd k
theorem zp_X2_isThere {i idx : Nat} {v : Int32} (F : zF w g own cc nL D) (hk : zk i = 2) (hl : Cond.fieldLink own idx "GladRoad$Sheet" "isThere" "Z" ∈ zTb) (hn : narrow .boolean (.int v) = .int v) (hf : fits .boolean (.int v) = true) (hd : decode cc pc = .ok (.putfield idx, 3)) (k : ZW w g nL (pc + 3) lv (st) (zs M i 0 v)) : ZW w g nL (pc) lv (.int v :: .ref (w.2.2 i) :: st) M := z_put (C := RX2) (T := TX2) (N := 4) (ci := 2) (j := 0) F (zk_i hk (by decide)) (zc_eq hk) rfl izX2 tyX2_ok nmX2 (by decide) rfl rfl hl rfl hn hf (Nat.le_of_ble_eq_true rfl) (by rw [zc_eq hk]; simp [zcK, zs, va_up]) (zs_other (zk_i hk (by decide)) (by rw [hk]; exact rfl)) hd k
theorem zg_X2_lane {i idx : Nat} (F : zF w g own cc nL D) (hk : zk i = 2) (hl : Cond.fieldLink own idx "GladRoad$Sheet" "lane" "I" ∈ zTb) (hd : decode cc pc = .ok (.getfield idx, 3)) (k : ZW w g nL (pc + 3) lv (.int (M.1 i 1) :: st) M) : ZW w g nL (pc) lv (.ref (w.2.2 i) :: st) M := z_get (C := RX2) (T := TX2) (N := 4) (ci := 2) (j := 1) F (zk_i hk (by decide)) (zc_eq hk) rfl izX2 (by decide) rfl hl rfl hd k
theorem zp_X2_lane {i idx : Nat} {v : Int32} (F : zF w g own cc nL D) (hk : zk i = 2) (hl : Cond.fieldLink own idx "GladRoad$Sheet" "lane" "I" ∈ zTb) (hd : decode cc pc = .ok (.putfield idx, 3)) (k : ZW w g nL (pc + 3) lv (st) (zs M i 1 v)) : ZW w g nL (pc) lv (.int v :: .ref (w.2.2 i) :: st) M := z_put (C := RX2) (T := TX2) (N := 4) (ci := 2) (j := 1) F (zk_i hk (by decide)) (zc_eq hk) rfl izX2 tyX2_ok nmX2 (by decide) rfl rfl hl rfl rfl rfl (Nat.le_of_ble_eq_true rfl) (by rw [zc_eq hk]; simp [zcK, zs, va_up]) (zs_other (zk_i hk (by decide)) (by rw [hk]; exact rfl)) hd k
theorem zg_X2_length {i idx : Nat} (F : zF w g own cc nL D) (hk : zk i = 2) (hl : Cond.fieldLink own idx "GladRoad$Sheet" "length" "I" ∈ zTb) (hd : decode cc pc = .ok (.getfield idx, 3)) (k : ZW w g nL (pc + 3) lv (.int (M.1 i 2) :: st) M) : ZW w g nL (pc) lv (.ref (w.2.2 i) :: st) M := z_get (C := RX2) (T := TX2) (N := 4) (ci := 2) (j := 2) F (zk_i hk (by decide)) (zc_eq hk) rfl izX2 (by decide) rfl hl rfl hd k
theorem zp_X2_length {i idx : Nat} {v : Int32} (F : zF w g own cc nL D) (hk : zk i = 2) (hl : Cond.fieldLink own idx "GladRoad$Sheet" "length" "I" ∈ zTb) (hd : decode cc pc = .ok (.putfield idx, 3)) (k : ZW w g nL (pc + 3) lv (st) (zs M i 2 v)) : ZW w g nL (pc) lv (.int v :: .ref (w.2.2 i) :: st) M := z_put (C := RX2) (T := TX2) (N := 4) (ci := 2) (j := 2) F (zk_i hk (by decide)) (zc_eq hk) rfl izX2 tyX2_ok nmX2 (by decide) rfl rfl hl rfl rfl rfl (Nat.le_of_ble_eq_true rfl) (by rw [zc_eq hk]; simp [zcK, zs, va_up]) (zs_other (zk_i hk (by decide)) (by rw [hk]; exact rfl)) hd k
theorem zg_X2_items {i idx : Nat} (F : zF w g own cc nL D) (hk : zk i = 2) (hl : Cond.fieldLink own idx "GladRoad$Sheet" "items" "[J" ∈ zTb) (hd : decode cc pc = .ok (.getfield idx, 3)) (k : zk (i + 1) = 14 → ZW w g nL (pc + 3) lv (.ref (w.2.2 (i + 1)) :: st) M) : ZW w g nL (pc) lv (.ref (w.2.2 i) :: st) M := z_get (C := RX2) (T := TX2) (N := 4) (ci := 2) (j := 3) F (zk_i hk (by decide)) (zc_eq hk) rfl izX2 (by decide) rfl hl rfl hd (k (zkf2 i (zk_i hk (by decide)) hk))
theorem zg_X3_letters {i idx : Nat} (F : zF w g own cc nL D) (hk : zk i = 3) (hl : Cond.fieldLink own idx "GladRoad$Tape" "letters" "[C" ∈ zTb) (hd : decode cc pc = .ok (.getfield idx, 3)) (k : zk (i + 1) = 9 → ZW w g nL (pc + 3) lv (.ref (w.2.2 (i + 1)) :: st) M) : ZW w g nL (pc) lv (.ref (w.2.2 i) :: st) M := z_get (C := RX3) (T := TX3) (N := 5) (ci := 3) (j := 0) F (zk_i hk (by decide)) (zc_eq hk) rfl izX3 (by decide) rfl hl rfl hd (k (zkf3 i (zk_i hk (by decide)) hk).1)
theorem zg_X3_length {i idx : Nat} (F : zF w g own cc nL D) (hk : zk i = 3) (hl : Cond.fieldLink own idx "GladRoad$Tape" "length" "I" ∈ zTb) (hd : decode cc pc = .ok (.getfield idx, 3)) (k : ZW w g nL (pc + 3) lv (.int (M.1 i 1) :: st) M) : ZW w g nL (pc) lv (.ref (w.2.2 i) :: st) M := z_get (C := RX3) (T := TX3) (N := 5) (ci := 3) (j := 1) F (zk_i hk (by decide)) (zc_eq hk) rfl izX3 (by decide) rfl hl rfl hd k
theorem zp_X3_length {i idx : Nat} {v : Int32} (F : zF w g own cc nL D) (hk : zk i = 3) (hl : Cond.fieldLink own idx "GladRoad$Tape" "length" "I" ∈ zTb) (hd : decode cc pc = .ok (.putfield idx, 3)) (k : ZW w g nL (pc + 3) lv (st) (zs M i 1 v)) : ZW w g nL (pc) lv (.int v :: .ref (w.2.2 i) :: st) M := z_put (C := RX3) (T := TX3) (N := 5) (ci := 3) (j := 1) F (zk_i hk (by decide)) (zc_eq hk) rfl izX3 tyX3_ok nmX3 (by decide) rfl rfl hl rfl rfl rfl (Nat.le_of_ble_eq_true rfl) (by rw [zc_eq hk]; simp [zcK, zs, va_up]) (zs_other (zk_i hk (by decide)) (by rw [hk]; exact rfl)) hd k
theorem zg_X3_place {i idx : Nat} (F : zF w g own cc nL D) (hk : zk i = 3) (hl : Cond.fieldLink own idx "GladRoad$Tape" "place" "I" ∈ zTb) (hd : decode cc pc = .ok (.getfield idx, 3)) (k : ZW w g nL (pc + 3) lv (.int (M.1 i 2) :: st) M) : ZW w g nL (pc) lv (.ref (w.2.2 i) :: st) M := z_get (C := RX3) (T := TX3) (N := 5) (ci := 3) (j := 2) F (zk_i hk (by decide)) (zc_eq hk) rfl izX3 (by decide) rfl hl rfl hd k
theorem zp_X3_place {i idx : Nat} {v : Int32} (F : zF w g own cc nL D) (hk : zk i = 3) (hl : Cond.fieldLink own idx "GladRoad$Tape" "place" "I" ∈ zTb) (hd : decode cc pc = .ok (.putfield idx, 3)) (k : ZW w g nL (pc + 3) lv (st) (zs M i 2 v)) : ZW w g nL (pc) lv (.int v :: .ref (w.2.2 i) :: st) M := z_put (C := RX3) (T := TX3) (N := 5) (ci := 3) (j := 2) F (zk_i hk (by decide)) (zc_eq hk) rfl izX3 tyX3_ok nmX3 (by decide) rfl rfl hl rfl rfl rfl (Nat.le_of_ble_eq_true rfl) (by rw [zc_eq hk]; simp [zcK, zs, va_up]) (zs_other (zk_i hk (by decide)) (by rw [hk]; exact rfl)) hd k
theorem zg_X3_road {i idx : Nat} (F : zF w g own cc nL D) (hk : zk i = 3) (hl : Cond.fieldLink own idx "GladRoad$Tape" "road" "LGladRoad$Road;" ∈ zTb) (hd : decode cc pc = .ok (.getfield idx, 3)) (k : zk (i + 2) = 1 → ZW w g nL (pc + 3) lv (.ref (w.2.2 (i + 2)) :: st) M) : ZW w g nL (pc) lv (.ref (w.2.2 i) :: st) M := z_get (C := RX3) (T := TX3) (N := 5) (ci := 3) (j := 3) F (zk_i hk (by decide)) (zc_eq hk) rfl izX3 (by decide) rfl hl rfl hd (k (zkf3 i (zk_i hk (by decide)) hk).2.1)
theorem zg_X3_trip {i idx : Nat} (F : zF w g own cc nL D) (hk : zk i = 3) (hl : Cond.fieldLink own idx "GladRoad$Tape" "trip" "LGladRoad$Trip;" ∈ zTb) (hd : decode cc pc = .ok (.getfield idx, 3)) (k : zk (i + 16) = 5 → ZW w g nL (pc + 3) lv (.ref (w.2.2 (i + 16)) :: st) M) : ZW w g nL (pc) lv (.ref (w.2.2 i) :: st) M := z_get (C := RX3) (T := TX3) (N := 5) (ci := 3) (j := 4) F (zk_i hk (by decide)) (zc_eq hk) rfl izX3 (by decide) rfl hl rfl hd (k (zkf3 i (zk_i hk (by decide)) hk).2.2)
theorem zg_X4_kind {i idx : Nat} (F : zF w g own cc nL D) (hk : zk i = 4) (hl : Cond.fieldLink own idx "GladRoad$Thing" "kind" "I" ∈ zTb) (hd : decode cc pc = .ok (.getfield idx, 3)) (k : ZW w g nL (pc + 3) lv (.int (M.1 (zb i) (4 * zo i)) :: st) M) : ZW w g nL (pc) lv (.ref (w.2.2 i) :: st) M := z_get (C := RX4) (T := TX4) (N := 4) (ci := 4) (j := 0) F (zk_i hk (by decide)) (zc_eq hk) rfl izX4 (by decide) rfl hl rfl hd k
theorem zp_X4_kind {i idx : Nat} {v : Int32} (F : zF w g own cc nL D) (hk : zk i = 4) (hl : Cond.fieldLink own idx "GladRoad$Thing" "kind" "I" ∈ zTb) (hd : decode cc pc = .ok (.putfield idx, 3)) (k : ZW w g nL (pc + 3) lv (st) (zs M (zb i) (4 * zo i) v)) : ZW w g nL (pc) lv (.int v :: .ref (w.2.2 i) :: st) M := z_put (C := RX4) (T := TX4) (N := 4) (ci := 4) (j := 0) F (zk_i hk (by decide)) (zc_eq hk) rfl izX4 tyX4_ok nmX4 (by decide) rfl rfl hl rfl rfl rfl (Nat.le_of_ble_eq_true rfl) (by rw [zc_eq hk]; simp [zcK, zs, va_up]) (zs_other (zk_i hk (by decide)) (by rw [hk]; exact ⟨rfl, by omega⟩)) hd k
theorem zg_X4_worth {i idx : Nat} (F : zF w g own cc nL D) (hk : zk i = 4) (hl : Cond.fieldLink own idx "GladRoad$Thing" "worth" "I" ∈ zTb) (hd : decode cc pc = .ok (.getfield idx, 3)) (k : ZW w g nL (pc + 3) lv (.int (M.1 (zb i) (4 * zo i + 1)) :: st) M) : ZW w g nL (pc) lv (.ref (w.2.2 i) :: st) M := z_get (C := RX4) (T := TX4) (N := 4) (ci := 4) (j := 1) F (zk_i hk (by decide)) (zc_eq hk) rfl izX4 (by decide) rfl hl rfl hd k
theorem zp_X4_worth {i idx : Nat} {v : Int32} (F : zF w g own cc nL D) (hk : zk i = 4) (hl : Cond.fieldLink own idx "GladRoad$Thing" "worth" "I" ∈ zTb) (hd : decode cc pc = .ok (.putfield idx, 3)) (k : ZW w g nL (pc + 3) lv (st) (zs M (zb i) (4 * zo i + 1) v)) : ZW w g nL (pc) lv (.int v :: .ref (w.2.2 i) :: st) M := z_put (C := RX4) (T := TX4) (N := 4) (ci := 4) (j := 1) F (zk_i hk (by decide)) (zc_eq hk) rfl izX4 tyX4_ok nmX4 (by decide) rfl rfl hl rfl rfl rfl (Nat.le_of_ble_eq_true rfl) (by rw [zc_eq hk]; simp [zcK, zs, va_up]) (zs_other (zk_i hk (by decide)) (by rw [hk]; exact ⟨rfl, by omega⟩)) hd k
theorem zg_X4_load {i idx : Nat} (F : zF w g own cc nL D) (hk : zk i = 4) (hl : Cond.fieldLink own idx "GladRoad$Thing" "load" "I" ∈ zTb) (hd : decode cc pc = .ok (.getfield idx, 3)) (k : ZW w g nL (pc + 3) lv (.int (M.1 (zb i) (4 * zo i + 2)) :: st) M) : ZW w g nL (pc) lv (.ref (w.2.2 i) :: st) M := z_get (C := RX4) (T := TX4) (N := 4) (ci := 4) (j := 2) F (zk_i hk (by decide)) (zc_eq hk) rfl izX4 (by decide) rfl hl rfl hd k
theorem zp_X4_load {i idx : Nat} {v : Int32} (F : zF w g own cc nL D) (hk : zk i = 4) (hl : Cond.fieldLink own idx "GladRoad$Thing" "load" "I" ∈ zTb) (hd : decode cc pc = .ok (.putfield idx, 3)) (k : ZW w g nL (pc + 3) lv (st) (zs M (zb i) (4 * zo i + 2) v)) : ZW w g nL (pc) lv (.int v :: .ref (w.2.2 i) :: st) M := z_put (C := RX4) (T := TX4) (N := 4) (ci := 4) (j := 2) F (zk_i hk (by decide)) (zc_eq hk) rfl izX4 tyX4_ok nmX4 (by decide) rfl rfl hl rfl rfl rfl (Nat.le_of_ble_eq_true rfl) (by rw [zc_eq hk]; simp [zcK, zs, va_up]) (zs_other (zk_i hk (by decide)) (by rw [hk]; exact ⟨rfl, by omega⟩)) hd k
theorem zg_X4_care {i idx : Nat} (F : zF w g own cc nL D) (hk : zk i = 4) (hl : Cond.fieldLink own idx "GladRoad$Thing" "care" "I" ∈ zTb) (hd : decode cc pc = .ok (.getfield idx, 3)) (k : ZW w g nL (pc + 3) lv (.int (M.1 (zb i) (4 * zo i + 3)) :: st) M) : ZW w g nL (pc) lv (.ref (w.2.2 i) :: st) M := z_get (C := RX4) (T := TX4) (N := 4) (ci := 4) (j := 3) F (zk_i hk (by decide)) (zc_eq hk) rfl izX4 (by decide) rfl hl rfl hd k
theorem zp_X4_care {i idx : Nat} {v : Int32} (F : zF w g own cc nL D) (hk : zk i = 4) (hl : Cond.fieldLink own idx "GladRoad$Thing" "care" "I" ∈ zTb) (hd : decode cc pc = .ok (.putfield idx, 3)) (k : ZW w g nL (pc + 3) lv (st) (zs M (zb i) (4 * zo i + 3) v)) : ZW w g nL (pc) lv (.int v :: .ref (w.2.2 i) :: st) M := z_put (C := RX4) (T := TX4) (N := 4) (ci := 4) (j := 3) F (zk_i hk (by decide)) (zc_eq hk) rfl izX4 tyX4_ok nmX4 (by decide) rfl rfl hl rfl rfl rfl (Nat.le_of_ble_eq_true rfl) (by rw [zc_eq hk]; simp [zcK, zs, va_up]) (zs_other (zk_i hk (by decide)) (by rw [hk]; exact ⟨rfl, by omega⟩)) hd k
theorem zg_X5_his {i idx : Nat} (F : zF w g own cc nL D) (hk : zk i = 5) (hl : Cond.fieldLink own idx "GladRoad$Trip" "his" "I" ∈ zTb) (hd : decode cc pc = .ok (.getfield idx, 3)) (k : ZW w g nL (pc + 3) lv (.int (M.1 i 0) :: st) M) : ZW w g nL (pc) lv (.ref (w.2.2 i) :: st) M := z_get (C := RX5) (T := TX5) (N := 7) (ci := 5) (j := 0) F (zk_i hk (by decide)) (zc_eq hk) rfl izX5 (by decide) rfl hl rfl hd k
theorem zp_X5_his {i idx : Nat} {v : Int32} (F : zF w g own cc nL D) (hk : zk i = 5) (hl : Cond.fieldLink own idx "GladRoad$Trip" "his" "I" ∈ zTb) (hd : decode cc pc = .ok (.putfield idx, 3)) (k : ZW w g nL (pc + 3) lv (st) (zs M i 0 v)) : ZW w g nL (pc) lv (.int v :: .ref (w.2.2 i) :: st) M := z_put (C := RX5) (T := TX5) (N := 7) (ci := 5) (j := 0) F (zk_i hk (by decide)) (zc_eq hk) rfl izX5 tyX5_ok nmX5 (by decide) rfl rfl hl rfl rfl rfl (Nat.le_of_ble_eq_true rfl) (by rw [zc_eq hk]; simp [zcK, zs, va_up]) (zs_other (zk_i hk (by decide)) (by rw [hk]; exact Or.inl ⟨rfl, by decide⟩)) hd k
theorem zg_X5_n {i idx : Nat} (F : zF w g own cc nL D) (hk : zk i = 5) (hl : Cond.fieldLink own idx "GladRoad$Trip" "n" "I" ∈ zTb) (hd : decode cc pc = .ok (.getfield idx, 3)) (k : ZW w g nL (pc + 3) lv (.int (M.1 i 1) :: st) M) : ZW w g nL (pc) lv (.ref (w.2.2 i) :: st) M := z_get (C := RX5) (T := TX5) (N := 7) (ci := 5) (j := 1) F (zk_i hk (by decide)) (zc_eq hk) rfl izX5 (by decide) rfl hl rfl hd k
theorem zp_X5_n {i idx : Nat} {v : Int32} (F : zF w g own cc nL D) (hk : zk i = 5) (hl : Cond.fieldLink own idx "GladRoad$Trip" "n" "I" ∈ zTb) (hd : decode cc pc = .ok (.putfield idx, 3)) (k : ZW w g nL (pc + 3) lv (st) (zs M i 1 v)) : ZW w g nL (pc) lv (.int v :: .ref (w.2.2 i) :: st) M := z_put (C := RX5) (T := TX5) (N := 7) (ci := 5) (j := 1) F (zk_i hk (by decide)) (zc_eq hk) rfl izX5 tyX5_ok nmX5 (by decide) rfl rfl hl rfl rfl rfl (Nat.le_of_ble_eq_true rfl) (by rw [zc_eq hk]; simp [zcK, zs, va_up]) (zs_other (zk_i hk (by decide)) (by rw [hk]; exact Or.inl ⟨rfl, by decide⟩)) hd k
theorem zg_X5_mind {i idx : Nat} (F : zF w g own cc nL D) (hk : zk i = 5) (hl : Cond.fieldLink own idx "GladRoad$Trip" "mind" "I" ∈ zTb) (hd : decode cc pc = .ok (.getfield idx, 3)) (k : ZW w g nL (pc + 3) lv (.int (M.1 i 2) :: st) M) : ZW w g nL (pc) lv (.ref (w.2.2 i) :: st) M := z_get (C := RX5) (T := TX5) (N := 7) (ci := 5) (j := 2) F (zk_i hk (by decide)) (zc_eq hk) rfl izX5 (by decide) rfl hl rfl hd k
theorem zp_X5_mind {i idx : Nat} {v : Int32} (F : zF w g own cc nL D) (hk : zk i = 5) (hl : Cond.fieldLink own idx "GladRoad$Trip" "mind" "I" ∈ zTb) (hd : decode cc pc = .ok (.putfield idx, 3)) (k : ZW w g nL (pc + 3) lv (st) (zs M i 2 v)) : ZW w g nL (pc) lv (.int v :: .ref (w.2.2 i) :: st) M := z_put (C := RX5) (T := TX5) (N := 7) (ci := 5) (j := 2) F (zk_i hk (by decide)) (zc_eq hk) rfl izX5 tyX5_ok nmX5 (by decide) rfl rfl hl rfl rfl rfl (Nat.le_of_ble_eq_true rfl) (by rw [zc_eq hk]; simp [zcK, zs, va_up]) (zs_other (zk_i hk (by decide)) (by rw [hk]; exact Or.inl ⟨rfl, by decide⟩)) hd k
theorem zg_X5_ahead {i idx : Nat} (F : zF w g own cc nL D) (hk : zk i = 5) (hl : Cond.fieldLink own idx "GladRoad$Trip" "ahead" "I" ∈ zTb) (hd : decode cc pc = .ok (.getfield idx, 3)) (k : ZW w g nL (pc + 3) lv (.int (M.1 i 3) :: st) M) : ZW w g nL (pc) lv (.ref (w.2.2 i) :: st) M := z_get (C := RX5) (T := TX5) (N := 7) (ci := 5) (j := 3) F (zk_i hk (by decide)) (zc_eq hk) rfl izX5 (by decide) rfl hl rfl hd k
theorem zp_X5_ahead {i idx : Nat} {v : Int32} (F : zF w g own cc nL D) (hk : zk i = 5) (hl : Cond.fieldLink own idx "GladRoad$Trip" "ahead" "I" ∈ zTb) (hd : decode cc pc = .ok (.putfield idx, 3)) (k : ZW w g nL (pc + 3) lv (st) (zs M i 3 v)) : ZW w g nL (pc) lv (.int v :: .ref (w.2.2 i) :: st) M := z_put (C := RX5) (T := TX5) (N := 7) (ci := 5) (j := 3) F (zk_i hk (by decide)) (zc_eq hk) rfl izX5 tyX5_ok nmX5 (by decide) rfl rfl hl rfl rfl rfl (Nat.le_of_ble_eq_true rfl) (by rw [zc_eq hk]; simp [zcK, zs, va_up]) (zs_other (zk_i hk (by decide)) (by rw [hk]; exact Or.inl ⟨rfl, by decide⟩)) hd k
theorem zg_X5_changes {i idx : Nat} (F : zF w g own cc nL D) (hk : zk i = 5) (hl : Cond.fieldLink own idx "GladRoad$Trip" "changes" "I" ∈ zTb) (hd : decode cc pc = .ok (.getfield idx, 3)) (k : ZW w g nL (pc + 3) lv (.int (M.1 i 4) :: st) M) : ZW w g nL (pc) lv (.ref (w.2.2 i) :: st) M := z_get (C := RX5) (T := TX5) (N := 7) (ci := 5) (j := 4) F (zk_i hk (by decide)) (zc_eq hk) rfl izX5 (by decide) rfl hl rfl hd k
theorem zp_X5_changes {i idx : Nat} {v : Int32} (F : zF w g own cc nL D) (hk : zk i = 5) (hl : Cond.fieldLink own idx "GladRoad$Trip" "changes" "I" ∈ zTb) (hd : decode cc pc = .ok (.putfield idx, 3)) (k : ZW w g nL (pc + 3) lv (st) (zs M i 4 v)) : ZW w g nL (pc) lv (.int v :: .ref (w.2.2 i) :: st) M := z_put (C := RX5) (T := TX5) (N := 7) (ci := 5) (j := 4) F (zk_i hk (by decide)) (zc_eq hk) rfl izX5 tyX5_ok nmX5 (by decide) rfl rfl hl rfl rfl rfl (Nat.le_of_ble_eq_true rfl) (by rw [zc_eq hk]; simp [zcK, zs, va_up]) (zs_other (zk_i hk (by decide)) (by rw [hk]; exact Or.inl ⟨rfl, by decide⟩)) hd k
theorem zg_X5_refused {i idx : Nat} (F : zF w g own cc nL D) (hk : zk i = 5) (hl : Cond.fieldLink own idx "GladRoad$Trip" "refused" "I" ∈ zTb) (hd : decode cc pc = .ok (.getfield idx, 3)) (k : ZW w g nL (pc + 3) lv (.int (M.1 (i + 1) 0) :: st) M) : ZW w g nL (pc) lv (.ref (w.2.2 i) :: st) M := z_get (C := RX5) (T := TX5) (N := 7) (ci := 5) (j := 5) F (zk_i hk (by decide)) (zc_eq hk) rfl izX5 (by decide) rfl hl rfl hd k
theorem zp_X5_refused {i idx : Nat} {v : Int32} (F : zF w g own cc nL D) (hk : zk i = 5) (hl : Cond.fieldLink own idx "GladRoad$Trip" "refused" "I" ∈ zTb) (hd : decode cc pc = .ok (.putfield idx, 3)) (k : ZW w g nL (pc + 3) lv (st) (zs M (i + 1) 0 v)) : ZW w g nL (pc) lv (.int v :: .ref (w.2.2 i) :: st) M := z_put (C := RX5) (T := TX5) (N := 7) (ci := 5) (j := 5) F (zk_i hk (by decide)) (zc_eq hk) rfl izX5 tyX5_ok nmX5 (by decide) rfl rfl hl rfl rfl rfl (Nat.le_of_ble_eq_true rfl) (by rw [zc_eq hk]; simp [zcK, zs, va_up]) (zs_other (zk_i hk (by decide)) (by rw [hk]; exact Or.inr rfl)) hd k
theorem zg_X5_theirs {i idx : Nat} (F : zF w g own cc nL D) (hk : zk i = 5) (hl : Cond.fieldLink own idx "GladRoad$Trip" "theirs" "[I" ∈ zTb) (hd : decode cc pc = .ok (.getfield idx, 3)) (k : zk (i + 1) = 11 → ZW w g nL (pc + 3) lv (.ref (w.2.2 (i + 1)) :: st) M) : ZW w g nL (pc) lv (.ref (w.2.2 i) :: st) M := z_get (C := RX5) (T := TX5) (N := 7) (ci := 5) (j := 6) F (zk_i hk (by decide)) (zc_eq hk) rfl izX5 (by decide) rfl hl rfl hd (k (zkf5 i (zk_i hk (by decide)) hk))
theorem zg_X6_road {i idx : Nat} (F : zF w g own cc nL D) (hk : zk i = 6) (hl : Cond.fieldLink own idx "GladRoad$World" "road" "LGladRoad$Road;" ∈ zTb) (hd : decode cc pc = .ok (.getfield idx, 3)) (k : zk (i + 1) = 1 → ZW w g nL (pc + 3) lv (.ref (w.2.2 (i + 1)) :: st) M) : ZW w g nL (pc) lv (.ref (w.2.2 i) :: st) M := z_get (C := RX6) (T := TX6) (N := 4) (ci := 6) (j := 0) F (zk_i hk (by decide)) (zc_eq hk) rfl izX6 (by decide) rfl hl rfl hd (k (zkf6 i (zk_i hk (by decide)) hk).1)
theorem zg_X6_trip {i idx : Nat} (F : zF w g own cc nL D) (hk : zk i = 6) (hl : Cond.fieldLink own idx "GladRoad$World" "trip" "LGladRoad$Trip;" ∈ zTb) (hd : decode cc pc = .ok (.getfield idx, 3)) (k : zk (i + 15) = 5 → ZW w g nL (pc + 3) lv (.ref (w.2.2 (i + 15)) :: st) M) : ZW w g nL (pc) lv (.ref (w.2.2 i) :: st) M := z_get (C := RX6) (T := TX6) (N := 4) (ci := 6) (j := 1) F (zk_i hk (by decide)) (zc_eq hk) rfl izX6 (by decide) rfl hl rfl hd (k (zkf6 i (zk_i hk (by decide)) hk).2.1)
theorem zg_X6_past {i idx : Nat} (F : zF w g own cc nL D) (hk : zk i = 6) (hl : Cond.fieldLink own idx "GladRoad$World" "past" "[LGladRoad$Trip;" ∈ zTb) (hd : decode cc pc = .ok (.getfield idx, 3)) (k : zk (i + 17) = 18 → ZW w g nL (pc + 3) lv (.ref (w.2.2 (i + 17)) :: st) M) : ZW w g nL (pc) lv (.ref (w.2.2 i) :: st) M := z_get (C := RX6) (T := TX6) (N := 4) (ci := 6) (j := 2) F (zk_i hk (by decide)) (zc_eq hk) rfl izX6 (by decide) rfl hl rfl hd (k (zkf6 i (zk_i hk (by decide)) hk).2.2)
theorem zg_X6_known {i idx : Nat} (F : zF w g own cc nL D) (hk : zk i = 6) (hl : Cond.fieldLink own idx "GladRoad$World" "known" "I" ∈ zTb) (hd : decode cc pc = .ok (.getfield idx, 3)) (k : ZW w g nL (pc + 3) lv (.int (M.1 i 3) :: st) M) : ZW w g nL (pc) lv (.ref (w.2.2 i) :: st) M := z_get (C := RX6) (T := TX6) (N := 4) (ci := 6) (j := 3) F (zk_i hk (by decide)) (zc_eq hk) rfl izX6 (by decide) rfl hl rfl hd k
theorem zp_X6_known {i idx : Nat} {v : Int32} (F : zF w g own cc nL D) (hk : zk i = 6) (hl : Cond.fieldLink own idx "GladRoad$World" "known" "I" ∈ zTb) (hd : decode cc pc = .ok (.putfield idx, 3)) (k : ZW w g nL (pc + 3) lv (st) (zs M i 3 v)) : ZW w g nL (pc) lv (.int v :: .ref (w.2.2 i) :: st) M := z_put (C := RX6) (T := TX6) (N := 4) (ci := 6) (j := 3) F (zk_i hk (by decide)) (zc_eq hk) rfl izX6 tyX6_ok nmX6 (by decide) rfl rfl hl rfl rfl rfl (Nat.le_of_ble_eq_true rfl) (by rw [zc_eq hk]; simp [zcK, zs, va_up]) (zs_other (zk_i hk (by decide)) (by rw [hk]; exact rfl)) hd k
theorem zg_X7_now {i idx : Nat} (F : zF w g own cc nL D) (hk : zk i = 7) (hl : Cond.fieldLink own idx "GladRoad" "now" "LGladRoad$World;" ∈ zTb) (hd : decode cc pc = .ok (.getfield idx, 3)) (k : zk (i + 1) = 6 → ZW w g nL (pc + 3) lv (.ref (w.2.2 (i + 1)) :: st) M) : ZW w g nL (pc) lv (.ref (w.2.2 i) :: st) M := z_get (C := RX7) (T := TX7) (N := 6) (ci := 7) (j := 0) F (zk_i hk (by decide)) (zc_eq hk) rfl izX7 (by decide) rfl hl rfl hd (k (zkf7 i (zk_i hk (by decide)) hk).1)
theorem zg_X7_kept {i idx : Nat} (F : zF w g own cc nL D) (hk : zk i = 7) (hl : Cond.fieldLink own idx "GladRoad" "kept" "LGladRoad$World;" ∈ zTb) (hd : decode cc pc = .ok (.getfield idx, 3)) (k : zk (i + 35) = 6 → ZW w g nL (pc + 3) lv (.ref (w.2.2 (i + 35)) :: st) M) : ZW w g nL (pc) lv (.ref (w.2.2 i) :: st) M := z_get (C := RX7) (T := TX7) (N := 6) (ci := 7) (j := 1) F (zk_i hk (by decide)) (zc_eq hk) rfl izX7 (by decide) rfl hl rfl hd (k (zkf7 i (zk_i hk (by decide)) hk).2.1)
theorem zg_X7_isKept {i idx : Nat} (F : zF w g own cc nL D) (hk : zk i = 7) (hl : Cond.fieldLink own idx "GladRoad" "isKept" "Z" ∈ zTb) (hd : decode cc pc = .ok (.getfield idx, 3)) (k : ZW w g nL (pc + 3) lv (.int (M.1 i 2) :: st) M) : ZW w g nL (pc) lv (.ref (w.2.2 i) :: st) M := z_get (C := RX7) (T := TX7) (N := 6) (ci := 7) (j := 2) F (zk_i hk (by decide)) (zc_eq hk) rfl izX7 (by decide) rfl hl rfl hd k
theorem zp_X7_isKept {i idx : Nat} {v : Int32} (F : zF w g own cc nL D) (hk : zk i = 7) (hl : Cond.fieldLink own idx "GladRoad" "isKept" "Z" ∈ zTb) (hn : narrow .boolean (.int v) = .int v) (hf : fits .boolean (.int v) = true) (hd : decode cc pc = .ok (.putfield idx, 3)) (k : ZW w g nL (pc + 3) lv (st) (zs M i 2 v)) : ZW w g nL (pc) lv (.int v :: .ref (w.2.2 i) :: st) M := z_put (C := RX7) (T := TX7) (N := 6) (ci := 7) (j := 2) F (zk_i hk (by decide)) (zc_eq hk) rfl izX7 tyX7_ok nmX7 (by decide) rfl rfl hl rfl hn hf (Nat.le_of_ble_eq_true rfl) (by rw [zc_eq hk]; simp [zcK, zs, va_up]) (zs_other (zk_i hk (by decide)) (by rw [hk]; exact rfl)) hd k
theorem zg_X7_tape {i idx : Nat} (F : zF w g own cc nL D) (hk : zk i = 7) (hl : Cond.fieldLink own idx "GladRoad" "tape" "LGladRoad$Tape;" ∈ zTb) (hd : decode cc pc = .ok (.getfield idx, 3)) (k : zk (i + 69) = 3 → ZW w g nL (pc + 3) lv (.ref (w.2.2 (i + 69)) :: st) M) : ZW w g nL (pc) lv (.ref (w.2.2 i) :: st) M := z_get (C := RX7) (T := TX7) (N := 6) (ci := 7) (j := 3) F (zk_i hk (by decide)) (zc_eq hk) rfl izX7 (by decide) rfl hl rfl hd (k (zkf7 i (zk_i hk (by decide)) hk).2.2.1)
theorem zg_X7_foresight {i idx : Nat} (F : zF w g own cc nL D) (hk : zk i = 7) (hl : Cond.fieldLink own idx "GladRoad" "foresight" "LGladRoad$Foresight;" ∈ zTb) (hd : decode cc pc = .ok (.getfield idx, 3)) (k : zk (i + 87) = 0 → ZW w g nL (pc + 3) lv (.ref (w.2.2 (i + 87)) :: st) M) : ZW w g nL (pc) lv (.ref (w.2.2 i) :: st) M := z_get (C := RX7) (T := TX7) (N := 6) (ci := 7) (j := 4) F (zk_i hk (by decide)) (zc_eq hk) rfl izX7 (by decide) rfl hl rfl hd (k (zkf7 i (zk_i hk (by decide)) hk).2.2.2.1)
theorem zg_X7_sheets {i idx : Nat} (F : zF w g own cc nL D) (hk : zk i = 7) (hl : Cond.fieldLink own idx "GladRoad" "sheets" "[LGladRoad$Sheet;" ∈ zTb) (hd : decode cc pc = .ok (.getfield idx, 3)) (k : zk (i + 129) = 15 → ZW w g nL (pc + 3) lv (.ref (w.2.2 (i + 129)) :: st) M) : ZW w g nL (pc) lv (.ref (w.2.2 i) :: st) M := z_get (C := RX7) (T := TX7) (N := 6) (ci := 7) (j := 5) F (zk_i hk (by decide)) (zc_eq hk) rfl izX7 (by decide) rfl hl rfl hd (k (zkf7 i (zk_i hk (by decide)) hk).2.2.2.2)
theorem zg_X8_things {i idx : Nat} (F : zF w g own cc nL D) (hk : zk i = 8) (hl : Cond.fieldLink own idx "GladRoadModel" "things" "I" ∈ zTb) (hd : decode cc pc = .ok (.getfield idx, 3)) (k : ZW w g nL (pc + 3) lv (.int (M.1 i 0) :: st) M) : ZW w g nL (pc) lv (.ref (w.2.2 i) :: st) M := z_get (C := RX8) (T := TX8) (N := 30) (ci := 8) (j := 0) F (zk_i hk (by decide)) (zc_eq hk) rfl izX8 (by decide) rfl hl rfl hd k
theorem zp_X8_things {i idx : Nat} {v : Int32} (F : zF w g own cc nL D) (hk : zk i = 8) (hl : Cond.fieldLink own idx "GladRoadModel" "things" "I" ∈ zTb) (hd : decode cc pc = .ok (.putfield idx, 3)) (k : ZW w g nL (pc + 3) lv (st) (zs M i 0 v)) : ZW w g nL (pc) lv (.int v :: .ref (w.2.2 i) :: st) M := z_put (C := RX8) (T := TX8) (N := 30) (ci := 8) (j := 0) F (zk_i hk (by decide)) (zc_eq hk) rfl izX8 tyX8_ok nmX8 (by decide) rfl rfl hl rfl rfl rfl (Nat.le_of_ble_eq_true rfl) (by rw [zc_eq hk]; simp [zcK, zs, va_up]) (zs_other (zk_i hk (by decide)) (by rw [hk]; exact rfl)) hd k
theorem zg_X8_people {i idx : Nat} (F : zF w g own cc nL D) (hk : zk i = 8) (hl : Cond.fieldLink own idx "GladRoadModel" "people" "I" ∈ zTb) (hd : decode cc pc = .ok (.getfield idx, 3)) (k : ZW w g nL (pc + 3) lv (.int (M.1 i 1) :: st) M) : ZW w g nL (pc) lv (.ref (w.2.2 i) :: st) M := z_get (C := RX8) (T := TX8) (N := 30) (ci := 8) (j := 1) F (zk_i hk (by decide)) (zc_eq hk) rfl izX8 (by decide) rfl hl rfl hd k
theorem zp_X8_people {i idx : Nat} {v : Int32} (F : zF w g own cc nL D) (hk : zk i = 8) (hl : Cond.fieldLink own idx "GladRoadModel" "people" "I" ∈ zTb) (hd : decode cc pc = .ok (.putfield idx, 3)) (k : ZW w g nL (pc + 3) lv (st) (zs M i 1 v)) : ZW w g nL (pc) lv (.int v :: .ref (w.2.2 i) :: st) M := z_put (C := RX8) (T := TX8) (N := 30) (ci := 8) (j := 1) F (zk_i hk (by decide)) (zc_eq hk) rfl izX8 tyX8_ok nmX8 (by decide) rfl rfl hl rfl rfl rfl (Nat.le_of_ble_eq_true rfl) (by rw [zc_eq hk]; simp [zcK, zs, va_up]) (zs_other (zk_i hk (by decide)) (by rw [hk]; exact rfl)) hd k
theorem zg_X8_thing {i idx : Nat} (F : zF w g own cc nL D) (hk : zk i = 8) (hl : Cond.fieldLink own idx "GladRoadModel" "thing" "[I" ∈ zTb) (hd : decode cc pc = .ok (.getfield idx, 3)) (k : zk (i + 1) = 10 → ZW w g nL (pc + 3) lv (.ref (w.2.2 (i + 1)) :: st) M) : ZW w g nL (pc) lv (.ref (w.2.2 i) :: st) M := z_get (C := RX8) (T := TX8) (N := 30) (ci := 8) (j := 2) F (zk_i hk (by decide)) (zc_eq hk) rfl izX8 (by decide) rfl hl rfl hd (k (zkf8 i (zk_i hk (by decide)) hk).1)
theorem zg_X8_person {i idx : Nat} (F : zF w g own cc nL D) (hk : zk i = 8) (hl : Cond.fieldLink own idx "GladRoadModel" "person" "[I" ∈ zTb) (hd : decode cc pc = .ok (.getfield idx, 3)) (k : zk (i + 2) = 10 → ZW w g nL (pc + 3) lv (.ref (w.2.2 (i + 2)) :: st) M) : ZW w g nL (pc) lv (.ref (w.2.2 i) :: st) M := z_get (C := RX8) (T := TX8) (N := 30) (ci := 8) (j := 3) F (zk_i hk (by decide)) (zc_eq hk) rfl izX8 (by decide) rfl hl rfl hd (k (zkf8 i (zk_i hk (by decide)) hk).2.1)
theorem zg_X8_now {i idx : Nat} (F : zF w g own cc nL D) (hk : zk i = 8) (hl : Cond.fieldLink own idx "GladRoadModel" "now" "[I" ∈ zTb) (hd : decode cc pc = .ok (.getfield idx, 3)) (k : zk (i + 3) = 10 → ZW w g nL (pc + 3) lv (.ref (w.2.2 (i + 3)) :: st) M) : ZW w g nL (pc) lv (.ref (w.2.2 i) :: st) M := z_get (C := RX8) (T := TX8) (N := 30) (ci := 8) (j := 4) F (zk_i hk (by decide)) (zc_eq hk) rfl izX8 (by decide) rfl hl rfl hd (k (zkf8 i (zk_i hk (by decide)) hk).2.2.1)
theorem zg_X8_heed {i idx : Nat} (F : zF w g own cc nL D) (hk : zk i = 8) (hl : Cond.fieldLink own idx "GladRoadModel" "heed" "I" ∈ zTb) (hd : decode cc pc = .ok (.getfield idx, 3)) (k : ZW w g nL (pc + 3) lv (.int (M.1 i 5) :: st) M) : ZW w g nL (pc) lv (.ref (w.2.2 i) :: st) M := z_get (C := RX8) (T := TX8) (N := 30) (ci := 8) (j := 5) F (zk_i hk (by decide)) (zc_eq hk) rfl izX8 (by decide) rfl hl rfl hd k
theorem zp_X8_heed {i idx : Nat} {v : Int32} (F : zF w g own cc nL D) (hk : zk i = 8) (hl : Cond.fieldLink own idx "GladRoadModel" "heed" "I" ∈ zTb) (hd : decode cc pc = .ok (.putfield idx, 3)) (k : ZW w g nL (pc + 3) lv (st) (zs M i 5 v)) : ZW w g nL (pc) lv (.int v :: .ref (w.2.2 i) :: st) M := z_put (C := RX8) (T := TX8) (N := 30) (ci := 8) (j := 5) F (zk_i hk (by decide)) (zc_eq hk) rfl izX8 tyX8_ok nmX8 (by decide) rfl rfl hl rfl rfl rfl (Nat.le_of_ble_eq_true rfl) (by rw [zc_eq hk]; simp [zcK, zs, va_up]) (zs_other (zk_i hk (by decide)) (by rw [hk]; exact rfl)) hd k
theorem zg_X8_well {i idx : Nat} (F : zF w g own cc nL D) (hk : zk i = 8) (hl : Cond.fieldLink own idx "GladRoadModel" "well" "I" ∈ zTb) (hd : decode cc pc = .ok (.getfield idx, 3)) (k : ZW w g nL (pc + 3) lv (.int (M.1 i 6) :: st) M) : ZW w g nL (pc) lv (.ref (w.2.2 i) :: st) M := z_get (C := RX8) (T := TX8) (N := 30) (ci := 8) (j := 6) F (zk_i hk (by decide)) (zc_eq hk) rfl izX8 (by decide) rfl hl rfl hd k
theorem zp_X8_well {i idx : Nat} {v : Int32} (F : zF w g own cc nL D) (hk : zk i = 8) (hl : Cond.fieldLink own idx "GladRoadModel" "well" "I" ∈ zTb) (hd : decode cc pc = .ok (.putfield idx, 3)) (k : ZW w g nL (pc + 3) lv (st) (zs M i 6 v)) : ZW w g nL (pc) lv (.int v :: .ref (w.2.2 i) :: st) M := z_put (C := RX8) (T := TX8) (N := 30) (ci := 8) (j := 6) F (zk_i hk (by decide)) (zc_eq hk) rfl izX8 tyX8_ok nmX8 (by decide) rfl rfl hl rfl rfl rfl (Nat.le_of_ble_eq_true rfl) (by rw [zc_eq hk]; simp [zcK, zs, va_up]) (zs_other (zk_i hk (by decide)) (by rw [hk]; exact rfl)) hd k
theorem zg_X8_more {i idx : Nat} (F : zF w g own cc nL D) (hk : zk i = 8) (hl : Cond.fieldLink own idx "GladRoadModel" "more" "I" ∈ zTb) (hd : decode cc pc = .ok (.getfield idx, 3)) (k : ZW w g nL (pc + 3) lv (.int (M.1 i 7) :: st) M) : ZW w g nL (pc) lv (.ref (w.2.2 i) :: st) M := z_get (C := RX8) (T := TX8) (N := 30) (ci := 8) (j := 7) F (zk_i hk (by decide)) (zc_eq hk) rfl izX8 (by decide) rfl hl rfl hd k
theorem zp_X8_more {i idx : Nat} {v : Int32} (F : zF w g own cc nL D) (hk : zk i = 8) (hl : Cond.fieldLink own idx "GladRoadModel" "more" "I" ∈ zTb) (hd : decode cc pc = .ok (.putfield idx, 3)) (k : ZW w g nL (pc + 3) lv (st) (zs M i 7 v)) : ZW w g nL (pc) lv (.int v :: .ref (w.2.2 i) :: st) M := z_put (C := RX8) (T := TX8) (N := 30) (ci := 8) (j := 7) F (zk_i hk (by decide)) (zc_eq hk) rfl izX8 tyX8_ok nmX8 (by decide) rfl rfl hl rfl rfl rfl (Nat.le_of_ble_eq_true rfl) (by rw [zc_eq hk]; simp [zcK, zs, va_up]) (zs_other (zk_i hk (by decide)) (by rw [hk]; exact rfl)) hd k
theorem zg_X8_tossed {i idx : Nat} (F : zF w g own cc nL D) (hk : zk i = 8) (hl : Cond.fieldLink own idx "GladRoadModel" "tossed" "I" ∈ zTb) (hd : decode cc pc = .ok (.getfield idx, 3)) (k : ZW w g nL (pc + 3) lv (.int (M.1 i 8) :: st) M) : ZW w g nL (pc) lv (.ref (w.2.2 i) :: st) M := z_get (C := RX8) (T := TX8) (N := 30) (ci := 8) (j := 8) F (zk_i hk (by decide)) (zc_eq hk) rfl izX8 (by decide) rfl hl rfl hd k
theorem zp_X8_tossed {i idx : Nat} {v : Int32} (F : zF w g own cc nL D) (hk : zk i = 8) (hl : Cond.fieldLink own idx "GladRoadModel" "tossed" "I" ∈ zTb) (hd : decode cc pc = .ok (.putfield idx, 3)) (k : ZW w g nL (pc + 3) lv (st) (zs M i 8 v)) : ZW w g nL (pc) lv (.int v :: .ref (w.2.2 i) :: st) M := z_put (C := RX8) (T := TX8) (N := 30) (ci := 8) (j := 8) F (zk_i hk (by decide)) (zc_eq hk) rfl izX8 tyX8_ok nmX8 (by decide) rfl rfl hl rfl rfl rfl (Nat.le_of_ble_eq_true rfl) (by rw [zc_eq hk]; simp [zcK, zs, va_up]) (zs_other (zk_i hk (by decide)) (by rw [hk]; exact rfl)) hd k
theorem zg_X8_tape {i idx : Nat} (F : zF w g own cc nL D) (hk : zk i = 8) (hl : Cond.fieldLink own idx "GladRoadModel" "tape" "[I" ∈ zTb) (hd : decode cc pc = .ok (.getfield idx, 3)) (k : zk (i + 4) = 10 → ZW w g nL (pc + 3) lv (.ref (w.2.2 (i + 4)) :: st) M) : ZW w g nL (pc) lv (.ref (w.2.2 i) :: st) M := z_get (C := RX8) (T := TX8) (N := 30) (ci := 8) (j := 9) F (zk_i hk (by decide)) (zc_eq hk) rfl izX8 (by decide) rfl hl rfl hd (k (zkf8 i (zk_i hk (by decide)) hk).2.2.2.1)
theorem zg_X8_taped {i idx : Nat} (F : zF w g own cc nL D) (hk : zk i = 8) (hl : Cond.fieldLink own idx "GladRoadModel" "taped" "I" ∈ zTb) (hd : decode cc pc = .ok (.getfield idx, 3)) (k : ZW w g nL (pc + 3) lv (.int (M.1 i 10) :: st) M) : ZW w g nL (pc) lv (.ref (w.2.2 i) :: st) M := z_get (C := RX8) (T := TX8) (N := 30) (ci := 8) (j := 10) F (zk_i hk (by decide)) (zc_eq hk) rfl izX8 (by decide) rfl hl rfl hd k
theorem zp_X8_taped {i idx : Nat} {v : Int32} (F : zF w g own cc nL D) (hk : zk i = 8) (hl : Cond.fieldLink own idx "GladRoadModel" "taped" "I" ∈ zTb) (hd : decode cc pc = .ok (.putfield idx, 3)) (k : ZW w g nL (pc + 3) lv (st) (zs M i 10 v)) : ZW w g nL (pc) lv (.int v :: .ref (w.2.2 i) :: st) M := z_put (C := RX8) (T := TX8) (N := 30) (ci := 8) (j := 10) F (zk_i hk (by decide)) (zc_eq hk) rfl izX8 tyX8_ok nmX8 (by decide) rfl rfl hl rfl rfl rfl (Nat.le_of_ble_eq_true rfl) (by rw [zc_eq hk]; simp [zcK, zs, va_up]) (zs_other (zk_i hk (by decide)) (by rw [hk]; exact rfl)) hd k
theorem zg_X8_at {i idx : Nat} (F : zF w g own cc nL D) (hk : zk i = 8) (hl : Cond.fieldLink own idx "GladRoadModel" "at" "I" ∈ zTb) (hd : decode cc pc = .ok (.getfield idx, 3)) (k : ZW w g nL (pc + 3) lv (.int (M.1 i 11) :: st) M) : ZW w g nL (pc) lv (.ref (w.2.2 i) :: st) M := z_get (C := RX8) (T := TX8) (N := 30) (ci := 8) (j := 11) F (zk_i hk (by decide)) (zc_eq hk) rfl izX8 (by decide) rfl hl rfl hd k
theorem zp_X8_at {i idx : Nat} {v : Int32} (F : zF w g own cc nL D) (hk : zk i = 8) (hl : Cond.fieldLink own idx "GladRoadModel" "at" "I" ∈ zTb) (hd : decode cc pc = .ok (.putfield idx, 3)) (k : ZW w g nL (pc + 3) lv (st) (zs M i 11 v)) : ZW w g nL (pc) lv (.int v :: .ref (w.2.2 i) :: st) M := z_put (C := RX8) (T := TX8) (N := 30) (ci := 8) (j := 11) F (zk_i hk (by decide)) (zc_eq hk) rfl izX8 tyX8_ok nmX8 (by decide) rfl rfl hl rfl rfl rfl (Nat.le_of_ble_eq_true rfl) (by rw [zc_eq hk]; simp [zcK, zs, va_up]) (zs_other (zk_i hk (by decide)) (by rw [hk]; exact rfl)) hd k
theorem zg_X8_wrong {i idx : Nat} (F : zF w g own cc nL D) (hk : zk i = 8) (hl : Cond.fieldLink own idx "GladRoadModel" "wrong" "Z" ∈ zTb) (hd : decode cc pc = .ok (.getfield idx, 3)) (k : ZW w g nL (pc + 3) lv (.int (M.1 i 12) :: st) M) : ZW w g nL (pc) lv (.ref (w.2.2 i) :: st) M := z_get (C := RX8) (T := TX8) (N := 30) (ci := 8) (j := 12) F (zk_i hk (by decide)) (zc_eq hk) rfl izX8 (by decide) rfl hl rfl hd k
theorem zp_X8_wrong {i idx : Nat} {v : Int32} (F : zF w g own cc nL D) (hk : zk i = 8) (hl : Cond.fieldLink own idx "GladRoadModel" "wrong" "Z" ∈ zTb) (hn : narrow .boolean (.int v) = .int v) (hf : fits .boolean (.int v) = true) (hd : decode cc pc = .ok (.putfield idx, 3)) (k : ZW w g nL (pc + 3) lv (st) (zs M i 12 v)) : ZW w g nL (pc) lv (.int v :: .ref (w.2.2 i) :: st) M := z_put (C := RX8) (T := TX8) (N := 30) (ci := 8) (j := 12) F (zk_i hk (by decide)) (zc_eq hk) rfl izX8 tyX8_ok nmX8 (by decide) rfl rfl hl rfl hn hf (Nat.le_of_ble_eq_true rfl) (by rw [zc_eq hk]; simp [zcK, zs, va_up]) (zs_other (zk_i hk (by decide)) (by rw [hk]; exact rfl)) hd k
theorem zg_X8_manyThings {i idx : Nat} (F : zF w g own cc nL D) (hk : zk i = 8) (hl : Cond.fieldLink own idx "GladRoadModel" "manyThings" "I" ∈ zTb) (hd : decode cc pc = .ok (.getfield idx, 3)) (k : ZW w g nL (pc + 3) lv (.int (M.1 i 13) :: st) M) : ZW w g nL (pc) lv (.ref (w.2.2 i) :: st) M := z_get (C := RX8) (T := TX8) (N := 30) (ci := 8) (j := 13) F (zk_i hk (by decide)) (zc_eq hk) rfl izX8 (by decide) rfl hl rfl hd k
theorem zp_X8_manyThings {i idx : Nat} {v : Int32} (F : zF w g own cc nL D) (hk : zk i = 8) (hl : Cond.fieldLink own idx "GladRoadModel" "manyThings" "I" ∈ zTb) (hd : decode cc pc = .ok (.putfield idx, 3)) (k : ZW w g nL (pc + 3) lv (st) (zs M i 13 v)) : ZW w g nL (pc) lv (.int v :: .ref (w.2.2 i) :: st) M := z_put (C := RX8) (T := TX8) (N := 30) (ci := 8) (j := 13) F (zk_i hk (by decide)) (zc_eq hk) rfl izX8 tyX8_ok nmX8 (by decide) rfl rfl hl rfl rfl rfl (Nat.le_of_ble_eq_true rfl) (by rw [zc_eq hk]; simp [zcK, zs, va_up]) (zs_other (zk_i hk (by decide)) (by rw [hk]; exact rfl)) hd k
theorem zg_X8_manyPeople {i idx : Nat} (F : zF w g own cc nL D) (hk : zk i = 8) (hl : Cond.fieldLink own idx "GladRoadModel" "manyPeople" "I" ∈ zTb) (hd : decode cc pc = .ok (.getfield idx, 3)) (k : ZW w g nL (pc + 3) lv (.int (M.1 i 14) :: st) M) : ZW w g nL (pc) lv (.ref (w.2.2 i) :: st) M := z_get (C := RX8) (T := TX8) (N := 30) (ci := 8) (j := 14) F (zk_i hk (by decide)) (zc_eq hk) rfl izX8 (by decide) rfl hl rfl hd k
theorem zp_X8_manyPeople {i idx : Nat} {v : Int32} (F : zF w g own cc nL D) (hk : zk i = 8) (hl : Cond.fieldLink own idx "GladRoadModel" "manyPeople" "I" ∈ zTb) (hd : decode cc pc = .ok (.putfield idx, 3)) (k : ZW w g nL (pc + 3) lv (st) (zs M i 14 v)) : ZW w g nL (pc) lv (.int v :: .ref (w.2.2 i) :: st) M := z_put (C := RX8) (T := TX8) (N := 30) (ci := 8) (j := 14) F (zk_i hk (by decide)) (zc_eq hk) rfl izX8 tyX8_ok nmX8 (by decide) rfl rfl hl rfl rfl rfl (Nat.le_of_ble_eq_true rfl) (by rw [zc_eq hk]; simp [zcK, zs, va_up]) (zs_other (zk_i hk (by decide)) (by rw [hk]; exact rfl)) hd k
theorem zg_X8_his {i idx : Nat} (F : zF w g own cc nL D) (hk : zk i = 8) (hl : Cond.fieldLink own idx "GladRoadModel" "his" "I" ∈ zTb) (hd : decode cc pc = .ok (.getfield idx, 3)) (k : ZW w g nL (pc + 3) lv (.int (M.1 i 15) :: st) M) : ZW w g nL (pc) lv (.ref (w.2.2 i) :: st) M := z_get (C := RX8) (T := TX8) (N := 30) (ci := 8) (j := 15) F (zk_i hk (by decide)) (zc_eq hk) rfl izX8 (by decide) rfl hl rfl hd k
theorem zp_X8_his {i idx : Nat} {v : Int32} (F : zF w g own cc nL D) (hk : zk i = 8) (hl : Cond.fieldLink own idx "GladRoadModel" "his" "I" ∈ zTb) (hd : decode cc pc = .ok (.putfield idx, 3)) (k : ZW w g nL (pc + 3) lv (st) (zs M i 15 v)) : ZW w g nL (pc) lv (.int v :: .ref (w.2.2 i) :: st) M := z_put (C := RX8) (T := TX8) (N := 30) (ci := 8) (j := 15) F (zk_i hk (by decide)) (zc_eq hk) rfl izX8 tyX8_ok nmX8 (by decide) rfl rfl hl rfl rfl rfl (Nat.le_of_ble_eq_true rfl) (by rw [zc_eq hk]; simp [zcK, zs, va_up]) (zs_other (zk_i hk (by decide)) (by rw [hk]; exact rfl)) hd k
theorem zg_X8_readThings {i idx : Nat} (F : zF w g own cc nL D) (hk : zk i = 8) (hl : Cond.fieldLink own idx "GladRoadModel" "readThings" "[I" ∈ zTb) (hd : decode cc pc = .ok (.getfield idx, 3)) (k : zk (i + 5) = 10 → ZW w g nL (pc + 3) lv (.ref (w.2.2 (i + 5)) :: st) M) : ZW w g nL (pc) lv (.ref (w.2.2 i) :: st) M := z_get (C := RX8) (T := TX8) (N := 30) (ci := 8) (j := 16) F (zk_i hk (by decide)) (zc_eq hk) rfl izX8 (by decide) rfl hl rfl hd (k (zkf8 i (zk_i hk (by decide)) hk).2.2.2.2.1)
theorem zg_X8_readPeople {i idx : Nat} (F : zF w g own cc nL D) (hk : zk i = 8) (hl : Cond.fieldLink own idx "GladRoadModel" "readPeople" "[I" ∈ zTb) (hd : decode cc pc = .ok (.getfield idx, 3)) (k : zk (i + 6) = 10 → ZW w g nL (pc + 3) lv (.ref (w.2.2 (i + 6)) :: st) M) : ZW w g nL (pc) lv (.ref (w.2.2 i) :: st) M := z_get (C := RX8) (T := TX8) (N := 30) (ci := 8) (j := 17) F (zk_i hk (by decide)) (zc_eq hk) rfl izX8 (by decide) rfl hl rfl hd (k (zkf8 i (zk_i hk (by decide)) hk).2.2.2.2.2.1)
theorem zg_X8_refused {i idx : Nat} (F : zF w g own cc nL D) (hk : zk i = 8) (hl : Cond.fieldLink own idx "GladRoadModel" "refused" "I" ∈ zTb) (hd : decode cc pc = .ok (.getfield idx, 3)) (k : ZW w g nL (pc + 3) lv (.int (M.1 i 18) :: st) M) : ZW w g nL (pc) lv (.ref (w.2.2 i) :: st) M := z_get (C := RX8) (T := TX8) (N := 30) (ci := 8) (j := 18) F (zk_i hk (by decide)) (zc_eq hk) rfl izX8 (by decide) rfl hl rfl hd k
theorem zp_X8_refused {i idx : Nat} {v : Int32} (F : zF w g own cc nL D) (hk : zk i = 8) (hl : Cond.fieldLink own idx "GladRoadModel" "refused" "I" ∈ zTb) (hd : decode cc pc = .ok (.putfield idx, 3)) (k : ZW w g nL (pc + 3) lv (st) (zs M i 18 v)) : ZW w g nL (pc) lv (.int v :: .ref (w.2.2 i) :: st) M := z_put (C := RX8) (T := TX8) (N := 30) (ci := 8) (j := 18) F (zk_i hk (by decide)) (zc_eq hk) rfl izX8 tyX8_ok nmX8 (by decide) rfl rfl hl rfl rfl rfl (Nat.le_of_ble_eq_true rfl) (by rw [zc_eq hk]; simp [zcK, zs, va_up]) (zs_other (zk_i hk (by decide)) (by rw [hk]; exact rfl)) hd k
theorem zg_X8_undone {i idx : Nat} (F : zF w g own cc nL D) (hk : zk i = 8) (hl : Cond.fieldLink own idx "GladRoadModel" "undone" "[I" ∈ zTb) (hd : decode cc pc = .ok (.getfield idx, 3)) (k : zk (i + 7) = 10 → ZW w g nL (pc + 3) lv (.ref (w.2.2 (i + 7)) :: st) M) : ZW w g nL (pc) lv (.ref (w.2.2 i) :: st) M := z_get (C := RX8) (T := TX8) (N := 30) (ci := 8) (j := 19) F (zk_i hk (by decide)) (zc_eq hk) rfl izX8 (by decide) rfl hl rfl hd (k (zkf8 i (zk_i hk (by decide)) hk).2.2.2.2.2.2.1)
theorem zg_X8_undos {i idx : Nat} (F : zF w g own cc nL D) (hk : zk i = 8) (hl : Cond.fieldLink own idx "GladRoadModel" "undos" "I" ∈ zTb) (hd : decode cc pc = .ok (.getfield idx, 3)) (k : ZW w g nL (pc + 3) lv (.int (M.1 i 20) :: st) M) : ZW w g nL (pc) lv (.ref (w.2.2 i) :: st) M := z_get (C := RX8) (T := TX8) (N := 30) (ci := 8) (j := 20) F (zk_i hk (by decide)) (zc_eq hk) rfl izX8 (by decide) rfl hl rfl hd k
theorem zp_X8_undos {i idx : Nat} {v : Int32} (F : zF w g own cc nL D) (hk : zk i = 8) (hl : Cond.fieldLink own idx "GladRoadModel" "undos" "I" ∈ zTb) (hd : decode cc pc = .ok (.putfield idx, 3)) (k : ZW w g nL (pc + 3) lv (st) (zs M i 20 v)) : ZW w g nL (pc) lv (.int v :: .ref (w.2.2 i) :: st) M := z_put (C := RX8) (T := TX8) (N := 30) (ci := 8) (j := 20) F (zk_i hk (by decide)) (zc_eq hk) rfl izX8 tyX8_ok nmX8 (by decide) rfl rfl hl rfl rfl rfl (Nat.le_of_ble_eq_true rfl) (by rw [zc_eq hk]; simp [zcK, zs, va_up]) (zs_other (zk_i hk (by decide)) (by rw [hk]; exact rfl)) hd k
theorem zg_X8_aside {i idx : Nat} (F : zF w g own cc nL D) (hk : zk i = 8) (hl : Cond.fieldLink own idx "GladRoadModel" "aside" "[I" ∈ zTb) (hd : decode cc pc = .ok (.getfield idx, 3)) (k : zk (i + 8) = 10 → ZW w g nL (pc + 3) lv (.ref (w.2.2 (i + 8)) :: st) M) : ZW w g nL (pc) lv (.ref (w.2.2 i) :: st) M := z_get (C := RX8) (T := TX8) (N := 30) (ci := 8) (j := 21) F (zk_i hk (by decide)) (zc_eq hk) rfl izX8 (by decide) rfl hl rfl hd (k (zkf8 i (zk_i hk (by decide)) hk).2.2.2.2.2.2.2.1)
theorem zg_X8_meets {i idx : Nat} (F : zF w g own cc nL D) (hk : zk i = 8) (hl : Cond.fieldLink own idx "GladRoadModel" "meets" "[I" ∈ zTb) (hd : decode cc pc = .ok (.getfield idx, 3)) (k : zk (i + 9) = 10 → ZW w g nL (pc + 3) lv (.ref (w.2.2 (i + 9)) :: st) M) : ZW w g nL (pc) lv (.ref (w.2.2 i) :: st) M := z_get (C := RX8) (T := TX8) (N := 30) (ci := 8) (j := 22) F (zk_i hk (by decide)) (zc_eq hk) rfl izX8 (by decide) rfl hl rfl hd (k (zkf8 i (zk_i hk (by decide)) hk).2.2.2.2.2.2.2.2.1)
theorem zg_X8_two {i idx : Nat} (F : zF w g own cc nL D) (hk : zk i = 8) (hl : Cond.fieldLink own idx "GladRoadModel" "two" "[I" ∈ zTb) (hd : decode cc pc = .ok (.getfield idx, 3)) (k : zk (i + 10) = 10 → ZW w g nL (pc + 3) lv (.ref (w.2.2 (i + 10)) :: st) M) : ZW w g nL (pc) lv (.ref (w.2.2 i) :: st) M := z_get (C := RX8) (T := TX8) (N := 30) (ci := 8) (j := 23) F (zk_i hk (by decide)) (zc_eq hk) rfl izX8 (by decide) rfl hl rfl hd (k (zkf8 i (zk_i hk (by decide)) hk).2.2.2.2.2.2.2.2.2.1)
theorem zg_X8_image {i idx : Nat} (F : zF w g own cc nL D) (hk : zk i = 8) (hl : Cond.fieldLink own idx "GladRoadModel" "image" "[I" ∈ zTb) (hd : decode cc pc = .ok (.getfield idx, 3)) (k : zk (i + 11) = 10 → ZW w g nL (pc + 3) lv (.ref (w.2.2 (i + 11)) :: st) M) : ZW w g nL (pc) lv (.ref (w.2.2 i) :: st) M := z_get (C := RX8) (T := TX8) (N := 30) (ci := 8) (j := 24) F (zk_i hk (by decide)) (zc_eq hk) rfl izX8 (by decide) rfl hl rfl hd (k (zkf8 i (zk_i hk (by decide)) hk).2.2.2.2.2.2.2.2.2.2.1)
theorem zg_X8_isImage {i idx : Nat} (F : zF w g own cc nL D) (hk : zk i = 8) (hl : Cond.fieldLink own idx "GladRoadModel" "isImage" "Z" ∈ zTb) (hd : decode cc pc = .ok (.getfield idx, 3)) (k : ZW w g nL (pc + 3) lv (.int (M.1 i 25) :: st) M) : ZW w g nL (pc) lv (.ref (w.2.2 i) :: st) M := z_get (C := RX8) (T := TX8) (N := 30) (ci := 8) (j := 25) F (zk_i hk (by decide)) (zc_eq hk) rfl izX8 (by decide) rfl hl rfl hd k
theorem zp_X8_isImage {i idx : Nat} {v : Int32} (F : zF w g own cc nL D) (hk : zk i = 8) (hl : Cond.fieldLink own idx "GladRoadModel" "isImage" "Z" ∈ zTb) (hn : narrow .boolean (.int v) = .int v) (hf : fits .boolean (.int v) = true) (hd : decode cc pc = .ok (.putfield idx, 3)) (k : ZW w g nL (pc + 3) lv (st) (zs M i 25 v)) : ZW w g nL (pc) lv (.int v :: .ref (w.2.2 i) :: st) M := z_put (C := RX8) (T := TX8) (N := 30) (ci := 8) (j := 25) F (zk_i hk (by decide)) (zc_eq hk) rfl izX8 tyX8_ok nmX8 (by decide) rfl rfl hl rfl hn hf (Nat.le_of_ble_eq_true rfl) (by rw [zc_eq hk]; simp [zcK, zs, va_up]) (zs_other (zk_i hk (by decide)) (by rw [hk]; exact rfl)) hd k
theorem zg_X8_lanes {i idx : Nat} (F : zF w g own cc nL D) (hk : zk i = 8) (hl : Cond.fieldLink own idx "GladRoadModel" "lanes" "[I" ∈ zTb) (hd : decode cc pc = .ok (.getfield idx, 3)) (k : zk (i + 12) = 10 → ZW w g nL (pc + 3) lv (.ref (w.2.2 (i + 12)) :: st) M) : ZW w g nL (pc) lv (.ref (w.2.2 i) :: st) M := z_get (C := RX8) (T := TX8) (N := 30) (ci := 8) (j := 26) F (zk_i hk (by decide)) (zc_eq hk) rfl izX8 (by decide) rfl hl rfl hd (k (zkf8 i (zk_i hk (by decide)) hk).2.2.2.2.2.2.2.2.2.2.2.1)
theorem zg_X8_sizes {i idx : Nat} (F : zF w g own cc nL D) (hk : zk i = 8) (hl : Cond.fieldLink own idx "GladRoadModel" "sizes" "[I" ∈ zTb) (hd : decode cc pc = .ok (.getfield idx, 3)) (k : zk (i + 13) = 10 → ZW w g nL (pc + 3) lv (.ref (w.2.2 (i + 13)) :: st) M) : ZW w g nL (pc) lv (.ref (w.2.2 i) :: st) M := z_get (C := RX8) (T := TX8) (N := 30) (ci := 8) (j := 27) F (zk_i hk (by decide)) (zc_eq hk) rfl izX8 (by decide) rfl hl rfl hd (k (zkf8 i (zk_i hk (by decide)) hk).2.2.2.2.2.2.2.2.2.2.2.2.1)
theorem zg_X8_items {i idx : Nat} (F : zF w g own cc nL D) (hk : zk i = 8) (hl : Cond.fieldLink own idx "GladRoadModel" "items" "[J" ∈ zTb) (hd : decode cc pc = .ok (.getfield idx, 3)) (k : zk (i + 14) = 14 → ZW w g nL (pc + 3) lv (.ref (w.2.2 (i + 14)) :: st) M) : ZW w g nL (pc) lv (.ref (w.2.2 i) :: st) M := z_get (C := RX8) (T := TX8) (N := 30) (ci := 8) (j := 28) F (zk_i hk (by decide)) (zc_eq hk) rfl izX8 (by decide) rfl hl rfl hd (k (zkf8 i (zk_i hk (by decide)) hk).2.2.2.2.2.2.2.2.2.2.2.2.2.1)
theorem zg_X8_moved {i idx : Nat} (F : zF w g own cc nL D) (hk : zk i = 8) (hl : Cond.fieldLink own idx "GladRoadModel" "moved" "[J" ∈ zTb) (hd : decode cc pc = .ok (.getfield idx, 3)) (k : zk (i + 15) = 14 → ZW w g nL (pc + 3) lv (.ref (w.2.2 (i + 15)) :: st) M) : ZW w g nL (pc) lv (.ref (w.2.2 i) :: st) M := z_get (C := RX8) (T := TX8) (N := 30) (ci := 8) (j := 29) F (zk_i hk (by decide)) (zc_eq hk) rfl izX8 (by decide) rfl hl rfl hd (k (zkf8 i (zk_i hk (by decide)) hk).2.2.2.2.2.2.2.2.2.2.2.2.2.2)
theorem z_iald10 {i : Nat} {x : Int32} (F : zF w g own cc nL D) (hk : zk (i) = 10) (hin : vp_in x (zn i)) (hd : decode cc pc = .ok (.iaload, 1)) (k : ZW w g nL (pc + 1) lv (.int (M.1 i x.toNatClampNeg) :: st) M) : ZW w g nL (pc) lv (.int x :: .ref (w.2.2 (i)) :: st) M := fun H locs ls hl hP hS => va_iald F.1 F.2.1 F.2.2.2.2.2.2.1 hP.P (i) 1 (by rw [zL0_at (zk_i hk (by decide)), zc_eq hk]; rfl) rfl hin hd (k H locs ls hl hP hS)
theorem z_iald11 {i : Nat} {x : Int32} (F : zF w g own cc nL D) (hk : zk (i + 1) = 11) (hin : vp_in x 9) (hd : decode cc pc = .ok (.iaload, 1)) (k : ZW w g nL (pc + 1) lv (.int (M.1 i (5 + x.toNatClampNeg)) :: st) M) : ZW w g nL (pc) lv (.int x :: .ref (w.2.2 (i + 1)) :: st) M := fun H locs ls hl hP hS => va_iald F.1 F.2.1 F.2.2.2.2.2.2.1 hP.P (i + 1) 1 (by rw [zL0_at (zk_i hk (by decide)), zc_eq hk]; rfl) rfl hin hd (k H locs ls hl hP hS)
theorem z_iald12 {i : Nat} {x : Int32} (F : zF w g own cc nL D) (hk : zk (i) = 12) (hin : vp_in x 9) (hd : decode cc pc = .ok (.iaload, 1)) (k : ZW w g nL (pc + 1) lv (.int (M.1 i (2 * x.toNatClampNeg)) :: st) M) : ZW w g nL (pc) lv (.int x :: .ref (w.2.2 (i)) :: st) M := fun H locs ls hl hP hS => va_iald F.1 F.2.1 F.2.2.2.2.2.2.1 hP.P (i) 1 (by rw [zL0_at (zk_i hk (by decide)), zc_eq hk]; rfl) rfl hin hd (k H locs ls hl hP hS)
theorem z_iald13 {i : Nat} {x : Int32} (F : zF w g own cc nL D) (hk : zk (i + 1) = 13) (hin : vp_in x 9) (hd : decode cc pc = .ok (.iaload, 1)) (k : ZW w g nL (pc + 1) lv (.int (M.1 i (2 * x.toNatClampNeg + 1)) :: st) M) : ZW w g nL (pc) lv (.int x :: .ref (w.2.2 (i + 1)) :: st) M := fun H locs ls hl hP hS => va_iald F.1 F.2.1 F.2.2.2.2.2.2.1 hP.P (i + 1) 1 (by rw [zL0_at (zk_i hk (by decide)), zc_eq hk]; rfl) rfl hin hd (k H locs ls hl hP hS)
theorem z_cald9 {i : Nat} {x : Int32} (F : zF w g own cc nL D) (hk : zk (i) = 9) (hin : vp_in x 120) (hd : decode cc pc = .ok (.caload, 1)) (k : ZW w g nL (pc + 1) lv (.int (M.1 i x.toNatClampNeg) :: st) M) : ZW w g nL (pc) lv (.int x :: .ref (w.2.2 (i)) :: st) M := fun H locs ls hl hP hS => va_cald F.1 F.2.1 F.2.2.2.2.2.2.1 hP.P (i) 0 (by rw [zL0_at (zk_i hk (by decide)), zc_eq hk]; rfl) rfl hin hd (k H locs ls hl hP hS)
theorem z_lald14 {i : Nat} {x : Int32} (F : zF w g own cc nL D) (hk : zk (i) = 14) (hin : vp_in x (zn i)) (hd : decode cc pc = .ok (.laload, 1)) (k : ZW w g nL (pc + 1) lv (.long (M.2 i x.toNatClampNeg) :: st) M) : ZW w g nL (pc) lv (.int x :: .ref (w.2.2 (i)) :: st) M := fun H locs ls hl hP hS => va_lald F.1 F.2.1 F.2.2.2.2.2.2.1 hP.P (i) 2 (by rw [zL0_at (zk_i hk (by decide)), zc_eq hk]; rfl) rfl hin hd (k H locs ls hl hP hS)
theorem z_iast10 {i : Nat} {x : Int32} {v : Int32} (F : zF w g own cc nL D) (hk : zk (i) = 10) (hin : vp_in x (zn i)) (hd : decode cc pc = .ok (.iastore, 1)) (k : ZW w g nL (pc + 1) lv (st) (zs M i x.toNatClampNeg v)) : ZW w g nL (pc) lv (.int v :: .int x :: .ref (w.2.2 (i)) :: st) M := fun H locs ls hl hP hS =>
  have hi := zk_i hk (by decide)
  va_iast F.1 F.2.1 F.2.2.2.2.2.2.1 hP.P (zP.D F.2.2.2.2.2.2.2.1 F.2.2.2.2.2.2.2.2.1) hS (i) 1 (by rw [zL0_at hi, zc_eq hk]; rfl) rfl hin hd (fun H1 locs1 hP1 _ hS1 => k H1 locs1 ls hl (zP.put hi hP1 (by rw [zc_eq hk]; show Sum.inl (_, _, Sum.inl (va_up M.1 i (va_up (M.1 i) x.toNatClampNeg v) i)) = _; rw [va_up_self]; rfl) (zs_other hi (by rw [hk]; exact rfl))) hS1)
theorem z_iast11 {i : Nat} {x : Int32} {v : Int32} (F : zF w g own cc nL D) (hk : zk (i + 1) = 11) (hin : vp_in x 9) (hd : decode cc pc = .ok (.iastore, 1)) (k : ZW w g nL (pc + 1) lv (st) (zs M i (5 + x.toNatClampNeg) v)) : ZW w g nL (pc) lv (.int v :: .int x :: .ref (w.2.2 (i + 1)) :: st) M := fun H locs ls hl hP hS =>
  have hi := zk_i hk (by decide)
  va_iast F.1 F.2.1 F.2.2.2.2.2.2.1 hP.P (zP.D F.2.2.2.2.2.2.2.1 F.2.2.2.2.2.2.2.2.1) hS (i + 1) 1 (by rw [zL0_at hi, zc_eq hk]; rfl) rfl hin hd (fun H1 locs1 hP1 _ hS1 => k H1 locs1 ls hl (zP.put hi hP1 (by rw [zc_eq hk]; show Sum.inl (_, _, Sum.inl (fun k => va_up M.1 i (va_up (M.1 i) (5 + x.toNatClampNeg) v) i (5 + k))) = _; rw [va_up_self]; refine congrArg Sum.inl (congrArg (Prod.mk _) (congrArg (Prod.mk _) (congrArg Sum.inl (funext fun k => ?_)))); simp only [va_up, upd]; exact dite (k = x.toNatClampNeg) (fun hq => by subst hq; simp) (fun hq => by rw [if_neg (by omega), if_neg hq]; try rfl)) (zs_other hi (by rw [hk]; exact ⟨rfl, by omega⟩))) hS1)
theorem z_iast12 {i : Nat} {x : Int32} {v : Int32} (F : zF w g own cc nL D) (hk : zk (i) = 12) (hin : vp_in x 9) (hd : decode cc pc = .ok (.iastore, 1)) (k : ZW w g nL (pc + 1) lv (st) (zs M i (2 * x.toNatClampNeg) v)) : ZW w g nL (pc) lv (.int v :: .int x :: .ref (w.2.2 (i)) :: st) M := fun H locs ls hl hP hS =>
  have hi := zk_i hk (by decide)
  va_iast F.1 F.2.1 F.2.2.2.2.2.2.1 hP.P (zP.D F.2.2.2.2.2.2.2.1 F.2.2.2.2.2.2.2.2.1) hS (i) 1 (by rw [zL0_at hi, zc_eq hk]; rfl) rfl hin hd (fun H1 locs1 hP1 _ hS1 => k H1 locs1 ls hl (zP.put hi hP1 (by rw [zc_eq hk]; show Sum.inl (_, _, Sum.inl (fun k => va_up M.1 i (va_up (M.1 i) (2 * x.toNatClampNeg) v) i (2 * k))) = _; rw [va_up_self]; refine congrArg Sum.inl (congrArg (Prod.mk _) (congrArg (Prod.mk _) (congrArg Sum.inl (funext fun k => ?_)))); simp only [va_up, upd]; exact dite (k = x.toNatClampNeg) (fun hq => by subst hq; simp) (fun hq => by rw [if_neg (by omega), if_neg hq]; try rfl)) (zs_other hi (by rw [hk]; exact ⟨rfl, by omega⟩))) hS1)
theorem z_iast13 {i : Nat} {x : Int32} {v : Int32} (F : zF w g own cc nL D) (hk : zk (i + 1) = 13) (hin : vp_in x 9) (hd : decode cc pc = .ok (.iastore, 1)) (k : ZW w g nL (pc + 1) lv (st) (zs M i (2 * x.toNatClampNeg + 1) v)) : ZW w g nL (pc) lv (.int v :: .int x :: .ref (w.2.2 (i + 1)) :: st) M := fun H locs ls hl hP hS =>
  have hi := zk_i hk (by decide)
  va_iast F.1 F.2.1 F.2.2.2.2.2.2.1 hP.P (zP.D F.2.2.2.2.2.2.2.1 F.2.2.2.2.2.2.2.2.1) hS (i + 1) 1 (by rw [zL0_at hi, zc_eq hk]; rfl) rfl hin hd (fun H1 locs1 hP1 _ hS1 => k H1 locs1 ls hl (zP.put hi hP1 (by rw [zc_eq hk]; show Sum.inl (_, _, Sum.inl (fun k => va_up M.1 i (va_up (M.1 i) (2 * x.toNatClampNeg + 1) v) i (2 * k + 1))) = _; rw [va_up_self]; refine congrArg Sum.inl (congrArg (Prod.mk _) (congrArg (Prod.mk _) (congrArg Sum.inl (funext fun k => ?_)))); simp only [va_up, upd]; exact dite (k = x.toNatClampNeg) (fun hq => by subst hq; simp) (fun hq => by rw [if_neg (by omega), if_neg hq]; try rfl)) (zs_other hi (by rw [hk]; exact ⟨rfl, by omega⟩))) hS1)
theorem z_cast9 {i : Nat} {x : Int32} {v : Int32} (F : zF w g own cc nL D) (hk : zk (i) = 9) (hin : vp_in x 120) (hv : vp_nar .char v = v) (hd : decode cc pc = .ok (.castore, 1)) (k : ZW w g nL (pc + 1) lv (st) (zs M i x.toNatClampNeg v)) : ZW w g nL (pc) lv (.int v :: .int x :: .ref (w.2.2 (i)) :: st) M := fun H locs ls hl hP hS =>
  have hi := zk_i hk (by decide)
  va_cast F.1 F.2.1 F.2.2.2.2.2.2.1 hP.P (zP.D F.2.2.2.2.2.2.2.1 F.2.2.2.2.2.2.2.2.1) hS (i) 0 (by rw [zL0_at hi, zc_eq hk]; rfl) rfl hin hd (fun H1 locs1 hP1 _ hS1 => k H1 locs1 ls hl (zP.put hi hP1 (by rw [zc_eq hk]; show Sum.inl (_, _, Sum.inl (va_up M.1 i (va_up (M.1 i) x.toNatClampNeg v) i)) = _; rw [va_up_self, hv]; rfl) (zs_other hi (by rw [hk]; exact rfl))) hS1)
theorem z_last14 {i : Nat} {x : Int32} {v : Int64} (F : zF w g own cc nL D) (hk : zk (i) = 14) (hin : vp_in x (zn i)) (hd : decode cc pc = .ok (.lastore, 1)) (k : ZW w g nL (pc + 1) lv (st) (zy M i x.toNatClampNeg v)) : ZW w g nL (pc) lv (.long v :: .int x :: .ref (w.2.2 (i)) :: st) M := fun H locs ls hl hP hS =>
  have hi := zk_i hk (by decide)
  va_last F.1 F.2.1 F.2.2.2.2.2.2.1 hP.P (zP.D F.2.2.2.2.2.2.2.1 F.2.2.2.2.2.2.2.2.1) hS (i) 2 (by rw [zL0_at hi, zc_eq hk]; rfl) rfl hin hd (fun H1 locs1 hP1 _ hS1 => k H1 locs1 ls hl (zP.put hi hP1 (by rw [zc_eq hk]; show Sum.inl (_, _, Sum.inr (Sum.inl (va_up M.2 i (va_up (M.2 i) x.toNatClampNeg v) i))) = _; rw [va_up_self]; rfl) zy_other) hS1)
theorem z_alen9 {i : Nat} (F : zF w g own cc nL D) (hk : zk i = 9) (hd : decode cc pc = .ok (.arraylength, 1)) (k : ZW w g nL (pc + 1) lv (.int (120) :: st) M) : ZW w g nL (pc) lv (.ref (w.2.2 i) :: st) M := fun H locs ls hl hP hS => va_alen (v := 120) F.1 F.2.1 F.2.2.2.2.2.2.1 hP.P i 0 (by rw [zL0_at (zk_i hk (by decide)), zc_eq hk]; rfl) rfl (show Int32.ofNat 120 = 120 by decide) hd (k H locs ls hl hP hS)
theorem z_alen10 {i : Nat} (F : zF w g own cc nL D) (hk : zk i = 10) (hd : decode cc pc = .ok (.arraylength, 1)) (k : ZW w g nL (pc + 1) lv (.int (nI (zn i)) :: st) M) : ZW w g nL (pc) lv (.ref (w.2.2 i) :: st) M := fun H locs ls hl hP hS => va_alen (v := nI (zn i)) F.1 F.2.1 F.2.2.2.2.2.2.1 hP.P i 1 (by rw [zL0_at (zk_i hk (by decide)), zc_eq hk]; rfl) rfl rfl hd (k H locs ls hl hP hS)
theorem z_alen11 {i : Nat} (F : zF w g own cc nL D) (hk : zk i = 11) (hd : decode cc pc = .ok (.arraylength, 1)) (k : ZW w g nL (pc + 1) lv (.int (9) :: st) M) : ZW w g nL (pc) lv (.ref (w.2.2 i) :: st) M := fun H locs ls hl hP hS => va_alen (v := 9) F.1 F.2.1 F.2.2.2.2.2.2.1 hP.P i 1 (by rw [zL0_at (zk_i hk (by decide)), zc_eq hk]; rfl) rfl (show Int32.ofNat 9 = 9 by decide) hd (k H locs ls hl hP hS)
theorem z_alen12 {i : Nat} (F : zF w g own cc nL D) (hk : zk i = 12) (hd : decode cc pc = .ok (.arraylength, 1)) (k : ZW w g nL (pc + 1) lv (.int (9) :: st) M) : ZW w g nL (pc) lv (.ref (w.2.2 i) :: st) M := fun H locs ls hl hP hS => va_alen (v := 9) F.1 F.2.1 F.2.2.2.2.2.2.1 hP.P i 1 (by rw [zL0_at (zk_i hk (by decide)), zc_eq hk]; rfl) rfl (show Int32.ofNat 9 = 9 by decide) hd (k H locs ls hl hP hS)
theorem z_alen13 {i : Nat} (F : zF w g own cc nL D) (hk : zk i = 13) (hd : decode cc pc = .ok (.arraylength, 1)) (k : ZW w g nL (pc + 1) lv (.int (9) :: st) M) : ZW w g nL (pc) lv (.ref (w.2.2 i) :: st) M := fun H locs ls hl hP hS => va_alen (v := 9) F.1 F.2.1 F.2.2.2.2.2.2.1 hP.P i 1 (by rw [zL0_at (zk_i hk (by decide)), zc_eq hk]; rfl) rfl (show Int32.ofNat 9 = 9 by decide) hd (k H locs ls hl hP hS)
theorem z_alen14 {i : Nat} (F : zF w g own cc nL D) (hk : zk i = 14) (hd : decode cc pc = .ok (.arraylength, 1)) (k : ZW w g nL (pc + 1) lv (.int (nI (zn i)) :: st) M) : ZW w g nL (pc) lv (.ref (w.2.2 i) :: st) M := fun H locs ls hl hP hS => va_alen (v := nI (zn i)) F.1 F.2.1 F.2.2.2.2.2.2.1 hP.P i 2 (by rw [zL0_at (zk_i hk (by decide)), zc_eq hk]; rfl) rfl rfl hd (k H locs ls hl hP hS)
theorem z_alen15 {i : Nat} (F : zF w g own cc nL D) (hk : zk i = 15) (hd : decode cc pc = .ok (.arraylength, 1)) (k : ZW w g nL (pc + 1) lv (.int (4) :: st) M) : ZW w g nL (pc) lv (.ref (w.2.2 i) :: st) M := fun H locs ls hl hP hS => va_alen (v := 4) F.1 F.2.1 F.2.2.2.2.2.2.1 hP.P i 3 (by rw [zL0_at (zk_i hk (by decide)), zc_eq hk]; rfl) rfl (show Int32.ofNat 4 = 4 by decide) hd (k H locs ls hl hP hS)
theorem z_alen16 {i : Nat} (F : zF w g own cc nL D) (hk : zk i = 16) (hd : decode cc pc = .ok (.arraylength, 1)) (k : ZW w g nL (pc + 1) lv (.int (10) :: st) M) : ZW w g nL (pc) lv (.ref (w.2.2 i) :: st) M := fun H locs ls hl hP hS => va_alen (v := 10) F.1 F.2.1 F.2.2.2.2.2.2.1 hP.P i 4 (by rw [zL0_at (zk_i hk (by decide)), zc_eq hk]; rfl) rfl (show Int32.ofNat 10 = 10 by decide) hd (k H locs ls hl hP hS)
theorem z_alen17 {i : Nat} (F : zF w g own cc nL D) (hk : zk i = 17) (hd : decode cc pc = .ok (.arraylength, 1)) (k : ZW w g nL (pc + 1) lv (.int (11) :: st) M) : ZW w g nL (pc) lv (.ref (w.2.2 i) :: st) M := fun H locs ls hl hP hS => va_alen (v := 11) F.1 F.2.1 F.2.2.2.2.2.2.1 hP.P i 5 (by rw [zL0_at (zk_i hk (by decide)), zc_eq hk]; rfl) rfl (show Int32.ofNat 11 = 11 by decide) hd (k H locs ls hl hP hS)
theorem z_alen18 {i : Nat} (F : zF w g own cc nL D) (hk : zk i = 18) (hd : decode cc pc = .ok (.arraylength, 1)) (k : ZW w g nL (pc + 1) lv (.int (8) :: st) M) : ZW w g nL (pc) lv (.ref (w.2.2 i) :: st) M := fun H locs ls hl hP hS => va_alen (v := 8) F.1 F.2.1 F.2.2.2.2.2.2.1 hP.P i 5 (by rw [zL0_at (zk_i hk (by decide)), zc_eq hk]; rfl) rfl (show Int32.ofNat 8 = 8 by decide) hd (k H locs ls hl hP hS)
theorem z_aald15 {i : Nat} {x : Int32} (F : zF w g own cc nL D) (hk : zk i = 15) (hin : vp_in x 4) (hd : decode cc pc = .ok (.aaload, 1)) (k : zk (i + 1 + 2 * x.toNatClampNeg) = 2 → ZW w g nL (pc + 1) lv (.ref (w.2.2 (i + 1 + 2 * x.toNatClampNeg)) :: st) M) : ZW w g nL (pc) lv (.int x :: .ref (w.2.2 i) :: st) M := fun H locs ls hl hP hS => va_aldq (f := fun k => some (w.2.2 (i + 1 + 2 * k))) F.1 F.2.1 F.2.2.2.2.2.2.1 hP.P i 3 (by rw [zL0_at (zk_i hk (by decide)), zc_eq hk]; rfl) rfl hin hd (k (zkf15 i (zk_i hk (by decide)) hk _ (Nat.not_le.mp fun q => hin (Or.inr q))) H locs ls hl hP hS)
theorem z_aald16 {i : Nat} {x : Int32} (F : zF w g own cc nL D) (hk : zk i = 16) (hin : vp_in x 10) (hd : decode cc pc = .ok (.aaload, 1)) (k : zk (i + 1 + x.toNatClampNeg) = 4 → zb (i + 1 + x.toNatClampNeg) = i → zo (i + 1 + x.toNatClampNeg) = x.toNatClampNeg → ZW w g nL (pc + 1) lv (.ref (w.2.2 (i + 1 + x.toNatClampNeg)) :: st) M) : ZW w g nL (pc) lv (.int x :: .ref (w.2.2 i) :: st) M := fun H locs ls hl hP hS => va_aldq (f := fun k => some (w.2.2 (i + 1 + k))) F.1 F.2.1 F.2.2.2.2.2.2.1 hP.P i 4 (by rw [zL0_at (zk_i hk (by decide)), zc_eq hk]; rfl) rfl hin hd (k (zkf16 i (zk_i hk (by decide)) hk _ (Nat.not_le.mp fun q => hin (Or.inr q))).1 (zkf16 i (zk_i hk (by decide)) hk _ (Nat.not_le.mp fun q => hin (Or.inr q))).2.1 (zkf16 i (zk_i hk (by decide)) hk _ (Nat.not_le.mp fun q => hin (Or.inr q))).2.2 H locs ls hl hP hS)
theorem z_aald17 {i : Nat} {x : Int32} (F : zF w g own cc nL D) (hk : zk i = 17) (hin : vp_in x 11) (hd : decode cc pc = .ok (.aaload, 1)) (k : zk (i + 1 + 2 * x.toNatClampNeg) = 5 → ZW w g nL (pc + 1) lv (.ref (w.2.2 (i + 1 + 2 * x.toNatClampNeg)) :: st) M) : ZW w g nL (pc) lv (.int x :: .ref (w.2.2 i) :: st) M := fun H locs ls hl hP hS => va_aldq (f := fun k => some (w.2.2 (i + 1 + 2 * k))) F.1 F.2.1 F.2.2.2.2.2.2.1 hP.P i 5 (by rw [zL0_at (zk_i hk (by decide)), zc_eq hk]; rfl) rfl hin hd (k (zkf17 i (zk_i hk (by decide)) hk _ (Nat.not_le.mp fun q => hin (Or.inr q))) H locs ls hl hP hS)
theorem z_aald18 {i : Nat} {x : Int32} (F : zF w g own cc nL D) (hk : zk i = 18) (hin : vp_in x 8) (hd : decode cc pc = .ok (.aaload, 1)) (k : ZW w g nL (pc + 1) lv (.ref (w.2.2 (i + 1 + 2 * (M.1 i x.toNatClampNeg).toNatClampNeg)) :: st) M) : ZW w g nL (pc) lv (.int x :: .ref (w.2.2 i) :: st) M := fun H locs ls hl hP hS => va_aldq (f := fun k => some (w.2.2 (i + 1 + 2 * (M.1 i k).toNatClampNeg))) F.1 F.2.1 F.2.2.2.2.2.2.1 hP.P i 5 (by rw [zL0_at (zk_i hk (by decide)), zc_eq hk]; rfl) rfl hin hd (k  H locs ls hl hP hS)
theorem z_aast18 {i j : Nat} {x : Int32} (F : zF w g own cc nL D) (hk : zk i = 18) (hin : vp_in x 8) (hj : j < 8) (hd : decode cc pc = .ok (.aastore, 1)) (k : ZW w g nL (pc + 1) lv (st) (zs M i x.toNatClampNeg (nI j))) : ZW w g nL (pc) lv (.ref (w.2.2 (i + 1 + 2 * j)) :: .int x :: .ref (w.2.2 i) :: st) M := fun H locs ls hl hP hS =>
  have hi := zk_i hk (by decide)
  have hj5 := zkf18 i hi hk j hj
  va_astq F.1 F.2.1 F.2.2.2.2.2.2.1 hP.P (zP.D F.2.2.2.2.2.2.2.1 F.2.2.2.2.2.2.2.2.1) hS i 5 (i + 1 + 2 * j) 5 (r := (RX5, TX5, 7)) (by rw [zL0_at hi, zc_eq hk]; rfl) rfl (by rw [zL0_at (zk_i hj5 (by decide)), zc_eq hj5]; rfl) rfl hin hd (fun H1 locs1 hP1 _ hS1 => k H1 locs1 ls hl (zP.put hi hP1 (by
    rw [zc_eq hk]
    show Sum.inl (_, _, Sum.inr (Sum.inr (Sum.inr (Sum.inr (fun k => some (w.2.2 (i + 1 + 2 * (va_up M.1 i (va_up (M.1 i) x.toNatClampNeg (nI j)) i k).toNatClampNeg))))))) = _
    rw [va_up_self]
    refine congrArg Sum.inl (congrArg (Prod.mk _) (congrArg (Prod.mk _) (congrArg Sum.inr (congrArg Sum.inr (congrArg Sum.inr (congrArg Sum.inr (funext fun k => ?_)))))))
    by_cases hq : k = x.toNatClampNeg
    · subst hq
      simp only [va_up_self, nI_clamp (show j < 2 ^ 31 by omega)]
    · rw [va_up_ne _ _ hq, va_up_ne _ _ hq]) (zs_other hi (by rw [hk]; exact rfl))) hS1)
end ZC
def zR (d : Nat) : Room := { frames := d, cells := 0, slots := 0, locals := 60 * d }
def zQi (w : zE) (post : Int32 → zM → Prop) : Array Value → State → Outcome → State → Prop := va_Qi (S := zM) post (fun M' t => zP w M' t.heap) (zA w)
def zQv (w : zE) (post : zM → Prop) : Array Value → State → Outcome → State → Prop := va_Qv (S := zM) post (fun M' t => zP w M' t.heap) (zA w)
def zQr (w : zE) (post : Nat → zM → Prop) : Array Value → State → Outcome → State → Prop := va_Qr (S := Nat × zM) (fun u => post u.1 u.2) (fun u a t => a = w.2.2 u.1 ∧ zP w u.2 t.heap) (zA w)
def zPre (w : zE) (args : List Value) (M : zM) : Array Value → State → Prop := va_Pc args (fun U => zP w M U.heap ∧ va_K w.1 vwCl (zT w) U ∧ zSt w (zA w) U U.heap)
/-- a method's contract: an int, nothing, a cell comes back -/
def zCi (l : Launch) (w : zE) (y : MethodName) (bytes : ByteArray) (maxL : Nat) (ret : Option FieldType) (d : Nat) (args : List Value) (M : zM) (post : Int32 → zM → Prop) : Prop := Met l y (.code y bytes maxL ret :: zTb) (zR d) (zPre w args M) (zQi w post) 0 0 (zA w)
def zCv (l : Launch) (w : zE) (y : MethodName) (bytes : ByteArray) (maxL : Nat) (d : Nat) (args : List Value) (M : zM) (post : zM → Prop) : Prop := Met l y (.code y bytes maxL none :: zTb) (zR d) (zPre w args M) (zQv w post) 0 0 (zA w)
def zCr (l : Launch) (w : zE) (y : MethodName) (bytes : ByteArray) (maxL : Nat) (ret : Option FieldType) (d : Nat) (args : List Value) (M : zM) (post : Nat → zM → Prop) : Prop := Met l y (.code y bytes maxL ret :: zTb) (zR d) (zPre w args M) (zQr w post) 0 0 (zA w)
/-- what the tables say of a method: an instance's, a static one -/
def zMe (y : MethodName) (bytes : ByteArray) (maxL : Nat) (ret : Option FieldType) (n : Nat) : Prop := plainName y.cls = true ∧ Cond.code y bytes maxL ret ∈ zTb ∧ Cond.initialized y.cls ∈ zTb ∧ (y.cls ≠ "java/lang/invoke/MethodHandle" ∧ y.cls ≠ "java/lang/invoke/VarHandle" ∧ (parseMethodDescriptor y.desc).map (fun d => d.parameters.length) = some n) ∧ maxL ≤ 41
def zMv (y : MethodName) : Prop := Cond.instanceMethod y ∈ zTb ∧ Cond.selects y.cls y y ∈ zTb
theorem zGood {y : MethodName} {bytes : ByteArray} {maxL n : Nat} {ret : Option FieldType} (h : zMe y bytes maxL ret n) : GoodIn zTb (.code y bytes maxL ret :: zTb) := by
  intro c hc
  rcases List.mem_cons.mp hc with rfl | q
  · exact ⟨h.2.1, good_of_word (List.mem_filter.mp h.2.1).2⟩
  · exact ⟨q, good_of_word (List.mem_filter.mp q).2⟩
theorem zPre_blind {w : zE} {args : List Value} {M : zM} : FrameBlind (zPre w args M) := fun a U g mk q => by
  obtain ⟨q0, qP, qK, q1, q2, q3⟩ := q
  have hv : U.vm.Alike (U.calling g mk a).vm := Vm.Alike.refl U.vm
  exact ⟨q0, qP, va_K.moved hv qK, q1.same rfl, q2.moved hv, q3.moved hv⟩
def zX (w : zE) (g : zG) (ret : Option FieldType) (Qc : Array Value → State → Outcome → State → Prop) : Prop := g.2.2.1.1.sig.returnType = ret ∧ g.2.2.2.2 = MQ g.2.1.2.2.2 Qc g.2.1.2.2.1 g.2.1.1 g.2.2.1.2.2.1 g.2.2.1.2.2.2 (zA w) ∧ ∀ q, g.2.2.2.1 q → zA w q
theorem zF_end {w : zE} {g : zG} {H : Heap} {locs : List Loc} {t : State} (hA : ∀ q, g.2.2.2.1 q → zA w q) (hS : va_S g.2.2.2.1 g.2.1.1.heap H locs) (ht : t.heap = H) : va_F (zA w) g.2.1.1 t := ⟨by rw [ht]; exact hS.1, fun q h1 h2 => by rw [ht]; exact hS.2.1 q h1 (fun z => h2 (hA q z))⟩
section ZD
variable {w : zE} {g : zG} {own : String} {cc : ByteArray} {nL D pc : Nat} {lv : List (Option Value)} {st : List Value} {M : zM}
theorem z_iret {v : Int32} {post : Int32 → zM → Prop} (F : zF w g own cc nL D) (X : zX w g (some .int) (zQi w post)) (hd : decode cc pc = .ok (.ireturn, 1)) (hp : post v M) : ZW w g nL pc lv [.int v] M := fun H locs ls hl hP hS => by
  rw [X.2.1]
  exact W.iret F.1 F.2.1 X.1 (fun t ht hW => ⟨⟨v, M, rfl, hp, by show zP w M t.heap; rw [ht]; exact hP⟩, zF_end X.2.2 hS ht⟩) (fun q hq => X.2.2 _ (hS.2.2 q hq)) hd F.2.2.2.2.2.1
theorem z_zret {v : Int32} {ty : FieldType} {post : Int32 → zM → Prop} (F : zF w g own cc nL D) (X : zX w g (some ty) (zQi w post)) (hd : decode cc pc = .ok (.ireturn, 1)) (hn : narrow ty (.int v) = .int v) (hp : post v M) : ZW w g nL pc lv [.int v] M := fun H locs ls hl hP hS => by
  rw [X.2.1]
  exact W.zret F.1 F.2.1 X.1 hn (fun t ht hW => ⟨⟨v, M, rfl, hp, by show zP w M t.heap; rw [ht]; exact hP⟩, zF_end X.2.2 hS ht⟩) (fun q hq => X.2.2 _ (hS.2.2 q hq)) hd F.2.2.2.2.2.1
theorem z_vret {post : zM → Prop} (F : zF w g own cc nL D) (X : zX w g none (zQv w post)) (hd : decode cc pc = .ok (.return_, 1)) (hp : post M) : ZW w g nL pc lv [] M := fun H locs ls hl hP hS => by
  rw [X.2.1]
  exact W.vret F.1 F.2.1 X.1 (fun t ht hW => ⟨⟨M, rfl, hp, by show zP w M t.heap; rw [ht]; exact hP⟩, zF_end X.2.2 hS ht⟩) (fun q hq => X.2.2 _ (hS.2.2 q hq)) hd F.2.2.2.2.2.1
theorem z_aret {i : Nat} {C : String} {post : Nat → zM → Prop} (F : zF w g own cc nL D) (X : zX w g (some (.object C)) (zQr w post)) (hd : decode cc pc = .ok (.areturn, 1)) (hp : post i M) : ZW w g nL pc lv [.ref (w.2.2 i)] M := fun H locs ls hl hP hS => by
  rw [X.2.1]
  exact W.aret F.1 F.2.1 X.1 (Or.inl ⟨C, rfl⟩) (Or.inr ⟨_, rfl⟩) (fun t ht hW => ⟨⟨(i, M), _, rfl, hp, rfl, by show zP w M t.heap; rw [ht]; exact hP⟩, zF_end X.2.2 hS ht⟩) (fun q hq => X.2.2 _ (hS.2.2 q hq)) hd F.2.2.2.2.2.1
/-- the receiver -/
theorem z_recv {i c : Nat} {H : Heap} {C : String} (F : zF w g own cc nL D) (hP : zP w M H) (hk : zk i = c) (hc : c < 9) (hC : (vwCl[c]?).map (fun q => q.1) = some C) : ∃ cell : Cell, H[w.2.2 i]? = some cell ∧ cell.vm.isStatics = false ∧ g.2.1.1.vm.findClass C = some cell.cls := by
  have hi : i < 154 := zk_i hk (by omega)
  obtain ⟨r, hr⟩ : ∃ r, vwCl[c]? = some r := by
    cases h : vwCl[c]? with
    | none => rw [h] at hC; cases hC
    | some r => exact ⟨r, rfl⟩
  have hC2 : r.1 = C := by rw [hr] at hC; exact Option.some.inj hC
  subst hC2
  have he : ∃ fs, zc w M i = .inr (c, fs) := by
    rw [zc_eq hk]
    match c, hc with
    | 0, _ => exact ⟨_, rfl⟩
    | 1, _ => exact ⟨_, rfl⟩
    | 2, _ => exact ⟨_, rfl⟩
    | 3, _ => exact ⟨_, rfl⟩
    | 4, _ => exact ⟨_, rfl⟩
    | 5, _ => exact ⟨_, rfl⟩
    | 6, _ => exact ⟨_, rfl⟩
    | 7, _ => exact ⟨_, rfl⟩
    | 8, _ => exact ⟨_, rfl⟩
    | n + 9, q => omega
  obtain ⟨fs, he⟩ := he
  exact va_recv F.2.2.2.2.2.2.1 hP.P hr (q0 := i) (fs := fs) (by rw [zL0_at hi, he])
theorem z_cw {own2 : String} {y : MethodName} {bytes : ByteArray} {maxL n d idx : Nat} {ret : Option FieldType} (F : zF w g own2 cc nL D) (hm : zMe y bytes maxL ret n) (hl : Cond.methodLink own idx y ∈ zTb) (hD : d + 1 ≤ D) : CallB g.1.2.2.2 g.2.1.1 g.2.1.2.2.1 own idx y bytes maxL ret (.code y bytes maxL ret :: zTb) (zR d) 0 0 n := by
  obtain ⟨h1, h2, h3, h4, h5⟩ := hm
  have f1 := F.2.2.2.2.2.2.2.2.2.1
  have f2 := F.2.2.2.2.2.2.2.2.2.2.1
  exact callB_of n F.2.2.2.2.1 (zGood ⟨h1, h2, h3, h4, h5⟩) rfl rfl rfl (F.2.2.2.2.1 _ h3) (F.2.2.2.2.1 _ hl) h4 ⟨by show d + 1 ≤ _; omega, by show 8 + (maxL + 11) + 60 * d ≤ _; omega⟩
theorem z_callVi {y : MethodName} {bytes : ByteArray} {maxL n d idx i c : Nat} {As rest stk : List Value} {ret : Option FieldType} {post : Int32 → zM → Prop} (F : zF w g own cc nL D) (hC : zCi g.1.2.1 w y bytes maxL ret d (.ref (w.2.2 i) :: As) M post) (hm : zMe y bytes maxL ret n) (hv : zMv y) (hl : Cond.methodLink own idx y ∈ zTb) (hk : zk i = c) (hc : c < 9) (hcl : (vwCl[c]?).map (fun q => q.1) = some y.cls) (hn : As.length = n) (hst : stk = As.reverse ++ .ref (w.2.2 i) :: rest) (hcat : (rest.map fun v => v.category).sum ≤ 8) (hd : decode cc pc = .ok (.invokevirtual idx, 3)) (hD : d + 1 ≤ D) (k : ∀ (r : Int32) (M2 : zM), post r M2 → ZW w g nL (pc + 3) lv (.int r :: rest) M2) : ZW w g nL pc lv stk M := fun H locs ls hl1 hP hS =>
  va_calli (va_runV (C := y.cls) ⟨F.1, F.2.1, F.2.2.1, F.2.2.2.1, F.2.2.2.2.1⟩ hC ⟨z_cw F hm hl hD, F.2.2.2.2.1 _ hv.1, F.2.2.2.2.1 _ hv.2⟩ ⟨zPre_blind, z_recv F hP hk hc hcl, fun U hU hW => ⟨rfl, by rw [hU]; exact hP, va_K.moved hW.alike F.2.2.2.2.2.2.1, zSt_use F.2.2.2.2.2.2.2.2.2.2.2.2.2 hS (fun q ⟨j, hj, e⟩ => e ▸ F.2.2.2.2.2.2.2.2.1 j hj) hW hU⟩⟩ rfl hn hl1.1 hst (lv_room hcat) hd ⟨F.2.2.2.2.2.2.2.2.2.2.2.1, F.2.2.2.2.2.2.2.2.2.2.2.2.1⟩) hS (fun q _ ⟨j, hj, e⟩ => e ▸ F.2.2.2.2.2.2.2.2.1 j hj) (fun q ⟨j, hj, e⟩ => e ▸ F.2.2.2.2.2.2.2.2.1 j hj) (fun r u t H1 locs1 ht hvm hw hB hz1 hk1 hS1 => k r u hw H1 locs1 ls hl1 (ht ▸ hB) hS1)
theorem z_callSi {y : MethodName} {bytes : ByteArray} {maxL n d idx : Nat} {As rest stk : List Value} {ret : Option FieldType} {post : Int32 → zM → Prop} (F : zF w g own cc nL D) (hC : zCi g.1.2.1 w y bytes maxL ret d As M post) (hm : zMe y bytes maxL ret n) (hv : Cond.static y ∈ zTb) (hl : Cond.methodLink own idx y ∈ zTb) (hn : As.length = n) (hst : stk = As.reverse ++ rest) (hcat : (rest.map fun v => v.category).sum ≤ 8) (hd : decode cc pc = .ok (.invokestatic idx, 3)) (hD : d + 1 ≤ D) (k : ∀ (r : Int32) (M2 : zM), post r M2 → ZW w g nL (pc + 3) lv (.int r :: rest) M2) : ZW w g nL pc lv stk M := fun H locs ls hl1 hP hS =>
  va_calli (va_runS ⟨F.1, F.2.1, F.2.2.1, F.2.2.2.1, F.2.2.2.2.1⟩ hC ⟨z_cw F hm hl hD, F.2.2.2.2.1 _ hv⟩ ⟨zPre_blind, fun U hU hW => ⟨rfl, by rw [hU]; exact hP, va_K.moved hW.alike F.2.2.2.2.2.2.1, zSt_use F.2.2.2.2.2.2.2.2.2.2.2.2.2 hS (fun q ⟨j, hj, e⟩ => e ▸ F.2.2.2.2.2.2.2.2.1 j hj) hW hU⟩⟩ rfl hn hl1.1 hst (lv_room hcat) hd ⟨F.2.2.2.2.2.2.2.2.2.2.2.1, F.2.2.2.2.2.2.2.2.2.2.2.2.1⟩) hS (fun q _ ⟨j, hj, e⟩ => e ▸ F.2.2.2.2.2.2.2.2.1 j hj) (fun q ⟨j, hj, e⟩ => e ▸ F.2.2.2.2.2.2.2.2.1 j hj) (fun r u t H1 locs1 ht hvm hw hB hz1 hk1 hS1 => k r u hw H1 locs1 ls hl1 (ht ▸ hB) hS1)
theorem z_callVv {y : MethodName} {bytes : ByteArray} {maxL n d idx i c : Nat} {As rest stk : List Value}  {post : zM → Prop} (F : zF w g own cc nL D) (hC : zCv g.1.2.1 w y bytes maxL d (.ref (w.2.2 i) :: As) M post) (hm : zMe y bytes maxL none n) (hv : zMv y) (hl : Cond.methodLink own idx y ∈ zTb) (hk : zk i = c) (hc : c < 9) (hcl : (vwCl[c]?).map (fun q => q.1) = some y.cls) (hn : As.length = n) (hst : stk = As.reverse ++ .ref (w.2.2 i) :: rest) (hcat : (rest.map fun v => v.category).sum ≤ 8) (hd : decode cc pc = .ok (.invokevirtual idx, 3)) (hD : d + 1 ≤ D) (k : ∀ (M2 : zM), post M2 → ZW w g nL (pc + 3) lv rest M2) : ZW w g nL pc lv stk M := fun H locs ls hl1 hP hS =>
  va_callv (va_runV (C := y.cls) ⟨F.1, F.2.1, F.2.2.1, F.2.2.2.1, F.2.2.2.2.1⟩ hC ⟨z_cw F hm hl hD, F.2.2.2.2.1 _ hv.1, F.2.2.2.2.1 _ hv.2⟩ ⟨zPre_blind, z_recv F hP hk hc hcl, fun U hU hW => ⟨rfl, by rw [hU]; exact hP, va_K.moved hW.alike F.2.2.2.2.2.2.1, zSt_use F.2.2.2.2.2.2.2.2.2.2.2.2.2 hS (fun q ⟨j, hj, e⟩ => e ▸ F.2.2.2.2.2.2.2.2.1 j hj) hW hU⟩⟩ rfl hn hl1.1 hst (lv_room hcat) hd ⟨F.2.2.2.2.2.2.2.2.2.2.2.1, F.2.2.2.2.2.2.2.2.2.2.2.2.1⟩) hS (fun q _ ⟨j, hj, e⟩ => e ▸ F.2.2.2.2.2.2.2.2.1 j hj) (fun q ⟨j, hj, e⟩ => e ▸ F.2.2.2.2.2.2.2.2.1 j hj) (fun u t H1 locs1 ht hvm hw hB hz1 hk1 hS1 => k u hw H1 locs1 ls hl1 (ht ▸ hB) hS1)
theorem z_callSv {y : MethodName} {bytes : ByteArray} {maxL n d idx : Nat} {As rest stk : List Value}  {post : zM → Prop} (F : zF w g own cc nL D) (hC : zCv g.1.2.1 w y bytes maxL d As M post) (hm : zMe y bytes maxL none n) (hv : Cond.static y ∈ zTb) (hl : Cond.methodLink own idx y ∈ zTb) (hn : As.length = n) (hst : stk = As.reverse ++ rest) (hcat : (rest.map fun v => v.category).sum ≤ 8) (hd : decode cc pc = .ok (.invokestatic idx, 3)) (hD : d + 1 ≤ D) (k : ∀ (M2 : zM), post M2 → ZW w g nL (pc + 3) lv rest M2) : ZW w g nL pc lv stk M := fun H locs ls hl1 hP hS =>
  va_callv (va_runS ⟨F.1, F.2.1, F.2.2.1, F.2.2.2.1, F.2.2.2.2.1⟩ hC ⟨z_cw F hm hl hD, F.2.2.2.2.1 _ hv⟩ ⟨zPre_blind, fun U hU hW => ⟨rfl, by rw [hU]; exact hP, va_K.moved hW.alike F.2.2.2.2.2.2.1, zSt_use F.2.2.2.2.2.2.2.2.2.2.2.2.2 hS (fun q ⟨j, hj, e⟩ => e ▸ F.2.2.2.2.2.2.2.2.1 j hj) hW hU⟩⟩ rfl hn hl1.1 hst (lv_room hcat) hd ⟨F.2.2.2.2.2.2.2.2.2.2.2.1, F.2.2.2.2.2.2.2.2.2.2.2.2.1⟩) hS (fun q _ ⟨j, hj, e⟩ => e ▸ F.2.2.2.2.2.2.2.2.1 j hj) (fun q ⟨j, hj, e⟩ => e ▸ F.2.2.2.2.2.2.2.2.1 j hj) (fun u t H1 locs1 ht hvm hw hB hz1 hk1 hS1 => k u hw H1 locs1 ls hl1 (ht ▸ hB) hS1)
theorem z_callVr {y : MethodName} {bytes : ByteArray} {maxL n d idx i c : Nat} {As rest stk : List Value} {C2 : String} {post : Nat → zM → Prop} (F : zF w g own cc nL D) (hC : zCr g.1.2.1 w y bytes maxL (some (.object C2)) d (.ref (w.2.2 i) :: As) M post) (hm : zMe y bytes maxL (some (.object C2)) n) (hv : zMv y) (hl : Cond.methodLink own idx y ∈ zTb) (hk : zk i = c) (hc : c < 9) (hcl : (vwCl[c]?).map (fun q => q.1) = some y.cls) (hn : As.length = n) (hst : stk = As.reverse ++ .ref (w.2.2 i) :: rest) (hcat : (rest.map fun v => v.category).sum ≤ 8) (hd : decode cc pc = .ok (.invokevirtual idx, 3)) (hD : d + 1 ≤ D) (k : ∀ (r : Nat) (M2 : zM), post r M2 → ZW w g nL (pc + 3) lv (.ref (w.2.2 r) :: rest) M2) : ZW w g nL pc lv stk M := fun H locs ls hl1 hP hS =>
  va_callr (va_runV (C := y.cls) ⟨F.1, F.2.1, F.2.2.1, F.2.2.2.1, F.2.2.2.2.1⟩ hC ⟨z_cw F hm hl hD, F.2.2.2.2.1 _ hv.1, F.2.2.2.2.1 _ hv.2⟩ ⟨zPre_blind, z_recv F hP hk hc hcl, fun U hU hW => ⟨rfl, by rw [hU]; exact hP, va_K.moved hW.alike F.2.2.2.2.2.2.1, zSt_use F.2.2.2.2.2.2.2.2.2.2.2.2.2 hS (fun q ⟨j, hj, e⟩ => e ▸ F.2.2.2.2.2.2.2.2.1 j hj) hW hU⟩⟩ rfl hn hl1.1 hst (lv_room hcat) hd ⟨F.2.2.2.2.2.2.2.2.2.2.2.1, F.2.2.2.2.2.2.2.2.2.2.2.2.1⟩) hS (fun q _ ⟨j, hj, e⟩ => e ▸ F.2.2.2.2.2.2.2.2.1 j hj) (fun q ⟨j, hj, e⟩ => e ▸ F.2.2.2.2.2.2.2.2.1 j hj) (fun u ra t H1 locs1 ht hvm hw hB hz1 hk1 hS1 => by obtain ⟨e, hB⟩ := hB; subst e; exact k u.1 u.2 hw H1 locs1 ls hl1 (ht ▸ hB) hS1)
end ZD
theorem zCi_of {l : Launch} {w : zE} {y : MethodName} {bytes : ByteArray} {maxL d n : Nat} {args : List Value} {M : zM} {ret : Option FieldType} {post : Int32 → zM → Prop} (J : zJ w) (hm : zMe y bytes maxL ret n) (lv0 : List (Option Value)) (hlen : (lg_sl args).length ≤ maxL) (h0 : zL 0 lv0 = lv_args 0 args) (body : ∀ g : zG, g.1.2.1 = l → zF w g y.cls bytes maxL d → zX w g ret (zQi w post) → ZW w g maxL 0 lv0 [] M) : zCi l w y bytes maxL ret d args M post := by
  refine Met.ofW (cc := bytes) (maxL := maxL) (ret := ret) hm.1 rfl ?_
  intro p e s m a below meth c s₁ B hml hv
  obtain ⟨rfl, hP, hK, hT⟩ := hv
  have hts := atoms_spec (ws := Cond.code y bytes maxL ret :: zTb) B.pre
  have hl := lv_entry args (n := maxL) hlen
  rw [lg_entry_eq]
  exact body ((p, l, e, zR d), (s, m, args.toArray, below), (meth, c, 0, 0), (zA w, MQ below (zQi w post) args.toArray s 0 0 (zA w))) rfl ⟨B.exec, B.bytes, hml, findClass_of_methodNamed B.named, fun q hq => hts q (List.mem_cons_of_mem _ hq), B.notSynchronized, hK, J, fun i hi => ⟨i, hi, rfl⟩, Nat.le_refl _, Nat.le_refl _, Nat.le_refl _, Nat.le_refl _, hT⟩ ⟨B.returns, rfl, fun _ h => h⟩ s.heap [] _ (h0 ▸ hl) hP va_S.rf
theorem zCv_of {l : Launch} {w : zE} {y : MethodName} {bytes : ByteArray} {maxL d n : Nat} {args : List Value} {M : zM} {post : zM → Prop} (J : zJ w) (hm : zMe y bytes maxL none n) (lv0 : List (Option Value)) (hlen : (lg_sl args).length ≤ maxL) (h0 : zL 0 lv0 = lv_args 0 args) (body : ∀ g : zG, g.1.2.1 = l → zF w g y.cls bytes maxL d → zX w g none (zQv w post) → ZW w g maxL 0 lv0 [] M) : zCv l w y bytes maxL d args M post := by
  refine Met.ofW (cc := bytes) (maxL := maxL) (ret := none) hm.1 rfl ?_
  intro p e s m a below meth c s₁ B hml hv
  obtain ⟨rfl, hP, hK, hT⟩ := hv
  have hts := atoms_spec (ws := Cond.code y bytes maxL none :: zTb) B.pre
  have hl := lv_entry args (n := maxL) hlen
  rw [lg_entry_eq]
  exact body ((p, l, e, zR d), (s, m, args.toArray, below), (meth, c, 0, 0), (zA w, MQ below (zQv w post) args.toArray s 0 0 (zA w))) rfl ⟨B.exec, B.bytes, hml, findClass_of_methodNamed B.named, fun q hq => hts q (List.mem_cons_of_mem _ hq), B.notSynchronized, hK, J, fun i hi => ⟨i, hi, rfl⟩, Nat.le_refl _, Nat.le_refl _, Nat.le_refl _, Nat.le_refl _, hT⟩ ⟨B.returns, rfl, fun _ h => h⟩ s.heap [] _ (h0 ▸ hl) hP va_S.rf
theorem zCr_of {l : Launch} {w : zE} {y : MethodName} {bytes : ByteArray} {maxL d n : Nat} {args : List Value} {M : zM} {ret : Option FieldType} {post : Nat → zM → Prop} (J : zJ w) (hm : zMe y bytes maxL ret n) (lv0 : List (Option Value)) (hlen : (lg_sl args).length ≤ maxL) (h0 : zL 0 lv0 = lv_args 0 args) (body : ∀ g : zG, g.1.2.1 = l → zF w g y.cls bytes maxL d → zX w g ret (zQr w post) → ZW w g maxL 0 lv0 [] M) : zCr l w y bytes maxL ret d args M post := by
  refine Met.ofW (cc := bytes) (maxL := maxL) (ret := ret) hm.1 rfl ?_
  intro p e s m a below meth c s₁ B hml hv
  obtain ⟨rfl, hP, hK, hT⟩ := hv
  have hts := atoms_spec (ws := Cond.code y bytes maxL ret :: zTb) B.pre
  have hl := lv_entry args (n := maxL) hlen
  rw [lg_entry_eq]
  exact body ((p, l, e, zR d), (s, m, args.toArray, below), (meth, c, 0, 0), (zA w, MQ below (zQr w post) args.toArray s 0 0 (zA w))) rfl ⟨B.exec, B.bytes, hml, findClass_of_methodNamed B.named, fun q hq => hts q (List.mem_cons_of_mem _ hq), B.notSynchronized, hK, J, fun i hi => ⟨i, hi, rfl⟩, Nat.le_refl _, Nat.le_refl _, Nat.le_refl _, Nat.le_refl _, hT⟩ ⟨B.returns, rfl, fun _ h => h⟩ s.heap [] _ (h0 ▸ hl) hP va_S.rf
end
section
theorem zm_X7_thing : zMe yX7_thing cX7_thing 5 (some .int) 4 := ⟨by decide +kernel, zTb_in (List.mem_of_getElem? (i := 313) (by decide +kernel)) (by decide +kernel), zTb_in (List.mem_of_getElem? (i := 36) (by decide +kernel)) (by decide +kernel), by decide +kernel, by decide⟩
theorem zv_X7_thing : zMv yX7_thing := ⟨zTb_in (List.mem_of_getElem? (i := 311) (by decide +kernel)) (by decide +kernel), zTb_in (List.mem_of_getElem? (i := 312) (by decide +kernel)) (by decide +kernel)⟩
theorem zm_X7_isNot : zMe yX7_isNot cX7_isNot 2 (some .boolean) 2 := ⟨by decide +kernel, zTb_in (List.mem_of_getElem? (i := 316) (by decide +kernel)) (by decide +kernel), zTb_in (List.mem_of_getElem? (i := 36) (by decide +kernel)) (by decide +kernel), by decide +kernel, by decide⟩
theorem zst_X7_isNot : Cond.static yX7_isNot ∈ zTb := zTb_in (List.mem_of_getElem? (i := 315) (by decide +kernel)) (by decide +kernel)
theorem zm_X1_addThing : zMe yX1_addThing cX1_addThing 5 (some .int) 4 := ⟨by decide +kernel, zTb_in (List.mem_of_getElem? (i := 320) (by decide +kernel)) (by decide +kernel), zTb_in (List.mem_of_getElem? (i := 38) (by decide +kernel)) (by decide +kernel), by decide +kernel, by decide⟩
theorem zv_X1_addThing : zMv yX1_addThing := ⟨zTb_in (List.mem_of_getElem? (i := 318) (by decide +kernel)) (by decide +kernel), zTb_in (List.mem_of_getElem? (i := 319) (by decide +kernel)) (by decide +kernel)⟩
theorem zm_X4_set : zMe yX4_set cX4_set 5 none 4 := ⟨by decide +kernel, zTb_in (List.mem_of_getElem? (i := 324) (by decide +kernel)) (by decide +kernel), zTb_in (List.mem_of_getElem? (i := 39) (by decide +kernel)) (by decide +kernel), by decide +kernel, by decide⟩
theorem zv_X4_set : zMv yX4_set := ⟨zTb_in (List.mem_of_getElem? (i := 322) (by decide +kernel)) (by decide +kernel), zTb_in (List.mem_of_getElem? (i := 323) (by decide +kernel)) (by decide +kernel)⟩
theorem zm_X7_of : zMe yX7_of cX7_of 4 (some .int) 2 := ⟨by decide +kernel, zTb_in (List.mem_of_getElem? (i := 328) (by decide +kernel)) (by decide +kernel), zTb_in (List.mem_of_getElem? (i := 36) (by decide +kernel)) (by decide +kernel), by decide +kernel, by decide⟩
theorem zv_X7_of : zMv yX7_of := ⟨zTb_in (List.mem_of_getElem? (i := 326) (by decide +kernel)) (by decide +kernel), zTb_in (List.mem_of_getElem? (i := 327) (by decide +kernel)) (by decide +kernel)⟩
theorem zm_X1_isThing : zMe yX1_isThing cX1_isThing 2 (some .boolean) 1 := ⟨by decide +kernel, zTb_in (List.mem_of_getElem? (i := 332) (by decide +kernel)) (by decide +kernel), zTb_in (List.mem_of_getElem? (i := 38) (by decide +kernel)) (by decide +kernel), by decide +kernel, by decide⟩
theorem zv_X1_isThing : zMv yX1_isThing := ⟨zTb_in (List.mem_of_getElem? (i := 330) (by decide +kernel)) (by decide +kernel), zTb_in (List.mem_of_getElem? (i := 331) (by decide +kernel)) (by decide +kernel)⟩
theorem zm_X1_whoHas : zMe yX1_whoHas cX1_whoHas 4 (some .int) 2 := ⟨by decide +kernel, zTb_in (List.mem_of_getElem? (i := 336) (by decide +kernel)) (by decide +kernel), zTb_in (List.mem_of_getElem? (i := 38) (by decide +kernel)) (by decide +kernel), by decide +kernel, by decide⟩
theorem zv_X1_whoHas : zMv yX1_whoHas := ⟨zTb_in (List.mem_of_getElem? (i := 334) (by decide +kernel)) (by decide +kernel), zTb_in (List.mem_of_getElem? (i := 335) (by decide +kernel)) (by decide +kernel)⟩
theorem zm_X7_felt : zMe yX7_felt cX7_felt 4 (some .int) 3 := ⟨by decide +kernel, zTb_in (List.mem_of_getElem? (i := 340) (by decide +kernel)) (by decide +kernel), zTb_in (List.mem_of_getElem? (i := 36) (by decide +kernel)) (by decide +kernel), by decide +kernel, by decide⟩
theorem zv_X7_felt : zMv yX7_felt := ⟨zTb_in (List.mem_of_getElem? (i := 338) (by decide +kernel)) (by decide +kernel), zTb_in (List.mem_of_getElem? (i := 339) (by decide +kernel)) (by decide +kernel)⟩
theorem zm_X4_feltBy : zMe yX4_feltBy cX4_feltBy 3 (some .int) 2 := ⟨by decide +kernel, zTb_in (List.mem_of_getElem? (i := 344) (by decide +kernel)) (by decide +kernel), zTb_in (List.mem_of_getElem? (i := 39) (by decide +kernel)) (by decide +kernel), by decide +kernel, by decide⟩
theorem zv_X4_feltBy : zMv yX4_feltBy := ⟨zTb_in (List.mem_of_getElem? (i := 342) (by decide +kernel)) (by decide +kernel), zTb_in (List.mem_of_getElem? (i := 343) (by decide +kernel)) (by decide +kernel)⟩
theorem zm_X7_person : zMe yX7_person cX7_person 4 (some .int) 3 := ⟨by decide +kernel, zTb_in (List.mem_of_getElem? (i := 348) (by decide +kernel)) (by decide +kernel), zTb_in (List.mem_of_getElem? (i := 36) (by decide +kernel)) (by decide +kernel), by decide +kernel, by decide⟩
theorem zv_X7_person : zMv yX7_person := ⟨zTb_in (List.mem_of_getElem? (i := 346) (by decide +kernel)) (by decide +kernel), zTb_in (List.mem_of_getElem? (i := 347) (by decide +kernel)) (by decide +kernel)⟩
theorem zm_X7_isNoThingOrNone : zMe yX7_isNoThingOrNone cX7_isNoThingOrNone 2 (some .boolean) 1 := ⟨by decide +kernel, zTb_in (List.mem_of_getElem? (i := 352) (by decide +kernel)) (by decide +kernel), zTb_in (List.mem_of_getElem? (i := 36) (by decide +kernel)) (by decide +kernel), by decide +kernel, by decide⟩
theorem zv_X7_isNoThingOrNone : zMv yX7_isNoThingOrNone := ⟨zTb_in (List.mem_of_getElem? (i := 351) (by decide +kernel)) (by decide +kernel), zTb_in (List.mem_of_getElem? (i := 0) (by decide +kernel)) (by decide +kernel)⟩
theorem zm_X7_isHad : zMe yX7_isHad cX7_isHad 2 (some .boolean) 1 := ⟨by decide +kernel, zTb_in (List.mem_of_getElem? (i := 356) (by decide +kernel)) (by decide +kernel), zTb_in (List.mem_of_getElem? (i := 36) (by decide +kernel)) (by decide +kernel), by decide +kernel, by decide⟩
theorem zv_X7_isHad : zMv yX7_isHad := ⟨zTb_in (List.mem_of_getElem? (i := 355) (by decide +kernel)) (by decide +kernel), zTb_in (List.mem_of_getElem? (i := 1) (by decide +kernel)) (by decide +kernel)⟩
theorem zm_X1_addPerson : zMe yX1_addPerson cX1_addPerson 5 (some .int) 4 := ⟨by decide +kernel, zTb_in (List.mem_of_getElem? (i := 360) (by decide +kernel)) (by decide +kernel), zTb_in (List.mem_of_getElem? (i := 38) (by decide +kernel)) (by decide +kernel), by decide +kernel, by decide⟩
theorem zv_X1_addPerson : zMv yX1_addPerson := ⟨zTb_in (List.mem_of_getElem? (i := 358) (by decide +kernel)) (by decide +kernel), zTb_in (List.mem_of_getElem? (i := 359) (by decide +kernel)) (by decide +kernel)⟩
theorem zm_X7_told : zMe yX7_told cX7_told 3 (some .int) 2 := ⟨by decide +kernel, zTb_in (List.mem_of_getElem? (i := 364) (by decide +kernel)) (by decide +kernel), zTb_in (List.mem_of_getElem? (i := 36) (by decide +kernel)) (by decide +kernel), by decide +kernel, by decide⟩
theorem zv_X7_told : zMv yX7_told := ⟨zTb_in (List.mem_of_getElem? (i := 362) (by decide +kernel)) (by decide +kernel), zTb_in (List.mem_of_getElem? (i := 363) (by decide +kernel)) (by decide +kernel)⟩
theorem zm_X1_isPerson : zMe yX1_isPerson cX1_isPerson 2 (some .boolean) 1 := ⟨by decide +kernel, zTb_in (List.mem_of_getElem? (i := 368) (by decide +kernel)) (by decide +kernel), zTb_in (List.mem_of_getElem? (i := 38) (by decide +kernel)) (by decide +kernel), by decide +kernel, by decide⟩
theorem zv_X1_isPerson : zMv yX1_isPerson := ⟨zTb_in (List.mem_of_getElem? (i := 366) (by decide +kernel)) (by decide +kernel), zTb_in (List.mem_of_getElem? (i := 367) (by decide +kernel)) (by decide +kernel)⟩
theorem zm_X7_move : zMe yX7_move cX7_move 4 (some .int) 2 := ⟨by decide +kernel, zTb_in (List.mem_of_getElem? (i := 372) (by decide +kernel)) (by decide +kernel), zTb_in (List.mem_of_getElem? (i := 36) (by decide +kernel)) (by decide +kernel), by decide +kernel, by decide⟩
theorem zv_X7_move : zMv yX7_move := ⟨zTb_in (List.mem_of_getElem? (i := 370) (by decide +kernel)) (by decide +kernel), zTb_in (List.mem_of_getElem? (i := 371) (by decide +kernel)) (by decide +kernel)⟩
theorem zm_X7_take : zMe yX7_take cX7_take 3 (some .int) 1 := ⟨by decide +kernel, zTb_in (List.mem_of_getElem? (i := 376) (by decide +kernel)) (by decide +kernel), zTb_in (List.mem_of_getElem? (i := 36) (by decide +kernel)) (by decide +kernel), by decide +kernel, by decide⟩
theorem zv_X7_take : zMv yX7_take := ⟨zTb_in (List.mem_of_getElem? (i := 374) (by decide +kernel)) (by decide +kernel), zTb_in (List.mem_of_getElem? (i := 375) (by decide +kernel)) (by decide +kernel)⟩
theorem zm_X5_hasNew : zMe yX5_hasNew cX5_hasNew 2 none 1 := ⟨by decide +kernel, zTb_in (List.mem_of_getElem? (i := 380) (by decide +kernel)) (by decide +kernel), zTb_in (List.mem_of_getElem? (i := 40) (by decide +kernel)) (by decide +kernel), by decide +kernel, by decide⟩
theorem zv_X5_hasNew : zMv yX5_hasNew := ⟨zTb_in (List.mem_of_getElem? (i := 378) (by decide +kernel)) (by decide +kernel), zTb_in (List.mem_of_getElem? (i := 379) (by decide +kernel)) (by decide +kernel)⟩
theorem zm_X7_count : zMe yX7_count cX7_count 2 (some .int) 1 := ⟨by decide +kernel, zTb_in (List.mem_of_getElem? (i := 384) (by decide +kernel)) (by decide +kernel), zTb_in (List.mem_of_getElem? (i := 36) (by decide +kernel)) (by decide +kernel), by decide +kernel, by decide⟩
theorem zv_X7_count : zMv yX7_count := ⟨zTb_in (List.mem_of_getElem? (i := 382) (by decide +kernel)) (by decide +kernel), zTb_in (List.mem_of_getElem? (i := 383) (by decide +kernel)) (by decide +kernel)⟩
theorem zm_X7_heed : zMe yX7_heed cX7_heed 3 (some .int) 1 := ⟨by decide +kernel, zTb_in (List.mem_of_getElem? (i := 388) (by decide +kernel)) (by decide +kernel), zTb_in (List.mem_of_getElem? (i := 36) (by decide +kernel)) (by decide +kernel), by decide +kernel, by decide⟩
theorem zv_X7_heed : zMv yX7_heed := ⟨zTb_in (List.mem_of_getElem? (i := 386) (by decide +kernel)) (by decide +kernel), zTb_in (List.mem_of_getElem? (i := 387) (by decide +kernel)) (by decide +kernel)⟩
theorem zm_X7_well : zMe yX7_well cX7_well 3 (some .int) 1 := ⟨by decide +kernel, zTb_in (List.mem_of_getElem? (i := 392) (by decide +kernel)) (by decide +kernel), zTb_in (List.mem_of_getElem? (i := 36) (by decide +kernel)) (by decide +kernel), by decide +kernel, by decide⟩
theorem zv_X7_well : zMv yX7_well := ⟨zTb_in (List.mem_of_getElem? (i := 390) (by decide +kernel)) (by decide +kernel), zTb_in (List.mem_of_getElem? (i := 391) (by decide +kernel)) (by decide +kernel)⟩
theorem zm_X7_type : zMe yX7_type cX7_type 2 (some .int) 1 := ⟨by decide +kernel, zTb_in (List.mem_of_getElem? (i := 396) (by decide +kernel)) (by decide +kernel), zTb_in (List.mem_of_getElem? (i := 36) (by decide +kernel)) (by decide +kernel), by decide +kernel, by decide⟩
theorem zv_X7_type : zMv yX7_type := ⟨zTb_in (List.mem_of_getElem? (i := 394) (by decide +kernel)) (by decide +kernel), zTb_in (List.mem_of_getElem? (i := 395) (by decide +kernel)) (by decide +kernel)⟩
theorem zm_X7_road : zMe yX7_road cX7_road 2 (some .int) 0 := ⟨by decide +kernel, zTb_in (List.mem_of_getElem? (i := 400) (by decide +kernel)) (by decide +kernel), zTb_in (List.mem_of_getElem? (i := 36) (by decide +kernel)) (by decide +kernel), by decide +kernel, by decide⟩
theorem zv_X7_road : zMv yX7_road := ⟨zTb_in (List.mem_of_getElem? (i := 398) (by decide +kernel)) (by decide +kernel), zTb_in (List.mem_of_getElem? (i := 399) (by decide +kernel)) (by decide +kernel)⟩
theorem zm_X3_readRoad : zMe yX3_readRoad cX3_readRoad 3 (some .boolean) 1 := ⟨by decide +kernel, zTb_in (List.mem_of_getElem? (i := 404) (by decide +kernel)) (by decide +kernel), zTb_in (List.mem_of_getElem? (i := 41) (by decide +kernel)) (by decide +kernel), by decide +kernel, by decide⟩
theorem zv_X3_readRoad : zMv yX3_readRoad := ⟨zTb_in (List.mem_of_getElem? (i := 402) (by decide +kernel)) (by decide +kernel), zTb_in (List.mem_of_getElem? (i := 403) (by decide +kernel)) (by decide +kernel)⟩
theorem zm_X1_setFrom : zMe yX1_setFrom cX1_setFrom 4 none 1 := ⟨by decide +kernel, zTb_in (List.mem_of_getElem? (i := 408) (by decide +kernel)) (by decide +kernel), zTb_in (List.mem_of_getElem? (i := 38) (by decide +kernel)) (by decide +kernel), by decide +kernel, by decide⟩
theorem zv_X1_setFrom : zMv yX1_setFrom := ⟨zTb_in (List.mem_of_getElem? (i := 406) (by decide +kernel)) (by decide +kernel), zTb_in (List.mem_of_getElem? (i := 407) (by decide +kernel)) (by decide +kernel)⟩
theorem zm_X5_setFrom : zMe yX5_setFrom cX5_setFrom 2 none 1 := ⟨by decide +kernel, zTb_in (List.mem_of_getElem? (i := 415) (by decide +kernel)) (by decide +kernel), zTb_in (List.mem_of_getElem? (i := 40) (by decide +kernel)) (by decide +kernel), by decide +kernel, by decide⟩
theorem zv_X5_setFrom : zMv yX5_setFrom := ⟨zTb_in (List.mem_of_getElem? (i := 413) (by decide +kernel)) (by decide +kernel), zTb_in (List.mem_of_getElem? (i := 414) (by decide +kernel)) (by decide +kernel)⟩
theorem zm_X5_setOut : zMe yX5_setOut cX5_setOut 1 none 0 := ⟨by decide +kernel, zTb_in (List.mem_of_getElem? (i := 420) (by decide +kernel)) (by decide +kernel), zTb_in (List.mem_of_getElem? (i := 40) (by decide +kernel)) (by decide +kernel), by decide +kernel, by decide⟩
theorem zv_X5_setOut : zMv yX5_setOut := ⟨zTb_in (List.mem_of_getElem? (i := 418) (by decide +kernel)) (by decide +kernel), zTb_in (List.mem_of_getElem? (i := 419) (by decide +kernel)) (by decide +kernel)⟩
theorem zm_X3_readThings : zMe yX3_readThings cX3_readThings 2 (some .boolean) 0 := ⟨by decide +kernel, zTb_in (List.mem_of_getElem? (i := 425) (by decide +kernel)) (by decide +kernel), zTb_in (List.mem_of_getElem? (i := 41) (by decide +kernel)) (by decide +kernel), by decide +kernel, by decide⟩
theorem zv_X3_readThings : zMv yX3_readThings := ⟨zTb_in (List.mem_of_getElem? (i := 423) (by decide +kernel)) (by decide +kernel), zTb_in (List.mem_of_getElem? (i := 424) (by decide +kernel)) (by decide +kernel)⟩
theorem zm_X3_readThing : zMe yX3_readThing cX3_readThing 5 (some .boolean) 0 := ⟨by decide +kernel, zTb_in (List.mem_of_getElem? (i := 429) (by decide +kernel)) (by decide +kernel), zTb_in (List.mem_of_getElem? (i := 41) (by decide +kernel)) (by decide +kernel), by decide +kernel, by decide⟩
theorem zv_X3_readThing : zMv yX3_readThing := ⟨zTb_in (List.mem_of_getElem? (i := 427) (by decide +kernel)) (by decide +kernel), zTb_in (List.mem_of_getElem? (i := 428) (by decide +kernel)) (by decide +kernel)⟩
theorem zm_X3_next : zMe yX3_next cX3_next 1 (some .char) 0 := ⟨by decide +kernel, zTb_in (List.mem_of_getElem? (i := 434) (by decide +kernel)) (by decide +kernel), zTb_in (List.mem_of_getElem? (i := 41) (by decide +kernel)) (by decide +kernel), by decide +kernel, by decide⟩
theorem zv_X3_next : zMv yX3_next := ⟨zTb_in (List.mem_of_getElem? (i := 432) (by decide +kernel)) (by decide +kernel), zTb_in (List.mem_of_getElem? (i := 433) (by decide +kernel)) (by decide +kernel)⟩
theorem zm_X3_readNumber : zMe yX3_readNumber cX3_readNumber 4 (some .int) 1 := ⟨by decide +kernel, zTb_in (List.mem_of_getElem? (i := 524) (by decide +kernel)) (by decide +kernel), zTb_in (List.mem_of_getElem? (i := 41) (by decide +kernel)) (by decide +kernel), by decide +kernel, by decide⟩
theorem zv_X3_readNumber : zMv yX3_readNumber := ⟨zTb_in (List.mem_of_getElem? (i := 522) (by decide +kernel)) (by decide +kernel), zTb_in (List.mem_of_getElem? (i := 523) (by decide +kernel)) (by decide +kernel)⟩
theorem zm_X3_isDigit : zMe yX3_isDigit cX3_isDigit 1 (some .boolean) 1 := ⟨by decide +kernel, zTb_in (List.mem_of_getElem? (i := 527) (by decide +kernel)) (by decide +kernel), zTb_in (List.mem_of_getElem? (i := 41) (by decide +kernel)) (by decide +kernel), by decide +kernel, by decide⟩
theorem zst_X3_isDigit : Cond.static yX3_isDigit ∈ zTb := zTb_in (List.mem_of_getElem? (i := 526) (by decide +kernel)) (by decide +kernel)
theorem zm_X3_reads : zMe yX3_reads cX3_reads 2 (some .boolean) 1 := ⟨by decide +kernel, zTb_in (List.mem_of_getElem? (i := 532) (by decide +kernel)) (by decide +kernel), zTb_in (List.mem_of_getElem? (i := 41) (by decide +kernel)) (by decide +kernel), by decide +kernel, by decide⟩
theorem zv_X3_reads : zMv yX3_reads := ⟨zTb_in (List.mem_of_getElem? (i := 530) (by decide +kernel)) (by decide +kernel), zTb_in (List.mem_of_getElem? (i := 531) (by decide +kernel)) (by decide +kernel)⟩
theorem zm_X3_readPeople : zMe yX3_readPeople cX3_readPeople 2 (some .boolean) 0 := ⟨by decide +kernel, zTb_in (List.mem_of_getElem? (i := 537) (by decide +kernel)) (by decide +kernel), zTb_in (List.mem_of_getElem? (i := 41) (by decide +kernel)) (by decide +kernel), by decide +kernel, by decide⟩
theorem zv_X3_readPeople : zMv yX3_readPeople := ⟨zTb_in (List.mem_of_getElem? (i := 535) (by decide +kernel)) (by decide +kernel), zTb_in (List.mem_of_getElem? (i := 536) (by decide +kernel)) (by decide +kernel)⟩
theorem zm_X3_readPerson : zMe yX3_readPerson cX3_readPerson 4 (some .boolean) 0 := ⟨by decide +kernel, zTb_in (List.mem_of_getElem? (i := 541) (by decide +kernel)) (by decide +kernel), zTb_in (List.mem_of_getElem? (i := 41) (by decide +kernel)) (by decide +kernel), by decide +kernel, by decide⟩
theorem zv_X3_readPerson : zMv yX3_readPerson := ⟨zTb_in (List.mem_of_getElem? (i := 539) (by decide +kernel)) (by decide +kernel), zTb_in (List.mem_of_getElem? (i := 540) (by decide +kernel)) (by decide +kernel)⟩
theorem zm_X3_readFreeThing : zMe yX3_readFreeThing cX3_readFreeThing 2 (some .int) 0 := ⟨by decide +kernel, zTb_in (List.mem_of_getElem? (i := 545) (by decide +kernel)) (by decide +kernel), zTb_in (List.mem_of_getElem? (i := 41) (by decide +kernel)) (by decide +kernel), by decide +kernel, by decide⟩
theorem zv_X3_readFreeThing : zMv yX3_readFreeThing := ⟨zTb_in (List.mem_of_getElem? (i := 543) (by decide +kernel)) (by decide +kernel), zTb_in (List.mem_of_getElem? (i := 544) (by decide +kernel)) (by decide +kernel)⟩
theorem zm_X3_readHis : zMe yX3_readHis cX3_readHis 2 (some .boolean) 0 := ⟨by decide +kernel, zTb_in (List.mem_of_getElem? (i := 552) (by decide +kernel)) (by decide +kernel), zTb_in (List.mem_of_getElem? (i := 41) (by decide +kernel)) (by decide +kernel), by decide +kernel, by decide⟩
theorem zv_X3_readHis : zMv yX3_readHis := ⟨zTb_in (List.mem_of_getElem? (i := 550) (by decide +kernel)) (by decide +kernel), zTb_in (List.mem_of_getElem? (i := 551) (by decide +kernel)) (by decide +kernel)⟩
theorem zm_X7_go : zMe yX7_go cX7_go 1 (some .int) 0 := ⟨by decide +kernel, zTb_in (List.mem_of_getElem? (i := 559) (by decide +kernel)) (by decide +kernel), zTb_in (List.mem_of_getElem? (i := 36) (by decide +kernel)) (by decide +kernel), by decide +kernel, by decide⟩
theorem zv_X7_go : zMv yX7_go := ⟨zTb_in (List.mem_of_getElem? (i := 557) (by decide +kernel)) (by decide +kernel), zTb_in (List.mem_of_getElem? (i := 558) (by decide +kernel)) (by decide +kernel)⟩
theorem zm_X6_remember : zMe yX6_remember cX6_remember 1 none 0 := ⟨by decide +kernel, zTb_in (List.mem_of_getElem? (i := 563) (by decide +kernel)) (by decide +kernel), zTb_in (List.mem_of_getElem? (i := 37) (by decide +kernel)) (by decide +kernel), by decide +kernel, by decide⟩
theorem zv_X6_remember : zMv yX6_remember := ⟨zTb_in (List.mem_of_getElem? (i := 561) (by decide +kernel)) (by decide +kernel), zTb_in (List.mem_of_getElem? (i := 562) (by decide +kernel)) (by decide +kernel)⟩
theorem zm_X6_loseOldest : zMe yX6_loseOldest cX6_loseOldest 3 none 0 := ⟨by decide +kernel, zTb_in (List.mem_of_getElem? (i := 567) (by decide +kernel)) (by decide +kernel), zTb_in (List.mem_of_getElem? (i := 37) (by decide +kernel)) (by decide +kernel), by decide +kernel, by decide⟩
theorem zv_X6_loseOldest : zMv yX6_loseOldest := ⟨zTb_in (List.mem_of_getElem? (i := 565) (by decide +kernel)) (by decide +kernel), zTb_in (List.mem_of_getElem? (i := 566) (by decide +kernel)) (by decide +kernel)⟩
theorem zm_X1_pass : zMe yX1_pass cX1_pass 5 (some .int) 2 := ⟨by decide +kernel, zTb_in (List.mem_of_getElem? (i := 572) (by decide +kernel)) (by decide +kernel), zTb_in (List.mem_of_getElem? (i := 38) (by decide +kernel)) (by decide +kernel), by decide +kernel, by decide⟩
theorem zv_X1_pass : zMv yX1_pass := ⟨zTb_in (List.mem_of_getElem? (i := 570) (by decide +kernel)) (by decide +kernel), zTb_in (List.mem_of_getElem? (i := 571) (by decide +kernel)) (by decide +kernel)⟩
theorem zm_X1_feelOneMore : zMe yX1_feelOneMore cX1_feelOneMore 5 none 2 := ⟨by decide +kernel, zTb_in (List.mem_of_getElem? (i := 577) (by decide +kernel)) (by decide +kernel), zTb_in (List.mem_of_getElem? (i := 38) (by decide +kernel)) (by decide +kernel), by decide +kernel, by decide⟩
theorem zv_X1_feelOneMore : zMv yX1_feelOneMore := ⟨zTb_in (List.mem_of_getElem? (i := 575) (by decide +kernel)) (by decide +kernel), zTb_in (List.mem_of_getElem? (i := 576) (by decide +kernel)) (by decide +kernel)⟩
theorem zm_X1_offer : zMe yX1_offer cX1_offer 6 none 3 := ⟨by decide +kernel, zTb_in (List.mem_of_getElem? (i := 582) (by decide +kernel)) (by decide +kernel), zTb_in (List.mem_of_getElem? (i := 38) (by decide +kernel)) (by decide +kernel), by decide +kernel, by decide⟩
theorem zv_X1_offer : zMv yX1_offer := ⟨zTb_in (List.mem_of_getElem? (i := 580) (by decide +kernel)) (by decide +kernel), zTb_in (List.mem_of_getElem? (i := 581) (by decide +kernel)) (by decide +kernel)⟩
theorem zm_X1_isGlad : zMe yX1_isGlad cX1_isGlad 8 (some .boolean) 4 := ⟨by decide +kernel, zTb_in (List.mem_of_getElem? (i := 586) (by decide +kernel)) (by decide +kernel), zTb_in (List.mem_of_getElem? (i := 38) (by decide +kernel)) (by decide +kernel), by decide +kernel, by decide⟩
theorem zv_X1_isGlad : zMv yX1_isGlad := ⟨zTb_in (List.mem_of_getElem? (i := 584) (by decide +kernel)) (by decide +kernel), zTb_in (List.mem_of_getElem? (i := 585) (by decide +kernel)) (by decide +kernel)⟩
theorem zm_X7_undo : zMe yX7_undo cX7_undo 1 (some .int) 0 := ⟨by decide +kernel, zTb_in (List.mem_of_getElem? (i := 591) (by decide +kernel)) (by decide +kernel), zTb_in (List.mem_of_getElem? (i := 36) (by decide +kernel)) (by decide +kernel), by decide +kernel, by decide⟩
theorem zv_X7_undo : zMv yX7_undo := ⟨zTb_in (List.mem_of_getElem? (i := 589) (by decide +kernel)) (by decide +kernel), zTb_in (List.mem_of_getElem? (i := 590) (by decide +kernel)) (by decide +kernel)⟩
theorem zm_X6_stepBack : zMe yX6_stepBack cX6_stepBack 1 none 0 := ⟨by decide +kernel, zTb_in (List.mem_of_getElem? (i := 595) (by decide +kernel)) (by decide +kernel), zTb_in (List.mem_of_getElem? (i := 37) (by decide +kernel)) (by decide +kernel), by decide +kernel, by decide⟩
theorem zv_X6_stepBack : zMv yX6_stepBack := ⟨zTb_in (List.mem_of_getElem? (i := 593) (by decide +kernel)) (by decide +kernel), zTb_in (List.mem_of_getElem? (i := 594) (by decide +kernel)) (by decide +kernel)⟩
theorem zm_X7_again : zMe yX7_again cX7_again 2 (some .int) 0 := ⟨by decide +kernel, zTb_in (List.mem_of_getElem? (i := 599) (by decide +kernel)) (by decide +kernel), zTb_in (List.mem_of_getElem? (i := 36) (by decide +kernel)) (by decide +kernel), by decide +kernel, by decide⟩
theorem zv_X7_again : zMv yX7_again := ⟨zTb_in (List.mem_of_getElem? (i := 597) (by decide +kernel)) (by decide +kernel), zTb_in (List.mem_of_getElem? (i := 598) (by decide +kernel)) (by decide +kernel)⟩
theorem zm_X7_glad : zMe yX7_glad cX7_glad 2 (some .int) 1 := ⟨by decide +kernel, zTb_in (List.mem_of_getElem? (i := 603) (by decide +kernel)) (by decide +kernel), zTb_in (List.mem_of_getElem? (i := 36) (by decide +kernel)) (by decide +kernel), by decide +kernel, by decide⟩
theorem zv_X7_glad : zMv yX7_glad := ⟨zTb_in (List.mem_of_getElem? (i := 601) (by decide +kernel)) (by decide +kernel), zTb_in (List.mem_of_getElem? (i := 602) (by decide +kernel)) (by decide +kernel)⟩
theorem zm_X7_home : zMe yX7_home cX7_home 3 (some .int) 1 := ⟨by decide +kernel, zTb_in (List.mem_of_getElem? (i := 608) (by decide +kernel)) (by decide +kernel), zTb_in (List.mem_of_getElem? (i := 36) (by decide +kernel)) (by decide +kernel), by decide +kernel, by decide⟩
theorem zv_X7_home : zMv yX7_home := ⟨zTb_in (List.mem_of_getElem? (i := 606) (by decide +kernel)) (by decide +kernel), zTb_in (List.mem_of_getElem? (i := 607) (by decide +kernel)) (by decide +kernel)⟩
theorem zm_X0_endOf : zMe yX0_endOf cX0_endOf 2 (some (.object "GladRoad$Trip")) 1 := ⟨by decide +kernel, zTb_in (List.mem_of_getElem? (i := 612) (by decide +kernel)) (by decide +kernel), zTb_in (List.mem_of_getElem? (i := 42) (by decide +kernel)) (by decide +kernel), by decide +kernel, by decide⟩
theorem zv_X0_endOf : zMv yX0_endOf := ⟨zTb_in (List.mem_of_getElem? (i := 610) (by decide +kernel)) (by decide +kernel), zTb_in (List.mem_of_getElem? (i := 611) (by decide +kernel)) (by decide +kernel)⟩
theorem zm_X0_begin : zMe yX0_begin cX0_begin 2 none 1 := ⟨by decide +kernel, zTb_in (List.mem_of_getElem? (i := 616) (by decide +kernel)) (by decide +kernel), zTb_in (List.mem_of_getElem? (i := 42) (by decide +kernel)) (by decide +kernel), by decide +kernel, by decide⟩
theorem zv_X0_begin : zMv yX0_begin := ⟨zTb_in (List.mem_of_getElem? (i := 614) (by decide +kernel)) (by decide +kernel), zTb_in (List.mem_of_getElem? (i := 615) (by decide +kernel)) (by decide +kernel)⟩
theorem zm_X0_walkHome : zMe yX0_walkHome cX0_walkHome 2 none 0 := ⟨by decide +kernel, zTb_in (List.mem_of_getElem? (i := 622) (by decide +kernel)) (by decide +kernel), zTb_in (List.mem_of_getElem? (i := 42) (by decide +kernel)) (by decide +kernel), by decide +kernel, by decide⟩
theorem zv_X0_walkHome : zMv yX0_walkHome := ⟨zTb_in (List.mem_of_getElem? (i := 620) (by decide +kernel)) (by decide +kernel), zTb_in (List.mem_of_getElem? (i := 621) (by decide +kernel)) (by decide +kernel)⟩
theorem zm_X7_lost : zMe yX7_lost cX7_lost 1 (some .int) 0 := ⟨by decide +kernel, zTb_in (List.mem_of_getElem? (i := 627) (by decide +kernel)) (by decide +kernel), zTb_in (List.mem_of_getElem? (i := 36) (by decide +kernel)) (by decide +kernel), by decide +kernel, by decide⟩
theorem zv_X7_lost : zMv yX7_lost := ⟨zTb_in (List.mem_of_getElem? (i := 625) (by decide +kernel)) (by decide +kernel), zTb_in (List.mem_of_getElem? (i := 626) (by decide +kernel)) (by decide +kernel)⟩
theorem zm_X1_worthOf : zMe yX1_worthOf cX1_worthOf 2 (some .int) 1 := ⟨by decide +kernel, zTb_in (List.mem_of_getElem? (i := 631) (by decide +kernel)) (by decide +kernel), zTb_in (List.mem_of_getElem? (i := 38) (by decide +kernel)) (by decide +kernel), by decide +kernel, by decide⟩
theorem zv_X1_worthOf : zMv yX1_worthOf := ⟨zTb_in (List.mem_of_getElem? (i := 629) (by decide +kernel)) (by decide +kernel), zTb_in (List.mem_of_getElem? (i := 630) (by decide +kernel)) (by decide +kernel)⟩
theorem zm_X7_lurk : zMe yX7_lurk cX7_lurk 4 (some .int) 2 := ⟨by decide +kernel, zTb_in (List.mem_of_getElem? (i := 635) (by decide +kernel)) (by decide +kernel), zTb_in (List.mem_of_getElem? (i := 36) (by decide +kernel)) (by decide +kernel), by decide +kernel, by decide⟩
theorem zv_X7_lurk : zMv yX7_lurk := ⟨zTb_in (List.mem_of_getElem? (i := 633) (by decide +kernel)) (by decide +kernel), zTb_in (List.mem_of_getElem? (i := 634) (by decide +kernel)) (by decide +kernel)⟩
theorem zm_X0_waitFor : zMe yX0_waitFor cX0_waitFor 8 (some .int) 2 := ⟨by decide +kernel, zTb_in (List.mem_of_getElem? (i := 639) (by decide +kernel)) (by decide +kernel), zTb_in (List.mem_of_getElem? (i := 42) (by decide +kernel)) (by decide +kernel), by decide +kernel, by decide⟩
theorem zv_X0_waitFor : zMv yX0_waitFor := ⟨zTb_in (List.mem_of_getElem? (i := 637) (by decide +kernel)) (by decide +kernel), zTb_in (List.mem_of_getElem? (i := 638) (by decide +kernel)) (by decide +kernel)⟩
theorem zm_X7_stand : zMe yX7_stand cX7_stand 4 (some .int) 2 := ⟨by decide +kernel, zTb_in (List.mem_of_getElem? (i := 646) (by decide +kernel)) (by decide +kernel), zTb_in (List.mem_of_getElem? (i := 36) (by decide +kernel)) (by decide +kernel), by decide +kernel, by decide⟩
theorem zv_X7_stand : zMv yX7_stand := ⟨zTb_in (List.mem_of_getElem? (i := 644) (by decide +kernel)) (by decide +kernel), zTb_in (List.mem_of_getElem? (i := 645) (by decide +kernel)) (by decide +kernel)⟩
theorem zm_X0_mostWorthOf : zMe yX0_mostWorthOf cX0_mostWorthOf 6 (some .int) 2 := ⟨by decide +kernel, zTb_in (List.mem_of_getElem? (i := 650) (by decide +kernel)) (by decide +kernel), zTb_in (List.mem_of_getElem? (i := 42) (by decide +kernel)) (by decide +kernel), by decide +kernel, by decide⟩
theorem zv_X0_mostWorthOf : zMv yX0_mostWorthOf := ⟨zTb_in (List.mem_of_getElem? (i := 648) (by decide +kernel)) (by decide +kernel), zTb_in (List.mem_of_getElem? (i := 649) (by decide +kernel)) (by decide +kernel)⟩
theorem zm_X7_sister : zMe yX7_sister cX7_sister 3 (some .int) 2 := ⟨by decide +kernel, zTb_in (List.mem_of_getElem? (i := 654) (by decide +kernel)) (by decide +kernel), zTb_in (List.mem_of_getElem? (i := 36) (by decide +kernel)) (by decide +kernel), by decide +kernel, by decide⟩
theorem zv_X7_sister : zMv yX7_sister := ⟨zTb_in (List.mem_of_getElem? (i := 652) (by decide +kernel)) (by decide +kernel), zTb_in (List.mem_of_getElem? (i := 653) (by decide +kernel)) (by decide +kernel)⟩
theorem zm_X7_meet : zMe yX7_meet cX7_meet 4 (some .int) 2 := ⟨by decide +kernel, zTb_in (List.mem_of_getElem? (i := 658) (by decide +kernel)) (by decide +kernel), zTb_in (List.mem_of_getElem? (i := 36) (by decide +kernel)) (by decide +kernel), by decide +kernel, by decide⟩
theorem zv_X7_meet : zMv yX7_meet := ⟨zTb_in (List.mem_of_getElem? (i := 656) (by decide +kernel)) (by decide +kernel), zTb_in (List.mem_of_getElem? (i := 657) (by decide +kernel)) (by decide +kernel)⟩
theorem zm_X0_turnsWith : zMe yX0_turnsWith cX0_turnsWith 7 (some .int) 2 := ⟨by decide +kernel, zTb_in (List.mem_of_getElem? (i := 662) (by decide +kernel)) (by decide +kernel), zTb_in (List.mem_of_getElem? (i := 42) (by decide +kernel)) (by decide +kernel), by decide +kernel, by decide⟩
theorem zv_X0_turnsWith : zMv yX0_turnsWith := ⟨zTb_in (List.mem_of_getElem? (i := 660) (by decide +kernel)) (by decide +kernel), zTb_in (List.mem_of_getElem? (i := 661) (by decide +kernel)) (by decide +kernel)⟩
theorem zm_X0_takesTurn : zMe yX0_takesTurn cX0_takesTurn 5 (some .boolean) 3 := ⟨by decide +kernel, zTb_in (List.mem_of_getElem? (i := 667) (by decide +kernel)) (by decide +kernel), zTb_in (List.mem_of_getElem? (i := 42) (by decide +kernel)) (by decide +kernel), by decide +kernel, by decide⟩
theorem zv_X0_takesTurn : zMv yX0_takesTurn := ⟨zTb_in (List.mem_of_getElem? (i := 665) (by decide +kernel)) (by decide +kernel), zTb_in (List.mem_of_getElem? (i := 666) (by decide +kernel)) (by decide +kernel)⟩
theorem zm_X7_first : zMe yX7_first cX7_first 2 (some .int) 1 := ⟨by decide +kernel, zTb_in (List.mem_of_getElem? (i := 674) (by decide +kernel)) (by decide +kernel), zTb_in (List.mem_of_getElem? (i := 36) (by decide +kernel)) (by decide +kernel), by decide +kernel, by decide⟩
theorem zv_X7_first : zMv yX7_first := ⟨zTb_in (List.mem_of_getElem? (i := 672) (by decide +kernel)) (by decide +kernel), zTb_in (List.mem_of_getElem? (i := 673) (by decide +kernel)) (by decide +kernel)⟩
theorem zm_X0_firstsFor : zMe yX0_firstsFor cX0_firstsFor 5 (some .int) 2 := ⟨by decide +kernel, zTb_in (List.mem_of_getElem? (i := 678) (by decide +kernel)) (by decide +kernel), zTb_in (List.mem_of_getElem? (i := 42) (by decide +kernel)) (by decide +kernel), by decide +kernel, by decide⟩
theorem zv_X0_firstsFor : zMv yX0_firstsFor := ⟨zTb_in (List.mem_of_getElem? (i := 676) (by decide +kernel)) (by decide +kernel), zTb_in (List.mem_of_getElem? (i := 677) (by decide +kernel)) (by decide +kernel)⟩
theorem zm_X7_cheated : zMe yX7_cheated cX7_cheated 2 (some .int) 1 := ⟨by decide +kernel, zTb_in (List.mem_of_getElem? (i := 682) (by decide +kernel)) (by decide +kernel), zTb_in (List.mem_of_getElem? (i := 36) (by decide +kernel)) (by decide +kernel), by decide +kernel, by decide⟩
theorem zv_X7_cheated : zMv yX7_cheated := ⟨zTb_in (List.mem_of_getElem? (i := 680) (by decide +kernel)) (by decide +kernel), zTb_in (List.mem_of_getElem? (i := 681) (by decide +kernel)) (by decide +kernel)⟩
theorem zm_X0_heedFor : zMe yX0_heedFor cX0_heedFor 7 (some .int) 2 := ⟨by decide +kernel, zTb_in (List.mem_of_getElem? (i := 686) (by decide +kernel)) (by decide +kernel), zTb_in (List.mem_of_getElem? (i := 42) (by decide +kernel)) (by decide +kernel), by decide +kernel, by decide⟩
theorem zv_X0_heedFor : zMv yX0_heedFor := ⟨zTb_in (List.mem_of_getElem? (i := 684) (by decide +kernel)) (by decide +kernel), zTb_in (List.mem_of_getElem? (i := 685) (by decide +kernel)) (by decide +kernel)⟩
theorem zm_X7_chance : zMe yX7_chance cX7_chance 6 (some .int) 2 := ⟨by decide +kernel, zTb_in (List.mem_of_getElem? (i := 690) (by decide +kernel)) (by decide +kernel), zTb_in (List.mem_of_getElem? (i := 36) (by decide +kernel)) (by decide +kernel), by decide +kernel, by decide⟩
theorem zv_X7_chance : zMv yX7_chance := ⟨zTb_in (List.mem_of_getElem? (i := 688) (by decide +kernel)) (by decide +kernel), zTb_in (List.mem_of_getElem? (i := 689) (by decide +kernel)) (by decide +kernel)⟩
theorem zm_X0_waysTo : zMe yX0_waysTo cX0_waysTo 3 (some .int) 2 := ⟨by decide +kernel, zTb_in (List.mem_of_getElem? (i := 694) (by decide +kernel)) (by decide +kernel), zTb_in (List.mem_of_getElem? (i := 42) (by decide +kernel)) (by decide +kernel), by decide +kernel, by decide⟩
theorem zv_X0_waysTo : zMv yX0_waysTo := ⟨zTb_in (List.mem_of_getElem? (i := 692) (by decide +kernel)) (by decide +kernel), zTb_in (List.mem_of_getElem? (i := 693) (by decide +kernel)) (by decide +kernel)⟩
theorem zm_X0_waysFrom : zMe yX0_waysFrom cX0_waysFrom 5 (some .int) 2 := ⟨by decide +kernel, zTb_in (List.mem_of_getElem? (i := 698) (by decide +kernel)) (by decide +kernel), zTb_in (List.mem_of_getElem? (i := 42) (by decide +kernel)) (by decide +kernel), by decide +kernel, by decide⟩
theorem zv_X0_waysFrom : zMv yX0_waysFrom := ⟨zTb_in (List.mem_of_getElem? (i := 697) (by decide +kernel)) (by decide +kernel), zTb_in (List.mem_of_getElem? (i := 2) (by decide +kernel)) (by decide +kernel)⟩
theorem zm_X0_waysBehind : zMe yX0_waysBehind cX0_waysBehind 4 (some .int) 3 := ⟨by decide +kernel, zTb_in (List.mem_of_getElem? (i := 702) (by decide +kernel)) (by decide +kernel), zTb_in (List.mem_of_getElem? (i := 42) (by decide +kernel)) (by decide +kernel), by decide +kernel, by decide⟩
theorem zv_X0_waysBehind : zMv yX0_waysBehind := ⟨zTb_in (List.mem_of_getElem? (i := 701) (by decide +kernel)) (by decide +kernel), zTb_in (List.mem_of_getElem? (i := 3) (by decide +kernel)) (by decide +kernel)⟩
theorem zm_X1_isPeopled : zMe yX1_isPeopled cX1_isPeopled 3 (some .boolean) 1 := ⟨by decide +kernel, zTb_in (List.mem_of_getElem? (i := 706) (by decide +kernel)) (by decide +kernel), zTb_in (List.mem_of_getElem? (i := 38) (by decide +kernel)) (by decide +kernel), by decide +kernel, by decide⟩
theorem zv_X1_isPeopled : zMv yX1_isPeopled := ⟨zTb_in (List.mem_of_getElem? (i := 704) (by decide +kernel)) (by decide +kernel), zTb_in (List.mem_of_getElem? (i := 705) (by decide +kernel)) (by decide +kernel)⟩
theorem zm_X7_image : zMe yX7_image cX7_image 1 (some .int) 0 := ⟨by decide +kernel, zTb_in (List.mem_of_getElem? (i := 710) (by decide +kernel)) (by decide +kernel), zTb_in (List.mem_of_getElem? (i := 36) (by decide +kernel)) (by decide +kernel), by decide +kernel, by decide⟩
theorem zv_X7_image : zMv yX7_image := ⟨zTb_in (List.mem_of_getElem? (i := 708) (by decide +kernel)) (by decide +kernel), zTb_in (List.mem_of_getElem? (i := 709) (by decide +kernel)) (by decide +kernel)⟩
theorem zm_X6_setFrom : zMe yX6_setFrom cX6_setFrom 3 none 1 := ⟨by decide +kernel, zTb_in (List.mem_of_getElem? (i := 714) (by decide +kernel)) (by decide +kernel), zTb_in (List.mem_of_getElem? (i := 37) (by decide +kernel)) (by decide +kernel), by decide +kernel, by decide⟩
theorem zv_X6_setFrom : zMv yX6_setFrom := ⟨zTb_in (List.mem_of_getElem? (i := 712) (by decide +kernel)) (by decide +kernel), zTb_in (List.mem_of_getElem? (i := 713) (by decide +kernel)) (by decide +kernel)⟩
theorem zm_X7_restore : zMe yX7_restore cX7_restore 1 (some .int) 0 := ⟨by decide +kernel, zTb_in (List.mem_of_getElem? (i := 719) (by decide +kernel)) (by decide +kernel), zTb_in (List.mem_of_getElem? (i := 36) (by decide +kernel)) (by decide +kernel), by decide +kernel, by decide⟩
theorem zv_X7_restore : zMv yX7_restore := ⟨zTb_in (List.mem_of_getElem? (i := 717) (by decide +kernel)) (by decide +kernel), zTb_in (List.mem_of_getElem? (i := 718) (by decide +kernel)) (by decide +kernel)⟩
theorem zm_X7_seen : zMe yX7_seen cX7_seen 9 (some .int) 4 := ⟨by decide +kernel, zTb_in (List.mem_of_getElem? (i := 723) (by decide +kernel)) (by decide +kernel), zTb_in (List.mem_of_getElem? (i := 36) (by decide +kernel)) (by decide +kernel), by decide +kernel, by decide⟩
theorem zv_X7_seen : zMv yX7_seen := ⟨zTb_in (List.mem_of_getElem? (i := 721) (by decide +kernel)) (by decide +kernel), zTb_in (List.mem_of_getElem? (i := 722) (by decide +kernel)) (by decide +kernel)⟩
theorem zm_X7_rowFault : zMe yX7_rowFault cX7_rowFault 6 (some .int) 4 := ⟨by decide +kernel, zTb_in (List.mem_of_getElem? (i := 727) (by decide +kernel)) (by decide +kernel), zTb_in (List.mem_of_getElem? (i := 36) (by decide +kernel)) (by decide +kernel), by decide +kernel, by decide⟩
theorem zv_X7_rowFault : zMv yX7_rowFault := ⟨zTb_in (List.mem_of_getElem? (i := 726) (by decide +kernel)) (by decide +kernel), zTb_in (List.mem_of_getElem? (i := 4) (by decide +kernel)) (by decide +kernel)⟩
theorem zm_X2_hasRange : zMe yX2_hasRange cX2_hasRange 3 (some .boolean) 2 := ⟨by decide +kernel, zTb_in (List.mem_of_getElem? (i := 731) (by decide +kernel)) (by decide +kernel), zTb_in (List.mem_of_getElem? (i := 43) (by decide +kernel)) (by decide +kernel), by decide +kernel, by decide⟩
theorem zv_X2_hasRange : zMv yX2_hasRange := ⟨zTb_in (List.mem_of_getElem? (i := 729) (by decide +kernel)) (by decide +kernel), zTb_in (List.mem_of_getElem? (i := 730) (by decide +kernel)) (by decide +kernel)⟩
theorem zm_X1_mindsOf : zMe yX1_mindsOf cX1_mindsOf 5 (some .int) 2 := ⟨by decide +kernel, zTb_in (List.mem_of_getElem? (i := 735) (by decide +kernel)) (by decide +kernel), zTb_in (List.mem_of_getElem? (i := 38) (by decide +kernel)) (by decide +kernel), by decide +kernel, by decide⟩
theorem zv_X1_mindsOf : zMv yX1_mindsOf := ⟨zTb_in (List.mem_of_getElem? (i := 733) (by decide +kernel)) (by decide +kernel), zTb_in (List.mem_of_getElem? (i := 734) (by decide +kernel)) (by decide +kernel)⟩
theorem zm_X7_film : zMe yX7_film cX7_film 7 (some .int) 3 := ⟨by decide +kernel, zTb_in (List.mem_of_getElem? (i := 739) (by decide +kernel)) (by decide +kernel), zTb_in (List.mem_of_getElem? (i := 36) (by decide +kernel)) (by decide +kernel), by decide +kernel, by decide⟩
theorem zv_X7_film : zMv yX7_film := ⟨zTb_in (List.mem_of_getElem? (i := 737) (by decide +kernel)) (by decide +kernel), zTb_in (List.mem_of_getElem? (i := 738) (by decide +kernel)) (by decide +kernel)⟩
theorem zm_X2_put : zMe yX2_put cX2_put 4 none 2 := ⟨by decide +kernel, zTb_in (List.mem_of_getElem? (i := 744) (by decide +kernel)) (by decide +kernel), zTb_in (List.mem_of_getElem? (i := 43) (by decide +kernel)) (by decide +kernel), by decide +kernel, by decide⟩
theorem zv_X2_put : zMv yX2_put := ⟨zTb_in (List.mem_of_getElem? (i := 742) (by decide +kernel)) (by decide +kernel), zTb_in (List.mem_of_getElem? (i := 743) (by decide +kernel)) (by decide +kernel)⟩
theorem zm_X7_deal : zMe yX7_deal cX7_deal 10 (some .int) 3 := ⟨by decide +kernel, zTb_in (List.mem_of_getElem? (i := 748) (by decide +kernel)) (by decide +kernel), zTb_in (List.mem_of_getElem? (i := 36) (by decide +kernel)) (by decide +kernel), by decide +kernel, by decide⟩
theorem zv_X7_deal : zMv yX7_deal := ⟨zTb_in (List.mem_of_getElem? (i := 746) (by decide +kernel)) (by decide +kernel), zTb_in (List.mem_of_getElem? (i := 747) (by decide +kernel)) (by decide +kernel)⟩
theorem zm_X7_canDeal : zMe yX7_canDeal cX7_canDeal 7 (some .boolean) 3 := ⟨by decide +kernel, zTb_in (List.mem_of_getElem? (i := 752) (by decide +kernel)) (by decide +kernel), zTb_in (List.mem_of_getElem? (i := 36) (by decide +kernel)) (by decide +kernel), by decide +kernel, by decide⟩
theorem zv_X7_canDeal : zMv yX7_canDeal := ⟨zTb_in (List.mem_of_getElem? (i := 751) (by decide +kernel)) (by decide +kernel), zTb_in (List.mem_of_getElem? (i := 5) (by decide +kernel)) (by decide +kernel)⟩
theorem zm_X7_sheet : zMe yX7_sheet cX7_sheet 4 (some .int) 3 := ⟨by decide +kernel, zTb_in (List.mem_of_getElem? (i := 756) (by decide +kernel)) (by decide +kernel), zTb_in (List.mem_of_getElem? (i := 36) (by decide +kernel)) (by decide +kernel), by decide +kernel, by decide⟩
theorem zv_X7_sheet : zMv yX7_sheet := ⟨zTb_in (List.mem_of_getElem? (i := 754) (by decide +kernel)) (by decide +kernel), zTb_in (List.mem_of_getElem? (i := 755) (by decide +kernel)) (by decide +kernel)⟩
theorem zm_X2_renew : zMe yX2_renew cX2_renew 3 none 2 := ⟨by decide +kernel, zTb_in (List.mem_of_getElem? (i := 760) (by decide +kernel)) (by decide +kernel), zTb_in (List.mem_of_getElem? (i := 43) (by decide +kernel)) (by decide +kernel), by decide +kernel, by decide⟩
theorem zv_X2_renew : zMv yX2_renew := ⟨zTb_in (List.mem_of_getElem? (i := 758) (by decide +kernel)) (by decide +kernel), zTb_in (List.mem_of_getElem? (i := 759) (by decide +kernel)) (by decide +kernel)⟩
theorem zm_J7_fill_d0a16 : zMe yJ7_fill_d0a16 cJ7_fill_d0a16 5 none 2 := ⟨by decide +kernel, zTb_in (List.mem_of_getElem? (i := 763) (by decide +kernel)) (by decide +kernel), zTb_in (List.mem_of_getElem? (i := 52) (by decide +kernel)) (by decide +kernel), by decide +kernel, by decide⟩
theorem zst_J7_fill_d0a16 : Cond.static yJ7_fill_d0a16 ∈ zTb := zTb_in (List.mem_of_getElem? (i := 762) (by decide +kernel)) (by decide +kernel)
theorem zm_X7_drop : zMe yX7_drop cX7_drop 2 (some .int) 1 := ⟨by decide +kernel, zTb_in (List.mem_of_getElem? (i := 767) (by decide +kernel)) (by decide +kernel), zTb_in (List.mem_of_getElem? (i := 36) (by decide +kernel)) (by decide +kernel), by decide +kernel, by decide⟩
theorem zv_X7_drop : zMv yX7_drop := ⟨zTb_in (List.mem_of_getElem? (i := 765) (by decide +kernel)) (by decide +kernel), zTb_in (List.mem_of_getElem? (i := 766) (by decide +kernel)) (by decide +kernel)⟩
theorem zm_X7_item : zMe yX7_item cX7_item 7 (some .int) 4 := ⟨by decide +kernel, zTb_in (List.mem_of_getElem? (i := 771) (by decide +kernel)) (by decide +kernel), zTb_in (List.mem_of_getElem? (i := 36) (by decide +kernel)) (by decide +kernel), by decide +kernel, by decide⟩
theorem zv_X7_item : zMv yX7_item := ⟨zTb_in (List.mem_of_getElem? (i := 769) (by decide +kernel)) (by decide +kernel), zTb_in (List.mem_of_getElem? (i := 770) (by decide +kernel)) (by decide +kernel)⟩
theorem zm_X7_copy : zMe yX7_copy cX7_copy 8 (some .int) 5 := ⟨by decide +kernel, zTb_in (List.mem_of_getElem? (i := 775) (by decide +kernel)) (by decide +kernel), zTb_in (List.mem_of_getElem? (i := 36) (by decide +kernel)) (by decide +kernel), by decide +kernel, by decide⟩
theorem zv_X7_copy : zMv yX7_copy := ⟨zTb_in (List.mem_of_getElem? (i := 773) (by decide +kernel)) (by decide +kernel), zTb_in (List.mem_of_getElem? (i := 774) (by decide +kernel)) (by decide +kernel)⟩
theorem zm_X8_starts : zMe yX8_starts cX8_starts 2 none 0 := ⟨by decide +kernel, zTb_in (List.mem_of_getElem? (i := 786) (by decide +kernel)) (by decide +kernel), zTb_in (List.mem_of_getElem? (i := 44) (by decide +kernel)) (by decide +kernel), by decide +kernel, by decide⟩
theorem zv_X8_starts : zMv yX8_starts := ⟨zTb_in (List.mem_of_getElem? (i := 785) (by decide +kernel)) (by decide +kernel), zTb_in (List.mem_of_getElem? (i := 6) (by decide +kernel)) (by decide +kernel)⟩
theorem zm_X8_thing : zMe yX8_thing cX8_thing 5 (some .int) 4 := ⟨by decide +kernel, zTb_in (List.mem_of_getElem? (i := 881) (by decide +kernel)) (by decide +kernel), zTb_in (List.mem_of_getElem? (i := 44) (by decide +kernel)) (by decide +kernel), by decide +kernel, by decide⟩
theorem zv_X8_thing : zMv yX8_thing := ⟨zTb_in (List.mem_of_getElem? (i := 879) (by decide +kernel)) (by decide +kernel), zTb_in (List.mem_of_getElem? (i := 880) (by decide +kernel)) (by decide +kernel)⟩
theorem zm_X8_in : zMe yX8_in cX8_in 6 (some .boolean) 3 := ⟨by decide +kernel, zTb_in (List.mem_of_getElem? (i := 885) (by decide +kernel)) (by decide +kernel), zTb_in (List.mem_of_getElem? (i := 44) (by decide +kernel)) (by decide +kernel), by decide +kernel, by decide⟩
theorem zst_X8_in : Cond.static yX8_in ∈ zTb := zTb_in (List.mem_of_getElem? (i := 884) (by decide +kernel)) (by decide +kernel)
theorem zm_X8_thingComes : zMe yX8_thingComes cX8_thingComes 5 none 4 := ⟨by decide +kernel, zTb_in (List.mem_of_getElem? (i := 891) (by decide +kernel)) (by decide +kernel), zTb_in (List.mem_of_getElem? (i := 44) (by decide +kernel)) (by decide +kernel), by decide +kernel, by decide⟩
theorem zv_X8_thingComes : zMv yX8_thingComes := ⟨zTb_in (List.mem_of_getElem? (i := 890) (by decide +kernel)) (by decide +kernel), zTb_in (List.mem_of_getElem? (i := 7) (by decide +kernel)) (by decide +kernel)⟩
theorem zm_X8_of : zMe yX8_of cX8_of 3 (some .int) 2 := ⟨by decide +kernel, zTb_in (List.mem_of_getElem? (i := 895) (by decide +kernel)) (by decide +kernel), zTb_in (List.mem_of_getElem? (i := 44) (by decide +kernel)) (by decide +kernel), by decide +kernel, by decide⟩
theorem zv_X8_of : zMv yX8_of := ⟨zTb_in (List.mem_of_getElem? (i := 893) (by decide +kernel)) (by decide +kernel), zTb_in (List.mem_of_getElem? (i := 894) (by decide +kernel)) (by decide +kernel)⟩
theorem zm_X8_isThing : zMe yX8_isThing cX8_isThing 3 (some .boolean) 1 := ⟨by decide +kernel, zTb_in (List.mem_of_getElem? (i := 899) (by decide +kernel)) (by decide +kernel), zTb_in (List.mem_of_getElem? (i := 44) (by decide +kernel)) (by decide +kernel), by decide +kernel, by decide⟩
theorem zv_X8_isThing : zMv yX8_isThing := ⟨zTb_in (List.mem_of_getElem? (i := 898) (by decide +kernel)) (by decide +kernel), zTb_in (List.mem_of_getElem? (i := 8) (by decide +kernel)) (by decide +kernel)⟩
theorem zm_X8_who : zMe yX8_who cX8_who 4 (some .int) 1 := ⟨by decide +kernel, zTb_in (List.mem_of_getElem? (i := 904) (by decide +kernel)) (by decide +kernel), zTb_in (List.mem_of_getElem? (i := 44) (by decide +kernel)) (by decide +kernel), by decide +kernel, by decide⟩
theorem zv_X8_who : zMv yX8_who := ⟨zTb_in (List.mem_of_getElem? (i := 903) (by decide +kernel)) (by decide +kernel), zTb_in (List.mem_of_getElem? (i := 9) (by decide +kernel)) (by decide +kernel)⟩
theorem zm_X8_felt : zMe yX8_felt cX8_felt 4 (some .int) 3 := ⟨by decide +kernel, zTb_in (List.mem_of_getElem? (i := 908) (by decide +kernel)) (by decide +kernel), zTb_in (List.mem_of_getElem? (i := 44) (by decide +kernel)) (by decide +kernel), by decide +kernel, by decide⟩
theorem zv_X8_felt : zMv yX8_felt := ⟨zTb_in (List.mem_of_getElem? (i := 906) (by decide +kernel)) (by decide +kernel), zTb_in (List.mem_of_getElem? (i := 907) (by decide +kernel)) (by decide +kernel)⟩
theorem zm_X8_feels : zMe yX8_feels cX8_feels 5 (some .int) 3 := ⟨by decide +kernel, zTb_in (List.mem_of_getElem? (i := 912) (by decide +kernel)) (by decide +kernel), zTb_in (List.mem_of_getElem? (i := 44) (by decide +kernel)) (by decide +kernel), by decide +kernel, by decide⟩
theorem zv_X8_feels : zMv yX8_feels := ⟨zTb_in (List.mem_of_getElem? (i := 911) (by decide +kernel)) (by decide +kernel), zTb_in (List.mem_of_getElem? (i := 10) (by decide +kernel)) (by decide +kernel)⟩
theorem zm_X8_person : zMe yX8_person cX8_person 4 (some .int) 3 := ⟨by decide +kernel, zTb_in (List.mem_of_getElem? (i := 916) (by decide +kernel)) (by decide +kernel), zTb_in (List.mem_of_getElem? (i := 44) (by decide +kernel)) (by decide +kernel), by decide +kernel, by decide⟩
theorem zv_X8_person : zMv yX8_person := ⟨zTb_in (List.mem_of_getElem? (i := 914) (by decide +kernel)) (by decide +kernel), zTb_in (List.mem_of_getElem? (i := 915) (by decide +kernel)) (by decide +kernel)⟩
theorem zm_X8_personComes : zMe yX8_personComes cX8_personComes 4 none 3 := ⟨by decide +kernel, zTb_in (List.mem_of_getElem? (i := 922) (by decide +kernel)) (by decide +kernel), zTb_in (List.mem_of_getElem? (i := 44) (by decide +kernel)) (by decide +kernel), by decide +kernel, by decide⟩
theorem zv_X8_personComes : zMv yX8_personComes := ⟨zTb_in (List.mem_of_getElem? (i := 921) (by decide +kernel)) (by decide +kernel), zTb_in (List.mem_of_getElem? (i := 11) (by decide +kernel)) (by decide +kernel)⟩
theorem zm_X8_told : zMe yX8_told cX8_told 3 (some .int) 2 := ⟨by decide +kernel, zTb_in (List.mem_of_getElem? (i := 926) (by decide +kernel)) (by decide +kernel), zTb_in (List.mem_of_getElem? (i := 44) (by decide +kernel)) (by decide +kernel), by decide +kernel, by decide⟩
theorem zv_X8_told : zMv yX8_told := ⟨zTb_in (List.mem_of_getElem? (i := 924) (by decide +kernel)) (by decide +kernel), zTb_in (List.mem_of_getElem? (i := 925) (by decide +kernel)) (by decide +kernel)⟩
theorem zm_X8_isPerson : zMe yX8_isPerson cX8_isPerson 2 (some .boolean) 1 := ⟨by decide +kernel, zTb_in (List.mem_of_getElem? (i := 930) (by decide +kernel)) (by decide +kernel), zTb_in (List.mem_of_getElem? (i := 44) (by decide +kernel)) (by decide +kernel), by decide +kernel, by decide⟩
theorem zv_X8_isPerson : zMv yX8_isPerson := ⟨zTb_in (List.mem_of_getElem? (i := 929) (by decide +kernel)) (by decide +kernel), zTb_in (List.mem_of_getElem? (i := 12) (by decide +kernel)) (by decide +kernel)⟩
theorem zm_X8_move : zMe yX8_move cX8_move 4 (some .int) 2 := ⟨by decide +kernel, zTb_in (List.mem_of_getElem? (i := 935) (by decide +kernel)) (by decide +kernel), zTb_in (List.mem_of_getElem? (i := 44) (by decide +kernel)) (by decide +kernel), by decide +kernel, by decide⟩
theorem zv_X8_move : zMv yX8_move := ⟨zTb_in (List.mem_of_getElem? (i := 933) (by decide +kernel)) (by decide +kernel), zTb_in (List.mem_of_getElem? (i := 934) (by decide +kernel)) (by decide +kernel)⟩
theorem zm_X8_take : zMe yX8_take cX8_take 3 (some .int) 1 := ⟨by decide +kernel, zTb_in (List.mem_of_getElem? (i := 939) (by decide +kernel)) (by decide +kernel), zTb_in (List.mem_of_getElem? (i := 44) (by decide +kernel)) (by decide +kernel), by decide +kernel, by decide⟩
theorem zv_X8_take : zMv yX8_take := ⟨zTb_in (List.mem_of_getElem? (i := 937) (by decide +kernel)) (by decide +kernel), zTb_in (List.mem_of_getElem? (i := 938) (by decide +kernel)) (by decide +kernel)⟩
theorem zm_X8_count : zMe yX8_count cX8_count 2 (some .int) 1 := ⟨by decide +kernel, zTb_in (List.mem_of_getElem? (i := 943) (by decide +kernel)) (by decide +kernel), zTb_in (List.mem_of_getElem? (i := 44) (by decide +kernel)) (by decide +kernel), by decide +kernel, by decide⟩
theorem zv_X8_count : zMv yX8_count := ⟨zTb_in (List.mem_of_getElem? (i := 941) (by decide +kernel)) (by decide +kernel), zTb_in (List.mem_of_getElem? (i := 942) (by decide +kernel)) (by decide +kernel)⟩
theorem zm_X8_heed : zMe yX8_heed cX8_heed 3 (some .int) 1 := ⟨by decide +kernel, zTb_in (List.mem_of_getElem? (i := 947) (by decide +kernel)) (by decide +kernel), zTb_in (List.mem_of_getElem? (i := 44) (by decide +kernel)) (by decide +kernel), by decide +kernel, by decide⟩
theorem zv_X8_heed : zMv yX8_heed := ⟨zTb_in (List.mem_of_getElem? (i := 945) (by decide +kernel)) (by decide +kernel), zTb_in (List.mem_of_getElem? (i := 946) (by decide +kernel)) (by decide +kernel)⟩
theorem zm_X8_well : zMe yX8_well cX8_well 3 (some .int) 1 := ⟨by decide +kernel, zTb_in (List.mem_of_getElem? (i := 951) (by decide +kernel)) (by decide +kernel), zTb_in (List.mem_of_getElem? (i := 44) (by decide +kernel)) (by decide +kernel), by decide +kernel, by decide⟩
theorem zv_X8_well : zMv yX8_well := ⟨zTb_in (List.mem_of_getElem? (i := 949) (by decide +kernel)) (by decide +kernel), zTb_in (List.mem_of_getElem? (i := 950) (by decide +kernel)) (by decide +kernel)⟩
theorem zm_X8_type : zMe yX8_type cX8_type 2 (some .int) 1 := ⟨by decide +kernel, zTb_in (List.mem_of_getElem? (i := 955) (by decide +kernel)) (by decide +kernel), zTb_in (List.mem_of_getElem? (i := 44) (by decide +kernel)) (by decide +kernel), by decide +kernel, by decide⟩
theorem zv_X8_type : zMv yX8_type := ⟨zTb_in (List.mem_of_getElem? (i := 953) (by decide +kernel)) (by decide +kernel), zTb_in (List.mem_of_getElem? (i := 954) (by decide +kernel)) (by decide +kernel)⟩
theorem zm_X8_road : zMe yX8_road cX8_road 3 (some .int) 0 := ⟨by decide +kernel, zTb_in (List.mem_of_getElem? (i := 961) (by decide +kernel)) (by decide +kernel), zTb_in (List.mem_of_getElem? (i := 44) (by decide +kernel)) (by decide +kernel), by decide +kernel, by decide⟩
theorem zv_X8_road : zMv yX8_road := ⟨zTb_in (List.mem_of_getElem? (i := 959) (by decide +kernel)) (by decide +kernel), zTb_in (List.mem_of_getElem? (i := 960) (by decide +kernel)) (by decide +kernel)⟩
theorem zm_X8_readThing : zMe yX8_readThing cX8_readThing 3 none 0 := ⟨by decide +kernel, zTb_in (List.mem_of_getElem? (i := 965) (by decide +kernel)) (by decide +kernel), zTb_in (List.mem_of_getElem? (i := 44) (by decide +kernel)) (by decide +kernel), by decide +kernel, by decide⟩
theorem zv_X8_readThing : zMv yX8_readThing := ⟨zTb_in (List.mem_of_getElem? (i := 964) (by decide +kernel)) (by decide +kernel), zTb_in (List.mem_of_getElem? (i := 13) (by decide +kernel)) (by decide +kernel)⟩
theorem zm_X8_here : zMe yX8_here cX8_here 1 (some .int) 0 := ⟨by decide +kernel, zTb_in (List.mem_of_getElem? (i := 969) (by decide +kernel)) (by decide +kernel), zTb_in (List.mem_of_getElem? (i := 44) (by decide +kernel)) (by decide +kernel), by decide +kernel, by decide⟩
theorem zv_X8_here : zMv yX8_here := ⟨zTb_in (List.mem_of_getElem? (i := 968) (by decide +kernel)) (by decide +kernel), zTb_in (List.mem_of_getElem? (i := 14) (by decide +kernel)) (by decide +kernel)⟩
theorem zm_X8_number : zMe yX8_number cX8_number 4 (some .int) 1 := ⟨by decide +kernel, zTb_in (List.mem_of_getElem? (i := 973) (by decide +kernel)) (by decide +kernel), zTb_in (List.mem_of_getElem? (i := 44) (by decide +kernel)) (by decide +kernel), by decide +kernel, by decide⟩
theorem zv_X8_number : zMv yX8_number := ⟨zTb_in (List.mem_of_getElem? (i := 972) (by decide +kernel)) (by decide +kernel), zTb_in (List.mem_of_getElem? (i := 15) (by decide +kernel)) (by decide +kernel)⟩
theorem zm_X8_has : zMe yX8_has cX8_has 3 (some .boolean) 1 := ⟨by decide +kernel, zTb_in (List.mem_of_getElem? (i := 979) (by decide +kernel)) (by decide +kernel), zTb_in (List.mem_of_getElem? (i := 44) (by decide +kernel)) (by decide +kernel), by decide +kernel, by decide⟩
theorem zv_X8_has : zMv yX8_has := ⟨zTb_in (List.mem_of_getElem? (i := 978) (by decide +kernel)) (by decide +kernel), zTb_in (List.mem_of_getElem? (i := 16) (by decide +kernel)) (by decide +kernel)⟩
theorem zm_X8_readPerson : zMe yX8_readPerson cX8_readPerson 2 none 0 := ⟨by decide +kernel, zTb_in (List.mem_of_getElem? (i := 983) (by decide +kernel)) (by decide +kernel), zTb_in (List.mem_of_getElem? (i := 44) (by decide +kernel)) (by decide +kernel), by decide +kernel, by decide⟩
theorem zv_X8_readPerson : zMv yX8_readPerson := ⟨zTb_in (List.mem_of_getElem? (i := 982) (by decide +kernel)) (by decide +kernel), zTb_in (List.mem_of_getElem? (i := 17) (by decide +kernel)) (by decide +kernel)⟩
theorem zm_X8_readHad : zMe yX8_readHad cX8_readHad 3 (some .int) 0 := ⟨by decide +kernel, zTb_in (List.mem_of_getElem? (i := 987) (by decide +kernel)) (by decide +kernel), zTb_in (List.mem_of_getElem? (i := 44) (by decide +kernel)) (by decide +kernel), by decide +kernel, by decide⟩
theorem zv_X8_readHad : zMv yX8_readHad := ⟨zTb_in (List.mem_of_getElem? (i := 986) (by decide +kernel)) (by decide +kernel), zTb_in (List.mem_of_getElem? (i := 18) (by decide +kernel)) (by decide +kernel)⟩
theorem zm_X8_go : zMe yX8_go cX8_go 2 (some .int) 0 := ⟨by decide +kernel, zTb_in (List.mem_of_getElem? (i := 991) (by decide +kernel)) (by decide +kernel), zTb_in (List.mem_of_getElem? (i := 44) (by decide +kernel)) (by decide +kernel), by decide +kernel, by decide⟩
theorem zv_X8_go : zMv yX8_go := ⟨zTb_in (List.mem_of_getElem? (i := 989) (by decide +kernel)) (by decide +kernel), zTb_in (List.mem_of_getElem? (i := 990) (by decide +kernel)) (by decide +kernel)⟩
theorem zm_X8_notes : zMe yX8_notes cX8_notes 2 none 0 := ⟨by decide +kernel, zTb_in (List.mem_of_getElem? (i := 995) (by decide +kernel)) (by decide +kernel), zTb_in (List.mem_of_getElem? (i := 44) (by decide +kernel)) (by decide +kernel), by decide +kernel, by decide⟩
theorem zv_X8_notes : zMv yX8_notes := ⟨zTb_in (List.mem_of_getElem? (i := 994) (by decide +kernel)) (by decide +kernel), zTb_in (List.mem_of_getElem? (i := 19) (by decide +kernel)) (by decide +kernel)⟩
theorem zm_X8_goesOn : zMe yX8_goesOn cX8_goesOn 3 none 0 := ⟨by decide +kernel, zTb_in (List.mem_of_getElem? (i := 999) (by decide +kernel)) (by decide +kernel), zTb_in (List.mem_of_getElem? (i := 44) (by decide +kernel)) (by decide +kernel), by decide +kernel, by decide⟩
theorem zv_X8_goesOn : zMv yX8_goesOn := ⟨zTb_in (List.mem_of_getElem? (i := 998) (by decide +kernel)) (by decide +kernel), zTb_in (List.mem_of_getElem? (i := 20) (by decide +kernel)) (by decide +kernel)⟩
theorem zm_X8_own : zMe yX8_own cX8_own 2 (some .int) 1 := ⟨by decide +kernel, zTb_in (List.mem_of_getElem? (i := 1003) (by decide +kernel)) (by decide +kernel), zTb_in (List.mem_of_getElem? (i := 44) (by decide +kernel)) (by decide +kernel), by decide +kernel, by decide⟩
theorem zv_X8_own : zMv yX8_own := ⟨zTb_in (List.mem_of_getElem? (i := 1002) (by decide +kernel)) (by decide +kernel), zTb_in (List.mem_of_getElem? (i := 21) (by decide +kernel)) (by decide +kernel)⟩
theorem zm_X8_care : zMe yX8_care cX8_care 3 (some .int) 2 := ⟨by decide +kernel, zTb_in (List.mem_of_getElem? (i := 1007) (by decide +kernel)) (by decide +kernel), zTb_in (List.mem_of_getElem? (i := 44) (by decide +kernel)) (by decide +kernel), by decide +kernel, by decide⟩
theorem zv_X8_care : zMv yX8_care := ⟨zTb_in (List.mem_of_getElem? (i := 1006) (by decide +kernel)) (by decide +kernel), zTb_in (List.mem_of_getElem? (i := 22) (by decide +kernel)) (by decide +kernel)⟩
theorem zm_X8_asks : zMe yX8_asks cX8_asks 4 none 2 := ⟨by decide +kernel, zTb_in (List.mem_of_getElem? (i := 1011) (by decide +kernel)) (by decide +kernel), zTb_in (List.mem_of_getElem? (i := 44) (by decide +kernel)) (by decide +kernel), by decide +kernel, by decide⟩
theorem zv_X8_asks : zMv yX8_asks := ⟨zTb_in (List.mem_of_getElem? (i := 1010) (by decide +kernel)) (by decide +kernel), zTb_in (List.mem_of_getElem? (i := 23) (by decide +kernel)) (by decide +kernel)⟩
theorem zm_X8_isGlad : zMe yX8_isGlad cX8_isGlad 2 (some .boolean) 1 := ⟨by decide +kernel, zTb_in (List.mem_of_getElem? (i := 1015) (by decide +kernel)) (by decide +kernel), zTb_in (List.mem_of_getElem? (i := 44) (by decide +kernel)) (by decide +kernel), by decide +kernel, by decide⟩
theorem zv_X8_isGlad : zMv yX8_isGlad := ⟨zTb_in (List.mem_of_getElem? (i := 1014) (by decide +kernel)) (by decide +kernel), zTb_in (List.mem_of_getElem? (i := 24) (by decide +kernel)) (by decide +kernel)⟩
theorem zm_X8_worth : zMe yX8_worth cX8_worth 2 (some .int) 1 := ⟨by decide +kernel, zTb_in (List.mem_of_getElem? (i := 1019) (by decide +kernel)) (by decide +kernel), zTb_in (List.mem_of_getElem? (i := 44) (by decide +kernel)) (by decide +kernel), by decide +kernel, by decide⟩
theorem zv_X8_worth : zMv yX8_worth := ⟨zTb_in (List.mem_of_getElem? (i := 1018) (by decide +kernel)) (by decide +kernel), zTb_in (List.mem_of_getElem? (i := 25) (by decide +kernel)) (by decide +kernel)⟩
theorem zm_X8_undo : zMe yX8_undo cX8_undo 2 (some .int) 0 := ⟨by decide +kernel, zTb_in (List.mem_of_getElem? (i := 1023) (by decide +kernel)) (by decide +kernel), zTb_in (List.mem_of_getElem? (i := 44) (by decide +kernel)) (by decide +kernel), by decide +kernel, by decide⟩
theorem zv_X8_undo : zMv yX8_undo := ⟨zTb_in (List.mem_of_getElem? (i := 1021) (by decide +kernel)) (by decide +kernel), zTb_in (List.mem_of_getElem? (i := 1022) (by decide +kernel)) (by decide +kernel)⟩
theorem zm_X8_again : zMe yX8_again cX8_again 2 (some .int) 0 := ⟨by decide +kernel, zTb_in (List.mem_of_getElem? (i := 1027) (by decide +kernel)) (by decide +kernel), zTb_in (List.mem_of_getElem? (i := 44) (by decide +kernel)) (by decide +kernel), by decide +kernel, by decide⟩
theorem zv_X8_again : zMv yX8_again := ⟨zTb_in (List.mem_of_getElem? (i := 1025) (by decide +kernel)) (by decide +kernel), zTb_in (List.mem_of_getElem? (i := 1026) (by decide +kernel)) (by decide +kernel)⟩
theorem zm_X8_glad : zMe yX8_glad cX8_glad 2 (some .int) 1 := ⟨by decide +kernel, zTb_in (List.mem_of_getElem? (i := 1031) (by decide +kernel)) (by decide +kernel), zTb_in (List.mem_of_getElem? (i := 44) (by decide +kernel)) (by decide +kernel), by decide +kernel, by decide⟩
theorem zv_X8_glad : zMv yX8_glad := ⟨zTb_in (List.mem_of_getElem? (i := 1029) (by decide +kernel)) (by decide +kernel), zTb_in (List.mem_of_getElem? (i := 1030) (by decide +kernel)) (by decide +kernel)⟩
theorem zm_X8_home : zMe yX8_home cX8_home 3 (some .int) 1 := ⟨by decide +kernel, zTb_in (List.mem_of_getElem? (i := 1035) (by decide +kernel)) (by decide +kernel), zTb_in (List.mem_of_getElem? (i := 44) (by decide +kernel)) (by decide +kernel), by decide +kernel, by decide⟩
theorem zv_X8_home : zMv yX8_home := ⟨zTb_in (List.mem_of_getElem? (i := 1033) (by decide +kernel)) (by decide +kernel), zTb_in (List.mem_of_getElem? (i := 1034) (by decide +kernel)) (by decide +kernel)⟩
theorem zm_X8_asides : zMe yX8_asides cX8_asides 2 none 0 := ⟨by decide +kernel, zTb_in (List.mem_of_getElem? (i := 1039) (by decide +kernel)) (by decide +kernel), zTb_in (List.mem_of_getElem? (i := 44) (by decide +kernel)) (by decide +kernel), by decide +kernel, by decide⟩
theorem zv_X8_asides : zMv yX8_asides := ⟨zTb_in (List.mem_of_getElem? (i := 1038) (by decide +kernel)) (by decide +kernel), zTb_in (List.mem_of_getElem? (i := 26) (by decide +kernel)) (by decide +kernel)⟩
theorem zm_X8_goesHome : zMe yX8_goesHome cX8_goesHome 1 none 0 := ⟨by decide +kernel, zTb_in (List.mem_of_getElem? (i := 1043) (by decide +kernel)) (by decide +kernel), zTb_in (List.mem_of_getElem? (i := 44) (by decide +kernel)) (by decide +kernel), by decide +kernel, by decide⟩
theorem zv_X8_goesHome : zMv yX8_goesHome := ⟨zTb_in (List.mem_of_getElem? (i := 1042) (by decide +kernel)) (by decide +kernel), zTb_in (List.mem_of_getElem? (i := 27) (by decide +kernel)) (by decide +kernel)⟩
theorem zm_X8_backs : zMe yX8_backs cX8_backs 2 none 0 := ⟨by decide +kernel, zTb_in (List.mem_of_getElem? (i := 1047) (by decide +kernel)) (by decide +kernel), zTb_in (List.mem_of_getElem? (i := 44) (by decide +kernel)) (by decide +kernel), by decide +kernel, by decide⟩
theorem zv_X8_backs : zMv yX8_backs := ⟨zTb_in (List.mem_of_getElem? (i := 1046) (by decide +kernel)) (by decide +kernel), zTb_in (List.mem_of_getElem? (i := 28) (by decide +kernel)) (by decide +kernel)⟩
theorem zm_X8_lost : zMe yX8_lost cX8_lost 2 (some .int) 0 := ⟨by decide +kernel, zTb_in (List.mem_of_getElem? (i := 1051) (by decide +kernel)) (by decide +kernel), zTb_in (List.mem_of_getElem? (i := 44) (by decide +kernel)) (by decide +kernel), by decide +kernel, by decide⟩
theorem zv_X8_lost : zMv yX8_lost := ⟨zTb_in (List.mem_of_getElem? (i := 1049) (by decide +kernel)) (by decide +kernel), zTb_in (List.mem_of_getElem? (i := 1050) (by decide +kernel)) (by decide +kernel)⟩
theorem zm_X8_lurk : zMe yX8_lurk cX8_lurk 9 (some .int) 2 := ⟨by decide +kernel, zTb_in (List.mem_of_getElem? (i := 1055) (by decide +kernel)) (by decide +kernel), zTb_in (List.mem_of_getElem? (i := 44) (by decide +kernel)) (by decide +kernel), by decide +kernel, by decide⟩
theorem zv_X8_lurk : zMv yX8_lurk := ⟨zTb_in (List.mem_of_getElem? (i := 1053) (by decide +kernel)) (by decide +kernel), zTb_in (List.mem_of_getElem? (i := 1054) (by decide +kernel)) (by decide +kernel)⟩
theorem zm_X8_stand : zMe yX8_stand cX8_stand 8 (some .int) 2 := ⟨by decide +kernel, zTb_in (List.mem_of_getElem? (i := 1059) (by decide +kernel)) (by decide +kernel), zTb_in (List.mem_of_getElem? (i := 44) (by decide +kernel)) (by decide +kernel), by decide +kernel, by decide⟩
theorem zv_X8_stand : zMv yX8_stand := ⟨zTb_in (List.mem_of_getElem? (i := 1057) (by decide +kernel)) (by decide +kernel), zTb_in (List.mem_of_getElem? (i := 1058) (by decide +kernel)) (by decide +kernel)⟩
theorem zm_X8_sister : zMe yX8_sister cX8_sister 4 (some .int) 2 := ⟨by decide +kernel, zTb_in (List.mem_of_getElem? (i := 1063) (by decide +kernel)) (by decide +kernel), zTb_in (List.mem_of_getElem? (i := 44) (by decide +kernel)) (by decide +kernel), by decide +kernel, by decide⟩
theorem zv_X8_sister : zMv yX8_sister := ⟨zTb_in (List.mem_of_getElem? (i := 1061) (by decide +kernel)) (by decide +kernel), zTb_in (List.mem_of_getElem? (i := 1062) (by decide +kernel)) (by decide +kernel)⟩
theorem zm_X8_sisters : zMe yX8_sisters cX8_sisters 13 (some .int) 2 := ⟨by decide +kernel, zTb_in (List.mem_of_getElem? (i := 1067) (by decide +kernel)) (by decide +kernel), zTb_in (List.mem_of_getElem? (i := 44) (by decide +kernel)) (by decide +kernel), by decide +kernel, by decide⟩
theorem zv_X8_sisters : zMv yX8_sisters := ⟨zTb_in (List.mem_of_getElem? (i := 1066) (by decide +kernel)) (by decide +kernel), zTb_in (List.mem_of_getElem? (i := 29) (by decide +kernel)) (by decide +kernel)⟩
theorem zm_X8_meet : zMe yX8_meet cX8_meet 6 (some .int) 2 := ⟨by decide +kernel, zTb_in (List.mem_of_getElem? (i := 1071) (by decide +kernel)) (by decide +kernel), zTb_in (List.mem_of_getElem? (i := 44) (by decide +kernel)) (by decide +kernel), by decide +kernel, by decide⟩
theorem zv_X8_meet : zMv yX8_meet := ⟨zTb_in (List.mem_of_getElem? (i := 1069) (by decide +kernel)) (by decide +kernel), zTb_in (List.mem_of_getElem? (i := 1070) (by decide +kernel)) (by decide +kernel)⟩
theorem zm_X8_turns : zMe yX8_turns cX8_turns 8 (some .boolean) 2 := ⟨by decide +kernel, zTb_in (List.mem_of_getElem? (i := 1075) (by decide +kernel)) (by decide +kernel), zTb_in (List.mem_of_getElem? (i := 44) (by decide +kernel)) (by decide +kernel), by decide +kernel, by decide⟩
theorem zv_X8_turns : zMv yX8_turns := ⟨zTb_in (List.mem_of_getElem? (i := 1074) (by decide +kernel)) (by decide +kernel), zTb_in (List.mem_of_getElem? (i := 30) (by decide +kernel)) (by decide +kernel)⟩
theorem zm_X8_first : zMe yX8_first cX8_first 4 (some .int) 1 := ⟨by decide +kernel, zTb_in (List.mem_of_getElem? (i := 1079) (by decide +kernel)) (by decide +kernel), zTb_in (List.mem_of_getElem? (i := 44) (by decide +kernel)) (by decide +kernel), by decide +kernel, by decide⟩
theorem zv_X8_first : zMv yX8_first := ⟨zTb_in (List.mem_of_getElem? (i := 1077) (by decide +kernel)) (by decide +kernel), zTb_in (List.mem_of_getElem? (i := 1078) (by decide +kernel)) (by decide +kernel)⟩
theorem zm_X8_cheated : zMe yX8_cheated cX8_cheated 8 (some .int) 1 := ⟨by decide +kernel, zTb_in (List.mem_of_getElem? (i := 1083) (by decide +kernel)) (by decide +kernel), zTb_in (List.mem_of_getElem? (i := 44) (by decide +kernel)) (by decide +kernel), by decide +kernel, by decide⟩
theorem zv_X8_cheated : zMv yX8_cheated := ⟨zTb_in (List.mem_of_getElem? (i := 1081) (by decide +kernel)) (by decide +kernel), zTb_in (List.mem_of_getElem? (i := 1082) (by decide +kernel)) (by decide +kernel)⟩
theorem zm_X8_chance : zMe yX8_chance cX8_chance 6 (some .int) 2 := ⟨by decide +kernel, zTb_in (List.mem_of_getElem? (i := 1089) (by decide +kernel)) (by decide +kernel), zTb_in (List.mem_of_getElem? (i := 44) (by decide +kernel)) (by decide +kernel), by decide +kernel, by decide⟩
theorem zv_X8_chance : zMv yX8_chance := ⟨zTb_in (List.mem_of_getElem? (i := 1087) (by decide +kernel)) (by decide +kernel), zTb_in (List.mem_of_getElem? (i := 1088) (by decide +kernel)) (by decide +kernel)⟩
theorem zm_X8_image : zMe yX8_image cX8_image 2 (some .int) 0 := ⟨by decide +kernel, zTb_in (List.mem_of_getElem? (i := 1093) (by decide +kernel)) (by decide +kernel), zTb_in (List.mem_of_getElem? (i := 44) (by decide +kernel)) (by decide +kernel), by decide +kernel, by decide⟩
theorem zv_X8_image : zMv yX8_image := ⟨zTb_in (List.mem_of_getElem? (i := 1091) (by decide +kernel)) (by decide +kernel), zTb_in (List.mem_of_getElem? (i := 1092) (by decide +kernel)) (by decide +kernel)⟩
theorem zm_X8_notesRow : zMe yX8_notesRow cX8_notesRow 4 (some .int) 2 := ⟨by decide +kernel, zTb_in (List.mem_of_getElem? (i := 1097) (by decide +kernel)) (by decide +kernel), zTb_in (List.mem_of_getElem? (i := 44) (by decide +kernel)) (by decide +kernel), by decide +kernel, by decide⟩
theorem zv_X8_notesRow : zMv yX8_notesRow := ⟨zTb_in (List.mem_of_getElem? (i := 1096) (by decide +kernel)) (by decide +kernel), zTb_in (List.mem_of_getElem? (i := 31) (by decide +kernel)) (by decide +kernel)⟩
theorem zm_X8_restore : zMe yX8_restore cX8_restore 2 (some .int) 0 := ⟨by decide +kernel, zTb_in (List.mem_of_getElem? (i := 1101) (by decide +kernel)) (by decide +kernel), zTb_in (List.mem_of_getElem? (i := 44) (by decide +kernel)) (by decide +kernel), by decide +kernel, by decide⟩
theorem zv_X8_restore : zMv yX8_restore := ⟨zTb_in (List.mem_of_getElem? (i := 1099) (by decide +kernel)) (by decide +kernel), zTb_in (List.mem_of_getElem? (i := 1100) (by decide +kernel)) (by decide +kernel)⟩
theorem zm_X8_gives : zMe yX8_gives cX8_gives 4 (some .int) 2 := ⟨by decide +kernel, zTb_in (List.mem_of_getElem? (i := 1105) (by decide +kernel)) (by decide +kernel), zTb_in (List.mem_of_getElem? (i := 44) (by decide +kernel)) (by decide +kernel), by decide +kernel, by decide⟩
theorem zv_X8_gives : zMv yX8_gives := ⟨zTb_in (List.mem_of_getElem? (i := 1104) (by decide +kernel)) (by decide +kernel), zTb_in (List.mem_of_getElem? (i := 32) (by decide +kernel)) (by decide +kernel)⟩
theorem zm_X8_seen : zMe yX8_seen cX8_seen 10 (some .int) 4 := ⟨by decide +kernel, zTb_in (List.mem_of_getElem? (i := 1109) (by decide +kernel)) (by decide +kernel), zTb_in (List.mem_of_getElem? (i := 44) (by decide +kernel)) (by decide +kernel), by decide +kernel, by decide⟩
theorem zv_X8_seen : zMv yX8_seen := ⟨zTb_in (List.mem_of_getElem? (i := 1107) (by decide +kernel)) (by decide +kernel), zTb_in (List.mem_of_getElem? (i := 1108) (by decide +kernel)) (by decide +kernel)⟩
theorem zm_X8_isSheet : zMe yX8_isSheet cX8_isSheet 1 (some .boolean) 1 := ⟨by decide +kernel, zTb_in (List.mem_of_getElem? (i := 1112) (by decide +kernel)) (by decide +kernel), zTb_in (List.mem_of_getElem? (i := 44) (by decide +kernel)) (by decide +kernel), by decide +kernel, by decide⟩
theorem zst_X8_isSheet : Cond.static yX8_isSheet ∈ zTb := zTb_in (List.mem_of_getElem? (i := 1111) (by decide +kernel)) (by decide +kernel)
theorem zm_X8_isLane : zMe yX8_isLane cX8_isLane 1 (some .boolean) 1 := ⟨by decide +kernel, zTb_in (List.mem_of_getElem? (i := 1115) (by decide +kernel)) (by decide +kernel), zTb_in (List.mem_of_getElem? (i := 44) (by decide +kernel)) (by decide +kernel), by decide +kernel, by decide⟩
theorem zst_X8_isLane : Cond.static yX8_isLane ∈ zTb := zTb_in (List.mem_of_getElem? (i := 1114) (by decide +kernel)) (by decide +kernel)
theorem zm_X8_why : zMe yX8_why cX8_why 5 (some .int) 4 := ⟨by decide +kernel, zTb_in (List.mem_of_getElem? (i := 1120) (by decide +kernel)) (by decide +kernel), zTb_in (List.mem_of_getElem? (i := 44) (by decide +kernel)) (by decide +kernel), by decide +kernel, by decide⟩
theorem zv_X8_why : zMv yX8_why := ⟨zTb_in (List.mem_of_getElem? (i := 1119) (by decide +kernel)) (by decide +kernel), zTb_in (List.mem_of_getElem? (i := 33) (by decide +kernel)) (by decide +kernel)⟩
theorem zm_X8_film : zMe yX8_film cX8_film 7 (some .int) 3 := ⟨by decide +kernel, zTb_in (List.mem_of_getElem? (i := 1124) (by decide +kernel)) (by decide +kernel), zTb_in (List.mem_of_getElem? (i := 44) (by decide +kernel)) (by decide +kernel), by decide +kernel, by decide⟩
theorem zv_X8_film : zMv yX8_film := ⟨zTb_in (List.mem_of_getElem? (i := 1122) (by decide +kernel)) (by decide +kernel), zTb_in (List.mem_of_getElem? (i := 1123) (by decide +kernel)) (by decide +kernel)⟩
theorem zm_X8_puts : zMe yX8_puts cX8_puts 6 none 3 := ⟨by decide +kernel, zTb_in (List.mem_of_getElem? (i := 1128) (by decide +kernel)) (by decide +kernel), zTb_in (List.mem_of_getElem? (i := 44) (by decide +kernel)) (by decide +kernel), by decide +kernel, by decide⟩
theorem zv_X8_puts : zMv yX8_puts := ⟨zTb_in (List.mem_of_getElem? (i := 1127) (by decide +kernel)) (by decide +kernel), zTb_in (List.mem_of_getElem? (i := 34) (by decide +kernel)) (by decide +kernel)⟩
theorem zm_X8_deal : zMe yX8_deal cX8_deal 9 (some .int) 3 := ⟨by decide +kernel, zTb_in (List.mem_of_getElem? (i := 1132) (by decide +kernel)) (by decide +kernel), zTb_in (List.mem_of_getElem? (i := 44) (by decide +kernel)) (by decide +kernel), by decide +kernel, by decide⟩
theorem zv_X8_deal : zMv yX8_deal := ⟨zTb_in (List.mem_of_getElem? (i := 1130) (by decide +kernel)) (by decide +kernel), zTb_in (List.mem_of_getElem? (i := 1131) (by decide +kernel)) (by decide +kernel)⟩
theorem zm_X8_sheet : zMe yX8_sheet cX8_sheet 5 (some .int) 3 := ⟨by decide +kernel, zTb_in (List.mem_of_getElem? (i := 1136) (by decide +kernel)) (by decide +kernel), zTb_in (List.mem_of_getElem? (i := 44) (by decide +kernel)) (by decide +kernel), by decide +kernel, by decide⟩
theorem zv_X8_sheet : zMv yX8_sheet := ⟨zTb_in (List.mem_of_getElem? (i := 1134) (by decide +kernel)) (by decide +kernel), zTb_in (List.mem_of_getElem? (i := 1135) (by decide +kernel)) (by decide +kernel)⟩
theorem zm_X8_drop : zMe yX8_drop cX8_drop 2 (some .int) 1 := ⟨by decide +kernel, zTb_in (List.mem_of_getElem? (i := 1140) (by decide +kernel)) (by decide +kernel), zTb_in (List.mem_of_getElem? (i := 44) (by decide +kernel)) (by decide +kernel), by decide +kernel, by decide⟩
theorem zv_X8_drop : zMv yX8_drop := ⟨zTb_in (List.mem_of_getElem? (i := 1138) (by decide +kernel)) (by decide +kernel), zTb_in (List.mem_of_getElem? (i := 1139) (by decide +kernel)) (by decide +kernel)⟩
theorem zm_X8_item : zMe yX8_item cX8_item 7 (some .int) 4 := ⟨by decide +kernel, zTb_in (List.mem_of_getElem? (i := 1144) (by decide +kernel)) (by decide +kernel), zTb_in (List.mem_of_getElem? (i := 44) (by decide +kernel)) (by decide +kernel), by decide +kernel, by decide⟩
theorem zv_X8_item : zMv yX8_item := ⟨zTb_in (List.mem_of_getElem? (i := 1142) (by decide +kernel)) (by decide +kernel), zTb_in (List.mem_of_getElem? (i := 1143) (by decide +kernel)) (by decide +kernel)⟩
theorem zm_X8_copy : zMe yX8_copy cX8_copy 7 (some .int) 5 := ⟨by decide +kernel, zTb_in (List.mem_of_getElem? (i := 1148) (by decide +kernel)) (by decide +kernel), zTb_in (List.mem_of_getElem? (i := 44) (by decide +kernel)) (by decide +kernel), by decide +kernel, by decide⟩
theorem zv_X8_copy : zMv yX8_copy := ⟨zTb_in (List.mem_of_getElem? (i := 1146) (by decide +kernel)) (by decide +kernel), zTb_in (List.mem_of_getElem? (i := 1147) (by decide +kernel)) (by decide +kernel)⟩
theorem ml_L_13 : Cond.methodLink RL 13 yX7_thing ∈ zTb := zTb_in (List.mem_of_getElem? (i := 310) (by decide +kernel)) (by decide +kernel)
theorem ml_X7_40 : Cond.methodLink RX7 40 yX7_isNot ∈ zTb := zTb_in (List.mem_of_getElem? (i := 314) (by decide +kernel)) (by decide +kernel)
theorem ml_X7_57 : Cond.methodLink RX7 57 yX1_addThing ∈ zTb := zTb_in (List.mem_of_getElem? (i := 317) (by decide +kernel)) (by decide +kernel)
theorem ml_X1_44 : Cond.methodLink RX1 44 yX4_set ∈ zTb := zTb_in (List.mem_of_getElem? (i := 321) (by decide +kernel)) (by decide +kernel)
theorem ml_L_18 : Cond.methodLink RL 18 yX7_of ∈ zTb := zTb_in (List.mem_of_getElem? (i := 325) (by decide +kernel)) (by decide +kernel)
theorem ml_X7_61 : Cond.methodLink RX7 61 yX1_isThing ∈ zTb := zTb_in (List.mem_of_getElem? (i := 329) (by decide +kernel)) (by decide +kernel)
theorem ml_X7_87 : Cond.methodLink RX7 87 yX1_whoHas ∈ zTb := zTb_in (List.mem_of_getElem? (i := 333) (by decide +kernel)) (by decide +kernel)
theorem ml_L_23 : Cond.methodLink RL 23 yX7_felt ∈ zTb := zTb_in (List.mem_of_getElem? (i := 337) (by decide +kernel)) (by decide +kernel)
theorem ml_X7_91 : Cond.methodLink RX7 91 yX4_feltBy ∈ zTb := zTb_in (List.mem_of_getElem? (i := 341) (by decide +kernel)) (by decide +kernel)
theorem ml_L_28 : Cond.methodLink RL 28 yX7_person ∈ zTb := zTb_in (List.mem_of_getElem? (i := 345) (by decide +kernel)) (by decide +kernel)
theorem ml_X7_95 : Cond.methodLink RX7 95 yX7_isNoThingOrNone ∈ zTb := zTb_in (List.mem_of_getElem? (i := 349) (by decide +kernel)) (by decide +kernel)
theorem ml_X7_98 : Cond.methodLink RX7 98 yX7_isHad ∈ zTb := zTb_in (List.mem_of_getElem? (i := 353) (by decide +kernel)) (by decide +kernel)
theorem ml_X7_104 : Cond.methodLink RX7 104 yX1_addPerson ∈ zTb := zTb_in (List.mem_of_getElem? (i := 357) (by decide +kernel)) (by decide +kernel)
theorem ml_L_32 : Cond.methodLink RL 32 yX7_told ∈ zTb := zTb_in (List.mem_of_getElem? (i := 361) (by decide +kernel)) (by decide +kernel)
theorem ml_X7_108 : Cond.methodLink RX7 108 yX1_isPerson ∈ zTb := zTb_in (List.mem_of_getElem? (i := 365) (by decide +kernel)) (by decide +kernel)
theorem ml_L_36 : Cond.methodLink RL 36 yX7_move ∈ zTb := zTb_in (List.mem_of_getElem? (i := 369) (by decide +kernel)) (by decide +kernel)
theorem ml_L_40 : Cond.methodLink RL 40 yX7_take ∈ zTb := zTb_in (List.mem_of_getElem? (i := 373) (by decide +kernel)) (by decide +kernel)
theorem ml_X7_126 : Cond.methodLink RX7 126 yX5_hasNew ∈ zTb := zTb_in (List.mem_of_getElem? (i := 377) (by decide +kernel)) (by decide +kernel)
theorem ml_L_45 : Cond.methodLink RL 45 yX7_count ∈ zTb := zTb_in (List.mem_of_getElem? (i := 381) (by decide +kernel)) (by decide +kernel)
theorem ml_L_49 : Cond.methodLink RL 49 yX7_heed ∈ zTb := zTb_in (List.mem_of_getElem? (i := 385) (by decide +kernel)) (by decide +kernel)
theorem ml_L_53 : Cond.methodLink RL 53 yX7_well ∈ zTb := zTb_in (List.mem_of_getElem? (i := 389) (by decide +kernel)) (by decide +kernel)
theorem ml_L_57 : Cond.methodLink RL 57 yX7_type ∈ zTb := zTb_in (List.mem_of_getElem? (i := 393) (by decide +kernel)) (by decide +kernel)
theorem ml_L_61 : Cond.methodLink RL 61 yX7_road ∈ zTb := zTb_in (List.mem_of_getElem? (i := 397) (by decide +kernel)) (by decide +kernel)
theorem ml_X7_155 : Cond.methodLink RX7 155 yX3_readRoad ∈ zTb := zTb_in (List.mem_of_getElem? (i := 401) (by decide +kernel)) (by decide +kernel)
theorem ml_X3_36 : Cond.methodLink RX3 36 yX1_setFrom ∈ zTb := zTb_in (List.mem_of_getElem? (i := 405) (by decide +kernel)) (by decide +kernel)
theorem ml_X3_41 : Cond.methodLink RX3 41 yX5_setFrom ∈ zTb := zTb_in (List.mem_of_getElem? (i := 412) (by decide +kernel)) (by decide +kernel)
theorem ml_X3_50 : Cond.methodLink RX3 50 yX5_setOut ∈ zTb := zTb_in (List.mem_of_getElem? (i := 417) (by decide +kernel)) (by decide +kernel)
theorem ml_X5_40 : Cond.methodLink RX5 40 yX5_hasNew ∈ zTb := zTb_in (List.mem_of_getElem? (i := 421) (by decide +kernel)) (by decide +kernel)
theorem ml_X3_53 : Cond.methodLink RX3 53 yX3_readThings ∈ zTb := zTb_in (List.mem_of_getElem? (i := 422) (by decide +kernel)) (by decide +kernel)
theorem ml_X3_74 : Cond.methodLink RX3 74 yX3_readThing ∈ zTb := zTb_in (List.mem_of_getElem? (i := 426) (by decide +kernel)) (by decide +kernel)
theorem ml_X3_61 : Cond.methodLink RX3 61 yX3_next ∈ zTb := zTb_in (List.mem_of_getElem? (i := 431) (by decide +kernel)) (by decide +kernel)
theorem ml_X3_85 : Cond.methodLink RX3 85 yX3_readNumber ∈ zTb := zTb_in (List.mem_of_getElem? (i := 521) (by decide +kernel)) (by decide +kernel)
theorem ml_X3_65 : Cond.methodLink RX3 65 yX3_isDigit ∈ zTb := zTb_in (List.mem_of_getElem? (i := 525) (by decide +kernel)) (by decide +kernel)
theorem ml_X3_57 : Cond.methodLink RX3 57 yX3_reads ∈ zTb := zTb_in (List.mem_of_getElem? (i := 529) (by decide +kernel)) (by decide +kernel)
theorem ml_X3_88 : Cond.methodLink RX3 88 yX1_addThing ∈ zTb := zTb_in (List.mem_of_getElem? (i := 533) (by decide +kernel)) (by decide +kernel)
theorem ml_X3_68 : Cond.methodLink RX3 68 yX3_readPeople ∈ zTb := zTb_in (List.mem_of_getElem? (i := 534) (by decide +kernel)) (by decide +kernel)
theorem ml_X3_92 : Cond.methodLink RX3 92 yX3_readPerson ∈ zTb := zTb_in (List.mem_of_getElem? (i := 538) (by decide +kernel)) (by decide +kernel)
theorem ml_X3_95 : Cond.methodLink RX3 95 yX3_readFreeThing ∈ zTb := zTb_in (List.mem_of_getElem? (i := 542) (by decide +kernel)) (by decide +kernel)
theorem ml_X3_115 : Cond.methodLink RX3 115 yX1_isThing ∈ zTb := zTb_in (List.mem_of_getElem? (i := 546) (by decide +kernel)) (by decide +kernel)
theorem ml_X3_119 : Cond.methodLink RX3 119 yX1_whoHas ∈ zTb := zTb_in (List.mem_of_getElem? (i := 547) (by decide +kernel)) (by decide +kernel)
theorem ml_X3_99 : Cond.methodLink RX3 99 yX1_addPerson ∈ zTb := zTb_in (List.mem_of_getElem? (i := 548) (by decide +kernel)) (by decide +kernel)
theorem ml_X3_71 : Cond.methodLink RX3 71 yX3_readHis ∈ zTb := zTb_in (List.mem_of_getElem? (i := 549) (by decide +kernel)) (by decide +kernel)
theorem ml_X7_163 : Cond.methodLink RX7 163 yX1_setFrom ∈ zTb := zTb_in (List.mem_of_getElem? (i := 553) (by decide +kernel)) (by decide +kernel)
theorem ml_X7_168 : Cond.methodLink RX7 168 yX5_setFrom ∈ zTb := zTb_in (List.mem_of_getElem? (i := 554) (by decide +kernel)) (by decide +kernel)
theorem ml_L_66 : Cond.methodLink RL 66 yX7_go ∈ zTb := zTb_in (List.mem_of_getElem? (i := 556) (by decide +kernel)) (by decide +kernel)
theorem ml_X7_171 : Cond.methodLink RX7 171 yX6_remember ∈ zTb := zTb_in (List.mem_of_getElem? (i := 560) (by decide +kernel)) (by decide +kernel)
theorem ml_X6_40 : Cond.methodLink RX6 40 yX6_loseOldest ∈ zTb := zTb_in (List.mem_of_getElem? (i := 564) (by decide +kernel)) (by decide +kernel)
theorem ml_X6_33 : Cond.methodLink RX6 33 yX5_setFrom ∈ zTb := zTb_in (List.mem_of_getElem? (i := 568) (by decide +kernel)) (by decide +kernel)
theorem ml_X7_174 : Cond.methodLink RX7 174 yX1_pass ∈ zTb := zTb_in (List.mem_of_getElem? (i := 569) (by decide +kernel)) (by decide +kernel)
theorem ml_X1_65 : Cond.methodLink RX1 65 yX1_isThing ∈ zTb := zTb_in (List.mem_of_getElem? (i := 573) (by decide +kernel)) (by decide +kernel)
theorem ml_X1_75 : Cond.methodLink RX1 75 yX1_feelOneMore ∈ zTb := zTb_in (List.mem_of_getElem? (i := 574) (by decide +kernel)) (by decide +kernel)
theorem ml_X1_89 : Cond.methodLink RX1 89 yX4_feltBy ∈ zTb := zTb_in (List.mem_of_getElem? (i := 578) (by decide +kernel)) (by decide +kernel)
theorem ml_X1_82 : Cond.methodLink RX1 82 yX1_offer ∈ zTb := zTb_in (List.mem_of_getElem? (i := 579) (by decide +kernel)) (by decide +kernel)
theorem ml_X1_100 : Cond.methodLink RX1 100 yX1_isGlad ∈ zTb := zTb_in (List.mem_of_getElem? (i := 583) (by decide +kernel)) (by decide +kernel)
theorem ml_X1_93 : Cond.methodLink RX1 93 yX5_hasNew ∈ zTb := zTb_in (List.mem_of_getElem? (i := 587) (by decide +kernel)) (by decide +kernel)
theorem ml_L_70 : Cond.methodLink RL 70 yX7_undo ∈ zTb := zTb_in (List.mem_of_getElem? (i := 588) (by decide +kernel)) (by decide +kernel)
theorem ml_X7_178 : Cond.methodLink RX7 178 yX6_stepBack ∈ zTb := zTb_in (List.mem_of_getElem? (i := 592) (by decide +kernel)) (by decide +kernel)
theorem ml_L_74 : Cond.methodLink RL 74 yX7_again ∈ zTb := zTb_in (List.mem_of_getElem? (i := 596) (by decide +kernel)) (by decide +kernel)
theorem ml_L_78 : Cond.methodLink RL 78 yX7_glad ∈ zTb := zTb_in (List.mem_of_getElem? (i := 600) (by decide +kernel)) (by decide +kernel)
theorem ml_X7_181 : Cond.methodLink RX7 181 yX1_isGlad ∈ zTb := zTb_in (List.mem_of_getElem? (i := 604) (by decide +kernel)) (by decide +kernel)
theorem ml_L_82 : Cond.methodLink RL 82 yX7_home ∈ zTb := zTb_in (List.mem_of_getElem? (i := 605) (by decide +kernel)) (by decide +kernel)
theorem ml_X7_185 : Cond.methodLink RX7 185 yX0_endOf ∈ zTb := zTb_in (List.mem_of_getElem? (i := 609) (by decide +kernel)) (by decide +kernel)
theorem ml_X0_54 : Cond.methodLink RX0 54 yX0_begin ∈ zTb := zTb_in (List.mem_of_getElem? (i := 613) (by decide +kernel)) (by decide +kernel)
theorem ml_X0_35 : Cond.methodLink RX0 35 yX1_setFrom ∈ zTb := zTb_in (List.mem_of_getElem? (i := 617) (by decide +kernel)) (by decide +kernel)
theorem ml_X0_40 : Cond.methodLink RX0 40 yX5_setFrom ∈ zTb := zTb_in (List.mem_of_getElem? (i := 618) (by decide +kernel)) (by decide +kernel)
theorem ml_X0_58 : Cond.methodLink RX0 58 yX0_walkHome ∈ zTb := zTb_in (List.mem_of_getElem? (i := 619) (by decide +kernel)) (by decide +kernel)
theorem ml_X0_50 : Cond.methodLink RX0 50 yX1_pass ∈ zTb := zTb_in (List.mem_of_getElem? (i := 623) (by decide +kernel)) (by decide +kernel)
theorem ml_L_86 : Cond.methodLink RL 86 yX7_lost ∈ zTb := zTb_in (List.mem_of_getElem? (i := 624) (by decide +kernel)) (by decide +kernel)
theorem ml_X7_192 : Cond.methodLink RX7 192 yX1_worthOf ∈ zTb := zTb_in (List.mem_of_getElem? (i := 628) (by decide +kernel)) (by decide +kernel)
theorem ml_L_90 : Cond.methodLink RL 90 yX7_lurk ∈ zTb := zTb_in (List.mem_of_getElem? (i := 632) (by decide +kernel)) (by decide +kernel)
theorem ml_X7_196 : Cond.methodLink RX7 196 yX0_waitFor ∈ zTb := zTb_in (List.mem_of_getElem? (i := 636) (by decide +kernel)) (by decide +kernel)
theorem ml_X0_64 : Cond.methodLink RX0 64 yX1_worthOf ∈ zTb := zTb_in (List.mem_of_getElem? (i := 640) (by decide +kernel)) (by decide +kernel)
theorem ml_X0_68 : Cond.methodLink RX0 68 yX1_whoHas ∈ zTb := zTb_in (List.mem_of_getElem? (i := 641) (by decide +kernel)) (by decide +kernel)
theorem ml_X0_72 : Cond.methodLink RX0 72 yX1_addPerson ∈ zTb := zTb_in (List.mem_of_getElem? (i := 642) (by decide +kernel)) (by decide +kernel)
theorem ml_L_94 : Cond.methodLink RL 94 yX7_stand ∈ zTb := zTb_in (List.mem_of_getElem? (i := 643) (by decide +kernel)) (by decide +kernel)
theorem ml_X7_203 : Cond.methodLink RX7 203 yX0_mostWorthOf ∈ zTb := zTb_in (List.mem_of_getElem? (i := 647) (by decide +kernel)) (by decide +kernel)
theorem ml_L_98 : Cond.methodLink RL 98 yX7_sister ∈ zTb := zTb_in (List.mem_of_getElem? (i := 651) (by decide +kernel)) (by decide +kernel)
theorem ml_L_102 : Cond.methodLink RL 102 yX7_meet ∈ zTb := zTb_in (List.mem_of_getElem? (i := 655) (by decide +kernel)) (by decide +kernel)
theorem ml_X7_206 : Cond.methodLink RX7 206 yX0_turnsWith ∈ zTb := zTb_in (List.mem_of_getElem? (i := 659) (by decide +kernel)) (by decide +kernel)
theorem ml_X0_86 : Cond.methodLink RX0 86 yX5_setOut ∈ zTb := zTb_in (List.mem_of_getElem? (i := 663) (by decide +kernel)) (by decide +kernel)
theorem ml_X0_95 : Cond.methodLink RX0 95 yX0_takesTurn ∈ zTb := zTb_in (List.mem_of_getElem? (i := 664) (by decide +kernel)) (by decide +kernel)
theorem ml_X0_99 : Cond.methodLink RX0 99 yX1_feelOneMore ∈ zTb := zTb_in (List.mem_of_getElem? (i := 668) (by decide +kernel)) (by decide +kernel)
theorem ml_X0_103 : Cond.methodLink RX0 103 yX1_isGlad ∈ zTb := zTb_in (List.mem_of_getElem? (i := 669) (by decide +kernel)) (by decide +kernel)
theorem ml_X0_107 : Cond.methodLink RX0 107 yX5_hasNew ∈ zTb := zTb_in (List.mem_of_getElem? (i := 670) (by decide +kernel)) (by decide +kernel)
theorem ml_L_106 : Cond.methodLink RL 106 yX7_first ∈ zTb := zTb_in (List.mem_of_getElem? (i := 671) (by decide +kernel)) (by decide +kernel)
theorem ml_X7_213 : Cond.methodLink RX7 213 yX0_firstsFor ∈ zTb := zTb_in (List.mem_of_getElem? (i := 675) (by decide +kernel)) (by decide +kernel)
theorem ml_L_110 : Cond.methodLink RL 110 yX7_cheated ∈ zTb := zTb_in (List.mem_of_getElem? (i := 679) (by decide +kernel)) (by decide +kernel)
theorem ml_X7_216 : Cond.methodLink RX7 216 yX0_heedFor ∈ zTb := zTb_in (List.mem_of_getElem? (i := 683) (by decide +kernel)) (by decide +kernel)
theorem ml_L_114 : Cond.methodLink RL 114 yX7_chance ∈ zTb := zTb_in (List.mem_of_getElem? (i := 687) (by decide +kernel)) (by decide +kernel)
theorem ml_X7_219 : Cond.methodLink RX7 219 yX0_waysTo ∈ zTb := zTb_in (List.mem_of_getElem? (i := 691) (by decide +kernel)) (by decide +kernel)
theorem ml_X0_111 : Cond.methodLink RX0 111 yX0_waysFrom ∈ zTb := zTb_in (List.mem_of_getElem? (i := 695) (by decide +kernel)) (by decide +kernel)
theorem ml_X0_115 : Cond.methodLink RX0 115 yX0_waysBehind ∈ zTb := zTb_in (List.mem_of_getElem? (i := 699) (by decide +kernel)) (by decide +kernel)
theorem ml_X0_119 : Cond.methodLink RX0 119 yX1_isPeopled ∈ zTb := zTb_in (List.mem_of_getElem? (i := 703) (by decide +kernel)) (by decide +kernel)
theorem ml_L_118 : Cond.methodLink RL 118 yX7_image ∈ zTb := zTb_in (List.mem_of_getElem? (i := 707) (by decide +kernel)) (by decide +kernel)
theorem ml_X7_222 : Cond.methodLink RX7 222 yX6_setFrom ∈ zTb := zTb_in (List.mem_of_getElem? (i := 711) (by decide +kernel)) (by decide +kernel)
theorem ml_X6_29 : Cond.methodLink RX6 29 yX1_setFrom ∈ zTb := zTb_in (List.mem_of_getElem? (i := 715) (by decide +kernel)) (by decide +kernel)
theorem ml_L_122 : Cond.methodLink RL 122 yX7_restore ∈ zTb := zTb_in (List.mem_of_getElem? (i := 716) (by decide +kernel)) (by decide +kernel)
theorem ml_L_126 : Cond.methodLink RL 126 yX7_seen ∈ zTb := zTb_in (List.mem_of_getElem? (i := 720) (by decide +kernel)) (by decide +kernel)
theorem ml_X7_229 : Cond.methodLink RX7 229 yX7_rowFault ∈ zTb := zTb_in (List.mem_of_getElem? (i := 724) (by decide +kernel)) (by decide +kernel)
theorem ml_X7_262 : Cond.methodLink RX7 262 yX2_hasRange ∈ zTb := zTb_in (List.mem_of_getElem? (i := 728) (by decide +kernel)) (by decide +kernel)
theorem ml_X7_236 : Cond.methodLink RX7 236 yX1_mindsOf ∈ zTb := zTb_in (List.mem_of_getElem? (i := 732) (by decide +kernel)) (by decide +kernel)
theorem ml_L_130 : Cond.methodLink RL 130 yX7_film ∈ zTb := zTb_in (List.mem_of_getElem? (i := 736) (by decide +kernel)) (by decide +kernel)
theorem ml_X7_239 : Cond.methodLink RX7 239 yX0_begin ∈ zTb := zTb_in (List.mem_of_getElem? (i := 740) (by decide +kernel)) (by decide +kernel)
theorem ml_X7_243 : Cond.methodLink RX7 243 yX2_put ∈ zTb := zTb_in (List.mem_of_getElem? (i := 741) (by decide +kernel)) (by decide +kernel)
theorem ml_L_134 : Cond.methodLink RL 134 yX7_deal ∈ zTb := zTb_in (List.mem_of_getElem? (i := 745) (by decide +kernel)) (by decide +kernel)
theorem ml_X7_247 : Cond.methodLink RX7 247 yX7_canDeal ∈ zTb := zTb_in (List.mem_of_getElem? (i := 749) (by decide +kernel)) (by decide +kernel)
theorem ml_L_138 : Cond.methodLink RL 138 yX7_sheet ∈ zTb := zTb_in (List.mem_of_getElem? (i := 753) (by decide +kernel)) (by decide +kernel)
theorem ml_X7_251 : Cond.methodLink RX7 251 yX2_renew ∈ zTb := zTb_in (List.mem_of_getElem? (i := 757) (by decide +kernel)) (by decide +kernel)
theorem ml_X2_26 : Cond.methodLink RX2 26 yJ7_fill_d0a16 ∈ zTb := zTb_in (List.mem_of_getElem? (i := 761) (by decide +kernel)) (by decide +kernel)
theorem ml_L_142 : Cond.methodLink RL 142 yX7_drop ∈ zTb := zTb_in (List.mem_of_getElem? (i := 764) (by decide +kernel)) (by decide +kernel)
theorem ml_L_148 : Cond.methodLink RL 148 yX7_item ∈ zTb := zTb_in (List.mem_of_getElem? (i := 768) (by decide +kernel)) (by decide +kernel)
theorem ml_L_153 : Cond.methodLink RL 153 yX7_copy ∈ zTb := zTb_in (List.mem_of_getElem? (i := 772) (by decide +kernel)) (by decide +kernel)
theorem ml_X8_63 : Cond.methodLink RX8 63 yX8_starts ∈ zTb := zTb_in (List.mem_of_getElem? (i := 783) (by decide +kernel)) (by decide +kernel)
theorem ml_L_17 : Cond.methodLink RL 17 yX8_thing ∈ zTb := zTb_in (List.mem_of_getElem? (i := 878) (by decide +kernel)) (by decide +kernel)
theorem ml_X8_72 : Cond.methodLink RX8 72 yX8_in ∈ zTb := zTb_in (List.mem_of_getElem? (i := 883) (by decide +kernel)) (by decide +kernel)
theorem ml_X8_85 : Cond.methodLink RX8 85 yX8_thingComes ∈ zTb := zTb_in (List.mem_of_getElem? (i := 888) (by decide +kernel)) (by decide +kernel)
theorem ml_L_22 : Cond.methodLink RL 22 yX8_of ∈ zTb := zTb_in (List.mem_of_getElem? (i := 892) (by decide +kernel)) (by decide +kernel)
theorem ml_X8_89 : Cond.methodLink RX8 89 yX8_isThing ∈ zTb := zTb_in (List.mem_of_getElem? (i := 896) (by decide +kernel)) (by decide +kernel)
theorem ml_X8_95 : Cond.methodLink RX8 95 yX8_who ∈ zTb := zTb_in (List.mem_of_getElem? (i := 901) (by decide +kernel)) (by decide +kernel)
theorem ml_L_27 : Cond.methodLink RL 27 yX8_felt ∈ zTb := zTb_in (List.mem_of_getElem? (i := 905) (by decide +kernel)) (by decide +kernel)
theorem ml_X8_99 : Cond.methodLink RX8 99 yX8_feels ∈ zTb := zTb_in (List.mem_of_getElem? (i := 909) (by decide +kernel)) (by decide +kernel)
theorem ml_L_31 : Cond.methodLink RL 31 yX8_person ∈ zTb := zTb_in (List.mem_of_getElem? (i := 913) (by decide +kernel)) (by decide +kernel)
theorem ml_X8_107 : Cond.methodLink RX8 107 yX8_personComes ∈ zTb := zTb_in (List.mem_of_getElem? (i := 919) (by decide +kernel)) (by decide +kernel)
theorem ml_L_35 : Cond.methodLink RL 35 yX8_told ∈ zTb := zTb_in (List.mem_of_getElem? (i := 923) (by decide +kernel)) (by decide +kernel)
theorem ml_X8_111 : Cond.methodLink RX8 111 yX8_isPerson ∈ zTb := zTb_in (List.mem_of_getElem? (i := 927) (by decide +kernel)) (by decide +kernel)
theorem ml_L_39 : Cond.methodLink RL 39 yX8_move ∈ zTb := zTb_in (List.mem_of_getElem? (i := 932) (by decide +kernel)) (by decide +kernel)
theorem ml_L_44 : Cond.methodLink RL 44 yX8_take ∈ zTb := zTb_in (List.mem_of_getElem? (i := 936) (by decide +kernel)) (by decide +kernel)
theorem ml_L_48 : Cond.methodLink RL 48 yX8_count ∈ zTb := zTb_in (List.mem_of_getElem? (i := 940) (by decide +kernel)) (by decide +kernel)
theorem ml_L_52 : Cond.methodLink RL 52 yX8_heed ∈ zTb := zTb_in (List.mem_of_getElem? (i := 944) (by decide +kernel)) (by decide +kernel)
theorem ml_L_56 : Cond.methodLink RL 56 yX8_well ∈ zTb := zTb_in (List.mem_of_getElem? (i := 948) (by decide +kernel)) (by decide +kernel)
theorem ml_L_60 : Cond.methodLink RL 60 yX8_type ∈ zTb := zTb_in (List.mem_of_getElem? (i := 952) (by decide +kernel)) (by decide +kernel)
theorem ml_L_65 : Cond.methodLink RL 65 yX8_road ∈ zTb := zTb_in (List.mem_of_getElem? (i := 958) (by decide +kernel)) (by decide +kernel)
theorem ml_X8_157 : Cond.methodLink RX8 157 yX8_readThing ∈ zTb := zTb_in (List.mem_of_getElem? (i := 962) (by decide +kernel)) (by decide +kernel)
theorem ml_X8_131 : Cond.methodLink RX8 131 yX8_here ∈ zTb := zTb_in (List.mem_of_getElem? (i := 966) (by decide +kernel)) (by decide +kernel)
theorem ml_X8_142 : Cond.methodLink RX8 142 yX8_number ∈ zTb := zTb_in (List.mem_of_getElem? (i := 970) (by decide +kernel)) (by decide +kernel)
theorem ml_X8_145 : Cond.methodLink RX8 145 yX8_has ∈ zTb := zTb_in (List.mem_of_getElem? (i := 976) (by decide +kernel)) (by decide +kernel)
theorem ml_X8_160 : Cond.methodLink RX8 160 yX8_readPerson ∈ zTb := zTb_in (List.mem_of_getElem? (i := 980) (by decide +kernel)) (by decide +kernel)
theorem ml_X8_151 : Cond.methodLink RX8 151 yX8_readHad ∈ zTb := zTb_in (List.mem_of_getElem? (i := 984) (by decide +kernel)) (by decide +kernel)
theorem ml_L_69 : Cond.methodLink RL 69 yX8_go ∈ zTb := zTb_in (List.mem_of_getElem? (i := 988) (by decide +kernel)) (by decide +kernel)
theorem ml_X8_189 : Cond.methodLink RX8 189 yX8_notes ∈ zTb := zTb_in (List.mem_of_getElem? (i := 992) (by decide +kernel)) (by decide +kernel)
theorem ml_X8_192 : Cond.methodLink RX8 192 yX8_goesOn ∈ zTb := zTb_in (List.mem_of_getElem? (i := 996) (by decide +kernel)) (by decide +kernel)
theorem ml_X8_170 : Cond.methodLink RX8 170 yX8_own ∈ zTb := zTb_in (List.mem_of_getElem? (i := 1000) (by decide +kernel)) (by decide +kernel)
theorem ml_X8_166 : Cond.methodLink RX8 166 yX8_care ∈ zTb := zTb_in (List.mem_of_getElem? (i := 1004) (by decide +kernel)) (by decide +kernel)
theorem ml_X8_182 : Cond.methodLink RX8 182 yX8_asks ∈ zTb := zTb_in (List.mem_of_getElem? (i := 1008) (by decide +kernel)) (by decide +kernel)
theorem ml_X8_176 : Cond.methodLink RX8 176 yX8_isGlad ∈ zTb := zTb_in (List.mem_of_getElem? (i := 1012) (by decide +kernel)) (by decide +kernel)
theorem ml_X8_173 : Cond.methodLink RX8 173 yX8_worth ∈ zTb := zTb_in (List.mem_of_getElem? (i := 1016) (by decide +kernel)) (by decide +kernel)
theorem ml_L_73 : Cond.methodLink RL 73 yX8_undo ∈ zTb := zTb_in (List.mem_of_getElem? (i := 1020) (by decide +kernel)) (by decide +kernel)
theorem ml_L_77 : Cond.methodLink RL 77 yX8_again ∈ zTb := zTb_in (List.mem_of_getElem? (i := 1024) (by decide +kernel)) (by decide +kernel)
theorem ml_L_81 : Cond.methodLink RL 81 yX8_glad ∈ zTb := zTb_in (List.mem_of_getElem? (i := 1028) (by decide +kernel)) (by decide +kernel)
theorem ml_L_85 : Cond.methodLink RL 85 yX8_home ∈ zTb := zTb_in (List.mem_of_getElem? (i := 1032) (by decide +kernel)) (by decide +kernel)
theorem ml_X8_195 : Cond.methodLink RX8 195 yX8_asides ∈ zTb := zTb_in (List.mem_of_getElem? (i := 1036) (by decide +kernel)) (by decide +kernel)
theorem ml_X8_198 : Cond.methodLink RX8 198 yX8_goesHome ∈ zTb := zTb_in (List.mem_of_getElem? (i := 1040) (by decide +kernel)) (by decide +kernel)
theorem ml_X8_201 : Cond.methodLink RX8 201 yX8_backs ∈ zTb := zTb_in (List.mem_of_getElem? (i := 1044) (by decide +kernel)) (by decide +kernel)
theorem ml_L_89 : Cond.methodLink RL 89 yX8_lost ∈ zTb := zTb_in (List.mem_of_getElem? (i := 1048) (by decide +kernel)) (by decide +kernel)
theorem ml_L_93 : Cond.methodLink RL 93 yX8_lurk ∈ zTb := zTb_in (List.mem_of_getElem? (i := 1052) (by decide +kernel)) (by decide +kernel)
theorem ml_L_97 : Cond.methodLink RL 97 yX8_stand ∈ zTb := zTb_in (List.mem_of_getElem? (i := 1056) (by decide +kernel)) (by decide +kernel)
theorem ml_L_101 : Cond.methodLink RL 101 yX8_sister ∈ zTb := zTb_in (List.mem_of_getElem? (i := 1060) (by decide +kernel)) (by decide +kernel)
theorem ml_X8_204 : Cond.methodLink RX8 204 yX8_sisters ∈ zTb := zTb_in (List.mem_of_getElem? (i := 1064) (by decide +kernel)) (by decide +kernel)
theorem ml_L_105 : Cond.methodLink RL 105 yX8_meet ∈ zTb := zTb_in (List.mem_of_getElem? (i := 1068) (by decide +kernel)) (by decide +kernel)
theorem ml_X8_207 : Cond.methodLink RX8 207 yX8_turns ∈ zTb := zTb_in (List.mem_of_getElem? (i := 1072) (by decide +kernel)) (by decide +kernel)
theorem ml_L_109 : Cond.methodLink RL 109 yX8_first ∈ zTb := zTb_in (List.mem_of_getElem? (i := 1076) (by decide +kernel)) (by decide +kernel)
theorem ml_L_113 : Cond.methodLink RL 113 yX8_cheated ∈ zTb := zTb_in (List.mem_of_getElem? (i := 1080) (by decide +kernel)) (by decide +kernel)
theorem ml_X8_213 : Cond.methodLink RX8 213 yX8_lost ∈ zTb := zTb_in (List.mem_of_getElem? (i := 1085) (by decide +kernel)) (by decide +kernel)
theorem ml_L_117 : Cond.methodLink RL 117 yX8_chance ∈ zTb := zTb_in (List.mem_of_getElem? (i := 1086) (by decide +kernel)) (by decide +kernel)
theorem ml_L_121 : Cond.methodLink RL 121 yX8_image ∈ zTb := zTb_in (List.mem_of_getElem? (i := 1090) (by decide +kernel)) (by decide +kernel)
theorem ml_X8_216 : Cond.methodLink RX8 216 yX8_notesRow ∈ zTb := zTb_in (List.mem_of_getElem? (i := 1094) (by decide +kernel)) (by decide +kernel)
theorem ml_L_125 : Cond.methodLink RL 125 yX8_restore ∈ zTb := zTb_in (List.mem_of_getElem? (i := 1098) (by decide +kernel)) (by decide +kernel)
theorem ml_X8_223 : Cond.methodLink RX8 223 yX8_gives ∈ zTb := zTb_in (List.mem_of_getElem? (i := 1102) (by decide +kernel)) (by decide +kernel)
theorem ml_L_129 : Cond.methodLink RL 129 yX8_seen ∈ zTb := zTb_in (List.mem_of_getElem? (i := 1106) (by decide +kernel)) (by decide +kernel)
theorem ml_X8_227 : Cond.methodLink RX8 227 yX8_isSheet ∈ zTb := zTb_in (List.mem_of_getElem? (i := 1110) (by decide +kernel)) (by decide +kernel)
theorem ml_X8_230 : Cond.methodLink RX8 230 yX8_isLane ∈ zTb := zTb_in (List.mem_of_getElem? (i := 1113) (by decide +kernel)) (by decide +kernel)
theorem ml_X8_235 : Cond.methodLink RX8 235 yX8_why ∈ zTb := zTb_in (List.mem_of_getElem? (i := 1117) (by decide +kernel)) (by decide +kernel)
theorem ml_L_133 : Cond.methodLink RL 133 yX8_film ∈ zTb := zTb_in (List.mem_of_getElem? (i := 1121) (by decide +kernel)) (by decide +kernel)
theorem ml_X8_239 : Cond.methodLink RX8 239 yX8_puts ∈ zTb := zTb_in (List.mem_of_getElem? (i := 1125) (by decide +kernel)) (by decide +kernel)
theorem ml_L_137 : Cond.methodLink RL 137 yX8_deal ∈ zTb := zTb_in (List.mem_of_getElem? (i := 1129) (by decide +kernel)) (by decide +kernel)
theorem ml_L_141 : Cond.methodLink RL 141 yX8_sheet ∈ zTb := zTb_in (List.mem_of_getElem? (i := 1133) (by decide +kernel)) (by decide +kernel)
theorem ml_L_145 : Cond.methodLink RL 145 yX8_drop ∈ zTb := zTb_in (List.mem_of_getElem? (i := 1137) (by decide +kernel)) (by decide +kernel)
theorem ml_L_152 : Cond.methodLink RL 152 yX8_item ∈ zTb := zTb_in (List.mem_of_getElem? (i := 1141) (by decide +kernel)) (by decide +kernel)
theorem ml_L_157 : Cond.methodLink RL 157 yX8_copy ∈ zTb := zTb_in (List.mem_of_getElem? (i := 1145) (by decide +kernel)) (by decide +kernel)
theorem fl_X4_9 : Cond.fieldLink RX4 9 "GladRoad$Thing" "kind" "I" ∈ zTb := zTb_in (List.mem_of_getElem? (i := 80) (by decide +kernel)) (by decide +kernel)
theorem fl_X1_32 : Cond.fieldLink RX1 32 "GladRoad$Thing" "kind" "I" ∈ zTb := zTb_in (List.mem_of_getElem? (i := 81) (by decide +kernel)) (by decide +kernel)
theorem fl_X7_69 : Cond.fieldLink RX7 69 "GladRoad$Thing" "kind" "I" ∈ zTb := zTb_in (List.mem_of_getElem? (i := 82) (by decide +kernel)) (by decide +kernel)
theorem fl_X4_15 : Cond.fieldLink RX4 15 "GladRoad$Thing" "worth" "I" ∈ zTb := zTb_in (List.mem_of_getElem? (i := 83) (by decide +kernel)) (by decide +kernel)
theorem fl_X1_35 : Cond.fieldLink RX1 35 "GladRoad$Thing" "worth" "I" ∈ zTb := zTb_in (List.mem_of_getElem? (i := 84) (by decide +kernel)) (by decide +kernel)
theorem fl_X7_74 : Cond.fieldLink RX7 74 "GladRoad$Thing" "worth" "I" ∈ zTb := zTb_in (List.mem_of_getElem? (i := 85) (by decide +kernel)) (by decide +kernel)
theorem fl_X4_18 : Cond.fieldLink RX4 18 "GladRoad$Thing" "load" "I" ∈ zTb := zTb_in (List.mem_of_getElem? (i := 86) (by decide +kernel)) (by decide +kernel)
theorem fl_X1_38 : Cond.fieldLink RX1 38 "GladRoad$Thing" "load" "I" ∈ zTb := zTb_in (List.mem_of_getElem? (i := 87) (by decide +kernel)) (by decide +kernel)
theorem fl_X7_77 : Cond.fieldLink RX7 77 "GladRoad$Thing" "load" "I" ∈ zTb := zTb_in (List.mem_of_getElem? (i := 88) (by decide +kernel)) (by decide +kernel)
theorem fl_X4_21 : Cond.fieldLink RX4 21 "GladRoad$Thing" "care" "I" ∈ zTb := zTb_in (List.mem_of_getElem? (i := 89) (by decide +kernel)) (by decide +kernel)
theorem fl_X1_41 : Cond.fieldLink RX1 41 "GladRoad$Thing" "care" "I" ∈ zTb := zTb_in (List.mem_of_getElem? (i := 90) (by decide +kernel)) (by decide +kernel)
theorem fl_X7_80 : Cond.fieldLink RX7 80 "GladRoad$Thing" "care" "I" ∈ zTb := zTb_in (List.mem_of_getElem? (i := 91) (by decide +kernel)) (by decide +kernel)
theorem fl_X1_11 : Cond.fieldLink RX1 11 "GladRoad$Road" "things" "[LGladRoad$Thing;" ∈ zTb := zTb_in (List.mem_of_getElem? (i := 102) (by decide +kernel)) (by decide +kernel)
theorem fl_X7_65 : Cond.fieldLink RX7 65 "GladRoad$Road" "things" "[LGladRoad$Thing;" ∈ zTb := zTb_in (List.mem_of_getElem? (i := 103) (by decide +kernel)) (by decide +kernel)
theorem fl_X3_44 : Cond.fieldLink RX3 44 "GladRoad$Road" "thingCount" "I" ∈ zTb := zTb_in (List.mem_of_getElem? (i := 104) (by decide +kernel)) (by decide +kernel)
theorem fl_X7_48 : Cond.fieldLink RX7 48 "GladRoad$Road" "thingCount" "I" ∈ zTb := zTb_in (List.mem_of_getElem? (i := 105) (by decide +kernel)) (by decide +kernel)
theorem fl_X1_48 : Cond.fieldLink RX1 48 "GladRoad$Road" "thingCount" "I" ∈ zTb := zTb_in (List.mem_of_getElem? (i := 106) (by decide +kernel)) (by decide +kernel)
theorem fl_X0_61 : Cond.fieldLink RX0 61 "GladRoad$Road" "thingCount" "I" ∈ zTb := zTb_in (List.mem_of_getElem? (i := 107) (by decide +kernel)) (by decide +kernel)
theorem fl_X1_17 : Cond.fieldLink RX1 17 "GladRoad$Road" "where" "[I" ∈ zTb := zTb_in (List.mem_of_getElem? (i := 108) (by decide +kernel)) (by decide +kernel)
theorem fl_X0_83 : Cond.fieldLink RX0 83 "GladRoad$Road" "where" "[I" ∈ zTb := zTb_in (List.mem_of_getElem? (i := 109) (by decide +kernel)) (by decide +kernel)
theorem fl_X7_111 : Cond.fieldLink RX7 111 "GladRoad$Road" "where" "[I" ∈ zTb := zTb_in (List.mem_of_getElem? (i := 110) (by decide +kernel)) (by decide +kernel)
theorem fl_X1_21 : Cond.fieldLink RX1 21 "GladRoad$Road" "margin" "[I" ∈ zTb := zTb_in (List.mem_of_getElem? (i := 111) (by decide +kernel)) (by decide +kernel)
theorem fl_X7_120 : Cond.fieldLink RX7 120 "GladRoad$Road" "margin" "[I" ∈ zTb := zTb_in (List.mem_of_getElem? (i := 112) (by decide +kernel)) (by decide +kernel)
theorem fl_X3_47 : Cond.fieldLink RX3 47 "GladRoad$Road" "personCount" "I" ∈ zTb := zTb_in (List.mem_of_getElem? (i := 113) (by decide +kernel)) (by decide +kernel)
theorem fl_X1_57 : Cond.fieldLink RX1 57 "GladRoad$Road" "personCount" "I" ∈ zTb := zTb_in (List.mem_of_getElem? (i := 114) (by decide +kernel)) (by decide +kernel)
theorem fl_X7_101 : Cond.fieldLink RX7 101 "GladRoad$Road" "personCount" "I" ∈ zTb := zTb_in (List.mem_of_getElem? (i := 115) (by decide +kernel)) (by decide +kernel)
theorem fl_X1_24 : Cond.fieldLink RX1 24 "GladRoad$Road" "heed" "I" ∈ zTb := zTb_in (List.mem_of_getElem? (i := 116) (by decide +kernel)) (by decide +kernel)
theorem fl_X0_92 : Cond.fieldLink RX0 92 "GladRoad$Road" "heed" "I" ∈ zTb := zTb_in (List.mem_of_getElem? (i := 117) (by decide +kernel)) (by decide +kernel)
theorem fl_X7_139 : Cond.fieldLink RX7 139 "GladRoad$Road" "heed" "I" ∈ zTb := zTb_in (List.mem_of_getElem? (i := 118) (by decide +kernel)) (by decide +kernel)
theorem fl_X1_28 : Cond.fieldLink RX1 28 "GladRoad$Road" "well" "I" ∈ zTb := zTb_in (List.mem_of_getElem? (i := 119) (by decide +kernel)) (by decide +kernel)
theorem fl_X7_142 : Cond.fieldLink RX7 142 "GladRoad$Road" "well" "I" ∈ zTb := zTb_in (List.mem_of_getElem? (i := 120) (by decide +kernel)) (by decide +kernel)
theorem fl_X5_9 : Cond.fieldLink RX5 9 "GladRoad$Trip" "his" "I" ∈ zTb := zTb_in (List.mem_of_getElem? (i := 142) (by decide +kernel)) (by decide +kernel)
theorem fl_X0_89 : Cond.fieldLink RX0 89 "GladRoad$Trip" "his" "I" ∈ zTb := zTb_in (List.mem_of_getElem? (i := 143) (by decide +kernel)) (by decide +kernel)
theorem fl_X3_103 : Cond.fieldLink RX3 103 "GladRoad$Trip" "his" "I" ∈ zTb := zTb_in (List.mem_of_getElem? (i := 144) (by decide +kernel)) (by decide +kernel)
theorem fl_X1_69 : Cond.fieldLink RX1 69 "GladRoad$Trip" "his" "I" ∈ zTb := zTb_in (List.mem_of_getElem? (i := 145) (by decide +kernel)) (by decide +kernel)
theorem fl_X7_123 : Cond.fieldLink RX7 123 "GladRoad$Trip" "his" "I" ∈ zTb := zTb_in (List.mem_of_getElem? (i := 146) (by decide +kernel)) (by decide +kernel)
theorem fl_X5_22 : Cond.fieldLink RX5 22 "GladRoad$Trip" "n" "I" ∈ zTb := zTb_in (List.mem_of_getElem? (i := 147) (by decide +kernel)) (by decide +kernel)
theorem fl_X7_133 : Cond.fieldLink RX7 133 "GladRoad$Trip" "n" "I" ∈ zTb := zTb_in (List.mem_of_getElem? (i := 148) (by decide +kernel)) (by decide +kernel)
theorem fl_X1_86 : Cond.fieldLink RX1 86 "GladRoad$Trip" "n" "I" ∈ zTb := zTb_in (List.mem_of_getElem? (i := 149) (by decide +kernel)) (by decide +kernel)
theorem fl_X5_25 : Cond.fieldLink RX5 25 "GladRoad$Trip" "mind" "I" ∈ zTb := zTb_in (List.mem_of_getElem? (i := 150) (by decide +kernel)) (by decide +kernel)
theorem fl_X7_136 : Cond.fieldLink RX7 136 "GladRoad$Trip" "mind" "I" ∈ zTb := zTb_in (List.mem_of_getElem? (i := 151) (by decide +kernel)) (by decide +kernel)
theorem fl_X1_97 : Cond.fieldLink RX1 97 "GladRoad$Trip" "mind" "I" ∈ zTb := zTb_in (List.mem_of_getElem? (i := 152) (by decide +kernel)) (by decide +kernel)
theorem fl_X5_28 : Cond.fieldLink RX5 28 "GladRoad$Trip" "ahead" "I" ∈ zTb := zTb_in (List.mem_of_getElem? (i := 153) (by decide +kernel)) (by decide +kernel)
theorem fl_X0_47 : Cond.fieldLink RX0 47 "GladRoad$Trip" "ahead" "I" ∈ zTb := zTb_in (List.mem_of_getElem? (i := 154) (by decide +kernel)) (by decide +kernel)
theorem fl_X7_130 : Cond.fieldLink RX7 130 "GladRoad$Trip" "ahead" "I" ∈ zTb := zTb_in (List.mem_of_getElem? (i := 155) (by decide +kernel)) (by decide +kernel)
theorem fl_X1_79 : Cond.fieldLink RX1 79 "GladRoad$Trip" "ahead" "I" ∈ zTb := zTb_in (List.mem_of_getElem? (i := 156) (by decide +kernel)) (by decide +kernel)
theorem fl_X5_31 : Cond.fieldLink RX5 31 "GladRoad$Trip" "changes" "I" ∈ zTb := zTb_in (List.mem_of_getElem? (i := 157) (by decide +kernel)) (by decide +kernel)
theorem fl_X7_145 : Cond.fieldLink RX7 145 "GladRoad$Trip" "changes" "I" ∈ zTb := zTb_in (List.mem_of_getElem? (i := 158) (by decide +kernel)) (by decide +kernel)
theorem fl_X1_72 : Cond.fieldLink RX1 72 "GladRoad$Trip" "changes" "I" ∈ zTb := zTb_in (List.mem_of_getElem? (i := 159) (by decide +kernel)) (by decide +kernel)
theorem fl_X5_15 : Cond.fieldLink RX5 15 "GladRoad$Trip" "refused" "I" ∈ zTb := zTb_in (List.mem_of_getElem? (i := 160) (by decide +kernel)) (by decide +kernel)
theorem fl_X0_43 : Cond.fieldLink RX0 43 "GladRoad$Trip" "refused" "I" ∈ zTb := zTb_in (List.mem_of_getElem? (i := 161) (by decide +kernel)) (by decide +kernel)
theorem fl_X1_104 : Cond.fieldLink RX1 104 "GladRoad$Trip" "refused" "I" ∈ zTb := zTb_in (List.mem_of_getElem? (i := 162) (by decide +kernel)) (by decide +kernel)
theorem fl_X7_189 : Cond.fieldLink RX7 189 "GladRoad$Trip" "refused" "I" ∈ zTb := zTb_in (List.mem_of_getElem? (i := 163) (by decide +kernel)) (by decide +kernel)
theorem fl_X5_18 : Cond.fieldLink RX5 18 "GladRoad$Trip" "theirs" "[I" ∈ zTb := zTb_in (List.mem_of_getElem? (i := 164) (by decide +kernel)) (by decide +kernel)
theorem fl_X0_76 : Cond.fieldLink RX0 76 "GladRoad$Trip" "theirs" "[I" ∈ zTb := zTb_in (List.mem_of_getElem? (i := 165) (by decide +kernel)) (by decide +kernel)
theorem fl_X1_60 : Cond.fieldLink RX1 60 "GladRoad$Trip" "theirs" "[I" ∈ zTb := zTb_in (List.mem_of_getElem? (i := 166) (by decide +kernel)) (by decide +kernel)
theorem fl_X7_115 : Cond.fieldLink RX7 115 "GladRoad$Trip" "theirs" "[I" ∈ zTb := zTb_in (List.mem_of_getElem? (i := 167) (by decide +kernel)) (by decide +kernel)
theorem fl_X6_12 : Cond.fieldLink RX6 12 "GladRoad$World" "road" "LGladRoad$Road;" ∈ zTb := zTb_in (List.mem_of_getElem? (i := 184) (by decide +kernel)) (by decide +kernel)
theorem fl_X0_32 : Cond.fieldLink RX0 32 "GladRoad$World" "road" "LGladRoad$Road;" ∈ zTb := zTb_in (List.mem_of_getElem? (i := 185) (by decide +kernel)) (by decide +kernel)
theorem fl_X3_33 : Cond.fieldLink RX3 33 "GladRoad$World" "road" "LGladRoad$Road;" ∈ zTb := zTb_in (List.mem_of_getElem? (i := 186) (by decide +kernel)) (by decide +kernel)
theorem fl_X7_44 : Cond.fieldLink RX7 44 "GladRoad$World" "road" "LGladRoad$Road;" ∈ zTb := zTb_in (List.mem_of_getElem? (i := 187) (by decide +kernel)) (by decide +kernel)
theorem fl_X6_21 : Cond.fieldLink RX6 21 "GladRoad$World" "trip" "LGladRoad$Trip;" ∈ zTb := zTb_in (List.mem_of_getElem? (i := 188) (by decide +kernel)) (by decide +kernel)
theorem fl_X0_39 : Cond.fieldLink RX0 39 "GladRoad$World" "trip" "LGladRoad$Trip;" ∈ zTb := zTb_in (List.mem_of_getElem? (i := 189) (by decide +kernel)) (by decide +kernel)
theorem fl_X3_40 : Cond.fieldLink RX3 40 "GladRoad$World" "trip" "LGladRoad$Trip;" ∈ zTb := zTb_in (List.mem_of_getElem? (i := 190) (by decide +kernel)) (by decide +kernel)
theorem fl_X7_83 : Cond.fieldLink RX7 83 "GladRoad$World" "trip" "LGladRoad$Trip;" ∈ zTb := zTb_in (List.mem_of_getElem? (i := 191) (by decide +kernel)) (by decide +kernel)
theorem fl_X6_25 : Cond.fieldLink RX6 25 "GladRoad$World" "past" "[LGladRoad$Trip;" ∈ zTb := zTb_in (List.mem_of_getElem? (i := 192) (by decide +kernel)) (by decide +kernel)
theorem fl_X6_36 : Cond.fieldLink RX6 36 "GladRoad$World" "known" "I" ∈ zTb := zTb_in (List.mem_of_getElem? (i := 193) (by decide +kernel)) (by decide +kernel)
theorem fl_X7_54 : Cond.fieldLink RX7 54 "GladRoad$World" "known" "I" ∈ zTb := zTb_in (List.mem_of_getElem? (i := 194) (by decide +kernel)) (by decide +kernel)
theorem fl_X3_9 : Cond.fieldLink RX3 9 "GladRoad$Tape" "letters" "[C" ∈ zTb := zTb_in (List.mem_of_getElem? (i := 214) (by decide +kernel)) (by decide +kernel)
theorem fl_X7_151 : Cond.fieldLink RX7 151 "GladRoad$Tape" "letters" "[C" ∈ zTb := zTb_in (List.mem_of_getElem? (i := 215) (by decide +kernel)) (by decide +kernel)
theorem fl_X3_106 : Cond.fieldLink RX3 106 "GladRoad$Tape" "length" "I" ∈ zTb := zTb_in (List.mem_of_getElem? (i := 216) (by decide +kernel)) (by decide +kernel)
theorem fl_X7_148 : Cond.fieldLink RX7 148 "GladRoad$Tape" "length" "I" ∈ zTb := zTb_in (List.mem_of_getElem? (i := 217) (by decide +kernel)) (by decide +kernel)
theorem fl_X3_29 : Cond.fieldLink RX3 29 "GladRoad$Tape" "place" "I" ∈ zTb := zTb_in (List.mem_of_getElem? (i := 218) (by decide +kernel)) (by decide +kernel)
theorem fl_X7_159 : Cond.fieldLink RX7 159 "GladRoad$Tape" "place" "I" ∈ zTb := zTb_in (List.mem_of_getElem? (i := 219) (by decide +kernel)) (by decide +kernel)
theorem fl_X3_18 : Cond.fieldLink RX3 18 "GladRoad$Tape" "road" "LGladRoad$Road;" ∈ zTb := zTb_in (List.mem_of_getElem? (i := 220) (by decide +kernel)) (by decide +kernel)
theorem fl_X7_162 : Cond.fieldLink RX7 162 "GladRoad$Tape" "road" "LGladRoad$Road;" ∈ zTb := zTb_in (List.mem_of_getElem? (i := 221) (by decide +kernel)) (by decide +kernel)
theorem fl_X3_25 : Cond.fieldLink RX3 25 "GladRoad$Tape" "trip" "LGladRoad$Trip;" ∈ zTb := zTb_in (List.mem_of_getElem? (i := 222) (by decide +kernel)) (by decide +kernel)
theorem fl_X7_167 : Cond.fieldLink RX7 167 "GladRoad$Tape" "trip" "LGladRoad$Trip;" ∈ zTb := zTb_in (List.mem_of_getElem? (i := 223) (by decide +kernel)) (by decide +kernel)
theorem fl_X0_12 : Cond.fieldLink RX0 12 "GladRoad$Foresight" "road" "LGladRoad$Road;" ∈ zTb := zTb_in (List.mem_of_getElem? (i := 246) (by decide +kernel)) (by decide +kernel)
theorem fl_X7_242 : Cond.fieldLink RX7 242 "GladRoad$Foresight" "road" "LGladRoad$Road;" ∈ zTb := zTb_in (List.mem_of_getElem? (i := 247) (by decide +kernel)) (by decide +kernel)
theorem fl_X0_21 : Cond.fieldLink RX0 21 "GladRoad$Foresight" "trip" "LGladRoad$Trip;" ∈ zTb := zTb_in (List.mem_of_getElem? (i := 248) (by decide +kernel)) (by decide +kernel)
theorem fl_X7_209 : Cond.fieldLink RX7 209 "GladRoad$Foresight" "trip" "LGladRoad$Trip;" ∈ zTb := zTb_in (List.mem_of_getElem? (i := 249) (by decide +kernel)) (by decide +kernel)
theorem fl_X0_25 : Cond.fieldLink RX0 25 "GladRoad$Foresight" "other" "LGladRoad$Trip;" ∈ zTb := zTb_in (List.mem_of_getElem? (i := 250) (by decide +kernel)) (by decide +kernel)
theorem fl_X7_210 : Cond.fieldLink RX7 210 "GladRoad$Foresight" "other" "LGladRoad$Trip;" ∈ zTb := zTb_in (List.mem_of_getElem? (i := 251) (by decide +kernel)) (by decide +kernel)
theorem fl_X0_28 : Cond.fieldLink RX0 28 "GladRoad$Foresight" "forks" "[LGladRoad$Trip;" ∈ zTb := zTb_in (List.mem_of_getElem? (i := 252) (by decide +kernel)) (by decide +kernel)
theorem fl_X0_80 : Cond.fieldLink RX0 80 "GladRoad$Foresight" "milestone" "I" ∈ zTb := zTb_in (List.mem_of_getElem? (i := 253) (by decide +kernel)) (by decide +kernel)
theorem fl_X7_200 : Cond.fieldLink RX7 200 "GladRoad$Foresight" "milestone" "I" ∈ zTb := zTb_in (List.mem_of_getElem? (i := 254) (by decide +kernel)) (by decide +kernel)
theorem fl_X2_15 : Cond.fieldLink RX2 15 "GladRoad$Sheet" "isThere" "Z" ∈ zTb := zTb_in (List.mem_of_getElem? (i := 273) (by decide +kernel)) (by decide +kernel)
theorem fl_X7_255 : Cond.fieldLink RX7 255 "GladRoad$Sheet" "isThere" "Z" ∈ zTb := zTb_in (List.mem_of_getElem? (i := 274) (by decide +kernel)) (by decide +kernel)
theorem fl_X2_19 : Cond.fieldLink RX2 19 "GladRoad$Sheet" "lane" "I" ∈ zTb := zTb_in (List.mem_of_getElem? (i := 275) (by decide +kernel)) (by decide +kernel)
theorem fl_X7_259 : Cond.fieldLink RX7 259 "GladRoad$Sheet" "lane" "I" ∈ zTb := zTb_in (List.mem_of_getElem? (i := 276) (by decide +kernel)) (by decide +kernel)
theorem fl_X2_23 : Cond.fieldLink RX2 23 "GladRoad$Sheet" "length" "I" ∈ zTb := zTb_in (List.mem_of_getElem? (i := 277) (by decide +kernel)) (by decide +kernel)
theorem fl_X7_258 : Cond.fieldLink RX7 258 "GladRoad$Sheet" "length" "I" ∈ zTb := zTb_in (List.mem_of_getElem? (i := 278) (by decide +kernel)) (by decide +kernel)
theorem fl_X2_9 : Cond.fieldLink RX2 9 "GladRoad$Sheet" "items" "[J" ∈ zTb := zTb_in (List.mem_of_getElem? (i := 279) (by decide +kernel)) (by decide +kernel)
theorem fl_X7_232 : Cond.fieldLink RX7 232 "GladRoad$Sheet" "items" "[J" ∈ zTb := zTb_in (List.mem_of_getElem? (i := 280) (by decide +kernel)) (by decide +kernel)
theorem fl_X7_10 : Cond.fieldLink RX7 10 "GladRoad" "now" "LGladRoad$World;" ∈ zTb := zTb_in (List.mem_of_getElem? (i := 291) (by decide +kernel)) (by decide +kernel)
theorem fl_X7_16 : Cond.fieldLink RX7 16 "GladRoad" "kept" "LGladRoad$World;" ∈ zTb := zTb_in (List.mem_of_getElem? (i := 292) (by decide +kernel)) (by decide +kernel)
theorem fl_X7_225 : Cond.fieldLink RX7 225 "GladRoad" "isKept" "Z" ∈ zTb := zTb_in (List.mem_of_getElem? (i := 293) (by decide +kernel)) (by decide +kernel)
theorem fl_X7_22 : Cond.fieldLink RX7 22 "GladRoad" "tape" "LGladRoad$Tape;" ∈ zTb := zTb_in (List.mem_of_getElem? (i := 294) (by decide +kernel)) (by decide +kernel)
theorem fl_X7_29 : Cond.fieldLink RX7 29 "GladRoad" "foresight" "LGladRoad$Foresight;" ∈ zTb := zTb_in (List.mem_of_getElem? (i := 295) (by decide +kernel)) (by decide +kernel)
theorem fl_X7_35 : Cond.fieldLink RX7 35 "GladRoad" "sheets" "[LGladRoad$Sheet;" ∈ zTb := zTb_in (List.mem_of_getElem? (i := 296) (by decide +kernel)) (by decide +kernel)
theorem fl_X8_69 : Cond.fieldLink RX8 69 "GladRoadModel" "things" "I" ∈ zTb := zTb_in (List.mem_of_getElem? (i := 787) (by decide +kernel)) (by decide +kernel)
theorem fl_X8_76 : Cond.fieldLink RX8 76 "GladRoadModel" "people" "I" ∈ zTb := zTb_in (List.mem_of_getElem? (i := 788) (by decide +kernel)) (by decide +kernel)
theorem fl_X8_7 : Cond.fieldLink RX8 7 "GladRoadModel" "thing" "[I" ∈ zTb := zTb_in (List.mem_of_getElem? (i := 789) (by decide +kernel)) (by decide +kernel)
theorem fl_X8_13 : Cond.fieldLink RX8 13 "GladRoadModel" "person" "[I" ∈ zTb := zTb_in (List.mem_of_getElem? (i := 790) (by decide +kernel)) (by decide +kernel)
theorem fl_X8_16 : Cond.fieldLink RX8 16 "GladRoadModel" "now" "[I" ∈ zTb := zTb_in (List.mem_of_getElem? (i := 791) (by decide +kernel)) (by decide +kernel)
theorem fl_X8_60 : Cond.fieldLink RX8 60 "GladRoadModel" "heed" "I" ∈ zTb := zTb_in (List.mem_of_getElem? (i := 792) (by decide +kernel)) (by decide +kernel)
theorem fl_X8_56 : Cond.fieldLink RX8 56 "GladRoadModel" "well" "I" ∈ zTb := zTb_in (List.mem_of_getElem? (i := 793) (by decide +kernel)) (by decide +kernel)
theorem fl_X8_186 : Cond.fieldLink RX8 186 "GladRoadModel" "more" "I" ∈ zTb := zTb_in (List.mem_of_getElem? (i := 794) (by decide +kernel)) (by decide +kernel)
theorem fl_X8_163 : Cond.fieldLink RX8 163 "GladRoadModel" "tossed" "I" ∈ zTb := zTb_in (List.mem_of_getElem? (i := 795) (by decide +kernel)) (by decide +kernel)
theorem fl_X8_19 : Cond.fieldLink RX8 19 "GladRoadModel" "tape" "[I" ∈ zTb := zTb_in (List.mem_of_getElem? (i := 796) (by decide +kernel)) (by decide +kernel)
theorem fl_X8_121 : Cond.fieldLink RX8 121 "GladRoadModel" "taped" "I" ∈ zTb := zTb_in (List.mem_of_getElem? (i := 797) (by decide +kernel)) (by decide +kernel)
theorem fl_X8_124 : Cond.fieldLink RX8 124 "GladRoadModel" "at" "I" ∈ zTb := zTb_in (List.mem_of_getElem? (i := 798) (by decide +kernel)) (by decide +kernel)
theorem fl_X8_127 : Cond.fieldLink RX8 127 "GladRoadModel" "wrong" "Z" ∈ zTb := zTb_in (List.mem_of_getElem? (i := 799) (by decide +kernel)) (by decide +kernel)
theorem fl_X8_139 : Cond.fieldLink RX8 139 "GladRoadModel" "manyThings" "I" ∈ zTb := zTb_in (List.mem_of_getElem? (i := 800) (by decide +kernel)) (by decide +kernel)
theorem fl_X8_148 : Cond.fieldLink RX8 148 "GladRoadModel" "manyPeople" "I" ∈ zTb := zTb_in (List.mem_of_getElem? (i := 801) (by decide +kernel)) (by decide +kernel)
theorem fl_X8_154 : Cond.fieldLink RX8 154 "GladRoadModel" "his" "I" ∈ zTb := zTb_in (List.mem_of_getElem? (i := 802) (by decide +kernel)) (by decide +kernel)
theorem fl_X8_22 : Cond.fieldLink RX8 22 "GladRoadModel" "readThings" "[I" ∈ zTb := zTb_in (List.mem_of_getElem? (i := 803) (by decide +kernel)) (by decide +kernel)
theorem fl_X8_25 : Cond.fieldLink RX8 25 "GladRoadModel" "readPeople" "[I" ∈ zTb := zTb_in (List.mem_of_getElem? (i := 804) (by decide +kernel)) (by decide +kernel)
theorem fl_X8_179 : Cond.fieldLink RX8 179 "GladRoadModel" "refused" "I" ∈ zTb := zTb_in (List.mem_of_getElem? (i := 805) (by decide +kernel)) (by decide +kernel)
theorem fl_X8_28 : Cond.fieldLink RX8 28 "GladRoadModel" "undone" "[I" ∈ zTb := zTb_in (List.mem_of_getElem? (i := 806) (by decide +kernel)) (by decide +kernel)
theorem fl_X8_66 : Cond.fieldLink RX8 66 "GladRoadModel" "undos" "I" ∈ zTb := zTb_in (List.mem_of_getElem? (i := 807) (by decide +kernel)) (by decide +kernel)
theorem fl_X8_31 : Cond.fieldLink RX8 31 "GladRoadModel" "aside" "[I" ∈ zTb := zTb_in (List.mem_of_getElem? (i := 808) (by decide +kernel)) (by decide +kernel)
theorem fl_X8_34 : Cond.fieldLink RX8 34 "GladRoadModel" "meets" "[I" ∈ zTb := zTb_in (List.mem_of_getElem? (i := 809) (by decide +kernel)) (by decide +kernel)
theorem fl_X8_37 : Cond.fieldLink RX8 37 "GladRoadModel" "two" "[I" ∈ zTb := zTb_in (List.mem_of_getElem? (i := 810) (by decide +kernel)) (by decide +kernel)
theorem fl_X8_40 : Cond.fieldLink RX8 40 "GladRoadModel" "image" "[I" ∈ zTb := zTb_in (List.mem_of_getElem? (i := 811) (by decide +kernel)) (by decide +kernel)
theorem fl_X8_220 : Cond.fieldLink RX8 220 "GladRoadModel" "isImage" "Z" ∈ zTb := zTb_in (List.mem_of_getElem? (i := 812) (by decide +kernel)) (by decide +kernel)
theorem fl_X8_43 : Cond.fieldLink RX8 43 "GladRoadModel" "lanes" "[I" ∈ zTb := zTb_in (List.mem_of_getElem? (i := 813) (by decide +kernel)) (by decide +kernel)
theorem fl_X8_46 : Cond.fieldLink RX8 46 "GladRoadModel" "sizes" "[I" ∈ zTb := zTb_in (List.mem_of_getElem? (i := 814) (by decide +kernel)) (by decide +kernel)
theorem fl_X8_49 : Cond.fieldLink RX8 49 "GladRoadModel" "items" "[J" ∈ zTb := zTb_in (List.mem_of_getElem? (i := 815) (by decide +kernel)) (by decide +kernel)
theorem fl_X8_53 : Cond.fieldLink RX8 53 "GladRoadModel" "moved" "[J" ∈ zTb := zTb_in (List.mem_of_getElem? (i := 816) (by decide +kernel)) (by decide +kernel)
theorem cl_X8_79 : Cond.constantLong RX8 79 (3) ∈ zTb := zTb_in (List.mem_of_getElem? (i := 882) (by decide +kernel)) (by decide +kernel)
theorem cl_X8_81 : Cond.constantLong RX8 81 (99) ∈ zTb := zTb_in (List.mem_of_getElem? (i := 886) (by decide +kernel)) (by decide +kernel)
theorem cl_X8_83 : Cond.constantLong RX8 83 (30) ∈ zTb := zTb_in (List.mem_of_getElem? (i := 887) (by decide +kernel)) (by decide +kernel)
theorem cl_X8_93 : Cond.constantLong RX8 93 (4) ∈ zTb := zTb_in (List.mem_of_getElem? (i := 900) (by decide +kernel)) (by decide +kernel)
theorem cl_X8_103 : Cond.constantLong RX8 103 (11) ∈ zTb := zTb_in (List.mem_of_getElem? (i := 917) (by decide +kernel)) (by decide +kernel)
theorem cl_X8_105 : Cond.constantLong RX8 105 (20) ∈ zTb := zTb_in (List.mem_of_getElem? (i := 918) (by decide +kernel)) (by decide +kernel)
theorem cl_X8_115 : Cond.constantLong RX8 115 (2) ∈ zTb := zTb_in (List.mem_of_getElem? (i := 931) (by decide +kernel)) (by decide +kernel)
theorem cl_X8_117 : Cond.constantLong RX8 117 (32) ∈ zTb := zTb_in (List.mem_of_getElem? (i := 956) (by decide +kernel)) (by decide +kernel)
theorem cl_X8_119 : Cond.constantLong RX8 119 (126) ∈ zTb := zTb_in (List.mem_of_getElem? (i := 957) (by decide +kernel)) (by decide +kernel)
theorem cl_X8_135 : Cond.constantLong RX8 135 (48) ∈ zTb := zTb_in (List.mem_of_getElem? (i := 974) (by decide +kernel)) (by decide +kernel)
theorem cl_X8_137 : Cond.constantLong RX8 137 (57) ∈ zTb := zTb_in (List.mem_of_getElem? (i := 975) (by decide +kernel)) (by decide +kernel)
theorem cl_X8_211 : Cond.constantLong RX8 211 (-99) ∈ zTb := zTb_in (List.mem_of_getElem? (i := 1084) (by decide +kernel)) (by decide +kernel)
theorem cl_X8_233 : Cond.constantLong RX8 233 (8) ∈ zTb := zTb_in (List.mem_of_getElem? (i := 1116) (by decide +kernel)) (by decide +kernel)
theorem cl_L_146 : Cond.constantLong RL 146 (4294967295) ∈ zTb := zTb_in (List.mem_of_getElem? (i := 1149) (by decide +kernel)) (by decide +kernel)
end
section
theorem z_iincc {w : zE} {g : zG} {own : String} {cc : ByteArray} {nL D pc : Nat} {lv lv' : List (Option Value)} {st : List Value} {M : zM} {n : Nat} {j : Int} {x c : Int32} (F : zF w g own cc nL D) (hd : decode cc pc = .ok (.iinc n j, 3)) (hv : lv[n]? = some (some (.int x))) (hj : Int32.ofInt j = c) (hn : n < nL) (hok : zok lv n = true) (he : lv.set n (some (.int (x + c))) = lv') (k : ZW w g nL (pc + 3) lv' st M) : ZW w g nL pc lv st M := z_iinc F hd hv (by rw [hj]) hn hok he k
theorem i32_eq {x y : Int32} (h : x.toInt = y.toInt) : x = y := Int32.toInt_inj.mp h
theorem z_tab3 {w : zE} {g : zG} {own : String} {cc : ByteArray} {nL D pc : Nat} {lv : List (Option Value)} {st : List Value} {M : zM} {x : Int32} {dflt : Int} {len dt : Nat} {o0 : Int} {tgt0 : Nat} {o1 : Int} {tgt1 : Nat} {o2 : Int} {tgt2 : Nat} (F : zF w g own cc nL D) (hd : decode cc pc = .ok (.tableswitch dflt 0 2 #[o0, o1, o2], len)) (t0 : (pc : Int) + o0 = (tgt0 : Int)) (t1 : (pc : Int) + o1 = (tgt1 : Int)) (t2 : (pc : Int) + o2 = (tgt2 : Int)) (td : (pc : Int) + dflt = (dt : Int)) (k0 : x = 0 → ZW w g nL tgt0 lv st M) (k1 : x = 1 → ZW w g nL tgt1 lv st M) (k2 : x = 2 → ZW w g nL tgt2 lv st M) (kd : ¬ x = 0 → ¬ x = 1 → ¬ x = 2 → ZW w g nL dt lv st M) : ZW w g nL pc lv (.int x :: st) M := by
  by_cases h0 : x = 0
  · subst h0; exact z_tableIn F hd (by decide) (by decide) rfl t0 (k0 rfl)
  by_cases h1 : x = 1
  · subst h1; exact z_tableIn F hd (by decide) (by decide) rfl t1 (k1 rfl)
  by_cases h2 : x = 2
  · subst h2; exact z_tableIn F hd (by decide) (by decide) rfl t2 (k2 rfl)
  refine z_tableOut F hd ?_ td (kd h0 h1 h2)
  rcases Int.lt_or_le x.toInt 0 with q | q
  · exact Or.inl q
  · rcases Int.lt_or_le 2 x.toInt with r | r
    · exact Or.inr r
    · exfalso
      have hx : x.toInt = 0 ∨ x.toInt = 1 ∨ x.toInt = 2 := by omega
      rcases hx with e | e | e
      · exact h0 (i32_eq (e.trans (by decide)))
      · exact h1 (i32_eq (e.trans (by decide)))
      · exact h2 (i32_eq (e.trans (by decide)))
theorem z_tab5 {w : zE} {g : zG} {own : String} {cc : ByteArray} {nL D pc : Nat} {lv : List (Option Value)} {st : List Value} {M : zM} {x : Int32} {dflt : Int} {len dt : Nat} {o0 : Int} {tgt0 : Nat} {o1 : Int} {tgt1 : Nat} {o2 : Int} {tgt2 : Nat} {o3 : Int} {tgt3 : Nat} {o4 : Int} {tgt4 : Nat} (F : zF w g own cc nL D) (hd : decode cc pc = .ok (.tableswitch dflt 0 4 #[o0, o1, o2, o3, o4], len)) (t0 : (pc : Int) + o0 = (tgt0 : Int)) (t1 : (pc : Int) + o1 = (tgt1 : Int)) (t2 : (pc : Int) + o2 = (tgt2 : Int)) (t3 : (pc : Int) + o3 = (tgt3 : Int)) (t4 : (pc : Int) + o4 = (tgt4 : Int)) (td : (pc : Int) + dflt = (dt : Int)) (k0 : x = 0 → ZW w g nL tgt0 lv st M) (k1 : x = 1 → ZW w g nL tgt1 lv st M) (k2 : x = 2 → ZW w g nL tgt2 lv st M) (k3 : x = 3 → ZW w g nL tgt3 lv st M) (k4 : x = 4 → ZW w g nL tgt4 lv st M) (kd : ¬ x = 0 → ¬ x = 1 → ¬ x = 2 → ¬ x = 3 → ¬ x = 4 → ZW w g nL dt lv st M) : ZW w g nL pc lv (.int x :: st) M := by
  by_cases h0 : x = 0
  · subst h0; exact z_tableIn F hd (by decide) (by decide) rfl t0 (k0 rfl)
  by_cases h1 : x = 1
  · subst h1; exact z_tableIn F hd (by decide) (by decide) rfl t1 (k1 rfl)
  by_cases h2 : x = 2
  · subst h2; exact z_tableIn F hd (by decide) (by decide) rfl t2 (k2 rfl)
  by_cases h3 : x = 3
  · subst h3; exact z_tableIn F hd (by decide) (by decide) rfl t3 (k3 rfl)
  by_cases h4 : x = 4
  · subst h4; exact z_tableIn F hd (by decide) (by decide) rfl t4 (k4 rfl)
  refine z_tableOut F hd ?_ td (kd h0 h1 h2 h3 h4)
  rcases Int.lt_or_le x.toInt 0 with q | q
  · exact Or.inl q
  · rcases Int.lt_or_le 4 x.toInt with r | r
    · exact Or.inr r
    · exfalso
      have hx : x.toInt = 0 ∨ x.toInt = 1 ∨ x.toInt = 2 ∨ x.toInt = 3 ∨ x.toInt = 4 := by omega
      rcases hx with e | e | e | e | e
      · exact h0 (i32_eq (e.trans (by decide)))
      · exact h1 (i32_eq (e.trans (by decide)))
      · exact h2 (i32_eq (e.trans (by decide)))
      · exact h3 (i32_eq (e.trans (by decide)))
      · exact h4 (i32_eq (e.trans (by decide)))
theorem z_tab10 {w : zE} {g : zG} {own : String} {cc : ByteArray} {nL D pc : Nat} {lv : List (Option Value)} {st : List Value} {M : zM} {x : Int32} {dflt : Int} {len dt : Nat} {o0 : Int} {tgt0 : Nat} {o1 : Int} {tgt1 : Nat} {o2 : Int} {tgt2 : Nat} {o3 : Int} {tgt3 : Nat} {o4 : Int} {tgt4 : Nat} {o5 : Int} {tgt5 : Nat} {o6 : Int} {tgt6 : Nat} {o7 : Int} {tgt7 : Nat} {o8 : Int} {tgt8 : Nat} {o9 : Int} {tgt9 : Nat} (F : zF w g own cc nL D) (hd : decode cc pc = .ok (.tableswitch dflt 0 9 #[o0, o1, o2, o3, o4, o5, o6, o7, o8, o9], len)) (t0 : (pc : Int) + o0 = (tgt0 : Int)) (t1 : (pc : Int) + o1 = (tgt1 : Int)) (t2 : (pc : Int) + o2 = (tgt2 : Int)) (t3 : (pc : Int) + o3 = (tgt3 : Int)) (t4 : (pc : Int) + o4 = (tgt4 : Int)) (t5 : (pc : Int) + o5 = (tgt5 : Int)) (t6 : (pc : Int) + o6 = (tgt6 : Int)) (t7 : (pc : Int) + o7 = (tgt7 : Int)) (t8 : (pc : Int) + o8 = (tgt8 : Int)) (t9 : (pc : Int) + o9 = (tgt9 : Int)) (td : (pc : Int) + dflt = (dt : Int)) (k0 : x = 0 → ZW w g nL tgt0 lv st M) (k1 : x = 1 → ZW w g nL tgt1 lv st M) (k2 : x = 2 → ZW w g nL tgt2 lv st M) (k3 : x = 3 → ZW w g nL tgt3 lv st M) (k4 : x = 4 → ZW w g nL tgt4 lv st M) (k5 : x = 5 → ZW w g nL tgt5 lv st M) (k6 : x = 6 → ZW w g nL tgt6 lv st M) (k7 : x = 7 → ZW w g nL tgt7 lv st M) (k8 : x = 8 → ZW w g nL tgt8 lv st M) (k9 : x = 9 → ZW w g nL tgt9 lv st M) (kd : ¬ x = 0 → ¬ x = 1 → ¬ x = 2 → ¬ x = 3 → ¬ x = 4 → ¬ x = 5 → ¬ x = 6 → ¬ x = 7 → ¬ x = 8 → ¬ x = 9 → ZW w g nL dt lv st M) : ZW w g nL pc lv (.int x :: st) M := by
  by_cases h0 : x = 0
  · subst h0; exact z_tableIn F hd (by decide) (by decide) rfl t0 (k0 rfl)
  by_cases h1 : x = 1
  · subst h1; exact z_tableIn F hd (by decide) (by decide) rfl t1 (k1 rfl)
  by_cases h2 : x = 2
  · subst h2; exact z_tableIn F hd (by decide) (by decide) rfl t2 (k2 rfl)
  by_cases h3 : x = 3
  · subst h3; exact z_tableIn F hd (by decide) (by decide) rfl t3 (k3 rfl)
  by_cases h4 : x = 4
  · subst h4; exact z_tableIn F hd (by decide) (by decide) rfl t4 (k4 rfl)
  by_cases h5 : x = 5
  · subst h5; exact z_tableIn F hd (by decide) (by decide) rfl t5 (k5 rfl)
  by_cases h6 : x = 6
  · subst h6; exact z_tableIn F hd (by decide) (by decide) rfl t6 (k6 rfl)
  by_cases h7 : x = 7
  · subst h7; exact z_tableIn F hd (by decide) (by decide) rfl t7 (k7 rfl)
  by_cases h8 : x = 8
  · subst h8; exact z_tableIn F hd (by decide) (by decide) rfl t8 (k8 rfl)
  by_cases h9 : x = 9
  · subst h9; exact z_tableIn F hd (by decide) (by decide) rfl t9 (k9 rfl)
  refine z_tableOut F hd ?_ td (kd h0 h1 h2 h3 h4 h5 h6 h7 h8 h9)
  rcases Int.lt_or_le x.toInt 0 with q | q
  · exact Or.inl q
  · rcases Int.lt_or_le 9 x.toInt with r | r
    · exact Or.inr r
    · exfalso
      have hx : x.toInt = 0 ∨ x.toInt = 1 ∨ x.toInt = 2 ∨ x.toInt = 3 ∨ x.toInt = 4 ∨ x.toInt = 5 ∨ x.toInt = 6 ∨ x.toInt = 7 ∨ x.toInt = 8 ∨ x.toInt = 9 := by omega
      rcases hx with e | e | e | e | e | e | e | e | e | e
      · exact h0 (i32_eq (e.trans (by decide)))
      · exact h1 (i32_eq (e.trans (by decide)))
      · exact h2 (i32_eq (e.trans (by decide)))
      · exact h3 (i32_eq (e.trans (by decide)))
      · exact h4 (i32_eq (e.trans (by decide)))
      · exact h5 (i32_eq (e.trans (by decide)))
      · exact h6 (i32_eq (e.trans (by decide)))
      · exact h7 (i32_eq (e.trans (by decide)))
      · exact h8 (i32_eq (e.trans (by decide)))
      · exact h9 (i32_eq (e.trans (by decide)))
theorem z_tab34 {w : zE} {g : zG} {own : String} {cc : ByteArray} {nL D pc : Nat} {lv : List (Option Value)} {st : List Value} {M : zM} {x : Int32} {dflt : Int} {len dt : Nat} {o0 : Int} {tgt0 : Nat} {o1 : Int} {tgt1 : Nat} {o2 : Int} {tgt2 : Nat} {o3 : Int} {tgt3 : Nat} {o4 : Int} {tgt4 : Nat} {o5 : Int} {tgt5 : Nat} {o6 : Int} {tgt6 : Nat} {o7 : Int} {tgt7 : Nat} {o8 : Int} {tgt8 : Nat} {o9 : Int} {tgt9 : Nat} {o10 : Int} {tgt10 : Nat} {o11 : Int} {tgt11 : Nat} {o12 : Int} {tgt12 : Nat} {o13 : Int} {tgt13 : Nat} {o14 : Int} {tgt14 : Nat} {o15 : Int} {tgt15 : Nat} {o16 : Int} {tgt16 : Nat} {o17 : Int} {tgt17 : Nat} {o18 : Int} {tgt18 : Nat} {o19 : Int} {tgt19 : Nat} {o20 : Int} {tgt20 : Nat} {o21 : Int} {tgt21 : Nat} {o22 : Int} {tgt22 : Nat} {o23 : Int} {tgt23 : Nat} {o24 : Int} {tgt24 : Nat} {o25 : Int} {tgt25 : Nat} {o26 : Int} {tgt26 : Nat} {o27 : Int} {tgt27 : Nat} {o28 : Int} {tgt28 : Nat} {o29 : Int} {tgt29 : Nat} {o30 : Int} {tgt30 : Nat} {o31 : Int} {tgt31 : Nat} {o32 : Int} {tgt32 : Nat} {o33 : Int} {tgt33 : Nat} (F : zF w g own cc nL D) (hd : decode cc pc = .ok (.tableswitch dflt 0 33 #[o0, o1, o2, o3, o4, o5, o6, o7, o8, o9, o10, o11, o12, o13, o14, o15, o16, o17, o18, o19, o20, o21, o22, o23, o24, o25, o26, o27, o28, o29, o30, o31, o32, o33], len)) (t0 : (pc : Int) + o0 = (tgt0 : Int)) (t1 : (pc : Int) + o1 = (tgt1 : Int)) (t2 : (pc : Int) + o2 = (tgt2 : Int)) (t3 : (pc : Int) + o3 = (tgt3 : Int)) (t4 : (pc : Int) + o4 = (tgt4 : Int)) (t5 : (pc : Int) + o5 = (tgt5 : Int)) (t6 : (pc : Int) + o6 = (tgt6 : Int)) (t7 : (pc : Int) + o7 = (tgt7 : Int)) (t8 : (pc : Int) + o8 = (tgt8 : Int)) (t9 : (pc : Int) + o9 = (tgt9 : Int)) (t10 : (pc : Int) + o10 = (tgt10 : Int)) (t11 : (pc : Int) + o11 = (tgt11 : Int)) (t12 : (pc : Int) + o12 = (tgt12 : Int)) (t13 : (pc : Int) + o13 = (tgt13 : Int)) (t14 : (pc : Int) + o14 = (tgt14 : Int)) (t15 : (pc : Int) + o15 = (tgt15 : Int)) (t16 : (pc : Int) + o16 = (tgt16 : Int)) (t17 : (pc : Int) + o17 = (tgt17 : Int)) (t18 : (pc : Int) + o18 = (tgt18 : Int)) (t19 : (pc : Int) + o19 = (tgt19 : Int)) (t20 : (pc : Int) + o20 = (tgt20 : Int)) (t21 : (pc : Int) + o21 = (tgt21 : Int)) (t22 : (pc : Int) + o22 = (tgt22 : Int)) (t23 : (pc : Int) + o23 = (tgt23 : Int)) (t24 : (pc : Int) + o24 = (tgt24 : Int)) (t25 : (pc : Int) + o25 = (tgt25 : Int)) (t26 : (pc : Int) + o26 = (tgt26 : Int)) (t27 : (pc : Int) + o27 = (tgt27 : Int)) (t28 : (pc : Int) + o28 = (tgt28 : Int)) (t29 : (pc : Int) + o29 = (tgt29 : Int)) (t30 : (pc : Int) + o30 = (tgt30 : Int)) (t31 : (pc : Int) + o31 = (tgt31 : Int)) (t32 : (pc : Int) + o32 = (tgt32 : Int)) (t33 : (pc : Int) + o33 = (tgt33 : Int)) (td : (pc : Int) + dflt = (dt : Int)) (k0 : x = 0 → ZW w g nL tgt0 lv st M) (k1 : x = 1 → ZW w g nL tgt1 lv st M) (k2 : x = 2 → ZW w g nL tgt2 lv st M) (k3 : x = 3 → ZW w g nL tgt3 lv st M) (k4 : x = 4 → ZW w g nL tgt4 lv st M) (k5 : x = 5 → ZW w g nL tgt5 lv st M) (k6 : x = 6 → ZW w g nL tgt6 lv st M) (k7 : x = 7 → ZW w g nL tgt7 lv st M) (k8 : x = 8 → ZW w g nL tgt8 lv st M) (k9 : x = 9 → ZW w g nL tgt9 lv st M) (k10 : x = 10 → ZW w g nL tgt10 lv st M) (k11 : x = 11 → ZW w g nL tgt11 lv st M) (k12 : x = 12 → ZW w g nL tgt12 lv st M) (k13 : x = 13 → ZW w g nL tgt13 lv st M) (k14 : x = 14 → ZW w g nL tgt14 lv st M) (k15 : x = 15 → ZW w g nL tgt15 lv st M) (k16 : x = 16 → ZW w g nL tgt16 lv st M) (k17 : x = 17 → ZW w g nL tgt17 lv st M) (k18 : x = 18 → ZW w g nL tgt18 lv st M) (k19 : x = 19 → ZW w g nL tgt19 lv st M) (k20 : x = 20 → ZW w g nL tgt20 lv st M) (k21 : x = 21 → ZW w g nL tgt21 lv st M) (k22 : x = 22 → ZW w g nL tgt22 lv st M) (k23 : x = 23 → ZW w g nL tgt23 lv st M) (k24 : x = 24 → ZW w g nL tgt24 lv st M) (k25 : x = 25 → ZW w g nL tgt25 lv st M) (k26 : x = 26 → ZW w g nL tgt26 lv st M) (k27 : x = 27 → ZW w g nL tgt27 lv st M) (k28 : x = 28 → ZW w g nL tgt28 lv st M) (k29 : x = 29 → ZW w g nL tgt29 lv st M) (k30 : x = 30 → ZW w g nL tgt30 lv st M) (k31 : x = 31 → ZW w g nL tgt31 lv st M) (k32 : x = 32 → ZW w g nL tgt32 lv st M) (k33 : x = 33 → ZW w g nL tgt33 lv st M) (kd : ¬ x = 0 → ¬ x = 1 → ¬ x = 2 → ¬ x = 3 → ¬ x = 4 → ¬ x = 5 → ¬ x = 6 → ¬ x = 7 → ¬ x = 8 → ¬ x = 9 → ¬ x = 10 → ¬ x = 11 → ¬ x = 12 → ¬ x = 13 → ¬ x = 14 → ¬ x = 15 → ¬ x = 16 → ¬ x = 17 → ¬ x = 18 → ¬ x = 19 → ¬ x = 20 → ¬ x = 21 → ¬ x = 22 → ¬ x = 23 → ¬ x = 24 → ¬ x = 25 → ¬ x = 26 → ¬ x = 27 → ¬ x = 28 → ¬ x = 29 → ¬ x = 30 → ¬ x = 31 → ¬ x = 32 → ¬ x = 33 → ZW w g nL dt lv st M) : ZW w g nL pc lv (.int x :: st) M := by
  by_cases h0 : x = 0
  · subst h0; exact z_tableIn F hd (by decide) (by decide) rfl t0 (k0 rfl)
  by_cases h1 : x = 1
  · subst h1; exact z_tableIn F hd (by decide) (by decide) rfl t1 (k1 rfl)
  by_cases h2 : x = 2
  · subst h2; exact z_tableIn F hd (by decide) (by decide) rfl t2 (k2 rfl)
  by_cases h3 : x = 3
  · subst h3; exact z_tableIn F hd (by decide) (by decide) rfl t3 (k3 rfl)
  by_cases h4 : x = 4
  · subst h4; exact z_tableIn F hd (by decide) (by decide) rfl t4 (k4 rfl)
  by_cases h5 : x = 5
  · subst h5; exact z_tableIn F hd (by decide) (by decide) rfl t5 (k5 rfl)
  by_cases h6 : x = 6
  · subst h6; exact z_tableIn F hd (by decide) (by decide) rfl t6 (k6 rfl)
  by_cases h7 : x = 7
  · subst h7; exact z_tableIn F hd (by decide) (by decide) rfl t7 (k7 rfl)
  by_cases h8 : x = 8
  · subst h8; exact z_tableIn F hd (by decide) (by decide) rfl t8 (k8 rfl)
  by_cases h9 : x = 9
  · subst h9; exact z_tableIn F hd (by decide) (by decide) rfl t9 (k9 rfl)
  by_cases h10 : x = 10
  · subst h10; exact z_tableIn F hd (by decide) (by decide) rfl t10 (k10 rfl)
  by_cases h11 : x = 11
  · subst h11; exact z_tableIn F hd (by decide) (by decide) rfl t11 (k11 rfl)
  by_cases h12 : x = 12
  · subst h12; exact z_tableIn F hd (by decide) (by decide) rfl t12 (k12 rfl)
  by_cases h13 : x = 13
  · subst h13; exact z_tableIn F hd (by decide) (by decide) rfl t13 (k13 rfl)
  by_cases h14 : x = 14
  · subst h14; exact z_tableIn F hd (by decide) (by decide) rfl t14 (k14 rfl)
  by_cases h15 : x = 15
  · subst h15; exact z_tableIn F hd (by decide) (by decide) rfl t15 (k15 rfl)
  by_cases h16 : x = 16
  · subst h16; exact z_tableIn F hd (by decide) (by decide) rfl t16 (k16 rfl)
  by_cases h17 : x = 17
  · subst h17; exact z_tableIn F hd (by decide) (by decide) rfl t17 (k17 rfl)
  by_cases h18 : x = 18
  · subst h18; exact z_tableIn F hd (by decide) (by decide) rfl t18 (k18 rfl)
  by_cases h19 : x = 19
  · subst h19; exact z_tableIn F hd (by decide) (by decide) rfl t19 (k19 rfl)
  by_cases h20 : x = 20
  · subst h20; exact z_tableIn F hd (by decide) (by decide) rfl t20 (k20 rfl)
  by_cases h21 : x = 21
  · subst h21; exact z_tableIn F hd (by decide) (by decide) rfl t21 (k21 rfl)
  by_cases h22 : x = 22
  · subst h22; exact z_tableIn F hd (by decide) (by decide) rfl t22 (k22 rfl)
  by_cases h23 : x = 23
  · subst h23; exact z_tableIn F hd (by decide) (by decide) rfl t23 (k23 rfl)
  by_cases h24 : x = 24
  · subst h24; exact z_tableIn F hd (by decide) (by decide) rfl t24 (k24 rfl)
  by_cases h25 : x = 25
  · subst h25; exact z_tableIn F hd (by decide) (by decide) rfl t25 (k25 rfl)
  by_cases h26 : x = 26
  · subst h26; exact z_tableIn F hd (by decide) (by decide) rfl t26 (k26 rfl)
  by_cases h27 : x = 27
  · subst h27; exact z_tableIn F hd (by decide) (by decide) rfl t27 (k27 rfl)
  by_cases h28 : x = 28
  · subst h28; exact z_tableIn F hd (by decide) (by decide) rfl t28 (k28 rfl)
  by_cases h29 : x = 29
  · subst h29; exact z_tableIn F hd (by decide) (by decide) rfl t29 (k29 rfl)
  by_cases h30 : x = 30
  · subst h30; exact z_tableIn F hd (by decide) (by decide) rfl t30 (k30 rfl)
  by_cases h31 : x = 31
  · subst h31; exact z_tableIn F hd (by decide) (by decide) rfl t31 (k31 rfl)
  by_cases h32 : x = 32
  · subst h32; exact z_tableIn F hd (by decide) (by decide) rfl t32 (k32 rfl)
  by_cases h33 : x = 33
  · subst h33; exact z_tableIn F hd (by decide) (by decide) rfl t33 (k33 rfl)
  refine z_tableOut F hd ?_ td (kd h0 h1 h2 h3 h4 h5 h6 h7 h8 h9 h10 h11 h12 h13 h14 h15 h16 h17 h18 h19 h20 h21 h22 h23 h24 h25 h26 h27 h28 h29 h30 h31 h32 h33)
  rcases Int.lt_or_le x.toInt 0 with q | q
  · exact Or.inl q
  · rcases Int.lt_or_le 33 x.toInt with r | r
    · exact Or.inr r
    · exfalso
      have hx : x.toInt = 0 ∨ x.toInt = 1 ∨ x.toInt = 2 ∨ x.toInt = 3 ∨ x.toInt = 4 ∨ x.toInt = 5 ∨ x.toInt = 6 ∨ x.toInt = 7 ∨ x.toInt = 8 ∨ x.toInt = 9 ∨ x.toInt = 10 ∨ x.toInt = 11 ∨ x.toInt = 12 ∨ x.toInt = 13 ∨ x.toInt = 14 ∨ x.toInt = 15 ∨ x.toInt = 16 ∨ x.toInt = 17 ∨ x.toInt = 18 ∨ x.toInt = 19 ∨ x.toInt = 20 ∨ x.toInt = 21 ∨ x.toInt = 22 ∨ x.toInt = 23 ∨ x.toInt = 24 ∨ x.toInt = 25 ∨ x.toInt = 26 ∨ x.toInt = 27 ∨ x.toInt = 28 ∨ x.toInt = 29 ∨ x.toInt = 30 ∨ x.toInt = 31 ∨ x.toInt = 32 ∨ x.toInt = 33 := by omega
      rcases hx with e | e | e | e | e | e | e | e | e | e | e | e | e | e | e | e | e | e | e | e | e | e | e | e | e | e | e | e | e | e | e | e | e | e
      · exact h0 (i32_eq (e.trans (by decide)))
      · exact h1 (i32_eq (e.trans (by decide)))
      · exact h2 (i32_eq (e.trans (by decide)))
      · exact h3 (i32_eq (e.trans (by decide)))
      · exact h4 (i32_eq (e.trans (by decide)))
      · exact h5 (i32_eq (e.trans (by decide)))
      · exact h6 (i32_eq (e.trans (by decide)))
      · exact h7 (i32_eq (e.trans (by decide)))
      · exact h8 (i32_eq (e.trans (by decide)))
      · exact h9 (i32_eq (e.trans (by decide)))
      · exact h10 (i32_eq (e.trans (by decide)))
      · exact h11 (i32_eq (e.trans (by decide)))
      · exact h12 (i32_eq (e.trans (by decide)))
      · exact h13 (i32_eq (e.trans (by decide)))
      · exact h14 (i32_eq (e.trans (by decide)))
      · exact h15 (i32_eq (e.trans (by decide)))
      · exact h16 (i32_eq (e.trans (by decide)))
      · exact h17 (i32_eq (e.trans (by decide)))
      · exact h18 (i32_eq (e.trans (by decide)))
      · exact h19 (i32_eq (e.trans (by decide)))
      · exact h20 (i32_eq (e.trans (by decide)))
      · exact h21 (i32_eq (e.trans (by decide)))
      · exact h22 (i32_eq (e.trans (by decide)))
      · exact h23 (i32_eq (e.trans (by decide)))
      · exact h24 (i32_eq (e.trans (by decide)))
      · exact h25 (i32_eq (e.trans (by decide)))
      · exact h26 (i32_eq (e.trans (by decide)))
      · exact h27 (i32_eq (e.trans (by decide)))
      · exact h28 (i32_eq (e.trans (by decide)))
      · exact h29 (i32_eq (e.trans (by decide)))
      · exact h30 (i32_eq (e.trans (by decide)))
      · exact h31 (i32_eq (e.trans (by decide)))
      · exact h32 (i32_eq (e.trans (by decide)))
      · exact h33 (i32_eq (e.trans (by decide)))
theorem z_look2 {w : zE} {g : zG} {own : String} {cc : ByteArray} {nL D pc : Nat} {lv : List (Option Value)} {st : List Value} {M : zM} {x : Int32} {dflt o0 o1 : Int} {len dt tgt0 tgt1 : Nat} (F : zF w g own cc nL D) (hd : decode cc pc = .ok (.lookupswitch dflt #[(0, o0), (1, o1)], len)) (t0 : (pc : Int) + o0 = (tgt0 : Int)) (t1 : (pc : Int) + o1 = (tgt1 : Int)) (td : (pc : Int) + dflt = (dt : Int)) (k0 : x = 0 → ZW w g nL tgt0 lv st M) (k1 : x = 1 → ZW w g nL tgt1 lv st M) (kd : ¬ x = 0 → ¬ x = 1 → ZW w g nL dt lv st M) : ZW w g nL pc lv (.int x :: st) M := by
  by_cases h0 : x = 0
  · subst h0; exact z_lookup F hd rfl rfl t0 (k0 rfl)
  by_cases h1 : x = 1
  · subst h1; exact z_lookup F hd rfl rfl t1 (k1 rfl)
  refine z_lookup F hd rfl (off := dflt) ?_ td (kd h0 h1)
  have e0 : ¬ x.toInt = 0 := fun e => h0 (i32_eq (e.trans (by decide)))
  have e1 : ¬ x.toInt = 1 := fun e => h1 (i32_eq (e.trans (by decide)))
  simp [Op.lookupswitch.offset]
  first | omega | grind
end
section
/-! THE DOCUMENT'S WORDS over rows of ints: th: things, four ints each; T: his, n, mind, ahead, changes, then what each person has -/
abbrev zF1 : Type := Nat → Int32
def feltF (th : zF1) (j : Nat) (mind n : Int32) : Int32 :=
  if mind = 0 then (if th (4 * j) = 2 then th (4 * j + 2) + 2 * n else th (4 * j + 2))
  else if th (4 * j) = 1 ∨ th (4 * j) = 3 then (if th (4 * j) = 3 ∧ 3 ≤ n then th (4 * j + 3) + n + 5 else th (4 * j + 3) + n) else th (4 * j + 3)
def setF (f : zF1) (j : Nat) (a b c d : Int32) : zF1 := va_up (va_up (va_up (va_up f (4 * j) a) (4 * j + 1) b) (4 * j + 2) c) (4 * j + 3) d
/-- a number of one of n -/
def vdF (n x : Int32) : Prop := 0 ≤ x ∧ x < n
def bI (p : Prop) [Decidable p] : Int32 := if p then 1 else 0
theorem bI_nar (p : Prop) [Decidable p] : narrow .boolean (.int (bI p)) = .int (bI p) := by unfold bI; split <;> rfl
theorem bI_0 {p : Prop} [Decidable p] : bI p = 0 ↔ ¬ p := by unfold bI; split <;> simp_all
theorem bI_1 {p : Prop} [Decidable p] : ¬ bI p = 0 ↔ p := by unfold bI; split <;> simp_all
theorem bI_t {p : Prop} [Decidable p] (h : p) : 1 = bI p := (if_pos h).symm
theorem bI_f {p : Prop} [Decidable p] (h : ¬ p) : 0 = bI p := (if_neg h).symm
theorem vp_of {n : Nat} {N x : Int32} (h0 : 0 ≤ x) (h : x < N) (hN : N ≤ nI n) (hn : n < 2 ^ 31) : vp_in x n := by
  rw [vp_in_iff]
  have a := Int32.le_iff_toInt_le.mp h0
  have b := Int32.lt_iff_toInt_lt.mp h
  have c := Int32.le_iff_toInt_le.mp hN
  rw [nI_toInt hn] at c
  have d : (0 : Int32).toInt = 0 := by decide
  omega
theorem nlt {a b : Int32} (h : b ≤ a) : ¬ a < b := Int32.not_lt.mpr h
theorem nle {a b : Int32} (h : b < a) : ¬ a ≤ b := Int32.not_le.mpr h
theorem vpl (c : Int32) {n : Nat} {x : Int32} (hc : c.toInt = (n : Int)) (h : 0 ≤ x ∧ x < c) : vp_in x n := by
  rw [vp_in_iff]
  have a := Int32.le_iff_toInt_le.mp h.1
  have b := Int32.lt_iff_toInt_lt.mp h.2
  have d : (0 : Int32).toInt = 0 := by decide
  omega
theorem zs_at (M : zM) (b o : Nat) (v : Int32) : (zs M b o v).1 b = va_up (M.1 b) o v := va_up_self _ _ _
theorem zs_off (M : zM) {b c o : Nat} {v : Int32} (h : c ≠ b) : (zs M b o v).1 c = M.1 c := va_up_ne _ _ h
theorem za_at (M : zM) (b : Nat) (f : zF1) : (za M b f).1 b = f := va_up_self _ _ _
theorem za_off (M : zM) {b c : Nat} {f : zF1} (h : c ≠ b) : (za M b f).1 c = M.1 c := va_up_ne _ _ h
theorem zs_za (M : zM) (b o : Nat) (v : Int32) : zs M b o v = za M b (va_up (M.1 b) o v) := rfl
theorem za_za (M : zM) (b : Nat) (f h : zF1) : za (za M b f) b h = za M b h := by unfold za; simp only [bx_uu]
theorem za_self (M : zM) (b : Nat) : za M b (M.1 b) = M := by
  unfold za
  refine Prod.ext (funext fun j => ?_) rfl
  show va_up M.1 b (M.1 b) j = M.1 j
  by_cases h : j = b
  · subst h; exact va_up_self _ _ _
  · exact va_up_ne _ _ h
theorem za_swap (M : zM) {b c : Nat} (f h : zF1) (hne : b ≠ c) : za (za M b f) c h = za (za M c h) b f := by
  unfold za
  refine Prod.ext (funext fun j => ?_) rfl
  show va_up (va_up M.1 b f) c h j = va_up (va_up M.1 c h) b f j
  unfold va_up
  by_cases h1 : j = c
  · subst h1; simp [Ne.symm hne]
  · simp [h1]
theorem zk_ne {a b x y : Nat} (h1 : zk a = x) (h2 : zk b = y) (h : x ≠ y) : a ≠ b := by
  rintro rfl
  exact h (h1.symm.trans h2)
def feelF (th : zF1) (c : Int32) (T : zF1) : zF1 := va_up (va_up T 1 (T 1 + 1)) 2 (if feltF th (T 0).toNatClampNeg 1 (T 1 + 1) * c ≤ feltF th (T 0).toNatClampNeg 0 (T 1 + 1) then 0 else 1)
def worthO (th : zF1) (nt x : Int32) : Int32 := if 0 ≤ x ∧ x < nt then th (4 * x.toNatClampNeg + 1) else 0
def timesF (c m : Int32) : Int32 := if m = 1 then c else 1
theorem timesF_1 {c m : Int32} (h : m = 1) : timesF c m = c := if_pos h
theorem timesF_0 {c m : Int32} (h : ¬ m = 1) : timesF c m = 1 := if_neg h
abbrev gladF (th : zF1) (c hd : Int32) (T : zF1) (x : Int32) : Prop := feltF th x.toNatClampNeg (T 2) 0 < feltF th (T 0).toNatClampNeg (T 2) (T 1) * timesF c (T 2) ∧ th (4 * (T 0).toNatClampNeg + 1) - th (4 * x.toNatClampNeg + 1) ≤ hd
abbrev willF (th : zF1) (mg : Int32) (T : zF1) (x : Int32) : Prop := th (4 * x.toNatClampNeg + 1) + mg ≤ th (4 * (T 0).toNatClampNeg + 1)
/-- an offer: what he and the one at place s have then; whether it was refused -/
def offT (th : zF1) (mg hd c : Int32) (s : Nat) (T : zF1) : zF1 := if gladF th c hd T (T s) then (if willF th mg T (T s) then va_up (va_up (va_up (va_up T s (T 0)) 0 (T s)) 1 0) 4 (T 4 + 1) else T) else T
def offR (th : zF1) (mg hd c : Int32) (s : Nat) (T : zF1) (rf : Int32) : Int32 := if gladF th c hd T (T s) then (if willF th mg T (T s) then rf else if rf = -4 then T 3 else rf) else rf
end
section
theorem c_X4_set {l : Launch} {w : zE} (J : zJ w) {M : zM} {i : Nat} {a b c d : Int32} (hk : zk i = 4) : zCv l w yX4_set cX4_set 5 0 [.ref (w.2.2 i), .int a, .int b, .int c, .int d] M (fun M2 => M2 = za M (zb i) (setF (M.1 (zb i)) (zo i) a b c d)) := by
  refine zCv_of J zm_X4_set [some (.ref (w.2.2 i)), some (.int a), some (.int b), some (.int c), some (.int d)] (Nat.le_of_ble_eq_true rfl) rfl (fun g hg F X => ?_)
  subst hg
  refine z_aload_n F dX4_set_0 rfl ?_
  refine z_iload_n F dX4_set_1 rfl ?_
  refine zp_X4_kind F (by assumption) fl_X4_9 dX4_set_2 ?_
  refine z_aload_n F dX4_set_5 rfl ?_
  refine z_iload_n F dX4_set_6 rfl ?_
  refine zp_X4_worth F (by assumption) fl_X4_15 dX4_set_7 ?_
  refine z_aload_n F dX4_set_10 rfl ?_
  refine z_iload_n F dX4_set_11 rfl ?_
  refine zp_X4_load F (by assumption) fl_X4_18 dX4_set_12 ?_
  refine z_aload_n F dX4_set_15 rfl ?_
  refine z_iload F dX4_set_16 rfl ?_
  refine zp_X4_care F (by assumption) fl_X4_21 dX4_set_18 ?_
  refine z_vret F X dX4_set_21 ?_
  unfold zs za setF
  simp only [va_up_self, bx_uu]
theorem c_X4_feltBy {l : Launch} {w : zE} (J : zJ w) {M : zM} {i : Nat} {mind n : Int32} (hk : zk i = 4) : zCi l w yX4_feltBy cX4_feltBy 3 (some .int) 0 [.ref (w.2.2 i), .int mind, .int n] M (fun r M2 => M2 = M ∧ r = feltF (M.1 (zb i)) (zo i) mind n) := by
  refine zCi_of J zm_X4_feltBy [some (.ref (w.2.2 i)), some (.int mind), some (.int n)] (Nat.le_of_ble_eq_true rfl) rfl (fun g hg F X => ?_)
  subst hg
  refine z_iload_n F dX4_feltBy_0 rfl ?_
  refine z_if_ne (tgt := 28) F dX4_feltBy_1 (by decide) (fun h_1 => ?_) (fun h_1 => ?_)
  · refine z_aload_n F dX4_feltBy_28 rfl ?_
    refine zg_X4_kind F (by assumption) fl_X4_9 dX4_feltBy_29 ?_
    refine z_iconst (v := 1) F dX4_feltBy_32 (by decide) ?_
    refine z_ic_eq (tgt := 49) F dX4_feltBy_33 (by decide) (fun h_33 => ?_) (fun h_33 => ?_)
    · refine z_aload_n F dX4_feltBy_49 rfl ?_
      refine zg_X4_kind F (by assumption) fl_X4_9 dX4_feltBy_50 ?_
      refine z_iconst (v := 3) F dX4_feltBy_53 (by decide) ?_
      refine z_ic_ne (tgt := 73) F dX4_feltBy_54 (by decide) (fun h_54 => ?_) (fun h_54 => ?_)
      · refine z_aload_n F dX4_feltBy_73 rfl ?_
        refine zg_X4_care F (by assumption) fl_X4_21 dX4_feltBy_74 ?_
        refine z_iload_n F dX4_feltBy_77 rfl ?_
        refine z_iadd F dX4_feltBy_78 ?_
        refine z_iret F X dX4_feltBy_79 ?_
        exact ⟨rfl, by simp_all [feltF]⟩
      · refine z_iload_n F dX4_feltBy_57 rfl ?_
        refine z_iconst (v := 3) F dX4_feltBy_58 (by decide) ?_
        refine z_ic_lt (tgt := 73) F dX4_feltBy_59 (by decide) (fun h_59 => ?_) (fun h_59 => ?_)
        · refine z_aload_n F dX4_feltBy_73 rfl ?_
          refine zg_X4_care F (by assumption) fl_X4_21 dX4_feltBy_74 ?_
          refine z_iload_n F dX4_feltBy_77 rfl ?_
          refine z_iadd F dX4_feltBy_78 ?_
          refine z_iret F X dX4_feltBy_79 ?_
          exact ⟨rfl, by simp_all [feltF]⟩
        · refine z_aload_n F dX4_feltBy_62 rfl ?_
          refine zg_X4_care F (by assumption) fl_X4_21 dX4_feltBy_63 ?_
          refine z_iload_n F dX4_feltBy_66 rfl ?_
          refine z_iadd F dX4_feltBy_67 ?_
          refine z_iconst (v := 5) F dX4_feltBy_68 (by decide) ?_
          refine z_iadd F dX4_feltBy_69 ?_
          refine z_goto (tgt := 79) F dX4_feltBy_70 (by decide) ?_
          refine z_iret F X dX4_feltBy_79 ?_
          exact ⟨rfl, by simp_all [feltF]⟩
    · refine z_aload_n F dX4_feltBy_36 rfl ?_
      refine zg_X4_kind F (by assumption) fl_X4_9 dX4_feltBy_37 ?_
      refine z_iconst (v := 3) F dX4_feltBy_40 (by decide) ?_
      refine z_ic_eq (tgt := 49) F dX4_feltBy_41 (by decide) (fun h_41 => ?_) (fun h_41 => ?_)
      · refine z_aload_n F dX4_feltBy_49 rfl ?_
        refine zg_X4_kind F (by assumption) fl_X4_9 dX4_feltBy_50 ?_
        refine z_iconst (v := 3) F dX4_feltBy_53 (by decide) ?_
        refine z_ic_ne (tgt := 73) F dX4_feltBy_54 (by decide) (fun h_54 => ?_) (fun h_54 => ?_)
        · refine z_aload_n F dX4_feltBy_73 rfl ?_
          refine zg_X4_care F (by assumption) fl_X4_21 dX4_feltBy_74 ?_
          refine z_iload_n F dX4_feltBy_77 rfl ?_
          refine z_iadd F dX4_feltBy_78 ?_
          refine z_iret F X dX4_feltBy_79 ?_
          exact ⟨rfl, by simp_all [feltF]⟩
        · refine z_iload_n F dX4_feltBy_57 rfl ?_
          refine z_iconst (v := 3) F dX4_feltBy_58 (by decide) ?_
          refine z_ic_lt (tgt := 73) F dX4_feltBy_59 (by decide) (fun h_59 => ?_) (fun h_59 => ?_)
          · refine z_aload_n F dX4_feltBy_73 rfl ?_
            refine zg_X4_care F (by assumption) fl_X4_21 dX4_feltBy_74 ?_
            refine z_iload_n F dX4_feltBy_77 rfl ?_
            refine z_iadd F dX4_feltBy_78 ?_
            refine z_iret F X dX4_feltBy_79 ?_
            exact ⟨rfl, by simp_all [feltF]⟩
          · refine z_aload_n F dX4_feltBy_62 rfl ?_
            refine zg_X4_care F (by assumption) fl_X4_21 dX4_feltBy_63 ?_
            refine z_iload_n F dX4_feltBy_66 rfl ?_
            refine z_iadd F dX4_feltBy_67 ?_
            refine z_iconst (v := 5) F dX4_feltBy_68 (by decide) ?_
            refine z_iadd F dX4_feltBy_69 ?_
            refine z_goto (tgt := 79) F dX4_feltBy_70 (by decide) ?_
            refine z_iret F X dX4_feltBy_79 ?_
            exact ⟨rfl, by simp_all [feltF]⟩
      · refine z_aload_n F dX4_feltBy_44 rfl ?_
        refine zg_X4_care F (by assumption) fl_X4_21 dX4_feltBy_45 ?_
        refine z_iret F X dX4_feltBy_48 ?_
        exact ⟨rfl, by simp_all [feltF]⟩
  · refine z_aload_n F dX4_feltBy_4 rfl ?_
    refine zg_X4_kind F (by assumption) fl_X4_9 dX4_feltBy_5 ?_
    refine z_iconst (v := 2) F dX4_feltBy_8 (by decide) ?_
    refine z_ic_ne (tgt := 23) F dX4_feltBy_9 (by decide) (fun h_9 => ?_) (fun h_9 => ?_)
    · refine z_aload_n F dX4_feltBy_23 rfl ?_
      refine zg_X4_load F (by assumption) fl_X4_18 dX4_feltBy_24 ?_
      refine z_iret F X dX4_feltBy_27 ?_
      exact ⟨rfl, by simp_all [feltF]⟩
    · refine z_aload_n F dX4_feltBy_12 rfl ?_
      refine zg_X4_load F (by assumption) fl_X4_18 dX4_feltBy_13 ?_
      refine z_iconst (v := 2) F dX4_feltBy_16 (by decide) ?_
      refine z_iload_n F dX4_feltBy_17 rfl ?_
      refine z_imul F dX4_feltBy_18 ?_
      refine z_iadd F dX4_feltBy_19 ?_
      refine z_goto (tgt := 27) F dX4_feltBy_20 (by decide) ?_
      refine z_iret F X dX4_feltBy_27 ?_
      exact ⟨rfl, by simp_all [feltF]⟩
theorem c_X5_hasNew {l : Launch} {w : zE} (J : zJ w) {M : zM} {t : Nat} {x : Int32} (hk : zk t = 5) : zCv l w yX5_hasNew cX5_hasNew 2 0 [.ref (w.2.2 t), .int x] M (fun M2 => M2 = zs (zs M t 0 x) t 1 0) := by
  refine zCv_of J zm_X5_hasNew [some (.ref (w.2.2 t)), some (.int x)] (Nat.le_of_ble_eq_true rfl) rfl (fun g hg F X => ?_)
  subst hg
  refine z_aload_n F dX5_hasNew_0 rfl ?_
  refine z_iload_n F dX5_hasNew_1 rfl ?_
  refine zp_X5_his F (by assumption) fl_X5_9 dX5_hasNew_2 ?_
  refine z_aload_n F dX5_hasNew_5 rfl ?_
  refine z_iconst (v := 0) F dX5_hasNew_6 (by decide) ?_
  refine zp_X5_n F (by assumption) fl_X5_22 dX5_hasNew_7 ?_
  refine z_vret F X dX5_hasNew_10 ?_
  rfl
theorem c_X5_setOut {l : Launch} {w : zE} (J : zJ w) {M : zM} {t : Nat} (hk : zk t = 5) : zCv l w yX5_setOut cX5_setOut 1 1 [.ref (w.2.2 t)] M (fun M2 => M2 = zs (zs (zs (zs M t 0 (-4)) t 1 0) t 2 0) t 3 0) := by
  refine zCv_of J zm_X5_setOut [some (.ref (w.2.2 t))] (Nat.le_of_ble_eq_true rfl) rfl (fun g hg F X => ?_)
  subst hg
  refine z_aload_n F dX5_setOut_0 rfl ?_
  refine z_bipush (v := (-4)) F dX5_setOut_1 (by decide) ?_
  refine z_callVv F (c_X5_hasNew J (by assumption)) zm_X5_hasNew zv_X5_hasNew ml_X5_40 (by assumption) (by decide) rfl rfl rfl (Nat.le_of_ble_eq_true rfl) dX5_setOut_3 (by decide) (fun M_3 h_3 => ?_)
  replace h_3 := Eq.symm h_3
  subst h_3
  refine z_aload_n F dX5_setOut_6 rfl ?_
  refine z_iconst (v := 0) F dX5_setOut_7 (by decide) ?_
  refine zp_X5_mind F (by assumption) fl_X5_25 dX5_setOut_8 ?_
  refine z_aload_n F dX5_setOut_11 rfl ?_
  refine z_iconst (v := 0) F dX5_setOut_12 (by decide) ?_
  refine zp_X5_ahead F (by assumption) fl_X5_28 dX5_setOut_13 ?_
  refine z_vret F X dX5_setOut_16 ?_
  rfl
theorem c_X1_isThing {l : Launch} {w : zE} (J : zJ w) {M : zM} {r : Nat} {x : Int32} (hk : zk r = 1) : zCi l w yX1_isThing cX1_isThing 2 (some .boolean) 0 [.ref (w.2.2 r), .int x] M (fun v M2 => M2 = M ∧ v = bI (0 ≤ x ∧ x < M.1 r 0)) := by
  refine zCi_of J zm_X1_isThing [some (.ref (w.2.2 r)), some (.int x)] (Nat.le_of_ble_eq_true rfl) rfl (fun g hg F X => ?_)
  subst hg
  refine z_iload_n F dX1_isThing_0 rfl ?_
  refine z_if_lt (tgt := 16) F dX1_isThing_1 (by decide) (fun h_1 => ?_) (fun h_1 => ?_)
  · refine z_iconst (v := 0) F dX1_isThing_16 (by decide) ?_
    refine z_zret F X dX1_isThing_17 (by decide) ?_
    exact ⟨rfl, by unfold bI; grind⟩
  · refine z_iload_n F dX1_isThing_4 rfl ?_
    refine z_aload_n F dX1_isThing_5 rfl ?_
    refine zg_X1_thingCount F (by assumption) fl_X1_48 dX1_isThing_6 ?_
    refine z_ic_ge (tgt := 16) F dX1_isThing_9 (by decide) (fun h_9 => ?_) (fun h_9 => ?_)
    · refine z_iconst (v := 0) F dX1_isThing_16 (by decide) ?_
      refine z_zret F X dX1_isThing_17 (by decide) ?_
      exact ⟨rfl, by unfold bI; grind⟩
    · refine z_iconst (v := 1) F dX1_isThing_12 (by decide) ?_
      refine z_goto (tgt := 17) F dX1_isThing_13 (by decide) ?_
      refine z_zret F X dX1_isThing_17 (by decide) ?_
      exact ⟨rfl, by unfold bI; grind⟩
theorem c_X1_isPerson {l : Launch} {w : zE} (J : zJ w) {M : zM} {r : Nat} {x : Int32} (hk : zk r = 1) : zCi l w yX1_isPerson cX1_isPerson 2 (some .boolean) 0 [.ref (w.2.2 r), .int x] M (fun v M2 => M2 = M ∧ v = bI (0 ≤ x ∧ x < M.1 r 1)) := by
  refine zCi_of J zm_X1_isPerson [some (.ref (w.2.2 r)), some (.int x)] (Nat.le_of_ble_eq_true rfl) rfl (fun g hg F X => ?_)
  subst hg
  refine z_iload_n F dX1_isPerson_0 rfl ?_
  refine z_if_lt (tgt := 16) F dX1_isPerson_1 (by decide) (fun h_1 => ?_) (fun h_1 => ?_)
  · refine z_iconst (v := 0) F dX1_isPerson_16 (by decide) ?_
    refine z_zret F X dX1_isPerson_17 (by decide) ?_
    exact ⟨rfl, by unfold bI; grind⟩
  · refine z_iload_n F dX1_isPerson_4 rfl ?_
    refine z_aload_n F dX1_isPerson_5 rfl ?_
    refine zg_X1_personCount F (by assumption) fl_X1_57 dX1_isPerson_6 ?_
    refine z_ic_ge (tgt := 16) F dX1_isPerson_9 (by decide) (fun h_9 => ?_) (fun h_9 => ?_)
    · refine z_iconst (v := 0) F dX1_isPerson_16 (by decide) ?_
      refine z_zret F X dX1_isPerson_17 (by decide) ?_
      exact ⟨rfl, by unfold bI; grind⟩
    · refine z_iconst (v := 1) F dX1_isPerson_12 (by decide) ?_
      refine z_goto (tgt := 17) F dX1_isPerson_13 (by decide) ?_
      refine z_zret F X dX1_isPerson_17 (by decide) ?_
      exact ⟨rfl, by unfold bI; grind⟩
theorem tst1 {x y a : Int32} (h : x < 0) : ¬ (0 ≤ x ∧ x < y) := by grind
theorem tst2 {x y a : Int32} (h : ¬ 0 ≤ x) (h2 : 5 ≤ x + 3) (h3 : x < 99) (h4 : 0 < x): x + 3 < 103 := by grind
theorem tst3 {x y a : Int32} (h : 0 ≤ x) (h2 : x ≤ 99) (h3 : 0 ≤ y) (h4 : y ≤ 20) (h5 : x + y ≤ a): x ≤ a := by grind
end
section
theorem c_X1_worthOf {l : Launch} {w : zE} (J : zJ w) {M : zM} {r : Nat} {x : Int32} (hk : zk r = 1) (hn : M.1 r 0 ≤ 10) : zCi l w yX1_worthOf cX1_worthOf 2 (some .int) 1 [.ref (w.2.2 r), .int x] M (fun v M2 => M2 = M ∧ v = worthO (M.1 (r + 1)) (M.1 r 0) x) := by
  refine zCi_of J zm_X1_worthOf [some (.ref (w.2.2 r)), some (.int x)] (Nat.le_of_ble_eq_true rfl) rfl (fun g hg F X => ?_)
  subst hg
  refine z_aload_n F dX1_worthOf_0 rfl ?_
  refine z_iload_n F dX1_worthOf_1 rfl ?_
  refine z_callVi F (c_X1_isThing J (by assumption)) zm_X1_isThing zv_X1_isThing ml_X1_65 (by assumption) (by decide) rfl rfl rfl (Nat.le_of_ble_eq_true rfl) dX1_worthOf_2 (by decide) (fun r_2 M_2 h_2 => ?_)
  obtain ⟨e_2, rfl⟩ := h_2
  replace e_2 := Eq.symm e_2
  subst e_2
  refine z_if_eq (tgt := 20) F dX1_worthOf_5 (by decide) (fun h_5 => ?_) (fun h_5 => ?_)
  · rw [bI_0] at h_5
    refine z_iconst (v := 0) F dX1_worthOf_20 (by decide) ?_
    refine z_iret F X dX1_worthOf_21 ?_
    first | exact ⟨rfl, by rw [hb_13, ho_13, worthO, if_pos h_5]⟩ | exact ⟨rfl, by rw [worthO, if_neg h_5]⟩
  · rw [bI_1] at h_5
    refine z_aload_n F dX1_worthOf_8 rfl ?_
    refine zg_X1_things F (by assumption) fl_X1_11 dX1_worthOf_9 (fun hk_9 => ?_)
    refine z_iload_n F dX1_worthOf_12 rfl ?_
    refine z_aald16 F (by assumption) (vpl 10 (by decide) (by first | assumption | grind)) dX1_worthOf_13 (fun hk_13 hb_13 ho_13 => ?_)
    refine zg_X4_worth F (by assumption) fl_X1_35 dX1_worthOf_14 ?_
    refine z_goto (tgt := 21) F dX1_worthOf_17 (by decide) ?_
    refine z_iret F X dX1_worthOf_21 ?_
    first | exact ⟨rfl, by rw [hb_13, ho_13, worthO, if_pos h_5]⟩ | exact ⟨rfl, by rw [worthO, if_neg h_5]⟩
theorem c_X1_feelOneMore {l : Launch} {w : zE} (J : zJ w) {M : zM} {r t : Nat} {c : Int32} (hk : zk r = 1) (ht : zk t = 5) (hh : 0 ≤ M.1 t 0 ∧ M.1 t 0 < 10) : zCv l w yX1_feelOneMore cX1_feelOneMore 5 1 [.ref (w.2.2 r), .ref (w.2.2 t), .int c] M (fun M2 => M2 = za M t (feelF (M.1 (r + 1)) c (M.1 t))) := by
  have e1 := (zkf1 r (zk_i hk (by decide)) hk).1
  have n1 : r + 1 ≠ t := zk_ne e1 ht (by decide)
  refine zCv_of J zm_X1_feelOneMore [some (.ref (w.2.2 r)), some (.ref (w.2.2 t)), some (.int c), none, none] (Nat.le_of_ble_eq_true rfl) rfl (fun g hg F X => ?_)
  subst hg
  refine z_aload_n F dX1_feelOneMore_0 rfl ?_
  refine z_dup F dX1_feelOneMore_1 rfl ?_
  refine zg_X5_n F (by assumption) fl_X1_86 dX1_feelOneMore_2 ?_
  refine z_iconst (v := 1) F dX1_feelOneMore_5 (by decide) ?_
  refine z_iadd F dX1_feelOneMore_6 ?_
  refine zp_X5_n F (by assumption) fl_X1_86 dX1_feelOneMore_7 ?_
  refine z_aload_n F dX1_feelOneMore_10 rfl ?_
  refine zg_X1_things F (by assumption) fl_X1_11 dX1_feelOneMore_11 (fun hk_11 => ?_)
  refine z_aload_n F dX1_feelOneMore_14 rfl ?_
  refine zg_X5_his F (by assumption) fl_X1_69 dX1_feelOneMore_15 ?_
  rw [zs_at, va_up_ne _ _ (by decide)]
  refine z_aald16 F (by assumption) (vpl 10 (by decide) hh) dX1_feelOneMore_18 (fun hk_18 hb_18 ho_18 => ?_)
  refine z_astore_n (lv' := [_, _, _, _, _]) F dX1_feelOneMore_19 (by decide) rfl rfl ?_
  refine z_aload_n F dX1_feelOneMore_20 rfl ?_
  refine z_iconst (v := 0) F dX1_feelOneMore_21 (by decide) ?_
  refine z_aload_n F dX1_feelOneMore_22 rfl ?_
  refine zg_X5_n F (by assumption) fl_X1_86 dX1_feelOneMore_23 ?_
  refine z_callVi F (c_X4_feltBy J (by assumption)) zm_X4_feltBy zv_X4_feltBy ml_X1_89 (by assumption) (by decide) rfl rfl rfl (Nat.le_of_ble_eq_true rfl) dX1_feelOneMore_26 (by decide) (fun r_26 M_26 h_26 => ?_)
  obtain ⟨e_26, rfl⟩ := h_26
  replace e_26 := Eq.symm e_26
  subst e_26
  refine z_aload_n F dX1_feelOneMore_29 rfl ?_
  refine z_iconst (v := 1) F dX1_feelOneMore_30 (by decide) ?_
  refine z_aload_n F dX1_feelOneMore_31 rfl ?_
  refine zg_X5_n F (by assumption) fl_X1_86 dX1_feelOneMore_32 ?_
  refine z_callVi F (c_X4_feltBy J (by assumption)) zm_X4_feltBy zv_X4_feltBy ml_X1_89 (by assumption) (by decide) rfl rfl rfl (Nat.le_of_ble_eq_true rfl) dX1_feelOneMore_35 (by decide) (fun r_35 M_35 h_35 => ?_)
  obtain ⟨e_35, rfl⟩ := h_35
  replace e_35 := Eq.symm e_35
  subst e_35
  refine z_iload_n F dX1_feelOneMore_38 rfl ?_
  refine z_imul F dX1_feelOneMore_39 ?_
  refine z_ic_lt (tgt := 47) F dX1_feelOneMore_40 (by decide) (fun h_40 => ?_) (fun h_40 => ?_)
  · refine z_iconst (v := 0) F dX1_feelOneMore_47 (by decide) ?_
    refine z_istore (lv' := [_, _, _, _, _]) F dX1_feelOneMore_48 (by decide) rfl rfl ?_
    refine z_aload_n F dX1_feelOneMore_50 rfl ?_
    refine z_iload F dX1_feelOneMore_51 rfl ?_
    refine z_if_eq (tgt := 60) F dX1_feelOneMore_53 (by decide) (fun h_53 => ?_) (fun h_53 => absurd h_53 (by decide))
    refine z_iconst (v := 1) F dX1_feelOneMore_60 (by decide) ?_
    refine zp_X5_mind F (by assumption) fl_X1_97 dX1_feelOneMore_61 ?_
    refine z_vret F X dX1_feelOneMore_64 ?_
    simp only [hb_18, ho_18, zs_at, va_up_self, zs_off _ n1] at h_40
    simp only [zs_za, za_za, za_at]
    first | rw [feelF, if_pos h_40] | rw [feelF, if_neg (nle h_40)]
  · refine z_iconst (v := 1) F dX1_feelOneMore_43 (by decide) ?_
    refine z_goto (tgt := 48) F dX1_feelOneMore_44 (by decide) ?_
    refine z_istore (lv' := [_, _, _, _, _]) F dX1_feelOneMore_48 (by decide) rfl rfl ?_
    refine z_aload_n F dX1_feelOneMore_50 rfl ?_
    refine z_iload F dX1_feelOneMore_51 rfl ?_
    refine z_if_eq (tgt := 60) F dX1_feelOneMore_53 (by decide) (fun h_53 => absurd h_53 (by decide)) (fun h_53 => ?_)
    refine z_iconst (v := 0) F dX1_feelOneMore_56 (by decide) ?_
    refine z_goto (tgt := 61) F dX1_feelOneMore_57 (by decide) ?_
    refine zp_X5_mind F (by assumption) fl_X1_97 dX1_feelOneMore_61 ?_
    refine z_vret F X dX1_feelOneMore_64 ?_
    simp only [hb_18, ho_18, zs_at, va_up_self, zs_off _ n1] at h_40
    simp only [zs_za, za_za, za_at]
    first | rw [feelF, if_pos h_40] | rw [feelF, if_neg (nle h_40)]
theorem c_X1_isGlad {l : Launch} {w : zE} (J : zJ w) {M : zM} {r t : Nat} {x hd c : Int32} (hk : zk r = 1) (ht : zk t = 5) (hh : 0 ≤ M.1 t 0 ∧ M.1 t 0 < 10) (hx : 0 ≤ x ∧ x < 10) : zCi l w yX1_isGlad cX1_isGlad 8 (some .boolean) 1 [.ref (w.2.2 r), .ref (w.2.2 t), .int x, .int hd, .int c] M (fun v M2 => M2 = M ∧ v = bI (gladF (M.1 (r + 1)) c hd (M.1 t) x)) := by
  refine zCi_of J zm_X1_isGlad [some (.ref (w.2.2 r)), some (.ref (w.2.2 t)), some (.int x), some (.int hd), some (.int c), none, none, none] (Nat.le_of_ble_eq_true rfl) rfl (fun g hg F X => ?_)
  subst hg
  refine z_aload_n F dX1_isGlad_0 rfl ?_
  refine zg_X1_things F (by assumption) fl_X1_11 dX1_isGlad_1 (fun hk_1 => ?_)
  refine z_aload_n F dX1_isGlad_4 rfl ?_
  refine zg_X5_his F (by assumption) fl_X1_69 dX1_isGlad_5 ?_
  refine z_aald16 F (by assumption) (vpl 10 (by decide) (by first | assumption | grind)) dX1_isGlad_8 (fun hk_8 hb_8 ho_8 => ?_)
  refine z_astore (lv' := [_, _, _, _, _, _, _, _]) F dX1_isGlad_9 (by decide) rfl rfl ?_
  refine z_aload_n F dX1_isGlad_11 rfl ?_
  refine zg_X1_things F (by assumption) fl_X1_11 dX1_isGlad_12 (fun hk_12 => ?_)
  refine z_iload_n F dX1_isGlad_15 rfl ?_
  refine z_aald16 F (by assumption) (vpl 10 (by decide) (by first | assumption | grind)) dX1_isGlad_16 (fun hk_16 hb_16 ho_16 => ?_)
  refine z_astore (lv' := [_, _, _, _, _, _, _, _]) F dX1_isGlad_17 (by decide) rfl rfl ?_
  refine z_aload_n F dX1_isGlad_19 rfl ?_
  refine zg_X5_mind F (by assumption) fl_X1_97 dX1_isGlad_20 ?_
  refine z_iconst (v := 1) F dX1_isGlad_23 (by decide) ?_
  refine z_ic_ne (tgt := 32) F dX1_isGlad_24 (by decide) (fun h_24 => ?_) (fun h_24 => ?_)
  · refine z_iconst (v := 1) F dX1_isGlad_32 (by decide) ?_
    refine z_istore (lv' := [_, _, _, _, _, _, _, _]) F dX1_isGlad_33 (by decide) rfl rfl ?_
    refine z_aload F dX1_isGlad_35 rfl ?_
    refine z_aload_n F dX1_isGlad_37 rfl ?_
    refine zg_X5_mind F (by assumption) fl_X1_97 dX1_isGlad_38 ?_
    refine z_aload_n F dX1_isGlad_41 rfl ?_
    refine zg_X5_n F (by assumption) fl_X1_86 dX1_isGlad_42 ?_
    refine z_callVi F (c_X4_feltBy J (by assumption)) zm_X4_feltBy zv_X4_feltBy ml_X1_89 (by assumption) (by decide) rfl rfl rfl (Nat.le_of_ble_eq_true rfl) dX1_isGlad_45 (by decide) (fun r_45 M_45 h_45 => ?_)
    obtain ⟨e_45, rfl⟩ := h_45
    replace e_45 := Eq.symm e_45
    subst e_45
    refine z_iload F dX1_isGlad_48 rfl ?_
    refine z_imul F dX1_isGlad_50 ?_
    refine z_aload F dX1_isGlad_51 rfl ?_
    refine z_aload_n F dX1_isGlad_53 rfl ?_
    refine zg_X5_mind F (by assumption) fl_X1_97 dX1_isGlad_54 ?_
    refine z_iconst (v := 0) F dX1_isGlad_57 (by decide) ?_
    refine z_callVi F (c_X4_feltBy J (by assumption)) zm_X4_feltBy zv_X4_feltBy ml_X1_89 (by assumption) (by decide) rfl rfl rfl (Nat.le_of_ble_eq_true rfl) dX1_isGlad_58 (by decide) (fun r_58 M_58 h_58 => ?_)
    obtain ⟨e_58, rfl⟩ := h_58
    replace e_58 := Eq.symm e_58
    subst e_58
    refine z_ic_le (tgt := 83) F dX1_isGlad_61 (by decide) (fun h_61 => ?_) (fun h_61 => ?_)
    · refine z_iconst (v := 0) F dX1_isGlad_83 (by decide) ?_
      refine z_zret F X dX1_isGlad_84 (by decide) ?_
      refine ⟨rfl, ?_⟩
      try simp only [hb_8, ho_8, hb_16, ho_16] at h_61
      try simp only [hb_8, ho_8, hb_16, ho_16] at h_76
      first | simp only [gladF, timesF_1 h_24] | simp only [gladF, timesF_0 h_24]
      first | exact bI_t ⟨h_61, h_76⟩ | exact bI_f (fun q => nlt h_61 q.1) | exact bI_f (fun q => nle h_76 q.2)
    · refine z_aload F dX1_isGlad_64 rfl ?_
      refine zg_X4_worth F (by assumption) fl_X1_35 dX1_isGlad_66 ?_
      refine z_aload F dX1_isGlad_69 rfl ?_
      refine zg_X4_worth F (by assumption) fl_X1_35 dX1_isGlad_71 ?_
      refine z_isub F dX1_isGlad_74 ?_
      refine z_iload_n F dX1_isGlad_75 rfl ?_
      refine z_ic_gt (tgt := 83) F dX1_isGlad_76 (by decide) (fun h_76 => ?_) (fun h_76 => ?_)
      · refine z_iconst (v := 0) F dX1_isGlad_83 (by decide) ?_
        refine z_zret F X dX1_isGlad_84 (by decide) ?_
        refine ⟨rfl, ?_⟩
        try simp only [hb_8, ho_8, hb_16, ho_16] at h_61
        try simp only [hb_8, ho_8, hb_16, ho_16] at h_76
        first | simp only [gladF, timesF_1 h_24] | simp only [gladF, timesF_0 h_24]
        first | exact bI_t ⟨h_61, h_76⟩ | exact bI_f (fun q => nlt h_61 q.1) | exact bI_f (fun q => nle h_76 q.2)
      · refine z_iconst (v := 1) F dX1_isGlad_79 (by decide) ?_
        refine z_goto (tgt := 84) F dX1_isGlad_80 (by decide) ?_
        refine z_zret F X dX1_isGlad_84 (by decide) ?_
        refine ⟨rfl, ?_⟩
        try simp only [hb_8, ho_8, hb_16, ho_16] at h_61
        try simp only [hb_8, ho_8, hb_16, ho_16] at h_76
        first | simp only [gladF, timesF_1 h_24] | simp only [gladF, timesF_0 h_24]
        first | exact bI_t ⟨h_61, h_76⟩ | exact bI_f (fun q => nlt h_61 q.1) | exact bI_f (fun q => nle h_76 q.2)
  · refine z_iload F dX1_isGlad_27 rfl ?_
    refine z_goto (tgt := 33) F dX1_isGlad_29 (by decide) ?_
    refine z_istore (lv' := [_, _, _, _, _, _, _, _]) F dX1_isGlad_33 (by decide) rfl rfl ?_
    refine z_aload F dX1_isGlad_35 rfl ?_
    refine z_aload_n F dX1_isGlad_37 rfl ?_
    refine zg_X5_mind F (by assumption) fl_X1_97 dX1_isGlad_38 ?_
    refine z_aload_n F dX1_isGlad_41 rfl ?_
    refine zg_X5_n F (by assumption) fl_X1_86 dX1_isGlad_42 ?_
    refine z_callVi F (c_X4_feltBy J (by assumption)) zm_X4_feltBy zv_X4_feltBy ml_X1_89 (by assumption) (by decide) rfl rfl rfl (Nat.le_of_ble_eq_true rfl) dX1_isGlad_45 (by decide) (fun r_45 M_45 h_45 => ?_)
    obtain ⟨e_45, rfl⟩ := h_45
    replace e_45 := Eq.symm e_45
    subst e_45
    refine z_iload F dX1_isGlad_48 rfl ?_
    refine z_imul F dX1_isGlad_50 ?_
    refine z_aload F dX1_isGlad_51 rfl ?_
    refine z_aload_n F dX1_isGlad_53 rfl ?_
    refine zg_X5_mind F (by assumption) fl_X1_97 dX1_isGlad_54 ?_
    refine z_iconst (v := 0) F dX1_isGlad_57 (by decide) ?_
    refine z_callVi F (c_X4_feltBy J (by assumption)) zm_X4_feltBy zv_X4_feltBy ml_X1_89 (by assumption) (by decide) rfl rfl rfl (Nat.le_of_ble_eq_true rfl) dX1_isGlad_58 (by decide) (fun r_58 M_58 h_58 => ?_)
    obtain ⟨e_58, rfl⟩ := h_58
    replace e_58 := Eq.symm e_58
    subst e_58
    refine z_ic_le (tgt := 83) F dX1_isGlad_61 (by decide) (fun h_61 => ?_) (fun h_61 => ?_)
    · refine z_iconst (v := 0) F dX1_isGlad_83 (by decide) ?_
      refine z_zret F X dX1_isGlad_84 (by decide) ?_
      refine ⟨rfl, ?_⟩
      try simp only [hb_8, ho_8, hb_16, ho_16] at h_61
      try simp only [hb_8, ho_8, hb_16, ho_16] at h_76
      first | simp only [gladF, timesF_1 h_24] | simp only [gladF, timesF_0 h_24]
      first | exact bI_t ⟨h_61, h_76⟩ | exact bI_f (fun q => nlt h_61 q.1) | exact bI_f (fun q => nle h_76 q.2)
    · refine z_aload F dX1_isGlad_64 rfl ?_
      refine zg_X4_worth F (by assumption) fl_X1_35 dX1_isGlad_66 ?_
      refine z_aload F dX1_isGlad_69 rfl ?_
      refine zg_X4_worth F (by assumption) fl_X1_35 dX1_isGlad_71 ?_
      refine z_isub F dX1_isGlad_74 ?_
      refine z_iload_n F dX1_isGlad_75 rfl ?_
      refine z_ic_gt (tgt := 83) F dX1_isGlad_76 (by decide) (fun h_76 => ?_) (fun h_76 => ?_)
      · refine z_iconst (v := 0) F dX1_isGlad_83 (by decide) ?_
        refine z_zret F X dX1_isGlad_84 (by decide) ?_
        refine ⟨rfl, ?_⟩
        try simp only [hb_8, ho_8, hb_16, ho_16] at h_61
        try simp only [hb_8, ho_8, hb_16, ho_16] at h_76
        first | simp only [gladF, timesF_1 h_24] | simp only [gladF, timesF_0 h_24]
        first | exact bI_t ⟨h_61, h_76⟩ | exact bI_f (fun q => nlt h_61 q.1) | exact bI_f (fun q => nle h_76 q.2)
      · refine z_iconst (v := 1) F dX1_isGlad_79 (by decide) ?_
        refine z_goto (tgt := 84) F dX1_isGlad_80 (by decide) ?_
        refine z_zret F X dX1_isGlad_84 (by decide) ?_
        refine ⟨rfl, ?_⟩
        try simp only [hb_8, ho_8, hb_16, ho_16] at h_61
        try simp only [hb_8, ho_8, hb_16, ho_16] at h_76
        first | simp only [gladF, timesF_1 h_24] | simp only [gladF, timesF_0 h_24]
        first | exact bI_t ⟨h_61, h_76⟩ | exact bI_f (fun q => nlt h_61 q.1) | exact bI_f (fun q => nle h_76 q.2)

theorem c_X1_offer {l : Launch} {w : zE} (J : zJ w) {M : zM} {r t p : Nat} {c : Int32} (hk : zk r = 1) (ht : zk t = 5) (hh : 0 ≤ M.1 t 0 ∧ M.1 t 0 < 10) (hp : p < 9) (hx : 0 ≤ M.1 t (5 + p) ∧ M.1 t (5 + p) < 10) : zCv l w yX1_offer cX1_offer 6 2 [.ref (w.2.2 r), .ref (w.2.2 t), .int (nI p), .int c] M (fun M2 => M2 = za (za M t (offT (M.1 (r + 1)) (M.1 (r + 12) (2 * p + 1)) (M.1 r 2) c (5 + p) (M.1 t))) (t + 1) (va_up (M.1 (t + 1)) 0 (offR (M.1 (r + 1)) (M.1 (r + 12) (2 * p + 1)) (M.1 r 2) c (5 + p) (M.1 t) (M.1 (t + 1) 0)))) := by
  have e1 := (zkf1 r (zk_i hk (by decide)) hk).1
  have e5 := zkf5 t (zk_i ht (by decide)) ht
  have n1 : r + 1 ≠ t := zk_ne e1 ht (by decide)
  have n2 : t + 1 ≠ t := by omega
  have hpin : vp_in (nI p) 9 := vp_in_nI hp (by decide)
  have hpc : (nI p).toNatClampNeg = p := nI_clamp (by omega)
  refine zCv_of J zm_X1_offer [some (.ref (w.2.2 r)), some (.ref (w.2.2 t)), some (.int (nI p)), some (.int c), none, none] (Nat.le_of_ble_eq_true rfl) rfl (fun g hg F X => ?_)
  subst hg
  refine z_aload_n F dX1_offer_0 rfl ?_
  refine zg_X5_theirs F (by assumption) fl_X1_60 dX1_offer_1 (fun hk_1 => ?_)
  refine z_iload_n F dX1_offer_4 rfl ?_
  refine z_iald11 F (by assumption) hpin dX1_offer_5 ?_
  rw [hpc]
  refine z_istore (lv' := [_, _, _, _, _, _]) F dX1_offer_6 (by decide) rfl rfl ?_
  refine z_aload_n F dX1_offer_8 rfl ?_
  refine z_aload_n F dX1_offer_9 rfl ?_
  refine z_iload F dX1_offer_10 rfl ?_
  refine z_aload_n F dX1_offer_12 rfl ?_
  refine zg_X1_heed F (by assumption) fl_X1_24 dX1_offer_13 ?_
  refine z_iload_n F dX1_offer_16 rfl ?_
  refine z_callVi F (c_X1_isGlad J hk ht hh hx) zm_X1_isGlad zv_X1_isGlad ml_X1_100 (by assumption) (by decide) rfl rfl rfl (Nat.le_of_ble_eq_true rfl) dX1_offer_17 (by decide) (fun r_17 M_17 h_17 => ?_)
  obtain ⟨e_17, rfl⟩ := h_17
  replace e_17 := Eq.symm e_17
  subst e_17
  refine z_if_ne (tgt := 24) F dX1_offer_20 (by decide) (fun h_20 => ?_) (fun h_20 => ?_)
  · rw [bI_1] at h_20
    refine z_aload_n F dX1_offer_24 rfl ?_
    refine zg_X1_things F (by assumption) fl_X1_11 dX1_offer_25 (fun hk_25 => ?_)
    refine z_aload_n F dX1_offer_28 rfl ?_
    refine zg_X5_his F (by assumption) fl_X1_69 dX1_offer_29 ?_
    refine z_aald16 F (by assumption) (vpl 10 (by decide) (by first | assumption | grind)) dX1_offer_32 (fun hk_32 hb_32 ho_32 => ?_)
    refine zg_X4_worth F (by assumption) fl_X1_35 dX1_offer_33 ?_
    refine z_aload_n F dX1_offer_36 rfl ?_
    refine zg_X1_things F (by assumption) fl_X1_11 dX1_offer_37 (fun hk_37 => ?_)
    refine z_iload F dX1_offer_40 rfl ?_
    refine z_aald16 F (by assumption) (vpl 10 (by decide) (by first | assumption | grind)) dX1_offer_42 (fun hk_42 hb_42 ho_42 => ?_)
    refine zg_X4_worth F (by assumption) fl_X1_35 dX1_offer_43 ?_
    refine z_aload_n F dX1_offer_46 rfl ?_
    refine zg_X1_margin F (by assumption) fl_X1_21 dX1_offer_47 (fun hk_47 => ?_)
    refine z_iload_n F dX1_offer_50 rfl ?_
    refine z_iald13 F (by assumption) hpin dX1_offer_51 ?_
    rw [hpc]
    refine z_iadd F dX1_offer_52 ?_
    refine z_ic_lt (tgt := 60) F dX1_offer_53 (by decide) (fun h_53 => ?_) (fun h_53 => ?_)
    · refine z_iconst (v := 0) F dX1_offer_60 (by decide) ?_
      refine z_istore (lv' := [_, _, _, _, _, _]) F dX1_offer_61 (by decide) rfl rfl ?_
      refine z_iload F dX1_offer_63 rfl ?_
      refine z_if_eq (tgt := 97) F dX1_offer_65 (by decide) (fun h_65 => ?_) (fun h_65 => absurd h_65 (by decide))
      refine z_aload_n F dX1_offer_97 rfl ?_
      refine zg_X5_refused F (by assumption) fl_X1_104 dX1_offer_98 ?_
      refine z_bipush (v := (-4)) F dX1_offer_101 (by decide) ?_
      refine z_ic_ne (tgt := 114) F dX1_offer_103 (by decide) (fun h_103 => ?_) (fun h_103 => ?_)
      · refine z_vret F X dX1_offer_114 ?_
        trace_state
        sorry
      · refine z_aload_n F dX1_offer_106 rfl ?_
        refine z_aload_n F dX1_offer_107 rfl ?_
        refine zg_X5_ahead F (by assumption) fl_X1_79 dX1_offer_108 ?_
        refine zp_X5_refused F (by assumption) fl_X1_104 dX1_offer_111 ?_
        refine z_vret F X dX1_offer_114 ?_
        trace_state
        sorry
    · refine z_iconst (v := 1) F dX1_offer_56 (by decide) ?_
      refine z_goto (tgt := 61) F dX1_offer_57 (by decide) ?_
      refine z_istore (lv' := [_, _, _, _, _, _]) F dX1_offer_61 (by decide) rfl rfl ?_
      refine z_iload F dX1_offer_63 rfl ?_
      refine z_if_eq (tgt := 97) F dX1_offer_65 (by decide) (fun h_65 => absurd h_65 (by decide)) (fun h_65 => ?_)
      refine z_aload_n F dX1_offer_68 rfl ?_
      refine zg_X5_theirs F (by assumption) fl_X1_60 dX1_offer_69 (fun hk_69 => ?_)
      refine z_iload_n F dX1_offer_72 rfl ?_
      refine z_aload_n F dX1_offer_73 rfl ?_
      refine zg_X5_his F (by assumption) fl_X1_69 dX1_offer_74 ?_
      refine z_iast11 F (by assumption) hpin dX1_offer_77 ?_
      rw [hpc]
      refine z_aload_n F dX1_offer_78 rfl ?_
      refine z_iload F dX1_offer_79 rfl ?_
      refine z_callVv F (c_X5_hasNew J (by assumption)) zm_X5_hasNew zv_X5_hasNew ml_X1_93 (by assumption) (by decide) rfl rfl rfl (Nat.le_of_ble_eq_true rfl) dX1_offer_81 (by decide) (fun M_81 h_81 => ?_)
      replace h_81 := Eq.symm h_81
      subst h_81
      refine z_aload_n F dX1_offer_84 rfl ?_
      refine z_dup F dX1_offer_85 rfl ?_
      refine zg_X5_changes F (by assumption) fl_X1_72 dX1_offer_86 ?_
      refine z_iconst (v := 1) F dX1_offer_89 (by decide) ?_
      refine z_iadd F dX1_offer_90 ?_
      refine zp_X5_changes F (by assumption) fl_X1_72 dX1_offer_91 ?_
      refine z_goto (tgt := 114) F dX1_offer_94 (by decide) ?_
      refine z_vret F X dX1_offer_114 ?_
      trace_state
      sorry
  · rw [bI_0] at h_20
    refine z_vret F X dX1_offer_23 ?_
    trace_state
    sorry
end
