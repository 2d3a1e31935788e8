-- ===== PART A: goes FIRST, ahead of the names: the tables' words, and 'selects' of the private methods out of them =====
/-- a private method of a class that the tables say can be made, by its rows of tables_1 -/
def lw_okq (q : MethodName × Nat) : Prop := (q.1.cls ≠ "java/lang/invoke/MethodHandle" ∧ q.1.cls ≠ "java/lang/invoke/VarHandle") ∧ Cond.instantiable q.1.cls q.2 ∈ tables_1 ∧ Cond.privateMethod q.1 ∈ tables_1 ∧ Cond.instanceMethod q.1 ∈ tables_1
theorem lw_p0 : lw_okq (⟨"TrackRows", "matchAll", "()V"⟩, 11) := ⟨⟨by decide +kernel, by decide +kernel⟩, List.mem_of_getElem? (i := 17) (by decide +kernel), List.mem_of_getElem? (i := 203) (by decide +kernel), List.mem_of_getElem? (i := 204) (by decide +kernel)⟩
theorem lw_p1 : lw_okq (⟨"TrackRows", "weightOf", "(ILTrackRows$Device;)J"⟩, 11) := ⟨⟨by decide +kernel, by decide +kernel⟩, List.mem_of_getElem? (i := 17) (by decide +kernel), List.mem_of_getElem? (i := 207) (by decide +kernel), List.mem_of_getElem? (i := 208) (by decide +kernel)⟩
theorem lw_p2 : lw_okq (⟨"TrackRows$Clock", "between", "(III)I"⟩, 3) := ⟨⟨by decide +kernel, by decide +kernel⟩, List.mem_of_getElem? (i := 119) (by decide +kernel), List.mem_of_getElem? (i := 227) (by decide +kernel), List.mem_of_getElem? (i := 228) (by decide +kernel)⟩
theorem lw_p3 : lw_okq (⟨"TrackRows$Matching", "sumUp", "()V"⟩, 5) := ⟨⟨by decide +kernel, by decide +kernel⟩, List.mem_of_getElem? (i := 64) (by decide +kernel), List.mem_of_getElem? (i := 246) (by decide +kernel), List.mem_of_getElem? (i := 247) (by decide +kernel)⟩
theorem lw_p4 : lw_okq (⟨"TrackRows$Matching", "firstBest", "(II)I"⟩, 5) := ⟨⟨by decide +kernel, by decide +kernel⟩, List.mem_of_getElem? (i := 64) (by decide +kernel), List.mem_of_getElem? (i := 250) (by decide +kernel), List.mem_of_getElem? (i := 251) (by decide +kernel)⟩
theorem lw_p5 : lw_okq (⟨"TrackRows$Matching", "sumWith", "(III)J"⟩, 5) := ⟨⟨by decide +kernel, by decide +kernel⟩, List.mem_of_getElem? (i := 64) (by decide +kernel), List.mem_of_getElem? (i := 254) (by decide +kernel), List.mem_of_getElem? (i := 255) (by decide +kernel)⟩
theorem lw_p6 : lw_okq (⟨"java/lang/Throwable", "fillInStackTrace", "(I)Ljava/lang/Throwable;"⟩, 6) := ⟨⟨by decide +kernel, by decide +kernel⟩, List.mem_of_getElem? (i := 313) (by decide +kernel), List.mem_of_getElem? (i := 311) (by decide +kernel), List.mem_of_getElem? (i := 312) (by decide +kernel)⟩
theorem lw_p7 : lw_okq (⟨"TrackRows", "deviceOf", "(I)LTrackRows$Device;"⟩, 11) := ⟨⟨by decide +kernel, by decide +kernel⟩, List.mem_of_getElem? (i := 17) (by decide +kernel), List.mem_of_getElem? (i := 347) (by decide +kernel), List.mem_of_getElem? (i := 348) (by decide +kernel)⟩
theorem lw_p8 : lw_okq (⟨"TrackRows$Device", "isJump", "(II)Z"⟩, 3) := ⟨⟨by decide +kernel, by decide +kernel⟩, List.mem_of_getElem? (i := 111) (by decide +kernel), List.mem_of_getElem? (i := 423) (by decide +kernel), List.mem_of_getElem? (i := 424) (by decide +kernel)⟩
theorem lw_p9 : lw_okq (⟨"TrackRows$Device", "isBehindGap", "(II)Z"⟩, 3) := ⟨⟨by decide +kernel, by decide +kernel⟩, List.mem_of_getElem? (i := 111) (by decide +kernel), List.mem_of_getElem? (i := 436) (by decide +kernel), List.mem_of_getElem? (i := 437) (by decide +kernel)⟩
theorem lw_p10 : lw_okq (⟨"TrackRows", "deviceWithPlace", "(II)LTrackRows$Device;"⟩, 11) := ⟨⟨by decide +kernel, by decide +kernel⟩, List.mem_of_getElem? (i := 17) (by decide +kernel), List.mem_of_getElem? (i := 447) (by decide +kernel), List.mem_of_getElem? (i := 448) (by decide +kernel)⟩
theorem lw_p11 : lw_okq (⟨"TrackRows", "fenceOf", "(I)LTrackRows$Fence;"⟩, 11) := ⟨⟨by decide +kernel, by decide +kernel⟩, List.mem_of_getElem? (i := 17) (by decide +kernel), List.mem_of_getElem? (i := 552) (by decide +kernel), List.mem_of_getElem? (i := 553) (by decide +kernel)⟩
theorem lw_p12 : lw_okq (⟨"TrackRows$Fence", "turn", "(IIII)J"⟩, 3) := ⟨⟨by decide +kernel, by decide +kernel⟩, List.mem_of_getElem? (i := 148) (by decide +kernel), List.mem_of_getElem? (i := 571) (by decide +kernel), List.mem_of_getElem? (i := 572) (by decide +kernel)⟩
theorem lw_p13 : lw_okq (⟨"TrackRows$Fence", "isBeside", "(IIII)Z"⟩, 3) := ⟨⟨by decide +kernel, by decide +kernel⟩, List.mem_of_getElem? (i := 148) (by decide +kernel), List.mem_of_getElem? (i := 575) (by decide +kernel), List.mem_of_getElem? (i := 576) (by decide +kernel)⟩
theorem lw_p14 : lw_okq (⟨"TrackRows$Bytes", "appendDifference", "(I)V"⟩, 4) := ⟨⟨by decide +kernel, by decide +kernel⟩, List.mem_of_getElem? (i := 91) (by decide +kernel), List.mem_of_getElem? (i := 599) (by decide +kernel), List.mem_of_getElem? (i := 600) (by decide +kernel)⟩
theorem lw_p15 : lw_okq (⟨"TrackRows$Bytes", "nextDifference", "()I"⟩, 4) := ⟨⟨by decide +kernel, by decide +kernel⟩, List.mem_of_getElem? (i := 91) (by decide +kernel), List.mem_of_getElem? (i := 633) (by decide +kernel), List.mem_of_getElem? (i := 634) (by decide +kernel)⟩
def lw_privs_1 : List (MethodName × Nat) := [(⟨"TrackRows", "matchAll", "()V"⟩, 11), (⟨"TrackRows", "weightOf", "(ILTrackRows$Device;)J"⟩, 11), (⟨"TrackRows$Clock", "between", "(III)I"⟩, 3), (⟨"TrackRows$Matching", "sumUp", "()V"⟩, 5), (⟨"TrackRows$Matching", "firstBest", "(II)I"⟩, 5), (⟨"TrackRows$Matching", "sumWith", "(III)J"⟩, 5), (⟨"java/lang/Throwable", "fillInStackTrace", "(I)Ljava/lang/Throwable;"⟩, 6), (⟨"TrackRows", "deviceOf", "(I)LTrackRows$Device;"⟩, 11), (⟨"TrackRows$Device", "isJump", "(II)Z"⟩, 3), (⟨"TrackRows$Device", "isBehindGap", "(II)Z"⟩, 3), (⟨"TrackRows", "deviceWithPlace", "(II)LTrackRows$Device;"⟩, 11), (⟨"TrackRows", "fenceOf", "(I)LTrackRows$Fence;"⟩, 11), (⟨"TrackRows$Fence", "turn", "(IIII)J"⟩, 3), (⟨"TrackRows$Fence", "isBeside", "(IIII)Z"⟩, 3), (⟨"TrackRows$Bytes", "appendDifference", "(I)V"⟩, 4), (⟨"TrackRows$Bytes", "nextDifference", "()I"⟩, 4)]
theorem lw_r1 : ∀ q ∈ lw_privs_1, lw_okq q := List.forall_mem_cons.mpr ⟨lw_p0, List.forall_mem_cons.mpr ⟨lw_p1, List.forall_mem_cons.mpr ⟨lw_p2, List.forall_mem_cons.mpr ⟨lw_p3, List.forall_mem_cons.mpr ⟨lw_p4, List.forall_mem_cons.mpr ⟨lw_p5, List.forall_mem_cons.mpr ⟨lw_p6, List.forall_mem_cons.mpr ⟨lw_p7, List.forall_mem_cons.mpr ⟨lw_p8, List.forall_mem_cons.mpr ⟨lw_p9, List.forall_mem_cons.mpr ⟨lw_p10, List.forall_mem_cons.mpr ⟨lw_p11, List.forall_mem_cons.mpr ⟨lw_p12, List.forall_mem_cons.mpr ⟨lw_p13, List.forall_mem_cons.mpr ⟨lw_p14, List.forall_mem_cons.mpr ⟨lw_p15, fun _ h => absurd h List.not_mem_nil⟩⟩⟩⟩⟩⟩⟩⟩⟩⟩⟩⟩⟩⟩⟩⟩
theorem lw_p16 : lw_okq (⟨"TrackRows$Places", "sameSteps", "(III)Z"⟩, 5) := ⟨⟨by decide +kernel, by decide +kernel⟩, List.mem_of_getElem? (i := 29) (by decide +kernel), List.mem_of_getElem? (i := 659) (by decide +kernel), List.mem_of_getElem? (i := 660) (by decide +kernel)⟩
theorem lw_p17 : lw_okq (⟨"TrackRows$Places", "sameStep", "(II)Z"⟩, 5) := ⟨⟨by decide +kernel, by decide +kernel⟩, List.mem_of_getElem? (i := 29) (by decide +kernel), List.mem_of_getElem? (i := 663) (by decide +kernel), List.mem_of_getElem? (i := 664) (by decide +kernel)⟩
theorem lw_p18 : lw_okq (⟨"TrackRowsModel", "fails", "(ZI)Z"⟩, 29) := ⟨⟨by decide +kernel, by decide +kernel⟩, List.mem_of_getElem? (i := 695) (by decide +kernel), List.mem_of_getElem? (i := 797) (by decide +kernel), List.mem_of_getElem? (i := 798) (by decide +kernel)⟩
theorem lw_p19 : lw_okq (⟨"TrackRowsModel", "isDevice", "(I)Z"⟩, 29) := ⟨⟨by decide +kernel, by decide +kernel⟩, List.mem_of_getElem? (i := 695) (by decide +kernel), List.mem_of_getElem? (i := 805) (by decide +kernel), List.mem_of_getElem? (i := 806) (by decide +kernel)⟩
theorem lw_p20 : lw_okq (⟨"TrackRowsModel", "before", "(II)I"⟩, 29) := ⟨⟨by decide +kernel, by decide +kernel⟩, List.mem_of_getElem? (i := 695) (by decide +kernel), List.mem_of_getElem? (i := 818) (by decide +kernel), List.mem_of_getElem? (i := 819) (by decide +kernel)⟩
theorem lw_p21 : lw_okq (⟨"TrackRowsModel", "countOf", "(IZ)I"⟩, 29) := ⟨⟨by decide +kernel, by decide +kernel⟩, List.mem_of_getElem? (i := 695) (by decide +kernel), List.mem_of_getElem? (i := 827) (by decide +kernel), List.mem_of_getElem? (i := 828) (by decide +kernel)⟩
theorem lw_p22 : lw_okq (⟨"TrackRowsModel", "is", "(IIZ)Z"⟩, 29) := ⟨⟨by decide +kernel, by decide +kernel⟩, List.mem_of_getElem? (i := 695) (by decide +kernel), List.mem_of_getElem? (i := 831) (by decide +kernel), List.mem_of_getElem? (i := 832) (by decide +kernel)⟩
theorem lw_p23 : lw_okq (⟨"TrackRowsModel", "between", "(II)J"⟩, 29) := ⟨⟨by decide +kernel, by decide +kernel⟩, List.mem_of_getElem? (i := 695) (by decide +kernel), List.mem_of_getElem? (i := 835) (by decide +kernel), List.mem_of_getElem? (i := 836) (by decide +kernel)⟩
theorem lw_p24 : lw_okq (⟨"TrackRowsModel", "timeOf", "(II)I"⟩, 29) := ⟨⟨by decide +kernel, by decide +kernel⟩, List.mem_of_getElem? (i := 695) (by decide +kernel), List.mem_of_getElem? (i := 839) (by decide +kernel), List.mem_of_getElem? (i := 840) (by decide +kernel)⟩
theorem lw_p25 : lw_okq (⟨"TrackRowsModel", "isPlace", "(II)Z"⟩, 29) := ⟨⟨by decide +kernel, by decide +kernel⟩, List.mem_of_getElem? (i := 695) (by decide +kernel), List.mem_of_getElem? (i := 850) (by decide +kernel), List.mem_of_getElem? (i := 851) (by decide +kernel)⟩
theorem lw_p26 : lw_okq (⟨"TrackRowsModel", "find", "(IIZ)I"⟩, 29) := ⟨⟨by decide +kernel, by decide +kernel⟩, List.mem_of_getElem? (i := 695) (by decide +kernel), List.mem_of_getElem? (i := 876) (by decide +kernel), List.mem_of_getElem? (i := 877) (by decide +kernel)⟩
theorem lw_p27 : lw_okq (⟨"TrackRowsModel", "way", "(IIII)J"⟩, 29) := ⟨⟨by decide +kernel, by decide +kernel⟩, List.mem_of_getElem? (i := 695) (by decide +kernel), List.mem_of_getElem? (i := 890) (by decide +kernel), List.mem_of_getElem? (i := 891) (by decide +kernel)⟩
theorem lw_p28 : lw_okq (⟨"TrackRowsModel", "secondsFor", "(J)J"⟩, 29) := ⟨⟨by decide +kernel, by decide +kernel⟩, List.mem_of_getElem? (i := 695) (by decide +kernel), List.mem_of_getElem? (i := 897) (by decide +kernel), List.mem_of_getElem? (i := 898) (by decide +kernel)⟩
theorem lw_p29 : lw_okq (⟨"TrackRowsModel", "isIn", "(II)Z"⟩, 29) := ⟨⟨by decide +kernel, by decide +kernel⟩, List.mem_of_getElem? (i := 695) (by decide +kernel), List.mem_of_getElem? (i := 914) (by decide +kernel), List.mem_of_getElem? (i := 915) (by decide +kernel)⟩
theorem lw_p30 : lw_okq (⟨"TrackRowsModel", "put", "(I)V"⟩, 29) := ⟨⟨by decide +kernel, by decide +kernel⟩, List.mem_of_getElem? (i := 695) (by decide +kernel), List.mem_of_getElem? (i := 926) (by decide +kernel), List.mem_of_getElem? (i := 927) (by decide +kernel)⟩
theorem lw_p31 : lw_okq (⟨"TrackRowsModel", "difference", "()I"⟩, 29) := ⟨⟨by decide +kernel, by decide +kernel⟩, List.mem_of_getElem? (i := 695) (by decide +kernel), List.mem_of_getElem? (i := 943) (by decide +kernel), List.mem_of_getElem? (i := 944) (by decide +kernel)⟩
def lw_privs_2 : List (MethodName × Nat) := [(⟨"TrackRows$Places", "sameSteps", "(III)Z"⟩, 5), (⟨"TrackRows$Places", "sameStep", "(II)Z"⟩, 5), (⟨"TrackRowsModel", "fails", "(ZI)Z"⟩, 29), (⟨"TrackRowsModel", "isDevice", "(I)Z"⟩, 29), (⟨"TrackRowsModel", "before", "(II)I"⟩, 29), (⟨"TrackRowsModel", "countOf", "(IZ)I"⟩, 29), (⟨"TrackRowsModel", "is", "(IIZ)Z"⟩, 29), (⟨"TrackRowsModel", "between", "(II)J"⟩, 29), (⟨"TrackRowsModel", "timeOf", "(II)I"⟩, 29), (⟨"TrackRowsModel", "isPlace", "(II)Z"⟩, 29), (⟨"TrackRowsModel", "find", "(IIZ)I"⟩, 29), (⟨"TrackRowsModel", "way", "(IIII)J"⟩, 29), (⟨"TrackRowsModel", "secondsFor", "(J)J"⟩, 29), (⟨"TrackRowsModel", "isIn", "(II)Z"⟩, 29), (⟨"TrackRowsModel", "put", "(I)V"⟩, 29), (⟨"TrackRowsModel", "difference", "()I"⟩, 29)]
theorem lw_r2 : ∀ q ∈ lw_privs_2, lw_okq q := List.forall_mem_cons.mpr ⟨lw_p16, List.forall_mem_cons.mpr ⟨lw_p17, List.forall_mem_cons.mpr ⟨lw_p18, List.forall_mem_cons.mpr ⟨lw_p19, List.forall_mem_cons.mpr ⟨lw_p20, List.forall_mem_cons.mpr ⟨lw_p21, List.forall_mem_cons.mpr ⟨lw_p22, List.forall_mem_cons.mpr ⟨lw_p23, List.forall_mem_cons.mpr ⟨lw_p24, List.forall_mem_cons.mpr ⟨lw_p25, List.forall_mem_cons.mpr ⟨lw_p26, List.forall_mem_cons.mpr ⟨lw_p27, List.forall_mem_cons.mpr ⟨lw_p28, List.forall_mem_cons.mpr ⟨lw_p29, List.forall_mem_cons.mpr ⟨lw_p30, List.forall_mem_cons.mpr ⟨lw_p31, fun _ h => absurd h List.not_mem_nil⟩⟩⟩⟩⟩⟩⟩⟩⟩⟩⟩⟩⟩⟩⟩⟩
theorem lw_p32 : lw_okq (⟨"TrackRowsModel", "isSame", "(III)Z"⟩, 29) := ⟨⟨by decide +kernel, by decide +kernel⟩, List.mem_of_getElem? (i := 695) (by decide +kernel), List.mem_of_getElem? (i := 955) (by decide +kernel), List.mem_of_getElem? (i := 956) (by decide +kernel)⟩
theorem lw_p33 : lw_okq (⟨"TrackRowsModel", "weightOf", "(II)J"⟩, 29) := ⟨⟨by decide +kernel, by decide +kernel⟩, List.mem_of_getElem? (i := 695) (by decide +kernel), List.mem_of_getElem? (i := 967) (by decide +kernel), List.mem_of_getElem? (i := 968) (by decide +kernel)⟩
theorem lw_p34 : lw_okq (⟨"TrackRowsModel", "findWay", "()V"⟩, 29) := ⟨⟨by decide +kernel, by decide +kernel⟩, List.mem_of_getElem? (i := 695) (by decide +kernel), List.mem_of_getElem? (i := 979) (by decide +kernel), List.mem_of_getElem? (i := 980) (by decide +kernel)⟩
theorem lw_p35 : lw_okq (⟨"TrackRowsModel", "digit", "(II)I"⟩, 29) := ⟨⟨by decide +kernel, by decide +kernel⟩, List.mem_of_getElem? (i := 695) (by decide +kernel), List.mem_of_getElem? (i := 983) (by decide +kernel), List.mem_of_getElem? (i := 984) (by decide +kernel)⟩
def lw_privs_3 : List (MethodName × Nat) := [(⟨"TrackRowsModel", "isSame", "(III)Z"⟩, 29), (⟨"TrackRowsModel", "weightOf", "(II)J"⟩, 29), (⟨"TrackRowsModel", "findWay", "()V"⟩, 29), (⟨"TrackRowsModel", "digit", "(II)I"⟩, 29)]
theorem lw_r3 : ∀ q ∈ lw_privs_3, lw_okq q := List.forall_mem_cons.mpr ⟨lw_p32, List.forall_mem_cons.mpr ⟨lw_p33, List.forall_mem_cons.mpr ⟨lw_p34, List.forall_mem_cons.mpr ⟨lw_p35, fun _ h => absurd h List.not_mem_nil⟩⟩⟩⟩
def lw_privs : List (MethodName × Nat) := lw_privs_1 ++ (lw_privs_2 ++ (lw_privs_3))
def lw_tbl : List Cond := k2_sels lw_privs ++ tables_1
theorem lw_privs_ok : ∀ q ∈ lw_privs, lw_okq q := by
  show ∀ q ∈ lw_privs_1 ++ (lw_privs_2 ++ (lw_privs_3)), lw_okq q
  exact List.forall_mem_append.mpr ⟨lw_r1, List.forall_mem_append.mpr ⟨lw_r2, lw_r3⟩⟩
def RX0 : String := "TrackRows$Bytes"
def TX0 : u_T := fun k => match k with
  | 0 => ("TrackRows$Bytes", "row", "[I", true)
  | 1 => ("TrackRows$Bytes", "count", "I", false)
  | 2 => ("TrackRows$Bytes", "next", "I", false)
  | _ => ("TrackRows$Bytes", "sound", "Z", false)
def tyX0 : Nat → FieldType := fun k => match k with
  | 0 => .array .int
  | 1 => .int
  | 2 => .int
  | _ => .boolean
theorem nmX0 : ∀ a, a < 4 → ∀ b, b < 4 → a ≠ b → (TX0 a).2.1 ≠ (TX0 b).2.1 := by decide +kernel
theorem tyX0_ok : ∀ k, k < 4 → parseFieldDescriptor (TX0 k).2.2.1 = some (tyX0 k) := by decide +kernel
abbrev cX0_init : ByteArray := prog_2_method_1_code
def yX0_init : MethodName := ⟨RX0, "<init>", "()V"⟩
abbrev cX0_append : ByteArray := prog_2_method_2_code
def yX0_append : MethodName := ⟨RX0, "append", "(I)V"⟩
abbrev cX0_packFrom : ByteArray := prog_2_method_3_code
def yX0_packFrom : MethodName := ⟨RX0, "packFrom", "(LTrackRows$Places;)V"⟩
abbrev cX0_appendDifference : ByteArray := prog_2_method_4_code
def yX0_appendDifference : MethodName := ⟨RX0, "appendDifference", "(I)V"⟩
abbrev cX0_unpackTo : ByteArray := prog_2_method_5_code
def yX0_unpackTo : MethodName := ⟨RX0, "unpackTo", "(LTrackRows$Places;)Z"⟩
abbrev cX0_nextDifference : ByteArray := prog_2_method_6_code
def yX0_nextDifference : MethodName := ⟨RX0, "nextDifference", "()I"⟩
def RX1 : String := "TrackRows$Clock"
def TX1 : u_T := fun k => match k with
  | 0 => ("TrackRows$Clock", "seconds", "[I", true)
  | 1 => ("TrackRows$Clock", "times", "[I", true)
  | _ => ("TrackRows$Clock", "count", "I", false)
def tyX1 : Nat → FieldType := fun k => match k with
  | 0 => .array .int
  | 1 => .array .int
  | _ => .int
theorem nmX1 : ∀ a, a < 3 → ∀ b, b < 3 → a ≠ b → (TX1 a).2.1 ≠ (TX1 b).2.1 := by decide +kernel
theorem tyX1_ok : ∀ k, k < 3 → parseFieldDescriptor (TX1 k).2.2.1 = some (tyX1 k) := by decide +kernel
abbrev cX1_init : ByteArray := prog_3_method_1_code
def yX1_init : MethodName := ⟨RX1, "<init>", "()V"⟩
abbrev cX1_numberFor : ByteArray := prog_3_method_2_code
def yX1_numberFor : MethodName := ⟨RX1, "numberFor", "(I)I"⟩
abbrev cX1_fits : ByteArray := prog_3_method_3_code
def yX1_fits : MethodName := ⟨RX1, "fits", "(III)Z"⟩
abbrev cX1_insert : ByteArray := prog_3_method_4_code
def yX1_insert : MethodName := ⟨RX1, "insert", "(III)V"⟩
abbrev cX1_trueTime : ByteArray := prog_3_method_5_code
def yX1_trueTime : MethodName := ⟨RX1, "trueTime", "(I)I"⟩
abbrev cX1_between : ByteArray := prog_3_method_6_code
def yX1_between : MethodName := ⟨RX1, "between", "(III)I"⟩
def RX2 : String := "TrackRows$Device"
def TX2 : u_T := fun k => match k with
  | 0 => ("TrackRows$Device", "places", "LTrackRows$Places;", true)
  | 1 => ("TrackRows$Device", "clock", "LTrackRows$Clock;", true)
  | _ => ("TrackRows$Device", "toldTwice", "I", false)
def tyX2 : Nat → FieldType := fun k => match k with
  | 0 => .object "TrackRows$Places"
  | 1 => .object "TrackRows$Clock"
  | _ => .int
theorem nmX2 : ∀ a, a < 3 → ∀ b, b < 3 → a ≠ b → (TX2 a).2.1 ≠ (TX2 b).2.1 := by decide +kernel
theorem tyX2_ok : ∀ k, k < 3 → parseFieldDescriptor (TX2 k).2.2.1 = some (tyX2 k) := by decide +kernel
abbrev cX2_init : ByteArray := prog_4_method_1_code
def yX2_init : MethodName := ⟨RX2, "<init>", "()V"⟩
abbrev cX2_trueTimeOf : ByteArray := prog_4_method_2_code
def yX2_trueTimeOf : MethodName := ⟨RX2, "trueTimeOf", "(I)I"⟩
abbrev cX2_trueTimeBefore : ByteArray := prog_4_method_3_code
def yX2_trueTimeBefore : MethodName := ⟨RX2, "trueTimeBefore", "(I)I"⟩
abbrev cX2_isJump : ByteArray := prog_4_method_4_code
def yX2_isJump : MethodName := ⟨RX2, "isJump", "(II)Z"⟩
abbrev cX2_isBehindGap : ByteArray := prog_4_method_5_code
def yX2_isBehindGap : MethodName := ⟨RX2, "isBehindGap", "(II)Z"⟩
abbrev cX2_jumps : ByteArray := prog_4_method_6_code
def yX2_jumps : MethodName := ⟨RX2, "jumps", "(I)I"⟩
abbrev cX2_gaps : ByteArray := prog_4_method_7_code
def yX2_gaps : MethodName := ⟨RX2, "gaps", "(I)I"⟩
abbrev cX2_placeOfJump : ByteArray := prog_4_method_8_code
def yX2_placeOfJump : MethodName := ⟨RX2, "placeOfJump", "(II)I"⟩
abbrev cX2_placeBehindGap : ByteArray := prog_4_method_9_code
def yX2_placeBehindGap : MethodName := ⟨RX2, "placeBehindGap", "(II)I"⟩
abbrev cX2_placeNearestTo : ByteArray := prog_4_method_10_code
def yX2_placeNearestTo : MethodName := ⟨RX2, "placeNearestTo", "(I)I"⟩
def RX3 : String := "TrackRows$Fence"
def TX3 : u_T := fun k => match k with
  | 0 => ("TrackRows$Fence", "xs", "[I", true)
  | 1 => ("TrackRows$Fence", "ys", "[I", true)
  | _ => ("TrackRows$Fence", "count", "I", false)
def tyX3 : Nat → FieldType := fun k => match k with
  | 0 => .array .int
  | 1 => .array .int
  | _ => .int
theorem nmX3 : ∀ a, a < 3 → ∀ b, b < 3 → a ≠ b → (TX3 a).2.1 ≠ (TX3 b).2.1 := by decide +kernel
theorem tyX3_ok : ∀ k, k < 3 → parseFieldDescriptor (TX3 k).2.2.1 = some (tyX3 k) := by decide +kernel
abbrev cX3_init : ByteArray := prog_5_method_1_code
def yX3_init : MethodName := ⟨RX3, "<init>", "()V"⟩
abbrev cX3_append : ByteArray := prog_5_method_2_code
def yX3_append : MethodName := ⟨RX3, "append", "(II)V"⟩
abbrev cX3_holds : ByteArray := prog_5_method_3_code
def yX3_holds : MethodName := ⟨RX3, "holds", "(II)Z"⟩
abbrev cX3_turn : ByteArray := prog_5_method_4_code
def yX3_turn : MethodName := ⟨RX3, "turn", "(IIII)J"⟩
abbrev cX3_isBeside : ByteArray := prog_5_method_5_code
def yX3_isBeside : MethodName := ⟨RX3, "isBeside", "(IIII)Z"⟩
def RX4 : String := "TrackRows$Matching"
def TX4 : u_T := fun k => match k with
  | 0 => ("TrackRows$Matching", "weights", "[[J", true)
  | 1 => ("TrackRows$Matching", "least", "[[J", true)
  | 2 => ("TrackRows$Matching", "chosen", "[I", true)
  | 3 => ("TrackRows$Matching", "sightCount", "I", false)
  | _ => ("TrackRows$Matching", "deviceCount", "I", false)
def tyX4 : Nat → FieldType := fun k => match k with
  | 0 => .array (.array .long)
  | 1 => .array (.array .long)
  | 2 => .array .int
  | 3 => .int
  | _ => .int
theorem nmX4 : ∀ a, a < 5 → ∀ b, b < 5 → a ≠ b → (TX4 a).2.1 ≠ (TX4 b).2.1 := by decide +kernel
theorem tyX4_ok : ∀ k, k < 5 → parseFieldDescriptor (TX4 k).2.2.1 = some (tyX4 k) := by decide +kernel
abbrev cX4_init : ByteArray := prog_6_method_1_code
def yX4_init : MethodName := ⟨RX4, "<init>", "()V"⟩
abbrev cX4_choose : ByteArray := prog_6_method_2_code
def yX4_choose : MethodName := ⟨RX4, "choose", "(II)V"⟩
abbrev cX4_sum : ByteArray := prog_6_method_3_code
def yX4_sum : MethodName := ⟨RX4, "sum", "()J"⟩
abbrev cX4_sumUp : ByteArray := prog_6_method_4_code
def yX4_sumUp : MethodName := ⟨RX4, "sumUp", "()V"⟩
abbrev cX4_firstBest : ByteArray := prog_6_method_5_code
def yX4_firstBest : MethodName := ⟨RX4, "firstBest", "(II)I"⟩
abbrev cX4_sumWith : ByteArray := prog_6_method_6_code
def yX4_sumWith : MethodName := ⟨RX4, "sumWith", "(III)J"⟩
def RX5 : String := "TrackRows$Places"
def TX5 : u_T := fun k => match k with
  | 0 => ("TrackRows$Places", "most", "I", true)
  | 1 => ("TrackRows$Places", "seconds", "[I", true)
  | 2 => ("TrackRows$Places", "xs", "[I", true)
  | 3 => ("TrackRows$Places", "ys", "[I", true)
  | _ => ("TrackRows$Places", "count", "I", false)
def tyX5 : Nat → FieldType := fun k => match k with
  | 0 => .int
  | 1 => .array .int
  | 2 => .array .int
  | 3 => .array .int
  | _ => .int
theorem nmX5 : ∀ a, a < 5 → ∀ b, b < 5 → a ≠ b → (TX5 a).2.1 ≠ (TX5 b).2.1 := by decide +kernel
theorem tyX5_ok : ∀ k, k < 5 → parseFieldDescriptor (TX5 k).2.2.1 = some (tyX5 k) := by decide +kernel
abbrev cX5_init : ByteArray := prog_7_method_1_code
def yX5_init : MethodName := ⟨RX5, "<init>", "(I)V"⟩
abbrev cX5_numberFor : ByteArray := prog_7_method_2_code
def yX5_numberFor : MethodName := ⟨RX5, "numberFor", "(I)I"⟩
abbrev cX5_hasSecond : ByteArray := prog_7_method_3_code
def yX5_hasSecond : MethodName := ⟨RX5, "hasSecond", "(II)Z"⟩
abbrev cX5_isAt : ByteArray := prog_7_method_4_code
def yX5_isAt : MethodName := ⟨RX5, "isAt", "(III)Z"⟩
abbrev cX5_insert : ByteArray := prog_7_method_5_code
def yX5_insert : MethodName := ⟨RX5, "insert", "(IIII)V"⟩
abbrev cX5_mayFollow : ByteArray := prog_7_method_6_code
def yX5_mayFollow : MethodName := ⟨RX5, "mayFollow", "(III)Z"⟩
abbrev cX5_becomeAs : ByteArray := prog_7_method_7_code
def yX5_becomeAs : MethodName := ⟨RX5, "becomeAs", "(LTrackRows$Places;)V"⟩
abbrev cX5_squareTo : ByteArray := prog_7_method_8_code
def yX5_squareTo : MethodName := ⟨RX5, "squareTo", "(III)J"⟩
abbrev cX5_squareToCell : ByteArray := prog_7_method_9_code
def yX5_squareToCell : MethodName := ⟨RX5, "squareToCell", "(III)J"⟩
abbrev cX5_nearestInCell : ByteArray := prog_7_method_10_code
def yX5_nearestInCell : MethodName := ⟨RX5, "nearestInCell", "(II)I"⟩
abbrev cX5_firstRepeat : ByteArray := prog_7_method_11_code
def yX5_firstRepeat : MethodName := ⟨RX5, "firstRepeat", "(I)I"⟩
abbrev cX5_sameSteps : ByteArray := prog_7_method_12_code
def yX5_sameSteps : MethodName := ⟨RX5, "sameSteps", "(III)Z"⟩
abbrev cX5_sameStep : ByteArray := prog_7_method_13_code
def yX5_sameStep : MethodName := ⟨RX5, "sameStep", "(II)Z"⟩
def RX6 : String := "TrackRows"
def TX6 : u_T := fun k => match k with
  | 0 => ("TrackRows", "devices", "[LTrackRows$Device;", true)
  | 1 => ("TrackRows", "fences", "[LTrackRows$Fence;", true)
  | 2 => ("TrackRows", "sights", "LTrackRows$Places;", true)
  | 3 => ("TrackRows", "matching", "LTrackRows$Matching;", true)
  | 4 => ("TrackRows", "packed", "LTrackRows$Bytes;", true)
  | 5 => ("TrackRows", "fed", "LTrackRows$Bytes;", true)
  | 6 => ("TrackRows", "unpacked", "LTrackRows$Places;", true)
  | 7 => ("TrackRows", "deviceCount", "I", false)
  | 8 => ("TrackRows", "fenceCount", "I", false)
  | 9 => ("TrackRows", "speedNow", "I", false)
  | _ => ("TrackRows", "limitNow", "I", false)
def tyX6 : Nat → FieldType := fun k => match k with
  | 0 => .array (.object "TrackRows$Device")
  | 1 => .array (.object "TrackRows$Fence")
  | 2 => .object "TrackRows$Places"
  | 3 => .object "TrackRows$Matching"
  | 4 => .object "TrackRows$Bytes"
  | 5 => .object "TrackRows$Bytes"
  | 6 => .object "TrackRows$Places"
  | 7 => .int
  | 8 => .int
  | 9 => .int
  | _ => .int
theorem nmX6 : ∀ a, a < 11 → ∀ b, b < 11 → a ≠ b → (TX6 a).2.1 ≠ (TX6 b).2.1 := by decide +kernel
theorem tyX6_ok : ∀ k, k < 11 → parseFieldDescriptor (TX6 k).2.2.1 = some (tyX6 k) := by decide +kernel
abbrev cX6_init : ByteArray := prog_1_method_1_code
def yX6_init : MethodName := ⟨RX6, "<init>", "()V"⟩
abbrev cX6_device : ByteArray := prog_1_method_2_code
def yX6_device : MethodName := ⟨RX6, "device", "()I"⟩
abbrev cX6_place : ByteArray := prog_1_method_3_code
def yX6_place : MethodName := ⟨RX6, "place", "(IIII)I"⟩
abbrev cX6_has : ByteArray := prog_1_method_4_code
def yX6_has : MethodName := ⟨RX6, "has", "(II)I"⟩
abbrev cX6_at : ByteArray := prog_1_method_5_code
def yX6_at : MethodName := ⟨RX6, "at", "(III)I"⟩
abbrev cX6_mark : ByteArray := prog_1_method_6_code
def yX6_mark : MethodName := ⟨RX6, "mark", "(III)I"⟩
abbrev cX6_time : ByteArray := prog_1_method_7_code
def yX6_time : MethodName := ⟨RX6, "time", "(II)I"⟩
abbrev cX6_speed : ByteArray := prog_1_method_8_code
def yX6_speed : MethodName := ⟨RX6, "speed", "(I)I"⟩
abbrev cX6_limit : ByteArray := prog_1_method_9_code
def yX6_limit : MethodName := ⟨RX6, "limit", "(I)I"⟩
abbrev cX6_jump : ByteArray := prog_1_method_10_code
def yX6_jump : MethodName := ⟨RX6, "jump", "(II)I"⟩
abbrev cX6_gap : ByteArray := prog_1_method_11_code
def yX6_gap : MethodName := ⟨RX6, "gap", "(II)I"⟩
abbrev cX6_could : ByteArray := prog_1_method_12_code
def yX6_could : MethodName := ⟨RX6, "could", "(IIII)Z"⟩
abbrev cX6_fence : ByteArray := prog_1_method_13_code
def yX6_fence : MethodName := ⟨RX6, "fence", "()I"⟩
abbrev cX6_corner : ByteArray := prog_1_method_14_code
def yX6_corner : MethodName := ⟨RX6, "corner", "(III)I"⟩
abbrev cX6_in : ByteArray := prog_1_method_15_code
def yX6_in : MethodName := ⟨RX6, "in", "(III)Z"⟩
abbrev cX6_port : ByteArray := prog_1_method_16_code
def yX6_port : MethodName := ⟨RX6, "port", "(II)I"⟩
abbrev cX6_pack : ByteArray := prog_1_method_17_code
def yX6_pack : MethodName := ⟨RX6, "pack", "(I)I"⟩
abbrev cX6_byteAt : ByteArray := prog_1_method_18_code
def yX6_byteAt : MethodName := ⟨RX6, "byteAt", "(I)I"⟩
abbrev cX6_feed : ByteArray := prog_1_method_19_code
def yX6_feed : MethodName := ⟨RX6, "feed", "(I)I"⟩
abbrev cX6_read : ByteArray := prog_1_method_20_code
def yX6_read : MethodName := ⟨RX6, "read", "(I)I"⟩
abbrev cX6_repeat : ByteArray := prog_1_method_21_code
def yX6_repeat : MethodName := ⟨RX6, "repeat", "(II)I"⟩
abbrev cX6_sight : ByteArray := prog_1_method_22_code
def yX6_sight : MethodName := ⟨RX6, "sight", "(III)I"⟩
abbrev cX6_weight : ByteArray := prog_1_method_23_code
def yX6_weight : MethodName := ⟨RX6, "weight", "(II)J"⟩
abbrev cX6_matched : ByteArray := prog_1_method_24_code
def yX6_matched : MethodName := ⟨RX6, "matched", "()J"⟩
abbrev cX6_match : ByteArray := prog_1_method_25_code
def yX6_match : MethodName := ⟨RX6, "match", "(I)I"⟩
abbrev cX6_told : ByteArray := prog_1_method_26_code
def yX6_told : MethodName := ⟨RX6, "told", "(I)I"⟩
abbrev cX6_deviceOf : ByteArray := prog_1_method_27_code
def yX6_deviceOf : MethodName := ⟨RX6, "deviceOf", "(I)LTrackRows$Device;"⟩
abbrev cX6_deviceWithPlace : ByteArray := prog_1_method_28_code
def yX6_deviceWithPlace : MethodName := ⟨RX6, "deviceWithPlace", "(II)LTrackRows$Device;"⟩
abbrev cX6_fenceOf : ByteArray := prog_1_method_29_code
def yX6_fenceOf : MethodName := ⟨RX6, "fenceOf", "(I)LTrackRows$Fence;"⟩
abbrev cX6_weightOf : ByteArray := prog_1_method_30_code
def yX6_weightOf : MethodName := ⟨RX6, "weightOf", "(ILTrackRows$Device;)J"⟩
abbrev cX6_matchAll : ByteArray := prog_1_method_31_code
def yX6_matchAll : MethodName := ⟨RX6, "matchAll", "()V"⟩
abbrev cX6_refuseNumber : ByteArray := prog_1_method_32_code
def yX6_refuseNumber : MethodName := ⟨RX6, "refuseNumber", "(II)V"⟩
abbrev cX6_refuseOutside : ByteArray := prog_1_method_33_code
def yX6_refuseOutside : MethodName := ⟨RX6, "refuseOutside", "(III)V"⟩
abbrev cX6_refuseUntellable : ByteArray := prog_1_method_34_code
def yX6_refuseUntellable : MethodName := ⟨RX6, "refuseUntellable", "(III)V"⟩
abbrev cX6_refuseUnless : ByteArray := prog_1_method_35_code
def yX6_refuseUnless : MethodName := ⟨RX6, "refuseUnless", "(Z)V"⟩
abbrev cX6_refuseMore : ByteArray := prog_1_method_36_code
def yX6_refuseMore : MethodName := ⟨RX6, "refuseMore", "(II)V"⟩
abbrev cX6_isTellable : ByteArray := prog_1_method_37_code
def yX6_isTellable : MethodName := ⟨RX6, "isTellable", "(III)Z"⟩
abbrev cX6_secondsFor : ByteArray := prog_1_method_38_code
def yX6_secondsFor : MethodName := ⟨RX6, "secondsFor", "(JI)I"⟩
def RX7 : String := "TrackRowsModel"
def TX7 : u_T := fun k => match k with
  | 0 => ("TrackRowsModel", "thrown", "I", false)
  | 1 => ("TrackRowsModel", "devices", "I", false)
  | 2 => ("TrackRowsModel", "counts", "[I", true)
  | 3 => ("TrackRowsModel", "twices", "[I", true)
  | 4 => ("TrackRowsModel", "seconds", "[I", true)
  | 5 => ("TrackRowsModel", "xs", "[I", true)
  | 6 => ("TrackRowsModel", "ys", "[I", true)
  | 7 => ("TrackRowsModel", "markCounts", "[I", true)
  | 8 => ("TrackRowsModel", "markSeconds", "[I", true)
  | 9 => ("TrackRowsModel", "markTimes", "[I", true)
  | 10 => ("TrackRowsModel", "speed", "I", false)
  | 11 => ("TrackRowsModel", "limit", "I", false)
  | 12 => ("TrackRowsModel", "fences", "I", false)
  | 13 => ("TrackRowsModel", "cornerCounts", "[I", true)
  | 14 => ("TrackRowsModel", "cornerXs", "[I", true)
  | 15 => ("TrackRowsModel", "cornerYs", "[I", true)
  | 16 => ("TrackRowsModel", "packed", "I", false)
  | 17 => ("TrackRowsModel", "bytes", "[I", true)
  | 18 => ("TrackRowsModel", "fed", "I", false)
  | 19 => ("TrackRowsModel", "food", "[I", true)
  | 20 => ("TrackRowsModel", "at", "I", false)
  | 21 => ("TrackRowsModel", "reads", "[I", true)
  | 22 => ("TrackRowsModel", "sights", "I", false)
  | 23 => ("TrackRowsModel", "sightTimes", "[I", true)
  | 24 => ("TrackRowsModel", "sightXs", "[I", true)
  | 25 => ("TrackRowsModel", "sightYs", "[I", true)
  | 26 => ("TrackRowsModel", "weights", "[J", true)
  | 27 => ("TrackRowsModel", "least", "J", false)
  | _ => ("TrackRowsModel", "way", "I", false)
def tyX7 : Nat → FieldType := fun k => match k with
  | 0 => .int
  | 1 => .int
  | 2 => .array .int
  | 3 => .array .int
  | 4 => .array .int
  | 5 => .array .int
  | 6 => .array .int
  | 7 => .array .int
  | 8 => .array .int
  | 9 => .array .int
  | 10 => .int
  | 11 => .int
  | 12 => .int
  | 13 => .array .int
  | 14 => .array .int
  | 15 => .array .int
  | 16 => .int
  | 17 => .array .int
  | 18 => .int
  | 19 => .array .int
  | 20 => .int
  | 21 => .array .int
  | 22 => .int
  | 23 => .array .int
  | 24 => .array .int
  | 25 => .array .int
  | 26 => .array .long
  | 27 => .long
  | _ => .int
theorem nmX7 : ∀ a, a < 29 → ∀ b, b < 29 → a ≠ b → (TX7 a).2.1 ≠ (TX7 b).2.1 := by decide +kernel
theorem tyX7_ok : ∀ k, k < 29 → parseFieldDescriptor (TX7 k).2.2.1 = some (tyX7 k) := by decide +kernel
abbrev cX7_init : ByteArray := prog_9_method_1_code
def yX7_init : MethodName := ⟨RX7, "<init>", "()V"⟩
abbrev cX7_thrown : ByteArray := prog_9_method_2_code
def yX7_thrown : MethodName := ⟨RX7, "thrown", "()I"⟩
abbrev cX7_fails : ByteArray := prog_9_method_3_code
def yX7_fails : MethodName := ⟨RX7, "fails", "(ZI)Z"⟩
abbrev cX7_within : ByteArray := prog_9_method_4_code
def yX7_within : MethodName := ⟨RX7, "within", "(JJJ)Z"⟩
abbrev cX7_isDevice : ByteArray := prog_9_method_5_code
def yX7_isDevice : MethodName := ⟨RX7, "isDevice", "(I)Z"⟩
abbrev cX7_isPlace : ByteArray := prog_9_method_6_code
def yX7_isPlace : MethodName := ⟨RX7, "isPlace", "(II)Z"⟩
abbrev cX7_device : ByteArray := prog_9_method_7_code
def yX7_device : MethodName := ⟨RX7, "device", "()I"⟩
abbrev cX7_before : ByteArray := prog_9_method_8_code
def yX7_before : MethodName := ⟨RX7, "before", "(II)I"⟩
abbrev cX7_isPoint : ByteArray := prog_9_method_9_code
def yX7_isPoint : MethodName := ⟨RX7, "isPoint", "(II)Z"⟩
abbrev cX7_place : ByteArray := prog_9_method_10_code
def yX7_place : MethodName := ⟨RX7, "place", "(IIII)I"⟩
abbrev cX7_has : ByteArray := prog_9_method_11_code
def yX7_has : MethodName := ⟨RX7, "has", "(II)I"⟩
abbrev cX7_at : ByteArray := prog_9_method_12_code
def yX7_at : MethodName := ⟨RX7, "at", "(III)I"⟩
abbrev cX7_mark : ByteArray := prog_9_method_13_code
def yX7_mark : MethodName := ⟨RX7, "mark", "(III)I"⟩
abbrev cX7_timeOf : ByteArray := prog_9_method_14_code
def yX7_timeOf : MethodName := ⟨RX7, "timeOf", "(II)I"⟩
abbrev cX7_time : ByteArray := prog_9_method_15_code
def yX7_time : MethodName := ⟨RX7, "time", "(II)I"⟩
abbrev cX7_speed : ByteArray := prog_9_method_16_code
def yX7_speed : MethodName := ⟨RX7, "speed", "(I)I"⟩
abbrev cX7_limit : ByteArray := prog_9_method_17_code
def yX7_limit : MethodName := ⟨RX7, "limit", "(I)I"⟩
abbrev cX7_square : ByteArray := prog_9_method_18_code
def yX7_square : MethodName := ⟨RX7, "square", "(JJ)J"⟩
abbrev cX7_between : ByteArray := prog_9_method_19_code
def yX7_between : MethodName := ⟨RX7, "between", "(II)J"⟩
abbrev cX7_is : ByteArray := prog_9_method_20_code
def yX7_is : MethodName := ⟨RX7, "is", "(IIZ)Z"⟩
abbrev cX7_countOf : ByteArray := prog_9_method_21_code
def yX7_countOf : MethodName := ⟨RX7, "countOf", "(IZ)I"⟩
abbrev cX7_find : ByteArray := prog_9_method_22_code
def yX7_find : MethodName := ⟨RX7, "find", "(IIZ)I"⟩
abbrev cX7_jump : ByteArray := prog_9_method_23_code
def yX7_jump : MethodName := ⟨RX7, "jump", "(II)I"⟩
abbrev cX7_gap : ByteArray := prog_9_method_24_code
def yX7_gap : MethodName := ⟨RX7, "gap", "(II)I"⟩
abbrev cX7_nearest : ByteArray := prog_9_method_25_code
def yX7_nearest : MethodName := ⟨RX7, "nearest", "(II)I"⟩
abbrev cX7_secondsFor : ByteArray := prog_9_method_26_code
def yX7_secondsFor : MethodName := ⟨RX7, "secondsFor", "(J)J"⟩
abbrev cX7_way : ByteArray := prog_9_method_27_code
def yX7_way : MethodName := ⟨RX7, "way", "(IIII)J"⟩
abbrev cX7_could : ByteArray := prog_9_method_28_code
def yX7_could : MethodName := ⟨RX7, "could", "(IIII)Z"⟩
abbrev cX7_fence : ByteArray := prog_9_method_29_code
def yX7_fence : MethodName := ⟨RX7, "fence", "()I"⟩
abbrev cX7_corner : ByteArray := prog_9_method_30_code
def yX7_corner : MethodName := ⟨RX7, "corner", "(III)I"⟩
abbrev cX7_isIn : ByteArray := prog_9_method_31_code
def yX7_isIn : MethodName := ⟨RX7, "isIn", "(II)Z"⟩
abbrev cX7_in : ByteArray := prog_9_method_32_code
def yX7_in : MethodName := ⟨RX7, "in", "(III)Z"⟩
abbrev cX7_port : ByteArray := prog_9_method_33_code
def yX7_port : MethodName := ⟨RX7, "port", "(II)I"⟩
abbrev cX7_put : ByteArray := prog_9_method_34_code
def yX7_put : MethodName := ⟨RX7, "put", "(I)V"⟩
abbrev cX7_pack : ByteArray := prog_9_method_35_code
def yX7_pack : MethodName := ⟨RX7, "pack", "(I)I"⟩
abbrev cX7_byteAt : ByteArray := prog_9_method_36_code
def yX7_byteAt : MethodName := ⟨RX7, "byteAt", "(I)I"⟩
abbrev cX7_feed : ByteArray := prog_9_method_37_code
def yX7_feed : MethodName := ⟨RX7, "feed", "(I)I"⟩
abbrev cX7_difference : ByteArray := prog_9_method_38_code
def yX7_difference : MethodName := ⟨RX7, "difference", "()I"⟩
abbrev cX7_read : ByteArray := prog_9_method_39_code
def yX7_read : MethodName := ⟨RX7, "read", "(I)I"⟩
abbrev cX7_isSame : ByteArray := prog_9_method_40_code
def yX7_isSame : MethodName := ⟨RX7, "isSame", "(III)Z"⟩
abbrev cX7_repeat : ByteArray := prog_9_method_41_code
def yX7_repeat : MethodName := ⟨RX7, "repeat", "(II)I"⟩
abbrev cX7_sight : ByteArray := prog_9_method_42_code
def yX7_sight : MethodName := ⟨RX7, "sight", "(III)I"⟩
abbrev cX7_size : ByteArray := prog_9_method_43_code
def yX7_size : MethodName := ⟨RX7, "size", "(J)J"⟩
abbrev cX7_weightOf : ByteArray := prog_9_method_44_code
def yX7_weightOf : MethodName := ⟨RX7, "weightOf", "(II)J"⟩
abbrev cX7_weight : ByteArray := prog_9_method_45_code
def yX7_weight : MethodName := ⟨RX7, "weight", "(II)J"⟩
abbrev cX7_digit : ByteArray := prog_9_method_46_code
def yX7_digit : MethodName := ⟨RX7, "digit", "(II)I"⟩
abbrev cX7_findWay : ByteArray := prog_9_method_47_code
def yX7_findWay : MethodName := ⟨RX7, "findWay", "()V"⟩
abbrev cX7_matched : ByteArray := prog_9_method_48_code
def yX7_matched : MethodName := ⟨RX7, "matched", "()J"⟩
abbrev cX7_match : ByteArray := prog_9_method_49_code
def yX7_match : MethodName := ⟨RX7, "match", "(I)I"⟩
abbrev cX7_told : ByteArray := prog_9_method_50_code
def yX7_told : MethodName := ⟨RX7, "told", "(I)I"⟩
def RJ9 : String := "java/lang/Math"
def TJ9 : u_T := fun k => match k with
  | _ => ("", "", "", false)
def tyJ9 : Nat → FieldType := fun k => match k with
  | _ => .int
theorem nmJ9 : ∀ a, a < 0 → ∀ b, b < 0 → a ≠ b → (TJ9 a).2.1 ≠ (TJ9 b).2.1 := by decide +kernel
theorem tyJ9_ok : ∀ k, k < 0 → parseFieldDescriptor (TJ9 k).2.2.1 = some (tyJ9 k) := by decide +kernel
abbrev cJ9_abs_0f7a4 : ByteArray := prog_14_method_59_code
def yJ9_abs_0f7a4 : MethodName := ⟨RJ9, "abs", "(I)I"⟩
abbrev cJ9_max_7cf53 : ByteArray := prog_14_method_65_code
def yJ9_max_7cf53 : MethodName := ⟨RJ9, "max", "(II)I"⟩
abbrev cJ9_min_7cf53 : ByteArray := prog_14_method_69_code
def yJ9_min_7cf53 : MethodName := ⟨RJ9, "min", "(II)I"⟩
def RL : String := "TrackRowsLaw"
abbrev cL_device : ByteArray := method_3_code
def yL_device : MethodName := ⟨RL, "device", "(LTrackRows;[J)I"⟩
abbrev cL_place : ByteArray := method_4_code
def yL_place : MethodName := ⟨RL, "place", "(LTrackRows;IIII[J)I"⟩
abbrev cL_has : ByteArray := method_5_code
def yL_has : MethodName := ⟨RL, "has", "(LTrackRows;II[J)I"⟩
abbrev cL_at : ByteArray := method_6_code
def yL_at : MethodName := ⟨RL, "at", "(LTrackRows;III[J)I"⟩
abbrev cL_mark : ByteArray := method_7_code
def yL_mark : MethodName := ⟨RL, "mark", "(LTrackRows;III[J)I"⟩
abbrev cL_time : ByteArray := method_8_code
def yL_time : MethodName := ⟨RL, "time", "(LTrackRows;II[J)I"⟩
abbrev cL_speed : ByteArray := method_9_code
def yL_speed : MethodName := ⟨RL, "speed", "(LTrackRows;I[J)I"⟩
abbrev cL_limit : ByteArray := method_10_code
def yL_limit : MethodName := ⟨RL, "limit", "(LTrackRows;I[J)I"⟩
abbrev cL_jump : ByteArray := method_11_code
def yL_jump : MethodName := ⟨RL, "jump", "(LTrackRows;II[J)I"⟩
abbrev cL_gap : ByteArray := method_12_code
def yL_gap : MethodName := ⟨RL, "gap", "(LTrackRows;II[J)I"⟩
abbrev cL_could : ByteArray := method_13_code
def yL_could : MethodName := ⟨RL, "could", "(LTrackRows;IIII[J)I"⟩
abbrev cL_fence : ByteArray := method_14_code
def yL_fence : MethodName := ⟨RL, "fence", "(LTrackRows;[J)I"⟩
abbrev cL_corner : ByteArray := method_15_code
def yL_corner : MethodName := ⟨RL, "corner", "(LTrackRows;III[J)I"⟩
abbrev cL_in : ByteArray := method_16_code
def yL_in : MethodName := ⟨RL, "in", "(LTrackRows;III[J)I"⟩
abbrev cL_port : ByteArray := method_17_code
def yL_port : MethodName := ⟨RL, "port", "(LTrackRows;II[J)I"⟩
abbrev cL_pack : ByteArray := method_18_code
def yL_pack : MethodName := ⟨RL, "pack", "(LTrackRows;I[J)I"⟩
abbrev cL_byteAt : ByteArray := method_19_code
def yL_byteAt : MethodName := ⟨RL, "byteAt", "(LTrackRows;I[J)I"⟩
abbrev cL_feed : ByteArray := method_20_code
def yL_feed : MethodName := ⟨RL, "feed", "(LTrackRows;I[J)I"⟩
abbrev cL_read : ByteArray := method_21_code
def yL_read : MethodName := ⟨RL, "read", "(LTrackRows;I[J)I"⟩
abbrev cL_repeat : ByteArray := method_22_code
def yL_repeat : MethodName := ⟨RL, "repeat", "(LTrackRows;II[J)I"⟩
abbrev cL_sight : ByteArray := method_23_code
def yL_sight : MethodName := ⟨RL, "sight", "(LTrackRows;III[J)I"⟩
abbrev cL_weight : ByteArray := method_24_code
def yL_weight : MethodName := ⟨RL, "weight", "(LTrackRows;II[J)I"⟩
abbrev cL_match : ByteArray := method_25_code
def yL_match : MethodName := ⟨RL, "match", "(LTrackRows;I[J)I"⟩
abbrev cL_told : ByteArray := method_26_code
def yL_told : MethodName := ⟨RL, "told", "(LTrackRows;I[J)I"⟩
abbrev cL_law : ByteArray := code
def yL_law : MethodName := ⟨RL, "law", "([I)Z"⟩
abbrev vwCl : List vw_C := [(RX0, TX0, 4), (RX1, TX1, 3), (RX2, TX2, 3), (RX3, TX3, 3), (RX4, TX4, 5), (RX5, TX5, 5), (RX6, TX6, 11), (RX7, TX7, 29)]
