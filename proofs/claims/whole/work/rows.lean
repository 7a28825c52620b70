section
-- ===== PART A: goes FIRST, ahead of the names: the tables' words, and 'selects' of the private methods out of them =====
/-- a private method of a class that the tables say can be made, by its rows of tables_1 -/
def lw_okq (q : MethodName × Nat) : Prop := (q.1.cls ≠ "java/lang/invoke/MethodHandle" ∧ q.1.cls ≠ "java/lang/invoke/VarHandle") ∧ Cond.instantiable q.1.cls q.2 ∈ tables_1 ∧ Cond.privateMethod q.1 ∈ tables_1 ∧ Cond.instanceMethod q.1 ∈ tables_1
theorem lw_p0 : lw_okq (⟨"ThankingGifts$Reader", "readSleepers", "(LThankingGifts$House;)Z"⟩, 3) := ⟨⟨by decide +kernel, by decide +kernel⟩, List.mem_of_getElem? (i := 181) (by decide +kernel), List.mem_of_getElem? (i := 397) (by decide +kernel), List.mem_of_getElem? (i := 398) (by decide +kernel)⟩
theorem lw_p1 : lw_okq (⟨"ThankingGifts$Reader", "readSleeper", "(LThankingGifts$House;)Z"⟩, 3) := ⟨⟨by decide +kernel, by decide +kernel⟩, List.mem_of_getElem? (i := 181) (by decide +kernel), List.mem_of_getElem? (i := 401) (by decide +kernel), List.mem_of_getElem? (i := 402) (by decide +kernel)⟩
theorem lw_p2 : lw_okq (⟨"ThankingGifts$Reader", "readDigit", "(II)I"⟩, 3) := ⟨⟨by decide +kernel, by decide +kernel⟩, List.mem_of_getElem? (i := 181) (by decide +kernel), List.mem_of_getElem? (i := 405) (by decide +kernel), List.mem_of_getElem? (i := 406) (by decide +kernel)⟩
theorem lw_p3 : lw_okq (⟨"ThankingGifts$Reader", "skipBlanks", "()V"⟩, 3) := ⟨⟨by decide +kernel, by decide +kernel⟩, List.mem_of_getElem? (i := 181) (by decide +kernel), List.mem_of_getElem? (i := 409) (by decide +kernel), List.mem_of_getElem? (i := 410) (by decide +kernel)⟩
theorem lw_p4 : lw_okq (⟨"ThankingGifts$Reader", "digitHere", "()I"⟩, 3) := ⟨⟨by decide +kernel, by decide +kernel⟩, List.mem_of_getElem? (i := 181) (by decide +kernel), List.mem_of_getElem? (i := 413) (by decide +kernel), List.mem_of_getElem? (i := 414) (by decide +kernel)⟩
theorem lw_p5 : lw_okq (⟨"ThankingGifts$Reader", "takes", "(C)Z"⟩, 3) := ⟨⟨by decide +kernel, by decide +kernel⟩, List.mem_of_getElem? (i := 181) (by decide +kernel), List.mem_of_getElem? (i := 418) (by decide +kernel), List.mem_of_getElem? (i := 419) (by decide +kernel)⟩
theorem lw_p6 : lw_okq (⟨"ThankingGifts$Reader", "readNumber", "()I"⟩, 3) := ⟨⟨by decide +kernel, by decide +kernel⟩, List.mem_of_getElem? (i := 181) (by decide +kernel), List.mem_of_getElem? (i := 422) (by decide +kernel), List.mem_of_getElem? (i := 423) (by decide +kernel)⟩
theorem lw_p7 : lw_okq (⟨"ThankingGifts$Reader", "readThings", "(LThankingGifts$House;)Z"⟩, 3) := ⟨⟨by decide +kernel, by decide +kernel⟩, List.mem_of_getElem? (i := 181) (by decide +kernel), List.mem_of_getElem? (i := 427) (by decide +kernel), List.mem_of_getElem? (i := 428) (by decide +kernel)⟩
theorem lw_p8 : lw_okq (⟨"ThankingGifts$Reader", "readThing", "(LThankingGifts$House;)Z"⟩, 3) := ⟨⟨by decide +kernel, by decide +kernel⟩, List.mem_of_getElem? (i := 181) (by decide +kernel), List.mem_of_getElem? (i := 431) (by decide +kernel), List.mem_of_getElem? (i := 432) (by decide +kernel)⟩
theorem lw_p9 : lw_okq (⟨"ThankingGifts$Reader", "readKind", "()I"⟩, 3) := ⟨⟨by decide +kernel, by decide +kernel⟩, List.mem_of_getElem? (i := 181) (by decide +kernel), List.mem_of_getElem? (i := 435) (by decide +kernel), List.mem_of_getElem? (i := 436) (by decide +kernel)⟩
theorem lw_p10 : lw_okq (⟨"ThankingGifts", "spendNights", "(IZ)I"⟩, 9) := ⟨⟨by decide +kernel, by decide +kernel⟩, List.mem_of_getElem? (i := 23) (by decide +kernel), List.mem_of_getElem? (i := 568) (by decide +kernel), List.mem_of_getElem? (i := 569) (by decide +kernel)⟩
theorem lw_p11 : lw_okq (⟨"ThankingGifts", "ways", "(III)I"⟩, 9) := ⟨⟨by decide +kernel, by decide +kernel⟩, List.mem_of_getElem? (i := 23) (by decide +kernel), List.mem_of_getElem? (i := 726) (by decide +kernel), List.mem_of_getElem? (i := 727) (by decide +kernel)⟩
theorem lw_p12 : lw_okq (⟨"ThankingGifts", "kindsHeard", "(ILThankingGifts$Sheet;II)I"⟩, 9) := ⟨⟨by decide +kernel, by decide +kernel⟩, List.mem_of_getElem? (i := 23) (by decide +kernel), List.mem_of_getElem? (i := 771) (by decide +kernel), List.mem_of_getElem? (i := 772) (by decide +kernel)⟩
theorem lw_p13 : lw_okq (⟨"ThankingGifts", "isHeardAs", "(IIILThankingGifts$Sheet;II)Z"⟩, 9) := ⟨⟨by decide +kernel, by decide +kernel⟩, List.mem_of_getElem? (i := 23) (by decide +kernel), List.mem_of_getElem? (i := 775) (by decide +kernel), List.mem_of_getElem? (i := 776) (by decide +kernel)⟩
theorem lw_p14 : lw_okq (⟨"ThankingGifts", "dearsHeard", "(ILThankingGifts$Sheet;II)I"⟩, 9) := ⟨⟨by decide +kernel, by decide +kernel⟩, List.mem_of_getElem? (i := 23) (by decide +kernel), List.mem_of_getElem? (i := 779) (by decide +kernel), List.mem_of_getElem? (i := 780) (by decide +kernel)⟩
theorem lw_p15 : lw_okq (⟨"ThankingGiftsModel", "isSleeper", "(I)Z"⟩, 12) := ⟨⟨by decide +kernel, by decide +kernel⟩, List.mem_of_getElem? (i := 813) (by decide +kernel), List.mem_of_getElem? (i := 883) (by decide +kernel), List.mem_of_getElem? (i := 884) (by decide +kernel)⟩
def lw_privs_1 : List (MethodName × Nat) := [(⟨"ThankingGifts$Reader", "readSleepers", "(LThankingGifts$House;)Z"⟩, 3), (⟨"ThankingGifts$Reader", "readSleeper", "(LThankingGifts$House;)Z"⟩, 3), (⟨"ThankingGifts$Reader", "readDigit", "(II)I"⟩, 3), (⟨"ThankingGifts$Reader", "skipBlanks", "()V"⟩, 3), (⟨"ThankingGifts$Reader", "digitHere", "()I"⟩, 3), (⟨"ThankingGifts$Reader", "takes", "(C)Z"⟩, 3), (⟨"ThankingGifts$Reader", "readNumber", "()I"⟩, 3), (⟨"ThankingGifts$Reader", "readThings", "(LThankingGifts$House;)Z"⟩, 3), (⟨"ThankingGifts$Reader", "readThing", "(LThankingGifts$House;)Z"⟩, 3), (⟨"ThankingGifts$Reader", "readKind", "()I"⟩, 3), (⟨"ThankingGifts", "spendNights", "(IZ)I"⟩, 9), (⟨"ThankingGifts", "ways", "(III)I"⟩, 9), (⟨"ThankingGifts", "kindsHeard", "(ILThankingGifts$Sheet;II)I"⟩, 9), (⟨"ThankingGifts", "isHeardAs", "(IIILThankingGifts$Sheet;II)Z"⟩, 9), (⟨"ThankingGifts", "dearsHeard", "(ILThankingGifts$Sheet;II)I"⟩, 9), (⟨"ThankingGiftsModel", "isSleeper", "(I)Z"⟩, 12)]
theorem lw_r1 : ∀ q ∈ lw_privs_1, lw_okq q := List.forall_mem_cons.mpr ⟨lw_p0, List.forall_mem_cons.mpr ⟨lw_p1, List.forall_mem_cons.mpr ⟨lw_p2, List.forall_mem_cons.mpr ⟨lw_p3, List.forall_mem_cons.mpr ⟨lw_p4, List.forall_mem_cons.mpr ⟨lw_p5, List.forall_mem_cons.mpr ⟨lw_p6, List.forall_mem_cons.mpr ⟨lw_p7, List.forall_mem_cons.mpr ⟨lw_p8, List.forall_mem_cons.mpr ⟨lw_p9, List.forall_mem_cons.mpr ⟨lw_p10, List.forall_mem_cons.mpr ⟨lw_p11, List.forall_mem_cons.mpr ⟨lw_p12, List.forall_mem_cons.mpr ⟨lw_p13, List.forall_mem_cons.mpr ⟨lw_p14, List.forall_mem_cons.mpr ⟨lw_p15, fun _ h => absurd h List.not_mem_nil⟩⟩⟩⟩⟩⟩⟩⟩⟩⟩⟩⟩⟩⟩⟩⟩
theorem lw_p16 : lw_okq (⟨"ThankingGiftsModel", "isThing", "(I)Z"⟩, 12) := ⟨⟨by decide +kernel, by decide +kernel⟩, List.mem_of_getElem? (i := 813) (by decide +kernel), List.mem_of_getElem? (i := 903) (by decide +kernel), List.mem_of_getElem? (i := 904) (by decide +kernel)⟩
theorem lw_p17 : lw_okq (⟨"ThankingGiftsModel", "isHouse", "()Z"⟩, 12) := ⟨⟨by decide +kernel, by decide +kernel⟩, List.mem_of_getElem? (i := 813) (by decide +kernel), List.mem_of_getElem? (i := 923) (by decide +kernel), List.mem_of_getElem? (i := 924) (by decide +kernel)⟩
theorem lw_p18 : lw_okq (⟨"ThankingGiftsModel", "isSleeperItem", "()Z"⟩, 12) := ⟨⟨by decide +kernel, by decide +kernel⟩, List.mem_of_getElem? (i := 813) (by decide +kernel), List.mem_of_getElem? (i := 927) (by decide +kernel), List.mem_of_getElem? (i := 928) (by decide +kernel)⟩
theorem lw_p19 : lw_okq (⟨"ThankingGiftsModel", "isDigit", "(II)Z"⟩, 12) := ⟨⟨by decide +kernel, by decide +kernel⟩, List.mem_of_getElem? (i := 813) (by decide +kernel), List.mem_of_getElem? (i := 931) (by decide +kernel), List.mem_of_getElem? (i := 932) (by decide +kernel)⟩
theorem lw_p20 : lw_okq (⟨"ThankingGiftsModel", "peek", "()I"⟩, 12) := ⟨⟨by decide +kernel, by decide +kernel⟩, List.mem_of_getElem? (i := 813) (by decide +kernel), List.mem_of_getElem? (i := 935) (by decide +kernel), List.mem_of_getElem? (i := 936) (by decide +kernel)⟩
theorem lw_p21 : lw_okq (⟨"ThankingGiftsModel", "isSign", "(I)Z"⟩, 12) := ⟨⟨by decide +kernel, by decide +kernel⟩, List.mem_of_getElem? (i := 813) (by decide +kernel), List.mem_of_getElem? (i := 939) (by decide +kernel), List.mem_of_getElem? (i := 940) (by decide +kernel)⟩
theorem lw_p22 : lw_okq (⟨"ThankingGiftsModel", "isNumber", "()Z"⟩, 12) := ⟨⟨by decide +kernel, by decide +kernel⟩, List.mem_of_getElem? (i := 813) (by decide +kernel), List.mem_of_getElem? (i := 943) (by decide +kernel), List.mem_of_getElem? (i := 944) (by decide +kernel)⟩
theorem lw_p23 : lw_okq (⟨"ThankingGiftsModel", "isThingItem", "()Z"⟩, 12) := ⟨⟨by decide +kernel, by decide +kernel⟩, List.mem_of_getElem? (i := 813) (by decide +kernel), List.mem_of_getElem? (i := 947) (by decide +kernel), List.mem_of_getElem? (i := 948) (by decide +kernel)⟩
theorem lw_p24 : lw_okq (⟨"ThankingGiftsModel", "note", "()V"⟩, 12) := ⟨⟨by decide +kernel, by decide +kernel⟩, List.mem_of_getElem? (i := 813) (by decide +kernel), List.mem_of_getElem? (i := 968) (by decide +kernel), List.mem_of_getElem? (i := 969) (by decide +kernel)⟩
theorem lw_p25 : lw_okq (⟨"ThankingGiftsModel", "goOn", "(I)V"⟩, 12) := ⟨⟨by decide +kernel, by decide +kernel⟩, List.mem_of_getElem? (i := 813) (by decide +kernel), List.mem_of_getElem? (i := 1010) (by decide +kernel), List.mem_of_getElem? (i := 1011) (by decide +kernel)⟩
theorem lw_p26 : lw_okq (⟨"ThankingGiftsModel", "begin", "()V"⟩, 12) := ⟨⟨by decide +kernel, by decide +kernel⟩, List.mem_of_getElem? (i := 813) (by decide +kernel), List.mem_of_getElem? (i := 1014) (by decide +kernel), List.mem_of_getElem? (i := 1015) (by decide +kernel)⟩
theorem lw_p27 : lw_okq (⟨"ThankingGiftsModel", "wokenOn", "(I)I"⟩, 12) := ⟨⟨by decide +kernel, by decide +kernel⟩, List.mem_of_getElem? (i := 813) (by decide +kernel), List.mem_of_getElem? (i := 1034) (by decide +kernel), List.mem_of_getElem? (i := 1035) (by decide +kernel)⟩
theorem lw_p28 : lw_okq (⟨"ThankingGiftsModel", "wrong", "(IIII)I"⟩, 12) := ⟨⟨by decide +kernel, by decide +kernel⟩, List.mem_of_getElem? (i := 813) (by decide +kernel), List.mem_of_getElem? (i := 1079) (by decide +kernel), List.mem_of_getElem? (i := 1080) (by decide +kernel)⟩
def lw_privs_2 : List (MethodName × Nat) := [(⟨"ThankingGiftsModel", "isThing", "(I)Z"⟩, 12), (⟨"ThankingGiftsModel", "isHouse", "()Z"⟩, 12), (⟨"ThankingGiftsModel", "isSleeperItem", "()Z"⟩, 12), (⟨"ThankingGiftsModel", "isDigit", "(II)Z"⟩, 12), (⟨"ThankingGiftsModel", "peek", "()I"⟩, 12), (⟨"ThankingGiftsModel", "isSign", "(I)Z"⟩, 12), (⟨"ThankingGiftsModel", "isNumber", "()Z"⟩, 12), (⟨"ThankingGiftsModel", "isThingItem", "()Z"⟩, 12), (⟨"ThankingGiftsModel", "note", "()V"⟩, 12), (⟨"ThankingGiftsModel", "goOn", "(I)V"⟩, 12), (⟨"ThankingGiftsModel", "begin", "()V"⟩, 12), (⟨"ThankingGiftsModel", "wokenOn", "(I)I"⟩, 12), (⟨"ThankingGiftsModel", "wrong", "(IIII)I"⟩, 12)]
theorem lw_r2 : ∀ q ∈ lw_privs_2, lw_okq q := List.forall_mem_cons.mpr ⟨lw_p16, List.forall_mem_cons.mpr ⟨lw_p17, List.forall_mem_cons.mpr ⟨lw_p18, List.forall_mem_cons.mpr ⟨lw_p19, List.forall_mem_cons.mpr ⟨lw_p20, List.forall_mem_cons.mpr ⟨lw_p21, List.forall_mem_cons.mpr ⟨lw_p22, List.forall_mem_cons.mpr ⟨lw_p23, List.forall_mem_cons.mpr ⟨lw_p24, List.forall_mem_cons.mpr ⟨lw_p25, List.forall_mem_cons.mpr ⟨lw_p26, List.forall_mem_cons.mpr ⟨lw_p27, List.forall_mem_cons.mpr ⟨lw_p28, fun _ h => absurd h List.not_mem_nil⟩⟩⟩⟩⟩⟩⟩⟩⟩⟩⟩⟩⟩
def lw_privs : List (MethodName × Nat) := lw_privs_1 ++ (lw_privs_2)
def lw_tbl : List Cond := k2_sels lw_privs ++ tables_1
theorem lw_privs_ok : ∀ q ∈ lw_privs, lw_okq q := by
  show ∀ q ∈ lw_privs_1 ++ (lw_privs_2), lw_okq q
  exact List.forall_mem_append.mpr ⟨lw_r1, lw_r2⟩
end
section
abbrev sd_M0 : Type := MethodName × ByteArray × Nat × Option FieldType × Room
def RX0 : String := "ThankingGifts$Curt"
def TX0 : u_T := fun k => match k with
  | _ => ("", "", "", false)
def tyX0 : Nat → FieldType := fun k => match k with
  | _ => .int
theorem nmX0 : ∀ a, a < 0 → ∀ b, b < 0 → a ≠ b → (TX0 a).2.1 ≠ (TX0 b).2.1 := by decide +kernel
theorem tyX0_ok : ∀ k, k < 0 → parseFieldDescriptor (TX0 k).2.2.1 = some (tyX0 k) := by decide +kernel
abbrev cX0_init : ByteArray := prog_2_method_1_code
def yX0_init : MethodName := ⟨RX0, "<init>", "()V"⟩
abbrev cX0_leftBehind : ByteArray := prog_2_method_2_code
def yX0_leftBehind : MethodName := ⟨RX0, "leftBehind", "(III)I"⟩
def RX1 : String := "ThankingGifts$Fulsome"
def TX1 : u_T := fun k => match k with
  | _ => ("", "", "", false)
def tyX1 : Nat → FieldType := fun k => match k with
  | _ => .int
theorem nmX1 : ∀ a, a < 0 → ∀ b, b < 0 → a ≠ b → (TX1 a).2.1 ≠ (TX1 b).2.1 := by decide +kernel
theorem tyX1_ok : ∀ k, k < 0 → parseFieldDescriptor (TX1 k).2.2.1 = some (tyX1 k) := by decide +kernel
abbrev cX1_init : ByteArray := prog_3_method_1_code
def yX1_init : MethodName := ⟨RX1, "<init>", "()V"⟩
abbrev cX1_loudness : ByteArray := prog_3_method_2_code
def yX1_loudness : MethodName := ⟨RX1, "loudness", "(II)I"⟩
abbrev cX1_leftBehind : ByteArray := prog_3_method_3_code
def yX1_leftBehind : MethodName := ⟨RX1, "leftBehind", "(III)I"⟩
def RX2 : String := "ThankingGifts$House"
def TX2 : u_T := fun k => match k with
  | 0 => ("ThankingGifts$House", "kinds", "[LThankingGifts$Plain;", true)
  | 1 => ("ThankingGifts$House", "bed", "[I", true)
  | 2 => ("ThankingGifts$House", "bears", "[I", true)
  | 3 => ("ThankingGifts$House", "kind", "[I", true)
  | 4 => ("ThankingGifts$House", "dear", "[I", true)
  | 5 => ("ThankingGifts$House", "roomLoud", "[I", true)
  | 6 => ("ThankingGifts$House", "now", "LThankingGifts$Moment;", true)
  | 7 => ("ThankingGifts$House", "sleepers", "I", false)
  | _ => ("ThankingGifts$House", "things", "I", false)
def tyX2 : Nat → FieldType := fun k => match k with
  | 0 => .array (.object "ThankingGifts$Plain")
  | 1 => .array .int
  | 2 => .array .int
  | 3 => .array .int
  | 4 => .array .int
  | 5 => .array .int
  | 6 => .object "ThankingGifts$Moment"
  | 7 => .int
  | _ => .int
theorem nmX2 : ∀ a, a < 9 → ∀ b, b < 9 → a ≠ b → (TX2 a).2.1 ≠ (TX2 b).2.1 := by decide +kernel
theorem tyX2_ok : ∀ k, k < 9 → parseFieldDescriptor (TX2 k).2.2.1 = some (tyX2 k) := by decide +kernel
abbrev cX2_init : ByteArray := prog_4_method_1_code
def yX2_init : MethodName := ⟨RX2, "<init>", "()V"⟩
abbrev cX2_takeAll : ByteArray := prog_4_method_2_code
def yX2_takeAll : MethodName := ⟨RX2, "takeAll", "(LThankingGifts$House;)V"⟩
abbrev cX2_clear : ByteArray := prog_4_method_3_code
def yX2_clear : MethodName := ⟨RX2, "clear", "(I)V"⟩
abbrev cX2_addSleeper : ByteArray := prog_4_method_4_code
def yX2_addSleeper : MethodName := ⟨RX2, "addSleeper", "(II)V"⟩
abbrev cX2_addThing : ByteArray := prog_4_method_5_code
def yX2_addThing : MethodName := ⟨RX2, "addThing", "(IIII)V"⟩
abbrev cX2_hasSleeper : ByteArray := prog_4_method_6_code
def yX2_hasSleeper : MethodName := ⟨RX2, "hasSleeper", "(I)Z"⟩
abbrev cX2_hasThing : ByteArray := prog_4_method_7_code
def yX2_hasThing : MethodName := ⟨RX2, "hasThing", "(I)Z"⟩
abbrev cX2_leftBehind : ByteArray := prog_4_method_8_code
def yX2_leftBehind : MethodName := ⟨RX2, "leftBehind", "(IIII)I"⟩
abbrev cX2_loudWith : ByteArray := prog_4_method_9_code
def yX2_loudWith : MethodName := ⟨RX2, "loudWith", "(III)I"⟩
abbrev cX2_loudOfSet : ByteArray := prog_4_method_10_code
def yX2_loudOfSet : MethodName := ⟨RX2, "loudOfSet", "(I)I"⟩
abbrev cX2_loudOfAll : ByteArray := prog_4_method_11_code
def yX2_loudOfAll : MethodName := ⟨RX2, "loudOfAll", "()I"⟩
abbrev cX2_thingsIn : ByteArray := prog_4_method_12_code
def yX2_thingsIn : MethodName := ⟨RX2, "thingsIn", "(I)I"⟩
abbrev cX2_thingsOf : ByteArray := prog_4_method_13_code
def yX2_thingsOf : MethodName := ⟨RX2, "thingsOf", "(I)I"⟩
abbrev cX2_silentThings : ByteArray := prog_4_method_14_code
def yX2_silentThings : MethodName := ⟨RX2, "silentThings", "()I"⟩
abbrev cX2_sleepersIn : ByteArray := prog_4_method_15_code
def yX2_sleepersIn : MethodName := ⟨RX2, "sleepersIn", "(I)I"⟩
abbrev cX2_listen : ByteArray := prog_4_method_16_code
def yX2_listen : MethodName := ⟨RX2, "listen", "()V"⟩
abbrev cX2_isAsleep : ByteArray := prog_4_method_17_code
def yX2_isAsleep : MethodName := ⟨RX2, "isAsleep", "(I)Z"⟩
abbrev cX2_spendNight : ByteArray := prog_4_method_18_code
def yX2_spendNight : MethodName := ⟨RX2, "spendNight", "()I"⟩
abbrev cX2_moveByDraw : ByteArray := prog_4_method_19_code
def yX2_moveByDraw : MethodName := ⟨RX2, "moveByDraw", "()V"⟩
abbrev cX2_placesOf : ByteArray := prog_4_method_20_code
def yX2_placesOf : MethodName := ⟨RX2, "placesOf", "(I[II)I"⟩
def RX3 : String := "ThankingGifts$Hum"
def TX3 : u_T := fun k => match k with
  | _ => ("", "", "", false)
def tyX3 : Nat → FieldType := fun k => match k with
  | _ => .int
theorem nmX3 : ∀ a, a < 0 → ∀ b, b < 0 → a ≠ b → (TX3 a).2.1 ≠ (TX3 b).2.1 := by decide +kernel
theorem tyX3_ok : ∀ k, k < 0 → parseFieldDescriptor (TX3 k).2.2.1 = some (tyX3 k) := by decide +kernel
abbrev cX3_init : ByteArray := prog_5_method_1_code
def yX3_init : MethodName := ⟨RX3, "<init>", "()V"⟩
abbrev cX3_loudness : ByteArray := prog_5_method_2_code
def yX3_loudness : MethodName := ⟨RX3, "loudness", "(II)I"⟩
abbrev cX3_leftBehind : ByteArray := prog_5_method_3_code
def yX3_leftBehind : MethodName := ⟨RX3, "leftBehind", "(III)I"⟩
def RX4 : String := "ThankingGifts$Moment"
def TX4 : u_T := fun k => match k with
  | 0 => ("ThankingGifts$Moment", "place", "[I", true)
  | 1 => ("ThankingGifts$Moment", "giver", "[I", true)
  | 2 => ("ThankingGifts$Moment", "left", "[I", true)
  | 3 => ("ThankingGifts$Moment", "slept", "[I", true)
  | 4 => ("ThankingGifts$Moment", "woken", "[I", true)
  | 5 => ("ThankingGifts$Moment", "night", "I", false)
  | _ => ("ThankingGifts$Moment", "draw", "I", false)
def tyX4 : Nat → FieldType := fun k => match k with
  | 0 => .array .int
  | 1 => .array .int
  | 2 => .array .int
  | 3 => .array .int
  | 4 => .array .int
  | 5 => .int
  | _ => .int
theorem nmX4 : ∀ a, a < 7 → ∀ b, b < 7 → a ≠ b → (TX4 a).2.1 ≠ (TX4 b).2.1 := by decide +kernel
theorem tyX4_ok : ∀ k, k < 7 → parseFieldDescriptor (TX4 k).2.2.1 = some (tyX4 k) := by decide +kernel
abbrev cX4_init : ByteArray := prog_6_method_1_code
def yX4_init : MethodName := ⟨RX4, "<init>", "()V"⟩
abbrev cX4_takeAll : ByteArray := prog_6_method_2_code
def yX4_takeAll : MethodName := ⟨RX4, "takeAll", "(LThankingGifts$Moment;)V"⟩
def RX5 : String := "ThankingGifts$Outlook"
def TX5 : u_T := fun k => match k with
  | 0 => ("ThankingGifts$Outlook", "thingLoud", "[I", true)
  | 1 => ("ThankingGifts$Outlook", "nights", "I", false)
  | 2 => ("ThankingGifts$Outlook", "things", "I", false)
  | 3 => ("ThankingGifts$Outlook", "place", "[I", true)
  | _ => ("ThankingGifts$Outlook", "roomLoud", "[I", true)
def tyX5 : Nat → FieldType := fun k => match k with
  | 0 => .array .int
  | 1 => .int
  | 2 => .int
  | 3 => .array .int
  | _ => .array .int
theorem nmX5 : ∀ a, a < 5 → ∀ b, b < 5 → a ≠ b → (TX5 a).2.1 ≠ (TX5 b).2.1 := by decide +kernel
theorem tyX5_ok : ∀ k, k < 5 → parseFieldDescriptor (TX5 k).2.2.1 = some (tyX5 k) := by decide +kernel
abbrev cX5_init : ByteArray := prog_7_method_1_code
def yX5_init : MethodName := ⟨RX5, "<init>", "()V"⟩
abbrev cX5_look : ByteArray := prog_7_method_2_code
def yX5_look : MethodName := ⟨RX5, "look", "(LThankingGifts$House;I)V"⟩
abbrev cX5_swapRooms : ByteArray := prog_7_method_3_code
def yX5_swapRooms : MethodName := ⟨RX5, "swapRooms", "(LThankingGifts$House;II)V"⟩
abbrev cX5_listen : ByteArray := prog_7_method_4_code
def yX5_listen : MethodName := ⟨RX5, "listen", "(II)V"⟩
abbrev cX5_wokenIn : ByteArray := prog_7_method_5_code
def yX5_wokenIn : MethodName := ⟨RX5, "wokenIn", "(LThankingGifts$House;II)I"⟩
abbrev cX5_wakings : ByteArray := prog_7_method_6_code
def yX5_wakings : MethodName := ⟨RX5, "wakings", "(LThankingGifts$House;)I"⟩
abbrev cX5_wakingsIn : ByteArray := prog_7_method_7_code
def yX5_wakingsIn : MethodName := ⟨RX5, "wakingsIn", "(II)I"⟩
abbrev cX5_isQuietWithout : ByteArray := prog_7_method_8_code
def yX5_isQuietWithout : MethodName := ⟨RX5, "isQuietWithout", "(LThankingGifts$House;I)Z"⟩
def RX6 : String := "ThankingGifts$Past"
def TX6 : u_T := fun k => match k with
  | 0 => ("ThankingGifts$Past", "kept", "[LThankingGifts$Moment;", true)
  | 1 => ("ThankingGifts$Past", "next", "I", false)
  | _ => ("ThankingGifts$Past", "known", "I", false)
def tyX6 : Nat → FieldType := fun k => match k with
  | 0 => .array (.object "ThankingGifts$Moment")
  | 1 => .int
  | _ => .int
theorem nmX6 : ∀ a, a < 3 → ∀ b, b < 3 → a ≠ b → (TX6 a).2.1 ≠ (TX6 b).2.1 := by decide +kernel
theorem tyX6_ok : ∀ k, k < 3 → parseFieldDescriptor (TX6 k).2.2.1 = some (tyX6 k) := by decide +kernel
abbrev cX6_init : ByteArray := prog_8_method_1_code
def yX6_init : MethodName := ⟨RX6, "<init>", "()V"⟩
abbrev cX6_keep : ByteArray := prog_8_method_2_code
def yX6_keep : MethodName := ⟨RX6, "keep", "(LThankingGifts$Moment;)V"⟩
abbrev cX6_bringBack : ByteArray := prog_8_method_3_code
def yX6_bringBack : MethodName := ⟨RX6, "bringBack", "(LThankingGifts$Moment;)V"⟩
abbrev cX6_forget : ByteArray := prog_8_method_4_code
def yX6_forget : MethodName := ⟨RX6, "forget", "()V"⟩
abbrev cX6_takeAll : ByteArray := prog_8_method_5_code
def yX6_takeAll : MethodName := ⟨RX6, "takeAll", "(LThankingGifts$Past;)V"⟩
def RX7 : String := "ThankingGifts$Plain"
def TX7 : u_T := fun k => match k with
  | _ => ("", "", "", false)
def tyX7 : Nat → FieldType := fun k => match k with
  | _ => .int
theorem nmX7 : ∀ a, a < 0 → ∀ b, b < 0 → a ≠ b → (TX7 a).2.1 ≠ (TX7 b).2.1 := by decide +kernel
theorem tyX7_ok : ∀ k, k < 0 → parseFieldDescriptor (TX7 k).2.2.1 = some (tyX7 k) := by decide +kernel
abbrev cX7_init : ByteArray := prog_9_method_1_code
def yX7_init : MethodName := ⟨RX7, "<init>", "()V"⟩
abbrev cX7_loudness : ByteArray := prog_9_method_2_code
def yX7_loudness : MethodName := ⟨RX7, "loudness", "(II)I"⟩
abbrev cX7_leftBehind : ByteArray := prog_9_method_3_code
def yX7_leftBehind : MethodName := ⟨RX7, "leftBehind", "(III)I"⟩
def RX8 : String := "ThankingGifts$Reader"
def TX8 : u_T := fun k => match k with
  | 0 => ("ThankingGifts$Reader", "tape", "[C", true)
  | 1 => ("ThankingGifts$Reader", "length", "I", false)
  | _ => ("ThankingGifts$Reader", "place", "I", false)
def tyX8 : Nat → FieldType := fun k => match k with
  | 0 => .array .char
  | 1 => .int
  | _ => .int
theorem nmX8 : ∀ a, a < 3 → ∀ b, b < 3 → a ≠ b → (TX8 a).2.1 ≠ (TX8 b).2.1 := by decide +kernel
theorem tyX8_ok : ∀ k, k < 3 → parseFieldDescriptor (TX8 k).2.2.1 = some (tyX8 k) := by decide +kernel
abbrev cX8_init : ByteArray := prog_10_method_1_code
def yX8_init : MethodName := ⟨RX8, "<init>", "()V"⟩
abbrev cX8_addLetter : ByteArray := prog_10_method_2_code
def yX8_addLetter : MethodName := ⟨RX8, "addLetter", "(C)V"⟩
abbrev cX8_clear : ByteArray := prog_10_method_3_code
def yX8_clear : MethodName := ⟨RX8, "clear", "()V"⟩
abbrev cX8_readHouse : ByteArray := prog_10_method_4_code
def yX8_readHouse : MethodName := ⟨RX8, "readHouse", "(LThankingGifts$House;)Z"⟩
abbrev cX8_readSleepers : ByteArray := prog_10_method_5_code
def yX8_readSleepers : MethodName := ⟨RX8, "readSleepers", "(LThankingGifts$House;)Z"⟩
abbrev cX8_readThings : ByteArray := prog_10_method_6_code
def yX8_readThings : MethodName := ⟨RX8, "readThings", "(LThankingGifts$House;)Z"⟩
abbrev cX8_readSleeper : ByteArray := prog_10_method_7_code
def yX8_readSleeper : MethodName := ⟨RX8, "readSleeper", "(LThankingGifts$House;)Z"⟩
abbrev cX8_readThing : ByteArray := prog_10_method_8_code
def yX8_readThing : MethodName := ⟨RX8, "readThing", "(LThankingGifts$House;)Z"⟩
abbrev cX8_readKind : ByteArray := prog_10_method_9_code
def yX8_readKind : MethodName := ⟨RX8, "readKind", "()I"⟩
abbrev cX8_readDigit : ByteArray := prog_10_method_10_code
def yX8_readDigit : MethodName := ⟨RX8, "readDigit", "(II)I"⟩
abbrev cX8_readNumber : ByteArray := prog_10_method_11_code
def yX8_readNumber : MethodName := ⟨RX8, "readNumber", "()I"⟩
abbrev cX8_digitHere : ByteArray := prog_10_method_12_code
def yX8_digitHere : MethodName := ⟨RX8, "digitHere", "()I"⟩
abbrev cX8_takes : ByteArray := prog_10_method_13_code
def yX8_takes : MethodName := ⟨RX8, "takes", "(C)Z"⟩
abbrev cX8_skipBlanks : ByteArray := prog_10_method_14_code
def yX8_skipBlanks : MethodName := ⟨RX8, "skipBlanks", "()V"⟩
def RX9 : String := "ThankingGifts$Sheet"
def TX9 : u_T := fun k => match k with
  | 0 => ("ThankingGifts$Sheet", "items", "[J", true)
  | 1 => ("ThankingGifts$Sheet", "present", "Z", false)
  | 2 => ("ThankingGifts$Sheet", "lane", "I", false)
  | _ => ("ThankingGifts$Sheet", "length", "I", false)
def tyX9 : Nat → FieldType := fun k => match k with
  | 0 => .array .long
  | 1 => .boolean
  | 2 => .int
  | _ => .int
theorem nmX9 : ∀ a, a < 4 → ∀ b, b < 4 → a ≠ b → (TX9 a).2.1 ≠ (TX9 b).2.1 := by decide +kernel
theorem tyX9_ok : ∀ k, k < 4 → parseFieldDescriptor (TX9 k).2.2.1 = some (tyX9 k) := by decide +kernel
abbrev cX9_init : ByteArray := prog_11_method_1_code
def yX9_init : MethodName := ⟨RX9, "<init>", "()V"⟩
abbrev cX9_renew : ByteArray := prog_11_method_2_code
def yX9_renew : MethodName := ⟨RX9, "renew", "(II)V"⟩
abbrev cX9_refusal : ByteArray := prog_11_method_3_code
def yX9_refusal : MethodName := ⟨RX9, "refusal", "(III)I"⟩
abbrev cX9_spans : ByteArray := prog_11_method_4_code
def yX9_spans : MethodName := ⟨RX9, "spans", "(II)Z"⟩
abbrev cX9_put : ByteArray := prog_11_method_5_code
def yX9_put : MethodName := ⟨RX9, "put", "(IJ)V"⟩
def RX10 : String := "ThankingGifts$Turnabout"
def TX10 : u_T := fun k => match k with
  | _ => ("", "", "", false)
def tyX10 : Nat → FieldType := fun k => match k with
  | _ => .int
theorem nmX10 : ∀ a, a < 0 → ∀ b, b < 0 → a ≠ b → (TX10 a).2.1 ≠ (TX10 b).2.1 := by decide +kernel
theorem tyX10_ok : ∀ k, k < 0 → parseFieldDescriptor (TX10 k).2.2.1 = some (tyX10 k) := by decide +kernel
abbrev cX10_init : ByteArray := prog_12_method_1_code
def yX10_init : MethodName := ⟨RX10, "<init>", "()V"⟩
abbrev cX10_loudness : ByteArray := prog_12_method_2_code
def yX10_loudness : MethodName := ⟨RX10, "loudness", "(II)I"⟩
abbrev cX10_leftBehind : ByteArray := prog_12_method_3_code
def yX10_leftBehind : MethodName := ⟨RX10, "leftBehind", "(III)I"⟩
def RX11 : String := "ThankingGifts"
def TX11 : u_T := fun k => match k with
  | 0 => ("ThankingGifts", "house", "LThankingGifts$House;", true)
  | 1 => ("ThankingGifts", "past", "LThankingGifts$Past;", true)
  | 2 => ("ThankingGifts", "imagedHouse", "LThankingGifts$House;", true)
  | 3 => ("ThankingGifts", "imagedPast", "LThankingGifts$Past;", true)
  | 4 => ("ThankingGifts", "imaged", "Z", false)
  | 5 => ("ThankingGifts", "draft", "LThankingGifts$House;", true)
  | 6 => ("ThankingGifts", "reader", "LThankingGifts$Reader;", true)
  | 7 => ("ThankingGifts", "outlook", "LThankingGifts$Outlook;", true)
  | _ => ("ThankingGifts", "sheets", "[LThankingGifts$Sheet;", true)
def tyX11 : Nat → FieldType := fun k => match k with
  | 0 => .object "ThankingGifts$House"
  | 1 => .object "ThankingGifts$Past"
  | 2 => .object "ThankingGifts$House"
  | 3 => .object "ThankingGifts$Past"
  | 4 => .boolean
  | 5 => .object "ThankingGifts$House"
  | 6 => .object "ThankingGifts$Reader"
  | 7 => .object "ThankingGifts$Outlook"
  | _ => .array (.object "ThankingGifts$Sheet")
theorem nmX11 : ∀ a, a < 9 → ∀ b, b < 9 → a ≠ b → (TX11 a).2.1 ≠ (TX11 b).2.1 := by decide +kernel
theorem tyX11_ok : ∀ k, k < 9 → parseFieldDescriptor (TX11 k).2.2.1 = some (tyX11 k) := by decide +kernel
abbrev cX11_init : ByteArray := prog_1_method_1_code
def yX11_init : MethodName := ⟨RX11, "<init>", "()V"⟩
abbrev cX11_sleeper : ByteArray := prog_1_method_2_code
def yX11_sleeper : MethodName := ⟨RX11, "sleeper", "(II)I"⟩
abbrev cX11_thing : ByteArray := prog_1_method_3_code
def yX11_thing : MethodName := ⟨RX11, "thing", "(IIII)I"⟩
abbrev cX11_of : ByteArray := prog_1_method_4_code
def yX11_of : MethodName := ⟨RX11, "of", "(II)I"⟩
abbrev cX11_gift : ByteArray := prog_1_method_5_code
def yX11_gift : MethodName := ⟨RX11, "gift", "(II)I"⟩
abbrev cX11_room : ByteArray := prog_1_method_6_code
def yX11_room : MethodName := ⟨RX11, "room", "(II)I"⟩
abbrev cX11_bed : ByteArray := prog_1_method_7_code
def yX11_bed : MethodName := ⟨RX11, "bed", "(II)I"⟩
abbrev cX11_type : ByteArray := prog_1_method_8_code
def yX11_type : MethodName := ⟨RX11, "type", "(I)I"⟩
abbrev cX11_house : ByteArray := prog_1_method_9_code
def yX11_house : MethodName := ⟨RX11, "house", "()I"⟩
abbrev cX11_count : ByteArray := prog_1_method_10_code
def yX11_count : MethodName := ⟨RX11, "count", "(I)I"⟩
abbrev cX11_nights : ByteArray := prog_1_method_11_code
def yX11_nights : MethodName := ⟨RX11, "nights", "(I)I"⟩
abbrev cX11_move : ByteArray := prog_1_method_12_code
def yX11_move : MethodName := ⟨RX11, "move", "(II)I"⟩
abbrev cX11_pass : ByteArray := prog_1_method_13_code
def yX11_pass : MethodName := ⟨RX11, "pass", "(II)I"⟩
abbrev cX11_back : ByteArray := prog_1_method_14_code
def yX11_back : MethodName := ⟨RX11, "back", "(I)I"⟩
abbrev cX11_drift : ByteArray := prog_1_method_15_code
def yX11_drift : MethodName := ⟨RX11, "drift", "(I)I"⟩
abbrev cX11_undo : ByteArray := prog_1_method_16_code
def yX11_undo : MethodName := ⟨RX11, "undo", "()I"⟩
abbrev cX11_seed : ByteArray := prog_1_method_17_code
def yX11_seed : MethodName := ⟨RX11, "seed", "(I)I"⟩
abbrev cX11_ahead : ByteArray := prog_1_method_18_code
def yX11_ahead : MethodName := ⟨RX11, "ahead", "(II)I"⟩
abbrev cX11_loudAhead : ByteArray := prog_1_method_19_code
def yX11_loudAhead : MethodName := ⟨RX11, "loudAhead", "(II)I"⟩
abbrev cX11_sleeps : ByteArray := prog_1_method_20_code
def yX11_sleeps : MethodName := ⟨RX11, "sleeps", "(II)I"⟩
abbrev cX11_peace : ByteArray := prog_1_method_21_code
def yX11_peace : MethodName := ⟨RX11, "peace", "()I"⟩
abbrev cX11_best : ByteArray := prog_1_method_22_code
def yX11_best : MethodName := ⟨RX11, "best", "(III)I"⟩
abbrev cX11_bestBed : ByteArray := prog_1_method_23_code
def yX11_bestBed : MethodName := ⟨RX11, "bestBed", "(III)I"⟩
abbrev cX11_change : ByteArray := prog_1_method_24_code
def yX11_change : MethodName := ⟨RX11, "change", "(II)I"⟩
abbrev cX11_backs : ByteArray := prog_1_method_25_code
def yX11_backs : MethodName := ⟨RX11, "backs", "(II)I"⟩
abbrev cX11_luck : ByteArray := prog_1_method_26_code
def yX11_luck : MethodName := ⟨RX11, "luck", "(III)I"⟩
abbrev cX11_thanked : ByteArray := prog_1_method_27_code
def yX11_thanked : MethodName := ⟨RX11, "thanked", "(I)I"⟩
abbrev cX11_image : ByteArray := prog_1_method_28_code
def yX11_image : MethodName := ⟨RX11, "image", "()I"⟩
abbrev cX11_restore : ByteArray := prog_1_method_29_code
def yX11_restore : MethodName := ⟨RX11, "restore", "()I"⟩
abbrev cX11_heard : ByteArray := prog_1_method_30_code
def yX11_heard : MethodName := ⟨RX11, "heard", "(IIIIII)I"⟩
abbrev cX11_film : ByteArray := prog_1_method_31_code
def yX11_film : MethodName := ⟨RX11, "film", "(IIIII)I"⟩
abbrev cX11_sheet : ByteArray := prog_1_method_32_code
def yX11_sheet : MethodName := ⟨RX11, "sheet", "(III)I"⟩
abbrev cX11_drop : ByteArray := prog_1_method_33_code
def yX11_drop : MethodName := ⟨RX11, "drop", "(I)I"⟩
abbrev cX11_item : ByteArray := prog_1_method_34_code
def yX11_item : MethodName := ⟨RX11, "item", "(IIIJ)I"⟩
abbrev cX11_copy : ByteArray := prog_1_method_35_code
def yX11_copy : MethodName := ⟨RX11, "copy", "(IIIII)I"⟩
abbrev cX11_spendNights : ByteArray := prog_1_method_36_code
def yX11_spendNights : MethodName := ⟨RX11, "spendNights", "(IZ)I"⟩
abbrev cX11_kindsHeard : ByteArray := prog_1_method_37_code
def yX11_kindsHeard : MethodName := ⟨RX11, "kindsHeard", "(ILThankingGifts$Sheet;II)I"⟩
abbrev cX11_dearsHeard : ByteArray := prog_1_method_38_code
def yX11_dearsHeard : MethodName := ⟨RX11, "dearsHeard", "(ILThankingGifts$Sheet;II)I"⟩
abbrev cX11_isHeardAs : ByteArray := prog_1_method_39_code
def yX11_isHeardAs : MethodName := ⟨RX11, "isHeardAs", "(IIILThankingGifts$Sheet;II)Z"⟩
abbrev cX11_ways : ByteArray := prog_1_method_40_code
def yX11_ways : MethodName := ⟨RX11, "ways", "(III)I"⟩
abbrev cX11_greatestCommon : ByteArray := prog_1_method_41_code
def yX11_greatestCommon : MethodName := ⟨RX11, "greatestCommon", "(II)I"⟩
abbrev cX11_within : ByteArray := prog_1_method_42_code
def yX11_within : MethodName := ⟨RX11, "within", "(III)Z"⟩
abbrev cX11_isRoom : ByteArray := prog_1_method_43_code
def yX11_isRoom : MethodName := ⟨RX11, "isRoom", "(I)Z"⟩
abbrev cX11_isGiver : ByteArray := prog_1_method_44_code
def yX11_isGiver : MethodName := ⟨RX11, "isGiver", "(I)Z"⟩
abbrev cX11_isSheet : ByteArray := prog_1_method_45_code
def yX11_isSheet : MethodName := ⟨RX11, "isSheet", "(I)Z"⟩
abbrev cX11_isLane : ByteArray := prog_1_method_46_code
def yX11_isLane : MethodName := ⟨RX11, "isLane", "(I)Z"⟩
abbrev cX11_isIn : ByteArray := prog_1_method_47_code
def yX11_isIn : MethodName := ⟨RX11, "isIn", "(II)Z"⟩
abbrev cX11_leftAtFirst : ByteArray := prog_1_method_48_code
def yX11_leftAtFirst : MethodName := ⟨RX11, "leftAtFirst", "(I)I"⟩
abbrev cX11_sum : ByteArray := prog_1_method_49_code
def yX11_sum : MethodName := ⟨RX11, "sum", "([II)I"⟩
def RX12 : String := "ThankingGiftsModel"
def TX12 : u_T := fun k => match k with
  | 0 => ("ThankingGiftsModel", "lane", "[I", true)
  | 1 => ("ThankingGiftsModel", "size", "[I", true)
  | 2 => ("ThankingGiftsModel", "item", "[J", true)
  | 3 => ("ThankingGiftsModel", "letters", "I", false)
  | 4 => ("ThankingGiftsModel", "tape", "[I", true)
  | 5 => ("ThankingGiftsModel", "position", "I", false)
  | 6 => ("ThankingGiftsModel", "number", "I", false)
  | 7 => ("ThankingGiftsModel", "now", "[I", true)
  | 8 => ("ThankingGiftsModel", "tried", "[I", true)
  | 9 => ("ThankingGiftsModel", "read", "[I", true)
  | 10 => ("ThankingGiftsModel", "kept", "[I", true)
  | _ => ("ThankingGiftsModel", "isKept", "Z", false)
def tyX12 : Nat → FieldType := fun k => match k with
  | 0 => .array .int
  | 1 => .array .int
  | 2 => .array .long
  | 3 => .int
  | 4 => .array .int
  | 5 => .int
  | 6 => .int
  | 7 => .array .int
  | 8 => .array .int
  | 9 => .array .int
  | 10 => .array .int
  | _ => .boolean
theorem nmX12 : ∀ a, a < 12 → ∀ b, b < 12 → a ≠ b → (TX12 a).2.1 ≠ (TX12 b).2.1 := by decide +kernel
theorem tyX12_ok : ∀ k, k < 12 → parseFieldDescriptor (TX12 k).2.2.1 = some (tyX12 k) := by decide +kernel
abbrev cX12_init : ByteArray := prog_14_method_1_code
def yX12_init : MethodName := ⟨RX12, "<init>", "()V"⟩
abbrev cX12_in : ByteArray := prog_14_method_2_code
def yX12_in : MethodName := ⟨RX12, "in", "(III)Z"⟩
abbrev cX12_has : ByteArray := prog_14_method_3_code
def yX12_has : MethodName := ⟨RX12, "has", "(II)Z"⟩
abbrev cX12_bits : ByteArray := prog_14_method_4_code
def yX12_bits : MethodName := ⟨RX12, "bits", "(I)I"⟩
abbrev cX12_bring : ByteArray := prog_14_method_5_code
def yX12_bring : MethodName := ⟨RX12, "bring", "([II[III)V"⟩
abbrev cX12_isSleeper : ByteArray := prog_14_method_6_code
def yX12_isSleeper : MethodName := ⟨RX12, "isSleeper", "(I)Z"⟩
abbrev cX12_isThing : ByteArray := prog_14_method_7_code
def yX12_isThing : MethodName := ⟨RX12, "isThing", "(I)Z"⟩
abbrev cX12_isRoom : ByteArray := prog_14_method_8_code
def yX12_isRoom : MethodName := ⟨RX12, "isRoom", "(I)Z"⟩
abbrev cX12_addSleeper : ByteArray := prog_14_method_9_code
def yX12_addSleeper : MethodName := ⟨RX12, "addSleeper", "([III)I"⟩
abbrev cX12_firstLeft : ByteArray := prog_14_method_10_code
def yX12_firstLeft : MethodName := ⟨RX12, "firstLeft", "(I)I"⟩
abbrev cX12_addThing : ByteArray := prog_14_method_11_code
def yX12_addThing : MethodName := ⟨RX12, "addThing", "([IIIII)I"⟩
abbrev cX12_sleeper : ByteArray := prog_14_method_12_code
def yX12_sleeper : MethodName := ⟨RX12, "sleeper", "(II)I"⟩
abbrev cX12_thing : ByteArray := prog_14_method_13_code
def yX12_thing : MethodName := ⟨RX12, "thing", "(IIII)I"⟩
abbrev cX12_loudBy : ByteArray := prog_14_method_14_code
def yX12_loudBy : MethodName := ⟨RX12, "loudBy", "(IIII)I"⟩
abbrev cX12_leftBy : ByteArray := prog_14_method_15_code
def yX12_leftBy : MethodName := ⟨RX12, "leftBy", "(IIII)I"⟩
abbrev cX12_loudOf : ByteArray := prog_14_method_16_code
def yX12_loudOf : MethodName := ⟨RX12, "loudOf", "([II)I"⟩
abbrev cX12_loudIn : ByteArray := prog_14_method_17_code
def yX12_loudIn : MethodName := ⟨RX12, "loudIn", "([II)I"⟩
abbrev cX12_isAsleep : ByteArray := prog_14_method_18_code
def yX12_isAsleep : MethodName := ⟨RX12, "isAsleep", "([II)Z"⟩
abbrev cX12_of : ByteArray := prog_14_method_19_code
def yX12_of : MethodName := ⟨RX12, "of", "(II)I"⟩
abbrev cX12_gift : ByteArray := prog_14_method_20_code
def yX12_gift : MethodName := ⟨RX12, "gift", "(II)I"⟩
abbrev cX12_room : ByteArray := prog_14_method_21_code
def yX12_room : MethodName := ⟨RX12, "room", "(II)I"⟩
abbrev cX12_bed : ByteArray := prog_14_method_22_code
def yX12_bed : MethodName := ⟨RX12, "bed", "(II)I"⟩
abbrev cX12_type : ByteArray := prog_14_method_23_code
def yX12_type : MethodName := ⟨RX12, "type", "(I)I"⟩
abbrev cX12_peek : ByteArray := prog_14_method_24_code
def yX12_peek : MethodName := ⟨RX12, "peek", "()I"⟩
abbrev cX12_isSign : ByteArray := prog_14_method_25_code
def yX12_isSign : MethodName := ⟨RX12, "isSign", "(I)Z"⟩
abbrev cX12_isDigit : ByteArray := prog_14_method_26_code
def yX12_isDigit : MethodName := ⟨RX12, "isDigit", "(II)Z"⟩
abbrev cX12_isNumber : ByteArray := prog_14_method_27_code
def yX12_isNumber : MethodName := ⟨RX12, "isNumber", "()Z"⟩
abbrev cX12_isSleeperItem : ByteArray := prog_14_method_28_code
def yX12_isSleeperItem : MethodName := ⟨RX12, "isSleeperItem", "()Z"⟩
abbrev cX12_kindBy : ByteArray := prog_14_method_29_code
def yX12_kindBy : MethodName := ⟨RX12, "kindBy", "(I)I"⟩
abbrev cX12_isThingItem : ByteArray := prog_14_method_30_code
def yX12_isThingItem : MethodName := ⟨RX12, "isThingItem", "()Z"⟩
abbrev cX12_isHouse : ByteArray := prog_14_method_31_code
def yX12_isHouse : MethodName := ⟨RX12, "isHouse", "()Z"⟩
abbrev cX12_house : ByteArray := prog_14_method_32_code
def yX12_house : MethodName := ⟨RX12, "house", "()I"⟩
abbrev cX12_count : ByteArray := prog_14_method_33_code
def yX12_count : MethodName := ⟨RX12, "count", "(I)I"⟩
abbrev cX12_wokenIn : ByteArray := prog_14_method_34_code
def yX12_wokenIn : MethodName := ⟨RX12, "wokenIn", "([I)I"⟩
abbrev cX12_note : ByteArray := prog_14_method_35_code
def yX12_note : MethodName := ⟨RX12, "note", "()V"⟩
abbrev cX12_goBy : ByteArray := prog_14_method_36_code
def yX12_goBy : MethodName := ⟨RX12, "goBy", "([I)V"⟩
abbrev cX12_nights : ByteArray := prog_14_method_37_code
def yX12_nights : MethodName := ⟨RX12, "nights", "(I)I"⟩
abbrev cX12_move : ByteArray := prog_14_method_38_code
def yX12_move : MethodName := ⟨RX12, "move", "(II)I"⟩
abbrev cX12_pass : ByteArray := prog_14_method_39_code
def yX12_pass : MethodName := ⟨RX12, "pass", "(II)I"⟩
abbrev cX12_back : ByteArray := prog_14_method_40_code
def yX12_back : MethodName := ⟨RX12, "back", "(I)I"⟩
abbrev cX12_drift : ByteArray := prog_14_method_41_code
def yX12_drift : MethodName := ⟨RX12, "drift", "(I)I"⟩
abbrev cX12_undo : ByteArray := prog_14_method_42_code
def yX12_undo : MethodName := ⟨RX12, "undo", "()I"⟩
abbrev cX12_seed : ByteArray := prog_14_method_43_code
def yX12_seed : MethodName := ⟨RX12, "seed", "(I)I"⟩
abbrev cX12_begin : ByteArray := prog_14_method_44_code
def yX12_begin : MethodName := ⟨RX12, "begin", "()V"⟩
abbrev cX12_goOn : ByteArray := prog_14_method_45_code
def yX12_goOn : MethodName := ⟨RX12, "goOn", "(I)V"⟩
abbrev cX12_ahead : ByteArray := prog_14_method_46_code
def yX12_ahead : MethodName := ⟨RX12, "ahead", "(II)I"⟩
abbrev cX12_loudAhead : ByteArray := prog_14_method_47_code
def yX12_loudAhead : MethodName := ⟨RX12, "loudAhead", "(II)I"⟩
abbrev cX12_sleeps : ByteArray := prog_14_method_48_code
def yX12_sleeps : MethodName := ⟨RX12, "sleeps", "(II)I"⟩
abbrev cX12_peace : ByteArray := prog_14_method_49_code
def yX12_peace : MethodName := ⟨RX12, "peace", "()I"⟩
abbrev cX12_wokenOn : ByteArray := prog_14_method_50_code
def yX12_wokenOn : MethodName := ⟨RX12, "wokenOn", "(I)I"⟩
abbrev cX12_best : ByteArray := prog_14_method_51_code
def yX12_best : MethodName := ⟨RX12, "best", "(III)I"⟩
abbrev cX12_bestBed : ByteArray := prog_14_method_52_code
def yX12_bestBed : MethodName := ⟨RX12, "bestBed", "(III)I"⟩
abbrev cX12_change : ByteArray := prog_14_method_53_code
def yX12_change : MethodName := ⟨RX12, "change", "(II)I"⟩
abbrev cX12_backs : ByteArray := prog_14_method_54_code
def yX12_backs : MethodName := ⟨RX12, "backs", "(II)I"⟩
abbrev cX12_luck : ByteArray := prog_14_method_55_code
def yX12_luck : MethodName := ⟨RX12, "luck", "(III)I"⟩
abbrev cX12_thanked : ByteArray := prog_14_method_56_code
def yX12_thanked : MethodName := ⟨RX12, "thanked", "(I)I"⟩
abbrev cX12_image : ByteArray := prog_14_method_57_code
def yX12_image : MethodName := ⟨RX12, "image", "()I"⟩
abbrev cX12_restore : ByteArray := prog_14_method_58_code
def yX12_restore : MethodName := ⟨RX12, "restore", "()I"⟩
abbrev cX12_isSheet : ByteArray := prog_14_method_59_code
def yX12_isSheet : MethodName := ⟨RX12, "isSheet", "(I)Z"⟩
abbrev cX12_isPart : ByteArray := prog_14_method_60_code
def yX12_isPart : MethodName := ⟨RX12, "isPart", "(III)Z"⟩
abbrev cX12_wrong : ByteArray := prog_14_method_61_code
def yX12_wrong : MethodName := ⟨RX12, "wrong", "(IIII)I"⟩
abbrev cX12_heard : ByteArray := prog_14_method_62_code
def yX12_heard : MethodName := ⟨RX12, "heard", "(IIIIII)I"⟩
abbrev cX12_film : ByteArray := prog_14_method_63_code
def yX12_film : MethodName := ⟨RX12, "film", "(IIIII)I"⟩
abbrev cX12_sheet : ByteArray := prog_14_method_64_code
def yX12_sheet : MethodName := ⟨RX12, "sheet", "(III)I"⟩
abbrev cX12_drop : ByteArray := prog_14_method_65_code
def yX12_drop : MethodName := ⟨RX12, "drop", "(I)I"⟩
abbrev cX12_item : ByteArray := prog_14_method_66_code
def yX12_item : MethodName := ⟨RX12, "item", "(IIIJ)I"⟩
abbrev cX12_copy : ByteArray := prog_14_method_67_code
def yX12_copy : MethodName := ⟨RX12, "copy", "(IIIII)I"⟩
def RJ11 : String := "java/lang/Character"
abbrev cJ11_isValidCodePoint_9a6ad : ByteArray := prog_15_method_11_code
def yJ11_isValidCodePoint_9a6ad : MethodName := ⟨RJ11, "isValidCodePoint", "(I)Z"⟩
abbrev cJ11_highSurrogate_5068e : ByteArray := prog_15_method_28_code
def yJ11_highSurrogate_5068e : MethodName := ⟨RJ11, "highSurrogate", "(I)C"⟩
abbrev cJ11_lowSurrogate_5068e : ByteArray := prog_15_method_29_code
def yJ11_lowSurrogate_5068e : MethodName := ⟨RJ11, "lowSurrogate", "(I)C"⟩
def RJ6 : String := "java/lang/Integer"
abbrev cJ6_bitCount_0f7a4 : ByteArray := prog_16_method_49_code
def yJ6_bitCount_0f7a4 : MethodName := ⟨RJ6, "bitCount", "(I)I"⟩
def RJ9 : String := "java/lang/Math"
abbrev cJ9_max_7cf53 : ByteArray := prog_17_method_65_code
def yJ9_max_7cf53 : MethodName := ⟨RJ9, "max", "(II)I"⟩
abbrev cJ9_min_7cf53 : ByteArray := prog_17_method_69_code
def yJ9_min_7cf53 : MethodName := ⟨RJ9, "min", "(II)I"⟩
def RJ0 : String := "java/lang/String"
abbrev cJ0_length_8abf5 : ByteArray := prog_18_method_54_code
def yJ0_length_8abf5 : MethodName := ⟨RJ0, "length", "()I"⟩
abbrev cJ0_indexOf_0f7a4 : ByteArray := prog_18_method_79_code
def yJ0_indexOf_0f7a4 : MethodName := ⟨RJ0, "indexOf", "(I)I"⟩
abbrev cJ0_indexOf_7cf53 : ByteArray := prog_18_method_80_code
def yJ0_indexOf_7cf53 : MethodName := ⟨RJ0, "indexOf", "(II)I"⟩
abbrev cJ0_coder_7d493 : ByteArray := prog_18_method_152_code
def yJ0_coder_7d493 : MethodName := ⟨RJ0, "coder", "()B"⟩
abbrev cJ0_isLatin1_aae02 : ByteArray := prog_18_method_154_code
def yJ0_isLatin1_aae02 : MethodName := ⟨RJ0, "isLatin1", "()Z"⟩
abbrev cJ0_checkBoundsBeginEnd_23922 : ByteArray := prog_18_method_158_code
def yJ0_checkBoundsBeginEnd_23922 : MethodName := ⟨RJ0, "checkBoundsBeginEnd", "(III)V"⟩
def RJ1 : String := "java/lang/StringLatin1"
abbrev cJ1_canEncode_9a6ad : ByteArray := prog_19_method_4_code
def yJ1_canEncode_9a6ad : MethodName := ⟨RJ1, "canEncode", "(I)Z"⟩
abbrev cJ1_indexOf_4cfef : ByteArray := prog_19_method_22_code
def yJ1_indexOf_4cfef : MethodName := ⟨RJ1, "indexOf", "([BIII)I"⟩
abbrev cJ1_indexOfChar_4cfef : ByteArray := prog_19_method_23_code
def yJ1_indexOfChar_4cfef : MethodName := ⟨RJ1, "indexOfChar", "([BIII)I"⟩
def RJ2 : String := "java/lang/StringUTF16"
abbrev cJ2_getChar_3b067 : ByteArray := prog_20_method_5_code
def yJ2_getChar_3b067 : MethodName := ⟨RJ2, "getChar", "([BI)C"⟩
abbrev cJ2_length_9d52b : ByteArray := prog_20_method_6_code
def yJ2_length_9d52b : MethodName := ⟨RJ2, "length", "([B)I"⟩
abbrev cJ2_indexOf_4cfef : ByteArray := prog_20_method_40_code
def yJ2_indexOf_4cfef : MethodName := ⟨RJ2, "indexOf", "([BIII)I"⟩
abbrev cJ2_indexOfChar_4cfef : ByteArray := prog_20_method_47_code
def yJ2_indexOfChar_4cfef : MethodName := ⟨RJ2, "indexOfChar", "([BIII)I"⟩
abbrev cJ2_indexOfCharUnsafe_4cfef : ByteArray := prog_20_method_48_code
def yJ2_indexOfCharUnsafe_4cfef : MethodName := ⟨RJ2, "indexOfCharUnsafe", "([BIII)I"⟩
abbrev cJ2_indexOfSupplementary_4cfef : ByteArray := prog_20_method_49_code
def yJ2_indexOfSupplementary_4cfef : MethodName := ⟨RJ2, "indexOfSupplementary", "([BIII)I"⟩
abbrev cJ2_checkBoundsBeginEnd_d044e : ByteArray := prog_20_method_93_code
def yJ2_checkBoundsBeginEnd_d044e : MethodName := ⟨RJ2, "checkBoundsBeginEnd", "(II[B)V"⟩
def RJ10 : String := "java/lang/System"
def RJ3 : String := "jdk/internal/util/Preconditions"
abbrev cJ3_checkFromToIndex_8c36e : ByteArray := prog_22_method_12_code
def yJ3_checkFromToIndex_8c36e : MethodName := ⟨RJ3, "checkFromToIndex", "(IIILjava/util/function/BiFunction;)I"⟩
def RL : String := "ThankingGiftsLaw"
abbrev vwCl : List vw_C := [(RX0, TX0, 0), (RX1, TX1, 0), (RX2, TX2, 9), (RX3, TX3, 0), (RX4, TX4, 7), (RX5, TX5, 5), (RX6, TX6, 3), (RX7, TX7, 0), (RX8, TX8, 3), (RX9, TX9, 4), (RX10, TX10, 0), (RX11, TX11, 9), (RX12, TX12, 12)]
def sd_nF : Nat → Nat
  | 0 => 0
  | 1 => 0
  | 2 => 9
  | 3 => 0
  | 4 => 7
  | 5 => 5
  | 6 => 3
  | 7 => 0
  | 8 => 3
  | 9 => 4
  | 10 => 0
  | 11 => 9
  | 12 => 12
  | _ => 0
def sd_isR : Nat → Nat → Bool
  | 2, 0 => true
  | 2, 1 => true
  | 2, 2 => true
  | 2, 3 => true
  | 2, 4 => true
  | 2, 5 => true
  | 2, 6 => true
  | 4, 0 => true
  | 4, 1 => true
  | 4, 2 => true
  | 4, 3 => true
  | 4, 4 => true
  | 5, 0 => true
  | 5, 3 => true
  | 5, 4 => true
  | 6, 0 => true
  | 8, 0 => true
  | 9, 0 => true
  | 11, 0 => true
  | 11, 1 => true
  | 11, 2 => true
  | 11, 3 => true
  | 11, 5 => true
  | 11, 6 => true
  | 11, 7 => true
  | 11, 8 => true
  | 12, 0 => true
  | 12, 1 => true
  | 12, 2 => true
  | 12, 4 => true
  | 12, 7 => true
  | 12, 8 => true
  | 12, 9 => true
  | 12, 10 => true
  | _, _ => false
theorem sd_m0 {w : Cond} {i : Nat} (h : (k2_sels lw_privs)[i]? = some w) : w ∈ lw_tbl := List.mem_append_left _ (List.mem_of_getElem? h)
theorem sd_m {w : Cond} (h : w ∈ tables_1) : w ∈ lw_tbl := List.mem_append_right _ h
theorem sd_m1 {w : Cond} {i : Nat} (h : tables_1_1[i]? = some w) : w ∈ lw_tbl := sd_m (List.mem_append_left _ (List.mem_of_getElem? h))
theorem sd_m2 {w : Cond} {i : Nat} (h : tables_1_2[i]? = some w) : w ∈ lw_tbl := sd_m (List.mem_append_right _ (List.mem_append_left _ (List.mem_of_getElem? h)))
theorem sd_m3 {w : Cond} {i : Nat} (h : tables_1_3[i]? = some w) : w ∈ lw_tbl := sd_m (List.mem_append_right _ (List.mem_append_right _ (List.mem_append_left _ (List.mem_of_getElem? h))))
theorem sd_m4 {w : Cond} {i : Nat} (h : tables_1_4[i]? = some w) : w ∈ lw_tbl := sd_m (List.mem_append_right _ (List.mem_append_right _ (List.mem_append_right _ (List.mem_append_left _ (List.mem_of_getElem? h)))))
theorem sd_m5 {w : Cond} {i : Nat} (h : tables_1_5[i]? = some w) : w ∈ lw_tbl := sd_m (List.mem_append_right _ (List.mem_append_right _ (List.mem_append_right _ (List.mem_append_right _ (List.mem_of_getElem? h)))))
def sd_gd : List Cond := lw_tbl.filter goodWord
theorem sd_gd_in {w : Cond} (h : w ∈ lw_tbl) (hg : goodWord w = true) : w ∈ sd_gd := List.mem_filter.mpr ⟨h, hg⟩
theorem sd_gd_good {w : Cond} (h : w ∈ sd_gd) : goodWord w = true := (List.mem_filter.mp h).2
theorem wS_X8_X8_readSleepers : (.selects RX8 yX8_readSleepers yX8_readSleepers : Cond) ∈ sd_gd := sd_gd_in (sd_m0 (i := 0) (by decide +kernel)) rfl
theorem wS_X8_X8_readSleeper : (.selects RX8 yX8_readSleeper yX8_readSleeper : Cond) ∈ sd_gd := sd_gd_in (sd_m0 (i := 1) (by decide +kernel)) rfl
theorem wS_X8_X8_readDigit : (.selects RX8 yX8_readDigit yX8_readDigit : Cond) ∈ sd_gd := sd_gd_in (sd_m0 (i := 2) (by decide +kernel)) rfl
theorem wS_X8_X8_skipBlanks : (.selects RX8 yX8_skipBlanks yX8_skipBlanks : Cond) ∈ sd_gd := sd_gd_in (sd_m0 (i := 3) (by decide +kernel)) rfl
theorem wS_X8_X8_digitHere : (.selects RX8 yX8_digitHere yX8_digitHere : Cond) ∈ sd_gd := sd_gd_in (sd_m0 (i := 4) (by decide +kernel)) rfl
theorem wS_X8_X8_takes : (.selects RX8 yX8_takes yX8_takes : Cond) ∈ sd_gd := sd_gd_in (sd_m0 (i := 5) (by decide +kernel)) rfl
theorem wS_X8_X8_readNumber : (.selects RX8 yX8_readNumber yX8_readNumber : Cond) ∈ sd_gd := sd_gd_in (sd_m0 (i := 6) (by decide +kernel)) rfl
theorem wS_X8_X8_readThings : (.selects RX8 yX8_readThings yX8_readThings : Cond) ∈ sd_gd := sd_gd_in (sd_m0 (i := 7) (by decide +kernel)) rfl
theorem wS_X8_X8_readThing : (.selects RX8 yX8_readThing yX8_readThing : Cond) ∈ sd_gd := sd_gd_in (sd_m0 (i := 8) (by decide +kernel)) rfl
theorem wS_X8_X8_readKind : (.selects RX8 yX8_readKind yX8_readKind : Cond) ∈ sd_gd := sd_gd_in (sd_m0 (i := 9) (by decide +kernel)) rfl
theorem wS_X11_X11_spendNights : (.selects RX11 yX11_spendNights yX11_spendNights : Cond) ∈ sd_gd := sd_gd_in (sd_m0 (i := 10) (by decide +kernel)) rfl
theorem wS_X11_X11_ways : (.selects RX11 yX11_ways yX11_ways : Cond) ∈ sd_gd := sd_gd_in (sd_m0 (i := 11) (by decide +kernel)) rfl
theorem wS_X11_X11_kindsHeard : (.selects RX11 yX11_kindsHeard yX11_kindsHeard : Cond) ∈ sd_gd := sd_gd_in (sd_m0 (i := 12) (by decide +kernel)) rfl
theorem wS_X11_X11_isHeardAs : (.selects RX11 yX11_isHeardAs yX11_isHeardAs : Cond) ∈ sd_gd := sd_gd_in (sd_m0 (i := 13) (by decide +kernel)) rfl
theorem wS_X11_X11_dearsHeard : (.selects RX11 yX11_dearsHeard yX11_dearsHeard : Cond) ∈ sd_gd := sd_gd_in (sd_m0 (i := 14) (by decide +kernel)) rfl
theorem wS_X12_X12_isSleeper : (.selects RX12 yX12_isSleeper yX12_isSleeper : Cond) ∈ sd_gd := sd_gd_in (sd_m0 (i := 15) (by decide +kernel)) rfl
theorem wS_X12_X12_isThing : (.selects RX12 yX12_isThing yX12_isThing : Cond) ∈ sd_gd := sd_gd_in (sd_m0 (i := 16) (by decide +kernel)) rfl
theorem wS_X12_X12_isHouse : (.selects RX12 yX12_isHouse yX12_isHouse : Cond) ∈ sd_gd := sd_gd_in (sd_m0 (i := 17) (by decide +kernel)) rfl
theorem wS_X12_X12_isSleeperItem : (.selects RX12 yX12_isSleeperItem yX12_isSleeperItem : Cond) ∈ sd_gd := sd_gd_in (sd_m0 (i := 18) (by decide +kernel)) rfl
theorem wS_X12_X12_isDigit : (.selects RX12 yX12_isDigit yX12_isDigit : Cond) ∈ sd_gd := sd_gd_in (sd_m0 (i := 19) (by decide +kernel)) rfl
theorem wS_X12_X12_peek : (.selects RX12 yX12_peek yX12_peek : Cond) ∈ sd_gd := sd_gd_in (sd_m0 (i := 20) (by decide +kernel)) rfl
theorem wS_X12_X12_isSign : (.selects RX12 yX12_isSign yX12_isSign : Cond) ∈ sd_gd := sd_gd_in (sd_m0 (i := 21) (by decide +kernel)) rfl
theorem wS_X12_X12_isNumber : (.selects RX12 yX12_isNumber yX12_isNumber : Cond) ∈ sd_gd := sd_gd_in (sd_m0 (i := 22) (by decide +kernel)) rfl
theorem wS_X12_X12_isThingItem : (.selects RX12 yX12_isThingItem yX12_isThingItem : Cond) ∈ sd_gd := sd_gd_in (sd_m0 (i := 23) (by decide +kernel)) rfl
theorem wS_X12_X12_note : (.selects RX12 yX12_note yX12_note : Cond) ∈ sd_gd := sd_gd_in (sd_m0 (i := 24) (by decide +kernel)) rfl
theorem wS_X12_X12_goOn : (.selects RX12 yX12_goOn yX12_goOn : Cond) ∈ sd_gd := sd_gd_in (sd_m0 (i := 25) (by decide +kernel)) rfl
theorem wS_X12_X12_begin : (.selects RX12 yX12_begin yX12_begin : Cond) ∈ sd_gd := sd_gd_in (sd_m0 (i := 26) (by decide +kernel)) rfl
theorem wS_X12_X12_wokenOn : (.selects RX12 yX12_wokenOn yX12_wokenOn : Cond) ∈ sd_gd := sd_gd_in (sd_m0 (i := 27) (by decide +kernel)) rfl
theorem wS_X12_X12_wrong : (.selects RX12 yX12_wrong yX12_wrong : Cond) ∈ sd_gd := sd_gd_in (sd_m0 (i := 28) (by decide +kernel)) rfl
theorem wZ_L : (.initialized RL : Cond) ∈ sd_gd := sd_gd_in (sd_m1 (i := 0) (by decide +kernel)) rfl
theorem wZ_X11 : (.initialized RX11 : Cond) ∈ sd_gd := sd_gd_in (sd_m1 (i := 1) (by decide +kernel)) rfl
theorem wZ_X2 : (.initialized RX2 : Cond) ∈ sd_gd := sd_gd_in (sd_m1 (i := 2) (by decide +kernel)) rfl
theorem wZ_X7 : (.initialized RX7 : Cond) ∈ sd_gd := sd_gd_in (sd_m1 (i := 3) (by decide +kernel)) rfl
theorem wZ_X1 : (.initialized RX1 : Cond) ∈ sd_gd := sd_gd_in (sd_m1 (i := 4) (by decide +kernel)) rfl
theorem wZ_X0 : (.initialized RX0 : Cond) ∈ sd_gd := sd_gd_in (sd_m1 (i := 5) (by decide +kernel)) rfl
theorem wZ_X10 : (.initialized RX10 : Cond) ∈ sd_gd := sd_gd_in (sd_m1 (i := 6) (by decide +kernel)) rfl
theorem wZ_X3 : (.initialized RX3 : Cond) ∈ sd_gd := sd_gd_in (sd_m1 (i := 7) (by decide +kernel)) rfl
theorem wZ_X4 : (.initialized RX4 : Cond) ∈ sd_gd := sd_gd_in (sd_m1 (i := 8) (by decide +kernel)) rfl
theorem wZ_X6 : (.initialized RX6 : Cond) ∈ sd_gd := sd_gd_in (sd_m1 (i := 9) (by decide +kernel)) rfl
theorem wZ_X8 : (.initialized RX8 : Cond) ∈ sd_gd := sd_gd_in (sd_m1 (i := 10) (by decide +kernel)) rfl
theorem wZ_X5 : (.initialized RX5 : Cond) ∈ sd_gd := sd_gd_in (sd_m1 (i := 11) (by decide +kernel)) rfl
theorem wZ_X9 : (.initialized RX9 : Cond) ∈ sd_gd := sd_gd_in (sd_m1 (i := 12) (by decide +kernel)) rfl
theorem wZ_X12 : (.initialized RX12 : Cond) ∈ sd_gd := sd_gd_in (sd_m1 (i := 13) (by decide +kernel)) rfl
theorem wZ_J9 : (.initialized RJ9 : Cond) ∈ sd_gd := sd_gd_in (sd_m1 (i := 14) (by decide +kernel)) rfl
theorem wZ_J0 : (.initialized RJ0 : Cond) ∈ sd_gd := sd_gd_in (sd_m1 (i := 15) (by decide +kernel)) rfl
theorem wZ_J1 : (.initialized RJ1 : Cond) ∈ sd_gd := sd_gd_in (sd_m1 (i := 16) (by decide +kernel)) rfl
theorem wZ_J2 : (.initialized RJ2 : Cond) ∈ sd_gd := sd_gd_in (sd_m1 (i := 17) (by decide +kernel)) rfl
theorem wZ_J3 : (.initialized RJ3 : Cond) ∈ sd_gd := sd_gd_in (sd_m1 (i := 18) (by decide +kernel)) rfl
theorem wZ_J11 : (.initialized RJ11 : Cond) ∈ sd_gd := sd_gd_in (sd_m1 (i := 19) (by decide +kernel)) rfl
theorem wZ_J10 : (.initialized RJ10 : Cond) ∈ sd_gd := sd_gd_in (sd_m1 (i := 20) (by decide +kernel)) rfl
theorem wZ_J6 : (.initialized RJ6 : Cond) ∈ sd_gd := sd_gd_in (sd_m1 (i := 21) (by decide +kernel)) rfl
theorem wL_L_7 : (.classLink RL 7 RX11 : Cond) ∈ sd_gd := sd_gd_in (sd_m1 (i := 22) (by decide +kernel)) rfl
theorem wB_X11 : (.instantiable RX11 9 : Cond) ∈ sd_gd := sd_gd_in (sd_m1 (i := 23) (by decide +kernel)) rfl
theorem wM_L_9 : (.methodLink RL 9 yX11_init : Cond) ∈ sd_gd := sd_gd_in (sd_m1 (i := 24) (by decide +kernel)) rfl
theorem wI_X11_init : (.instanceMethod yX11_init : Cond) ∈ sd_gd := sd_gd_in (sd_m1 (i := 25) (by decide +kernel)) rfl
theorem wC_X11_init : (.code yX11_init cX11_init 1 none : Cond) ∈ sd_gd := sd_gd_in (sd_m1 (i := 26) (by decide +kernel)) rfl
theorem wM_X11_1 : (.methodLink RX11 1 Lib.objectInit : Cond) ∈ sd_gd := sd_gd_in (sd_m1 (i := 27) (by decide +kernel)) rfl
theorem wI_obj : (.instanceMethod Lib.objectInit : Cond) ∈ sd_gd := sd_gd_in (sd_m1 (i := 28) (by decide +kernel)) rfl
theorem wC_obj : (.code Lib.objectInit ⟨#[0xb1]⟩ 1 none : Cond) ∈ sd_gd := sd_gd_in (sd_m1 (i := 29) (by decide +kernel)) rfl
theorem wL_X11_7 : (.classLink RX11 7 RX2 : Cond) ∈ sd_gd := sd_gd_in (sd_m1 (i := 30) (by decide +kernel)) rfl
theorem wB_X2 : (.instantiable RX2 9 : Cond) ∈ sd_gd := sd_gd_in (sd_m1 (i := 31) (by decide +kernel)) rfl
theorem wI_X2_init : (.instanceMethod yX2_init : Cond) ∈ sd_gd := sd_gd_in (sd_m1 (i := 33) (by decide +kernel)) rfl
theorem wC_X2_init : (.code yX2_init cX2_init 1 none : Cond) ∈ sd_gd := sd_gd_in (sd_m1 (i := 34) (by decide +kernel)) rfl
theorem wM_X2_3 : (.methodLink RX2 3 Lib.objectInit : Cond) ∈ sd_gd := sd_gd_in (sd_m1 (i := 35) (by decide +kernel)) rfl
theorem wL_X2_9 : (.classLink RX2 9 RX7 : Cond) ∈ sd_gd := sd_gd_in (sd_m1 (i := 36) (by decide +kernel)) rfl
theorem wB_X7 : (.instantiable RX7 0 : Cond) ∈ sd_gd := sd_gd_in (sd_m1 (i := 38) (by decide +kernel)) rfl
theorem wI_X7_init : (.instanceMethod yX7_init : Cond) ∈ sd_gd := sd_gd_in (sd_m1 (i := 40) (by decide +kernel)) rfl
theorem wC_X7_init : (.code yX7_init cX7_init 1 none : Cond) ∈ sd_gd := sd_gd_in (sd_m1 (i := 41) (by decide +kernel)) rfl
theorem wM_X7_1 : (.methodLink RX7 1 Lib.objectInit : Cond) ∈ sd_gd := sd_gd_in (sd_m1 (i := 42) (by decide +kernel)) rfl
theorem wL_X2_12 : (.classLink RX2 12 RX1 : Cond) ∈ sd_gd := sd_gd_in (sd_m1 (i := 44) (by decide +kernel)) rfl
theorem wB_X1 : (.instantiable RX1 0 : Cond) ∈ sd_gd := sd_gd_in (sd_m1 (i := 45) (by decide +kernel)) rfl
theorem wI_X1_init : (.instanceMethod yX1_init : Cond) ∈ sd_gd := sd_gd_in (sd_m1 (i := 47) (by decide +kernel)) rfl
theorem wC_X1_init : (.code yX1_init cX1_init 1 none : Cond) ∈ sd_gd := sd_gd_in (sd_m1 (i := 48) (by decide +kernel)) rfl
theorem wU_X1 : (.superclass RX1 RX7 : Cond) ∈ sd_gd := sd_gd_in (sd_m1 (i := 50) (by decide +kernel)) rfl
theorem wL_X2_15 : (.classLink RX2 15 RX0 : Cond) ∈ sd_gd := sd_gd_in (sd_m1 (i := 51) (by decide +kernel)) rfl
theorem wB_X0 : (.instantiable RX0 0 : Cond) ∈ sd_gd := sd_gd_in (sd_m1 (i := 52) (by decide +kernel)) rfl
theorem wI_X0_init : (.instanceMethod yX0_init : Cond) ∈ sd_gd := sd_gd_in (sd_m1 (i := 54) (by decide +kernel)) rfl
theorem wC_X0_init : (.code yX0_init cX0_init 1 none : Cond) ∈ sd_gd := sd_gd_in (sd_m1 (i := 55) (by decide +kernel)) rfl
theorem wU_X0 : (.superclass RX0 RX7 : Cond) ∈ sd_gd := sd_gd_in (sd_m1 (i := 57) (by decide +kernel)) rfl
theorem wL_X2_18 : (.classLink RX2 18 RX10 : Cond) ∈ sd_gd := sd_gd_in (sd_m1 (i := 58) (by decide +kernel)) rfl
theorem wB_X10 : (.instantiable RX10 0 : Cond) ∈ sd_gd := sd_gd_in (sd_m1 (i := 59) (by decide +kernel)) rfl
theorem wI_X10_init : (.instanceMethod yX10_init : Cond) ∈ sd_gd := sd_gd_in (sd_m1 (i := 61) (by decide +kernel)) rfl
theorem wC_X10_init : (.code yX10_init cX10_init 1 none : Cond) ∈ sd_gd := sd_gd_in (sd_m1 (i := 62) (by decide +kernel)) rfl
theorem wU_X10 : (.superclass RX10 RX1 : Cond) ∈ sd_gd := sd_gd_in (sd_m1 (i := 64) (by decide +kernel)) rfl
theorem wL_X2_21 : (.classLink RX2 21 RX3 : Cond) ∈ sd_gd := sd_gd_in (sd_m1 (i := 65) (by decide +kernel)) rfl
theorem wB_X3 : (.instantiable RX3 0 : Cond) ∈ sd_gd := sd_gd_in (sd_m1 (i := 66) (by decide +kernel)) rfl
theorem wI_X3_init : (.instanceMethod yX3_init : Cond) ∈ sd_gd := sd_gd_in (sd_m1 (i := 68) (by decide +kernel)) rfl
theorem wC_X3_init : (.code yX3_init cX3_init 1 none : Cond) ∈ sd_gd := sd_gd_in (sd_m1 (i := 69) (by decide +kernel)) rfl
theorem wU_X3 : (.superclass RX3 RX0 : Cond) ∈ sd_gd := sd_gd_in (sd_m1 (i := 71) (by decide +kernel)) rfl
theorem wL_X2_46 : (.classLink RX2 46 RX4 : Cond) ∈ sd_gd := sd_gd_in (sd_m1 (i := 72) (by decide +kernel)) rfl
theorem wB_X4 : (.instantiable RX4 7 : Cond) ∈ sd_gd := sd_gd_in (sd_m1 (i := 73) (by decide +kernel)) rfl
theorem wI_X4_init : (.instanceMethod yX4_init : Cond) ∈ sd_gd := sd_gd_in (sd_m1 (i := 75) (by decide +kernel)) rfl
theorem wC_X4_init : (.code yX4_init cX4_init 1 none : Cond) ∈ sd_gd := sd_gd_in (sd_m1 (i := 76) (by decide +kernel)) rfl
theorem wM_X4_3 : (.methodLink RX4 3 Lib.objectInit : Cond) ∈ sd_gd := sd_gd_in (sd_m1 (i := 77) (by decide +kernel)) rfl
theorem wF_X4_9 : (.fieldLink RX4 9 "ThankingGifts$Moment" "place" "[I" : Cond) ∈ sd_gd := sd_gd_in (sd_m1 (i := 78) (by decide +kernel)) rfl
theorem wF_X5_41 : (.fieldLink RX5 41 "ThankingGifts$Moment" "place" "[I" : Cond) ∈ sd_gd := sd_gd_in (sd_m1 (i := 79) (by decide +kernel)) rfl
theorem wF_X2_85 : (.fieldLink RX2 85 "ThankingGifts$Moment" "place" "[I" : Cond) ∈ sd_gd := sd_gd_in (sd_m1 (i := 80) (by decide +kernel)) rfl
theorem wF_X11_122 : (.fieldLink RX11 122 "ThankingGifts$Moment" "place" "[I" : Cond) ∈ sd_gd := sd_gd_in (sd_m1 (i := 81) (by decide +kernel)) rfl
theorem wF_X4_15 : (.fieldLink RX4 15 "ThankingGifts$Moment" "giver" "[I" : Cond) ∈ sd_gd := sd_gd_in (sd_m1 (i := 82) (by decide +kernel)) rfl
theorem wF_X2_82 : (.fieldLink RX2 82 "ThankingGifts$Moment" "giver" "[I" : Cond) ∈ sd_gd := sd_gd_in (sd_m1 (i := 83) (by decide +kernel)) rfl
theorem wF_X11_116 : (.fieldLink RX11 116 "ThankingGifts$Moment" "giver" "[I" : Cond) ∈ sd_gd := sd_gd_in (sd_m1 (i := 84) (by decide +kernel)) rfl
theorem wF_X4_18 : (.fieldLink RX4 18 "ThankingGifts$Moment" "left" "[I" : Cond) ∈ sd_gd := sd_gd_in (sd_m1 (i := 85) (by decide +kernel)) rfl
theorem wF_X5_50 : (.fieldLink RX5 50 "ThankingGifts$Moment" "left" "[I" : Cond) ∈ sd_gd := sd_gd_in (sd_m1 (i := 86) (by decide +kernel)) rfl
theorem wF_X2_88 : (.fieldLink RX2 88 "ThankingGifts$Moment" "left" "[I" : Cond) ∈ sd_gd := sd_gd_in (sd_m1 (i := 87) (by decide +kernel)) rfl
theorem wF_X11_125 : (.fieldLink RX11 125 "ThankingGifts$Moment" "left" "[I" : Cond) ∈ sd_gd := sd_gd_in (sd_m1 (i := 88) (by decide +kernel)) rfl
theorem wF_X4_21 : (.fieldLink RX4 21 "ThankingGifts$Moment" "slept" "[I" : Cond) ∈ sd_gd := sd_gd_in (sd_m1 (i := 89) (by decide +kernel)) rfl
theorem wF_X2_76 : (.fieldLink RX2 76 "ThankingGifts$Moment" "slept" "[I" : Cond) ∈ sd_gd := sd_gd_in (sd_m1 (i := 90) (by decide +kernel)) rfl
theorem wF_X11_96 : (.fieldLink RX11 96 "ThankingGifts$Moment" "slept" "[I" : Cond) ∈ sd_gd := sd_gd_in (sd_m1 (i := 91) (by decide +kernel)) rfl
theorem wF_X4_24 : (.fieldLink RX4 24 "ThankingGifts$Moment" "woken" "[I" : Cond) ∈ sd_gd := sd_gd_in (sd_m1 (i := 92) (by decide +kernel)) rfl
theorem wF_X2_79 : (.fieldLink RX2 79 "ThankingGifts$Moment" "woken" "[I" : Cond) ∈ sd_gd := sd_gd_in (sd_m1 (i := 93) (by decide +kernel)) rfl
theorem wF_X11_101 : (.fieldLink RX11 101 "ThankingGifts$Moment" "woken" "[I" : Cond) ∈ sd_gd := sd_gd_in (sd_m1 (i := 94) (by decide +kernel)) rfl
theorem wF_X4_37 : (.fieldLink RX4 37 "ThankingGifts$Moment" "night" "I" : Cond) ∈ sd_gd := sd_gd_in (sd_m1 (i := 95) (by decide +kernel)) rfl
theorem wF_X2_70 : (.fieldLink RX2 70 "ThankingGifts$Moment" "night" "I" : Cond) ∈ sd_gd := sd_gd_in (sd_m1 (i := 96) (by decide +kernel)) rfl
theorem wF_X11_168 : (.fieldLink RX11 168 "ThankingGifts$Moment" "night" "I" : Cond) ∈ sd_gd := sd_gd_in (sd_m1 (i := 97) (by decide +kernel)) rfl
theorem wF_X4_27 : (.fieldLink RX4 27 "ThankingGifts$Moment" "draw" "I" : Cond) ∈ sd_gd := sd_gd_in (sd_m1 (i := 98) (by decide +kernel)) rfl
theorem wF_X2_73 : (.fieldLink RX2 73 "ThankingGifts$Moment" "draw" "I" : Cond) ∈ sd_gd := sd_gd_in (sd_m1 (i := 99) (by decide +kernel)) rfl
theorem wF_X11_149 : (.fieldLink RX11 149 "ThankingGifts$Moment" "draw" "I" : Cond) ∈ sd_gd := sd_gd_in (sd_m1 (i := 100) (by decide +kernel)) rfl
theorem wY_int : (.arrayClass .int : Cond) ∈ sd_gd := sd_gd_in (sd_m1 (i := 116) (by decide +kernel)) rfl
theorem wF_X2_24 : (.fieldLink RX2 24 "ThankingGifts$House" "kinds" "[LThankingGifts$Plain;" : Cond) ∈ sd_gd := sd_gd_in (sd_m1 (i := 117) (by decide +kernel)) rfl
theorem wF_X2_30 : (.fieldLink RX2 30 "ThankingGifts$House" "bed" "[I" : Cond) ∈ sd_gd := sd_gd_in (sd_m1 (i := 118) (by decide +kernel)) rfl
theorem wF_X11_85 : (.fieldLink RX11 85 "ThankingGifts$House" "bed" "[I" : Cond) ∈ sd_gd := sd_gd_in (sd_m1 (i := 119) (by decide +kernel)) rfl
theorem wF_X5_78 : (.fieldLink RX5 78 "ThankingGifts$House" "bed" "[I" : Cond) ∈ sd_gd := sd_gd_in (sd_m1 (i := 120) (by decide +kernel)) rfl
theorem wF_X2_34 : (.fieldLink RX2 34 "ThankingGifts$House" "bears" "[I" : Cond) ∈ sd_gd := sd_gd_in (sd_m1 (i := 121) (by decide +kernel)) rfl
theorem wF_X11_89 : (.fieldLink RX11 89 "ThankingGifts$House" "bears" "[I" : Cond) ∈ sd_gd := sd_gd_in (sd_m1 (i := 122) (by decide +kernel)) rfl
theorem wF_X5_81 : (.fieldLink RX5 81 "ThankingGifts$House" "bears" "[I" : Cond) ∈ sd_gd := sd_gd_in (sd_m1 (i := 123) (by decide +kernel)) rfl
theorem wF_X2_37 : (.fieldLink RX2 37 "ThankingGifts$House" "kind" "[I" : Cond) ∈ sd_gd := sd_gd_in (sd_m1 (i := 124) (by decide +kernel)) rfl
theorem wF_X5_57 : (.fieldLink RX5 57 "ThankingGifts$House" "kind" "[I" : Cond) ∈ sd_gd := sd_gd_in (sd_m1 (i := 125) (by decide +kernel)) rfl
theorem wF_X11_113 : (.fieldLink RX11 113 "ThankingGifts$House" "kind" "[I" : Cond) ∈ sd_gd := sd_gd_in (sd_m1 (i := 126) (by decide +kernel)) rfl
theorem wF_X2_40 : (.fieldLink RX2 40 "ThankingGifts$House" "dear" "[I" : Cond) ∈ sd_gd := sd_gd_in (sd_m1 (i := 127) (by decide +kernel)) rfl
theorem wF_X5_60 : (.fieldLink RX5 60 "ThankingGifts$House" "dear" "[I" : Cond) ∈ sd_gd := sd_gd_in (sd_m1 (i := 128) (by decide +kernel)) rfl
theorem wF_X11_119 : (.fieldLink RX11 119 "ThankingGifts$House" "dear" "[I" : Cond) ∈ sd_gd := sd_gd_in (sd_m1 (i := 129) (by decide +kernel)) rfl
theorem wF_X2_43 : (.fieldLink RX2 43 "ThankingGifts$House" "roomLoud" "[I" : Cond) ∈ sd_gd := sd_gd_in (sd_m1 (i := 130) (by decide +kernel)) rfl
theorem wF_X11_132 : (.fieldLink RX11 132 "ThankingGifts$House" "roomLoud" "[I" : Cond) ∈ sd_gd := sd_gd_in (sd_m1 (i := 131) (by decide +kernel)) rfl
theorem wF_X2_49 : (.fieldLink RX2 49 "ThankingGifts$House" "now" "LThankingGifts$Moment;" : Cond) ∈ sd_gd := sd_gd_in (sd_m1 (i := 132) (by decide +kernel)) rfl
theorem wF_X5_37 : (.fieldLink RX5 37 "ThankingGifts$House" "now" "LThankingGifts$Moment;" : Cond) ∈ sd_gd := sd_gd_in (sd_m1 (i := 133) (by decide +kernel)) rfl
theorem wF_X11_92 : (.fieldLink RX11 92 "ThankingGifts$House" "now" "LThankingGifts$Moment;" : Cond) ∈ sd_gd := sd_gd_in (sd_m1 (i := 134) (by decide +kernel)) rfl
theorem wF_X11_61 : (.fieldLink RX11 61 "ThankingGifts$House" "sleepers" "I" : Cond) ∈ sd_gd := sd_gd_in (sd_m1 (i := 135) (by decide +kernel)) rfl
theorem wF_X2_63 : (.fieldLink RX2 63 "ThankingGifts$House" "sleepers" "I" : Cond) ∈ sd_gd := sd_gd_in (sd_m1 (i := 136) (by decide +kernel)) rfl
theorem wF_X5_75 : (.fieldLink RX5 75 "ThankingGifts$House" "sleepers" "I" : Cond) ∈ sd_gd := sd_gd_in (sd_m1 (i := 137) (by decide +kernel)) rfl
theorem wF_X5_31 : (.fieldLink RX5 31 "ThankingGifts$House" "things" "I" : Cond) ∈ sd_gd := sd_gd_in (sd_m1 (i := 138) (by decide +kernel)) rfl
theorem wF_X2_67 : (.fieldLink RX2 67 "ThankingGifts$House" "things" "I" : Cond) ∈ sd_gd := sd_gd_in (sd_m1 (i := 139) (by decide +kernel)) rfl
theorem wF_X11_75 : (.fieldLink RX11 75 "ThankingGifts$House" "things" "I" : Cond) ∈ sd_gd := sd_gd_in (sd_m1 (i := 140) (by decide +kernel)) rfl
theorem wL_X11_16 : (.classLink RX11 16 RX6 : Cond) ∈ sd_gd := sd_gd_in (sd_m1 (i := 160) (by decide +kernel)) rfl
theorem wB_X6 : (.instantiable RX6 3 : Cond) ∈ sd_gd := sd_gd_in (sd_m1 (i := 161) (by decide +kernel)) rfl
theorem wM_X11_18 : (.methodLink RX11 18 yX6_init : Cond) ∈ sd_gd := sd_gd_in (sd_m1 (i := 162) (by decide +kernel)) rfl
theorem wI_X6_init : (.instanceMethod yX6_init : Cond) ∈ sd_gd := sd_gd_in (sd_m1 (i := 163) (by decide +kernel)) rfl
theorem wC_X6_init : (.code yX6_init cX6_init 2 none : Cond) ∈ sd_gd := sd_gd_in (sd_m1 (i := 164) (by decide +kernel)) rfl
theorem wM_X6_3 : (.methodLink RX6 3 Lib.objectInit : Cond) ∈ sd_gd := sd_gd_in (sd_m1 (i := 165) (by decide +kernel)) rfl
theorem wL_X6_9 : (.classLink RX6 9 RX4 : Cond) ∈ sd_gd := sd_gd_in (sd_m1 (i := 166) (by decide +kernel)) rfl
theorem wF_X6_11 : (.fieldLink RX6 11 "ThankingGifts$Past" "kept" "[LThankingGifts$Moment;" : Cond) ∈ sd_gd := sd_gd_in (sd_m1 (i := 169) (by decide +kernel)) rfl
theorem wF_X6_18 : (.fieldLink RX6 18 "ThankingGifts$Past" "next" "I" : Cond) ∈ sd_gd := sd_gd_in (sd_m1 (i := 170) (by decide +kernel)) rfl
theorem wF_X6_26 : (.fieldLink RX6 26 "ThankingGifts$Past" "known" "I" : Cond) ∈ sd_gd := sd_gd_in (sd_m1 (i := 171) (by decide +kernel)) rfl
theorem wF_X11_182 : (.fieldLink RX11 182 "ThankingGifts$Past" "known" "I" : Cond) ∈ sd_gd := sd_gd_in (sd_m1 (i := 172) (by decide +kernel)) rfl
theorem wL_X11_32 : (.classLink RX11 32 RX8 : Cond) ∈ sd_gd := sd_gd_in (sd_m1 (i := 180) (by decide +kernel)) rfl
theorem wB_X8 : (.instantiable RX8 3 : Cond) ∈ sd_gd := sd_gd_in (sd_m1 (i := 181) (by decide +kernel)) rfl
theorem wI_X8_init : (.instanceMethod yX8_init : Cond) ∈ sd_gd := sd_gd_in (sd_m1 (i := 183) (by decide +kernel)) rfl
theorem wC_X8_init : (.code yX8_init cX8_init 1 none : Cond) ∈ sd_gd := sd_gd_in (sd_m1 (i := 184) (by decide +kernel)) rfl
theorem wM_X8_3 : (.methodLink RX8 3 Lib.objectInit : Cond) ∈ sd_gd := sd_gd_in (sd_m1 (i := 185) (by decide +kernel)) rfl
theorem wF_X8_9 : (.fieldLink RX8 9 "ThankingGifts$Reader" "tape" "[C" : Cond) ∈ sd_gd := sd_gd_in (sd_m1 (i := 186) (by decide +kernel)) rfl
theorem wF_X8_15 : (.fieldLink RX8 15 "ThankingGifts$Reader" "length" "I" : Cond) ∈ sd_gd := sd_gd_in (sd_m1 (i := 187) (by decide +kernel)) rfl
theorem wF_X11_142 : (.fieldLink RX11 142 "ThankingGifts$Reader" "length" "I" : Cond) ∈ sd_gd := sd_gd_in (sd_m1 (i := 188) (by decide +kernel)) rfl
theorem wF_X8_19 : (.fieldLink RX8 19 "ThankingGifts$Reader" "place" "I" : Cond) ∈ sd_gd := sd_gd_in (sd_m1 (i := 189) (by decide +kernel)) rfl
theorem wF_X11_160 : (.fieldLink RX11 160 "ThankingGifts$Reader" "place" "I" : Cond) ∈ sd_gd := sd_gd_in (sd_m1 (i := 190) (by decide +kernel)) rfl
theorem wY_char : (.arrayClass .char : Cond) ∈ sd_gd := sd_gd_in (sd_m1 (i := 198) (by decide +kernel)) rfl
theorem wL_X11_39 : (.classLink RX11 39 RX5 : Cond) ∈ sd_gd := sd_gd_in (sd_m1 (i := 199) (by decide +kernel)) rfl
theorem wB_X5 : (.instantiable RX5 5 : Cond) ∈ sd_gd := sd_gd_in (sd_m1 (i := 200) (by decide +kernel)) rfl
theorem wI_X5_init : (.instanceMethod yX5_init : Cond) ∈ sd_gd := sd_gd_in (sd_m1 (i := 202) (by decide +kernel)) rfl
theorem wC_X5_init : (.code yX5_init cX5_init 1 none : Cond) ∈ sd_gd := sd_gd_in (sd_m1 (i := 203) (by decide +kernel)) rfl
theorem wM_X5_3 : (.methodLink RX5 3 Lib.objectInit : Cond) ∈ sd_gd := sd_gd_in (sd_m1 (i := 204) (by decide +kernel)) rfl
theorem wF_X5_9 : (.fieldLink RX5 9 "ThankingGifts$Outlook" "thingLoud" "[I" : Cond) ∈ sd_gd := sd_gd_in (sd_m1 (i := 205) (by decide +kernel)) rfl
theorem wF_X5_27 : (.fieldLink RX5 27 "ThankingGifts$Outlook" "nights" "I" : Cond) ∈ sd_gd := sd_gd_in (sd_m1 (i := 206) (by decide +kernel)) rfl
theorem wF_X5_36 : (.fieldLink RX5 36 "ThankingGifts$Outlook" "things" "I" : Cond) ∈ sd_gd := sd_gd_in (sd_m1 (i := 207) (by decide +kernel)) rfl
theorem wF_X5_15 : (.fieldLink RX5 15 "ThankingGifts$Outlook" "place" "[I" : Cond) ∈ sd_gd := sd_gd_in (sd_m1 (i := 208) (by decide +kernel)) rfl
theorem wF_X11_218 : (.fieldLink RX11 218 "ThankingGifts$Outlook" "place" "[I" : Cond) ∈ sd_gd := sd_gd_in (sd_m1 (i := 209) (by decide +kernel)) rfl
theorem wF_X5_18 : (.fieldLink RX5 18 "ThankingGifts$Outlook" "roomLoud" "[I" : Cond) ∈ sd_gd := sd_gd_in (sd_m1 (i := 210) (by decide +kernel)) rfl
theorem wF_X11_209 : (.fieldLink RX11 209 "ThankingGifts$Outlook" "roomLoud" "[I" : Cond) ∈ sd_gd := sd_gd_in (sd_m1 (i := 211) (by decide +kernel)) rfl
theorem wL_X11_46 : (.classLink RX11 46 RX9 : Cond) ∈ sd_gd := sd_gd_in (sd_m1 (i := 223) (by decide +kernel)) rfl
theorem wB_X9 : (.instantiable RX9 4 : Cond) ∈ sd_gd := sd_gd_in (sd_m1 (i := 225) (by decide +kernel)) rfl
theorem wI_X9_init : (.instanceMethod yX9_init : Cond) ∈ sd_gd := sd_gd_in (sd_m1 (i := 227) (by decide +kernel)) rfl
theorem wC_X9_init : (.code yX9_init cX9_init 1 none : Cond) ∈ sd_gd := sd_gd_in (sd_m1 (i := 228) (by decide +kernel)) rfl
theorem wM_X9_3 : (.methodLink RX9 3 Lib.objectInit : Cond) ∈ sd_gd := sd_gd_in (sd_m1 (i := 229) (by decide +kernel)) rfl
theorem wF_X9_9 : (.fieldLink RX9 9 "ThankingGifts$Sheet" "items" "[J" : Cond) ∈ sd_gd := sd_gd_in (sd_m1 (i := 230) (by decide +kernel)) rfl
theorem wF_X11_292 : (.fieldLink RX11 292 "ThankingGifts$Sheet" "items" "[J" : Cond) ∈ sd_gd := sd_gd_in (sd_m1 (i := 231) (by decide +kernel)) rfl
theorem wF_X9_15 : (.fieldLink RX9 15 "ThankingGifts$Sheet" "present" "Z" : Cond) ∈ sd_gd := sd_gd_in (sd_m1 (i := 232) (by decide +kernel)) rfl
theorem wF_X11_282 : (.fieldLink RX11 282 "ThankingGifts$Sheet" "present" "Z" : Cond) ∈ sd_gd := sd_gd_in (sd_m1 (i := 233) (by decide +kernel)) rfl
theorem wF_X9_19 : (.fieldLink RX9 19 "ThankingGifts$Sheet" "lane" "I" : Cond) ∈ sd_gd := sd_gd_in (sd_m1 (i := 234) (by decide +kernel)) rfl
theorem wF_X11_286 : (.fieldLink RX11 286 "ThankingGifts$Sheet" "lane" "I" : Cond) ∈ sd_gd := sd_gd_in (sd_m1 (i := 235) (by decide +kernel)) rfl
theorem wF_X9_23 : (.fieldLink RX9 23 "ThankingGifts$Sheet" "length" "I" : Cond) ∈ sd_gd := sd_gd_in (sd_m1 (i := 236) (by decide +kernel)) rfl
theorem wF_X11_285 : (.fieldLink RX11 285 "ThankingGifts$Sheet" "length" "I" : Cond) ∈ sd_gd := sd_gd_in (sd_m1 (i := 237) (by decide +kernel)) rfl
theorem wY_long : (.arrayClass .long : Cond) ∈ sd_gd := sd_gd_in (sd_m2 (i := 7) (by decide +kernel)) rfl
theorem wF_X11_10 : (.fieldLink RX11 10 "ThankingGifts" "house" "LThankingGifts$House;" : Cond) ∈ sd_gd := sd_gd_in (sd_m2 (i := 8) (by decide +kernel)) rfl
theorem wF_X11_19 : (.fieldLink RX11 19 "ThankingGifts" "past" "LThankingGifts$Past;" : Cond) ∈ sd_gd := sd_gd_in (sd_m2 (i := 9) (by decide +kernel)) rfl
theorem wF_X11_23 : (.fieldLink RX11 23 "ThankingGifts" "imagedHouse" "LThankingGifts$House;" : Cond) ∈ sd_gd := sd_gd_in (sd_m2 (i := 10) (by decide +kernel)) rfl
theorem wF_X11_26 : (.fieldLink RX11 26 "ThankingGifts" "imagedPast" "LThankingGifts$Past;" : Cond) ∈ sd_gd := sd_gd_in (sd_m2 (i := 11) (by decide +kernel)) rfl
theorem wF_X11_255 : (.fieldLink RX11 255 "ThankingGifts" "imaged" "Z" : Cond) ∈ sd_gd := sd_gd_in (sd_m2 (i := 12) (by decide +kernel)) rfl
theorem wF_X11_29 : (.fieldLink RX11 29 "ThankingGifts" "draft" "LThankingGifts$House;" : Cond) ∈ sd_gd := sd_gd_in (sd_m2 (i := 13) (by decide +kernel)) rfl
theorem wF_X11_35 : (.fieldLink RX11 35 "ThankingGifts" "reader" "LThankingGifts$Reader;" : Cond) ∈ sd_gd := sd_gd_in (sd_m2 (i := 14) (by decide +kernel)) rfl
theorem wF_X11_42 : (.fieldLink RX11 42 "ThankingGifts" "outlook" "LThankingGifts$Outlook;" : Cond) ∈ sd_gd := sd_gd_in (sd_m2 (i := 15) (by decide +kernel)) rfl
theorem wF_X11_49 : (.fieldLink RX11 49 "ThankingGifts" "sheets" "[LThankingGifts$Sheet;" : Cond) ∈ sd_gd := sd_gd_in (sd_m2 (i := 16) (by decide +kernel)) rfl
theorem wM_L_13 : (.methodLink RL 13 yX11_sleeper : Cond) ∈ sd_gd := sd_gd_in (sd_m2 (i := 36) (by decide +kernel)) rfl
theorem wI_X11_sleeper : (.instanceMethod yX11_sleeper : Cond) ∈ sd_gd := sd_gd_in (sd_m2 (i := 37) (by decide +kernel)) rfl
theorem wS_X11_X11_sleeper : (.selects RX11 yX11_sleeper yX11_sleeper : Cond) ∈ sd_gd := sd_gd_in (sd_m2 (i := 38) (by decide +kernel)) rfl
theorem wC_X11_sleeper : (.code yX11_sleeper cX11_sleeper 3 (some .int) : Cond) ∈ sd_gd := sd_gd_in (sd_m2 (i := 39) (by decide +kernel)) rfl
theorem wM_X11_53 : (.methodLink RX11 53 yX11_isRoom : Cond) ∈ sd_gd := sd_gd_in (sd_m2 (i := 40) (by decide +kernel)) rfl
theorem wT_X11_isRoom : (.static yX11_isRoom : Cond) ∈ sd_gd := sd_gd_in (sd_m2 (i := 41) (by decide +kernel)) rfl
theorem wC_X11_isRoom : (.code yX11_isRoom cX11_isRoom 1 (some .boolean) : Cond) ∈ sd_gd := sd_gd_in (sd_m2 (i := 42) (by decide +kernel)) rfl
theorem wM_X11_57 : (.methodLink RX11 57 yX11_within : Cond) ∈ sd_gd := sd_gd_in (sd_m2 (i := 43) (by decide +kernel)) rfl
theorem wT_X11_within : (.static yX11_within : Cond) ∈ sd_gd := sd_gd_in (sd_m2 (i := 44) (by decide +kernel)) rfl
theorem wC_X11_within : (.code yX11_within cX11_within 3 (some .boolean) : Cond) ∈ sd_gd := sd_gd_in (sd_m2 (i := 45) (by decide +kernel)) rfl
theorem wM_X11_65 : (.methodLink RX11 65 yX6_forget : Cond) ∈ sd_gd := sd_gd_in (sd_m2 (i := 46) (by decide +kernel)) rfl
theorem wI_X6_forget : (.instanceMethod yX6_forget : Cond) ∈ sd_gd := sd_gd_in (sd_m2 (i := 47) (by decide +kernel)) rfl
theorem wS_X6_X6_forget : (.selects RX6 yX6_forget yX6_forget : Cond) ∈ sd_gd := sd_gd_in (sd_m2 (i := 48) (by decide +kernel)) rfl
theorem wC_X6_forget : (.code yX6_forget cX6_forget 1 none : Cond) ∈ sd_gd := sd_gd_in (sd_m2 (i := 49) (by decide +kernel)) rfl
theorem wM_X11_68 : (.methodLink RX11 68 yX2_addSleeper : Cond) ∈ sd_gd := sd_gd_in (sd_m2 (i := 50) (by decide +kernel)) rfl
theorem wI_X2_addSleeper : (.instanceMethod yX2_addSleeper : Cond) ∈ sd_gd := sd_gd_in (sd_m2 (i := 51) (by decide +kernel)) rfl
theorem wS_X2_X2_addSleeper : (.selects RX2 yX2_addSleeper yX2_addSleeper : Cond) ∈ sd_gd := sd_gd_in (sd_m2 (i := 52) (by decide +kernel)) rfl
theorem wC_X2_addSleeper : (.code yX2_addSleeper cX2_addSleeper 3 none : Cond) ∈ sd_gd := sd_gd_in (sd_m2 (i := 53) (by decide +kernel)) rfl
theorem wM_L_18 : (.methodLink RL 18 yX11_thing : Cond) ∈ sd_gd := sd_gd_in (sd_m2 (i := 54) (by decide +kernel)) rfl
theorem wI_X11_thing : (.instanceMethod yX11_thing : Cond) ∈ sd_gd := sd_gd_in (sd_m2 (i := 55) (by decide +kernel)) rfl
theorem wS_X11_X11_thing : (.selects RX11 yX11_thing yX11_thing : Cond) ∈ sd_gd := sd_gd_in (sd_m2 (i := 56) (by decide +kernel)) rfl
theorem wC_X11_thing : (.code yX11_thing cX11_thing 5 (some .int) : Cond) ∈ sd_gd := sd_gd_in (sd_m2 (i := 57) (by decide +kernel)) rfl
theorem wM_X11_72 : (.methodLink RX11 72 yX11_isGiver : Cond) ∈ sd_gd := sd_gd_in (sd_m2 (i := 58) (by decide +kernel)) rfl
theorem wT_X11_isGiver : (.static yX11_isGiver : Cond) ∈ sd_gd := sd_gd_in (sd_m2 (i := 59) (by decide +kernel)) rfl
theorem wC_X11_isGiver : (.code yX11_isGiver cX11_isGiver 1 (some .boolean) : Cond) ∈ sd_gd := sd_gd_in (sd_m2 (i := 60) (by decide +kernel)) rfl
theorem wM_X11_78 : (.methodLink RX11 78 yX2_addThing : Cond) ∈ sd_gd := sd_gd_in (sd_m2 (i := 61) (by decide +kernel)) rfl
theorem wI_X2_addThing : (.instanceMethod yX2_addThing : Cond) ∈ sd_gd := sd_gd_in (sd_m2 (i := 62) (by decide +kernel)) rfl
theorem wS_X2_X2_addThing : (.selects RX2 yX2_addThing yX2_addThing : Cond) ∈ sd_gd := sd_gd_in (sd_m2 (i := 63) (by decide +kernel)) rfl
theorem wC_X2_addThing : (.code yX2_addThing cX2_addThing 5 none : Cond) ∈ sd_gd := sd_gd_in (sd_m2 (i := 64) (by decide +kernel)) rfl
theorem wT_X11_leftAtFirst : (.static yX11_leftAtFirst : Cond) ∈ sd_gd := sd_gd_in (sd_m2 (i := 66) (by decide +kernel)) rfl
theorem wC_X11_leftAtFirst : (.code yX11_leftAtFirst cX11_leftAtFirst 1 (some .int) : Cond) ∈ sd_gd := sd_gd_in (sd_m2 (i := 67) (by decide +kernel)) rfl
theorem wM_X11_312 : (.methodLink RX11 312 yJ9_min_7cf53 : Cond) ∈ sd_gd := sd_gd_in (sd_m2 (i := 68) (by decide +kernel)) rfl
theorem wT_J9_min_7cf53 : (.static yJ9_min_7cf53 : Cond) ∈ sd_gd := sd_gd_in (sd_m2 (i := 69) (by decide +kernel)) rfl
theorem wC_J9_min_7cf53 : (.code yJ9_min_7cf53 cJ9_min_7cf53 2 (some .int) : Cond) ∈ sd_gd := sd_gd_in (sd_m2 (i := 70) (by decide +kernel)) rfl
theorem wM_L_23 : (.methodLink RL 23 yX11_of : Cond) ∈ sd_gd := sd_gd_in (sd_m2 (i := 71) (by decide +kernel)) rfl
theorem wI_X11_of : (.instanceMethod yX11_of : Cond) ∈ sd_gd := sd_gd_in (sd_m2 (i := 72) (by decide +kernel)) rfl
theorem wS_X11_X11_of : (.selects RX11 yX11_of yX11_of : Cond) ∈ sd_gd := sd_gd_in (sd_m2 (i := 73) (by decide +kernel)) rfl
theorem wC_X11_of : (.code yX11_of cX11_of 3 (some .int) : Cond) ∈ sd_gd := sd_gd_in (sd_m2 (i := 74) (by decide +kernel)) rfl
theorem wM_X11_82 : (.methodLink RX11 82 yX2_hasSleeper : Cond) ∈ sd_gd := sd_gd_in (sd_m2 (i := 75) (by decide +kernel)) rfl
theorem wI_X2_hasSleeper : (.instanceMethod yX2_hasSleeper : Cond) ∈ sd_gd := sd_gd_in (sd_m2 (i := 76) (by decide +kernel)) rfl
theorem wS_X2_X2_hasSleeper : (.selects RX2 yX2_hasSleeper yX2_hasSleeper : Cond) ∈ sd_gd := sd_gd_in (sd_m2 (i := 77) (by decide +kernel)) rfl
theorem wC_X2_hasSleeper : (.code yX2_hasSleeper cX2_hasSleeper 2 (some .boolean) : Cond) ∈ sd_gd := sd_gd_in (sd_m2 (i := 78) (by decide +kernel)) rfl
theorem wM_X11_104 : (.methodLink RX11 104 yX2_listen : Cond) ∈ sd_gd := sd_gd_in (sd_m2 (i := 80) (by decide +kernel)) rfl
theorem wI_X2_listen : (.instanceMethod yX2_listen : Cond) ∈ sd_gd := sd_gd_in (sd_m2 (i := 81) (by decide +kernel)) rfl
theorem wS_X2_X2_listen : (.selects RX2 yX2_listen yX2_listen : Cond) ∈ sd_gd := sd_gd_in (sd_m2 (i := 82) (by decide +kernel)) rfl
theorem wC_X2_listen : (.code yX2_listen cX2_listen 2 none : Cond) ∈ sd_gd := sd_gd_in (sd_m2 (i := 83) (by decide +kernel)) rfl
theorem wM_X2_111 : (.methodLink RX2 111 yX2_loudWith : Cond) ∈ sd_gd := sd_gd_in (sd_m2 (i := 84) (by decide +kernel)) rfl
theorem wI_X2_loudWith : (.instanceMethod yX2_loudWith : Cond) ∈ sd_gd := sd_gd_in (sd_m2 (i := 85) (by decide +kernel)) rfl
theorem wS_X2_X2_loudWith : (.selects RX2 yX2_loudWith yX2_loudWith : Cond) ∈ sd_gd := sd_gd_in (sd_m2 (i := 86) (by decide +kernel)) rfl
theorem wC_X2_loudWith : (.code yX2_loudWith cX2_loudWith 4 (some .int) : Cond) ∈ sd_gd := sd_gd_in (sd_m2 (i := 87) (by decide +kernel)) rfl
theorem wM_X2_103 : (.methodLink RX2 103 yX7_loudness : Cond) ∈ sd_gd := sd_gd_in (sd_m2 (i := 88) (by decide +kernel)) rfl
theorem wI_X7_loudness : (.instanceMethod yX7_loudness : Cond) ∈ sd_gd := sd_gd_in (sd_m2 (i := 89) (by decide +kernel)) rfl
theorem wS_X7_X7_loudness : (.selects RX7 yX7_loudness yX7_loudness : Cond) ∈ sd_gd := sd_gd_in (sd_m2 (i := 90) (by decide +kernel)) rfl
theorem wA_X7_loudness : (.sameMethod "ThankingGifts$Plain" "ThankingGifts$Plain" "loudness" "(II)I" : Cond) ∈ sd_gd := sd_gd_in (sd_m2 (i := 91) (by decide +kernel)) rfl
theorem wS_X0_X7_loudness : (.selects RX0 yX7_loudness yX7_loudness : Cond) ∈ sd_gd := sd_gd_in (sd_m2 (i := 92) (by decide +kernel)) rfl
theorem wS_X1_X7_loudness : (.selects RX1 yX7_loudness yX1_loudness : Cond) ∈ sd_gd := sd_gd_in (sd_m2 (i := 93) (by decide +kernel)) rfl
theorem wI_X1_loudness : (.instanceMethod yX1_loudness : Cond) ∈ sd_gd := sd_gd_in (sd_m2 (i := 94) (by decide +kernel)) rfl
theorem wC_X1_loudness : (.code yX1_loudness cX1_loudness 3 (some .int) : Cond) ∈ sd_gd := sd_gd_in (sd_m2 (i := 95) (by decide +kernel)) rfl
theorem wS_X3_X7_loudness : (.selects RX3 yX7_loudness yX3_loudness : Cond) ∈ sd_gd := sd_gd_in (sd_m2 (i := 96) (by decide +kernel)) rfl
theorem wI_X3_loudness : (.instanceMethod yX3_loudness : Cond) ∈ sd_gd := sd_gd_in (sd_m2 (i := 97) (by decide +kernel)) rfl
theorem wC_X3_loudness : (.code yX3_loudness cX3_loudness 3 (some .int) : Cond) ∈ sd_gd := sd_gd_in (sd_m2 (i := 98) (by decide +kernel)) rfl
theorem wS_X10_X7_loudness : (.selects RX10 yX7_loudness yX10_loudness : Cond) ∈ sd_gd := sd_gd_in (sd_m2 (i := 99) (by decide +kernel)) rfl
theorem wI_X10_loudness : (.instanceMethod yX10_loudness : Cond) ∈ sd_gd := sd_gd_in (sd_m2 (i := 100) (by decide +kernel)) rfl
theorem wC_X10_loudness : (.code yX10_loudness cX10_loudness 3 (some .int) : Cond) ∈ sd_gd := sd_gd_in (sd_m2 (i := 101) (by decide +kernel)) rfl
theorem wM_X10_7 : (.methodLink RX10 7 yX1_loudness : Cond) ∈ sd_gd := sd_gd_in (sd_m2 (i := 102) (by decide +kernel)) rfl
theorem wC_X7_loudness : (.code yX7_loudness cX7_loudness 3 (some .int) : Cond) ∈ sd_gd := sd_gd_in (sd_m2 (i := 103) (by decide +kernel)) rfl
theorem wM_X11_107 : (.methodLink RX11 107 yX2_isAsleep : Cond) ∈ sd_gd := sd_gd_in (sd_m2 (i := 104) (by decide +kernel)) rfl
theorem wI_X2_isAsleep : (.instanceMethod yX2_isAsleep : Cond) ∈ sd_gd := sd_gd_in (sd_m2 (i := 105) (by decide +kernel)) rfl
theorem wS_X2_X2_isAsleep : (.selects RX2 yX2_isAsleep yX2_isAsleep : Cond) ∈ sd_gd := sd_gd_in (sd_m2 (i := 106) (by decide +kernel)) rfl
theorem wC_X2_isAsleep : (.code yX2_isAsleep cX2_isAsleep 2 (some .boolean) : Cond) ∈ sd_gd := sd_gd_in (sd_m2 (i := 107) (by decide +kernel)) rfl
theorem wM_L_27 : (.methodLink RL 27 yX11_gift : Cond) ∈ sd_gd := sd_gd_in (sd_m2 (i := 108) (by decide +kernel)) rfl
theorem wI_X11_gift : (.instanceMethod yX11_gift : Cond) ∈ sd_gd := sd_gd_in (sd_m2 (i := 109) (by decide +kernel)) rfl
theorem wS_X11_X11_gift : (.selects RX11 yX11_gift yX11_gift : Cond) ∈ sd_gd := sd_gd_in (sd_m2 (i := 110) (by decide +kernel)) rfl
theorem wC_X11_gift : (.code yX11_gift cX11_gift 3 (some .int) : Cond) ∈ sd_gd := sd_gd_in (sd_m2 (i := 111) (by decide +kernel)) rfl
theorem wM_X11_110 : (.methodLink RX11 110 yX2_hasThing : Cond) ∈ sd_gd := sd_gd_in (sd_m2 (i := 112) (by decide +kernel)) rfl
theorem wI_X2_hasThing : (.instanceMethod yX2_hasThing : Cond) ∈ sd_gd := sd_gd_in (sd_m2 (i := 113) (by decide +kernel)) rfl
theorem wS_X2_X2_hasThing : (.selects RX2 yX2_hasThing yX2_hasThing : Cond) ∈ sd_gd := sd_gd_in (sd_m2 (i := 114) (by decide +kernel)) rfl
theorem wC_X2_hasThing : (.code yX2_hasThing cX2_hasThing 2 (some .boolean) : Cond) ∈ sd_gd := sd_gd_in (sd_m2 (i := 115) (by decide +kernel)) rfl
theorem wM_X11_128 : (.methodLink RX11 128 yX2_loudWith : Cond) ∈ sd_gd := sd_gd_in (sd_m2 (i := 116) (by decide +kernel)) rfl
theorem wM_L_31 : (.methodLink RL 31 yX11_room : Cond) ∈ sd_gd := sd_gd_in (sd_m2 (i := 117) (by decide +kernel)) rfl
theorem wI_X11_room : (.instanceMethod yX11_room : Cond) ∈ sd_gd := sd_gd_in (sd_m2 (i := 118) (by decide +kernel)) rfl
theorem wS_X11_X11_room : (.selects RX11 yX11_room yX11_room : Cond) ∈ sd_gd := sd_gd_in (sd_m2 (i := 119) (by decide +kernel)) rfl
theorem wC_X11_room : (.code yX11_room cX11_room 3 (some .int) : Cond) ∈ sd_gd := sd_gd_in (sd_m2 (i := 120) (by decide +kernel)) rfl
theorem wM_X11_135 : (.methodLink RX11 135 yX2_thingsIn : Cond) ∈ sd_gd := sd_gd_in (sd_m2 (i := 121) (by decide +kernel)) rfl
theorem wI_X2_thingsIn : (.instanceMethod yX2_thingsIn : Cond) ∈ sd_gd := sd_gd_in (sd_m2 (i := 122) (by decide +kernel)) rfl
theorem wS_X2_X2_thingsIn : (.selects RX2 yX2_thingsIn yX2_thingsIn : Cond) ∈ sd_gd := sd_gd_in (sd_m2 (i := 123) (by decide +kernel)) rfl
theorem wC_X2_thingsIn : (.code yX2_thingsIn cX2_thingsIn 2 (some .int) : Cond) ∈ sd_gd := sd_gd_in (sd_m2 (i := 124) (by decide +kernel)) rfl
theorem wM_X2_117 : (.methodLink RX2 117 yX2_placesOf : Cond) ∈ sd_gd := sd_gd_in (sd_m2 (i := 125) (by decide +kernel)) rfl
theorem wT_X2_placesOf : (.static yX2_placesOf : Cond) ∈ sd_gd := sd_gd_in (sd_m2 (i := 126) (by decide +kernel)) rfl
theorem wC_X2_placesOf : (.code yX2_placesOf cX2_placesOf 5 (some .int) : Cond) ∈ sd_gd := sd_gd_in (sd_m2 (i := 127) (by decide +kernel)) rfl
theorem wM_X11_139 : (.methodLink RX11 139 yX2_sleepersIn : Cond) ∈ sd_gd := sd_gd_in (sd_m2 (i := 128) (by decide +kernel)) rfl
theorem wI_X2_sleepersIn : (.instanceMethod yX2_sleepersIn : Cond) ∈ sd_gd := sd_gd_in (sd_m2 (i := 129) (by decide +kernel)) rfl
theorem wS_X2_X2_sleepersIn : (.selects RX2 yX2_sleepersIn yX2_sleepersIn : Cond) ∈ sd_gd := sd_gd_in (sd_m2 (i := 130) (by decide +kernel)) rfl
theorem wC_X2_sleepersIn : (.code yX2_sleepersIn cX2_sleepersIn 2 (some .int) : Cond) ∈ sd_gd := sd_gd_in (sd_m2 (i := 131) (by decide +kernel)) rfl
theorem wM_L_35 : (.methodLink RL 35 yX11_bed : Cond) ∈ sd_gd := sd_gd_in (sd_m2 (i := 132) (by decide +kernel)) rfl
theorem wI_X11_bed : (.instanceMethod yX11_bed : Cond) ∈ sd_gd := sd_gd_in (sd_m2 (i := 133) (by decide +kernel)) rfl
theorem wS_X11_X11_bed : (.selects RX11 yX11_bed yX11_bed : Cond) ∈ sd_gd := sd_gd_in (sd_m2 (i := 134) (by decide +kernel)) rfl
theorem wC_X11_bed : (.code yX11_bed cX11_bed 4 (some .int) : Cond) ∈ sd_gd := sd_gd_in (sd_m2 (i := 135) (by decide +kernel)) rfl
theorem wM_L_39 : (.methodLink RL 39 yX11_type : Cond) ∈ sd_gd := sd_gd_in (sd_m2 (i := 136) (by decide +kernel)) rfl
theorem wI_X11_type : (.instanceMethod yX11_type : Cond) ∈ sd_gd := sd_gd_in (sd_m2 (i := 137) (by decide +kernel)) rfl
theorem wS_X11_X11_type : (.selects RX11 yX11_type yX11_type : Cond) ∈ sd_gd := sd_gd_in (sd_m2 (i := 138) (by decide +kernel)) rfl
theorem wC_X11_type : (.code yX11_type cX11_type 2 (some .int) : Cond) ∈ sd_gd := sd_gd_in (sd_m2 (i := 139) (by decide +kernel)) rfl
theorem wM_X11_145 : (.methodLink RX11 145 yX8_addLetter : Cond) ∈ sd_gd := sd_gd_in (sd_m2 (i := 140) (by decide +kernel)) rfl
theorem wI_X8_addLetter : (.instanceMethod yX8_addLetter : Cond) ∈ sd_gd := sd_gd_in (sd_m2 (i := 141) (by decide +kernel)) rfl
theorem wS_X8_X8_addLetter : (.selects RX8 yX8_addLetter yX8_addLetter : Cond) ∈ sd_gd := sd_gd_in (sd_m2 (i := 142) (by decide +kernel)) rfl
theorem wC_X8_addLetter : (.code yX8_addLetter cX8_addLetter 2 none : Cond) ∈ sd_gd := sd_gd_in (sd_m2 (i := 143) (by decide +kernel)) rfl
theorem wM_L_44 : (.methodLink RL 44 yX11_house : Cond) ∈ sd_gd := sd_gd_in (sd_m2 (i := 144) (by decide +kernel)) rfl
theorem wI_X11_house : (.instanceMethod yX11_house : Cond) ∈ sd_gd := sd_gd_in (sd_m2 (i := 145) (by decide +kernel)) rfl
theorem wS_X11_X11_house : (.selects RX11 yX11_house yX11_house : Cond) ∈ sd_gd := sd_gd_in (sd_m2 (i := 146) (by decide +kernel)) rfl
theorem wC_X11_house : (.code yX11_house cX11_house 3 (some .int) : Cond) ∈ sd_gd := sd_gd_in (sd_m2 (i := 147) (by decide +kernel)) rfl
theorem wM_X11_152 : (.methodLink RX11 152 yX2_clear : Cond) ∈ sd_gd := sd_gd_in (sd_m2 (i := 148) (by decide +kernel)) rfl
theorem wI_X2_clear : (.instanceMethod yX2_clear : Cond) ∈ sd_gd := sd_gd_in (sd_m2 (i := 149) (by decide +kernel)) rfl
theorem wS_X2_X2_clear : (.selects RX2 yX2_clear yX2_clear : Cond) ∈ sd_gd := sd_gd_in (sd_m2 (i := 150) (by decide +kernel)) rfl
theorem wC_X2_clear : (.code yX2_clear cX2_clear 2 none : Cond) ∈ sd_gd := sd_gd_in (sd_m2 (i := 151) (by decide +kernel)) rfl
theorem wM_X11_156 : (.methodLink RX11 156 yX8_readHouse : Cond) ∈ sd_gd := sd_gd_in (sd_m2 (i := 152) (by decide +kernel)) rfl
theorem wI_X8_readHouse : (.instanceMethod yX8_readHouse : Cond) ∈ sd_gd := sd_gd_in (sd_m2 (i := 153) (by decide +kernel)) rfl
theorem wS_X8_X8_readHouse : (.selects RX8 yX8_readHouse yX8_readHouse : Cond) ∈ sd_gd := sd_gd_in (sd_m2 (i := 154) (by decide +kernel)) rfl
theorem wC_X8_readHouse : (.code yX8_readHouse cX8_readHouse 2 (some .boolean) : Cond) ∈ sd_gd := sd_gd_in (sd_m2 (i := 155) (by decide +kernel)) rfl
theorem wM_X8_22 : (.methodLink RX8 22 yX8_readSleepers : Cond) ∈ sd_gd := sd_gd_in (sd_m2 (i := 156) (by decide +kernel)) rfl
theorem wI_X8_readSleepers : (.instanceMethod yX8_readSleepers : Cond) ∈ sd_gd := sd_gd_in (sd_m2 (i := 158) (by decide +kernel)) rfl
theorem wC_X8_readSleepers : (.code yX8_readSleepers cX8_readSleepers 4 (some .boolean) : Cond) ∈ sd_gd := sd_gd_in (sd_m2 (i := 159) (by decide +kernel)) rfl
theorem wM_X8_36 : (.methodLink RX8 36 yX8_readSleeper : Cond) ∈ sd_gd := sd_gd_in (sd_m2 (i := 160) (by decide +kernel)) rfl
theorem wI_X8_readSleeper : (.instanceMethod yX8_readSleeper : Cond) ∈ sd_gd := sd_gd_in (sd_m2 (i := 162) (by decide +kernel)) rfl
theorem wC_X8_readSleeper : (.code yX8_readSleeper cX8_readSleeper 4 (some .boolean) : Cond) ∈ sd_gd := sd_gd_in (sd_m2 (i := 163) (by decide +kernel)) rfl
theorem wM_X8_42 : (.methodLink RX8 42 yX8_readDigit : Cond) ∈ sd_gd := sd_gd_in (sd_m2 (i := 164) (by decide +kernel)) rfl
theorem wI_X8_readDigit : (.instanceMethod yX8_readDigit : Cond) ∈ sd_gd := sd_gd_in (sd_m2 (i := 166) (by decide +kernel)) rfl
theorem wC_X8_readDigit : (.code yX8_readDigit cX8_readDigit 4 (some .int) : Cond) ∈ sd_gd := sd_gd_in (sd_m2 (i := 167) (by decide +kernel)) rfl
theorem wM_X8_33 : (.methodLink RX8 33 yX8_skipBlanks : Cond) ∈ sd_gd := sd_gd_in (sd_m2 (i := 168) (by decide +kernel)) rfl
theorem wI_X8_skipBlanks : (.instanceMethod yX8_skipBlanks : Cond) ∈ sd_gd := sd_gd_in (sd_m2 (i := 170) (by decide +kernel)) rfl
theorem wC_X8_skipBlanks : (.code yX8_skipBlanks cX8_skipBlanks 1 none : Cond) ∈ sd_gd := sd_gd_in (sd_m2 (i := 171) (by decide +kernel)) rfl
theorem wM_X8_71 : (.methodLink RX8 71 yX8_digitHere : Cond) ∈ sd_gd := sd_gd_in (sd_m2 (i := 172) (by decide +kernel)) rfl
theorem wI_X8_digitHere : (.instanceMethod yX8_digitHere : Cond) ∈ sd_gd := sd_gd_in (sd_m2 (i := 174) (by decide +kernel)) rfl
theorem wC_X8_digitHere : (.code yX8_digitHere cX8_digitHere 1 (some .int) : Cond) ∈ sd_gd := sd_gd_in (sd_m2 (i := 175) (by decide +kernel)) rfl
theorem wM_X8_26 : (.methodLink RX8 26 yX8_takes : Cond) ∈ sd_gd := sd_gd_in (sd_m2 (i := 177) (by decide +kernel)) rfl
theorem wI_X8_takes : (.instanceMethod yX8_takes : Cond) ∈ sd_gd := sd_gd_in (sd_m2 (i := 179) (by decide +kernel)) rfl
theorem wC_X8_takes : (.code yX8_takes cX8_takes 2 (some .boolean) : Cond) ∈ sd_gd := sd_gd_in (sd_m2 (i := 180) (by decide +kernel)) rfl
theorem wM_X8_46 : (.methodLink RX8 46 yX8_readNumber : Cond) ∈ sd_gd := sd_gd_in (sd_m2 (i := 181) (by decide +kernel)) rfl
theorem wI_X8_readNumber : (.instanceMethod yX8_readNumber : Cond) ∈ sd_gd := sd_gd_in (sd_m2 (i := 183) (by decide +kernel)) rfl
theorem wC_X8_readNumber : (.code yX8_readNumber cX8_readNumber 4 (some .int) : Cond) ∈ sd_gd := sd_gd_in (sd_m2 (i := 184) (by decide +kernel)) rfl
theorem wM_X8_50 : (.methodLink RX8 50 yX2_addSleeper : Cond) ∈ sd_gd := sd_gd_in (sd_m2 (i := 185) (by decide +kernel)) rfl
theorem wM_X8_30 : (.methodLink RX8 30 yX8_readThings : Cond) ∈ sd_gd := sd_gd_in (sd_m2 (i := 186) (by decide +kernel)) rfl
theorem wI_X8_readThings : (.instanceMethod yX8_readThings : Cond) ∈ sd_gd := sd_gd_in (sd_m2 (i := 188) (by decide +kernel)) rfl
theorem wC_X8_readThings : (.code yX8_readThings cX8_readThings 4 (some .boolean) : Cond) ∈ sd_gd := sd_gd_in (sd_m2 (i := 189) (by decide +kernel)) rfl
theorem wM_X8_39 : (.methodLink RX8 39 yX8_readThing : Cond) ∈ sd_gd := sd_gd_in (sd_m2 (i := 190) (by decide +kernel)) rfl
theorem wI_X8_readThing : (.instanceMethod yX8_readThing : Cond) ∈ sd_gd := sd_gd_in (sd_m2 (i := 192) (by decide +kernel)) rfl
theorem wC_X8_readThing : (.code yX8_readThing cX8_readThing 6 (some .boolean) : Cond) ∈ sd_gd := sd_gd_in (sd_m2 (i := 193) (by decide +kernel)) rfl
theorem wM_X8_56 : (.methodLink RX8 56 yX8_readKind : Cond) ∈ sd_gd := sd_gd_in (sd_m2 (i := 194) (by decide +kernel)) rfl
theorem wI_X8_readKind : (.instanceMethod yX8_readKind : Cond) ∈ sd_gd := sd_gd_in (sd_m2 (i := 196) (by decide +kernel)) rfl
theorem wC_X8_readKind : (.code yX8_readKind cX8_readKind 2 (some .int) : Cond) ∈ sd_gd := sd_gd_in (sd_m2 (i := 197) (by decide +kernel)) rfl
theorem wR_str : (.stringRef RX8 63 "pfcth" : Cond) ∈ lw_tbl := sd_m2 (i := 198) (by decide +kernel)
theorem wM_X8_65 : (.methodLink RX8 65 yJ0_indexOf_0f7a4 : Cond) ∈ sd_gd := sd_gd_in (sd_m2 (i := 199) (by decide +kernel)) rfl
theorem wI_J0_indexOf_0f7a4 : (.instanceMethod yJ0_indexOf_0f7a4 : Cond) ∈ sd_gd := sd_gd_in (sd_m2 (i := 200) (by decide +kernel)) rfl
theorem wS_J0_J0_indexOf_0f7a4 : (.selects RJ0 yJ0_indexOf_0f7a4 yJ0_indexOf_0f7a4 : Cond) ∈ sd_gd := sd_gd_in (sd_m2 (i := 201) (by decide +kernel)) rfl
theorem wC_J0_indexOf_0f7a4 : (.code yJ0_indexOf_0f7a4 cJ0_indexOf_0f7a4 2 (some .int) : Cond) ∈ sd_gd := sd_gd_in (sd_m2 (i := 202) (by decide +kernel)) rfl
theorem wM_J0_633 : (.methodLink RJ0 633 yJ0_indexOf_7cf53 : Cond) ∈ sd_gd := sd_gd_in (sd_m2 (i := 203) (by decide +kernel)) rfl
theorem wI_J0_indexOf_7cf53 : (.instanceMethod yJ0_indexOf_7cf53 : Cond) ∈ sd_gd := sd_gd_in (sd_m2 (i := 204) (by decide +kernel)) rfl
theorem wS_J0_J0_indexOf_7cf53 : (.selects RJ0 yJ0_indexOf_7cf53 yJ0_indexOf_7cf53 : Cond) ∈ sd_gd := sd_gd_in (sd_m2 (i := 205) (by decide +kernel)) rfl
theorem wC_J0_indexOf_7cf53 : (.code yJ0_indexOf_7cf53 cJ0_indexOf_7cf53 3 (some .int) : Cond) ∈ sd_gd := sd_gd_in (sd_m2 (i := 206) (by decide +kernel)) rfl
theorem wM_J0_492 : (.methodLink RJ0 492 yJ0_isLatin1_aae02 : Cond) ∈ sd_gd := sd_gd_in (sd_m2 (i := 207) (by decide +kernel)) rfl
theorem wI_J0_isLatin1_aae02 : (.instanceMethod yJ0_isLatin1_aae02 : Cond) ∈ sd_gd := sd_gd_in (sd_m2 (i := 208) (by decide +kernel)) rfl
theorem wS_J0_J0_isLatin1_aae02 : (.selects RJ0 yJ0_isLatin1_aae02 yJ0_isLatin1_aae02 : Cond) ∈ sd_gd := sd_gd_in (sd_m2 (i := 209) (by decide +kernel)) rfl
theorem wC_J0_isLatin1_aae02 : (.code yJ0_isLatin1_aae02 cJ0_isLatin1_aae02 1 (some .boolean) : Cond) ∈ sd_gd := sd_gd_in (sd_m2 (i := 210) (by decide +kernel)) rfl
theorem wF_J0_38 : (.fieldLink RJ0 38 "java/lang/String" "COMPACT_STRINGS" "Z" : Cond) ∈ sd_gd := sd_gd_in (sd_m2 (i := 211) (by decide +kernel)) rfl
theorem wM_J0_505 : (.methodLink RJ0 505 yJ0_length_8abf5 : Cond) ∈ sd_gd := sd_gd_in (sd_m2 (i := 213) (by decide +kernel)) rfl
theorem wI_J0_length_8abf5 : (.instanceMethod yJ0_length_8abf5 : Cond) ∈ sd_gd := sd_gd_in (sd_m2 (i := 214) (by decide +kernel)) rfl
theorem wS_J0_J0_length_8abf5 : (.selects RJ0 yJ0_length_8abf5 yJ0_length_8abf5 : Cond) ∈ sd_gd := sd_gd_in (sd_m2 (i := 215) (by decide +kernel)) rfl
theorem wC_J0_length_8abf5 : (.code yJ0_length_8abf5 cJ0_length_8abf5 1 (some .int) : Cond) ∈ sd_gd := sd_gd_in (sd_m2 (i := 216) (by decide +kernel)) rfl
theorem wM_J0_335 : (.methodLink RJ0 335 yJ0_coder_7d493 : Cond) ∈ sd_gd := sd_gd_in (sd_m2 (i := 217) (by decide +kernel)) rfl
theorem wI_J0_coder_7d493 : (.instanceMethod yJ0_coder_7d493 : Cond) ∈ sd_gd := sd_gd_in (sd_m2 (i := 218) (by decide +kernel)) rfl
theorem wS_J0_J0_coder_7d493 : (.selects RJ0 yJ0_coder_7d493 yJ0_coder_7d493 : Cond) ∈ sd_gd := sd_gd_in (sd_m2 (i := 219) (by decide +kernel)) rfl
theorem wC_J0_coder_7d493 : (.code yJ0_coder_7d493 cJ0_coder_7d493 1 (some .byte) : Cond) ∈ sd_gd := sd_gd_in (sd_m2 (i := 220) (by decide +kernel)) rfl
theorem wM_J0_637 : (.methodLink RJ0 637 yJ1_indexOf_4cfef : Cond) ∈ sd_gd := sd_gd_in (sd_m2 (i := 221) (by decide +kernel)) rfl
theorem wT_J1_indexOf_4cfef : (.static yJ1_indexOf_4cfef : Cond) ∈ sd_gd := sd_gd_in (sd_m2 (i := 222) (by decide +kernel)) rfl
theorem wC_J1_indexOf_4cfef : (.code yJ1_indexOf_4cfef cJ1_indexOf_4cfef 4 (some .int) : Cond) ∈ sd_gd := sd_gd_in (sd_m2 (i := 223) (by decide +kernel)) rfl
theorem wM_J1_88 : (.methodLink RJ1 88 yJ1_canEncode_9a6ad : Cond) ∈ sd_gd := sd_gd_in (sd_m2 (i := 224) (by decide +kernel)) rfl
theorem wT_J1_canEncode_9a6ad : (.static yJ1_canEncode_9a6ad : Cond) ∈ sd_gd := sd_gd_in (sd_m2 (i := 225) (by decide +kernel)) rfl
theorem wC_J1_canEncode_9a6ad : (.code yJ1_canEncode_9a6ad cJ1_canEncode_9a6ad 1 (some .boolean) : Cond) ∈ sd_gd := sd_gd_in (sd_m2 (i := 226) (by decide +kernel)) rfl
theorem wM_J1_92 : (.methodLink RJ1 92 yJ9_max_7cf53 : Cond) ∈ sd_gd := sd_gd_in (sd_m2 (i := 227) (by decide +kernel)) rfl
theorem wT_J9_max_7cf53 : (.static yJ9_max_7cf53 : Cond) ∈ sd_gd := sd_gd_in (sd_m2 (i := 228) (by decide +kernel)) rfl
theorem wC_J9_max_7cf53 : (.code yJ9_max_7cf53 cJ9_max_7cf53 2 (some .int) : Cond) ∈ sd_gd := sd_gd_in (sd_m2 (i := 229) (by decide +kernel)) rfl
theorem wM_J1_38 : (.methodLink RJ1 38 yJ9_min_7cf53 : Cond) ∈ sd_gd := sd_gd_in (sd_m2 (i := 230) (by decide +kernel)) rfl
theorem wM_J1_95 : (.methodLink RJ1 95 yJ1_indexOfChar_4cfef : Cond) ∈ sd_gd := sd_gd_in (sd_m2 (i := 231) (by decide +kernel)) rfl
theorem wT_J1_indexOfChar_4cfef : (.static yJ1_indexOfChar_4cfef : Cond) ∈ sd_gd := sd_gd_in (sd_m2 (i := 232) (by decide +kernel)) rfl
theorem wC_J1_indexOfChar_4cfef : (.code yJ1_indexOfChar_4cfef cJ1_indexOfChar_4cfef 6 (some .int) : Cond) ∈ sd_gd := sd_gd_in (sd_m2 (i := 233) (by decide +kernel)) rfl
theorem wM_J0_640 : (.methodLink RJ0 640 yJ2_indexOf_4cfef : Cond) ∈ sd_gd := sd_gd_in (sd_m2 (i := 234) (by decide +kernel)) rfl
theorem wT_J2_indexOf_4cfef : (.static yJ2_indexOf_4cfef : Cond) ∈ sd_gd := sd_gd_in (sd_m2 (i := 235) (by decide +kernel)) rfl
theorem wC_J2_indexOf_4cfef : (.code yJ2_indexOf_4cfef cJ2_indexOf_4cfef 4 (some .int) : Cond) ∈ sd_gd := sd_gd_in (sd_m2 (i := 236) (by decide +kernel)) rfl
theorem wM_J2_224 : (.methodLink RJ2 224 yJ9_max_7cf53 : Cond) ∈ sd_gd := sd_gd_in (sd_m2 (i := 237) (by decide +kernel)) rfl
theorem wM_J2_183 : (.methodLink RJ2 183 yJ9_min_7cf53 : Cond) ∈ sd_gd := sd_gd_in (sd_m2 (i := 238) (by decide +kernel)) rfl
theorem wK_J2_227 : (.constant RJ2 227 (65536) : Cond) ∈ sd_gd := sd_gd_in (sd_m2 (i := 239) (by decide +kernel)) rfl
theorem wM_J2_228 : (.methodLink RJ2 228 yJ2_indexOfChar_4cfef : Cond) ∈ sd_gd := sd_gd_in (sd_m3 (i := 0) (by decide +kernel)) rfl
theorem wT_J2_indexOfChar_4cfef : (.static yJ2_indexOfChar_4cfef : Cond) ∈ sd_gd := sd_gd_in (sd_m3 (i := 1) (by decide +kernel)) rfl
theorem wC_J2_indexOfChar_4cfef : (.code yJ2_indexOfChar_4cfef cJ2_indexOfChar_4cfef 4 (some .int) : Cond) ∈ sd_gd := sd_gd_in (sd_m3 (i := 2) (by decide +kernel)) rfl
theorem wM_J2_96 : (.methodLink RJ2 96 yJ2_checkBoundsBeginEnd_d044e : Cond) ∈ sd_gd := sd_gd_in (sd_m3 (i := 3) (by decide +kernel)) rfl
theorem wT_J2_checkBoundsBeginEnd_d044e : (.static yJ2_checkBoundsBeginEnd_d044e : Cond) ∈ sd_gd := sd_gd_in (sd_m3 (i := 4) (by decide +kernel)) rfl
theorem wC_J2_checkBoundsBeginEnd_d044e : (.code yJ2_checkBoundsBeginEnd_d044e cJ2_checkBoundsBeginEnd_d044e 3 none : Cond) ∈ sd_gd := sd_gd_in (sd_m3 (i := 5) (by decide +kernel)) rfl
theorem wM_J2_48 : (.methodLink RJ2 48 yJ2_length_9d52b : Cond) ∈ sd_gd := sd_gd_in (sd_m3 (i := 6) (by decide +kernel)) rfl
theorem wT_J2_length_9d52b : (.static yJ2_length_9d52b : Cond) ∈ sd_gd := sd_gd_in (sd_m3 (i := 7) (by decide +kernel)) rfl
theorem wC_J2_length_9d52b : (.code yJ2_length_9d52b cJ2_length_9d52b 1 (some .int) : Cond) ∈ sd_gd := sd_gd_in (sd_m3 (i := 8) (by decide +kernel)) rfl
theorem wM_J2_241 : (.methodLink RJ2 241 yJ0_checkBoundsBeginEnd_23922 : Cond) ∈ sd_gd := sd_gd_in (sd_m3 (i := 9) (by decide +kernel)) rfl
theorem wT_J0_checkBoundsBeginEnd_23922 : (.static yJ0_checkBoundsBeginEnd_23922 : Cond) ∈ sd_gd := sd_gd_in (sd_m3 (i := 10) (by decide +kernel)) rfl
theorem wC_J0_checkBoundsBeginEnd_23922 : (.code yJ0_checkBoundsBeginEnd_23922 cJ0_checkBoundsBeginEnd_23922 3 none : Cond) ∈ sd_gd := sd_gd_in (sd_m3 (i := 11) (by decide +kernel)) rfl
theorem wF_J0_1053 : (.fieldLink RJ0 1053 "jdk/internal/util/Preconditions" "SIOOBE_FORMATTER" "Ljava/util/function/BiFunction;" : Cond) ∈ sd_gd := sd_gd_in (sd_m3 (i := 12) (by decide +kernel)) rfl
theorem wM_J0_1062 : (.methodLink RJ0 1062 yJ3_checkFromToIndex_8c36e : Cond) ∈ sd_gd := sd_gd_in (sd_m3 (i := 14) (by decide +kernel)) rfl
theorem wT_J3_checkFromToIndex_8c36e : (.static yJ3_checkFromToIndex_8c36e : Cond) ∈ sd_gd := sd_gd_in (sd_m3 (i := 15) (by decide +kernel)) rfl
theorem wC_J3_checkFromToIndex_8c36e : (.code yJ3_checkFromToIndex_8c36e cJ3_checkFromToIndex_8c36e 4 (some .int) : Cond) ∈ sd_gd := sd_gd_in (sd_m3 (i := 16) (by decide +kernel)) rfl
theorem wM_J2_244 : (.methodLink RJ2 244 yJ2_indexOfCharUnsafe_4cfef : Cond) ∈ sd_gd := sd_gd_in (sd_m3 (i := 17) (by decide +kernel)) rfl
theorem wT_J2_indexOfCharUnsafe_4cfef : (.static yJ2_indexOfCharUnsafe_4cfef : Cond) ∈ sd_gd := sd_gd_in (sd_m3 (i := 18) (by decide +kernel)) rfl
theorem wC_J2_indexOfCharUnsafe_4cfef : (.code yJ2_indexOfCharUnsafe_4cfef cJ2_indexOfCharUnsafe_4cfef 5 (some .int) : Cond) ∈ sd_gd := sd_gd_in (sd_m3 (i := 19) (by decide +kernel)) rfl
theorem wM_J2_71 : (.methodLink RJ2 71 yJ2_getChar_3b067 : Cond) ∈ sd_gd := sd_gd_in (sd_m3 (i := 20) (by decide +kernel)) rfl
theorem wT_J2_getChar_3b067 : (.static yJ2_getChar_3b067 : Cond) ∈ sd_gd := sd_gd_in (sd_m3 (i := 21) (by decide +kernel)) rfl
theorem wC_J2_getChar_3b067 : (.code yJ2_getChar_3b067 cJ2_getChar_3b067 2 (some .char) : Cond) ∈ sd_gd := sd_gd_in (sd_m3 (i := 22) (by decide +kernel)) rfl
theorem wF_J2_44 : (.fieldLink RJ2 44 "java/lang/StringUTF16" "$assertionsDisabled" "Z" : Cond) ∈ sd_gd := sd_gd_in (sd_m3 (i := 23) (by decide +kernel)) rfl
theorem wF_J2_59 : (.fieldLink RJ2 59 "java/lang/StringUTF16" "HI_BYTE_SHIFT" "I" : Cond) ∈ sd_gd := sd_gd_in (sd_m3 (i := 25) (by decide +kernel)) rfl
theorem wF_J2_63 : (.fieldLink RJ2 63 "java/lang/StringUTF16" "LO_BYTE_SHIFT" "I" : Cond) ∈ sd_gd := sd_gd_in (sd_m3 (i := 27) (by decide +kernel)) rfl
theorem wM_J2_232 : (.methodLink RJ2 232 yJ2_indexOfSupplementary_4cfef : Cond) ∈ sd_gd := sd_gd_in (sd_m3 (i := 29) (by decide +kernel)) rfl
theorem wT_J2_indexOfSupplementary_4cfef : (.static yJ2_indexOfSupplementary_4cfef : Cond) ∈ sd_gd := sd_gd_in (sd_m3 (i := 30) (by decide +kernel)) rfl
theorem wC_J2_indexOfSupplementary_4cfef : (.code yJ2_indexOfSupplementary_4cfef cJ2_indexOfSupplementary_4cfef 7 (some .int) : Cond) ∈ sd_gd := sd_gd_in (sd_m3 (i := 31) (by decide +kernel)) rfl
theorem wM_J2_164 : (.methodLink RJ2 164 yJ11_isValidCodePoint_9a6ad : Cond) ∈ sd_gd := sd_gd_in (sd_m3 (i := 32) (by decide +kernel)) rfl
theorem wT_J11_isValidCodePoint_9a6ad : (.static yJ11_isValidCodePoint_9a6ad : Cond) ∈ sd_gd := sd_gd_in (sd_m3 (i := 33) (by decide +kernel)) rfl
theorem wC_J11_isValidCodePoint_9a6ad : (.code yJ11_isValidCodePoint_9a6ad cJ11_isValidCodePoint_9a6ad 2 (some .boolean) : Cond) ∈ sd_gd := sd_gd_in (sd_m3 (i := 34) (by decide +kernel)) rfl
theorem wM_J2_157 : (.methodLink RJ2 157 yJ11_highSurrogate_5068e : Cond) ∈ sd_gd := sd_gd_in (sd_m3 (i := 35) (by decide +kernel)) rfl
theorem wT_J11_highSurrogate_5068e : (.static yJ11_highSurrogate_5068e : Cond) ∈ sd_gd := sd_gd_in (sd_m3 (i := 36) (by decide +kernel)) rfl
theorem wC_J11_highSurrogate_5068e : (.code yJ11_highSurrogate_5068e cJ11_highSurrogate_5068e 1 (some .char) : Cond) ∈ sd_gd := sd_gd_in (sd_m3 (i := 37) (by decide +kernel)) rfl
theorem wK_J11_110 : (.constant RJ11 110 (55232) : Cond) ∈ sd_gd := sd_gd_in (sd_m3 (i := 38) (by decide +kernel)) rfl
theorem wM_J2_161 : (.methodLink RJ2 161 yJ11_lowSurrogate_5068e : Cond) ∈ sd_gd := sd_gd_in (sd_m3 (i := 39) (by decide +kernel)) rfl
theorem wT_J11_lowSurrogate_5068e : (.static yJ11_lowSurrogate_5068e : Cond) ∈ sd_gd := sd_gd_in (sd_m3 (i := 40) (by decide +kernel)) rfl
theorem wC_J11_lowSurrogate_5068e : (.code yJ11_lowSurrogate_5068e cJ11_lowSurrogate_5068e 1 (some .char) : Cond) ∈ sd_gd := sd_gd_in (sd_m3 (i := 41) (by decide +kernel)) rfl
theorem wK_J11_76 : (.constant RJ11 76 (56320) : Cond) ∈ sd_gd := sd_gd_in (sd_m3 (i := 42) (by decide +kernel)) rfl
theorem wM_X8_59 : (.methodLink RX8 59 yX2_addThing : Cond) ∈ sd_gd := sd_gd_in (sd_m3 (i := 43) (by decide +kernel)) rfl
theorem wM_X11_162 : (.methodLink RX11 162 yX8_clear : Cond) ∈ sd_gd := sd_gd_in (sd_m3 (i := 44) (by decide +kernel)) rfl
theorem wI_X8_clear : (.instanceMethod yX8_clear : Cond) ∈ sd_gd := sd_gd_in (sd_m3 (i := 45) (by decide +kernel)) rfl
theorem wS_X8_X8_clear : (.selects RX8 yX8_clear yX8_clear : Cond) ∈ sd_gd := sd_gd_in (sd_m3 (i := 46) (by decide +kernel)) rfl
theorem wC_X8_clear : (.code yX8_clear cX8_clear 1 none : Cond) ∈ sd_gd := sd_gd_in (sd_m3 (i := 47) (by decide +kernel)) rfl
theorem wM_X11_164 : (.methodLink RX11 164 yX2_takeAll : Cond) ∈ sd_gd := sd_gd_in (sd_m3 (i := 48) (by decide +kernel)) rfl
theorem wI_X2_takeAll : (.instanceMethod yX2_takeAll : Cond) ∈ sd_gd := sd_gd_in (sd_m3 (i := 49) (by decide +kernel)) rfl
theorem wS_X2_X2_takeAll : (.selects RX2 yX2_takeAll yX2_takeAll : Cond) ∈ sd_gd := sd_gd_in (sd_m3 (i := 50) (by decide +kernel)) rfl
theorem wC_X2_takeAll : (.code yX2_takeAll cX2_takeAll 2 none : Cond) ∈ sd_gd := sd_gd_in (sd_m3 (i := 51) (by decide +kernel)) rfl
theorem wM_X2_53 : (.methodLink RX2 53 ⟨"java/lang/System", "arraycopy", "(Ljava/lang/Object;ILjava/lang/Object;II)V"⟩ : Cond) ∈ sd_gd := sd_gd_in (sd_m3 (i := 52) (by decide +kernel)) rfl
theorem wT_copy : (.static arraycopyName : Cond) ∈ sd_gd := sd_gd_in (sd_m3 (i := 53) (by decide +kernel)) rfl
theorem wN_copy : (.native arraycopyName : Cond) ∈ sd_gd := sd_gd_in (sd_m3 (i := 54) (by decide +kernel)) rfl
theorem wM_X2_59 : (.methodLink RX2 59 yX4_takeAll : Cond) ∈ sd_gd := sd_gd_in (sd_m3 (i := 55) (by decide +kernel)) rfl
theorem wI_X4_takeAll : (.instanceMethod yX4_takeAll : Cond) ∈ sd_gd := sd_gd_in (sd_m3 (i := 56) (by decide +kernel)) rfl
theorem wS_X4_X4_takeAll : (.selects RX4 yX4_takeAll yX4_takeAll : Cond) ∈ sd_gd := sd_gd_in (sd_m3 (i := 57) (by decide +kernel)) rfl
theorem wC_X4_takeAll : (.code yX4_takeAll cX4_takeAll 2 none : Cond) ∈ sd_gd := sd_gd_in (sd_m3 (i := 58) (by decide +kernel)) rfl
theorem wM_X4_31 : (.methodLink RX4 31 ⟨"java/lang/System", "arraycopy", "(Ljava/lang/Object;ILjava/lang/Object;II)V"⟩ : Cond) ∈ sd_gd := sd_gd_in (sd_m3 (i := 59) (by decide +kernel)) rfl
theorem wY_byte : (.arrayClass .byte : Cond) ∈ sd_gd := sd_gd_in (sd_m3 (i := 60) (by decide +kernel)) rfl
theorem wM_L_49 : (.methodLink RL 49 yX11_count : Cond) ∈ sd_gd := sd_gd_in (sd_m3 (i := 61) (by decide +kernel)) rfl
theorem wI_X11_count : (.instanceMethod yX11_count : Cond) ∈ sd_gd := sd_gd_in (sd_m3 (i := 62) (by decide +kernel)) rfl
theorem wS_X11_X11_count : (.selects RX11 yX11_count yX11_count : Cond) ∈ sd_gd := sd_gd_in (sd_m3 (i := 63) (by decide +kernel)) rfl
theorem wC_X11_count : (.code yX11_count cX11_count 2 (some .int) : Cond) ∈ sd_gd := sd_gd_in (sd_m3 (i := 64) (by decide +kernel)) rfl
theorem wM_X11_171 : (.methodLink RX11 171 yX11_sum : Cond) ∈ sd_gd := sd_gd_in (sd_m3 (i := 65) (by decide +kernel)) rfl
theorem wT_X11_sum : (.static yX11_sum : Cond) ∈ sd_gd := sd_gd_in (sd_m3 (i := 66) (by decide +kernel)) rfl
theorem wC_X11_sum : (.code yX11_sum cX11_sum 4 (some .int) : Cond) ∈ sd_gd := sd_gd_in (sd_m3 (i := 67) (by decide +kernel)) rfl
theorem wM_X11_175 : (.methodLink RX11 175 yX2_loudOfAll : Cond) ∈ sd_gd := sd_gd_in (sd_m3 (i := 68) (by decide +kernel)) rfl
theorem wI_X2_loudOfAll : (.instanceMethod yX2_loudOfAll : Cond) ∈ sd_gd := sd_gd_in (sd_m3 (i := 69) (by decide +kernel)) rfl
theorem wS_X2_X2_loudOfAll : (.selects RX2 yX2_loudOfAll yX2_loudOfAll : Cond) ∈ sd_gd := sd_gd_in (sd_m3 (i := 70) (by decide +kernel)) rfl
theorem wC_X2_loudOfAll : (.code yX2_loudOfAll cX2_loudOfAll 1 (some .int) : Cond) ∈ sd_gd := sd_gd_in (sd_m3 (i := 71) (by decide +kernel)) rfl
theorem wM_X2_114 : (.methodLink RX2 114 yX2_loudOfSet : Cond) ∈ sd_gd := sd_gd_in (sd_m3 (i := 72) (by decide +kernel)) rfl
theorem wI_X2_loudOfSet : (.instanceMethod yX2_loudOfSet : Cond) ∈ sd_gd := sd_gd_in (sd_m3 (i := 73) (by decide +kernel)) rfl
theorem wS_X2_X2_loudOfSet : (.selects RX2 yX2_loudOfSet yX2_loudOfSet : Cond) ∈ sd_gd := sd_gd_in (sd_m3 (i := 74) (by decide +kernel)) rfl
theorem wC_X2_loudOfSet : (.code yX2_loudOfSet cX2_loudOfSet 4 (some .int) : Cond) ∈ sd_gd := sd_gd_in (sd_m3 (i := 75) (by decide +kernel)) rfl
theorem wT_X11_isIn : (.static yX11_isIn : Cond) ∈ sd_gd := sd_gd_in (sd_m3 (i := 77) (by decide +kernel)) rfl
theorem wC_X11_isIn : (.code yX11_isIn cX11_isIn 2 (some .boolean) : Cond) ∈ sd_gd := sd_gd_in (sd_m3 (i := 78) (by decide +kernel)) rfl
theorem wM_X11_179 : (.methodLink RX11 179 yX2_silentThings : Cond) ∈ sd_gd := sd_gd_in (sd_m3 (i := 79) (by decide +kernel)) rfl
theorem wI_X2_silentThings : (.instanceMethod yX2_silentThings : Cond) ∈ sd_gd := sd_gd_in (sd_m3 (i := 80) (by decide +kernel)) rfl
theorem wS_X2_X2_silentThings : (.selects RX2 yX2_silentThings yX2_silentThings : Cond) ∈ sd_gd := sd_gd_in (sd_m3 (i := 81) (by decide +kernel)) rfl
theorem wC_X2_silentThings : (.code yX2_silentThings cX2_silentThings 1 (some .int) : Cond) ∈ sd_gd := sd_gd_in (sd_m3 (i := 82) (by decide +kernel)) rfl
theorem wM_L_53 : (.methodLink RL 53 yX11_nights : Cond) ∈ sd_gd := sd_gd_in (sd_m3 (i := 83) (by decide +kernel)) rfl
theorem wI_X11_nights : (.instanceMethod yX11_nights : Cond) ∈ sd_gd := sd_gd_in (sd_m3 (i := 84) (by decide +kernel)) rfl
theorem wS_X11_X11_nights : (.selects RX11 yX11_nights yX11_nights : Cond) ∈ sd_gd := sd_gd_in (sd_m3 (i := 85) (by decide +kernel)) rfl
theorem wC_X11_nights : (.code yX11_nights cX11_nights 2 (some .int) : Cond) ∈ sd_gd := sd_gd_in (sd_m3 (i := 86) (by decide +kernel)) rfl
theorem wM_X11_185 : (.methodLink RX11 185 yX11_spendNights : Cond) ∈ sd_gd := sd_gd_in (sd_m3 (i := 87) (by decide +kernel)) rfl
theorem wI_X11_spendNights : (.instanceMethod yX11_spendNights : Cond) ∈ sd_gd := sd_gd_in (sd_m3 (i := 89) (by decide +kernel)) rfl
theorem wC_X11_spendNights : (.code yX11_spendNights cX11_spendNights 5 (some .int) : Cond) ∈ sd_gd := sd_gd_in (sd_m3 (i := 90) (by decide +kernel)) rfl
theorem wM_X11_189 : (.methodLink RX11 189 yX6_keep : Cond) ∈ sd_gd := sd_gd_in (sd_m3 (i := 91) (by decide +kernel)) rfl
theorem wI_X6_keep : (.instanceMethod yX6_keep : Cond) ∈ sd_gd := sd_gd_in (sd_m3 (i := 92) (by decide +kernel)) rfl
theorem wS_X6_X6_keep : (.selects RX6 yX6_keep yX6_keep : Cond) ∈ sd_gd := sd_gd_in (sd_m3 (i := 93) (by decide +kernel)) rfl
theorem wC_X6_keep : (.code yX6_keep cX6_keep 2 none : Cond) ∈ sd_gd := sd_gd_in (sd_m3 (i := 94) (by decide +kernel)) rfl
theorem wM_X6_22 : (.methodLink RX6 22 yX4_takeAll : Cond) ∈ sd_gd := sd_gd_in (sd_m3 (i := 95) (by decide +kernel)) rfl
theorem wM_X6_29 : (.methodLink RX6 29 yJ9_min_7cf53 : Cond) ∈ sd_gd := sd_gd_in (sd_m3 (i := 96) (by decide +kernel)) rfl
theorem wM_X11_302 : (.methodLink RX11 302 yX2_moveByDraw : Cond) ∈ sd_gd := sd_gd_in (sd_m3 (i := 97) (by decide +kernel)) rfl
theorem wI_X2_moveByDraw : (.instanceMethod yX2_moveByDraw : Cond) ∈ sd_gd := sd_gd_in (sd_m3 (i := 98) (by decide +kernel)) rfl
theorem wS_X2_X2_moveByDraw : (.selects RX2 yX2_moveByDraw yX2_moveByDraw : Cond) ∈ sd_gd := sd_gd_in (sd_m3 (i := 99) (by decide +kernel)) rfl
theorem wC_X2_moveByDraw : (.code yX2_moveByDraw cX2_moveByDraw 2 none : Cond) ∈ sd_gd := sd_gd_in (sd_m3 (i := 100) (by decide +kernel)) rfl
theorem wKL_X2_131 : (.constantLong RX2 131 (1103515245) : Cond) ∈ sd_gd := sd_gd_in (sd_m3 (i := 101) (by decide +kernel)) rfl
theorem wKL_X2_133 : (.constantLong RX2 133 (12345) : Cond) ∈ sd_gd := sd_gd_in (sd_m3 (i := 102) (by decide +kernel)) rfl
theorem wKL_X2_135 : (.constantLong RX2 135 (2147483647) : Cond) ∈ sd_gd := sd_gd_in (sd_m3 (i := 103) (by decide +kernel)) rfl
theorem wK_X2_137 : (.constant RX2 137 (65536) : Cond) ∈ sd_gd := sd_gd_in (sd_m3 (i := 104) (by decide +kernel)) rfl
theorem wM_X11_305 : (.methodLink RX11 305 yX2_spendNight : Cond) ∈ sd_gd := sd_gd_in (sd_m3 (i := 105) (by decide +kernel)) rfl
theorem wI_X2_spendNight : (.instanceMethod yX2_spendNight : Cond) ∈ sd_gd := sd_gd_in (sd_m3 (i := 106) (by decide +kernel)) rfl
theorem wS_X2_X2_spendNight : (.selects RX2 yX2_spendNight yX2_spendNight : Cond) ∈ sd_gd := sd_gd_in (sd_m3 (i := 107) (by decide +kernel)) rfl
theorem wC_X2_spendNight : (.code yX2_spendNight cX2_spendNight 3 (some .int) : Cond) ∈ sd_gd := sd_gd_in (sd_m3 (i := 108) (by decide +kernel)) rfl
theorem wM_X2_121 : (.methodLink RX2 121 yX2_listen : Cond) ∈ sd_gd := sd_gd_in (sd_m3 (i := 109) (by decide +kernel)) rfl
theorem wM_X2_124 : (.methodLink RX2 124 yX2_isAsleep : Cond) ∈ sd_gd := sd_gd_in (sd_m3 (i := 110) (by decide +kernel)) rfl
theorem wM_X2_128 : (.methodLink RX2 128 yX2_leftBehind : Cond) ∈ sd_gd := sd_gd_in (sd_m3 (i := 111) (by decide +kernel)) rfl
theorem wI_X2_leftBehind : (.instanceMethod yX2_leftBehind : Cond) ∈ sd_gd := sd_gd_in (sd_m3 (i := 112) (by decide +kernel)) rfl
theorem wS_X2_X2_leftBehind : (.selects RX2 yX2_leftBehind yX2_leftBehind : Cond) ∈ sd_gd := sd_gd_in (sd_m3 (i := 113) (by decide +kernel)) rfl
theorem wC_X2_leftBehind : (.code yX2_leftBehind cX2_leftBehind 5 (some .int) : Cond) ∈ sd_gd := sd_gd_in (sd_m3 (i := 114) (by decide +kernel)) rfl
theorem wM_X2_99 : (.methodLink RX2 99 yX7_leftBehind : Cond) ∈ sd_gd := sd_gd_in (sd_m3 (i := 115) (by decide +kernel)) rfl
theorem wI_X7_leftBehind : (.instanceMethod yX7_leftBehind : Cond) ∈ sd_gd := sd_gd_in (sd_m3 (i := 116) (by decide +kernel)) rfl
theorem wS_X7_X7_leftBehind : (.selects RX7 yX7_leftBehind yX7_leftBehind : Cond) ∈ sd_gd := sd_gd_in (sd_m3 (i := 117) (by decide +kernel)) rfl
theorem wA_X7_leftBehind : (.sameMethod "ThankingGifts$Plain" "ThankingGifts$Plain" "leftBehind" "(III)I" : Cond) ∈ sd_gd := sd_gd_in (sd_m3 (i := 118) (by decide +kernel)) rfl
theorem wS_X0_X7_leftBehind : (.selects RX0 yX7_leftBehind yX0_leftBehind : Cond) ∈ sd_gd := sd_gd_in (sd_m3 (i := 119) (by decide +kernel)) rfl
theorem wI_X0_leftBehind : (.instanceMethod yX0_leftBehind : Cond) ∈ sd_gd := sd_gd_in (sd_m3 (i := 120) (by decide +kernel)) rfl
theorem wC_X0_leftBehind : (.code yX0_leftBehind cX0_leftBehind 4 (some .int) : Cond) ∈ sd_gd := sd_gd_in (sd_m3 (i := 121) (by decide +kernel)) rfl
theorem wS_X1_X7_leftBehind : (.selects RX1 yX7_leftBehind yX1_leftBehind : Cond) ∈ sd_gd := sd_gd_in (sd_m3 (i := 122) (by decide +kernel)) rfl
theorem wI_X1_leftBehind : (.instanceMethod yX1_leftBehind : Cond) ∈ sd_gd := sd_gd_in (sd_m3 (i := 123) (by decide +kernel)) rfl
theorem wC_X1_leftBehind : (.code yX1_leftBehind cX1_leftBehind 4 (some .int) : Cond) ∈ sd_gd := sd_gd_in (sd_m3 (i := 124) (by decide +kernel)) rfl
theorem wM_X1_7 : (.methodLink RX1 7 yJ9_max_7cf53 : Cond) ∈ sd_gd := sd_gd_in (sd_m3 (i := 125) (by decide +kernel)) rfl
theorem wS_X3_X7_leftBehind : (.selects RX3 yX7_leftBehind yX3_leftBehind : Cond) ∈ sd_gd := sd_gd_in (sd_m3 (i := 126) (by decide +kernel)) rfl
theorem wI_X3_leftBehind : (.instanceMethod yX3_leftBehind : Cond) ∈ sd_gd := sd_gd_in (sd_m3 (i := 127) (by decide +kernel)) rfl
theorem wC_X3_leftBehind : (.code yX3_leftBehind cX3_leftBehind 4 (some .int) : Cond) ∈ sd_gd := sd_gd_in (sd_m3 (i := 128) (by decide +kernel)) rfl
theorem wM_X3_7 : (.methodLink RX3 7 yX0_leftBehind : Cond) ∈ sd_gd := sd_gd_in (sd_m3 (i := 129) (by decide +kernel)) rfl
theorem wS_X10_X7_leftBehind : (.selects RX10 yX7_leftBehind yX10_leftBehind : Cond) ∈ sd_gd := sd_gd_in (sd_m3 (i := 130) (by decide +kernel)) rfl
theorem wI_X10_leftBehind : (.instanceMethod yX10_leftBehind : Cond) ∈ sd_gd := sd_gd_in (sd_m3 (i := 131) (by decide +kernel)) rfl
theorem wC_X10_leftBehind : (.code yX10_leftBehind cX10_leftBehind 4 (some .int) : Cond) ∈ sd_gd := sd_gd_in (sd_m3 (i := 132) (by decide +kernel)) rfl
theorem wM_X10_11 : (.methodLink RX10 11 yX1_leftBehind : Cond) ∈ sd_gd := sd_gd_in (sd_m3 (i := 133) (by decide +kernel)) rfl
theorem wC_X7_leftBehind : (.code yX7_leftBehind cX7_leftBehind 4 (some .int) : Cond) ∈ sd_gd := sd_gd_in (sd_m3 (i := 134) (by decide +kernel)) rfl
theorem wM_X7_7 : (.methodLink RX7 7 yJ9_max_7cf53 : Cond) ∈ sd_gd := sd_gd_in (sd_m3 (i := 135) (by decide +kernel)) rfl
theorem wM_L_57 : (.methodLink RL 57 yX11_move : Cond) ∈ sd_gd := sd_gd_in (sd_m3 (i := 136) (by decide +kernel)) rfl
theorem wI_X11_move : (.instanceMethod yX11_move : Cond) ∈ sd_gd := sd_gd_in (sd_m3 (i := 137) (by decide +kernel)) rfl
theorem wS_X11_X11_move : (.selects RX11 yX11_move yX11_move : Cond) ∈ sd_gd := sd_gd_in (sd_m3 (i := 138) (by decide +kernel)) rfl
theorem wC_X11_move : (.code yX11_move cX11_move 4 (some .int) : Cond) ∈ sd_gd := sd_gd_in (sd_m3 (i := 139) (by decide +kernel)) rfl
theorem wM_L_61 : (.methodLink RL 61 yX11_pass : Cond) ∈ sd_gd := sd_gd_in (sd_m3 (i := 140) (by decide +kernel)) rfl
theorem wI_X11_pass : (.instanceMethod yX11_pass : Cond) ∈ sd_gd := sd_gd_in (sd_m3 (i := 141) (by decide +kernel)) rfl
theorem wS_X11_X11_pass : (.selects RX11 yX11_pass yX11_pass : Cond) ∈ sd_gd := sd_gd_in (sd_m3 (i := 142) (by decide +kernel)) rfl
theorem wC_X11_pass : (.code yX11_pass cX11_pass 4 (some .int) : Cond) ∈ sd_gd := sd_gd_in (sd_m3 (i := 143) (by decide +kernel)) rfl
theorem wM_X11_193 : (.methodLink RX11 193 yX11_leftAtFirst : Cond) ∈ sd_gd := sd_gd_in (sd_m3 (i := 144) (by decide +kernel)) rfl
theorem wM_L_65 : (.methodLink RL 65 yX11_back : Cond) ∈ sd_gd := sd_gd_in (sd_m3 (i := 145) (by decide +kernel)) rfl
theorem wI_X11_back : (.instanceMethod yX11_back : Cond) ∈ sd_gd := sd_gd_in (sd_m3 (i := 146) (by decide +kernel)) rfl
theorem wS_X11_X11_back : (.selects RX11 yX11_back yX11_back : Cond) ∈ sd_gd := sd_gd_in (sd_m3 (i := 147) (by decide +kernel)) rfl
theorem wC_X11_back : (.code yX11_back cX11_back 3 (some .int) : Cond) ∈ sd_gd := sd_gd_in (sd_m3 (i := 148) (by decide +kernel)) rfl
theorem wM_L_69 : (.methodLink RL 69 yX11_drift : Cond) ∈ sd_gd := sd_gd_in (sd_m3 (i := 149) (by decide +kernel)) rfl
theorem wI_X11_drift : (.instanceMethod yX11_drift : Cond) ∈ sd_gd := sd_gd_in (sd_m3 (i := 150) (by decide +kernel)) rfl
theorem wS_X11_X11_drift : (.selects RX11 yX11_drift yX11_drift : Cond) ∈ sd_gd := sd_gd_in (sd_m3 (i := 151) (by decide +kernel)) rfl
theorem wC_X11_drift : (.code yX11_drift cX11_drift 2 (some .int) : Cond) ∈ sd_gd := sd_gd_in (sd_m3 (i := 152) (by decide +kernel)) rfl
theorem wM_L_73 : (.methodLink RL 73 yX11_undo : Cond) ∈ sd_gd := sd_gd_in (sd_m3 (i := 153) (by decide +kernel)) rfl
theorem wI_X11_undo : (.instanceMethod yX11_undo : Cond) ∈ sd_gd := sd_gd_in (sd_m3 (i := 154) (by decide +kernel)) rfl
theorem wS_X11_X11_undo : (.selects RX11 yX11_undo yX11_undo : Cond) ∈ sd_gd := sd_gd_in (sd_m3 (i := 155) (by decide +kernel)) rfl
theorem wC_X11_undo : (.code yX11_undo cX11_undo 1 (some .int) : Cond) ∈ sd_gd := sd_gd_in (sd_m3 (i := 156) (by decide +kernel)) rfl
theorem wM_X11_196 : (.methodLink RX11 196 yX6_bringBack : Cond) ∈ sd_gd := sd_gd_in (sd_m3 (i := 157) (by decide +kernel)) rfl
theorem wI_X6_bringBack : (.instanceMethod yX6_bringBack : Cond) ∈ sd_gd := sd_gd_in (sd_m3 (i := 158) (by decide +kernel)) rfl
theorem wS_X6_X6_bringBack : (.selects RX6 yX6_bringBack yX6_bringBack : Cond) ∈ sd_gd := sd_gd_in (sd_m3 (i := 159) (by decide +kernel)) rfl
theorem wC_X6_bringBack : (.code yX6_bringBack cX6_bringBack 2 none : Cond) ∈ sd_gd := sd_gd_in (sd_m3 (i := 160) (by decide +kernel)) rfl
theorem wM_L_77 : (.methodLink RL 77 yX11_seed : Cond) ∈ sd_gd := sd_gd_in (sd_m3 (i := 161) (by decide +kernel)) rfl
theorem wI_X11_seed : (.instanceMethod yX11_seed : Cond) ∈ sd_gd := sd_gd_in (sd_m3 (i := 162) (by decide +kernel)) rfl
theorem wS_X11_X11_seed : (.selects RX11 yX11_seed yX11_seed : Cond) ∈ sd_gd := sd_gd_in (sd_m3 (i := 163) (by decide +kernel)) rfl
theorem wC_X11_seed : (.code yX11_seed cX11_seed 3 (some .int) : Cond) ∈ sd_gd := sd_gd_in (sd_m3 (i := 164) (by decide +kernel)) rfl
theorem wM_L_81 : (.methodLink RL 81 yX11_ahead : Cond) ∈ sd_gd := sd_gd_in (sd_m3 (i := 165) (by decide +kernel)) rfl
theorem wI_X11_ahead : (.instanceMethod yX11_ahead : Cond) ∈ sd_gd := sd_gd_in (sd_m3 (i := 166) (by decide +kernel)) rfl
theorem wS_X11_X11_ahead : (.selects RX11 yX11_ahead yX11_ahead : Cond) ∈ sd_gd := sd_gd_in (sd_m3 (i := 167) (by decide +kernel)) rfl
theorem wC_X11_ahead : (.code yX11_ahead cX11_ahead 5 (some .int) : Cond) ∈ sd_gd := sd_gd_in (sd_m3 (i := 168) (by decide +kernel)) rfl
theorem wM_X11_199 : (.methodLink RX11 199 yX2_leftBehind : Cond) ∈ sd_gd := sd_gd_in (sd_m3 (i := 169) (by decide +kernel)) rfl
theorem wM_L_85 : (.methodLink RL 85 yX11_loudAhead : Cond) ∈ sd_gd := sd_gd_in (sd_m3 (i := 170) (by decide +kernel)) rfl
theorem wI_X11_loudAhead : (.instanceMethod yX11_loudAhead : Cond) ∈ sd_gd := sd_gd_in (sd_m3 (i := 171) (by decide +kernel)) rfl
theorem wS_X11_X11_loudAhead : (.selects RX11 yX11_loudAhead yX11_loudAhead : Cond) ∈ sd_gd := sd_gd_in (sd_m3 (i := 172) (by decide +kernel)) rfl
theorem wC_X11_loudAhead : (.code yX11_loudAhead cX11_loudAhead 3 (some .int) : Cond) ∈ sd_gd := sd_gd_in (sd_m3 (i := 173) (by decide +kernel)) rfl
theorem wM_X11_203 : (.methodLink RX11 203 yX5_look : Cond) ∈ sd_gd := sd_gd_in (sd_m3 (i := 174) (by decide +kernel)) rfl
theorem wI_X5_look : (.instanceMethod yX5_look : Cond) ∈ sd_gd := sd_gd_in (sd_m3 (i := 175) (by decide +kernel)) rfl
theorem wS_X5_X5_look : (.selects RX5 yX5_look yX5_look : Cond) ∈ sd_gd := sd_gd_in (sd_m3 (i := 176) (by decide +kernel)) rfl
theorem wC_X5_look : (.code yX5_look cX5_look 6 none : Cond) ∈ sd_gd := sd_gd_in (sd_m3 (i := 177) (by decide +kernel)) rfl
theorem wM_X5_21 : (.methodLink RX5 21 yJ9_min_7cf53 : Cond) ∈ sd_gd := sd_gd_in (sd_m3 (i := 178) (by decide +kernel)) rfl
theorem wM_X5_44 : (.methodLink RX5 44 ⟨"java/lang/System", "arraycopy", "(Ljava/lang/Object;ILjava/lang/Object;II)V"⟩ : Cond) ∈ sd_gd := sd_gd_in (sd_m3 (i := 179) (by decide +kernel)) rfl
theorem wM_X5_53 : (.methodLink RX5 53 yX2_loudWith : Cond) ∈ sd_gd := sd_gd_in (sd_m3 (i := 180) (by decide +kernel)) rfl
theorem wM_X5_63 : (.methodLink RX5 63 yX2_leftBehind : Cond) ∈ sd_gd := sd_gd_in (sd_m3 (i := 181) (by decide +kernel)) rfl
theorem wM_X11_207 : (.methodLink RX11 207 yX5_listen : Cond) ∈ sd_gd := sd_gd_in (sd_m3 (i := 182) (by decide +kernel)) rfl
theorem wI_X5_listen : (.instanceMethod yX5_listen : Cond) ∈ sd_gd := sd_gd_in (sd_m3 (i := 183) (by decide +kernel)) rfl
theorem wS_X5_X5_listen : (.selects RX5 yX5_listen yX5_listen : Cond) ∈ sd_gd := sd_gd_in (sd_m3 (i := 184) (by decide +kernel)) rfl
theorem wC_X5_listen : (.code yX5_listen cX5_listen 4 none : Cond) ∈ sd_gd := sd_gd_in (sd_m3 (i := 185) (by decide +kernel)) rfl
theorem wM_L_89 : (.methodLink RL 89 yX11_sleeps : Cond) ∈ sd_gd := sd_gd_in (sd_m3 (i := 187) (by decide +kernel)) rfl
theorem wI_X11_sleeps : (.instanceMethod yX11_sleeps : Cond) ∈ sd_gd := sd_gd_in (sd_m3 (i := 188) (by decide +kernel)) rfl
theorem wS_X11_X11_sleeps : (.selects RX11 yX11_sleeps yX11_sleeps : Cond) ∈ sd_gd := sd_gd_in (sd_m3 (i := 189) (by decide +kernel)) rfl
theorem wC_X11_sleeps : (.code yX11_sleeps cX11_sleeps 3 (some .int) : Cond) ∈ sd_gd := sd_gd_in (sd_m3 (i := 190) (by decide +kernel)) rfl
theorem wM_X11_210 : (.methodLink RX11 210 yX5_wakingsIn : Cond) ∈ sd_gd := sd_gd_in (sd_m3 (i := 191) (by decide +kernel)) rfl
theorem wI_X5_wakingsIn : (.instanceMethod yX5_wakingsIn : Cond) ∈ sd_gd := sd_gd_in (sd_m3 (i := 192) (by decide +kernel)) rfl
theorem wS_X5_X5_wakingsIn : (.selects RX5 yX5_wakingsIn yX5_wakingsIn : Cond) ∈ sd_gd := sd_gd_in (sd_m3 (i := 193) (by decide +kernel)) rfl
theorem wC_X5_wakingsIn : (.code yX5_wakingsIn cX5_wakingsIn 5 (some .int) : Cond) ∈ sd_gd := sd_gd_in (sd_m3 (i := 194) (by decide +kernel)) rfl
theorem wM_X5_71 : (.methodLink RX5 71 yX5_listen : Cond) ∈ sd_gd := sd_gd_in (sd_m3 (i := 195) (by decide +kernel)) rfl
theorem wM_L_93 : (.methodLink RL 93 yX11_peace : Cond) ∈ sd_gd := sd_gd_in (sd_m3 (i := 196) (by decide +kernel)) rfl
theorem wI_X11_peace : (.instanceMethod yX11_peace : Cond) ∈ sd_gd := sd_gd_in (sd_m3 (i := 197) (by decide +kernel)) rfl
theorem wS_X11_X11_peace : (.selects RX11 yX11_peace yX11_peace : Cond) ∈ sd_gd := sd_gd_in (sd_m3 (i := 198) (by decide +kernel)) rfl
theorem wC_X11_peace : (.code yX11_peace cX11_peace 2 (some .int) : Cond) ∈ sd_gd := sd_gd_in (sd_m3 (i := 199) (by decide +kernel)) rfl
theorem wM_X11_214 : (.methodLink RX11 214 yX5_wokenIn : Cond) ∈ sd_gd := sd_gd_in (sd_m3 (i := 200) (by decide +kernel)) rfl
theorem wI_X5_wokenIn : (.instanceMethod yX5_wokenIn : Cond) ∈ sd_gd := sd_gd_in (sd_m3 (i := 201) (by decide +kernel)) rfl
theorem wS_X5_X5_wokenIn : (.selects RX5 yX5_wokenIn yX5_wokenIn : Cond) ∈ sd_gd := sd_gd_in (sd_m3 (i := 202) (by decide +kernel)) rfl
theorem wC_X5_wokenIn : (.code yX5_wokenIn cX5_wokenIn 6 (some .int) : Cond) ∈ sd_gd := sd_gd_in (sd_m3 (i := 203) (by decide +kernel)) rfl
theorem wM_L_97 : (.methodLink RL 97 yX11_best : Cond) ∈ sd_gd := sd_gd_in (sd_m3 (i := 204) (by decide +kernel)) rfl
theorem wI_X11_best : (.instanceMethod yX11_best : Cond) ∈ sd_gd := sd_gd_in (sd_m3 (i := 205) (by decide +kernel)) rfl
theorem wS_X11_X11_best : (.selects RX11 yX11_best yX11_best : Cond) ∈ sd_gd := sd_gd_in (sd_m3 (i := 206) (by decide +kernel)) rfl
theorem wC_X11_best : (.code yX11_best cX11_best 8 (some .int) : Cond) ∈ sd_gd := sd_gd_in (sd_m3 (i := 207) (by decide +kernel)) rfl
theorem wM_X11_219 : (.methodLink RX11 219 yX5_wakings : Cond) ∈ sd_gd := sd_gd_in (sd_m3 (i := 208) (by decide +kernel)) rfl
theorem wI_X5_wakings : (.instanceMethod yX5_wakings : Cond) ∈ sd_gd := sd_gd_in (sd_m3 (i := 209) (by decide +kernel)) rfl
theorem wS_X5_X5_wakings : (.selects RX5 yX5_wakings yX5_wakings : Cond) ∈ sd_gd := sd_gd_in (sd_m3 (i := 210) (by decide +kernel)) rfl
theorem wC_X5_wakings : (.code yX5_wakings cX5_wakings 4 (some .int) : Cond) ∈ sd_gd := sd_gd_in (sd_m3 (i := 211) (by decide +kernel)) rfl
theorem wM_X5_84 : (.methodLink RX5 84 yX5_wokenIn : Cond) ∈ sd_gd := sd_gd_in (sd_m3 (i := 212) (by decide +kernel)) rfl
theorem wM_L_102 : (.methodLink RL 102 yX11_bestBed : Cond) ∈ sd_gd := sd_gd_in (sd_m3 (i := 213) (by decide +kernel)) rfl
theorem wI_X11_bestBed : (.instanceMethod yX11_bestBed : Cond) ∈ sd_gd := sd_gd_in (sd_m3 (i := 214) (by decide +kernel)) rfl
theorem wS_X11_X11_bestBed : (.selects RX11 yX11_bestBed yX11_bestBed : Cond) ∈ sd_gd := sd_gd_in (sd_m3 (i := 215) (by decide +kernel)) rfl
theorem wC_X11_bestBed : (.code yX11_bestBed cX11_bestBed 8 (some .int) : Cond) ∈ sd_gd := sd_gd_in (sd_m3 (i := 216) (by decide +kernel)) rfl
theorem wM_L_106 : (.methodLink RL 106 yX11_change : Cond) ∈ sd_gd := sd_gd_in (sd_m3 (i := 217) (by decide +kernel)) rfl
theorem wI_X11_change : (.instanceMethod yX11_change : Cond) ∈ sd_gd := sd_gd_in (sd_m3 (i := 218) (by decide +kernel)) rfl
theorem wS_X11_X11_change : (.selects RX11 yX11_change yX11_change : Cond) ∈ sd_gd := sd_gd_in (sd_m3 (i := 219) (by decide +kernel)) rfl
theorem wC_X11_change : (.code yX11_change cX11_change 8 (some .int) : Cond) ∈ sd_gd := sd_gd_in (sd_m3 (i := 220) (by decide +kernel)) rfl
theorem wM_X11_223 : (.methodLink RX11 223 yX5_swapRooms : Cond) ∈ sd_gd := sd_gd_in (sd_m3 (i := 221) (by decide +kernel)) rfl
theorem wI_X5_swapRooms : (.instanceMethod yX5_swapRooms : Cond) ∈ sd_gd := sd_gd_in (sd_m3 (i := 222) (by decide +kernel)) rfl
theorem wS_X5_X5_swapRooms : (.selects RX5 yX5_swapRooms yX5_swapRooms : Cond) ∈ sd_gd := sd_gd_in (sd_m3 (i := 223) (by decide +kernel)) rfl
theorem wC_X5_swapRooms : (.code yX5_swapRooms cX5_swapRooms 6 none : Cond) ∈ sd_gd := sd_gd_in (sd_m3 (i := 224) (by decide +kernel)) rfl
theorem wM_L_110 : (.methodLink RL 110 yX11_backs : Cond) ∈ sd_gd := sd_gd_in (sd_m3 (i := 225) (by decide +kernel)) rfl
theorem wI_X11_backs : (.instanceMethod yX11_backs : Cond) ∈ sd_gd := sd_gd_in (sd_m3 (i := 226) (by decide +kernel)) rfl
theorem wS_X11_X11_backs : (.selects RX11 yX11_backs yX11_backs : Cond) ∈ sd_gd := sd_gd_in (sd_m3 (i := 227) (by decide +kernel)) rfl
theorem wC_X11_backs : (.code yX11_backs cX11_backs 5 (some .int) : Cond) ∈ sd_gd := sd_gd_in (sd_m3 (i := 228) (by decide +kernel)) rfl
theorem wM_X11_227 : (.methodLink RX11 227 yJ6_bitCount_0f7a4 : Cond) ∈ sd_gd := sd_gd_in (sd_m3 (i := 229) (by decide +kernel)) rfl
theorem wT_J6_bitCount_0f7a4 : (.static yJ6_bitCount_0f7a4 : Cond) ∈ sd_gd := sd_gd_in (sd_m3 (i := 230) (by decide +kernel)) rfl
theorem wC_J6_bitCount_0f7a4 : (.code yJ6_bitCount_0f7a4 cJ6_bitCount_0f7a4 1 (some .int) : Cond) ∈ sd_gd := sd_gd_in (sd_m3 (i := 231) (by decide +kernel)) rfl
theorem wK_J6_265 : (.constant RJ6 265 (1431655765) : Cond) ∈ sd_gd := sd_gd_in (sd_m3 (i := 232) (by decide +kernel)) rfl
theorem wK_J6_266 : (.constant RJ6 266 (858993459) : Cond) ∈ sd_gd := sd_gd_in (sd_m3 (i := 233) (by decide +kernel)) rfl
theorem wK_J6_267 : (.constant RJ6 267 (252645135) : Cond) ∈ sd_gd := sd_gd_in (sd_m3 (i := 234) (by decide +kernel)) rfl
theorem wM_X11_232 : (.methodLink RX11 232 yX5_isQuietWithout : Cond) ∈ sd_gd := sd_gd_in (sd_m3 (i := 235) (by decide +kernel)) rfl
theorem wI_X5_isQuietWithout : (.instanceMethod yX5_isQuietWithout : Cond) ∈ sd_gd := sd_gd_in (sd_m3 (i := 236) (by decide +kernel)) rfl
theorem wS_X5_X5_isQuietWithout : (.selects RX5 yX5_isQuietWithout yX5_isQuietWithout : Cond) ∈ sd_gd := sd_gd_in (sd_m3 (i := 237) (by decide +kernel)) rfl
theorem wC_X5_isQuietWithout : (.code yX5_isQuietWithout cX5_isQuietWithout 4 (some .boolean) : Cond) ∈ sd_gd := sd_gd_in (sd_m3 (i := 238) (by decide +kernel)) rfl
theorem wM_L_114 : (.methodLink RL 114 yX11_luck : Cond) ∈ sd_gd := sd_gd_in (sd_m3 (i := 239) (by decide +kernel)) rfl
theorem wI_X11_luck : (.instanceMethod yX11_luck : Cond) ∈ sd_gd := sd_gd_in (sd_m4 (i := 0) (by decide +kernel)) rfl
theorem wS_X11_X11_luck : (.selects RX11 yX11_luck yX11_luck : Cond) ∈ sd_gd := sd_gd_in (sd_m4 (i := 1) (by decide +kernel)) rfl
theorem wC_X11_luck : (.code yX11_luck cX11_luck 9 (some .int) : Cond) ∈ sd_gd := sd_gd_in (sd_m4 (i := 2) (by decide +kernel)) rfl
theorem wM_X11_236 : (.methodLink RX11 236 yX11_isIn : Cond) ∈ sd_gd := sd_gd_in (sd_m4 (i := 3) (by decide +kernel)) rfl
theorem wM_X11_240 : (.methodLink RX11 240 yX2_loudOfSet : Cond) ∈ sd_gd := sd_gd_in (sd_m4 (i := 4) (by decide +kernel)) rfl
theorem wM_X11_243 : (.methodLink RX11 243 yX11_ways : Cond) ∈ sd_gd := sd_gd_in (sd_m4 (i := 5) (by decide +kernel)) rfl
theorem wI_X11_ways : (.instanceMethod yX11_ways : Cond) ∈ sd_gd := sd_gd_in (sd_m4 (i := 7) (by decide +kernel)) rfl
theorem wC_X11_ways : (.code yX11_ways cX11_ways 6 (some .int) : Cond) ∈ sd_gd := sd_gd_in (sd_m4 (i := 8) (by decide +kernel)) rfl
theorem wM_X11_246 : (.methodLink RX11 246 yX11_greatestCommon : Cond) ∈ sd_gd := sd_gd_in (sd_m4 (i := 9) (by decide +kernel)) rfl
theorem wT_X11_greatestCommon : (.static yX11_greatestCommon : Cond) ∈ sd_gd := sd_gd_in (sd_m4 (i := 10) (by decide +kernel)) rfl
theorem wC_X11_greatestCommon : (.code yX11_greatestCommon cX11_greatestCommon 6 (some .int) : Cond) ∈ sd_gd := sd_gd_in (sd_m4 (i := 11) (by decide +kernel)) rfl
theorem wM_L_118 : (.methodLink RL 118 yX11_thanked : Cond) ∈ sd_gd := sd_gd_in (sd_m4 (i := 12) (by decide +kernel)) rfl
theorem wI_X11_thanked : (.instanceMethod yX11_thanked : Cond) ∈ sd_gd := sd_gd_in (sd_m4 (i := 13) (by decide +kernel)) rfl
theorem wS_X11_X11_thanked : (.selects RX11 yX11_thanked yX11_thanked : Cond) ∈ sd_gd := sd_gd_in (sd_m4 (i := 14) (by decide +kernel)) rfl
theorem wC_X11_thanked : (.code yX11_thanked cX11_thanked 2 (some .int) : Cond) ∈ sd_gd := sd_gd_in (sd_m4 (i := 15) (by decide +kernel)) rfl
theorem wM_X11_249 : (.methodLink RX11 249 yX2_thingsOf : Cond) ∈ sd_gd := sd_gd_in (sd_m4 (i := 16) (by decide +kernel)) rfl
theorem wI_X2_thingsOf : (.instanceMethod yX2_thingsOf : Cond) ∈ sd_gd := sd_gd_in (sd_m4 (i := 17) (by decide +kernel)) rfl
theorem wS_X2_X2_thingsOf : (.selects RX2 yX2_thingsOf yX2_thingsOf : Cond) ∈ sd_gd := sd_gd_in (sd_m4 (i := 18) (by decide +kernel)) rfl
theorem wC_X2_thingsOf : (.code yX2_thingsOf cX2_thingsOf 2 (some .int) : Cond) ∈ sd_gd := sd_gd_in (sd_m4 (i := 19) (by decide +kernel)) rfl
theorem wM_L_122 : (.methodLink RL 122 yX11_image : Cond) ∈ sd_gd := sd_gd_in (sd_m4 (i := 20) (by decide +kernel)) rfl
theorem wI_X11_image : (.instanceMethod yX11_image : Cond) ∈ sd_gd := sd_gd_in (sd_m4 (i := 21) (by decide +kernel)) rfl
theorem wS_X11_X11_image : (.selects RX11 yX11_image yX11_image : Cond) ∈ sd_gd := sd_gd_in (sd_m4 (i := 22) (by decide +kernel)) rfl
theorem wC_X11_image : (.code yX11_image cX11_image 1 (some .int) : Cond) ∈ sd_gd := sd_gd_in (sd_m4 (i := 23) (by decide +kernel)) rfl
theorem wM_X11_252 : (.methodLink RX11 252 yX6_takeAll : Cond) ∈ sd_gd := sd_gd_in (sd_m4 (i := 24) (by decide +kernel)) rfl
theorem wI_X6_takeAll : (.instanceMethod yX6_takeAll : Cond) ∈ sd_gd := sd_gd_in (sd_m4 (i := 25) (by decide +kernel)) rfl
theorem wS_X6_X6_takeAll : (.selects RX6 yX6_takeAll yX6_takeAll : Cond) ∈ sd_gd := sd_gd_in (sd_m4 (i := 26) (by decide +kernel)) rfl
theorem wC_X6_takeAll : (.code yX6_takeAll cX6_takeAll 3 none : Cond) ∈ sd_gd := sd_gd_in (sd_m4 (i := 27) (by decide +kernel)) rfl
theorem wM_L_126 : (.methodLink RL 126 yX11_restore : Cond) ∈ sd_gd := sd_gd_in (sd_m4 (i := 28) (by decide +kernel)) rfl
theorem wI_X11_restore : (.instanceMethod yX11_restore : Cond) ∈ sd_gd := sd_gd_in (sd_m4 (i := 29) (by decide +kernel)) rfl
theorem wS_X11_X11_restore : (.selects RX11 yX11_restore yX11_restore : Cond) ∈ sd_gd := sd_gd_in (sd_m4 (i := 30) (by decide +kernel)) rfl
theorem wC_X11_restore : (.code yX11_restore cX11_restore 1 (some .int) : Cond) ∈ sd_gd := sd_gd_in (sd_m4 (i := 31) (by decide +kernel)) rfl
theorem wM_L_130 : (.methodLink RL 130 yX11_heard : Cond) ∈ sd_gd := sd_gd_in (sd_m4 (i := 32) (by decide +kernel)) rfl
theorem wI_X11_heard : (.instanceMethod yX11_heard : Cond) ∈ sd_gd := sd_gd_in (sd_m4 (i := 33) (by decide +kernel)) rfl
theorem wS_X11_X11_heard : (.selects RX11 yX11_heard yX11_heard : Cond) ∈ sd_gd := sd_gd_in (sd_m4 (i := 34) (by decide +kernel)) rfl
theorem wC_X11_heard : (.code yX11_heard cX11_heard 8 (some .int) : Cond) ∈ sd_gd := sd_gd_in (sd_m4 (i := 35) (by decide +kernel)) rfl
theorem wM_X11_259 : (.methodLink RX11 259 yX11_isSheet : Cond) ∈ sd_gd := sd_gd_in (sd_m4 (i := 36) (by decide +kernel)) rfl
theorem wT_X11_isSheet : (.static yX11_isSheet : Cond) ∈ sd_gd := sd_gd_in (sd_m4 (i := 37) (by decide +kernel)) rfl
theorem wC_X11_isSheet : (.code yX11_isSheet cX11_isSheet 1 (some .boolean) : Cond) ∈ sd_gd := sd_gd_in (sd_m4 (i := 38) (by decide +kernel)) rfl
theorem wM_X11_262 : (.methodLink RX11 262 yX11_isLane : Cond) ∈ sd_gd := sd_gd_in (sd_m4 (i := 39) (by decide +kernel)) rfl
theorem wT_X11_isLane : (.static yX11_isLane : Cond) ∈ sd_gd := sd_gd_in (sd_m4 (i := 40) (by decide +kernel)) rfl
theorem wC_X11_isLane : (.code yX11_isLane cX11_isLane 1 (some .boolean) : Cond) ∈ sd_gd := sd_gd_in (sd_m4 (i := 41) (by decide +kernel)) rfl
theorem wM_X11_265 : (.methodLink RX11 265 yX9_refusal : Cond) ∈ sd_gd := sd_gd_in (sd_m4 (i := 42) (by decide +kernel)) rfl
theorem wI_X9_refusal : (.instanceMethod yX9_refusal : Cond) ∈ sd_gd := sd_gd_in (sd_m4 (i := 43) (by decide +kernel)) rfl
theorem wS_X9_X9_refusal : (.selects RX9 yX9_refusal yX9_refusal : Cond) ∈ sd_gd := sd_gd_in (sd_m4 (i := 44) (by decide +kernel)) rfl
theorem wC_X9_refusal : (.code yX9_refusal cX9_refusal 4 (some .int) : Cond) ∈ sd_gd := sd_gd_in (sd_m4 (i := 45) (by decide +kernel)) rfl
theorem wM_X9_26 : (.methodLink RX9 26 yX9_spans : Cond) ∈ sd_gd := sd_gd_in (sd_m4 (i := 46) (by decide +kernel)) rfl
theorem wI_X9_spans : (.instanceMethod yX9_spans : Cond) ∈ sd_gd := sd_gd_in (sd_m4 (i := 47) (by decide +kernel)) rfl
theorem wS_X9_X9_spans : (.selects RX9 yX9_spans yX9_spans : Cond) ∈ sd_gd := sd_gd_in (sd_m4 (i := 48) (by decide +kernel)) rfl
theorem wC_X9_spans : (.code yX9_spans cX9_spans 3 (some .boolean) : Cond) ∈ sd_gd := sd_gd_in (sd_m4 (i := 49) (by decide +kernel)) rfl
theorem wM_X11_268 : (.methodLink RX11 268 yX11_kindsHeard : Cond) ∈ sd_gd := sd_gd_in (sd_m4 (i := 50) (by decide +kernel)) rfl
theorem wI_X11_kindsHeard : (.instanceMethod yX11_kindsHeard : Cond) ∈ sd_gd := sd_gd_in (sd_m4 (i := 52) (by decide +kernel)) rfl
theorem wC_X11_kindsHeard : (.code yX11_kindsHeard cX11_kindsHeard 7 (some .int) : Cond) ∈ sd_gd := sd_gd_in (sd_m4 (i := 53) (by decide +kernel)) rfl
theorem wM_X11_308 : (.methodLink RX11 308 yX11_isHeardAs : Cond) ∈ sd_gd := sd_gd_in (sd_m4 (i := 54) (by decide +kernel)) rfl
theorem wI_X11_isHeardAs : (.instanceMethod yX11_isHeardAs : Cond) ∈ sd_gd := sd_gd_in (sd_m4 (i := 56) (by decide +kernel)) rfl
theorem wC_X11_isHeardAs : (.code yX11_isHeardAs cX11_isHeardAs 9 (some .boolean) : Cond) ∈ sd_gd := sd_gd_in (sd_m4 (i := 57) (by decide +kernel)) rfl
theorem wM_X11_272 : (.methodLink RX11 272 yX11_dearsHeard : Cond) ∈ sd_gd := sd_gd_in (sd_m4 (i := 58) (by decide +kernel)) rfl
theorem wI_X11_dearsHeard : (.instanceMethod yX11_dearsHeard : Cond) ∈ sd_gd := sd_gd_in (sd_m4 (i := 60) (by decide +kernel)) rfl
theorem wC_X11_dearsHeard : (.code yX11_dearsHeard cX11_dearsHeard 7 (some .int) : Cond) ∈ sd_gd := sd_gd_in (sd_m4 (i := 61) (by decide +kernel)) rfl
theorem wM_L_135 : (.methodLink RL 135 yX11_film : Cond) ∈ sd_gd := sd_gd_in (sd_m4 (i := 62) (by decide +kernel)) rfl
theorem wI_X11_film : (.instanceMethod yX11_film : Cond) ∈ sd_gd := sd_gd_in (sd_m4 (i := 63) (by decide +kernel)) rfl
theorem wS_X11_X11_film : (.selects RX11 yX11_film yX11_film : Cond) ∈ sd_gd := sd_gd_in (sd_m4 (i := 64) (by decide +kernel)) rfl
theorem wC_X11_film : (.code yX11_film cX11_film 9 (some .int) : Cond) ∈ sd_gd := sd_gd_in (sd_m4 (i := 65) (by decide +kernel)) rfl
theorem wM_X11_275 : (.methodLink RX11 275 yX9_put : Cond) ∈ sd_gd := sd_gd_in (sd_m4 (i := 66) (by decide +kernel)) rfl
theorem wI_X9_put : (.instanceMethod yX9_put : Cond) ∈ sd_gd := sd_gd_in (sd_m4 (i := 67) (by decide +kernel)) rfl
theorem wS_X9_X9_put : (.selects RX9 yX9_put yX9_put : Cond) ∈ sd_gd := sd_gd_in (sd_m4 (i := 68) (by decide +kernel)) rfl
theorem wC_X9_put : (.code yX9_put cX9_put 4 none : Cond) ∈ sd_gd := sd_gd_in (sd_m4 (i := 69) (by decide +kernel)) rfl
theorem wM_L_140 : (.methodLink RL 140 yX11_sheet : Cond) ∈ sd_gd := sd_gd_in (sd_m4 (i := 70) (by decide +kernel)) rfl
theorem wI_X11_sheet : (.instanceMethod yX11_sheet : Cond) ∈ sd_gd := sd_gd_in (sd_m4 (i := 71) (by decide +kernel)) rfl
theorem wS_X11_X11_sheet : (.selects RX11 yX11_sheet yX11_sheet : Cond) ∈ sd_gd := sd_gd_in (sd_m4 (i := 72) (by decide +kernel)) rfl
theorem wC_X11_sheet : (.code yX11_sheet cX11_sheet 4 (some .int) : Cond) ∈ sd_gd := sd_gd_in (sd_m4 (i := 73) (by decide +kernel)) rfl
theorem wM_X11_279 : (.methodLink RX11 279 yX9_renew : Cond) ∈ sd_gd := sd_gd_in (sd_m4 (i := 74) (by decide +kernel)) rfl
theorem wI_X9_renew : (.instanceMethod yX9_renew : Cond) ∈ sd_gd := sd_gd_in (sd_m4 (i := 75) (by decide +kernel)) rfl
theorem wS_X9_X9_renew : (.selects RX9 yX9_renew yX9_renew : Cond) ∈ sd_gd := sd_gd_in (sd_m4 (i := 76) (by decide +kernel)) rfl
theorem wC_X9_renew : (.code yX9_renew cX9_renew 4 none : Cond) ∈ sd_gd := sd_gd_in (sd_m4 (i := 77) (by decide +kernel)) rfl
theorem wM_L_144 : (.methodLink RL 144 yX11_drop : Cond) ∈ sd_gd := sd_gd_in (sd_m4 (i := 78) (by decide +kernel)) rfl
theorem wI_X11_drop : (.instanceMethod yX11_drop : Cond) ∈ sd_gd := sd_gd_in (sd_m4 (i := 79) (by decide +kernel)) rfl
theorem wS_X11_X11_drop : (.selects RX11 yX11_drop yX11_drop : Cond) ∈ sd_gd := sd_gd_in (sd_m4 (i := 80) (by decide +kernel)) rfl
theorem wC_X11_drop : (.code yX11_drop cX11_drop 2 (some .int) : Cond) ∈ sd_gd := sd_gd_in (sd_m4 (i := 81) (by decide +kernel)) rfl
theorem wM_L_150 : (.methodLink RL 150 yX11_item : Cond) ∈ sd_gd := sd_gd_in (sd_m4 (i := 82) (by decide +kernel)) rfl
theorem wI_X11_item : (.instanceMethod yX11_item : Cond) ∈ sd_gd := sd_gd_in (sd_m4 (i := 83) (by decide +kernel)) rfl
theorem wS_X11_X11_item : (.selects RX11 yX11_item yX11_item : Cond) ∈ sd_gd := sd_gd_in (sd_m4 (i := 84) (by decide +kernel)) rfl
theorem wC_X11_item : (.code yX11_item cX11_item 7 (some .int) : Cond) ∈ sd_gd := sd_gd_in (sd_m4 (i := 85) (by decide +kernel)) rfl
theorem wM_L_155 : (.methodLink RL 155 yX11_copy : Cond) ∈ sd_gd := sd_gd_in (sd_m4 (i := 86) (by decide +kernel)) rfl
theorem wI_X11_copy : (.instanceMethod yX11_copy : Cond) ∈ sd_gd := sd_gd_in (sd_m4 (i := 87) (by decide +kernel)) rfl
theorem wS_X11_X11_copy : (.selects RX11 yX11_copy yX11_copy : Cond) ∈ sd_gd := sd_gd_in (sd_m4 (i := 88) (by decide +kernel)) rfl
theorem wC_X11_copy : (.code yX11_copy cX11_copy 8 (some .int) : Cond) ∈ sd_gd := sd_gd_in (sd_m4 (i := 89) (by decide +kernel)) rfl
theorem wM_X11_289 : (.methodLink RX11 289 yX9_spans : Cond) ∈ sd_gd := sd_gd_in (sd_m4 (i := 90) (by decide +kernel)) rfl
theorem wM_X11_296 : (.methodLink RX11 296 ⟨"java/lang/System", "arraycopy", "(Ljava/lang/Object;ILjava/lang/Object;II)V"⟩ : Cond) ∈ sd_gd := sd_gd_in (sd_m4 (i := 91) (by decide +kernel)) rfl
theorem wL_L_10 : (.classLink RL 10 RX12 : Cond) ∈ sd_gd := sd_gd_in (sd_m4 (i := 92) (by decide +kernel)) rfl
theorem wB_X12 : (.instantiable RX12 12 : Cond) ∈ sd_gd := sd_gd_in (sd_m4 (i := 93) (by decide +kernel)) rfl
theorem wM_L_12 : (.methodLink RL 12 yX12_init : Cond) ∈ sd_gd := sd_gd_in (sd_m4 (i := 94) (by decide +kernel)) rfl
theorem wI_X12_init : (.instanceMethod yX12_init : Cond) ∈ sd_gd := sd_gd_in (sd_m4 (i := 95) (by decide +kernel)) rfl
theorem wC_X12_init : (.code yX12_init cX12_init 2 none : Cond) ∈ sd_gd := sd_gd_in (sd_m4 (i := 96) (by decide +kernel)) rfl
theorem wM_X12_1 : (.methodLink RX12 1 Lib.objectInit : Cond) ∈ sd_gd := sd_gd_in (sd_m4 (i := 97) (by decide +kernel)) rfl
theorem wF_X12_7 : (.fieldLink RX12 7 "ThankingGiftsModel" "lane" "[I" : Cond) ∈ sd_gd := sd_gd_in (sd_m4 (i := 98) (by decide +kernel)) rfl
theorem wF_X12_13 : (.fieldLink RX12 13 "ThankingGiftsModel" "size" "[I" : Cond) ∈ sd_gd := sd_gd_in (sd_m4 (i := 99) (by decide +kernel)) rfl
theorem wF_X12_16 : (.fieldLink RX12 16 "ThankingGiftsModel" "item" "[J" : Cond) ∈ sd_gd := sd_gd_in (sd_m4 (i := 100) (by decide +kernel)) rfl
theorem wF_X12_76 : (.fieldLink RX12 76 "ThankingGiftsModel" "letters" "I" : Cond) ∈ sd_gd := sd_gd_in (sd_m4 (i := 101) (by decide +kernel)) rfl
theorem wF_X12_20 : (.fieldLink RX12 20 "ThankingGiftsModel" "tape" "[I" : Cond) ∈ sd_gd := sd_gd_in (sd_m4 (i := 102) (by decide +kernel)) rfl
theorem wF_X12_80 : (.fieldLink RX12 80 "ThankingGiftsModel" "position" "I" : Cond) ∈ sd_gd := sd_gd_in (sd_m4 (i := 103) (by decide +kernel)) rfl
theorem wF_X12_87 : (.fieldLink RX12 87 "ThankingGiftsModel" "number" "I" : Cond) ∈ sd_gd := sd_gd_in (sd_m4 (i := 104) (by decide +kernel)) rfl
theorem wF_X12_23 : (.fieldLink RX12 23 "ThankingGiftsModel" "now" "[I" : Cond) ∈ sd_gd := sd_gd_in (sd_m4 (i := 105) (by decide +kernel)) rfl
theorem wF_X12_26 : (.fieldLink RX12 26 "ThankingGiftsModel" "tried" "[I" : Cond) ∈ sd_gd := sd_gd_in (sd_m4 (i := 106) (by decide +kernel)) rfl
theorem wF_X12_29 : (.fieldLink RX12 29 "ThankingGiftsModel" "read" "[I" : Cond) ∈ sd_gd := sd_gd_in (sd_m4 (i := 107) (by decide +kernel)) rfl
theorem wF_X12_32 : (.fieldLink RX12 32 "ThankingGiftsModel" "kept" "[I" : Cond) ∈ sd_gd := sd_gd_in (sd_m4 (i := 108) (by decide +kernel)) rfl
theorem wF_X12_154 : (.fieldLink RX12 154 "ThankingGiftsModel" "isKept" "Z" : Cond) ∈ sd_gd := sd_gd_in (sd_m4 (i := 109) (by decide +kernel)) rfl
theorem wM_L_17 : (.methodLink RL 17 yX12_sleeper : Cond) ∈ sd_gd := sd_gd_in (sd_m4 (i := 135) (by decide +kernel)) rfl
theorem wI_X12_sleeper : (.instanceMethod yX12_sleeper : Cond) ∈ sd_gd := sd_gd_in (sd_m4 (i := 136) (by decide +kernel)) rfl
theorem wS_X12_X12_sleeper : (.selects RX12 yX12_sleeper yX12_sleeper : Cond) ∈ sd_gd := sd_gd_in (sd_m4 (i := 137) (by decide +kernel)) rfl
theorem wC_X12_sleeper : (.code yX12_sleeper cX12_sleeper 3 (some .int) : Cond) ∈ sd_gd := sd_gd_in (sd_m4 (i := 138) (by decide +kernel)) rfl
theorem wM_X12_43 : (.methodLink RX12 43 yX12_isRoom : Cond) ∈ sd_gd := sd_gd_in (sd_m4 (i := 139) (by decide +kernel)) rfl
theorem wT_X12_isRoom : (.static yX12_isRoom : Cond) ∈ sd_gd := sd_gd_in (sd_m4 (i := 140) (by decide +kernel)) rfl
theorem wC_X12_isRoom : (.code yX12_isRoom cX12_isRoom 1 (some .boolean) : Cond) ∈ sd_gd := sd_gd_in (sd_m4 (i := 141) (by decide +kernel)) rfl
theorem wM_X12_35 : (.methodLink RX12 35 yX12_in : Cond) ∈ sd_gd := sd_gd_in (sd_m4 (i := 142) (by decide +kernel)) rfl
theorem wT_X12_in : (.static yX12_in : Cond) ∈ sd_gd := sd_gd_in (sd_m4 (i := 143) (by decide +kernel)) rfl
theorem wC_X12_in : (.code yX12_in cX12_in 3 (some .boolean) : Cond) ∈ sd_gd := sd_gd_in (sd_m4 (i := 144) (by decide +kernel)) rfl
theorem wM_X12_47 : (.methodLink RX12 47 yX12_addSleeper : Cond) ∈ sd_gd := sd_gd_in (sd_m4 (i := 145) (by decide +kernel)) rfl
theorem wT_X12_addSleeper : (.static yX12_addSleeper : Cond) ∈ sd_gd := sd_gd_in (sd_m4 (i := 146) (by decide +kernel)) rfl
theorem wC_X12_addSleeper : (.code yX12_addSleeper cX12_addSleeper 4 (some .int) : Cond) ∈ sd_gd := sd_gd_in (sd_m4 (i := 147) (by decide +kernel)) rfl
theorem wM_L_22 : (.methodLink RL 22 yX12_thing : Cond) ∈ sd_gd := sd_gd_in (sd_m4 (i := 148) (by decide +kernel)) rfl
theorem wI_X12_thing : (.instanceMethod yX12_thing : Cond) ∈ sd_gd := sd_gd_in (sd_m4 (i := 149) (by decide +kernel)) rfl
theorem wS_X12_X12_thing : (.selects RX12 yX12_thing yX12_thing : Cond) ∈ sd_gd := sd_gd_in (sd_m4 (i := 150) (by decide +kernel)) rfl
theorem wC_X12_thing : (.code yX12_thing cX12_thing 5 (some .int) : Cond) ∈ sd_gd := sd_gd_in (sd_m4 (i := 151) (by decide +kernel)) rfl
theorem wM_X12_51 : (.methodLink RX12 51 yX12_addThing : Cond) ∈ sd_gd := sd_gd_in (sd_m4 (i := 152) (by decide +kernel)) rfl
theorem wT_X12_addThing : (.static yX12_addThing : Cond) ∈ sd_gd := sd_gd_in (sd_m4 (i := 153) (by decide +kernel)) rfl
theorem wC_X12_addThing : (.code yX12_addThing cX12_addThing 6 (some .int) : Cond) ∈ sd_gd := sd_gd_in (sd_m4 (i := 154) (by decide +kernel)) rfl
theorem wM_X12_39 : (.methodLink RX12 39 yX12_firstLeft : Cond) ∈ sd_gd := sd_gd_in (sd_m4 (i := 155) (by decide +kernel)) rfl
theorem wT_X12_firstLeft : (.static yX12_firstLeft : Cond) ∈ sd_gd := sd_gd_in (sd_m4 (i := 156) (by decide +kernel)) rfl
theorem wC_X12_firstLeft : (.code yX12_firstLeft cX12_firstLeft 1 (some .int) : Cond) ∈ sd_gd := sd_gd_in (sd_m4 (i := 157) (by decide +kernel)) rfl
theorem wM_L_26 : (.methodLink RL 26 yX12_of : Cond) ∈ sd_gd := sd_gd_in (sd_m4 (i := 158) (by decide +kernel)) rfl
theorem wI_X12_of : (.instanceMethod yX12_of : Cond) ∈ sd_gd := sd_gd_in (sd_m4 (i := 159) (by decide +kernel)) rfl
theorem wS_X12_X12_of : (.selects RX12 yX12_of yX12_of : Cond) ∈ sd_gd := sd_gd_in (sd_m4 (i := 160) (by decide +kernel)) rfl
theorem wC_X12_of : (.code yX12_of cX12_of 3 (some .int) : Cond) ∈ sd_gd := sd_gd_in (sd_m4 (i := 161) (by decide +kernel)) rfl
theorem wM_X12_66 : (.methodLink RX12 66 yX12_isSleeper : Cond) ∈ sd_gd := sd_gd_in (sd_m4 (i := 162) (by decide +kernel)) rfl
theorem wI_X12_isSleeper : (.instanceMethod yX12_isSleeper : Cond) ∈ sd_gd := sd_gd_in (sd_m4 (i := 164) (by decide +kernel)) rfl
theorem wC_X12_isSleeper : (.code yX12_isSleeper cX12_isSleeper 2 (some .boolean) : Cond) ∈ sd_gd := sd_gd_in (sd_m4 (i := 165) (by decide +kernel)) rfl
theorem wM_X12_69 : (.methodLink RX12 69 yX12_isAsleep : Cond) ∈ sd_gd := sd_gd_in (sd_m4 (i := 166) (by decide +kernel)) rfl
theorem wT_X12_isAsleep : (.static yX12_isAsleep : Cond) ∈ sd_gd := sd_gd_in (sd_m4 (i := 167) (by decide +kernel)) rfl
theorem wC_X12_isAsleep : (.code yX12_isAsleep cX12_isAsleep 2 (some .boolean) : Cond) ∈ sd_gd := sd_gd_in (sd_m4 (i := 168) (by decide +kernel)) rfl
theorem wM_X12_63 : (.methodLink RX12 63 yX12_loudIn : Cond) ∈ sd_gd := sd_gd_in (sd_m4 (i := 169) (by decide +kernel)) rfl
theorem wT_X12_loudIn : (.static yX12_loudIn : Cond) ∈ sd_gd := sd_gd_in (sd_m4 (i := 170) (by decide +kernel)) rfl
theorem wC_X12_loudIn : (.code yX12_loudIn cX12_loudIn 4 (some .int) : Cond) ∈ sd_gd := sd_gd_in (sd_m4 (i := 171) (by decide +kernel)) rfl
theorem wM_X12_59 : (.methodLink RX12 59 yX12_loudOf : Cond) ∈ sd_gd := sd_gd_in (sd_m4 (i := 172) (by decide +kernel)) rfl
theorem wT_X12_loudOf : (.static yX12_loudOf : Cond) ∈ sd_gd := sd_gd_in (sd_m4 (i := 173) (by decide +kernel)) rfl
theorem wC_X12_loudOf : (.code yX12_loudOf cX12_loudOf 2 (some .int) : Cond) ∈ sd_gd := sd_gd_in (sd_m4 (i := 174) (by decide +kernel)) rfl
theorem wM_X12_55 : (.methodLink RX12 55 yX12_loudBy : Cond) ∈ sd_gd := sd_gd_in (sd_m4 (i := 175) (by decide +kernel)) rfl
theorem wT_X12_loudBy : (.static yX12_loudBy : Cond) ∈ sd_gd := sd_gd_in (sd_m4 (i := 176) (by decide +kernel)) rfl
theorem wC_X12_loudBy : (.code yX12_loudBy cX12_loudBy 4 (some .int) : Cond) ∈ sd_gd := sd_gd_in (sd_m4 (i := 177) (by decide +kernel)) rfl
theorem wM_L_30 : (.methodLink RL 30 yX12_gift : Cond) ∈ sd_gd := sd_gd_in (sd_m4 (i := 178) (by decide +kernel)) rfl
theorem wI_X12_gift : (.instanceMethod yX12_gift : Cond) ∈ sd_gd := sd_gd_in (sd_m4 (i := 179) (by decide +kernel)) rfl
theorem wS_X12_X12_gift : (.selects RX12 yX12_gift yX12_gift : Cond) ∈ sd_gd := sd_gd_in (sd_m4 (i := 180) (by decide +kernel)) rfl
theorem wC_X12_gift : (.code yX12_gift cX12_gift 3 (some .int) : Cond) ∈ sd_gd := sd_gd_in (sd_m4 (i := 181) (by decide +kernel)) rfl
theorem wM_X12_73 : (.methodLink RX12 73 yX12_isThing : Cond) ∈ sd_gd := sd_gd_in (sd_m4 (i := 182) (by decide +kernel)) rfl
theorem wI_X12_isThing : (.instanceMethod yX12_isThing : Cond) ∈ sd_gd := sd_gd_in (sd_m4 (i := 184) (by decide +kernel)) rfl
theorem wC_X12_isThing : (.code yX12_isThing cX12_isThing 2 (some .boolean) : Cond) ∈ sd_gd := sd_gd_in (sd_m4 (i := 185) (by decide +kernel)) rfl
theorem wM_L_34 : (.methodLink RL 34 yX12_room : Cond) ∈ sd_gd := sd_gd_in (sd_m4 (i := 186) (by decide +kernel)) rfl
theorem wI_X12_room : (.instanceMethod yX12_room : Cond) ∈ sd_gd := sd_gd_in (sd_m4 (i := 187) (by decide +kernel)) rfl
theorem wS_X12_X12_room : (.selects RX12 yX12_room yX12_room : Cond) ∈ sd_gd := sd_gd_in (sd_m4 (i := 188) (by decide +kernel)) rfl
theorem wC_X12_room : (.code yX12_room cX12_room 6 (some .int) : Cond) ∈ sd_gd := sd_gd_in (sd_m4 (i := 189) (by decide +kernel)) rfl
theorem wM_L_38 : (.methodLink RL 38 yX12_bed : Cond) ∈ sd_gd := sd_gd_in (sd_m4 (i := 190) (by decide +kernel)) rfl
theorem wI_X12_bed : (.instanceMethod yX12_bed : Cond) ∈ sd_gd := sd_gd_in (sd_m4 (i := 191) (by decide +kernel)) rfl
theorem wS_X12_X12_bed : (.selects RX12 yX12_bed yX12_bed : Cond) ∈ sd_gd := sd_gd_in (sd_m4 (i := 192) (by decide +kernel)) rfl
theorem wC_X12_bed : (.code yX12_bed cX12_bed 4 (some .int) : Cond) ∈ sd_gd := sd_gd_in (sd_m4 (i := 193) (by decide +kernel)) rfl
theorem wM_L_43 : (.methodLink RL 43 yX12_type : Cond) ∈ sd_gd := sd_gd_in (sd_m4 (i := 194) (by decide +kernel)) rfl
theorem wI_X12_type : (.instanceMethod yX12_type : Cond) ∈ sd_gd := sd_gd_in (sd_m4 (i := 195) (by decide +kernel)) rfl
theorem wS_X12_X12_type : (.selects RX12 yX12_type yX12_type : Cond) ∈ sd_gd := sd_gd_in (sd_m4 (i := 196) (by decide +kernel)) rfl
theorem wC_X12_type : (.code yX12_type cX12_type 2 (some .int) : Cond) ∈ sd_gd := sd_gd_in (sd_m4 (i := 197) (by decide +kernel)) rfl
theorem wM_L_48 : (.methodLink RL 48 yX12_house : Cond) ∈ sd_gd := sd_gd_in (sd_m4 (i := 198) (by decide +kernel)) rfl
theorem wI_X12_house : (.instanceMethod yX12_house : Cond) ∈ sd_gd := sd_gd_in (sd_m4 (i := 199) (by decide +kernel)) rfl
theorem wS_X12_X12_house : (.selects RX12 yX12_house yX12_house : Cond) ∈ sd_gd := sd_gd_in (sd_m4 (i := 200) (by decide +kernel)) rfl
theorem wC_X12_house : (.code yX12_house cX12_house 2 (some .int) : Cond) ∈ sd_gd := sd_gd_in (sd_m4 (i := 201) (by decide +kernel)) rfl
theorem wM_X12_110 : (.methodLink RX12 110 yX12_isHouse : Cond) ∈ sd_gd := sd_gd_in (sd_m4 (i := 202) (by decide +kernel)) rfl
theorem wI_X12_isHouse : (.instanceMethod yX12_isHouse : Cond) ∈ sd_gd := sd_gd_in (sd_m4 (i := 204) (by decide +kernel)) rfl
theorem wC_X12_isHouse : (.code yX12_isHouse cX12_isHouse 2 (some .boolean) : Cond) ∈ sd_gd := sd_gd_in (sd_m4 (i := 205) (by decide +kernel)) rfl
theorem wM_X12_104 : (.methodLink RX12 104 yX12_isSleeperItem : Cond) ∈ sd_gd := sd_gd_in (sd_m4 (i := 206) (by decide +kernel)) rfl
theorem wI_X12_isSleeperItem : (.instanceMethod yX12_isSleeperItem : Cond) ∈ sd_gd := sd_gd_in (sd_m4 (i := 208) (by decide +kernel)) rfl
theorem wC_X12_isSleeperItem : (.code yX12_isSleeperItem cX12_isSleeperItem 2 (some .boolean) : Cond) ∈ sd_gd := sd_gd_in (sd_m4 (i := 209) (by decide +kernel)) rfl
theorem wM_X12_90 : (.methodLink RX12 90 yX12_isDigit : Cond) ∈ sd_gd := sd_gd_in (sd_m4 (i := 210) (by decide +kernel)) rfl
theorem wI_X12_isDigit : (.instanceMethod yX12_isDigit : Cond) ∈ sd_gd := sd_gd_in (sd_m4 (i := 212) (by decide +kernel)) rfl
theorem wC_X12_isDigit : (.code yX12_isDigit cX12_isDigit 3 (some .boolean) : Cond) ∈ sd_gd := sd_gd_in (sd_m4 (i := 213) (by decide +kernel)) rfl
theorem wM_X12_83 : (.methodLink RX12 83 yX12_peek : Cond) ∈ sd_gd := sd_gd_in (sd_m4 (i := 214) (by decide +kernel)) rfl
theorem wI_X12_peek : (.instanceMethod yX12_peek : Cond) ∈ sd_gd := sd_gd_in (sd_m4 (i := 216) (by decide +kernel)) rfl
theorem wC_X12_peek : (.code yX12_peek cX12_peek 1 (some .int) : Cond) ∈ sd_gd := sd_gd_in (sd_m4 (i := 217) (by decide +kernel)) rfl
theorem wM_X12_94 : (.methodLink RX12 94 yX12_isSign : Cond) ∈ sd_gd := sd_gd_in (sd_m4 (i := 218) (by decide +kernel)) rfl
theorem wI_X12_isSign : (.instanceMethod yX12_isSign : Cond) ∈ sd_gd := sd_gd_in (sd_m4 (i := 220) (by decide +kernel)) rfl
theorem wC_X12_isSign : (.code yX12_isSign cX12_isSign 2 (some .boolean) : Cond) ∈ sd_gd := sd_gd_in (sd_m4 (i := 221) (by decide +kernel)) rfl
theorem wM_X12_97 : (.methodLink RX12 97 yX12_isNumber : Cond) ∈ sd_gd := sd_gd_in (sd_m4 (i := 222) (by decide +kernel)) rfl
theorem wI_X12_isNumber : (.instanceMethod yX12_isNumber : Cond) ∈ sd_gd := sd_gd_in (sd_m4 (i := 224) (by decide +kernel)) rfl
theorem wC_X12_isNumber : (.code yX12_isNumber cX12_isNumber 3 (some .boolean) : Cond) ∈ sd_gd := sd_gd_in (sd_m4 (i := 225) (by decide +kernel)) rfl
theorem wM_X12_107 : (.methodLink RX12 107 yX12_isThingItem : Cond) ∈ sd_gd := sd_gd_in (sd_m4 (i := 226) (by decide +kernel)) rfl
theorem wI_X12_isThingItem : (.instanceMethod yX12_isThingItem : Cond) ∈ sd_gd := sd_gd_in (sd_m4 (i := 228) (by decide +kernel)) rfl
theorem wC_X12_isThingItem : (.code yX12_isThingItem cX12_isThingItem 4 (some .boolean) : Cond) ∈ sd_gd := sd_gd_in (sd_m4 (i := 229) (by decide +kernel)) rfl
theorem wM_X12_101 : (.methodLink RX12 101 yX12_kindBy : Cond) ∈ sd_gd := sd_gd_in (sd_m4 (i := 230) (by decide +kernel)) rfl
theorem wT_X12_kindBy : (.static yX12_kindBy : Cond) ∈ sd_gd := sd_gd_in (sd_m4 (i := 231) (by decide +kernel)) rfl
theorem wC_X12_kindBy : (.code yX12_kindBy cX12_kindBy 1 (some .int) : Cond) ∈ sd_gd := sd_gd_in (sd_m4 (i := 232) (by decide +kernel)) rfl
theorem wM_X12_113 : (.methodLink RX12 113 yX12_bring : Cond) ∈ sd_gd := sd_gd_in (sd_m4 (i := 233) (by decide +kernel)) rfl
theorem wT_X12_bring : (.static yX12_bring : Cond) ∈ sd_gd := sd_gd_in (sd_m4 (i := 234) (by decide +kernel)) rfl
theorem wC_X12_bring : (.code yX12_bring cX12_bring 6 none : Cond) ∈ sd_gd := sd_gd_in (sd_m4 (i := 235) (by decide +kernel)) rfl
theorem wM_L_52 : (.methodLink RL 52 yX12_count : Cond) ∈ sd_gd := sd_gd_in (sd_m4 (i := 236) (by decide +kernel)) rfl
theorem wI_X12_count : (.instanceMethod yX12_count : Cond) ∈ sd_gd := sd_gd_in (sd_m4 (i := 237) (by decide +kernel)) rfl
theorem wS_X12_X12_count : (.selects RX12 yX12_count yX12_count : Cond) ∈ sd_gd := sd_gd_in (sd_m4 (i := 238) (by decide +kernel)) rfl
theorem wC_X12_count : (.code yX12_count cX12_count 4 (some .int) : Cond) ∈ sd_gd := sd_gd_in (sd_m4 (i := 239) (by decide +kernel)) rfl
theorem wM_X12_117 : (.methodLink RX12 117 yX12_wokenIn : Cond) ∈ sd_gd := sd_gd_in (sd_m5 (i := 0) (by decide +kernel)) rfl
theorem wT_X12_wokenIn : (.static yX12_wokenIn : Cond) ∈ sd_gd := sd_gd_in (sd_m5 (i := 1) (by decide +kernel)) rfl
theorem wC_X12_wokenIn : (.code yX12_wokenIn cX12_wokenIn 3 (some .int) : Cond) ∈ sd_gd := sd_gd_in (sd_m5 (i := 2) (by decide +kernel)) rfl
theorem wM_L_56 : (.methodLink RL 56 yX12_nights : Cond) ∈ sd_gd := sd_gd_in (sd_m5 (i := 3) (by decide +kernel)) rfl
theorem wI_X12_nights : (.instanceMethod yX12_nights : Cond) ∈ sd_gd := sd_gd_in (sd_m5 (i := 4) (by decide +kernel)) rfl
theorem wS_X12_X12_nights : (.selects RX12 yX12_nights yX12_nights : Cond) ∈ sd_gd := sd_gd_in (sd_m5 (i := 5) (by decide +kernel)) rfl
theorem wC_X12_nights : (.code yX12_nights cX12_nights 4 (some .int) : Cond) ∈ sd_gd := sd_gd_in (sd_m5 (i := 6) (by decide +kernel)) rfl
theorem wM_X12_124 : (.methodLink RX12 124 yX12_note : Cond) ∈ sd_gd := sd_gd_in (sd_m5 (i := 7) (by decide +kernel)) rfl
theorem wI_X12_note : (.instanceMethod yX12_note : Cond) ∈ sd_gd := sd_gd_in (sd_m5 (i := 9) (by decide +kernel)) rfl
theorem wC_X12_note : (.code yX12_note cX12_note 1 none : Cond) ∈ sd_gd := sd_gd_in (sd_m5 (i := 10) (by decide +kernel)) rfl
theorem wM_X12_127 : (.methodLink RX12 127 yX12_goBy : Cond) ∈ sd_gd := sd_gd_in (sd_m5 (i := 11) (by decide +kernel)) rfl
theorem wT_X12_goBy : (.static yX12_goBy : Cond) ∈ sd_gd := sd_gd_in (sd_m5 (i := 12) (by decide +kernel)) rfl
theorem wC_X12_goBy : (.code yX12_goBy cX12_goBy 2 none : Cond) ∈ sd_gd := sd_gd_in (sd_m5 (i := 13) (by decide +kernel)) rfl
theorem wM_X12_121 : (.methodLink RX12 121 yX12_leftBy : Cond) ∈ sd_gd := sd_gd_in (sd_m5 (i := 14) (by decide +kernel)) rfl
theorem wT_X12_leftBy : (.static yX12_leftBy : Cond) ∈ sd_gd := sd_gd_in (sd_m5 (i := 15) (by decide +kernel)) rfl
theorem wC_X12_leftBy : (.code yX12_leftBy cX12_leftBy 5 (some .int) : Cond) ∈ sd_gd := sd_gd_in (sd_m5 (i := 16) (by decide +kernel)) rfl
theorem wM_L_60 : (.methodLink RL 60 yX12_move : Cond) ∈ sd_gd := sd_gd_in (sd_m5 (i := 17) (by decide +kernel)) rfl
theorem wI_X12_move : (.instanceMethod yX12_move : Cond) ∈ sd_gd := sd_gd_in (sd_m5 (i := 18) (by decide +kernel)) rfl
theorem wS_X12_X12_move : (.selects RX12 yX12_move yX12_move : Cond) ∈ sd_gd := sd_gd_in (sd_m5 (i := 19) (by decide +kernel)) rfl
theorem wC_X12_move : (.code yX12_move cX12_move 4 (some .int) : Cond) ∈ sd_gd := sd_gd_in (sd_m5 (i := 20) (by decide +kernel)) rfl
theorem wM_L_64 : (.methodLink RL 64 yX12_pass : Cond) ∈ sd_gd := sd_gd_in (sd_m5 (i := 21) (by decide +kernel)) rfl
theorem wI_X12_pass : (.instanceMethod yX12_pass : Cond) ∈ sd_gd := sd_gd_in (sd_m5 (i := 22) (by decide +kernel)) rfl
theorem wS_X12_X12_pass : (.selects RX12 yX12_pass yX12_pass : Cond) ∈ sd_gd := sd_gd_in (sd_m5 (i := 23) (by decide +kernel)) rfl
theorem wC_X12_pass : (.code yX12_pass cX12_pass 4 (some .int) : Cond) ∈ sd_gd := sd_gd_in (sd_m5 (i := 24) (by decide +kernel)) rfl
theorem wM_L_68 : (.methodLink RL 68 yX12_back : Cond) ∈ sd_gd := sd_gd_in (sd_m5 (i := 25) (by decide +kernel)) rfl
theorem wI_X12_back : (.instanceMethod yX12_back : Cond) ∈ sd_gd := sd_gd_in (sd_m5 (i := 26) (by decide +kernel)) rfl
theorem wS_X12_X12_back : (.selects RX12 yX12_back yX12_back : Cond) ∈ sd_gd := sd_gd_in (sd_m5 (i := 27) (by decide +kernel)) rfl
theorem wC_X12_back : (.code yX12_back cX12_back 3 (some .int) : Cond) ∈ sd_gd := sd_gd_in (sd_m5 (i := 28) (by decide +kernel)) rfl
theorem wM_L_72 : (.methodLink RL 72 yX12_drift : Cond) ∈ sd_gd := sd_gd_in (sd_m5 (i := 29) (by decide +kernel)) rfl
theorem wI_X12_drift : (.instanceMethod yX12_drift : Cond) ∈ sd_gd := sd_gd_in (sd_m5 (i := 30) (by decide +kernel)) rfl
theorem wS_X12_X12_drift : (.selects RX12 yX12_drift yX12_drift : Cond) ∈ sd_gd := sd_gd_in (sd_m5 (i := 31) (by decide +kernel)) rfl
theorem wC_X12_drift : (.code yX12_drift cX12_drift 5 (some .int) : Cond) ∈ sd_gd := sd_gd_in (sd_m5 (i := 32) (by decide +kernel)) rfl
theorem wKL_X12_131 : (.constantLong RX12 131 (1103515245) : Cond) ∈ sd_gd := sd_gd_in (sd_m5 (i := 33) (by decide +kernel)) rfl
theorem wKL_X12_133 : (.constantLong RX12 133 (12345) : Cond) ∈ sd_gd := sd_gd_in (sd_m5 (i := 34) (by decide +kernel)) rfl
theorem wKL_X12_135 : (.constantLong RX12 135 (2147483648) : Cond) ∈ sd_gd := sd_gd_in (sd_m5 (i := 35) (by decide +kernel)) rfl
theorem wK_X12_137 : (.constant RX12 137 (65536) : Cond) ∈ sd_gd := sd_gd_in (sd_m5 (i := 36) (by decide +kernel)) rfl
theorem wM_L_76 : (.methodLink RL 76 yX12_undo : Cond) ∈ sd_gd := sd_gd_in (sd_m5 (i := 37) (by decide +kernel)) rfl
theorem wI_X12_undo : (.instanceMethod yX12_undo : Cond) ∈ sd_gd := sd_gd_in (sd_m5 (i := 38) (by decide +kernel)) rfl
theorem wS_X12_X12_undo : (.selects RX12 yX12_undo yX12_undo : Cond) ∈ sd_gd := sd_gd_in (sd_m5 (i := 39) (by decide +kernel)) rfl
theorem wC_X12_undo : (.code yX12_undo cX12_undo 1 (some .int) : Cond) ∈ sd_gd := sd_gd_in (sd_m5 (i := 40) (by decide +kernel)) rfl
theorem wM_L_80 : (.methodLink RL 80 yX12_seed : Cond) ∈ sd_gd := sd_gd_in (sd_m5 (i := 41) (by decide +kernel)) rfl
theorem wI_X12_seed : (.instanceMethod yX12_seed : Cond) ∈ sd_gd := sd_gd_in (sd_m5 (i := 42) (by decide +kernel)) rfl
theorem wS_X12_X12_seed : (.selects RX12 yX12_seed yX12_seed : Cond) ∈ sd_gd := sd_gd_in (sd_m5 (i := 43) (by decide +kernel)) rfl
theorem wC_X12_seed : (.code yX12_seed cX12_seed 3 (some .int) : Cond) ∈ sd_gd := sd_gd_in (sd_m5 (i := 44) (by decide +kernel)) rfl
theorem wM_L_84 : (.methodLink RL 84 yX12_ahead : Cond) ∈ sd_gd := sd_gd_in (sd_m5 (i := 45) (by decide +kernel)) rfl
theorem wI_X12_ahead : (.instanceMethod yX12_ahead : Cond) ∈ sd_gd := sd_gd_in (sd_m5 (i := 46) (by decide +kernel)) rfl
theorem wS_X12_X12_ahead : (.selects RX12 yX12_ahead yX12_ahead : Cond) ∈ sd_gd := sd_gd_in (sd_m5 (i := 47) (by decide +kernel)) rfl
theorem wC_X12_ahead : (.code yX12_ahead cX12_ahead 3 (some .int) : Cond) ∈ sd_gd := sd_gd_in (sd_m5 (i := 48) (by decide +kernel)) rfl
theorem wM_X12_141 : (.methodLink RX12 141 yX12_goOn : Cond) ∈ sd_gd := sd_gd_in (sd_m5 (i := 49) (by decide +kernel)) rfl
theorem wI_X12_goOn : (.instanceMethod yX12_goOn : Cond) ∈ sd_gd := sd_gd_in (sd_m5 (i := 51) (by decide +kernel)) rfl
theorem wC_X12_goOn : (.code yX12_goOn cX12_goOn 3 none : Cond) ∈ sd_gd := sd_gd_in (sd_m5 (i := 52) (by decide +kernel)) rfl
theorem wM_X12_138 : (.methodLink RX12 138 yX12_begin : Cond) ∈ sd_gd := sd_gd_in (sd_m5 (i := 53) (by decide +kernel)) rfl
theorem wI_X12_begin : (.instanceMethod yX12_begin : Cond) ∈ sd_gd := sd_gd_in (sd_m5 (i := 55) (by decide +kernel)) rfl
theorem wC_X12_begin : (.code yX12_begin cX12_begin 1 none : Cond) ∈ sd_gd := sd_gd_in (sd_m5 (i := 56) (by decide +kernel)) rfl
theorem wM_L_88 : (.methodLink RL 88 yX12_loudAhead : Cond) ∈ sd_gd := sd_gd_in (sd_m5 (i := 57) (by decide +kernel)) rfl
theorem wI_X12_loudAhead : (.instanceMethod yX12_loudAhead : Cond) ∈ sd_gd := sd_gd_in (sd_m5 (i := 58) (by decide +kernel)) rfl
theorem wS_X12_X12_loudAhead : (.selects RX12 yX12_loudAhead yX12_loudAhead : Cond) ∈ sd_gd := sd_gd_in (sd_m5 (i := 59) (by decide +kernel)) rfl
theorem wC_X12_loudAhead : (.code yX12_loudAhead cX12_loudAhead 3 (some .int) : Cond) ∈ sd_gd := sd_gd_in (sd_m5 (i := 60) (by decide +kernel)) rfl
theorem wM_L_92 : (.methodLink RL 92 yX12_sleeps : Cond) ∈ sd_gd := sd_gd_in (sd_m5 (i := 61) (by decide +kernel)) rfl
theorem wI_X12_sleeps : (.instanceMethod yX12_sleeps : Cond) ∈ sd_gd := sd_gd_in (sd_m5 (i := 62) (by decide +kernel)) rfl
theorem wS_X12_X12_sleeps : (.selects RX12 yX12_sleeps yX12_sleeps : Cond) ∈ sd_gd := sd_gd_in (sd_m5 (i := 63) (by decide +kernel)) rfl
theorem wC_X12_sleeps : (.code yX12_sleeps cX12_sleeps 3 (some .int) : Cond) ∈ sd_gd := sd_gd_in (sd_m5 (i := 64) (by decide +kernel)) rfl
theorem wM_L_96 : (.methodLink RL 96 yX12_peace : Cond) ∈ sd_gd := sd_gd_in (sd_m5 (i := 65) (by decide +kernel)) rfl
theorem wI_X12_peace : (.instanceMethod yX12_peace : Cond) ∈ sd_gd := sd_gd_in (sd_m5 (i := 66) (by decide +kernel)) rfl
theorem wS_X12_X12_peace : (.selects RX12 yX12_peace yX12_peace : Cond) ∈ sd_gd := sd_gd_in (sd_m5 (i := 67) (by decide +kernel)) rfl
theorem wC_X12_peace : (.code yX12_peace cX12_peace 3 (some .int) : Cond) ∈ sd_gd := sd_gd_in (sd_m5 (i := 68) (by decide +kernel)) rfl
theorem wM_L_101 : (.methodLink RL 101 yX12_best : Cond) ∈ sd_gd := sd_gd_in (sd_m5 (i := 69) (by decide +kernel)) rfl
theorem wI_X12_best : (.instanceMethod yX12_best : Cond) ∈ sd_gd := sd_gd_in (sd_m5 (i := 70) (by decide +kernel)) rfl
theorem wS_X12_X12_best : (.selects RX12 yX12_best yX12_best : Cond) ∈ sd_gd := sd_gd_in (sd_m5 (i := 71) (by decide +kernel)) rfl
theorem wC_X12_best : (.code yX12_best cX12_best 8 (some .int) : Cond) ∈ sd_gd := sd_gd_in (sd_m5 (i := 72) (by decide +kernel)) rfl
theorem wM_X12_145 : (.methodLink RX12 145 yX12_wokenOn : Cond) ∈ sd_gd := sd_gd_in (sd_m5 (i := 73) (by decide +kernel)) rfl
theorem wI_X12_wokenOn : (.instanceMethod yX12_wokenOn : Cond) ∈ sd_gd := sd_gd_in (sd_m5 (i := 75) (by decide +kernel)) rfl
theorem wC_X12_wokenOn : (.code yX12_wokenOn cX12_wokenOn 4 (some .int) : Cond) ∈ sd_gd := sd_gd_in (sd_m5 (i := 76) (by decide +kernel)) rfl
theorem wM_L_105 : (.methodLink RL 105 yX12_bestBed : Cond) ∈ sd_gd := sd_gd_in (sd_m5 (i := 77) (by decide +kernel)) rfl
theorem wI_X12_bestBed : (.instanceMethod yX12_bestBed : Cond) ∈ sd_gd := sd_gd_in (sd_m5 (i := 78) (by decide +kernel)) rfl
theorem wS_X12_X12_bestBed : (.selects RX12 yX12_bestBed yX12_bestBed : Cond) ∈ sd_gd := sd_gd_in (sd_m5 (i := 79) (by decide +kernel)) rfl
theorem wC_X12_bestBed : (.code yX12_bestBed cX12_bestBed 8 (some .int) : Cond) ∈ sd_gd := sd_gd_in (sd_m5 (i := 80) (by decide +kernel)) rfl
theorem wM_L_109 : (.methodLink RL 109 yX12_change : Cond) ∈ sd_gd := sd_gd_in (sd_m5 (i := 81) (by decide +kernel)) rfl
theorem wI_X12_change : (.instanceMethod yX12_change : Cond) ∈ sd_gd := sd_gd_in (sd_m5 (i := 82) (by decide +kernel)) rfl
theorem wS_X12_X12_change : (.selects RX12 yX12_change yX12_change : Cond) ∈ sd_gd := sd_gd_in (sd_m5 (i := 83) (by decide +kernel)) rfl
theorem wC_X12_change : (.code yX12_change cX12_change 9 (some .int) : Cond) ∈ sd_gd := sd_gd_in (sd_m5 (i := 84) (by decide +kernel)) rfl
theorem wM_L_113 : (.methodLink RL 113 yX12_backs : Cond) ∈ sd_gd := sd_gd_in (sd_m5 (i := 85) (by decide +kernel)) rfl
theorem wI_X12_backs : (.instanceMethod yX12_backs : Cond) ∈ sd_gd := sd_gd_in (sd_m5 (i := 86) (by decide +kernel)) rfl
theorem wS_X12_X12_backs : (.selects RX12 yX12_backs yX12_backs : Cond) ∈ sd_gd := sd_gd_in (sd_m5 (i := 87) (by decide +kernel)) rfl
theorem wC_X12_backs : (.code yX12_backs cX12_backs 6 (some .int) : Cond) ∈ sd_gd := sd_gd_in (sd_m5 (i := 88) (by decide +kernel)) rfl
theorem wM_X12_148 : (.methodLink RX12 148 yX12_bits : Cond) ∈ sd_gd := sd_gd_in (sd_m5 (i := 89) (by decide +kernel)) rfl
theorem wT_X12_bits : (.static yX12_bits : Cond) ∈ sd_gd := sd_gd_in (sd_m5 (i := 90) (by decide +kernel)) rfl
theorem wC_X12_bits : (.code yX12_bits cX12_bits 3 (some .int) : Cond) ∈ sd_gd := sd_gd_in (sd_m5 (i := 91) (by decide +kernel)) rfl
theorem wM_X12_151 : (.methodLink RX12 151 yX12_has : Cond) ∈ sd_gd := sd_gd_in (sd_m5 (i := 92) (by decide +kernel)) rfl
theorem wT_X12_has : (.static yX12_has : Cond) ∈ sd_gd := sd_gd_in (sd_m5 (i := 93) (by decide +kernel)) rfl
theorem wC_X12_has : (.code yX12_has cX12_has 2 (some .boolean) : Cond) ∈ sd_gd := sd_gd_in (sd_m5 (i := 94) (by decide +kernel)) rfl
theorem wM_L_117 : (.methodLink RL 117 yX12_luck : Cond) ∈ sd_gd := sd_gd_in (sd_m5 (i := 95) (by decide +kernel)) rfl
theorem wI_X12_luck : (.instanceMethod yX12_luck : Cond) ∈ sd_gd := sd_gd_in (sd_m5 (i := 96) (by decide +kernel)) rfl
theorem wS_X12_X12_luck : (.selects RX12 yX12_luck yX12_luck : Cond) ∈ sd_gd := sd_gd_in (sd_m5 (i := 97) (by decide +kernel)) rfl
theorem wC_X12_luck : (.code yX12_luck cX12_luck 10 (some .int) : Cond) ∈ sd_gd := sd_gd_in (sd_m5 (i := 98) (by decide +kernel)) rfl
theorem wM_L_121 : (.methodLink RL 121 yX12_thanked : Cond) ∈ sd_gd := sd_gd_in (sd_m5 (i := 99) (by decide +kernel)) rfl
theorem wI_X12_thanked : (.instanceMethod yX12_thanked : Cond) ∈ sd_gd := sd_gd_in (sd_m5 (i := 100) (by decide +kernel)) rfl
theorem wS_X12_X12_thanked : (.selects RX12 yX12_thanked yX12_thanked : Cond) ∈ sd_gd := sd_gd_in (sd_m5 (i := 101) (by decide +kernel)) rfl
theorem wC_X12_thanked : (.code yX12_thanked cX12_thanked 4 (some .int) : Cond) ∈ sd_gd := sd_gd_in (sd_m5 (i := 102) (by decide +kernel)) rfl
theorem wM_L_125 : (.methodLink RL 125 yX12_image : Cond) ∈ sd_gd := sd_gd_in (sd_m5 (i := 103) (by decide +kernel)) rfl
theorem wI_X12_image : (.instanceMethod yX12_image : Cond) ∈ sd_gd := sd_gd_in (sd_m5 (i := 104) (by decide +kernel)) rfl
theorem wS_X12_X12_image : (.selects RX12 yX12_image yX12_image : Cond) ∈ sd_gd := sd_gd_in (sd_m5 (i := 105) (by decide +kernel)) rfl
theorem wC_X12_image : (.code yX12_image cX12_image 1 (some .int) : Cond) ∈ sd_gd := sd_gd_in (sd_m5 (i := 106) (by decide +kernel)) rfl
theorem wM_L_129 : (.methodLink RL 129 yX12_restore : Cond) ∈ sd_gd := sd_gd_in (sd_m5 (i := 107) (by decide +kernel)) rfl
theorem wI_X12_restore : (.instanceMethod yX12_restore : Cond) ∈ sd_gd := sd_gd_in (sd_m5 (i := 108) (by decide +kernel)) rfl
theorem wS_X12_X12_restore : (.selects RX12 yX12_restore yX12_restore : Cond) ∈ sd_gd := sd_gd_in (sd_m5 (i := 109) (by decide +kernel)) rfl
theorem wC_X12_restore : (.code yX12_restore cX12_restore 1 (some .int) : Cond) ∈ sd_gd := sd_gd_in (sd_m5 (i := 110) (by decide +kernel)) rfl
theorem wM_L_134 : (.methodLink RL 134 yX12_heard : Cond) ∈ sd_gd := sd_gd_in (sd_m5 (i := 111) (by decide +kernel)) rfl
theorem wI_X12_heard : (.instanceMethod yX12_heard : Cond) ∈ sd_gd := sd_gd_in (sd_m5 (i := 112) (by decide +kernel)) rfl
theorem wS_X12_X12_heard : (.selects RX12 yX12_heard yX12_heard : Cond) ∈ sd_gd := sd_gd_in (sd_m5 (i := 113) (by decide +kernel)) rfl
theorem wC_X12_heard : (.code yX12_heard cX12_heard 13 (some .int) : Cond) ∈ sd_gd := sd_gd_in (sd_m5 (i := 114) (by decide +kernel)) rfl
theorem wM_X12_161 : (.methodLink RX12 161 yX12_isSheet : Cond) ∈ sd_gd := sd_gd_in (sd_m5 (i := 115) (by decide +kernel)) rfl
theorem wT_X12_isSheet : (.static yX12_isSheet : Cond) ∈ sd_gd := sd_gd_in (sd_m5 (i := 116) (by decide +kernel)) rfl
theorem wC_X12_isSheet : (.code yX12_isSheet cX12_isSheet 1 (some .boolean) : Cond) ∈ sd_gd := sd_gd_in (sd_m5 (i := 117) (by decide +kernel)) rfl
theorem wM_X12_164 : (.methodLink RX12 164 yX12_wrong : Cond) ∈ sd_gd := sd_gd_in (sd_m5 (i := 118) (by decide +kernel)) rfl
theorem wI_X12_wrong : (.instanceMethod yX12_wrong : Cond) ∈ sd_gd := sd_gd_in (sd_m5 (i := 120) (by decide +kernel)) rfl
theorem wC_X12_wrong : (.code yX12_wrong cX12_wrong 5 (some .int) : Cond) ∈ sd_gd := sd_gd_in (sd_m5 (i := 121) (by decide +kernel)) rfl
theorem wM_X12_158 : (.methodLink RX12 158 yX12_isPart : Cond) ∈ sd_gd := sd_gd_in (sd_m5 (i := 122) (by decide +kernel)) rfl
theorem wT_X12_isPart : (.static yX12_isPart : Cond) ∈ sd_gd := sd_gd_in (sd_m5 (i := 123) (by decide +kernel)) rfl
theorem wC_X12_isPart : (.code yX12_isPart cX12_isPart 3 (some .boolean) : Cond) ∈ sd_gd := sd_gd_in (sd_m5 (i := 124) (by decide +kernel)) rfl
theorem wM_L_139 : (.methodLink RL 139 yX12_film : Cond) ∈ sd_gd := sd_gd_in (sd_m5 (i := 125) (by decide +kernel)) rfl
theorem wI_X12_film : (.instanceMethod yX12_film : Cond) ∈ sd_gd := sd_gd_in (sd_m5 (i := 126) (by decide +kernel)) rfl
theorem wS_X12_X12_film : (.selects RX12 yX12_film yX12_film : Cond) ∈ sd_gd := sd_gd_in (sd_m5 (i := 127) (by decide +kernel)) rfl
theorem wC_X12_film : (.code yX12_film cX12_film 8 (some .int) : Cond) ∈ sd_gd := sd_gd_in (sd_m5 (i := 128) (by decide +kernel)) rfl
theorem wM_L_143 : (.methodLink RL 143 yX12_sheet : Cond) ∈ sd_gd := sd_gd_in (sd_m5 (i := 129) (by decide +kernel)) rfl
theorem wI_X12_sheet : (.instanceMethod yX12_sheet : Cond) ∈ sd_gd := sd_gd_in (sd_m5 (i := 130) (by decide +kernel)) rfl
theorem wS_X12_X12_sheet : (.selects RX12 yX12_sheet yX12_sheet : Cond) ∈ sd_gd := sd_gd_in (sd_m5 (i := 131) (by decide +kernel)) rfl
theorem wC_X12_sheet : (.code yX12_sheet cX12_sheet 5 (some .int) : Cond) ∈ sd_gd := sd_gd_in (sd_m5 (i := 132) (by decide +kernel)) rfl
theorem wM_L_147 : (.methodLink RL 147 yX12_drop : Cond) ∈ sd_gd := sd_gd_in (sd_m5 (i := 133) (by decide +kernel)) rfl
theorem wI_X12_drop : (.instanceMethod yX12_drop : Cond) ∈ sd_gd := sd_gd_in (sd_m5 (i := 134) (by decide +kernel)) rfl
theorem wS_X12_X12_drop : (.selects RX12 yX12_drop yX12_drop : Cond) ∈ sd_gd := sd_gd_in (sd_m5 (i := 135) (by decide +kernel)) rfl
theorem wC_X12_drop : (.code yX12_drop cX12_drop 2 (some .int) : Cond) ∈ sd_gd := sd_gd_in (sd_m5 (i := 136) (by decide +kernel)) rfl
theorem wM_L_154 : (.methodLink RL 154 yX12_item : Cond) ∈ sd_gd := sd_gd_in (sd_m5 (i := 137) (by decide +kernel)) rfl
theorem wI_X12_item : (.instanceMethod yX12_item : Cond) ∈ sd_gd := sd_gd_in (sd_m5 (i := 138) (by decide +kernel)) rfl
theorem wS_X12_X12_item : (.selects RX12 yX12_item yX12_item : Cond) ∈ sd_gd := sd_gd_in (sd_m5 (i := 139) (by decide +kernel)) rfl
theorem wC_X12_item : (.code yX12_item cX12_item 7 (some .int) : Cond) ∈ sd_gd := sd_gd_in (sd_m5 (i := 140) (by decide +kernel)) rfl
theorem wM_L_158 : (.methodLink RL 158 yX12_copy : Cond) ∈ sd_gd := sd_gd_in (sd_m5 (i := 141) (by decide +kernel)) rfl
theorem wI_X12_copy : (.instanceMethod yX12_copy : Cond) ∈ sd_gd := sd_gd_in (sd_m5 (i := 142) (by decide +kernel)) rfl
theorem wS_X12_X12_copy : (.selects RX12 yX12_copy yX12_copy : Cond) ∈ sd_gd := sd_gd_in (sd_m5 (i := 143) (by decide +kernel)) rfl
theorem wC_X12_copy : (.code yX12_copy cX12_copy 9 (some .int) : Cond) ∈ sd_gd := sd_gd_in (sd_m5 (i := 144) (by decide +kernel)) rfl
theorem wKL_L_148 : (.constantLong RL 148 (4294967295) : Cond) ∈ sd_gd := sd_gd_in (sd_m5 (i := 145) (by decide +kernel)) rfl
theorem wA_X1_loudness : (.sameMethod "ThankingGifts$Fulsome" "ThankingGifts$Fulsome" "loudness" "(II)I" : Cond) ∈ sd_gd := sd_gd_in (sd_m5 (i := 146) (by decide +kernel)) rfl
theorem wA_X0_leftBehind : (.sameMethod "ThankingGifts$Curt" "ThankingGifts$Curt" "leftBehind" "(III)I" : Cond) ∈ sd_gd := sd_gd_in (sd_m5 (i := 147) (by decide +kernel)) rfl
theorem wA_X1_leftBehind : (.sameMethod "ThankingGifts$Fulsome" "ThankingGifts$Fulsome" "leftBehind" "(III)I" : Cond) ∈ sd_gd := sd_gd_in (sd_m5 (i := 148) (by decide +kernel)) rfl
theorem wF_J0_15 : (.fieldLink RJ0 15 "java/lang/String" "coder" "B" : Cond) ∈ sd_gd := sd_gd_in (sd_m5 (i := 153) (by decide +kernel)) rfl
theorem wF_J0_9 : (.fieldLink RJ0 9 "java/lang/String" "value" "[B" : Cond) ∈ sd_gd := sd_gd_in (sd_m5 (i := 154) (by decide +kernel)) rfl
def sd_nest : List (String × Nat × MethodName × String) := [(RX11, 9, yX2_init, "ThankingGifts"), (RX2, 11, yX7_init, "ThankingGifts"), (RX2, 14, yX1_init, "ThankingGifts"), (RX1, 1, yX7_init, "ThankingGifts"), (RX2, 17, yX0_init, "ThankingGifts"), (RX0, 1, yX7_init, "ThankingGifts"), (RX2, 20, yX10_init, "ThankingGifts"), (RX10, 1, yX1_init, "ThankingGifts"), (RX2, 23, yX3_init, "ThankingGifts"), (RX3, 1, yX0_init, "ThankingGifts"), (RX2, 48, yX4_init, "ThankingGifts"), (RX6, 17, yX4_init, "ThankingGifts"), (RX11, 34, yX8_init, "ThankingGifts"), (RX11, 41, yX5_init, "ThankingGifts"), (RX11, 48, yX9_init, "ThankingGifts"), (RX2, 91, yX11_leftAtFirst, "ThankingGifts"), (RX2, 95, yX11_within, "ThankingGifts"), (RX8, 74, yX11_within, "ThankingGifts"), (RX2, 107, yX11_isIn, "ThankingGifts"), (RX5, 67, yX11_isIn, "ThankingGifts")]
theorem sd_nest_in : ∀ q ∈ sd_nest, Cond.methodLinkNest q.1 q.2.1 q.2.2.1 q.2.2.2 ∈ lw_tbl := by
  intro q hq
  simp only [sd_nest, List.mem_cons, List.not_mem_nil, or_false] at hq
  rcases hq with rfl | rfl | rfl | rfl | rfl | rfl | rfl | rfl | rfl | rfl | rfl | rfl | rfl | rfl | rfl | rfl | rfl | rfl | rfl | rfl
  · exact sd_m1 (i := 32) (by decide +kernel)
  · exact sd_m1 (i := 39) (by decide +kernel)
  · exact sd_m1 (i := 46) (by decide +kernel)
  · exact sd_m1 (i := 49) (by decide +kernel)
  · exact sd_m1 (i := 53) (by decide +kernel)
  · exact sd_m1 (i := 56) (by decide +kernel)
  · exact sd_m1 (i := 60) (by decide +kernel)
  · exact sd_m1 (i := 63) (by decide +kernel)
  · exact sd_m1 (i := 67) (by decide +kernel)
  · exact sd_m1 (i := 70) (by decide +kernel)
  · exact sd_m1 (i := 74) (by decide +kernel)
  · exact sd_m1 (i := 168) (by decide +kernel)
  · exact sd_m1 (i := 182) (by decide +kernel)
  · exact sd_m1 (i := 201) (by decide +kernel)
  · exact sd_m1 (i := 226) (by decide +kernel)
  · exact sd_m2 (i := 65) (by decide +kernel)
  · exact sd_m2 (i := 79) (by decide +kernel)
  · exact sd_m2 (i := 176) (by decide +kernel)
  · exact sd_m3 (i := 76) (by decide +kernel)
  · exact sd_m3 (i := 186) (by decide +kernel)
theorem wQ_X11_9 : ((RX11, 9, yX2_init, "ThankingGifts") : String × Nat × MethodName × String) ∈ sd_nest := List.mem_of_getElem? (i := 0) rfl
theorem wQ_X2_11 : ((RX2, 11, yX7_init, "ThankingGifts") : String × Nat × MethodName × String) ∈ sd_nest := List.mem_of_getElem? (i := 1) rfl
theorem wQ_X2_14 : ((RX2, 14, yX1_init, "ThankingGifts") : String × Nat × MethodName × String) ∈ sd_nest := List.mem_of_getElem? (i := 2) rfl
theorem wQ_X1_1 : ((RX1, 1, yX7_init, "ThankingGifts") : String × Nat × MethodName × String) ∈ sd_nest := List.mem_of_getElem? (i := 3) rfl
theorem wQ_X2_17 : ((RX2, 17, yX0_init, "ThankingGifts") : String × Nat × MethodName × String) ∈ sd_nest := List.mem_of_getElem? (i := 4) rfl
theorem wQ_X0_1 : ((RX0, 1, yX7_init, "ThankingGifts") : String × Nat × MethodName × String) ∈ sd_nest := List.mem_of_getElem? (i := 5) rfl
theorem wQ_X2_20 : ((RX2, 20, yX10_init, "ThankingGifts") : String × Nat × MethodName × String) ∈ sd_nest := List.mem_of_getElem? (i := 6) rfl
theorem wQ_X10_1 : ((RX10, 1, yX1_init, "ThankingGifts") : String × Nat × MethodName × String) ∈ sd_nest := List.mem_of_getElem? (i := 7) rfl
theorem wQ_X2_23 : ((RX2, 23, yX3_init, "ThankingGifts") : String × Nat × MethodName × String) ∈ sd_nest := List.mem_of_getElem? (i := 8) rfl
theorem wQ_X3_1 : ((RX3, 1, yX0_init, "ThankingGifts") : String × Nat × MethodName × String) ∈ sd_nest := List.mem_of_getElem? (i := 9) rfl
theorem wQ_X2_48 : ((RX2, 48, yX4_init, "ThankingGifts") : String × Nat × MethodName × String) ∈ sd_nest := List.mem_of_getElem? (i := 10) rfl
theorem wQ_X6_17 : ((RX6, 17, yX4_init, "ThankingGifts") : String × Nat × MethodName × String) ∈ sd_nest := List.mem_of_getElem? (i := 11) rfl
theorem wQ_X11_34 : ((RX11, 34, yX8_init, "ThankingGifts") : String × Nat × MethodName × String) ∈ sd_nest := List.mem_of_getElem? (i := 12) rfl
theorem wQ_X11_41 : ((RX11, 41, yX5_init, "ThankingGifts") : String × Nat × MethodName × String) ∈ sd_nest := List.mem_of_getElem? (i := 13) rfl
theorem wQ_X11_48 : ((RX11, 48, yX9_init, "ThankingGifts") : String × Nat × MethodName × String) ∈ sd_nest := List.mem_of_getElem? (i := 14) rfl
theorem wQ_X2_91 : ((RX2, 91, yX11_leftAtFirst, "ThankingGifts") : String × Nat × MethodName × String) ∈ sd_nest := List.mem_of_getElem? (i := 15) rfl
theorem wQ_X2_95 : ((RX2, 95, yX11_within, "ThankingGifts") : String × Nat × MethodName × String) ∈ sd_nest := List.mem_of_getElem? (i := 16) rfl
theorem wQ_X8_74 : ((RX8, 74, yX11_within, "ThankingGifts") : String × Nat × MethodName × String) ∈ sd_nest := List.mem_of_getElem? (i := 17) rfl
theorem wQ_X2_107 : ((RX2, 107, yX11_isIn, "ThankingGifts") : String × Nat × MethodName × String) ∈ sd_nest := List.mem_of_getElem? (i := 18) rfl
theorem wQ_X5_67 : ((RX5, 67, yX11_isIn, "ThankingGifts") : String × Nat × MethodName × String) ∈ sd_nest := List.mem_of_getElem? (i := 19) rfl
def sd_casts : List (String × String) := [(RX1, RX7), (RX0, RX7), (RX10, RX7), (RX3, RX7)]
theorem sd_casts_in : ∀ q ∈ sd_casts, Cond.castable q.1 q.2 ∈ lw_tbl := by
  intro q hq
  simp only [sd_casts, List.mem_cons, List.not_mem_nil, or_false] at hq
  rcases hq with rfl | rfl | rfl | rfl
  · exact sd_m5 (i := 149) (by decide +kernel)
  · exact sd_m5 (i := 150) (by decide +kernel)
  · exact sd_m5 (i := 151) (by decide +kernel)
  · exact sd_m5 (i := 152) (by decide +kernel)
def sd_overs : List String := [RX7, RX4, RX9]
theorem sd_overs_in : ∀ q ∈ sd_overs, Cond.arrayOver (.object q) ∈ lw_tbl := by
  intro q hq
  simp only [sd_overs, List.mem_cons, List.not_mem_nil, or_false] at hq
  rcases hq with rfl | rfl | rfl
  · exact sd_m1 (i := 37) (by decide +kernel)
  · exact sd_m1 (i := 167) (by decide +kernel)
  · exact sd_m1 (i := 224) (by decide +kernel)
theorem wV_X0 : ∀ w ∈ u_ws RX0 TX0 0, w ∈ sd_gd := by
  intro w hw
  exact absurd hw List.not_mem_nil
theorem wV_X1 : ∀ w ∈ u_ws RX1 TX1 0, w ∈ sd_gd := by
  intro w hw
  exact absurd hw List.not_mem_nil
theorem wV_X2 : ∀ w ∈ u_ws RX2 TX2 9, w ∈ sd_gd := by
  intro w hw
  obtain ⟨j, hj, rfl⟩ := List.mem_map.mp hw
  have hj := List.mem_range.mp hj
  match j, hj with
  | 0, _ => exact sd_gd_in (sd_m1 (i := 141) (by decide +kernel)) rfl
  | 1, _ => exact sd_gd_in (sd_m1 (i := 143) (by decide +kernel)) rfl
  | 2, _ => exact sd_gd_in (sd_m1 (i := 145) (by decide +kernel)) rfl
  | 3, _ => exact sd_gd_in (sd_m1 (i := 147) (by decide +kernel)) rfl
  | 4, _ => exact sd_gd_in (sd_m1 (i := 149) (by decide +kernel)) rfl
  | 5, _ => exact sd_gd_in (sd_m1 (i := 151) (by decide +kernel)) rfl
  | 6, _ => exact sd_gd_in (sd_m1 (i := 153) (by decide +kernel)) rfl
  | 7, _ => exact sd_gd_in (sd_m1 (i := 155) (by decide +kernel)) rfl
  | 8, _ => exact sd_gd_in (sd_m1 (i := 157) (by decide +kernel)) rfl
theorem wV_X3 : ∀ w ∈ u_ws RX3 TX3 0, w ∈ sd_gd := by
  intro w hw
  exact absurd hw List.not_mem_nil
theorem wV_X4 : ∀ w ∈ u_ws RX4 TX4 7, w ∈ sd_gd := by
  intro w hw
  obtain ⟨j, hj, rfl⟩ := List.mem_map.mp hw
  have hj := List.mem_range.mp hj
  match j, hj with
  | 0, _ => exact sd_gd_in (sd_m1 (i := 101) (by decide +kernel)) rfl
  | 1, _ => exact sd_gd_in (sd_m1 (i := 103) (by decide +kernel)) rfl
  | 2, _ => exact sd_gd_in (sd_m1 (i := 105) (by decide +kernel)) rfl
  | 3, _ => exact sd_gd_in (sd_m1 (i := 107) (by decide +kernel)) rfl
  | 4, _ => exact sd_gd_in (sd_m1 (i := 109) (by decide +kernel)) rfl
  | 5, _ => exact sd_gd_in (sd_m1 (i := 111) (by decide +kernel)) rfl
  | 6, _ => exact sd_gd_in (sd_m1 (i := 113) (by decide +kernel)) rfl
theorem wV_X5 : ∀ w ∈ u_ws RX5 TX5 5, w ∈ sd_gd := by
  intro w hw
  obtain ⟨j, hj, rfl⟩ := List.mem_map.mp hw
  have hj := List.mem_range.mp hj
  match j, hj with
  | 0, _ => exact sd_gd_in (sd_m1 (i := 212) (by decide +kernel)) rfl
  | 1, _ => exact sd_gd_in (sd_m1 (i := 214) (by decide +kernel)) rfl
  | 2, _ => exact sd_gd_in (sd_m1 (i := 216) (by decide +kernel)) rfl
  | 3, _ => exact sd_gd_in (sd_m1 (i := 218) (by decide +kernel)) rfl
  | 4, _ => exact sd_gd_in (sd_m1 (i := 220) (by decide +kernel)) rfl
theorem wV_X6 : ∀ w ∈ u_ws RX6 TX6 3, w ∈ sd_gd := by
  intro w hw
  obtain ⟨j, hj, rfl⟩ := List.mem_map.mp hw
  have hj := List.mem_range.mp hj
  match j, hj with
  | 0, _ => exact sd_gd_in (sd_m1 (i := 173) (by decide +kernel)) rfl
  | 1, _ => exact sd_gd_in (sd_m1 (i := 175) (by decide +kernel)) rfl
  | 2, _ => exact sd_gd_in (sd_m1 (i := 177) (by decide +kernel)) rfl
theorem wV_X7 : ∀ w ∈ u_ws RX7 TX7 0, w ∈ sd_gd := by
  intro w hw
  exact absurd hw List.not_mem_nil
theorem wV_X8 : ∀ w ∈ u_ws RX8 TX8 3, w ∈ sd_gd := by
  intro w hw
  obtain ⟨j, hj, rfl⟩ := List.mem_map.mp hw
  have hj := List.mem_range.mp hj
  match j, hj with
  | 0, _ => exact sd_gd_in (sd_m1 (i := 191) (by decide +kernel)) rfl
  | 1, _ => exact sd_gd_in (sd_m1 (i := 193) (by decide +kernel)) rfl
  | 2, _ => exact sd_gd_in (sd_m1 (i := 195) (by decide +kernel)) rfl
theorem wV_X9 : ∀ w ∈ u_ws RX9 TX9 4, w ∈ sd_gd := by
  intro w hw
  obtain ⟨j, hj, rfl⟩ := List.mem_map.mp hw
  have hj := List.mem_range.mp hj
  match j, hj with
  | 0, _ => exact sd_gd_in (sd_m1 (i := 238) (by decide +kernel)) rfl
  | 1, _ => exact sd_gd_in (sd_m2 (i := 0) (by decide +kernel)) rfl
  | 2, _ => exact sd_gd_in (sd_m2 (i := 2) (by decide +kernel)) rfl
  | 3, _ => exact sd_gd_in (sd_m2 (i := 4) (by decide +kernel)) rfl
theorem wV_X10 : ∀ w ∈ u_ws RX10 TX10 0, w ∈ sd_gd := by
  intro w hw
  exact absurd hw List.not_mem_nil
theorem wV_X11 : ∀ w ∈ u_ws RX11 TX11 9, w ∈ sd_gd := by
  intro w hw
  obtain ⟨j, hj, rfl⟩ := List.mem_map.mp hw
  have hj := List.mem_range.mp hj
  match j, hj with
  | 0, _ => exact sd_gd_in (sd_m2 (i := 17) (by decide +kernel)) rfl
  | 1, _ => exact sd_gd_in (sd_m2 (i := 19) (by decide +kernel)) rfl
  | 2, _ => exact sd_gd_in (sd_m2 (i := 21) (by decide +kernel)) rfl
  | 3, _ => exact sd_gd_in (sd_m2 (i := 23) (by decide +kernel)) rfl
  | 4, _ => exact sd_gd_in (sd_m2 (i := 25) (by decide +kernel)) rfl
  | 5, _ => exact sd_gd_in (sd_m2 (i := 27) (by decide +kernel)) rfl
  | 6, _ => exact sd_gd_in (sd_m2 (i := 29) (by decide +kernel)) rfl
  | 7, _ => exact sd_gd_in (sd_m2 (i := 31) (by decide +kernel)) rfl
  | 8, _ => exact sd_gd_in (sd_m2 (i := 33) (by decide +kernel)) rfl
theorem wV_X12 : ∀ w ∈ u_ws RX12 TX12 12, w ∈ sd_gd := by
  intro w hw
  obtain ⟨j, hj, rfl⟩ := List.mem_map.mp hw
  have hj := List.mem_range.mp hj
  match j, hj with
  | 0, _ => exact sd_gd_in (sd_m4 (i := 110) (by decide +kernel)) rfl
  | 1, _ => exact sd_gd_in (sd_m4 (i := 112) (by decide +kernel)) rfl
  | 2, _ => exact sd_gd_in (sd_m4 (i := 114) (by decide +kernel)) rfl
  | 3, _ => exact sd_gd_in (sd_m4 (i := 116) (by decide +kernel)) rfl
  | 4, _ => exact sd_gd_in (sd_m4 (i := 118) (by decide +kernel)) rfl
  | 5, _ => exact sd_gd_in (sd_m4 (i := 120) (by decide +kernel)) rfl
  | 6, _ => exact sd_gd_in (sd_m4 (i := 122) (by decide +kernel)) rfl
  | 7, _ => exact sd_gd_in (sd_m4 (i := 124) (by decide +kernel)) rfl
  | 8, _ => exact sd_gd_in (sd_m4 (i := 126) (by decide +kernel)) rfl
  | 9, _ => exact sd_gd_in (sd_m4 (i := 128) (by decide +kernel)) rfl
  | 10, _ => exact sd_gd_in (sd_m4 (i := 130) (by decide +kernel)) rfl
  | 11, _ => exact sd_gd_in (sd_m4 (i := 132) (by decide +kernel)) rfl
def muJ0_checkBoundsBeginEnd_23922 : sd_M0 := (yJ0_checkBoundsBeginEnd_23922, cJ0_checkBoundsBeginEnd_23922, 3, none, { frames := 1, cells := 0, slots := 0, locals := 23 })
def muJ0_coder_7d493 : sd_M0 := (yJ0_coder_7d493, cJ0_coder_7d493, 1, (some .byte), { frames := 0, cells := 0, slots := 0, locals := 0 })
def muJ0_indexOf_0f7a4 : sd_M0 := (yJ0_indexOf_0f7a4, cJ0_indexOf_0f7a4, 2, (some .int), { frames := 6, cells := 0, slots := 0, locals := 138 })
def muJ0_indexOf_7cf53 : sd_M0 := (yJ0_indexOf_7cf53, cJ0_indexOf_7cf53, 3, (some .int), { frames := 5, cells := 0, slots := 0, locals := 116 })
def muJ0_isLatin1_aae02 : sd_M0 := (yJ0_isLatin1_aae02, cJ0_isLatin1_aae02, 1, (some .boolean), { frames := 0, cells := 0, slots := 0, locals := 0 })
def muJ0_length_8abf5 : sd_M0 := (yJ0_length_8abf5, cJ0_length_8abf5, 1, (some .int), { frames := 1, cells := 0, slots := 0, locals := 20 })
def muJ1_canEncode_9a6ad : sd_M0 := (yJ1_canEncode_9a6ad, cJ1_canEncode_9a6ad, 1, (some .boolean), { frames := 0, cells := 0, slots := 0, locals := 0 })
def muJ1_indexOfChar_4cfef : sd_M0 := (yJ1_indexOfChar_4cfef, cJ1_indexOfChar_4cfef, 6, (some .int), { frames := 0, cells := 0, slots := 0, locals := 0 })
def muJ1_indexOf_4cfef : sd_M0 := (yJ1_indexOf_4cfef, cJ1_indexOf_4cfef, 4, (some .int), { frames := 1, cells := 0, slots := 0, locals := 25 })
def muJ2_checkBoundsBeginEnd_d044e : sd_M0 := (yJ2_checkBoundsBeginEnd_d044e, cJ2_checkBoundsBeginEnd_d044e, 3, none, { frames := 2, cells := 0, slots := 0, locals := 45 })
def muJ2_getChar_3b067 : sd_M0 := (yJ2_getChar_3b067, cJ2_getChar_3b067, 2, (some .char), { frames := 1, cells := 0, slots := 0, locals := 20 })
def muJ2_indexOfCharUnsafe_4cfef : sd_M0 := (yJ2_indexOfCharUnsafe_4cfef, cJ2_indexOfCharUnsafe_4cfef, 5, (some .int), { frames := 2, cells := 0, slots := 0, locals := 41 })
def muJ2_indexOfChar_4cfef : sd_M0 := (yJ2_indexOfChar_4cfef, cJ2_indexOfChar_4cfef, 4, (some .int), { frames := 3, cells := 0, slots := 0, locals := 67 })
def muJ2_indexOfSupplementary_4cfef : sd_M0 := (yJ2_indexOfSupplementary_4cfef, cJ2_indexOfSupplementary_4cfef, 7, (some .int), { frames := 3, cells := 0, slots := 0, locals := 67 })
def muJ2_indexOf_4cfef : sd_M0 := (yJ2_indexOf_4cfef, cJ2_indexOf_4cfef, 4, (some .int), { frames := 4, cells := 0, slots := 0, locals := 93 })
def muJ2_length_9d52b : sd_M0 := (yJ2_length_9d52b, cJ2_length_9d52b, 1, (some .int), { frames := 0, cells := 0, slots := 0, locals := 0 })
def muJ3_checkFromToIndex_8c36e : sd_M0 := (yJ3_checkFromToIndex_8c36e, cJ3_checkFromToIndex_8c36e, 4, (some .int), { frames := 0, cells := 0, slots := 0, locals := 0 })
def muJ6_bitCount_0f7a4 : sd_M0 := (yJ6_bitCount_0f7a4, cJ6_bitCount_0f7a4, 1, (some .int), { frames := 0, cells := 0, slots := 0, locals := 0 })
def muJ9_max_7cf53 : sd_M0 := (yJ9_max_7cf53, cJ9_max_7cf53, 2, (some .int), { frames := 0, cells := 0, slots := 0, locals := 0 })
def muJ9_min_7cf53 : sd_M0 := (yJ9_min_7cf53, cJ9_min_7cf53, 2, (some .int), { frames := 0, cells := 0, slots := 0, locals := 0 })
def muJ11_highSurrogate_5068e : sd_M0 := (yJ11_highSurrogate_5068e, cJ11_highSurrogate_5068e, 1, (some .char), { frames := 0, cells := 0, slots := 0, locals := 0 })
def muJ11_isValidCodePoint_9a6ad : sd_M0 := (yJ11_isValidCodePoint_9a6ad, cJ11_isValidCodePoint_9a6ad, 2, (some .boolean), { frames := 0, cells := 0, slots := 0, locals := 0 })
def muJ11_lowSurrogate_5068e : sd_M0 := (yJ11_lowSurrogate_5068e, cJ11_lowSurrogate_5068e, 1, (some .char), { frames := 0, cells := 0, slots := 0, locals := 0 })
def muX0_init : sd_M0 := (yX0_init, cX0_init, 1, none, { frames := 2, cells := 0, slots := 0, locals := 42 })
def muX0_leftBehind : sd_M0 := (yX0_leftBehind, cX0_leftBehind, 4, (some .int), { frames := 0, cells := 0, slots := 0, locals := 0 })
def muX1_init : sd_M0 := (yX1_init, cX1_init, 1, none, { frames := 2, cells := 0, slots := 0, locals := 42 })
def muX1_leftBehind : sd_M0 := (yX1_leftBehind, cX1_leftBehind, 4, (some .int), { frames := 1, cells := 0, slots := 0, locals := 21 })
def muX1_loudness : sd_M0 := (yX1_loudness, cX1_loudness, 3, (some .int), { frames := 0, cells := 0, slots := 0, locals := 0 })
def muX2_addSleeper : sd_M0 := (yX2_addSleeper, cX2_addSleeper, 3, none, { frames := 0, cells := 0, slots := 0, locals := 0 })
def muX2_addThing : sd_M0 := (yX2_addThing, cX2_addThing, 5, none, { frames := 2, cells := 0, slots := 0, locals := 41 })
def muX2_clear : sd_M0 := (yX2_clear, cX2_clear, 2, none, { frames := 0, cells := 0, slots := 0, locals := 0 })
def muX2_hasSleeper : sd_M0 := (yX2_hasSleeper, cX2_hasSleeper, 2, (some .boolean), { frames := 1, cells := 0, slots := 0, locals := 22 })
def muX2_hasThing : sd_M0 := (yX2_hasThing, cX2_hasThing, 2, (some .boolean), { frames := 1, cells := 0, slots := 0, locals := 22 })
def muX2_init : sd_M0 := (yX2_init, cX2_init, 1, none, { frames := 4, cells := 17, slots := 76, locals := 82 })
def muX2_isAsleep : sd_M0 := (yX2_isAsleep, cX2_isAsleep, 2, (some .boolean), { frames := 0, cells := 0, slots := 0, locals := 0 })
def muX2_leftBehind : sd_M0 := (yX2_leftBehind, cX2_leftBehind, 5, (some .int), { frames := 3, cells := 0, slots := 0, locals := 67 })
def muX2_listen : sd_M0 := (yX2_listen, cX2_listen, 2, none, { frames := 3, cells := 0, slots := 0, locals := 67 })
def muX2_loudOfAll : sd_M0 := (yX2_loudOfAll, cX2_loudOfAll, 1, (some .int), { frames := 4, cells := 0, slots := 0, locals := 90 })
def muX2_loudOfSet : sd_M0 := (yX2_loudOfSet, cX2_loudOfSet, 4, (some .int), { frames := 3, cells := 0, slots := 0, locals := 67 })
def muX2_loudWith : sd_M0 := (yX2_loudWith, cX2_loudWith, 4, (some .int), { frames := 2, cells := 0, slots := 0, locals := 44 })
def muX2_moveByDraw : sd_M0 := (yX2_moveByDraw, cX2_moveByDraw, 2, none, { frames := 0, cells := 0, slots := 0, locals := 0 })
def muX2_placesOf : sd_M0 := (yX2_placesOf, cX2_placesOf, 5, (some .int), { frames := 0, cells := 0, slots := 0, locals := 0 })
def muX2_silentThings : sd_M0 := (yX2_silentThings, cX2_silentThings, 1, (some .int), { frames := 1, cells := 0, slots := 0, locals := 24 })
def muX2_sleepersIn : sd_M0 := (yX2_sleepersIn, cX2_sleepersIn, 2, (some .int), { frames := 1, cells := 0, slots := 0, locals := 24 })
def muX2_spendNight : sd_M0 := (yX2_spendNight, cX2_spendNight, 3, (some .int), { frames := 4, cells := 0, slots := 0, locals := 91 })
def muX2_takeAll : sd_M0 := (yX2_takeAll, cX2_takeAll, 2, none, { frames := 2, cells := 0, slots := 0, locals := 49 })
def muX2_thingsIn : sd_M0 := (yX2_thingsIn, cX2_thingsIn, 2, (some .int), { frames := 1, cells := 0, slots := 0, locals := 24 })
def muX2_thingsOf : sd_M0 := (yX2_thingsOf, cX2_thingsOf, 2, (some .int), { frames := 1, cells := 0, slots := 0, locals := 24 })
def muX3_init : sd_M0 := (yX3_init, cX3_init, 1, none, { frames := 3, cells := 0, slots := 0, locals := 62 })
def muX3_leftBehind : sd_M0 := (yX3_leftBehind, cX3_leftBehind, 4, (some .int), { frames := 1, cells := 0, slots := 0, locals := 23 })
def muX3_loudness : sd_M0 := (yX3_loudness, cX3_loudness, 3, (some .int), { frames := 0, cells := 0, slots := 0, locals := 0 })
def muX4_init : sd_M0 := (yX4_init, cX4_init, 1, none, { frames := 1, cells := 5, slots := 34, locals := 22 })
def muX4_takeAll : sd_M0 := (yX4_takeAll, cX4_takeAll, 2, none, { frames := 1, cells := 0, slots := 0, locals := 28 })
def muX5_init : sd_M0 := (yX5_init, cX5_init, 1, none, { frames := 1, cells := 3, slots := 500, locals := 22 })
def muX5_isQuietWithout : sd_M0 := (yX5_isQuietWithout, cX5_isQuietWithout, 4, (some .boolean), { frames := 3, cells := 0, slots := 0, locals := 69 })
def muX5_listen : sd_M0 := (yX5_listen, cX5_listen, 4, none, { frames := 1, cells := 0, slots := 0, locals := 21 })
def muX5_look : sd_M0 := (yX5_look, cX5_look, 6, none, { frames := 4, cells := 0, slots := 0, locals := 91 })
def muX5_swapRooms : sd_M0 := (yX5_swapRooms, cX5_swapRooms, 6, none, { frames := 0, cells := 0, slots := 0, locals := 0 })
def muX5_wakings : sd_M0 := (yX5_wakings, cX5_wakings, 4, (some .int), { frames := 3, cells := 0, slots := 0, locals := 69 })
def muX5_wakingsIn : sd_M0 := (yX5_wakingsIn, cX5_wakingsIn, 5, (some .int), { frames := 2, cells := 0, slots := 0, locals := 44 })
def muX5_wokenIn : sd_M0 := (yX5_wokenIn, cX5_wokenIn, 6, (some .int), { frames := 2, cells := 0, slots := 0, locals := 44 })
def muX6_bringBack : sd_M0 := (yX6_bringBack, cX6_bringBack, 2, none, { frames := 2, cells := 0, slots := 0, locals := 49 })
def muX6_forget : sd_M0 := (yX6_forget, cX6_forget, 1, none, { frames := 0, cells := 0, slots := 0, locals := 0 })
def muX6_init : sd_M0 := (yX6_init, cX6_init, 2, none, { frames := 2, cells := 49, slots := 336, locals := 42 })
def muX6_keep : sd_M0 := (yX6_keep, cX6_keep, 2, none, { frames := 2, cells := 0, slots := 0, locals := 49 })
def muX6_takeAll : sd_M0 := (yX6_takeAll, cX6_takeAll, 3, none, { frames := 2, cells := 0, slots := 0, locals := 49 })
def muX7_init : sd_M0 := (yX7_init, cX7_init, 1, none, { frames := 1, cells := 0, slots := 0, locals := 22 })
def muX7_leftBehind : sd_M0 := (yX7_leftBehind, cX7_leftBehind, 4, (some .int), { frames := 1, cells := 0, slots := 0, locals := 21 })
def muX7_loudness : sd_M0 := (yX7_loudness, cX7_loudness, 3, (some .int), { frames := 0, cells := 0, slots := 0, locals := 0 })
def muX8_addLetter : sd_M0 := (yX8_addLetter, cX8_addLetter, 2, none, { frames := 0, cells := 0, slots := 0, locals := 0 })
def muX8_clear : sd_M0 := (yX8_clear, cX8_clear, 1, none, { frames := 0, cells := 0, slots := 0, locals := 0 })
def muX8_digitHere : sd_M0 := (yX8_digitHere, cX8_digitHere, 1, (some .int), { frames := 0, cells := 0, slots := 0, locals := 0 })
def muX8_init : sd_M0 := (yX8_init, cX8_init, 1, none, { frames := 1, cells := 1, slots := 80, locals := 22 })
def muX8_readDigit : sd_M0 := (yX8_readDigit, cX8_readDigit, 4, (some .int), { frames := 1, cells := 0, slots := 0, locals := 22 })
def muX8_readHouse : sd_M0 := (yX8_readHouse, cX8_readHouse, 2, (some .boolean), { frames := 10, cells := 0, slots := 0, locals := 228 })
def muX8_readKind : sd_M0 := (yX8_readKind, cX8_readKind, 2, (some .int), { frames := 7, cells := 0, slots := 0, locals := 159 })
def muX8_readNumber : sd_M0 := (yX8_readNumber, cX8_readNumber, 4, (some .int), { frames := 2, cells := 0, slots := 0, locals := 45 })
def muX8_readSleeper : sd_M0 := (yX8_readSleeper, cX8_readSleeper, 4, (some .boolean), { frames := 3, cells := 0, slots := 0, locals := 68 })
def muX8_readSleepers : sd_M0 := (yX8_readSleepers, cX8_readSleepers, 4, (some .boolean), { frames := 4, cells := 0, slots := 0, locals := 91 })
def muX8_readThing : sd_M0 := (yX8_readThing, cX8_readThing, 6, (some .boolean), { frames := 8, cells := 0, slots := 0, locals := 180 })
def muX8_readThings : sd_M0 := (yX8_readThings, cX8_readThings, 4, (some .boolean), { frames := 9, cells := 0, slots := 0, locals := 205 })
def muX8_skipBlanks : sd_M0 := (yX8_skipBlanks, cX8_skipBlanks, 1, none, { frames := 0, cells := 0, slots := 0, locals := 0 })
def muX8_takes : sd_M0 := (yX8_takes, cX8_takes, 2, (some .boolean), { frames := 1, cells := 0, slots := 0, locals := 20 })
def muX9_init : sd_M0 := (yX9_init, cX9_init, 1, none, { frames := 1, cells := 1, slots := 24, locals := 22 })
def muX9_put : sd_M0 := (yX9_put, cX9_put, 4, none, { frames := 0, cells := 0, slots := 0, locals := 0 })
def muX9_refusal : sd_M0 := (yX9_refusal, cX9_refusal, 4, (some .int), { frames := 1, cells := 0, slots := 0, locals := 22 })
def muX9_renew : sd_M0 := (yX9_renew, cX9_renew, 4, none, { frames := 0, cells := 0, slots := 0, locals := 0 })
def muX9_spans : sd_M0 := (yX9_spans, cX9_spans, 3, (some .boolean), { frames := 0, cells := 0, slots := 0, locals := 0 })
def muX10_init : sd_M0 := (yX10_init, cX10_init, 1, none, { frames := 3, cells := 0, slots := 0, locals := 62 })
def muX10_leftBehind : sd_M0 := (yX10_leftBehind, cX10_leftBehind, 4, (some .int), { frames := 2, cells := 0, slots := 0, locals := 44 })
def muX10_loudness : sd_M0 := (yX10_loudness, cX10_loudness, 3, (some .int), { frames := 1, cells := 0, slots := 0, locals := 22 })
def muX11_ahead : sd_M0 := (yX11_ahead, cX11_ahead, 5, (some .int), { frames := 4, cells := 0, slots := 0, locals := 91 })
def muX11_back : sd_M0 := (yX11_back, cX11_back, 3, (some .int), { frames := 3, cells := 0, slots := 0, locals := 70 })
def muX11_backs : sd_M0 := (yX11_backs, cX11_backs, 5, (some .int), { frames := 5, cells := 0, slots := 0, locals := 116 })
def muX11_bed : sd_M0 := (yX11_bed, cX11_bed, 4, (some .int), { frames := 2, cells := 0, slots := 0, locals := 43 })
def muX11_best : sd_M0 := (yX11_best, cX11_best, 8, (some .int), { frames := 5, cells := 0, slots := 0, locals := 116 })
def muX11_bestBed : sd_M0 := (yX11_bestBed, cX11_bestBed, 8, (some .int), { frames := 5, cells := 0, slots := 0, locals := 116 })
def muX11_change : sd_M0 := (yX11_change, cX11_change, 8, (some .int), { frames := 5, cells := 0, slots := 0, locals := 116 })
def muX11_copy : sd_M0 := (yX11_copy, cX11_copy, 8, (some .int), { frames := 2, cells := 0, slots := 0, locals := 42 })
def muX11_count : sd_M0 := (yX11_count, cX11_count, 2, (some .int), { frames := 5, cells := 0, slots := 0, locals := 110 })
def muX11_dearsHeard : sd_M0 := (yX11_dearsHeard, cX11_dearsHeard, 7, (some .int), { frames := 5, cells := 0, slots := 0, locals := 119 })
def muX11_drift : sd_M0 := (yX11_drift, cX11_drift, 2, (some .int), { frames := 6, cells := 0, slots := 0, locals := 137 })
def muX11_drop : sd_M0 := (yX11_drop, cX11_drop, 2, (some .int), { frames := 2, cells := 0, slots := 0, locals := 42 })
def muX11_film : sd_M0 := (yX11_film, cX11_film, 9, (some .int), { frames := 4, cells := 0, slots := 0, locals := 91 })
def muX11_gift : sd_M0 := (yX11_gift, cX11_gift, 3, (some .int), { frames := 3, cells := 0, slots := 0, locals := 67 })
def muX11_greatestCommon : sd_M0 := (yX11_greatestCommon, cX11_greatestCommon, 6, (some .int), { frames := 0, cells := 0, slots := 0, locals := 0 })
def muX11_heard : sd_M0 := (yX11_heard, cX11_heard, 8, (some .int), { frames := 6, cells := 0, slots := 0, locals := 145 })
def muX11_house : sd_M0 := (yX11_house, cX11_house, 3, (some .int), { frames := 11, cells := 0, slots := 0, locals := 249 })
def muX11_image : sd_M0 := (yX11_image, cX11_image, 1, (some .int), { frames := 3, cells := 0, slots := 0, locals := 71 })
def muX11_init : sd_M0 := (yX11_init, cX11_init, 1, none, { frames := 5, cells := 169, slots := 1637, locals := 102 })
def muX11_isGiver : sd_M0 := (yX11_isGiver, cX11_isGiver, 1, (some .boolean), { frames := 1, cells := 0, slots := 0, locals := 22 })
def muX11_isHeardAs : sd_M0 := (yX11_isHeardAs, cX11_isHeardAs, 9, (some .boolean), { frames := 4, cells := 0, slots := 0, locals := 91 })
def muX11_isIn : sd_M0 := (yX11_isIn, cX11_isIn, 2, (some .boolean), { frames := 0, cells := 0, slots := 0, locals := 0 })
def muX11_isLane : sd_M0 := (yX11_isLane, cX11_isLane, 1, (some .boolean), { frames := 1, cells := 0, slots := 0, locals := 22 })
def muX11_isRoom : sd_M0 := (yX11_isRoom, cX11_isRoom, 1, (some .boolean), { frames := 1, cells := 0, slots := 0, locals := 22 })
def muX11_isSheet : sd_M0 := (yX11_isSheet, cX11_isSheet, 1, (some .boolean), { frames := 1, cells := 0, slots := 0, locals := 22 })
def muX11_item : sd_M0 := (yX11_item, cX11_item, 7, (some .int), { frames := 2, cells := 0, slots := 0, locals := 45 })
def muX11_kindsHeard : sd_M0 := (yX11_kindsHeard, cX11_kindsHeard, 7, (some .int), { frames := 5, cells := 0, slots := 0, locals := 119 })
def muX11_leftAtFirst : sd_M0 := (yX11_leftAtFirst, cX11_leftAtFirst, 1, (some .int), { frames := 1, cells := 0, slots := 0, locals := 21 })
def muX11_loudAhead : sd_M0 := (yX11_loudAhead, cX11_loudAhead, 3, (some .int), { frames := 5, cells := 0, slots := 0, locals := 116 })
def muX11_luck : sd_M0 := (yX11_luck, cX11_luck, 9, (some .int), { frames := 4, cells := 0, slots := 0, locals := 90 })
def muX11_move : sd_M0 := (yX11_move, cX11_move, 4, (some .int), { frames := 3, cells := 0, slots := 0, locals := 70 })
def muX11_nights : sd_M0 := (yX11_nights, cX11_nights, 2, (some .int), { frames := 6, cells := 0, slots := 0, locals := 137 })
def muX11_of : sd_M0 := (yX11_of, cX11_of, 3, (some .int), { frames := 4, cells := 0, slots := 0, locals := 88 })
def muX11_pass : sd_M0 := (yX11_pass, cX11_pass, 4, (some .int), { frames := 3, cells := 0, slots := 0, locals := 70 })
def muX11_peace : sd_M0 := (yX11_peace, cX11_peace, 2, (some .int), { frames := 5, cells := 0, slots := 0, locals := 116 })
def muX11_restore : sd_M0 := (yX11_restore, cX11_restore, 1, (some .int), { frames := 3, cells := 0, slots := 0, locals := 71 })
def muX11_room : sd_M0 := (yX11_room, cX11_room, 3, (some .int), { frames := 4, cells := 0, slots := 0, locals := 88 })
def muX11_seed : sd_M0 := (yX11_seed, cX11_seed, 3, (some .int), { frames := 0, cells := 0, slots := 0, locals := 0 })
def muX11_sheet : sd_M0 := (yX11_sheet, cX11_sheet, 4, (some .int), { frames := 2, cells := 0, slots := 0, locals := 42 })
def muX11_sleeper : sd_M0 := (yX11_sleeper, cX11_sleeper, 3, (some .int), { frames := 2, cells := 0, slots := 0, locals := 42 })
def muX11_sleeps : sd_M0 := (yX11_sleeps, cX11_sleeps, 3, (some .int), { frames := 5, cells := 0, slots := 0, locals := 116 })
def muX11_spendNights : sd_M0 := (yX11_spendNights, cX11_spendNights, 5, (some .int), { frames := 5, cells := 0, slots := 0, locals := 113 })
def muX11_sum : sd_M0 := (yX11_sum, cX11_sum, 4, (some .int), { frames := 0, cells := 0, slots := 0, locals := 0 })
def muX11_thanked : sd_M0 := (yX11_thanked, cX11_thanked, 2, (some .int), { frames := 4, cells := 0, slots := 0, locals := 90 })
def muX11_thing : sd_M0 := (yX11_thing, cX11_thing, 5, (some .int), { frames := 3, cells := 0, slots := 0, locals := 65 })
def muX11_type : sd_M0 := (yX11_type, cX11_type, 2, (some .int), { frames := 1, cells := 0, slots := 0, locals := 22 })
def muX11_undo : sd_M0 := (yX11_undo, cX11_undo, 1, (some .int), { frames := 3, cells := 0, slots := 0, locals := 70 })
def muX11_ways : sd_M0 := (yX11_ways, cX11_ways, 6, (some .int), { frames := 1, cells := 0, slots := 0, locals := 21 })
def muX11_within : sd_M0 := (yX11_within, cX11_within, 3, (some .boolean), { frames := 0, cells := 0, slots := 0, locals := 0 })
def muX12_addSleeper : sd_M0 := (yX12_addSleeper, cX12_addSleeper, 4, (some .int), { frames := 0, cells := 0, slots := 0, locals := 0 })
def muX12_addThing : sd_M0 := (yX12_addThing, cX12_addThing, 6, (some .int), { frames := 1, cells := 0, slots := 0, locals := 20 })
def muX12_ahead : sd_M0 := (yX12_ahead, cX12_ahead, 3, (some .int), { frames := 6, cells := 0, slots := 0, locals := 131 })
def muX12_back : sd_M0 := (yX12_back, cX12_back, 3, (some .int), { frames := 2, cells := 0, slots := 0, locals := 45 })
def muX12_backs : sd_M0 := (yX12_backs, cX12_backs, 6, (some .int), { frames := 6, cells := 0, slots := 0, locals := 132 })
def muX12_bed : sd_M0 := (yX12_bed, cX12_bed, 4, (some .int), { frames := 2, cells := 0, slots := 0, locals := 43 })
def muX12_begin : sd_M0 := (yX12_begin, cX12_begin, 1, none, { frames := 1, cells := 0, slots := 0, locals := 25 })
def muX12_best : sd_M0 := (yX12_best, cX12_best, 8, (some .int), { frames := 6, cells := 0, slots := 0, locals := 132 })
def muX12_bestBed : sd_M0 := (yX12_bestBed, cX12_bestBed, 8, (some .int), { frames := 6, cells := 0, slots := 0, locals := 132 })
def muX12_bits : sd_M0 := (yX12_bits, cX12_bits, 3, (some .int), { frames := 0, cells := 0, slots := 0, locals := 0 })
def muX12_bring : sd_M0 := (yX12_bring, cX12_bring, 6, none, { frames := 0, cells := 0, slots := 0, locals := 0 })
def muX12_change : sd_M0 := (yX12_change, cX12_change, 9, (some .int), { frames := 6, cells := 0, slots := 0, locals := 132 })
def muX12_copy : sd_M0 := (yX12_copy, cX12_copy, 9, (some .int), { frames := 2, cells := 0, slots := 0, locals := 42 })
def muX12_count : sd_M0 := (yX12_count, cX12_count, 4, (some .int), { frames := 2, cells := 0, slots := 0, locals := 44 })
def muX12_drift : sd_M0 := (yX12_drift, cX12_drift, 5, (some .int), { frames := 5, cells := 0, slots := 0, locals := 109 })
def muX12_drop : sd_M0 := (yX12_drop, cX12_drop, 2, (some .int), { frames := 2, cells := 0, slots := 0, locals := 42 })
def muX12_film : sd_M0 := (yX12_film, cX12_film, 8, (some .int), { frames := 5, cells := 0, slots := 0, locals := 109 })
def muX12_firstLeft : sd_M0 := (yX12_firstLeft, cX12_firstLeft, 1, (some .int), { frames := 0, cells := 0, slots := 0, locals := 0 })
def muX12_gift : sd_M0 := (yX12_gift, cX12_gift, 3, (some .int), { frames := 2, cells := 0, slots := 0, locals := 44 })
def muX12_goBy : sd_M0 := (yX12_goBy, cX12_goBy, 2, none, { frames := 4, cells := 0, slots := 0, locals := 88 })
def muX12_goOn : sd_M0 := (yX12_goOn, cX12_goOn, 3, none, { frames := 5, cells := 0, slots := 0, locals := 109 })
def muX12_has : sd_M0 := (yX12_has, cX12_has, 2, (some .boolean), { frames := 0, cells := 0, slots := 0, locals := 0 })
def muX12_heard : sd_M0 := (yX12_heard, cX12_heard, 13, (some .int), { frames := 2, cells := 0, slots := 0, locals := 46 })
def muX12_house : sd_M0 := (yX12_house, cX12_house, 2, (some .int), { frames := 5, cells := 0, slots := 0, locals := 108 })
def muX12_image : sd_M0 := (yX12_image, cX12_image, 1, (some .int), { frames := 1, cells := 0, slots := 0, locals := 25 })
def muX12_in : sd_M0 := (yX12_in, cX12_in, 3, (some .boolean), { frames := 0, cells := 0, slots := 0, locals := 0 })
def muX12_init : sd_M0 := (yX12_init, cX12_init, 2, none, { frames := 1, cells := 8, slots := 1596, locals := 22 })
def muX12_isAsleep : sd_M0 := (yX12_isAsleep, cX12_isAsleep, 2, (some .boolean), { frames := 3, cells := 0, slots := 0, locals := 67 })
def muX12_isDigit : sd_M0 := (yX12_isDigit, cX12_isDigit, 3, (some .boolean), { frames := 1, cells := 0, slots := 0, locals := 22 })
def muX12_isHouse : sd_M0 := (yX12_isHouse, cX12_isHouse, 2, (some .boolean), { frames := 4, cells := 0, slots := 0, locals := 87 })
def muX12_isNumber : sd_M0 := (yX12_isNumber, cX12_isNumber, 3, (some .boolean), { frames := 2, cells := 0, slots := 0, locals := 44 })
def muX12_isPart : sd_M0 := (yX12_isPart, cX12_isPart, 3, (some .boolean), { frames := 0, cells := 0, slots := 0, locals := 0 })
def muX12_isRoom : sd_M0 := (yX12_isRoom, cX12_isRoom, 1, (some .boolean), { frames := 1, cells := 0, slots := 0, locals := 22 })
def muX12_isSheet : sd_M0 := (yX12_isSheet, cX12_isSheet, 1, (some .boolean), { frames := 1, cells := 0, slots := 0, locals := 22 })
def muX12_isSign : sd_M0 := (yX12_isSign, cX12_isSign, 2, (some .boolean), { frames := 1, cells := 0, slots := 0, locals := 20 })
def muX12_isSleeper : sd_M0 := (yX12_isSleeper, cX12_isSleeper, 2, (some .boolean), { frames := 1, cells := 0, slots := 0, locals := 22 })
def muX12_isSleeperItem : sd_M0 := (yX12_isSleeperItem, cX12_isSleeperItem, 2, (some .boolean), { frames := 3, cells := 0, slots := 0, locals := 66 })
def muX12_isThing : sd_M0 := (yX12_isThing, cX12_isThing, 2, (some .boolean), { frames := 1, cells := 0, slots := 0, locals := 22 })
def muX12_isThingItem : sd_M0 := (yX12_isThingItem, cX12_isThingItem, 4, (some .boolean), { frames := 2, cells := 0, slots := 0, locals := 45 })
def muX12_item : sd_M0 := (yX12_item, cX12_item, 7, (some .int), { frames := 2, cells := 0, slots := 0, locals := 46 })
def muX12_kindBy : sd_M0 := (yX12_kindBy, cX12_kindBy, 1, (some .int), { frames := 0, cells := 0, slots := 0, locals := 0 })
def muX12_leftBy : sd_M0 := (yX12_leftBy, cX12_leftBy, 5, (some .int), { frames := 0, cells := 0, slots := 0, locals := 0 })
def muX12_loudAhead : sd_M0 := (yX12_loudAhead, cX12_loudAhead, 3, (some .int), { frames := 6, cells := 0, slots := 0, locals := 131 })
def muX12_loudBy : sd_M0 := (yX12_loudBy, cX12_loudBy, 4, (some .int), { frames := 0, cells := 0, slots := 0, locals := 0 })
def muX12_loudIn : sd_M0 := (yX12_loudIn, cX12_loudIn, 4, (some .int), { frames := 2, cells := 0, slots := 0, locals := 44 })
def muX12_loudOf : sd_M0 := (yX12_loudOf, cX12_loudOf, 2, (some .int), { frames := 1, cells := 0, slots := 0, locals := 23 })
def muX12_luck : sd_M0 := (yX12_luck, cX12_luck, 10, (some .int), { frames := 2, cells := 0, slots := 0, locals := 44 })
def muX12_move : sd_M0 := (yX12_move, cX12_move, 4, (some .int), { frames := 2, cells := 0, slots := 0, locals := 45 })
def muX12_nights : sd_M0 := (yX12_nights, cX12_nights, 4, (some .int), { frames := 5, cells := 0, slots := 0, locals := 109 })
def muX12_note : sd_M0 := (yX12_note, cX12_note, 1, none, { frames := 1, cells := 0, slots := 0, locals := 25 })
def muX12_of : sd_M0 := (yX12_of, cX12_of, 3, (some .int), { frames := 4, cells := 0, slots := 0, locals := 88 })
def muX12_pass : sd_M0 := (yX12_pass, cX12_pass, 4, (some .int), { frames := 2, cells := 0, slots := 0, locals := 45 })
def muX12_peace : sd_M0 := (yX12_peace, cX12_peace, 3, (some .int), { frames := 5, cells := 0, slots := 0, locals := 109 })
def muX12_peek : sd_M0 := (yX12_peek, cX12_peek, 1, (some .int), { frames := 0, cells := 0, slots := 0, locals := 0 })
def muX12_restore : sd_M0 := (yX12_restore, cX12_restore, 1, (some .int), { frames := 1, cells := 0, slots := 0, locals := 25 })
def muX12_room : sd_M0 := (yX12_room, cX12_room, 6, (some .int), { frames := 3, cells := 0, slots := 0, locals := 67 })
def muX12_seed : sd_M0 := (yX12_seed, cX12_seed, 3, (some .int), { frames := 0, cells := 0, slots := 0, locals := 0 })
def muX12_sheet : sd_M0 := (yX12_sheet, cX12_sheet, 5, (some .int), { frames := 2, cells := 0, slots := 0, locals := 42 })
def muX12_sleeper : sd_M0 := (yX12_sleeper, cX12_sleeper, 3, (some .int), { frames := 2, cells := 0, slots := 0, locals := 42 })
def muX12_sleeps : sd_M0 := (yX12_sleeps, cX12_sleeps, 3, (some .int), { frames := 6, cells := 0, slots := 0, locals := 131 })
def muX12_thanked : sd_M0 := (yX12_thanked, cX12_thanked, 4, (some .int), { frames := 2, cells := 0, slots := 0, locals := 44 })
def muX12_thing : sd_M0 := (yX12_thing, cX12_thing, 5, (some .int), { frames := 2, cells := 0, slots := 0, locals := 45 })
def muX12_type : sd_M0 := (yX12_type, cX12_type, 2, (some .int), { frames := 1, cells := 0, slots := 0, locals := 22 })
def muX12_undo : sd_M0 := (yX12_undo, cX12_undo, 1, (some .int), { frames := 1, cells := 0, slots := 0, locals := 25 })
def muX12_wokenIn : sd_M0 := (yX12_wokenIn, cX12_wokenIn, 3, (some .int), { frames := 0, cells := 0, slots := 0, locals := 0 })
def muX12_wokenOn : sd_M0 := (yX12_wokenOn, cX12_wokenOn, 4, (some .int), { frames := 5, cells := 0, slots := 0, locals := 109 })
def muX12_wrong : sd_M0 := (yX12_wrong, cX12_wrong, 5, (some .int), { frames := 1, cells := 0, slots := 0, locals := 22 })
def muL_law : sd_M0 := (x, code, 4, ret, room_1)
end
section
-- the flat world: cells by number, their ints in I, their longs in J; a reference k stands for the cell base + k
abbrev sd_C : Type := Nat × Nat × List (Option Nat)
abbrev sd_I : Type := Nat → Nat → Int32
abbrev sd_J : Type := Nat → Nat → Int64
abbrev sd_S : Type := List sd_C × (Nat × (Nat → Int32)) × sd_I × sd_J
abbrev sd_M : Type := sd_M0
abbrev sd_G : Type := va_G × (Nat → ClassId) × Heap × Nat × Nat × Nat
theorem sd_goodIn {ws : List Cond} (h : ∀ w ∈ ws, w ∈ sd_gd) : GoodIn sd_gd ws := fun w hw => ⟨h w hw, good_of_word (sd_gd_good (h w hw))⟩
def sd_ad (G : sd_G) (k : Nat) : Nat := if k = 100000 then G.2.2.2.1 else if k = 100001 then G.2.2.2.2.1 else if k = 100002 then G.2.2.2.2.2 else G.2.2.1.size + k
def sd_v (G : sd_G) : Value → Value
  | .ref k => .ref (sd_ad G k)
  | v => v
theorem sd_ad_lt {G : sd_G} {k : Nat} (h : k < 100000) : sd_ad G k = G.2.2.1.size + k := by
  unfold sd_ad; rw [if_neg (by omega), if_neg (by omega), if_neg (by omega)]
theorem sd_v_cat (G : sd_G) (v : Value) : (sd_v G v).category = v.category := by cases v <;> rfl
def sd_fv (G : sd_G) (b : Bool) (r : Option Nat) (x : Int32) : Value := if b then va_rf (r.map (G.2.2.1.size + ·)) else .int x
def sd_av (b : Bool) (r : Option Nat) (x : Int32) : Value := if b then va_rf r else .int x
theorem sd_av_v {G : sd_G} {b : Bool} {r : Option Nat} {x : Int32} (h : ∀ k, r = some k → k < 100000) : sd_v G (sd_av b r x) = sd_fv G b r x := by
  cases b with
  | false => rfl
  | true =>
    cases r with
    | none => rfl
    | some k =>
      show Value.ref (sd_ad G k) = Value.ref (G.2.2.1.size + k)
      rw [sd_ad_lt (h k rfl)]
def sd_fs (G : sd_G) (I : sd_I) (k : Nat) (c : sd_C) : List Value := (List.range (sd_nF c.1)).map (fun j => sd_fv G (sd_isR c.1 j) (c.2.2.getD j none) (I k j))
def sd_E (G : sd_G) (I : sd_I) (J : sd_J) (k : Nat) (c : sd_C) : va_E :=
  if c.1 < 13 then .inr (c.1, sd_fs G I k c)
  else if c.1 = 22 then .inl (G.2.1 22, c.2.1, .inr (.inl (J k)))
  else if c.1 < 22 then .inl (G.2.1 c.1, c.2.1, .inl (I k))
  else .inl (G.2.1 c.1, c.2.1, .inr (.inr (.inr (.inr (fun j => (c.2.2.getD j none).map (G.2.2.1.size + ·))))))
def sd_ws (G : sd_G) (C : List sd_C) (I : sd_I) (J : sd_J) : va_W := C.zipIdx.map (fun q => (G.2.2.1.size + q.2, sd_E G I J q.2 q.1))
theorem sd_ws_at {G : sd_G} {C : List sd_C} {I : sd_I} {J : sd_J} (k : Nat) : (sd_ws G C I J)[k]? = C[k]?.map (fun c => (G.2.2.1.size + k, sd_E G I J k c)) := by
  unfold sd_ws
  rw [List.getElem?_map, List.getElem?_zipIdx]
  cases C[k]? <;> simp
theorem sd_ws_upd {G : sd_G} {C : List sd_C} {I I' : sd_I} {J J' : sd_J} {a : Nat} {c c' : sd_C} (h0 : C[a]? = some c) (h2 : ∀ k d, k ≠ a → sd_E G I' J' k d = sd_E G I J k d) : sd_ws G (C.set a c') I' J' = (sd_ws G C I J).set a (G.2.2.1.size + a, sd_E G I' J' a c') := by
  apply List.ext_getElem?
  intro k
  have hl : a < C.length := (List.getElem?_eq_some_iff.mp h0).1
  have hl2 : a < (sd_ws G C I J).length := by unfold sd_ws; simpa using hl
  rw [sd_ws_at]
  by_cases hk : k = a
  · subst hk
    rw [List.getElem?_set_self hl, List.getElem?_set_self hl2]
    rfl
  · rw [List.getElem?_set_ne (fun e => hk e.symm), List.getElem?_set_ne (fun e => hk e.symm), sd_ws_at]
    cases C[k]? with
    | none => rfl
    | some d => simp only [Option.map_some, h2 k d hk]
theorem sd_set_same {C : List sd_C} {a : Nat} {c : sd_C} (h : C[a]? = some c) : C.set a c = C := by
  apply List.ext_getElem?
  intro k
  have hl : a < C.length := (List.getElem?_eq_some_iff.mp h).1
  by_cases hk : k = a
  · subst hk; rw [List.getElem?_set_self hl, h]
  · rw [List.getElem?_set_ne (fun e => hk e.symm)]
def sd_A (G : sd_G) : Nat → Prop := fun q => G.2.2.1.size ≤ q
theorem sd_D (G : sd_G) (C : List sd_C) (I : sd_I) (J : sd_J) : va_D (sd_A G) (sd_ws G C I J) := by
  refine ⟨fun i j p q hp hq e => ?_, fun k q hq => ?_⟩
  · rw [sd_ws_at] at hp hq
    obtain ⟨c1, -, rfl⟩ := Option.map_eq_some_iff.mp hp
    obtain ⟨c2, -, rfl⟩ := Option.map_eq_some_iff.mp hq
    exact Nat.add_left_cancel e
  · rw [sd_ws_at] at hq
    obtain ⟨c1, -, rfl⟩ := Option.map_eq_some_iff.mp hq
    exact Nat.le_add_right _ _
/-- the heap holds the flat world -/
def sd_R (G : sd_G) (C : List sd_C) (I : sd_I) (J : sd_J) (H : Heap) : Prop :=
  H.size = G.2.2.1.size + C.length ∧ C.length ≤ 100000 ∧ (∀ q, q < G.2.2.1.size → H[q]? = G.2.2.1[q]?) ∧ va_P G.1 vwCl (sd_ws G C I J) H
abbrev sd_tys (G : sd_G) : List (ClassId × FieldType) := [(G.2.1 20, .int), (G.2.1 21, .char), (G.2.1 22, .long), (G.2.1 23, .object RX7), (G.2.1 24, .object RX4), (G.2.1 25, .object RX9)]
/-- what is said of the text "pfcth", which lies below the base -/
def sd_Str (G : sd_G) (U : State) : Prop :=
  vk_R RX8 63 "pfcth" G.2.2.2.2.1 U ∧ va_O "java/lang/String" G.2.2.2.2.1 (sd_A G) U G.2.2.1 ∧ va_OF "java/lang/String" "coder" "B" (.int 0) G.2.2.2.2.1 (sd_A G) U G.2.2.1 ∧
  va_OF "java/lang/String" "value" "[B" (.ref G.2.2.2.2.2) G.2.2.2.2.1 (sd_A G) U G.2.2.1 ∧ va_T .byte G.2.2.2.2.2 5 (fun j => .int ([112, 102, 99, 116, 104].getD j 0)) (sd_A G) U G.2.2.1 ∧
  va_Z "java/lang/String" "COMPACT_STRINGS" "Z" (.int 1) (sd_A G) U G.2.2.1
/-- what is carried everywhere, of the tables -/
def sd_F (G : sd_G) (U : State) : Prop :=
  va_K G.1 vwCl (sd_tys G) U ∧ (∀ q ∈ sd_nest, va_Nw (.methodLinkNest q.1 q.2.1 q.2.2.1 q.2.2.2) U) ∧ (∀ q ∈ sd_casts, va_Nw (.castable q.1 q.2) U) ∧ (∀ q ∈ sd_overs, va_AO q U) ∧ sd_Str G U
theorem sd_F.warm {G : sd_G} {s U : State} (hW : s.WarmedH U.vm) (h : sd_F G s) : sd_F G U := by
  obtain ⟨h1, h2, h3, h4, h5, h6, h7, h8, h9, h10⟩ := h
  exact ⟨va_K.moved hW.alike h1, fun q hq => va_Nw.warmM hW (h2 q hq), fun q hq => va_Nw.warmC hW (h3 q hq), fun q hq => va_AO.moved hW.alike (h4 q hq), vk_R.warm hW h5, va_O.moved hW.alike h6, va_OF.moved hW.alike h7, va_OF.moved hW.alike h8, va_T.moved hW.alike h9, va_Z.moved hW.alike h10⟩
theorem sd_F.same {G : sd_G} {u U : State} (hv : U.vm = u.vm) (h : sd_F G u) : sd_F G U := by
  obtain ⟨h1, h2, h3, h4, h5, h6, h7, h8, h9, h10⟩ := h
  have ha : u.vm.Alike U.vm := by rw [hv]; exact Vm.Alike.refl _
  exact ⟨va_K.moved ha h1, fun q hq => va_Nw.same rfl hv.symm (h2 q hq), fun q hq => va_Nw.same rfl hv.symm (h3 q hq), fun q hq => va_AO.moved ha (h4 q hq), vk_R.same hv h5, va_O.moved ha h6, va_OF.moved ha h7, va_OF.moved ha h8, va_T.moved ha h9, va_Z.moved ha h10⟩
/-- a method's surroundings -/
def sd_X (μ : sd_M) (p : Program) (s : State) (m : MethodId) (args : Array Value) (meth : Method) (c : Code) (G : sd_G) : Prop :=
  p.tables.exec = Jvm.exec ∧ c.code = μ.2.1 ∧ meth.sig.returnType = μ.2.2.2.1 ∧ c.maxLocals = μ.2.2.1 ∧ s.vm.findClass μ.1.cls = some m.cls ∧ (∀ w ∈ sd_gd, w.before args s = true) ∧ meth.locks = false ∧ meth.name = μ.1.name ∧ sd_F G s ∧ (∀ q, q < G.2.2.1.size → s.heap[q]? = G.2.2.1[q]?) ∧ G.2.2.1.size ≤ s.heap.size
/-- the script, in the law alone -/
def sd_Sc (μ : sd_M) (G : sd_G) (X : Nat × (Nat → Int32)) (s : State) : Prop := μ.1 = x → va_X G.2.2.2.1 X.1 X.2 s s.heap ∧ G.2.2.2.1 < s.heap.size ∧ ¬ sd_A G G.2.2.2.1
def sd_ret (μ : sd_M) (pc : Nat) (r : Option Int32) : Prop := match r with
  | none => μ.2.2.2.1 = none ∧ decode μ.2.1 pc = .ok (.return_, 1)
  | some v => (∃ ty, μ.2.2.2.1 = some ty ∧ narrow ty (.int v) = .int v) ∧ decode μ.2.1 pc = .ok (.ireturn, 1)
/-- what the end of the method gives -/
def sd_Z (μ : sd_M) (p : Program) (l : Launch) (e : Env) (s : State) (m : MethodId) (args : Array Value) (below : List Frame) (meth : Method) (c : Code) (G : sd_G) (X : Nat × (Nat → Int32)) (Z : State → Prop) (Q : Option Int32 → sd_S → Prop) : Prop :=
  ∀ (r : Option Int32) (C : List sd_C) (I : sd_I) (J : sd_J) (H : Heap) (locs : List Loc) (lsA : Array Slot) (pc : Nat), sd_ret μ pc r → Q r (C, X, I, J) → sd_R G C I J H → va_S (sd_A G) s.heap H locs →
    W p l e μ.2.2.2.2 s m args below meth c H locs μ.2.2.2.2.cells μ.2.2.2.2.slots Z (F0 m pc lsA (r.toList.map Value.int))
def sd_L (G : sd_G) (n : Nat) (ls : List Value) (lsA : Array Slot) : Prop := lsA.size = n ∧ lv_wf lsA ∧ ∀ (i : Nat) (v : Value), ls[i]? = some v → v ≠ .null → lsA[i]? = some (.val (sd_v G v))
/-- the machine, at pc of the method μ, in a state that the flat world tells, comes to an end with Q -/
def AW (μ : sd_M) (kc ks pc : Nat) (ls st : List Value) (σ : sd_S) (Q : Option Int32 → sd_S → Prop) : Prop :=
  ∀ (p : Program) (l : Launch) (e : Env) (s : State) (m : MethodId) (args : Array Value) (below : List Frame) (meth : Method) (c : Code) (G : sd_G) (Z : State → Prop),
    sd_X μ p s m args meth c G → sd_Sc μ G σ.2.1 s → sd_Z μ p l e s m args below meth c G σ.2.1 Z Q →
    ∀ (H : Heap) (locs : List Loc) (lsA : Array Slot), sd_R G σ.1 σ.2.2.1 σ.2.2.2 H → va_S (sd_A G) s.heap H locs → sd_L G μ.2.2.1 ls lsA →
      W p l e μ.2.2.2.2 s m args below meth c H locs kc ks Z (F0 m pc lsA (st.map (sd_v G)))
def sd_u {α : Type} (I : Nat → Nat → α) (a j : Nat) (v : α) : Nat → Nat → α := fun b => if b = a then (fun k => if k = j then v else I a k) else I b
def sd_r {α : Type} (I : Nat → Nat → α) (a : Nat) (f : Nat → α) : Nat → Nat → α := fun b => if b = a then f else I b
/-- a call of μ: its arguments in its locals -/
def sd_en : List Value → List Value
  | [] => []
  | v :: vs => if v.category = 2 then v :: .null :: sd_en vs else v :: sd_en vs
def AWm (μ : sd_M) (vs : List Value) (σ : sd_S) (Q : Option Int32 → sd_S → Prop) : Prop := AW μ 0 0 0 (sd_en vs ++ List.replicate (μ.2.2.1 - (sd_en vs).length) .null) [] σ Q
def AWi (μ : sd_M) (vs : List Value) (σ : sd_S) (Q : Int32 → sd_S → Prop) : Prop := AWm μ vs σ (fun r σ' => ∃ v, r = some v ∧ Q v σ')
def AWv (μ : sd_M) (vs : List Value) (σ : sd_S) (Q : sd_S → Prop) : Prop := AWm μ vs σ (fun r σ' => r = none ∧ Q σ')
end
section
-- one row an instruction, over the flat world
section Rows
variable {μ : sd_M} {kc ks pc : Nat} {ls st : List Value} {σ : sd_S} {Q : Option Int32 → sd_S → Prop}
theorem AW.go {pc' : Nat} {ls' st' : List Value} (h : ∀ (p : Program) (l : Launch) (e : Env) (s : State) (m : MethodId) (args : Array Value) (below : List Frame) (meth : Method) (c : Code) (G : sd_G) (Z : State → Prop) (H : Heap) (locs : List Loc) (lsA : Array Slot), sd_X μ p s m args meth c G → sd_L G μ.2.2.1 ls lsA →
      (∀ lsB, sd_L G μ.2.2.1 ls' lsB → W p l e μ.2.2.2.2 s m args below meth c H locs kc ks Z (F0 m pc' lsB (st'.map (sd_v G)))) → W p l e μ.2.2.2.2 s m args below meth c H locs kc ks Z (F0 m pc lsA (st.map (sd_v G))))
    (k : AW μ kc ks pc' ls' st' σ Q) : AW μ kc ks pc ls st σ Q := by
  intro p l e s m args below meth c G Z hX hSc hZ H locs lsA hR hS hL
  exact h p l e s m args below meth c G Z H locs lsA hX hL (fun lsB hB => k p l e s m args below meth c G Z hX hSc hZ H locs lsB hR hS hB)
theorem AW.iconst {n : Int} {v : Int32} (d : decode μ.2.1 pc = .ok (.iconst n, 1)) (hv : Int32.ofInt n = v) (k : AW μ kc ks (pc + 1) ls (.int v :: st) σ Q) : AW μ kc ks pc ls st σ Q :=
  AW.go (fun _ _ _ _ _ _ _ _ _ _ _ _ _ _ hX hL k => lv_iconst hX.1 hX.2.1 d hv (k _ hL)) k
theorem AW.bipush {n : Int} {v : Int32} (d : decode μ.2.1 pc = .ok (.bipush n, 2)) (hv : (Int8.ofInt n).toInt32 = v) (k : AW μ kc ks (pc + 2) ls (.int v :: st) σ Q) : AW μ kc ks pc ls st σ Q :=
  AW.go (fun _ _ _ _ _ _ _ _ _ _ _ _ _ _ hX hL k => lv_bipush hX.1 hX.2.1 d hv (k _ hL)) k
theorem AW.sipush {n : Int} {v : Int32} (d : decode μ.2.1 pc = .ok (.sipush n, 3)) (hv : (Int16.ofInt n).toInt32 = v) (k : AW μ kc ks (pc + 3) ls (.int v :: st) σ Q) : AW μ kc ks pc ls st σ Q :=
  AW.go (fun _ _ _ _ _ _ _ _ _ _ _ _ _ _ hX hL k => lv_sipush hX.1 hX.2.1 d hv (k _ hL)) k
theorem AW.lconst {n : Fin 2} {v : Int64} (d : decode μ.2.1 pc = .ok (.lconst n, 1)) (hv : Int64.ofNat (n : Nat) = v) (k : AW μ kc ks (pc + 1) ls (.long v :: st) σ Q) : AW μ kc ks pc ls st σ Q :=
  AW.go (fun _ _ _ _ _ _ _ _ _ _ _ _ _ _ hX hL k => lv_lconst hX.1 hX.2.1 d hv (k _ hL)) k
theorem AW.ldc {idx : Nat} {v : Int32} (d : decode μ.2.1 pc = .ok (.ldc idx, 2)) (w : Cond.constant μ.1.cls idx v ∈ sd_gd) (k : AW μ kc ks (pc + 2) ls (.int v :: st) σ Q) : AW μ kc ks pc ls st σ Q :=
  AW.go (fun _ _ _ _ _ _ _ _ _ _ _ _ _ _ hX hL k => lv_ldc hX.1 hX.2.1 hX.2.2.2.2.1 (hX.2.2.2.2.2.1 _ w) d (k _ hL)) k
theorem AW.ldcw {idx : Nat} {v : Int32} (d : decode μ.2.1 pc = .ok (.ldc_w idx, 3)) (w : Cond.constant μ.1.cls idx v ∈ sd_gd) (k : AW μ kc ks (pc + 3) ls (.int v :: st) σ Q) : AW μ kc ks pc ls st σ Q :=
  AW.go (fun _ _ _ _ _ _ _ _ _ _ _ _ _ _ hX hL k => lv_ldcw hX.1 hX.2.1 hX.2.2.2.2.1 (hX.2.2.2.2.2.1 _ w) d (k _ hL)) k
theorem AW.ldc2 {idx : Nat} {v : Int64} (d : decode μ.2.1 pc = .ok (.ldc2_w idx, 3)) (w : Cond.constantLong μ.1.cls idx v ∈ sd_gd) (k : AW μ kc ks (pc + 3) ls (.long v :: st) σ Q) : AW μ kc ks pc ls st σ Q :=
  AW.go (fun _ _ _ _ _ _ _ _ _ _ _ _ _ _ hX hL k => lv_ldc2 hX.1 hX.2.1 hX.2.2.2.2.1 (hX.2.2.2.2.2.1 _ w) d (k _ hL)) k
theorem AW.iload_n {n : Fin 4} {i : Nat} {v : Int32} (d : decode μ.2.1 pc = .ok (.iload_n n, 1)) (hi : (n : Nat) = i) (h : ls[i]? = some (.int v)) (k : AW μ kc ks (pc + 1) ls (.int v :: st) σ Q) : AW μ kc ks pc ls st σ Q :=
  AW.go (fun _ _ _ _ _ _ _ _ _ _ _ _ _ _ hX hL k => lv_iload_n hX.1 hX.2.1 d hi (hL.2.2 i _ h (fun h => by cases h)) (k _ hL)) k
theorem AW.iload {i : Nat} {v : Int32} (d : decode μ.2.1 pc = .ok (.iload i, 2)) (h : ls[i]? = some (.int v)) (k : AW μ kc ks (pc + 2) ls (.int v :: st) σ Q) : AW μ kc ks pc ls st σ Q :=
  AW.go (fun _ _ _ _ _ _ _ _ _ _ _ _ _ _ hX hL k => lv_iload hX.1 hX.2.1 d (hL.2.2 i _ h (fun h => by cases h)) (k _ hL)) k
theorem AW.lload_n {n : Fin 4} {i : Nat} {v : Int64} (d : decode μ.2.1 pc = .ok (.lload_n n, 1)) (hi : (n : Nat) = i) (h : ls[i]? = some (.long v)) (k : AW μ kc ks (pc + 1) ls (.long v :: st) σ Q) : AW μ kc ks pc ls st σ Q :=
  AW.go (fun _ _ _ _ _ _ _ _ _ _ _ _ _ _ hX hL k => lv_lload_n hX.1 hX.2.1 d hi (hL.2.2 i _ h (fun h => by cases h)) (k _ hL)) k
theorem AW.lload {i : Nat} {v : Int64} (d : decode μ.2.1 pc = .ok (.lload i, 2)) (h : ls[i]? = some (.long v)) (k : AW μ kc ks (pc + 2) ls (.long v :: st) σ Q) : AW μ kc ks pc ls st σ Q :=
  AW.go (fun _ _ _ _ _ _ _ _ _ _ _ _ _ _ hX hL k => lv_lload hX.1 hX.2.1 d (hL.2.2 i _ h (fun h => by cases h)) (k _ hL)) k
theorem AW.aload_n {n : Fin 4} {i a : Nat} (d : decode μ.2.1 pc = .ok (.aload_n n, 1)) (hi : (n : Nat) = i) (h : ls[i]? = some (.ref a)) (k : AW μ kc ks (pc + 1) ls (.ref a :: st) σ Q) : AW μ kc ks pc ls st σ Q :=
  AW.go (fun _ _ _ _ _ _ _ _ _ _ _ _ _ _ hX hL k => lv_aload_n hX.1 hX.2.1 d hi (hL.2.2 i _ h (fun h => by cases h)) (k _ hL)) k
theorem AW.aload {i a : Nat} (d : decode μ.2.1 pc = .ok (.aload i, 2)) (h : ls[i]? = some (.ref a)) (k : AW μ kc ks (pc + 2) ls (.ref a :: st) σ Q) : AW μ kc ks pc ls st σ Q :=
  AW.go (fun _ _ _ _ _ _ _ _ _ _ _ _ _ _ hX hL k => lv_aload hX.1 hX.2.1 d (hL.2.2 i _ h (fun h => by cases h)) (k _ hL)) k
/-- the local ahead of place i isn't a long one -/
def sd_one (ls : List Value) (i : Nat) : Bool := match i with
  | 0 => true
  | j + 1 => match ls[j]? with
    | some v => v.category == 1
    | none => true
def sd_known (G : sd_G) (ls : List Value) : List (Nat × Value) := ls.zipIdx.filterMap (fun q => match q.1 with
  | .null => none
  | v => some (q.2, sd_v G v))
theorem sd_known_mem {G : sd_G} {ls : List Value} {i : Nat} {v : Value} (h : ls[i]? = some v) (hv : v ≠ .null) : (i, sd_v G v) ∈ sd_known G ls := by
  unfold sd_known
  refine List.mem_filterMap.mpr ⟨(v, i), ?_, ?_⟩
  · exact List.mem_zipIdx_iff_getElem?.mpr h
  · cases v <;> first | exact absurd rfl hv | rfl
theorem sd_known_has {G : sd_G} {n : Nat} {ls : List Value} {lsA : Array Slot} (h : sd_L G n ls lsA) : lv_has lsA n (sd_known G ls) := by
  refine ⟨h.1, h.2.1, fun q hq => ?_⟩
  unfold sd_known at hq
  obtain ⟨⟨v, i⟩, h1, h2⟩ := List.mem_filterMap.mp hq
  have h1 := List.mem_zipIdx_iff_getElem?.mp h1
  dsimp only at h1 h2
  by_cases hv : v = .null
  · subst hv; cases h2
  · have := h.2.2 i v h1 hv
    cases v <;> first | exact absurd rfl hv | (cases h2; exact this)
theorem sd_L_of {G : sd_G} {n i : Nat} {ls : List Value} {lsA lsB : Array Slot} {v : Value} (hone : sd_one ls i = true) (h : sd_L G n ls lsA) (h' : lv_has lsB n ((i, sd_v G v) :: (sd_known G ls).filter (fun q => !(q.1 == i) && !(q.1 + 1 == i && q.2.category == 2)))) : sd_L G n (ls.set i v) lsB := by
  refine ⟨h'.1, h'.2.1, fun j w hj hw => ?_⟩
  by_cases hji : j = i
  · subst hji
    rw [List.getElem?_set] at hj
    rw [if_pos rfl] at hj
    split at hj
    · cases hj
      exact h'.2.2 _ List.mem_cons_self
    · cases hj
  · rw [List.getElem?_set_ne (fun e => hji e.symm)] at hj
    refine h'.2.2 (j, sd_v G w) (List.mem_cons_of_mem _ (List.mem_filter.mpr ⟨sd_known_mem hj hw, ?_⟩))
    have e1 : (j == i) = false := by simpa using hji
    simp only [e1, Bool.not_false, Bool.true_and, Bool.not_eq_true', Bool.and_eq_false_iff]
    by_cases hj1 : j + 1 = i
    · right
      subst hj1
      have : (w.category == 1) = true := by simpa [sd_one, hj] using hone
      rw [sd_v_cat]
      have h1 : w.category = 1 := by simpa using this
      rw [h1]; rfl
    · left; simpa using hj1
theorem AW.istore_n {n : Fin 4} {i : Nat} {v : Int32} {ls' : List Value} (d : decode μ.2.1 pc = .ok (.istore_n n, 1)) (hi : (n : Nat) = i) (hn : i < μ.2.2.1) (ho : sd_one ls i = true) (hl : ls.set i (.int v) = ls') (k : AW μ kc ks (pc + 1) ls' st σ Q) : AW μ kc ks pc ls (.int v :: st) σ Q := by
  subst hl
  exact AW.go (fun _ _ _ _ _ _ _ _ _ _ _ _ _ _ hX hL k => lv_istore_n hX.1 hX.2.1 d hi (sd_known_has hL) hn rfl (fun lsB hB => k lsB (sd_L_of (v := .int v) ho hL hB))) k
theorem AW.istore {i : Nat} {v : Int32} {ls' : List Value} (d : decode μ.2.1 pc = .ok (.istore i, 2)) (hn : i < μ.2.2.1) (ho : sd_one ls i = true) (hl : ls.set i (.int v) = ls') (k : AW μ kc ks (pc + 2) ls' st σ Q) : AW μ kc ks pc ls (.int v :: st) σ Q := by
  subst hl
  exact AW.go (fun _ _ _ _ _ _ _ _ _ _ _ _ _ _ hX hL k => lv_istore hX.1 hX.2.1 d (sd_known_has hL) hn rfl (fun lsB hB => k lsB (sd_L_of (v := .int v) ho hL hB))) k
theorem AW.astore_n {n : Fin 4} {i a : Nat} {ls' : List Value} (d : decode μ.2.1 pc = .ok (.astore_n n, 1)) (hi : (n : Nat) = i) (hn : i < μ.2.2.1) (ho : sd_one ls i = true) (hl : ls.set i (.ref a) = ls') (k : AW μ kc ks (pc + 1) ls' st σ Q) : AW μ kc ks pc ls (.ref a :: st) σ Q := by
  subst hl
  exact AW.go (fun _ _ _ _ _ _ _ _ _ _ _ _ _ _ hX hL k => lv_astore_n hX.1 hX.2.1 d hi (sd_known_has hL) hn rfl (fun lsB hB => k lsB (sd_L_of (v := .ref a) ho hL hB))) k
theorem AW.astore {i a : Nat} {ls' : List Value} (d : decode μ.2.1 pc = .ok (.astore i, 2)) (hn : i < μ.2.2.1) (ho : sd_one ls i = true) (hl : ls.set i (.ref a) = ls') (k : AW μ kc ks (pc + 2) ls' st σ Q) : AW μ kc ks pc ls (.ref a :: st) σ Q := by
  subst hl
  exact AW.go (fun _ _ _ _ _ _ _ _ _ _ _ _ _ _ hX hL k => lv_astore hX.1 hX.2.1 d (sd_known_has hL) hn rfl (fun lsB hB => k lsB (sd_L_of (v := .ref a) ho hL hB))) k
theorem AW.iinc {i : Nat} {n : Int} {x v : Int32} {ls' : List Value} (d : decode μ.2.1 pc = .ok (.iinc i n, 3)) (h : ls[i]? = some (.int x)) (hv : x + Int32.ofInt n = v) (hn : i < μ.2.2.1) (ho : sd_one ls i = true) (hl : ls.set i (.int v) = ls') (k : AW μ kc ks (pc + 3) ls' st σ Q) : AW μ kc ks pc ls st σ Q := by
  subst hl
  refine AW.go (fun _ _ _ _ _ _ _ _ _ G _ _ _ _ hX hL k => ?_) k
  obtain ⟨j, hj⟩ := List.getElem?_of_mem (sd_known_mem (G := G) h (fun h => by cases h))
  exact lv_iinc hX.1 hX.2.1 d (sd_known_has hL) (k := j) hj hv hn rfl (fun lsB hB => k lsB (sd_L_of (v := .int v) ho hL hB))
theorem AW.iadd {x y : Int32} (d : decode μ.2.1 pc = .ok (.iadd, 1)) (k : AW μ kc ks (pc + 1) ls (.int (x + y) :: st) σ Q) : AW μ kc ks pc ls (.int y :: .int x :: st) σ Q :=
  AW.go (fun _ _ _ _ _ _ _ _ _ _ _ _ _ _ hX hL k => lv_iadd hX.1 hX.2.1 d (k _ hL)) k
theorem AW.isub {x y : Int32} (d : decode μ.2.1 pc = .ok (.isub, 1)) (k : AW μ kc ks (pc + 1) ls (.int (x - y) :: st) σ Q) : AW μ kc ks pc ls (.int y :: .int x :: st) σ Q :=
  AW.go (fun _ _ _ _ _ _ _ _ _ _ _ _ _ _ hX hL k => lv_isub hX.1 hX.2.1 d (k _ hL)) k
theorem AW.imul {x y : Int32} (d : decode μ.2.1 pc = .ok (.imul, 1)) (k : AW μ kc ks (pc + 1) ls (.int (x * y) :: st) σ Q) : AW μ kc ks pc ls (.int y :: .int x :: st) σ Q :=
  AW.go (fun _ _ _ _ _ _ _ _ _ _ _ _ _ _ hX hL k => lv_imul hX.1 hX.2.1 d (k _ hL)) k
theorem AW.iand {x y : Int32} (d : decode μ.2.1 pc = .ok (.iand, 1)) (k : AW μ kc ks (pc + 1) ls (.int (x &&& y) :: st) σ Q) : AW μ kc ks pc ls (.int y :: .int x :: st) σ Q :=
  AW.go (fun _ _ _ _ _ _ _ _ _ _ _ _ _ _ hX hL k => lv_iand hX.1 hX.2.1 d (k _ hL)) k
theorem AW.ior {x y : Int32} (d : decode μ.2.1 pc = .ok (.ior, 1)) (k : AW μ kc ks (pc + 1) ls (.int (x ||| y) :: st) σ Q) : AW μ kc ks pc ls (.int y :: .int x :: st) σ Q :=
  AW.go (fun _ _ _ _ _ _ _ _ _ _ _ _ _ _ hX hL k => lv_ior hX.1 hX.2.1 d (k _ hL)) k
theorem AW.ixor {x y : Int32} (d : decode μ.2.1 pc = .ok (.ixor, 1)) (k : AW μ kc ks (pc + 1) ls (.int (x ^^^ y) :: st) σ Q) : AW μ kc ks pc ls (.int y :: .int x :: st) σ Q :=
  AW.go (fun _ _ _ _ _ _ _ _ _ _ _ _ _ _ hX hL k => lv_ixor hX.1 hX.2.1 d (k _ hL)) k
theorem AW.idiv {x y : Int32} (d : decode μ.2.1 pc = .ok (.idiv, 1)) (hne : ¬ y = 0) (k : AW μ kc ks (pc + 1) ls (.int (x / y) :: st) σ Q) : AW μ kc ks pc ls (.int y :: .int x :: st) σ Q :=
  AW.go (fun _ _ _ _ _ _ _ _ _ _ _ _ _ _ hX hL k => lv_idiv hX.1 hX.2.1 d hne (k _ hL)) k
theorem AW.irem {x y : Int32} (d : decode μ.2.1 pc = .ok (.irem, 1)) (hne : ¬ y = 0) (k : AW μ kc ks (pc + 1) ls (.int (x - x / y * y) :: st) σ Q) : AW μ kc ks pc ls (.int y :: .int x :: st) σ Q :=
  AW.go (fun _ _ _ _ _ _ _ _ _ _ _ _ _ _ hX hL k => lv_irem hX.1 hX.2.1 d hne (k _ hL)) k
theorem AW.ishl {x y : Int32} (d : decode μ.2.1 pc = .ok (.ishl, 1)) (k : AW μ kc ks (pc + 1) ls (.int (x <<< (y &&& 31)) :: st) σ Q) : AW μ kc ks pc ls (.int y :: .int x :: st) σ Q :=
  AW.go (fun _ _ _ _ _ _ _ _ _ _ _ _ _ _ hX hL k => lv_ishl hX.1 hX.2.1 d (k _ hL)) k
theorem AW.ishr {x y : Int32} (d : decode μ.2.1 pc = .ok (.ishr, 1)) (k : AW μ kc ks (pc + 1) ls (.int (x >>> (y &&& 31)) :: st) σ Q) : AW μ kc ks pc ls (.int y :: .int x :: st) σ Q :=
  AW.go (fun _ _ _ _ _ _ _ _ _ _ _ _ _ _ hX hL k => lv_ishr hX.1 hX.2.1 d (k _ hL)) k
theorem AW.iushr {x y : Int32} (d : decode μ.2.1 pc = .ok (.iushr, 1)) (k : AW μ kc ks (pc + 1) ls (.int (x.toUInt32 >>> (y.toUInt32 &&& Int32.toUInt32 31)).toInt32 :: st) σ Q) : AW μ kc ks pc ls (.int y :: .int x :: st) σ Q :=
  AW.go (fun _ _ _ _ _ _ _ _ _ _ _ _ _ _ hX hL k => lv_iushr hX.1 hX.2.1 d rfl (k _ hL)) k
theorem AW.ladd {x y : Int64} (d : decode μ.2.1 pc = .ok (.ladd, 1)) (k : AW μ kc ks (pc + 1) ls (.long (x + y) :: st) σ Q) : AW μ kc ks pc ls (.long y :: .long x :: st) σ Q :=
  AW.go (fun _ _ _ _ _ _ _ _ _ _ _ _ _ _ hX hL k => lv_ladd hX.1 hX.2.1 d (k _ hL)) k
theorem AW.lmul {x y : Int64} (d : decode μ.2.1 pc = .ok (.lmul, 1)) (k : AW μ kc ks (pc + 1) ls (.long (x * y) :: st) σ Q) : AW μ kc ks pc ls (.long y :: .long x :: st) σ Q :=
  AW.go (fun _ _ _ _ _ _ _ _ _ _ _ _ _ _ hX hL k => lv_lmul hX.1 hX.2.1 d (k _ hL)) k
theorem AW.land {x y : Int64} (d : decode μ.2.1 pc = .ok (.land, 1)) (k : AW μ kc ks (pc + 1) ls (.long (x &&& y) :: st) σ Q) : AW μ kc ks pc ls (.long y :: .long x :: st) σ Q :=
  AW.go (fun _ _ _ _ _ _ _ _ _ _ _ _ _ _ hX hL k => lv_land hX.1 hX.2.1 d (k _ hL)) k
theorem AW.lor {x y : Int64} (d : decode μ.2.1 pc = .ok (.lor, 1)) (k : AW μ kc ks (pc + 1) ls (.long (x ||| y) :: st) σ Q) : AW μ kc ks pc ls (.long y :: .long x :: st) σ Q :=
  AW.go (fun _ _ _ _ _ _ _ _ _ _ _ _ _ _ hX hL k => lv_lor hX.1 hX.2.1 d (k _ hL)) k
theorem AW.lrem {x y : Int64} (d : decode μ.2.1 pc = .ok (.lrem, 1)) (hne : ¬ y = 0) (k : AW μ kc ks (pc + 1) ls (.long (x - x / y * y) :: st) σ Q) : AW μ kc ks pc ls (.long y :: .long x :: st) σ Q :=
  AW.go (fun _ _ _ _ _ _ _ _ _ _ _ _ _ _ hX hL k => lv_lrem hX.1 hX.2.1 d hne (k _ hL)) k
theorem AW.lshl {x : Int64} {y : Int32} (d : decode μ.2.1 pc = .ok (.lshl, 1)) (k : AW μ kc ks (pc + 1) ls (.long (x <<< (y.toInt64 &&& 63)) :: st) σ Q) : AW μ kc ks pc ls (.int y :: .long x :: st) σ Q :=
  AW.go (fun _ _ _ _ _ _ _ _ _ _ _ _ _ _ hX hL k => lv_lshl hX.1 hX.2.1 d rfl (k _ hL)) k
theorem AW.lcmp {x y : Int64} (d : decode μ.2.1 pc = .ok (.lcmp, 1)) (k : AW μ kc ks (pc + 1) ls (.int (lg_cmp x y) :: st) σ Q) : AW μ kc ks pc ls (.long y :: .long x :: st) σ Q :=
  AW.go (fun _ _ _ _ _ _ _ _ _ _ _ _ _ _ hX hL k => W.lcmp hX.1 hX.2.1 d (k _ hL)) k
theorem AW.i2l {x : Int32} (d : decode μ.2.1 pc = .ok (.i2l, 1)) (k : AW μ kc ks (pc + 1) ls (.long x.toInt64 :: st) σ Q) : AW μ kc ks pc ls (.int x :: st) σ Q :=
  AW.go (fun _ _ _ _ _ _ _ _ _ _ _ _ _ _ hX hL k => lv_i2l hX.1 hX.2.1 d rfl (k _ hL)) k
theorem AW.l2i {x : Int64} (d : decode μ.2.1 pc = .ok (.l2i, 1)) (k : AW μ kc ks (pc + 1) ls (.int x.toInt32 :: st) σ Q) : AW μ kc ks pc ls (.long x :: st) σ Q :=
  AW.go (fun _ _ _ _ _ _ _ _ _ _ _ _ _ _ hX hL k => lv_l2i hX.1 hX.2.1 d rfl (k _ hL)) k
theorem AW.i2b {x : Int32} (d : decode μ.2.1 pc = .ok (.i2b, 1)) (k : AW μ kc ks (pc + 1) ls (.int x.toInt8.toInt32 :: st) σ Q) : AW μ kc ks pc ls (.int x :: st) σ Q :=
  AW.go (fun _ _ _ _ _ _ _ _ _ _ _ _ _ _ hX hL k => lv_i2b hX.1 hX.2.1 d rfl (k _ hL)) k
theorem AW.i2s {x : Int32} (d : decode μ.2.1 pc = .ok (.i2s, 1)) (k : AW μ kc ks (pc + 1) ls (.int x.toInt16.toInt32 :: st) σ Q) : AW μ kc ks pc ls (.int x :: st) σ Q :=
  AW.go (fun _ _ _ _ _ _ _ _ _ _ _ _ _ _ hX hL k => lv_i2s hX.1 hX.2.1 d rfl (k _ hL)) k
theorem AW.i2c {x : Int32} (d : decode μ.2.1 pc = .ok (.i2c, 1)) (k : AW μ kc ks (pc + 1) ls (.int (x.toUInt32 % 65536).toInt32 :: st) σ Q) : AW μ kc ks pc ls (.int x :: st) σ Q :=
  AW.go (fun _ _ _ _ _ _ _ _ _ _ _ _ _ _ hX hL k => lv_i2c hX.1 hX.2.1 d rfl (k _ hL)) k
theorem AW.dup {v : Value} (d : decode μ.2.1 pc = .ok (.dup, 1)) (h : v.category = 1) (k : AW μ kc ks (pc + 1) ls (v :: v :: st) σ Q) : AW μ kc ks pc ls (v :: st) σ Q :=
  AW.go (fun _ _ _ _ _ _ _ _ _ _ _ _ _ _ hX hL k => lv_dup hX.1 hX.2.1 d (by rw [sd_v_cat]; exact h) (k _ hL)) k
theorem AW.dup2 {v w : Value} (d : decode μ.2.1 pc = .ok (.dup2, 1)) (h : v.category = 1) (h2 : w.category = 1) (k : AW μ kc ks (pc + 1) ls (v :: w :: v :: w :: st) σ Q) : AW μ kc ks pc ls (v :: w :: st) σ Q :=
  AW.go (fun _ _ _ _ _ _ _ _ _ _ _ _ _ _ hX hL k => lv_dup2_11 hX.1 hX.2.1 d (by rw [sd_v_cat]; exact h) (by rw [sd_v_cat]; exact h2) (k _ hL)) k
theorem AW.pop {v : Value} (d : decode μ.2.1 pc = .ok (.pop, 1)) (h : v.category = 1) (k : AW μ kc ks (pc + 1) ls st σ Q) : AW μ kc ks pc ls (v :: st) σ Q :=
  AW.go (fun _ _ _ _ _ _ _ _ _ _ _ _ _ _ hX hL k => lv_pop hX.1 hX.2.1 d (by rw [sd_v_cat]; exact h) (k _ hL)) k
theorem AW.goto {off : Int} {tgt : Nat} (d : decode μ.2.1 pc = .ok (.goto off, 3)) (ht : (pc : Int) + off = (tgt : Int)) (k : AW μ kc ks tgt ls st σ Q) : AW μ kc ks pc ls st σ Q :=
  AW.go (fun _ _ _ _ _ _ _ _ _ _ _ _ _ _ hX hL k => lv_goto hX.1 hX.2.1 d ht (k _ hL)) k
theorem AW.go2 {tgt : Nat} {P : Prop} {st' : List Value} (h : ∀ (p : Program) (l : Launch) (e : Env) (s : State) (m : MethodId) (args : Array Value) (below : List Frame) (meth : Method) (c : Code) (G : sd_G) (Z : State → Prop) (H : Heap) (locs : List Loc) (lsA : Array Slot), sd_X μ p s m args meth c G →
      (P → W p l e μ.2.2.2.2 s m args below meth c H locs kc ks Z (F0 m tgt lsA (st'.map (sd_v G)))) → (¬ P → W p l e μ.2.2.2.2 s m args below meth c H locs kc ks Z (F0 m (pc + 3) lsA (st'.map (sd_v G)))) → W p l e μ.2.2.2.2 s m args below meth c H locs kc ks Z (F0 m pc lsA (st.map (sd_v G))))
    (kt : P → AW μ kc ks tgt ls st' σ Q) (kf : ¬ P → AW μ kc ks (pc + 3) ls st' σ Q) : AW μ kc ks pc ls st σ Q := by
  intro p l e s m args below meth c G Z hX hSc hZ H locs lsA hR hS hL
  exact h p l e s m args below meth c G Z H locs lsA hX (fun hp => kt hp p l e s m args below meth c G Z hX hSc hZ H locs lsA hR hS hL) (fun hp => kf hp p l e s m args below meth c G Z hX hSc hZ H locs lsA hR hS hL)
theorem AW.if_eq {off : Int} {tgt : Nat} {x : Int32} (d : decode μ.2.1 pc = .ok (.ifCond .eq off, 3)) (ht : (pc : Int) + off = (tgt : Int)) (kt : x = 0 → AW μ kc ks tgt ls st σ Q) (kf : ¬ x = 0 → AW μ kc ks (pc + 3) ls st σ Q) : AW μ kc ks pc ls (.int x :: st) σ Q :=
  AW.go2 (fun _ _ _ _ _ _ _ _ _ _ _ _ _ _ hX a b => lv_if_eq hX.1 hX.2.1 d ht a b) kt kf
theorem AW.if_ne {off : Int} {tgt : Nat} {x : Int32} (d : decode μ.2.1 pc = .ok (.ifCond .ne off, 3)) (ht : (pc : Int) + off = (tgt : Int)) (kt : ¬ x = 0 → AW μ kc ks tgt ls st σ Q) (kf : x = 0 → AW μ kc ks (pc + 3) ls st σ Q) : AW μ kc ks pc ls (.int x :: st) σ Q :=
  AW.go2 (fun _ _ _ _ _ _ _ _ _ _ _ _ _ _ hX a b => lv_if_ne hX.1 hX.2.1 d ht a (fun h => b (fun n => n h))) kt (fun h => kf (Classical.not_not.mp h))
theorem AW.if_lt {off : Int} {tgt : Nat} {x : Int32} (d : decode μ.2.1 pc = .ok (.ifCond .lt off, 3)) (ht : (pc : Int) + off = (tgt : Int)) (kt : x < 0 → AW μ kc ks tgt ls st σ Q) (kf : ¬ x < 0 → AW μ kc ks (pc + 3) ls st σ Q) : AW μ kc ks pc ls (.int x :: st) σ Q :=
  AW.go2 (fun _ _ _ _ _ _ _ _ _ _ _ _ _ _ hX a b => lv_if_lt hX.1 hX.2.1 d ht a b) kt kf
theorem AW.if_ge {off : Int} {tgt : Nat} {x : Int32} (d : decode μ.2.1 pc = .ok (.ifCond .ge off, 3)) (ht : (pc : Int) + off = (tgt : Int)) (kt : 0 ≤ x → AW μ kc ks tgt ls st σ Q) (kf : ¬ 0 ≤ x → AW μ kc ks (pc + 3) ls st σ Q) : AW μ kc ks pc ls (.int x :: st) σ Q :=
  AW.go2 (fun _ _ _ _ _ _ _ _ _ _ _ _ _ _ hX a b => lv_if_ge hX.1 hX.2.1 d ht a b) kt kf
theorem AW.if_gt {off : Int} {tgt : Nat} {x : Int32} (d : decode μ.2.1 pc = .ok (.ifCond .gt off, 3)) (ht : (pc : Int) + off = (tgt : Int)) (kt : 0 < x → AW μ kc ks tgt ls st σ Q) (kf : ¬ 0 < x → AW μ kc ks (pc + 3) ls st σ Q) : AW μ kc ks pc ls (.int x :: st) σ Q :=
  AW.go2 (fun _ _ _ _ _ _ _ _ _ _ _ _ _ _ hX a b => lv_if_gt hX.1 hX.2.1 d ht a b) kt kf
theorem AW.if_le {off : Int} {tgt : Nat} {x : Int32} (d : decode μ.2.1 pc = .ok (.ifCond .le off, 3)) (ht : (pc : Int) + off = (tgt : Int)) (kt : x ≤ 0 → AW μ kc ks tgt ls st σ Q) (kf : ¬ x ≤ 0 → AW μ kc ks (pc + 3) ls st σ Q) : AW μ kc ks pc ls (.int x :: st) σ Q :=
  AW.go2 (fun _ _ _ _ _ _ _ _ _ _ _ _ _ _ hX a b => lv_if_le hX.1 hX.2.1 d ht a b) kt kf
theorem AW.icmp_eq {off : Int} {tgt : Nat} {x y : Int32} (d : decode μ.2.1 pc = .ok (.if_icmp .eq off, 3)) (ht : (pc : Int) + off = (tgt : Int)) (kt : x = y → AW μ kc ks tgt ls st σ Q) (kf : ¬ x = y → AW μ kc ks (pc + 3) ls st σ Q) : AW μ kc ks pc ls (.int y :: .int x :: st) σ Q :=
  AW.go2 (fun _ _ _ _ _ _ _ _ _ _ _ _ _ _ hX a b => lv_icmp_eq hX.1 hX.2.1 d ht a b) kt kf
theorem AW.icmp_ne {off : Int} {tgt : Nat} {x y : Int32} (d : decode μ.2.1 pc = .ok (.if_icmp .ne off, 3)) (ht : (pc : Int) + off = (tgt : Int)) (kt : ¬ x = y → AW μ kc ks tgt ls st σ Q) (kf : x = y → AW μ kc ks (pc + 3) ls st σ Q) : AW μ kc ks pc ls (.int y :: .int x :: st) σ Q :=
  AW.go2 (fun _ _ _ _ _ _ _ _ _ _ _ _ _ _ hX a b => lv_icmp_ne hX.1 hX.2.1 d ht a (fun h => b (fun n => n h))) kt (fun h => kf (Classical.not_not.mp h))
theorem AW.icmp_lt {off : Int} {tgt : Nat} {x y : Int32} (d : decode μ.2.1 pc = .ok (.if_icmp .lt off, 3)) (ht : (pc : Int) + off = (tgt : Int)) (kt : x < y → AW μ kc ks tgt ls st σ Q) (kf : ¬ x < y → AW μ kc ks (pc + 3) ls st σ Q) : AW μ kc ks pc ls (.int y :: .int x :: st) σ Q :=
  AW.go2 (fun _ _ _ _ _ _ _ _ _ _ _ _ _ _ hX a b => lv_icmp_lt hX.1 hX.2.1 d ht a b) kt kf
theorem AW.icmp_ge {off : Int} {tgt : Nat} {x y : Int32} (d : decode μ.2.1 pc = .ok (.if_icmp .ge off, 3)) (ht : (pc : Int) + off = (tgt : Int)) (kt : y ≤ x → AW μ kc ks tgt ls st σ Q) (kf : ¬ y ≤ x → AW μ kc ks (pc + 3) ls st σ Q) : AW μ kc ks pc ls (.int y :: .int x :: st) σ Q :=
  AW.go2 (fun _ _ _ _ _ _ _ _ _ _ _ _ _ _ hX a b => lv_icmp_ge hX.1 hX.2.1 d ht a b) kt kf
theorem AW.icmp_gt {off : Int} {tgt : Nat} {x y : Int32} (d : decode μ.2.1 pc = .ok (.if_icmp .gt off, 3)) (ht : (pc : Int) + off = (tgt : Int)) (kt : y < x → AW μ kc ks tgt ls st σ Q) (kf : ¬ y < x → AW μ kc ks (pc + 3) ls st σ Q) : AW μ kc ks pc ls (.int y :: .int x :: st) σ Q :=
  AW.go2 (fun _ _ _ _ _ _ _ _ _ _ _ _ _ _ hX a b => lv_icmp_gt hX.1 hX.2.1 d ht a b) kt kf
theorem AW.icmp_le {off : Int} {tgt : Nat} {x y : Int32} (d : decode μ.2.1 pc = .ok (.if_icmp .le off, 3)) (ht : (pc : Int) + off = (tgt : Int)) (kt : x ≤ y → AW μ kc ks tgt ls st σ Q) (kf : ¬ x ≤ y → AW μ kc ks (pc + 3) ls st σ Q) : AW μ kc ks pc ls (.int y :: .int x :: st) σ Q :=
  AW.go2 (fun _ _ _ _ _ _ _ _ _ _ _ _ _ _ hX a b => lv_icmp_le hX.1 hX.2.1 d ht a b) kt kf
theorem AW.tableIn {df lo hi : Int} {offs : Array Int} {len : Nat} {x : Int32} {off : Int} {tgt : Nat} (d : decode μ.2.1 pc = .ok (.tableswitch df lo hi offs, len)) (h1 : ¬ x.toInt < lo) (h2 : ¬ hi < x.toInt) (ho : offs[(x.toInt - lo).toNat]? = some off) (ht : (pc : Int) + off = (tgt : Int)) (k : AW μ kc ks tgt ls st σ Q) : AW μ kc ks pc ls (.int x :: st) σ Q :=
  AW.go (fun _ _ _ _ _ _ _ _ _ _ _ _ _ _ hX hL k => lv_tableIn hX.1 hX.2.1 d h1 h2 ho ht (k _ hL)) k
theorem AW.tableOut {df lo hi : Int} {offs : Array Int} {len : Nat} {x : Int32} {tgt : Nat} (d : decode μ.2.1 pc = .ok (.tableswitch df lo hi offs, len)) (h : x.toInt < lo ∨ hi < x.toInt) (ht : (pc : Int) + df = (tgt : Int)) (k : AW μ kc ks tgt ls st σ Q) : AW μ kc ks pc ls (.int x :: st) σ Q :=
  AW.go (fun _ _ _ _ _ _ _ _ _ _ _ _ _ _ hX hL k => lv_tableOut hX.1 hX.2.1 d h ht (k _ hL)) k
/-- fewer locals are known -/
theorem AW.forget {ls' : List Value} (h : ∀ (i : Nat) (v : Value), ls'[i]? = some v → v ≠ .null → ls[i]? = some v) (k : AW μ kc ks pc ls' st σ Q) : AW μ kc ks pc ls st σ Q := by
  intro p l e s m args below meth c G Z hX hSc hZ H locs lsA hR hS hL
  exact k p l e s m args below meth c G Z hX hSc hZ H locs lsA hR hS ⟨hL.1, hL.2.1, fun i v h1 h2 => hL.2.2 i v (h i v h1 h2) h2⟩
theorem AW.conseq {Q' : Option Int32 → sd_S → Prop} (h : ∀ r σ', Q r σ' → Q' r σ') (k : AW μ kc ks pc ls st σ Q) : AW μ kc ks pc ls st σ Q' := by
  intro p l e s m args below meth c G Z hX hSc hZ
  exact k p l e s m args below meth c G Z hX hSc (fun r C I J H locs lsA pc hr hq => hZ r C I J H locs lsA pc hr (h _ _ hq))
/-- the ends -/
theorem AW.ret (d : decode μ.2.1 pc = .ok (.return_, 1)) (hr : μ.2.2.2.1 = none) (hc : kc ≤ μ.2.2.2.2.cells) (hs : ks ≤ μ.2.2.2.2.slots) (hq : Q none σ) : AW μ kc ks pc ls [] σ Q := by
  intro p l e s m args below meth c G Z hX hSc hZ H locs lsA hR hS hL
  exact W.widen hc hs (hZ none σ.1 σ.2.2.1 σ.2.2.2 H locs lsA pc ⟨hr, d⟩ hq hR hS)
theorem AW.iret {v : Int32} (d : decode μ.2.1 pc = .ok (.ireturn, 1)) (hr : ∃ ty, μ.2.2.2.1 = some ty ∧ narrow ty (.int v) = .int v) (hc : kc ≤ μ.2.2.2.2.cells) (hs : ks ≤ μ.2.2.2.2.slots) (hq : Q (some v) σ) : AW μ kc ks pc ls [.int v] σ Q := by
  intro p l e s m args below meth c G Z hX hSc hZ H locs lsA hR hS hL
  exact W.widen hc hs (hZ (some v) σ.1 σ.2.2.1 σ.2.2.2 H locs lsA pc ⟨hr, d⟩ hq hR hS)
end Rows
end
section
-- rows over the heap
theorem sd_at {G : sd_G} {C : List sd_C} {I : sd_I} {J : sd_J} {a : Nat} {c : sd_C} (h : C[a]? = some c) : (sd_ws G C I J)[a]? = some (G.2.2.1.size + a, sd_E G I J a c) := by rw [sd_ws_at, h]; rfl
theorem sd_R.lt {G : sd_G} {C : List sd_C} {I : sd_I} {J : sd_J} {H : Heap} {a : Nat} {c : sd_C} (h : sd_R G C I J H) (hc : C[a]? = some c) : a < 100000 := Nat.lt_of_lt_of_le (List.getElem?_eq_some_iff.mp hc).1 h.2.1
theorem sd_R.put {G : sd_G} {C : List sd_C} {I I' : sd_I} {J J' : sd_J} {H H' : Heap} {a : Nat} {c c' : sd_C} (hR : sd_R G C I J H) (hC : C[a]? = some c) (h2 : ∀ k d, k ≠ a → sd_E G I' J' k d = sd_E G I J k d) (hz : H'.size = H.size) (oq : ∀ q, q ≠ G.2.2.1.size + a → H'[q]? = H[q]?) (hat : va_at G.1 vwCl (G.2.2.1.size + a, sd_E G I' J' a c') H') : sd_R G (C.set a c') I' J' H' := by
  refine ⟨by rw [hz, hR.1, List.length_set], by rw [List.length_set]; exact hR.2.1, fun q hq => ?_, ?_⟩
  · rw [oq q (by omega)]; exact hR.2.2.1 q hq
  · rw [sd_ws_upd hC h2]
    exact hR.2.2.2.set (sd_D G C I J) (sd_at hC) hat oq
theorem sd_u_ne {α : Type} {I : Nat → Nat → α} {a b j : Nat} {v : α} (h : b ≠ a) : sd_u I a j v b = I b := if_neg h
theorem sd_u_eq {α : Type} {I : Nat → Nat → α} {a j : Nat} {v : α} : sd_u I a j v a = fun k => if k = j then v else I a k := if_pos rfl
theorem sd_r_ne {α : Type} {I : Nat → Nat → α} {a b : Nat} {f : Nat → α} (h : b ≠ a) : sd_r I a f b = I b := if_neg h
theorem sd_r_eq {α : Type} {I : Nat → Nat → α} {a : Nat} {f : Nat → α} : sd_r I a f a = f := if_pos rfl
theorem sd_E_I {G : sd_G} {I I' : sd_I} {J : sd_J} {k : Nat} (h : I' k = I k) (d : sd_C) : sd_E G I' J k d = sd_E G I J k d := by
  unfold sd_E sd_fs; rw [h]
theorem sd_E_J {G : sd_G} {I : sd_I} {J J' : sd_J} {k : Nat} (h : J' k = J k) (d : sd_C) : sd_E G I J' k d = sd_E G I J k d := by
  unfold sd_E; rw [h]
section Mem
variable {μ : sd_M} {kc ks pc : Nat} {ls st : List Value} {C : List sd_C} {X : Nat × (Nat → Int32)} {I : sd_I} {J : sd_J} {Q : Option Int32 → sd_S → Prop}
theorem sd_fs_at {G : sd_G} {I : sd_I} {a k : Nat} {c : sd_C} (hk : k < sd_nF c.1) : (sd_fs G I a c)[k]? = some (sd_fv G (sd_isR c.1 k) (c.2.2.getD k none) (I a k)) := by
  unfold sd_fs
  rw [List.getElem?_map, List.getElem?_range hk]; rfl
/-- a field is read -/
theorem AW.get {a k idx n ci N : Nat} {rs : List (Option Nat)} {Cn : String} {T : u_T} {v : Value} (d : decode μ.2.1 pc = .ok (.getfield idx, 3)) (hc : vwCl[ci]? = some (Cn, T, N)) (hin : ∀ w ∈ u_ws Cn T N, w ∈ sd_gd) (hk : k < N) (hN : sd_nF ci = N) (hci : ci < 13)
    (hw : Cond.fieldLink μ.1.cls idx (T k).1 (T k).2.1 (T k).2.2.1 ∈ sd_gd) (hC : C[a]? = some (ci, n, rs)) (hv : sd_av (sd_isR ci k) (rs.getD k none) (I a k) = v) (hv2 : ∀ r, rs.getD k none = some r → r < 100000)
    (kk : AW μ kc ks (pc + 3) ls (v :: st) (C, X, I, J) Q) : AW μ kc ks pc ls (.ref a :: st) (C, X, I, J) Q := by
  intro p l e s m args below meth c G Z hX hSc hZ H locs lsA hR hS hL
  show W p l e _ s m args below meth c H locs kc ks Z (F0 m pc lsA (Value.ref (sd_ad G a) :: st.map (sd_v G)))
  rw [sd_ad_lt (hR.lt hC)]
  have he : (sd_ws G C I J)[a]? = some (G.2.2.1.size + a, .inr (ci, sd_fs G I a (ci, n, rs))) := by rw [sd_at hC]; unfold sd_E; rw [if_pos hci]
  refine va_get (D := G.1) (ci := ci) (v := sd_v G v) (C := Cn) (T := T) (N := N) hX.1 hX.2.1 hX.2.2.2.2.2.1 hin hX.2.2.2.2.1 hX.2.2.2.2.2.2.2.2.1.1 hR.2.2.2 a he hc k hk (hX.2.2.2.2.2.1 _ hw) (fun _ h9 => h9) ?_ d (kk p l e s m args below meth c G Z hX hSc hZ H locs lsA hR hS hL)
  rw [← hv, sd_av_v hv2]
  exact sd_fs_at (c := (ci, n, rs)) (by rw [hN]; exact hk)
theorem sd_fs_put {G : sd_G} {I : sd_I} {a k : Nat} {ci n : Nat} {rs : List (Option Nat)} {v : Int32} (hk : k < sd_nF ci) (hr : sd_isR ci k = false) : sd_fs G (sd_u I a k v) a (ci, n, rs) = (sd_fs G I a (ci, n, rs)).set k (.int v) := by
  apply List.ext_getElem?
  intro j
  by_cases hj : j = k
  · subst hj
    rw [sd_fs_at (c := (ci, n, rs)) hk, List.getElem?_set_self (by unfold sd_fs; simpa using hk), sd_u_eq]
    simp [sd_fv, hr]
  · rw [List.getElem?_set_ne (fun e => hj e.symm)]
    by_cases hl : j < sd_nF ci
    · rw [sd_fs_at (c := (ci, n, rs)) hl, sd_fs_at (c := (ci, n, rs)) hl, sd_u_eq]
      simp [hj]
    · rw [List.getElem?_eq_none, List.getElem?_eq_none] <;> (unfold sd_fs; simp; omega)
theorem sd_fs_putR {G : sd_G} {I : sd_I} {a k r : Nat} {ci n : Nat} {rs : List (Option Nat)} (hk : k < sd_nF ci) (hl : k < rs.length) (hr : sd_isR ci k = true) : sd_fs G I a (ci, n, rs.set k (some r)) = (sd_fs G I a (ci, n, rs)).set k (.ref (G.2.2.1.size + r)) := by
  apply List.ext_getElem?
  intro j
  by_cases hj : j = k
  · subst hj
    rw [sd_fs_at (c := (ci, n, _)) hk, List.getElem?_set_self (by unfold sd_fs; simpa using hk)]
    simp [sd_fv, hr, List.getD_eq_getElem?_getD, List.getElem?_set_self hl, va_rf]
  · rw [List.getElem?_set_ne (fun e => hj e.symm)]
    by_cases hl2 : j < sd_nF ci
    · rw [sd_fs_at (c := (ci, n, _)) hl2, sd_fs_at (c := (ci, n, _)) hl2]
      simp [List.getD_eq_getElem?_getD, List.getElem?_set_ne (fun e => hj e.symm)]
    · rw [List.getElem?_eq_none, List.getElem?_eq_none] <;> (unfold sd_fs; simp; omega)
/-- a number is put into a field that isn't final -/
theorem AW.put {a k idx n ci N : Nat} {rs : List (Option Nat)} {Cn : String} {T : u_T} {v : Int32} {ty : FieldType} (d : decode μ.2.1 pc = .ok (.putfield idx, 3)) (hc : vwCl[ci]? = some (Cn, T, N)) (hin : ∀ w ∈ u_ws Cn T N, w ∈ sd_gd) (ty0 : Nat → FieldType) (hty : ∀ k, k < N → parseFieldDescriptor (T k).2.2.1 = some (ty0 k)) (hnm : ∀ a, a < N → ∀ b, b < N → a ≠ b → (T a).2.1 ≠ (T b).2.1) (hk : k < N) (hN : sd_nF ci = N) (hci : ci < 13)
    (hw : Cond.fieldLink μ.1.cls idx (T k).1 (T k).2.1 (T k).2.2.1 ∈ sd_gd) (hfin : (T k).2.2.2 = false) (hd : parseFieldDescriptor (T k).2.2.1 = some ty) (hn : narrow ty (.int v) = .int v) (hfit : fits ty (.int v) = true) (hr : sd_isR ci k = false) (hC : C[a]? = some (ci, n, rs))
    (kk : AW μ kc ks (pc + 3) ls st (C, X, sd_u I a k v, J) Q) : AW μ kc ks pc ls (.int v :: .ref a :: st) (C, X, I, J) Q := by
  intro p l e s m args below meth c G Z hX hSc hZ H locs lsA hR hS hL
  show W p l e _ s m args below meth c H locs kc ks Z (F0 m pc lsA (Value.int v :: Value.ref (sd_ad G a) :: st.map (sd_v G)))
  rw [sd_ad_lt (hR.lt hC)]
  have hK := hX.2.2.2.2.2.2.2.2.1.1
  have hts := hX.2.2.2.2.2.1
  have he : (sd_ws G C I J)[a]? = some (G.2.2.1.size + a, .inr (ci, sd_fs G I a (ci, n, rs))) := by rw [sd_at hC]; unfold sd_E; rw [if_pos hci]
  have hap := va_apart (own := μ.1.cls) hts hin ty0 hty hnm hK hc
  obtain ⟨r, h1, cell, q1, q2, q3, q4⟩ := hR.2.2.2 a _ he
  have hr' : r = (Cn, T, N) := Option.some.inj (h1.symm.trans hc)
  subst hr'
  obtain ⟨hSl, hfc, kC, hkC, hkind⟩ := hK.1 ci _ hc
  obtain ⟨cf, kf, fi, f, hi, hsl⟩ := hSl k hk
  have hlay := hts _ (hin _ (u_in_lay hk))
  unfold u_lay at hlay
  rw [if_neg (by rw [hfin]; decide)] at hlay
  have hst := (u_facts hfc hkC (u_lays hts hin hk) hi).1
  have h6 := u_store hfc hkC hkind hlay hi hd hn hfit
  refine W.putK hX.1 hX.2.1 (f := f) ⟨hX.2.2.2.2.1, hts _ hw, ⟨_, _, _, hi⟩, hst⟩ (by rw [q2]; exact h6) q1 q3 (by rw [hsl]; exact k2_hasslot (q4 k hk)) rfl rfl d fun H' e1 e2 e3 => ?_
  rw [hsl] at e1 ⊢
  have hR' : sd_R G (C.set a (ci, n, rs)) (sd_u I a k v) J H' := by
    refine hR.put hC (fun k' d' hk' => sd_E_I (sd_u_ne hk') d') e2 e3 ?_
    have hE : sd_E G (sd_u I a k v) J a (ci, n, rs) = .inr (ci, (sd_fs G I a (ci, n, rs)).set k (.int v)) := by
      unfold sd_E; rw [if_pos hci, sd_fs_put (by rw [hN]; exact hk) hr]
    rw [hE]
    exact ⟨_, hc, t_OB.to (V := updV (vp_V (sd_fs G I a (ci, n, rs))) k (.int v)) ⟨_, e1, q2, q3, t_set q4 hap hk (.int v)⟩ (fun j _ => vp_updV_set (by unfold sd_fs; simpa [hN] using hk) _ j)⟩
  rw [sd_set_same hC] at hR'
  exact kk p l e s m args below meth c G Z hX hSc hZ H' _ lsA hR' (hS.put e2 e3 (Nat.le_add_right _ _)) hL
/-- a reference is put into a final field, in the constructor -/
theorem AW.putF {a b k idx n ci N : Nat} {rs : List (Option Nat)} {Cn : String} {T : u_T} {ty : FieldType} (d : decode μ.2.1 pc = .ok (.putfield idx, 3)) (hc : vwCl[ci]? = some (Cn, T, N)) (hin : ∀ w ∈ u_ws Cn T N, w ∈ sd_gd) (ty0 : Nat → FieldType) (hty : ∀ k, k < N → parseFieldDescriptor (T k).2.2.1 = some (ty0 k)) (hnm : ∀ a, a < N → ∀ b, b < N → a ≠ b → (T a).2.1 ≠ (T b).2.1) (hk : k < N) (hN : sd_nF ci = N) (hci : ci < 13)
    (hw : Cond.fieldLink μ.1.cls idx (T k).1 (T k).2.1 (T k).2.2.1 ∈ sd_gd) (hfin : (T k).2.2.2 = true) (hname : μ.1.name = "<init>") (hdecl : (T k).1 = μ.1.cls) (hd : parseFieldDescriptor (T k).2.2.1 = some ty) (hn : ∀ b, narrow ty (.ref b) = .ref b) (hfit : ∀ b, fits ty (.ref b) = true) (hr : sd_isR ci k = true) (hC : C[a]? = some (ci, n, rs)) (hl : k < rs.length) (hb : b < 100000)
    (kk : AW μ kc ks (pc + 3) ls st (C.set a (ci, n, rs.set k (some b)), X, I, J) Q) : AW μ kc ks pc ls (.ref b :: .ref a :: st) (C, X, I, J) Q := by
  intro p l e s m args below meth c G Z hX hSc hZ H locs lsA hR hS hL
  show W p l e _ s m args below meth c H locs kc ks Z (F0 m pc lsA (Value.ref (sd_ad G b) :: Value.ref (sd_ad G a) :: st.map (sd_v G)))
  rw [sd_ad_lt (hR.lt hC), sd_ad_lt hb]
  have hK := hX.2.2.2.2.2.2.2.2.1.1
  have hts := hX.2.2.2.2.2.1
  have hown := hX.2.2.2.2.1
  have he : (sd_ws G C I J)[a]? = some (G.2.2.1.size + a, .inr (ci, sd_fs G I a (ci, n, rs))) := by rw [sd_at hC]; unfold sd_E; rw [if_pos hci]
  have hap := va_apart (own := μ.1.cls) hts hin ty0 hty hnm hK hc
  obtain ⟨r, h1, cell, q1, q2, q3, q4⟩ := hR.2.2.2 a _ he
  have hr' : r = (Cn, T, N) := Option.some.inj (h1.symm.trans hc)
  subst hr'
  obtain ⟨hSl, hfc, kC, hkC, hkind⟩ := hK.1 ci _ hc
  obtain ⟨cf, kf, fi, f, hi, hsl⟩ := hSl k hk
  have hlay := hts _ (hin _ (u_in_lay hk))
  unfold u_lay at hlay
  rw [if_pos hfin] at hlay
  have hst := (u_facts hfc hkC (u_lays hts hin hk) hi).1
  have hcf : m.cls = cf := by
    obtain ⟨_, _, c', _, _, _, -, -, hf', -, -, -, hown2, -⟩ := Cond.laysFinal_spec hlay
    have e1 : c' = cf := by have := hi.symm.trans hf'; simp at this; exact this.1.symm
    rw [hdecl] at hown2
    rw [← e1]; exact Option.some.inj (hown.symm.trans hown2)
  have h6 := u_fits hfc hkC hkind (Or.inr hlay) hi hd (hn (G.2.2.1.size + b)) (hfit (G.2.2.1.size + b))
  refine W.putFinK hX.1 hX.2.1 hown (hts _ hw) hi hst hcf (hX.2.2.2.2.2.2.2.1.trans hname) (by rw [q2]; exact h6) q1 q3 (by rw [hsl]; exact k2_hasslot (q4 k hk)) rfl rfl d fun H' e1 e2 e3 => ?_
  rw [hsl] at e1 ⊢
  have hR' : sd_R G (C.set a (ci, n, rs.set k (some b))) I J H' := by
    refine hR.put hC (fun _ _ _ => rfl) e2 e3 ?_
    have hE : sd_E G I J a (ci, n, rs.set k (some b)) = .inr (ci, (sd_fs G I a (ci, n, rs)).set k (.ref (G.2.2.1.size + b))) := by
      unfold sd_E; rw [if_pos hci, sd_fs_putR (by rw [hN]; exact hk) hl hr]
    rw [hE]
    exact ⟨_, hc, t_OB.to (V := updV (vp_V (sd_fs G I a (ci, n, rs))) k (.ref (G.2.2.1.size + b))) ⟨_, e1, q2, q3, t_set q4 hap hk _⟩ (fun j _ => vp_updV_set (by unfold sd_fs; simpa [hN] using hk) _ j)⟩
  exact kk p l e s m args below meth c G Z hX hSc hZ H' _ lsA hR' (hS.put e2 e3 (Nat.le_add_right _ _)) hL
theorem sd_eI {G : sd_G} {C : List sd_C} {I : sd_I} {J : sd_J} {a n : Nat} {rs : List (Option Nat)} (hC : C[a]? = some (20, n, rs)) : (sd_ws G C I J)[a]? = some (G.2.2.1.size + a, .inl (G.2.1 20, n, .inl (I a))) := sd_at hC
theorem sd_eC {G : sd_G} {C : List sd_C} {I : sd_I} {J : sd_J} {a n : Nat} {rs : List (Option Nat)} (hC : C[a]? = some (21, n, rs)) : (sd_ws G C I J)[a]? = some (G.2.2.1.size + a, .inl (G.2.1 21, n, .inl (I a))) := sd_at hC
theorem sd_eJ {G : sd_G} {C : List sd_C} {I : sd_I} {J : sd_J} {a n : Nat} {rs : List (Option Nat)} (hC : C[a]? = some (22, n, rs)) : (sd_ws G C I J)[a]? = some (G.2.2.1.size + a, .inl (G.2.1 22, n, .inr (.inl (J a)))) := sd_at hC
theorem sd_eR {G : sd_G} {C : List sd_C} {I : sd_I} {J : sd_J} {a n t : Nat} {rs : List (Option Nat)} (ht : 22 < t) (hC : C[a]? = some (t, n, rs)) : (sd_ws G C I J)[a]? = some (G.2.2.1.size + a, .inl (G.2.1 t, n, .inr (.inr (.inr (.inr (fun j => (rs.getD j none).map (G.2.2.1.size + ·))))))) := by
  rw [sd_at hC]; unfold sd_E; rw [if_neg (by omega), if_neg (by omega), if_neg (by omega)]
/-- elements are read -/
theorem AW.iald {a n : Nat} {rs : List (Option Nat)} {i : Int32} (d : decode μ.2.1 pc = .ok (.iaload, 1)) (hC : C[a]? = some (20, n, rs)) (j : Nat) (hi : i = nI j) (hj : j < n) (hn : n < 2 ^ 31) (kk : AW μ kc ks (pc + 1) ls (.int (I a j) :: st) (C, X, I, J) Q) : AW μ kc ks pc ls (.int i :: .ref a :: st) (C, X, I, J) Q := by
  subst hi
  intro p l e s m args below meth c G Z hX hSc hZ H locs lsA hR hS hL
  show W p l e _ s m args below meth c H locs kc ks Z (F0 m pc lsA (Value.int (nI j) :: Value.ref (sd_ad G a) :: st.map (sd_v G)))
  rw [sd_ad_lt (hR.lt hC)]
  refine va_iald hX.1 hX.2.1 hX.2.2.2.2.2.2.2.2.1.1 hR.2.2.2 a 0 (sd_eI hC) rfl (vp_in_nI hj hn) d ?_
  rw [nI_clamp (by omega)]
  exact kk p l e s m args below meth c G Z hX hSc hZ H locs lsA hR hS hL
theorem AW.cald {a n : Nat} {rs : List (Option Nat)} {i : Int32} (d : decode μ.2.1 pc = .ok (.caload, 1)) (hC : C[a]? = some (21, n, rs)) (j : Nat) (hi : i = nI j) (hj : j < n) (hn : n < 2 ^ 31) (kk : AW μ kc ks (pc + 1) ls (.int (I a j) :: st) (C, X, I, J) Q) : AW μ kc ks pc ls (.int i :: .ref a :: st) (C, X, I, J) Q := by
  subst hi
  intro p l e s m args below meth c G Z hX hSc hZ H locs lsA hR hS hL
  show W p l e _ s m args below meth c H locs kc ks Z (F0 m pc lsA (Value.int (nI j) :: Value.ref (sd_ad G a) :: st.map (sd_v G)))
  rw [sd_ad_lt (hR.lt hC)]
  refine va_cald hX.1 hX.2.1 hX.2.2.2.2.2.2.2.2.1.1 hR.2.2.2 a 1 (sd_eC hC) rfl (vp_in_nI hj hn) d ?_
  rw [nI_clamp (by omega)]
  exact kk p l e s m args below meth c G Z hX hSc hZ H locs lsA hR hS hL
theorem AW.lald {a n : Nat} {rs : List (Option Nat)} {i : Int32} (d : decode μ.2.1 pc = .ok (.laload, 1)) (hC : C[a]? = some (22, n, rs)) (j : Nat) (hi : i = nI j) (hj : j < n) (hn : n < 2 ^ 31) (kk : AW μ kc ks (pc + 1) ls (.long (J a j) :: st) (C, X, I, J) Q) : AW μ kc ks pc ls (.int i :: .ref a :: st) (C, X, I, J) Q := by
  subst hi
  intro p l e s m args below meth c G Z hX hSc hZ H locs lsA hR hS hL
  show W p l e _ s m args below meth c H locs kc ks Z (F0 m pc lsA (Value.int (nI j) :: Value.ref (sd_ad G a) :: st.map (sd_v G)))
  rw [sd_ad_lt (hR.lt hC)]
  refine va_lald hX.1 hX.2.1 hX.2.2.2.2.2.2.2.2.1.1 hR.2.2.2 a 2 (sd_eJ hC) rfl (vp_in_nI hj hn) d ?_
  rw [nI_clamp (by omega)]
  exact kk p l e s m args below meth c G Z hX hSc hZ H locs lsA hR hS hL
theorem AW.aald {a n t b : Nat} {rs : List (Option Nat)} {i : Int32} (d : decode μ.2.1 pc = .ok (.aaload, 1)) (ht : t = 23 ∨ t = 24 ∨ t = 25) (hC : C[a]? = some (t, n, rs)) (j : Nat) (hi : i = nI j) (hj : j < n) (hn : n < 2 ^ 31) (hb : rs.getD j none = some b) (hb2 : b < 100000) (kk : AW μ kc ks (pc + 1) ls (.ref b :: st) (C, X, I, J) Q) : AW μ kc ks pc ls (.int i :: .ref a :: st) (C, X, I, J) Q := by
  subst hi
  intro p l e s m args below meth c G Z hX hSc hZ H locs lsA hR hS hL
  show W p l e _ s m args below meth c H locs kc ks Z (F0 m pc lsA (Value.int (nI j) :: Value.ref (sd_ad G a) :: st.map (sd_v G)))
  rw [sd_ad_lt (hR.lt hC)]
  have key : ∀ (t0 : Nat) (Cn : String), (sd_tys G)[t0]? = some (G.2.1 t, .object Cn) → W p l e μ.2.2.2.2 s m args below meth c H locs kc ks Z (F0 m pc lsA (Value.int (nI j) :: Value.ref (G.2.2.1.size + a) :: st.map (sd_v G))) := by
    intro t0 Cn h0
    refine va_aldq hX.1 hX.2.1 hX.2.2.2.2.2.2.2.2.1.1 hR.2.2.2 a t0 (sd_eR (by omega) hC) h0 (vp_in_nI hj hn) d ?_
    rw [nI_clamp (by omega), hb]
    have := kk p l e s m args below meth c G Z hX hSc hZ H locs lsA hR hS hL
    have e2 : (Value.ref b :: st).map (sd_v G) = Value.ref (G.2.2.1.size + b) :: st.map (sd_v G) := by
      show Value.ref (sd_ad G b) :: _ = _
      rw [sd_ad_lt hb2]
    rw [e2] at this
    exact this
  rcases ht with rfl | rfl | rfl
  · exact key 3 _ rfl
  · exact key 4 _ rfl
  · exact key 5 _ rfl
theorem AW.alen {a n t : Nat} {rs : List (Option Nat)} {v : Int32} (d : decode μ.2.1 pc = .ok (.arraylength, 1)) (hC : C[a]? = some (20, n, rs)) (hv : nI n = v) (kk : AW μ kc ks (pc + 1) ls (.int v :: st) (C, X, I, J) Q) : AW μ kc ks pc ls (.ref a :: st) (C, X, I, J) Q := by
  intro p l e s m args below meth c G Z hX hSc hZ H locs lsA hR hS hL
  show W p l e _ s m args below meth c H locs kc ks Z (F0 m pc lsA (Value.ref (sd_ad G a) :: st.map (sd_v G)))
  rw [sd_ad_lt (hR.lt hC)]
  exact va_alen hX.1 hX.2.1 hX.2.2.2.2.2.2.2.2.1.1 hR.2.2.2 a 0 (sd_eI hC) (ty := .int) rfl hv d (kk p l e s m args below meth c G Z hX hSc hZ H locs lsA hR hS hL)
/-- elements are put -/
theorem AW.iast {a n : Nat} {rs : List (Option Nat)} {i v : Int32} (d : decode μ.2.1 pc = .ok (.iastore, 1)) (hC : C[a]? = some (20, n, rs)) (j : Nat) (hi : i = nI j) (hj : j < n) (hn : n < 2 ^ 31) (kk : AW μ kc ks (pc + 1) ls st (C, X, sd_u I a j v, J) Q) : AW μ kc ks pc ls (.int v :: .int i :: .ref a :: st) (C, X, I, J) Q := by
  subst hi
  intro p l e s m args below meth c G Z hX hSc hZ H locs lsA hR hS hL
  show W p l e _ s m args below meth c H locs kc ks Z (F0 m pc lsA (Value.int v :: Value.int (nI j) :: Value.ref (sd_ad G a) :: st.map (sd_v G)))
  rw [sd_ad_lt (hR.lt hC)]
  have hK := hX.2.2.2.2.2.2.2.2.1.1
  have hcl : (nI j).toNatClampNeg = j := nI_clamp (by omega)
  refine W.iast hX.1 hX.2.1 (hR.2.2.2 a _ (sd_eI hC)) ((hK.2 0 _ rfl).1 n (fun j => .int (I a j))) (fun q => by cases q) (by show ¬ (nI j < 0 ∨ (arrV _ _ _).slots.size ≤ _); rw [arrV_size]; exact vp_in_nI hj hn) rfl rfl d fun H1 ee z oq => ?_
  have hR' : sd_R G (C.set a (20, n, rs)) (sd_u I a j v) J H1 := by
    refine hR.put hC (fun k' d' hk' => sd_E_I (sd_u_ne hk') d') z oq ?_
    show H1[G.2.2.1.size + a]? = some (vp_cell (G.2.1 20) (n, .inl (sd_u I a j v a)))
    rw [ee, vp_cell_i, vp_cell_i, arrV_store, hcl, sd_u_eq]
    congr 2
    funext q
    by_cases hq : q = j
    · subst hq; simp [updV]
    · simp [updV, hq]
  rw [sd_set_same hC] at hR'
  exact kk p l e s m args below meth c G Z hX hSc hZ H1 _ lsA hR' (hS.put z oq (Nat.le_add_right _ _)) hL
theorem AW.cast {a n : Nat} {rs : List (Option Nat)} {i v : Int32} (d : decode μ.2.1 pc = .ok (.castore, 1)) (hC : C[a]? = some (21, n, rs)) (j : Nat) (hi : i = nI j) (hj : j < n) (hn : n < 2 ^ 31) (hv : narrow .char (.int v) = .int v) (kk : AW μ kc ks (pc + 1) ls st (C, X, sd_u I a j v, J) Q) : AW μ kc ks pc ls (.int v :: .int i :: .ref a :: st) (C, X, I, J) Q := by
  subst hi
  intro p l e s m args below meth c G Z hX hSc hZ H locs lsA hR hS hL
  show W p l e _ s m args below meth c H locs kc ks Z (F0 m pc lsA (Value.int v :: Value.int (nI j) :: Value.ref (sd_ad G a) :: st.map (sd_v G)))
  rw [sd_ad_lt (hR.lt hC)]
  have hK := hX.2.2.2.2.2.2.2.2.1.1
  have hcl : (nI j).toNatClampNeg = j := nI_clamp (by omega)
  refine W.cast hX.1 hX.2.1 (hR.2.2.2 a _ (sd_eC hC)) ((hK.2 1 _ rfl).1 n (fun j => .int (I a j))) (fun q => by cases q) (by show ¬ (nI j < 0 ∨ (arrV _ _ _).slots.size ≤ _); rw [arrV_size]; exact vp_in_nI hj hn) rfl rfl d fun H1 ee z oq => ?_
  have hR' : sd_R G (C.set a (21, n, rs)) (sd_u I a j v) J H1 := by
    refine hR.put hC (fun k' d' hk' => sd_E_I (sd_u_ne hk') d') z oq ?_
    show H1[G.2.2.1.size + a]? = some (vp_cell (G.2.1 21) (n, .inl (sd_u I a j v a)))
    rw [ee, hv, vp_cell_i, vp_cell_i, arrV_store, hcl, sd_u_eq]
    congr 2
    funext q
    by_cases hq : q = j
    · subst hq; simp [updV]
    · simp [updV, hq]
  rw [sd_set_same hC] at hR'
  exact kk p l e s m args below meth c G Z hX hSc hZ H1 _ lsA hR' (hS.put z oq (Nat.le_add_right _ _)) hL
theorem AW.last {a n : Nat} {rs : List (Option Nat)} {i : Int32} {v : Int64} (d : decode μ.2.1 pc = .ok (.lastore, 1)) (hC : C[a]? = some (22, n, rs)) (j : Nat) (hi : i = nI j) (hj : j < n) (hn : n < 2 ^ 31) (kk : AW μ kc ks (pc + 1) ls st (C, X, I, sd_u J a j v) Q) : AW μ kc ks pc ls (.long v :: .int i :: .ref a :: st) (C, X, I, J) Q := by
  subst hi
  intro p l e s m args below meth c G Z hX hSc hZ H locs lsA hR hS hL
  show W p l e _ s m args below meth c H locs kc ks Z (F0 m pc lsA (Value.long v :: Value.int (nI j) :: Value.ref (sd_ad G a) :: st.map (sd_v G)))
  rw [sd_ad_lt (hR.lt hC)]
  have hK := hX.2.2.2.2.2.2.2.2.1.1
  have hcl : (nI j).toNatClampNeg = j := nI_clamp (by omega)
  refine W.last hX.1 hX.2.1 (hR.2.2.2 a _ (sd_eJ hC)) ((hK.2 2 _ rfl).1 n (fun j => .long (J a j))) (fun q => by cases q) (by show ¬ (nI j < 0 ∨ (arrV _ _ _).slots.size ≤ _); rw [arrV_size]; exact vp_in_nI hj hn) rfl rfl d fun H1 ee z oq => ?_
  have hR' : sd_R G (C.set a (22, n, rs)) I (sd_u J a j v) H1 := by
    refine hR.put hC (fun k' d' hk' => sd_E_J (sd_u_ne hk') d') z oq ?_
    show H1[G.2.2.1.size + a]? = some (vp_cell (G.2.1 22) (n, .inr (.inl (sd_u J a j v a))))
    rw [ee, vp_cell_l, vp_cell_l, arrV_store, hcl, sd_u_eq]
    congr 2
    funext q
    by_cases hq : q = j
    · subst hq; simp [updV]
    · simp [updV, hq]
  rw [sd_set_same hC] at hR'
  exact kk p l e s m args below meth c G Z hX hSc hZ H1 _ lsA hR' (hS.put z oq (Nat.le_add_right _ _)) hL
end Mem
end
section
-- new cells; calls
theorem sd_R.push {G : sd_G} {C : List sd_C} {I I' : sd_I} {J J' : sd_J} {H H' : Heap} {c : sd_C} (hR : sd_R G C I J H) (hl : C.length < 100000) (hI : ∀ k d, k < C.length → sd_E G I' J' k d = sd_E G I J k d) (hz : H'.size = H.size + 1) (oq : ∀ q, q < H.size → H'[q]? = H[q]?) (hat : va_at G.1 vwCl (G.2.2.1.size + C.length, sd_E G I' J' C.length c) H') : sd_R G (C ++ [c]) I' J' H' := by
  have hws : sd_ws G (C ++ [c]) I' J' = sd_ws G C I J ++ [(G.2.2.1.size + C.length, sd_E G I' J' C.length c)] := by
    apply List.ext_getElem?
    intro k
    have hlen : (sd_ws G C I J).length = C.length := by unfold sd_ws; simp
    rw [sd_ws_at]
    by_cases h1 : k < C.length
    · rw [List.getElem?_append_left h1, List.getElem?_append_left (by rw [hlen]; exact h1), sd_ws_at]
      cases C[k]? with
      | none => rfl
      | some d => simp only [Option.map_some, hI k d h1]
    · rw [List.getElem?_append_right (by omega), List.getElem?_append_right (by omega), hlen]
      by_cases h2 : k = C.length
      · subst h2; simp
      · rw [List.getElem?_eq_none (by simp; omega), List.getElem?_eq_none (by simp; omega)]; rfl
  refine ⟨by rw [hz, hR.1, List.length_append]; rfl, by rw [List.length_append]; exact hl, fun q hq => ?_, ?_⟩
  · rw [oq q (by rw [hR.1]; omega)]; exact hR.2.2.1 q hq
  · rw [hws]
    refine va_P.app (hR.2.2.2.kept (fun k q hq => oq _ ((hR.2.2.2 k q hq).lt))) (fun k q hq => ?_)
    have hz : k < 1 := (List.getElem?_eq_some_iff.mp hq).1
    rw [show k = 0 by omega] at hq
    cases hq
    exact hat
section New
variable {μ : sd_M} {kc ks pc : Nat} {ls st : List Value} {C : List sd_C} {X : Nat × (Nat → Int32)} {I : sd_I} {J : sd_J} {Q : Option Int32 → sd_S → Prop}
theorem AW.new {ci idx N q : Nat} {Cn : String} {T : u_T} (d : decode μ.2.1 pc = .ok (.new idx, 3)) (hc : vwCl[ci]? = some (Cn, T, N)) (hin : ∀ w ∈ u_ws Cn T N, w ∈ sd_gd) (ty : Nat → FieldType) (hty : ∀ k, k < N → parseFieldDescriptor (T k).2.2.1 = some (ty k)) (hN : sd_nF ci = N) (hci : ci < 13) (hdf : ∀ j, j < N → defaultValue (ty j) = sd_av (sd_isR ci j) none 0)
    (w1 : Cond.classLink μ.1.cls idx Cn ∈ sd_gd) (w2 : Cond.instantiable Cn N ∈ sd_gd) (w3 : Cond.initialized Cn ∈ sd_gd) (hq : C.length = q) (hl : q < 100000) (hkc : kc + 1 ≤ μ.2.2.2.2.cells) (hks : ks + N ≤ μ.2.2.2.2.slots)
    (kk : AW μ (kc + 1) (ks + N) (pc + 3) ls (.ref q :: st) (C ++ [(ci, 0, List.replicate N none)], X, sd_r I q (fun _ => 0), J) Q) : AW μ kc ks pc ls st (C, X, I, J) Q := by
  subst hq
  intro p l e s m args below meth c G Z hX hSc hZ H locs lsA hR hS hL
  have hR : sd_R G C I J H := hR
  have hK := hX.2.2.2.2.2.2.2.2.1.1
  have hts := hX.2.2.2.2.2.1
  have hKn := hK.1 ci _ hc
  refine W.newcK hX.1 hX.2.1 hX.2.2.2.2.1 (hts _ w1) (hts _ w2) (hts _ w3) rfl d hkc hks hKn.2.1 rfl fun H1 kC hkC e1 z1 o1 => ?_
  have hsz : H.size = G.2.2.1.size + C.length := hR.1
  have hR' : sd_R G (C ++ [(ci, 0, List.replicate N none)]) (sd_r I C.length (fun _ => 0)) J H1 := by
    refine hR.push hl (fun k d hk => sd_E_I (sd_r_ne (by omega)) d) z1 o1 ?_
    have hE : sd_E G (sd_r I C.length (fun _ => 0)) J C.length (ci, 0, List.replicate N none) = .inr (ci, sd_fs G (sd_r I C.length (fun _ => 0)) C.length (ci, 0, List.replicate N none)) := by
      unfold sd_E; rw [if_pos hci]
    rw [hE]
    refine ⟨_, hc, ?_⟩
    rw [hsz] at e1
    refine (u_born ty hts hin hKn hkC e1 hty).to (fun j hj => ?_)
    show defaultValue (ty j) = vp_V (sd_fs G _ _ _) j
    unfold vp_V
    rw [List.getD_eq_getElem?_getD, sd_fs_at (c := (ci, 0, List.replicate N none)) (by rw [hN]; exact hj), sd_r_eq, hdf j hj]
    have : (List.replicate N (none : Option Nat)).getD j none = none := by
      rw [List.getD_eq_getElem?_getD]
      by_cases h : j < N
      · rw [List.getElem?_replicate, if_pos h]; rfl
      · rw [List.getElem?_replicate, if_neg h]; rfl
    rw [this]
    cases sd_isR ci j <;> rfl
  have := kk p l e s m args below meth c G Z hX hSc hZ H1 locs lsA hR' ⟨Nat.le_trans hS.1 (by omega), fun x h1 h2 => (o1 x (Nat.lt_of_lt_of_le h1 hS.1)).trans (hS.2.1 x h1 h2), hS.2.2⟩ hL
  have e2 : (Value.ref C.length :: st).map (sd_v G) = Value.ref H.size :: st.map (sd_v G) := by
    show Value.ref (sd_ad G C.length) :: _ = _
    rw [sd_ad_lt hl, hsz]
  rw [e2] at this
  exact this
theorem AW.newa {at_ : ArrayType} {n : Int32} {N t q t0 : Nat} {ty : FieldType} (d : decode μ.2.1 pc = .ok (.newarray at_, 2)) (hty : newarray.typeOf at_ = ty) (ht : (t = 20 ∧ ty = .int ∧ t0 = 0) ∨ (t = 21 ∧ ty = .char ∧ t0 = 1) ∨ (t = 22 ∧ ty = .long ∧ t0 = 2)) (w : Cond.arrayClass ty ∈ sd_gd) (hn : ¬ n < 0) (hN : n.toNatClampNeg = N) (hb : N ≤ 1000) (hq : C.length = q) (hl : q < 100000) (hkc : kc + 1 ≤ μ.2.2.2.2.cells) (hks : ks + N ≤ μ.2.2.2.2.slots)
    (kk : AW μ (kc + 1) (ks + N) (pc + 2) ls (.ref q :: st) (C ++ [(t, N, [])], X, sd_r I q (fun _ => 0), sd_r J q (fun _ => 0)) Q) : AW μ kc ks pc ls (.int n :: st) (C, X, I, J) Q := by
  subst hq
  intro p l e s m args below meth c G Z hX hSc hZ H locs lsA hR hS hL
  have hR : sd_R G C I J H := hR
  have hK := hX.2.2.2.2.2.2.2.2.1.1
  have hts := hX.2.2.2.2.2.1
  have hsz : H.size = G.2.2.1.size + C.length := hR.1
  have hbytes : N * componentBytes (newarray.typeOf at_) ≤ 536870912 := by
    have : componentBytes (newarray.typeOf at_) ≤ 8 := by cases at_ <;> decide
    have := Nat.mul_le_mul hb this
    omega
  refine va_newaK hX.1 hX.2.1 (by rw [hty]; exact hts _ w) rfl d rfl hn hN hbytes hkc hks rfl fun H1 cA e1 z1 o1 hAr hNm => ?_
  rw [hty] at e1 hAr hNm
  have hcA : cA = G.2.1 t := by
    have h0 := (hK.2 t0 (G.2.1 t, ty) (by rcases ht with ⟨rfl, rfl, rfl⟩ | ⟨rfl, rfl, rfl⟩ | ⟨rfl, rfl, rfl⟩ <;> rfl)).2
    have h1 : s.vm.findClass ("[" ++ ty.toString) = some (G.2.1 t) := by rcases ht with ⟨rfl, rfl, rfl⟩ | ⟨rfl, rfl, rfl⟩ | ⟨rfl, rfl, rfl⟩ <;> exact h0
    exact Option.some.inj (hNm.symm.trans h1)
  have hR' : sd_R G (C ++ [(t, N, [])]) (sd_r I C.length (fun _ => 0)) (sd_r J C.length (fun _ => 0)) H1 := by
    refine hR.push hl (fun k d hk => by rw [sd_E_J (sd_r_ne (by omega)), sd_E_I (sd_r_ne (by omega))]) z1 o1 ?_
    rw [← hsz]
    subst hcA
    rcases ht with ⟨rfl, rfl, rfl⟩ | ⟨rfl, rfl, rfl⟩ | ⟨rfl, rfl, rfl⟩
    · show H1[H.size]? = some (vp_cell (G.2.1 20) (N, .inl (sd_r I C.length (fun _ => 0) C.length)))
      rw [e1, sd_r_eq]; rfl
    · show H1[H.size]? = some (vp_cell (G.2.1 21) (N, .inl (sd_r I C.length (fun _ => 0) C.length)))
      rw [e1, sd_r_eq]; rfl
    · show H1[H.size]? = some (vp_cell (G.2.1 22) (N, .inr (.inl (sd_r J C.length (fun _ => 0) C.length))))
      rw [e1, sd_r_eq]; rfl
  have := kk p l e s m args below meth c G Z hX hSc hZ H1 locs lsA hR' ⟨Nat.le_trans hS.1 (by omega), fun x h1 h2 => (o1 x (Nat.lt_of_lt_of_le h1 hS.1)).trans (hS.2.1 x h1 h2), hS.2.2⟩ hL
  have e2 : (Value.ref C.length :: st).map (sd_v G) = Value.ref H.size :: st.map (sd_v G) := by
    show Value.ref (sd_ad G C.length) :: _ = _
    rw [sd_ad_lt hl, hsz]
  rw [e2] at this
  exact this
theorem AW.anew {n : Int32} {N t q t0 idx : Nat} {Cn : String} (d : decode μ.2.1 pc = .ok (.anewarray idx, 3)) (ht : (t = 23 ∧ Cn = RX7 ∧ t0 = 3) ∨ (t = 24 ∧ Cn = RX4 ∧ t0 = 4) ∨ (t = 25 ∧ Cn = RX9 ∧ t0 = 5)) (w : Cond.classLink μ.1.cls idx Cn ∈ sd_gd) (wo : Cn ∈ sd_overs) (hn : ¬ n < 0) (hN : n.toNatClampNeg = N) (hb : N ≤ 1000) (hq : C.length = q) (hl : q < 100000) (hkc : kc + 1 ≤ μ.2.2.2.2.cells) (hks : ks + N ≤ μ.2.2.2.2.slots)
    (kk : AW μ (kc + 1) (ks + N) (pc + 3) ls (.ref q :: st) (C ++ [(t, N, List.replicate N none)], X, I, J) Q) : AW μ kc ks pc ls (.int n :: st) (C, X, I, J) Q := by
  subst hq; subst hN
  intro p l e s m args below meth c G Z hX hSc hZ H locs lsA hR hS hL
  have hR : sd_R G C I J H := hR
  have hK := hX.2.2.2.2.2.2.2.2.1.1
  have hts := hX.2.2.2.2.2.1
  have hsz : H.size = G.2.2.1.size + C.length := hR.1
  refine W.anew hX.1 hX.2.1 hX.2.2.2.2.1 (hts _ w) (va_AO.use (hX.2.2.2.2.2.2.2.2.1.2.2.2.1 _ wo)) rfl d rfl hn (by omega) hkc hks fun cA kA comp f1 f2 f3 f4 => ?_
  generalize hH1 : H.push ({ cls := cA, slots := Array.replicate n.toNatClampNeg .null, vm := .none } : Cell) = H1
  have z1 : H1.size = H.size + 1 := by rw [← hH1, Array.size_push]
  have e1 : H1[H.size]? = some (arrV cA n.toNatClampNeg (fun _ => .null)) := by rw [← hH1, Array.getElem?_push_size, ← arrV_new]
  have o1 : ∀ q : Nat, q < H.size → H1[q]? = H[q]? := fun q hq => by rw [← hH1, Array.getElem?_push, if_neg (Nat.ne_of_lt hq)]
  have hcA : cA = G.2.1 t := by
    have h0 : va_RA s (G.2.1 t) (.object Cn) := (hK.2 t0 (G.2.1 t, .object Cn) (by rcases ht with ⟨rfl, rfl, rfl⟩ | ⟨rfl, rfl, rfl⟩ | ⟨rfl, rfl, rfl⟩ <;> rfl)).2
    obtain ⟨_, _, _, _, _, h1⟩ := h0
    exact Option.some.inj (f1.symm.trans h1)
  have hR' : sd_R G (C ++ [(t, n.toNatClampNeg, List.replicate n.toNatClampNeg none)]) I J H1 := by
    refine hR.push hl (fun k d hk => rfl) z1 o1 ?_
    rw [← hsz]
    have hE : sd_E G I J C.length (t, n.toNatClampNeg, List.replicate n.toNatClampNeg none) = .inl (G.2.1 t, n.toNatClampNeg, .inr (.inr (.inr (.inr (fun j => ((List.replicate n.toNatClampNeg none).getD j none).map (G.2.2.1.size + ·)))))) := by
      unfold sd_E; rw [if_neg (by omega), if_neg (by omega), if_neg (by omega)]
    rw [hE]
    show H1[H.size]? = some (vp_cell _ _)
    rw [vp_cell_q, e1, hcA]
    congr 2
    funext j
    have : (List.replicate n.toNatClampNeg (none : Option Nat)).getD j none = none := by
      rw [List.getD_eq_getElem?_getD, List.getElem?_replicate]
      by_cases h : j < n.toNatClampNeg
      · rw [if_pos h]; rfl
      · rw [if_neg h]; rfl
    rw [this]; rfl
  have := kk p l e s m args below meth c G Z hX hSc hZ H1 locs lsA hR' ⟨Nat.le_trans hS.1 (by omega), fun x h1 h2 => (o1 x (Nat.lt_of_lt_of_le h1 hS.1)).trans (hS.2.1 x h1 h2), hS.2.2⟩ hL
  have e2 : (Value.ref C.length :: st).map (sd_v G) = Value.ref H.size :: st.map (sd_v G) := by
    show Value.ref (sd_ad G C.length) :: _ = _
    rw [sd_ad_lt hl, hsz]
  rw [e2] at this
  exact this
/-- a reference is put into an array of them -/
theorem AW.aast {a b n t t0 ci nb N : Nat} {rs rb : List (Option Nat)} {i : Int32} {Cn En : String} {T : u_T} (d : decode μ.2.1 pc = .ok (.aastore, 1)) (ht : (t = 23 ∧ En = RX7 ∧ t0 = 3) ∨ (t = 24 ∧ En = RX4 ∧ t0 = 4) ∨ (t = 25 ∧ En = RX9 ∧ t0 = 5)) (hC : C[a]? = some (t, n, rs)) (hB : C[b]? = some (ci, nb, rb)) (hci : ci < 13) (hc : vwCl[ci]? = some (Cn, T, N)) (hcast : Cn = En ∨ (Cn, En) ∈ sd_casts) (j : Nat) (hi : i = nI j) (hj : j < n) (hn : n < 2 ^ 31) (hrs : rs.length = n)
    (kk : AW μ kc ks (pc + 1) ls st (C.set a (t, n, rs.set j (some b)), X, I, J) Q) : AW μ kc ks pc ls (.ref b :: .int i :: .ref a :: st) (C, X, I, J) Q := by
  subst hi
  intro p l e s m args below meth c G Z hX hSc hZ H locs lsA hR hS hL
  have hR : sd_R G C I J H := hR
  show W p l e _ s m args below meth c H locs kc ks Z (F0 m pc lsA (Value.ref (sd_ad G b) :: Value.int (nI j) :: Value.ref (sd_ad G a) :: st.map (sd_v G)))
  rw [sd_ad_lt (hR.lt hC), sd_ad_lt (hR.lt hB)]
  have hK := hX.2.2.2.2.2.2.2.2.1.1
  have hcl : (nI j).toNatClampNeg = j := nI_clamp (by omega)
  have ht2 : 22 < t := by omega
  have heb : (sd_ws G C I J)[b]? = some (G.2.2.1.size + b, .inr (ci, sd_fs G I b (ci, nb, rb))) := by rw [sd_at hB]; unfold sd_E; rw [if_pos hci]
  obtain ⟨r', hr', cellV, g1, g2, g3, -⟩ := hR.2.2.2 b _ heb
  have hcls := (hK.1 ci _ hc).2
  have h0 : va_RA s (G.2.1 t) (.object En) := (hK.2 t0 (G.2.1 t, .object En) (by rcases ht with ⟨rfl, rfl, rfl⟩ | ⟨rfl, rfl, rfl⟩ | ⟨rfl, rfl, rfl⟩ <;> rfl)).2
  obtain ⟨kA, comp, k1, k2, k3, -⟩ := h0
  obtain ⟨kE, hkE, -⟩ := Vm.findClass_spec k3
  obtain ⟨kC, hkC, hkind⟩ := hcls.2
  have hass : s.vm.assignable (G.1.1 ci) comp = true := by
    rcases hcast with rfl | hm
    · have : comp = G.1.1 ci := Option.some.inj (k3.symm.trans hcls.1)
      rw [this]; exact va_assign hcls
    · obtain ⟨c0, t1, f1, f2, f3⟩ := Cond.castable_spec (va_Nw.use (A := args) rfl (hX.2.2.2.2.2.2.2.2.1.2.2.1 _ hm))
      cases hcls.1.symm.trans f1
      cases k3.symm.trans f2
      exact f3
  refine W.aast hX.1 hX.2.1 (hR.2.2.2 a _ (sd_eR ht2 hC)) (fun q h => by cases h) (fun h => by cases h) k1 k2 rfl hkE ⟨fun h => (vp_in_nI hj hn) (Or.inl h), by show _ < (arrV _ _ _).slots.size; rw [arrV_size, hcl]; exact hj⟩ g1 (fun q h => by rw [g3] at h; cases h) (by rw [g2]; exact hkC) (by rw [g2]; exact hass) rfl rfl d fun H1 ee z oq => ?_
  have hR' : sd_R G (C.set a (t, n, rs.set j (some b))) I J H1 := by
    refine hR.put hC (fun _ _ _ => rfl) z oq ?_
    have hE : sd_E G I J a (t, n, rs.set j (some b)) = .inl (G.2.1 t, n, .inr (.inr (.inr (.inr (fun k => ((rs.set j (some b)).getD k none).map (G.2.2.1.size + ·)))))) := by
      unfold sd_E; rw [if_neg (by omega), if_neg (by omega), if_neg (by omega)]
    rw [hE]
    show H1[G.2.2.1.size + a]? = some (vp_cell _ _)
    rw [ee, vp_cell_q, vp_cell_q, arrV_store, hcl]
    congr 2
    funext q
    by_cases hq : q = j
    · subst hq
      simp [updV, List.getD_eq_getElem?_getD, List.getElem?_set_self (show q < rs.length by omega), va_rf]
    · simp [updV, hq, List.getD_eq_getElem?_getD, List.getElem?_set_ne (fun e => hq e.symm)]
  exact kk p l e s m args below meth c G Z hX hSc hZ H1 _ lsA hR' (hS.put z oq (Nat.le_add_right _ _)) hL
/-- Object's constructor -/
theorem AW.obj {idx a : Nat} (d : decode μ.2.1 pc = .ok (.invokespecial idx, 3)) (w : Cond.methodLink μ.1.cls idx Lib.objectInit ∈ sd_gd) (hf : 1 ≤ μ.2.2.2.2.frames) (hlo : (st.map fun v => v.category).sum + 12 ≤ μ.2.2.2.2.locals) (kk : AW μ kc ks (pc + 3) ls st (C, X, I, J) Q) : AW μ kc ks pc ls (.ref a :: st) (C, X, I, J) Q := by
  intro p l e s m args below meth c G Z hX hSc hZ H locs lsA hR hS hL
  have hR : sd_R G C I J H := hR
  have hts := hX.2.2.2.2.2.1
  have hcat : ((st.map (sd_v G)).map fun v => v.category).sum = (st.map fun v => v.category).sum := by
    rw [List.map_map]
    exact congrArg List.sum (List.map_congr_left (fun v _ => sd_v_cat G v))
  exact W.objInit hX.1 hX.2.1 hX.2.2.2.2.1 (hts _ w) (hts _ wI_obj) (hts _ wC_obj) rfl (by rw [hX.2.2.2.1]; exact hL.1) rfl d hf (by show 2 * 0 + _ + 12 ≤ _; rw [hcat]; omega) (kk p l e s m args below meth c G Z hX hSc hZ H locs lsA hR hS hL)
end New
end
section
-- a method's contract out of its walk; calls
def sd_Qc (G : sd_G) (X : Nat × (Nat → Int32)) (Q : Option Int32 → sd_S → Prop) : Array Value → State → Outcome → State → Prop := fun _ st oc t =>
  (∃ (r : Option Int32) (C : List sd_C) (I : sd_I) (J : sd_J), oc = .returned (r.map Value.int) ∧ Q r (C, X, I, J) ∧ sd_R G C I J t.heap) ∧ va_F (sd_A G) st t
def sd_Pc (G : sd_G) (C : List sd_C) (I : sd_I) (J : sd_J) (U : State) : Prop := sd_F G U ∧ sd_R G C I J U.heap
theorem sd_en_args (G : sd_G) : ∀ (vs : List Value) (k i : Nat) (v : Value), (sd_en vs)[i]? = some v → v ≠ .null → (k + i, sd_v G v) ∈ lv_args k (vs.map (sd_v G)) := by
  intro vs
  induction vs with
  | nil => intro k i v h; simp [sd_en] at h
  | cons a vs ih =>
    intro k i v h hv
    unfold sd_en at h
    simp only [List.map_cons, lv_args, sd_v_cat]
    by_cases hc : a.category = 2
    · rw [if_pos hc] at h
      rw [if_pos hc]
      match i, h with
      | 0, h => cases h; exact List.mem_cons_self
      | 1, h => cases h; exact absurd rfl hv
      | i + 2, h =>
        refine List.mem_cons_of_mem _ ?_
        have := ih (k + 2) i v h hv
        rwa [show k + 2 + i = k + (i + 2) by omega] at this
    · rw [if_neg hc] at h
      rw [if_neg hc]
      match i, h with
      | 0, h => cases h; exact List.mem_cons_self
      | i + 1, h =>
        refine List.mem_cons_of_mem _ ?_
        have := ih (k + 1) i v h hv
        rwa [show k + 1 + i = k + (i + 1) by omega] at this
theorem sd_en_len (G : sd_G) (vs : List Value) : (lg_sl (vs.map (sd_v G))).length = (sd_en vs).length := by
  induction vs with
  | nil => rfl
  | cons a vs ih =>
    have h1 : lg_sl ((a :: vs).map (sd_v G)) = (if (sd_v G a).category = 2 then [.val (sd_v G a), .second] else [.val (sd_v G a)]) ++ lg_sl (vs.map (sd_v G)) := by
      simp [lg_sl]
    rw [h1, List.length_append, ih, sd_v_cat]
    rw [show sd_en (a :: vs) = if a.category = 2 then a :: .null :: sd_en vs else a :: sd_en vs from rfl]
    by_cases hc : a.category = 2
    · rw [if_pos hc, if_pos hc]; simp; omega
    · rw [if_neg hc, if_neg hc]; simp; omega
theorem sd_met {μ : sd_M} {vs : List Value} {C : List sd_C} {X : Nat × (Nat → Int32)} {I : sd_I} {J : sd_J} {Q : Option Int32 → sd_S → Prop} (h : AWm μ vs (C, X, I, J) Q) (hpl : plainName μ.1.cls = true) (hx : μ.1 ≠ x) (hfit : (sd_en vs).length ≤ μ.2.2.1) (l : Launch) (G : sd_G) :
    Met l μ.1 (.code μ.1 μ.2.1 μ.2.2.1 μ.2.2.2.1 :: sd_gd) μ.2.2.2.2 (va_Pc (vs.map (sd_v G)) (sd_Pc G C I J)) (sd_Qc G X Q) μ.2.2.2.2.cells μ.2.2.2.2.slots (sd_A G) := by
  refine Met.ofW (cc := μ.2.1) (maxL := μ.2.2.1) (ret := μ.2.2.2.1) hpl rfl ?_
  intro p e s m args below meth c s₁ B hml hv
  obtain ⟨rfl, hF, hR⟩ := hv
  have hts := atoms_spec (ws := .code μ.1 μ.2.1 μ.2.2.1 μ.2.2.2.1 :: sd_gd) B.pre
  have hX : sd_X μ p s m (vs.map (sd_v G)).toArray meth c G := ⟨B.exec, B.bytes, B.returns, hml, findClass_of_methodNamed B.named, fun w hw => hts w (List.mem_cons_of_mem _ hw), B.notSynchronized, (name_of_methodNamed B.named B.method).1, hF, hR.2.2.1, by rw [hR.1]; exact Nat.le_add_right _ _⟩
  rw [lg_entry_eq]
  have hl := lv_entry (vs.map (sd_v G)) (n := μ.2.2.1) (by rw [sd_en_len]; exact hfit)
  generalize ((lg_sl (vs.map (sd_v G)) ++ List.replicate (μ.2.2.1 - (lg_sl (vs.map (sd_v G))).length) Slot.unset).toArray) = lsA at hl ⊢
  refine h p l e s m _ below meth c G _ hX (fun e => absurd e hx) ?_ s.heap [] lsA hR va_S.rf ⟨hl.1, hl.2.1, fun i v hi hv => ?_⟩
  · intro r C' I' J' H locs lsB pc hr hq hR' hS'
    have hF' : ∀ t : State, t.heap = H → va_F (sd_A G) s t := fun t ht => hS'.F ht
    cases r with
    | none =>
      exact W.vret hX.1 hX.2.1 (hX.2.2.1.trans hr.1) (fun t ht hW => ⟨⟨none, C', I', J', rfl, hq, by rw [ht]; exact hR'⟩, hF' t ht⟩) hS'.2.2 hr.2 hX.2.2.2.2.2.2.1
    | some v =>
      obtain ⟨⟨ty, h1, h2⟩, h3⟩ := hr
      exact W.zret hX.1 hX.2.1 (hX.2.2.1.trans h1) h2 (fun t ht hW => ⟨⟨some v, C', I', J', rfl, hq, by rw [ht]; exact hR'⟩, hF' t ht⟩) hS'.2.2 h3 hX.2.2.2.2.2.2.1
  · by_cases hi2 : i < (sd_en vs).length
    · rw [List.getElem?_append_left hi2] at hi
      have := sd_en_args G vs 0 i v hi hv
      rw [Nat.zero_add] at this
      exact hl.2.2 _ this
    · rw [List.getElem?_append_right (by omega), List.getElem?_replicate] at hi
      split at hi
      · cases hi; exact absurd rfl hv
      · cases hi
theorem sd_call {p : Program} {l : Launch} {e : Env} {R : Room} {s : State} {m : MethodId} {args : Array Value} {below : List Frame} {meth : Method} {c : Code} {H : Heap} {locs : List Loc} {cells slots mc ms pc : Nat} {Z : State → Prop} {ls : Array Slot} {st0 rest : List Value} {a : Array Value} {H0 : Heap} {G : sd_G} {X : Nat × (Nat → Int32)} {Q : Option Int32 → sd_S → Prop}
    (hr : va_Run p l e R s m args below meth c H locs cells slots mc ms (F0 m pc ls st0) rest (sd_Qc G X Q a) (sd_A G)) (hS : va_S (sd_A G) H0 H locs)
    (kk : ∀ (r : Option Int32) (C : List sd_C) (I : sd_I) (J : sd_J) (H1 : Heap) (locs1 : List Loc), Q r (C, X, I, J) → sd_R G C I J H1 → va_S (sd_A G) H0 H1 locs1 → W p l e R s m args below meth c H1 locs1 (cells + mc) (slots + ms) Z (F0 m (pc + 3) ls (r.toList.map Value.int ++ rest))) : W p l e R s m args below meth c H locs cells slots Z (F0 m pc ls st0) := by
  intro T hT Y
  obtain ⟨v, st₀, t, T', L, h0, Y', hL, e1, e2, ⟨⟨r, C, I, J, hv, hq, hR⟩, hz, hk⟩, st⟩ := hr T hT Y
  have hv : v = r.map Value.int := by injection hv
  subst hv
  rw [h0] at hz hk
  obtain ⟨t2, a1, b1⟩ := kk r C I J T'.heap (locs ++ L) hq (by rw [e1]; exact hR)
    ⟨Nat.le_trans hS.1 (by rw [e1]; exact hz), fun q h1 h2 => by rw [e1, hk q (Nat.lt_of_lt_of_le h1 hS.1) h2]; exact hS.2.1 q h1 h2, fun q hq => by
      rcases List.mem_append.mp hq with h | h
      · exact hS.2.2 q h
      · exact hL q h⟩ T' rfl Y'
  refine ⟨t2, st t2 ?_, b1⟩
  cases r <;> exact a1
section Calls2
variable {μ μ' : sd_M} {kc ks kc' ks' pc : Nat} {ls st vs : List Value} {C : List sd_C} {X : Nat × (Nat → Int32)} {I : sd_I} {J : sd_J} {Q Q' : Option Int32 → sd_S → Prop} {idx n : Nat}
theorem sd_blind (G : sd_G) (vs : List Value) : FrameBlind (va_Pc (vs.map (sd_v G)) (sd_Pc G C I J)) := fun a U g mk q => by
  obtain ⟨q0, q1, q2⟩ := q
  exact ⟨q0, sd_F.same (u := U) rfl q1, q2⟩
theorem sd_preS {G : sd_G} {s : State} {H : Heap} (hF : sd_F G s) (hR : sd_R G C I J H) : PreS s H (va_Pc (vs.map (sd_v G)) (sd_Pc G C I J)) (vs.map (sd_v G)) :=
  ⟨sd_blind G vs, fun U hU hW => ⟨rfl, hF.warm hW, by rw [hU]; exact hR⟩⟩
theorem sd_room8 (G : sd_G) (m : MethodId) (lsA : Array Slot) (st0 : List Value) (h : (st.map fun v => v.category).sum ≤ 8) : 2 * (F0 m pc lsA st0).monitorRoom + ((st.map (sd_v G)).map fun v => v.category).sum ≤ 8 := by
  have hcat : ((st.map (sd_v G)).map fun v => v.category).sum = (st.map fun v => v.category).sum := by
    rw [List.map_map]
    exact congrArg List.sum (List.map_congr_left (fun v _ => sd_v_cat G v))
  show 2 * 0 + _ ≤ 8
  omega
/-- what a call asks of the callee and the rooms -/
def sd_ok (μ μ' : sd_M) (n : Nat) : Prop := plainName μ'.1.cls = true ∧ μ'.1 ≠ x ∧ (μ'.1.cls ≠ "java/lang/invoke/MethodHandle" ∧ μ'.1.cls ≠ "java/lang/invoke/VarHandle" ∧ (parseMethodDescriptor μ'.1.desc).map (fun d => d.parameters.length) = some n) ∧ (μ'.2.2.2.2.frames + 1 ≤ μ.2.2.2.2.frames ∧ 8 + (μ'.2.2.1 + 11) + μ'.2.2.2.2.locals ≤ μ.2.2.2.2.locals)
theorem sd_wsG (wc : Cond.code μ'.1 μ'.2.1 μ'.2.2.1 μ'.2.2.2.1 ∈ sd_gd) : ∀ w ∈ (Cond.code μ'.1 μ'.2.1 μ'.2.2.1 μ'.2.2.2.1 :: sd_gd), w ∈ sd_gd := fun w hw => by
  rcases List.mem_cons.mp hw with rfl | h
  · exact wc
  · exact h
theorem sd_map_rev (G : sd_G) (vs st : List Value) : (vs.reverse ++ st).map (sd_v G) = (vs.map (sd_v G)).reverse ++ st.map (sd_v G) := by simp
theorem sd_back {G : sd_G} {m : MethodId} {pc : Nat} {lsA : Array Slot} {r : Option Int32} : (F0 m pc lsA (r.toList.map Value.int ++ st.map (sd_v G))) = F0 m pc lsA ((r.toList.map Value.int ++ st).map (sd_v G)) := by
  cases r <;> rfl
/-- invokestatic -/
theorem AW.callS (hok : sd_ok μ μ' n) (wm : Cond.methodLink μ.1.cls idx μ'.1 ∈ sd_gd) (ws : Cond.static μ'.1 ∈ sd_gd) (wi : Cond.initialized μ'.1.cls ∈ sd_gd) (wc : Cond.code μ'.1 μ'.2.1 μ'.2.2.1 μ'.2.2.2.1 ∈ sd_gd) (d : decode μ.2.1 pc = .ok (.invokestatic idx, 3)) (hn : vs.length = n) (hfit : (sd_en vs).length ≤ μ'.2.2.1) (hst : (st.map fun v => v.category).sum ≤ 8)
    (hkc : kc + μ'.2.2.2.2.cells = kc') (hks : ks + μ'.2.2.2.2.slots = ks') (hc1 : kc' ≤ μ.2.2.2.2.cells) (hs1 : ks' ≤ μ.2.2.2.2.slots) {st0 : List Value} (hst0 : vs.reverse ++ st = st0)
    (h : AWm μ' vs (C, X, I, J) Q') (kk : ∀ r C I J, Q' r (C, X, I, J) → AW μ kc' ks' (pc + 3) ls (r.toList.map Value.int ++ st) (C, X, I, J) Q) : AW μ kc ks pc ls st0 (C, X, I, J) Q := by
  subst hkc; subst hks; subst hst0
  intro p l e s m args below meth c G Z hX hSc hZ H locs lsA hR hS hL
  have hR : sd_R G C I J H := hR
  have hts := hX.2.2.2.2.2.1
  have hG : GoodIn sd_gd (va_wsS μ.1.cls idx μ'.1 (.code μ'.1 μ'.2.1 μ'.2.2.1 μ'.2.2.2.1 :: sd_gd)) := sd_goodIn (fun w hw => by
    rcases List.mem_append.mp hw with h1 | h1
    · simp only [List.mem_cons, List.not_mem_nil, or_false] at h1
      rcases h1 with rfl | rfl | rfl <;> assumption
    · exact sd_wsG wc w h1)
  rw [sd_map_rev]
  refine sd_call (va_runS (As := vs.map (sd_v G)) (rest := st.map (sd_v G)) (n := n) ⟨hX.1, hX.2.1, hX.2.2.2.1, hX.2.2.2.2.1, hts⟩ (sd_met h hok.1 hok.2.1 hfit l G) (va_cwS n hts hG rfl rfl rfl hok.2.2.1 hok.2.2.2) (sd_preS hX.2.2.2.2.2.2.2.2.1 hR) rfl (by simpa using hn) hL.1 rfl (sd_room8 G m lsA _ hst) d ⟨hc1, hs1⟩) hS (fun r C' I' J' H1 locs1 hq hR' hS' => ?_)
  rw [sd_back]
  exact kk r C' I' J' hq p l e s m args below meth c G Z hX hSc hZ H1 locs1 lsA hR' hS' hL
/-- invokestatic, a private one of a nest mate -/
theorem AW.callSN {host : String} (hok : sd_ok μ μ' n) (wq : ((μ.1.cls, idx, μ'.1, host) : String × Nat × MethodName × String) ∈ sd_nest) (ws : Cond.static μ'.1 ∈ sd_gd) (wi : Cond.initialized μ'.1.cls ∈ sd_gd) (wc : Cond.code μ'.1 μ'.2.1 μ'.2.2.1 μ'.2.2.2.1 ∈ sd_gd) (d : decode μ.2.1 pc = .ok (.invokestatic idx, 3)) (hn : vs.length = n) (hfit : (sd_en vs).length ≤ μ'.2.2.1) (hst : (st.map fun v => v.category).sum ≤ 8)
    (hkc : kc + μ'.2.2.2.2.cells = kc') (hks : ks + μ'.2.2.2.2.slots = ks') (hc1 : kc' ≤ μ.2.2.2.2.cells) (hs1 : ks' ≤ μ.2.2.2.2.slots) {st0 : List Value} (hst0 : vs.reverse ++ st = st0)
    (h : AWm μ' vs (C, X, I, J) Q') (kk : ∀ r C I J, Q' r (C, X, I, J) → AW μ kc' ks' (pc + 3) ls (r.toList.map Value.int ++ st) (C, X, I, J) Q) : AW μ kc ks pc ls st0 (C, X, I, J) Q := by
  subst hkc; subst hks; subst hst0
  intro p l e s m args below meth c G Z hX hSc hZ H locs lsA hR hS hL
  have hR : sd_R G C I J H := hR
  have hts := hX.2.2.2.2.2.1
  rw [sd_map_rev]
  refine sd_call (va_runSN (host := host) (As := vs.map (sd_v G)) (rest := st.map (sd_v G)) (n := n) ⟨hX.1, hX.2.1, hX.2.2.2.1, hX.2.2.2.2.1, hts⟩ (sd_met h hok.1 hok.2.1 hfit l G) ⟨va_cnB n hts (sd_goodIn (sd_wsG wc)) rfl rfl rfl (hX.2.2.2.2.2.2.2.2.1.2.1 _ wq) (hts _ wi) hok.2.2.1 hok.2.2.2, hts _ ws, trivial⟩ (sd_preS hX.2.2.2.2.2.2.2.2.1 hR) rfl (by simpa using hn) hL.1 rfl (sd_room8 G m lsA _ hst) d ⟨hc1, hs1⟩) hS (fun r C' I' J' H1 locs1 hq hR' hS' => ?_)
  rw [sd_back]
  exact kk r C' I' J' hq p l e s m args below meth c G Z hX hSc hZ H1 locs1 lsA hR' hS' hL
theorem sd_preV {G : sd_G} {s : State} {H : Heap} {a ci na N : Nat} {rs : List (Option Nat)} {Cn : String} {T : u_T} (hF : sd_F G s) (hR : sd_R G C I J H) (hC : C[a]? = some (ci, na, rs)) (hci : ci < 13) (hc : vwCl[ci]? = some (Cn, T, N)) : PreV s H Cn (G.2.2.1.size + a) (va_Pc ((.ref a :: vs).map (sd_v G)) (sd_Pc G C I J)) (vs.map (sd_v G)) := by
  refine ⟨sd_blind G (.ref a :: vs), ?_, fun U hU hW => ⟨?_, hF.warm hW, by rw [hU]; exact hR⟩⟩
  · exact va_recv hF.1 hR.2.2.2 hc (q0 := a) (ci := ci) (fs := sd_fs G I a (ci, na, rs)) (by rw [sd_at hC]; unfold sd_E; rw [if_pos hci])
  · show _ = (Value.ref (sd_ad G a) :: _).toArray
    rw [sd_ad_lt (hR.lt hC)]
/-- invokevirtual, of a method of the object's own class -/
theorem AW.callV {a ci na N : Nat} {rs : List (Option Nat)} {Cn : String} {T : u_T} (hok : sd_ok μ μ' n) (hcls : μ'.1.cls = Cn) (wm : Cond.methodLink μ.1.cls idx μ'.1 ∈ sd_gd) (wi : Cond.instanceMethod μ'.1 ∈ sd_gd) (wse : Cond.selects Cn μ'.1 μ'.1 ∈ sd_gd) (wz : Cond.initialized Cn ∈ sd_gd) (wc : Cond.code μ'.1 μ'.2.1 μ'.2.2.1 μ'.2.2.2.1 ∈ sd_gd) (hci : ci < 13) (hc : vwCl[ci]? = some (Cn, T, N)) (d : decode μ.2.1 pc = .ok (.invokevirtual idx, 3)) (hn : vs.length = n) (hfit : (sd_en (.ref a :: vs)).length ≤ μ'.2.2.1) (hst : (st.map fun v => v.category).sum ≤ 8)
    (hkc : kc + μ'.2.2.2.2.cells = kc') (hks : ks + μ'.2.2.2.2.slots = ks') (hc1 : kc' ≤ μ.2.2.2.2.cells) (hs1 : ks' ≤ μ.2.2.2.2.slots) (hC : C[a]? = some (ci, na, rs)) {st0 : List Value} (hst0 : vs.reverse ++ .ref a :: st = st0)
    (h : AWm μ' (.ref a :: vs) (C, X, I, J) Q') (kk : ∀ r C I J, Q' r (C, X, I, J) → AW μ kc' ks' (pc + 3) ls (r.toList.map Value.int ++ st) (C, X, I, J) Q) : AW μ kc ks pc ls st0 (C, X, I, J) Q := by
  subst hkc; subst hks; subst hst0
  intro p l e s m args below meth c G Z hX hSc hZ H locs lsA hR hS hL
  have hR : sd_R G C I J H := hR
  have hts := hX.2.2.2.2.2.1
  have hG : GoodIn sd_gd (wsV μ.1.cls idx Cn μ'.1 (.code μ'.1 μ'.2.1 μ'.2.2.1 μ'.2.2.2.1 :: sd_gd)) := sd_goodIn (fun w hw => by
    rcases List.mem_append.mp hw with h1 | h1
    · simp only [List.mem_cons, List.not_mem_nil, or_false] at h1
      rcases h1 with rfl | rfl | rfl | rfl <;> assumption
    · exact sd_wsG wc w h1)
  rw [sd_map_rev]
  have e0 : (Value.ref a :: st).map (sd_v G) = Value.ref (G.2.2.1.size + a) :: st.map (sd_v G) := by
    show Value.ref (sd_ad G a) :: _ = _
    rw [sd_ad_lt (hR.lt hC)]
  rw [e0]
  refine sd_call (va_runV (As := vs.map (sd_v G)) (rest := st.map (sd_v G)) (n := n) ⟨hX.1, hX.2.1, hX.2.2.2.1, hX.2.2.2.2.1, hts⟩ (sd_met h hok.1 hok.2.1 hfit l G) (cwV n hts hG rfl rfl rfl ⟨hcls, hok.2.2.1⟩ hok.2.2.2) (sd_preV hX.2.2.2.2.2.2.2.2.1 hR hC hci hc) rfl (by simpa using hn) hL.1 rfl (sd_room8 G m lsA _ hst) d ⟨hc1, hs1⟩) hS (fun r C' I' J' H1 locs1 hq hR' hS' => ?_)
  rw [sd_back]
  exact kk r C' I' J' hq p l e s m args below meth c G Z hX hSc hZ H1 locs1 lsA hR' hS' hL
/-- invokevirtual of a method that the object's class has its own of -/
theorem AW.callU {a ci na N : Nat} {rs : List (Option Nat)} {Cn owner : String} {T : u_T} {xm : MethodName} (hok : sd_ok μ μ' n) (hown : owner ≠ "java/lang/invoke/MethodHandle" ∧ owner ≠ "java/lang/invoke/VarHandle" ∧ (parseMethodDescriptor xm.desc).map (fun d => d.parameters.length) = some n) (ho : (⟨owner, xm.name, xm.desc⟩ : MethodName) = xm) (wx : Cond.instanceMethod xm ∈ sd_gd) {bx : ByteArray} {mx : Nat} {rx : Option FieldType} (wcx : Cond.code xm bx mx rx ∈ sd_gd) (wm : Cond.methodLink μ.1.cls idx xm ∈ sd_gd) (wsm : Cond.sameMethod xm.cls owner xm.name xm.desc ∈ sd_gd) (wi : Cond.instanceMethod μ'.1 ∈ sd_gd) (wse : Cond.selects Cn xm μ'.1 ∈ sd_gd) (wz : Cond.initialized μ'.1.cls ∈ sd_gd) (wc : Cond.code μ'.1 μ'.2.1 μ'.2.2.1 μ'.2.2.2.1 ∈ sd_gd) (hci : ci < 13) (hc : vwCl[ci]? = some (Cn, T, N)) (d : decode μ.2.1 pc = .ok (.invokevirtual idx, 3)) (hn : vs.length = n) (hfit : (sd_en (.ref a :: vs)).length ≤ μ'.2.2.1) (hst : (st.map fun v => v.category).sum ≤ 8)
    (hkc : kc + μ'.2.2.2.2.cells = kc') (hks : ks + μ'.2.2.2.2.slots = ks') (hc1 : kc' ≤ μ.2.2.2.2.cells) (hs1 : ks' ≤ μ.2.2.2.2.slots) (hC : C[a]? = some (ci, na, rs)) {st0 : List Value} (hst0 : vs.reverse ++ .ref a :: st = st0)
    (h : AWm μ' (.ref a :: vs) (C, X, I, J) Q') (kk : ∀ r C I J, Q' r (C, X, I, J) → AW μ kc' ks' (pc + 3) ls (r.toList.map Value.int ++ st) (C, X, I, J) Q) : AW μ kc ks pc ls st0 (C, X, I, J) Q := by
  subst hkc; subst hks; subst hst0
  intro p l e s m args below meth c G Z hX hSc hZ H locs lsA hR hS hL
  have hR : sd_R G C I J H := hR
  have hts := hX.2.2.2.2.2.1
  have hG : GoodIn sd_gd (va_wsO μ.1.cls idx Cn owner xm μ'.1 (.code μ'.1 μ'.2.1 μ'.2.2.1 μ'.2.2.2.1 :: sd_gd)) := sd_goodIn (fun w hw => by
    rcases List.mem_append.mp hw with h1 | h1
    · simp only [List.mem_cons, List.not_mem_nil, or_false] at h1
      rcases h1 with rfl | rfl | rfl | rfl | rfl | rfl <;> first | assumption | (rw [ho]; exact wx)
    · exact sd_wsG wc w h1)
  rw [sd_map_rev]
  have e0 : (Value.ref a :: st).map (sd_v G) = Value.ref (G.2.2.1.size + a) :: st.map (sd_v G) := by
    show Value.ref (sd_ad G a) :: _ = _
    rw [sd_ad_lt (hR.lt hC)]
  rw [e0]
  refine sd_call (va_runU (As := vs.map (sd_v G)) (rest := st.map (sd_v G)) (n := n) ⟨hX.1, hX.2.1, hX.2.2.2.1, hX.2.2.2.2.1, hts⟩ (sd_met h hok.1 hok.2.1 hfit l G) (va_cwO n hts hG rfl rfl rfl (by rw [ho]; exact wcx) hown hok.2.2.2) (sd_preV hX.2.2.2.2.2.2.2.2.1 hR hC hci hc) rfl (by simpa using hn) hL.1 rfl (sd_room8 G m lsA _ hst) d ⟨hc1, hs1⟩) hS (fun r C' I' J' H1 locs1 hq hR' hS' => ?_)
  rw [sd_back]
  exact kk r C' I' J' hq p l e s m args below meth c G Z hX hSc hZ H1 locs1 lsA hR' hS' hL
/-- invokespecial, of the super class's method -/
theorem AW.callSU {a ci na N : Nat} {rs : List (Option Nat)} {Cn : String} {T : u_T} (hok : sd_ok μ μ' n) (hname : μ'.1.name ≠ "<init>") (wm : Cond.methodLink μ.1.cls idx μ'.1 ∈ sd_gd) (wsm : Cond.sameMethod μ'.1.cls μ'.1.cls μ'.1.name μ'.1.desc ∈ sd_gd) (wsu : Cond.superclass μ.1.cls μ'.1.cls ∈ sd_gd) (wi : Cond.instanceMethod μ'.1 ∈ sd_gd) (wz : Cond.initialized μ'.1.cls ∈ sd_gd) (wc : Cond.code μ'.1 μ'.2.1 μ'.2.2.1 μ'.2.2.2.1 ∈ sd_gd) (hci : ci < 13) (hc : vwCl[ci]? = some (Cn, T, N)) (d : decode μ.2.1 pc = .ok (.invokespecial idx, 3)) (hn : vs.length = n) (hfit : (sd_en (.ref a :: vs)).length ≤ μ'.2.2.1) (hst : (st.map fun v => v.category).sum ≤ 8)
    (hkc : kc + μ'.2.2.2.2.cells = kc') (hks : ks + μ'.2.2.2.2.slots = ks') (hc1 : kc' ≤ μ.2.2.2.2.cells) (hs1 : ks' ≤ μ.2.2.2.2.slots) (hC : C[a]? = some (ci, na, rs)) {st0 : List Value} (hst0 : vs.reverse ++ .ref a :: st = st0)
    (h : AWm μ' (.ref a :: vs) (C, X, I, J) Q') (kk : ∀ r C I J, Q' r (C, X, I, J) → AW μ kc' ks' (pc + 3) ls (r.toList.map Value.int ++ st) (C, X, I, J) Q) : AW μ kc ks pc ls st0 (C, X, I, J) Q := by
  subst hkc; subst hks; subst hst0
  intro p l e s m args below meth c G Z hX hSc hZ H locs lsA hR hS hL
  have hR : sd_R G C I J H := hR
  have hts := hX.2.2.2.2.2.1
  have hG : GoodIn sd_gd (va_wsSU μ.1.cls idx μ'.1 (.code μ'.1 μ'.2.1 μ'.2.2.1 μ'.2.2.2.1 :: sd_gd)) := sd_goodIn (fun w hw => by
    rcases List.mem_append.mp hw with h1 | h1
    · simp only [List.mem_cons, List.not_mem_nil, or_false] at h1
      rcases h1 with rfl | rfl | rfl | rfl | rfl <;> assumption
    · exact sd_wsG wc w h1)
  rw [sd_map_rev]
  have e0 : (Value.ref a :: st).map (sd_v G) = Value.ref (G.2.2.1.size + a) :: st.map (sd_v G) := by
    show Value.ref (sd_ad G a) :: _ = _
    rw [sd_ad_lt (hR.lt hC)]
  rw [e0]
  refine sd_call (va_runSU (hX.2.2.2.2.2.2.2.2.1.1.1 ci _ hc).2 (As := vs.map (sd_v G)) (rest := st.map (sd_v G)) (n := n) ⟨hX.1, hX.2.1, hX.2.2.2.1, hX.2.2.2.2.1, hts⟩ (sd_met h hok.1 hok.2.1 hfit l G) (va_cwSU n hts hG rfl rfl rfl ⟨hname, hok.2.2.1.2.2⟩ hok.2.2.2) (sd_preV hX.2.2.2.2.2.2.2.2.1 hR hC hci hc) rfl (by simpa using hn) hL.1 rfl (sd_room8 G m lsA _ hst) d ⟨hc1, hs1⟩) hS (fun r C' I' J' H1 locs1 hq hR' hS' => ?_)
  rw [sd_back]
  exact kk r C' I' J' hq p l e s m args below meth c G Z hX hSc hZ H1 locs1 lsA hR' hS' hL
/-- a constructor -/
theorem AW.callI {a : Nat} (hok : sd_ok μ μ' n) (hname : μ'.1.name = "<init>") (hret : μ'.2.2.2.1 = none) (wm : Cond.methodLink μ.1.cls idx μ'.1 ∈ sd_gd) (wi : Cond.instanceMethod μ'.1 ∈ sd_gd) (wz : Cond.initialized μ'.1.cls ∈ sd_gd) (wc : Cond.code μ'.1 μ'.2.1 μ'.2.2.1 μ'.2.2.2.1 ∈ sd_gd) (d : decode μ.2.1 pc = .ok (.invokespecial idx, 3)) (hn : vs.length = n) (hfit : (sd_en (.ref a :: vs)).length ≤ μ'.2.2.1) (hst : (st.map fun v => v.category).sum ≤ 8)
    (hkc : kc + μ'.2.2.2.2.cells = kc') (hks : ks + μ'.2.2.2.2.slots = ks') (hc1 : kc' ≤ μ.2.2.2.2.cells) (hs1 : ks' ≤ μ.2.2.2.2.slots) (ha : a < 100000) {st0 : List Value} (hst0 : vs.reverse ++ .ref a :: st = st0)
    (h : AWm μ' (.ref a :: vs) (C, X, I, J) Q') (kk : ∀ r C I J, Q' r (C, X, I, J) → AW μ kc' ks' (pc + 3) ls (r.toList.map Value.int ++ st) (C, X, I, J) Q) : AW μ kc ks pc ls st0 (C, X, I, J) Q := by
  subst hkc; subst hks; subst hst0
  intro p l e s m args below meth c G Z hX hSc hZ H locs lsA hR hS hL
  have hR : sd_R G C I J H := hR
  have hts := hX.2.2.2.2.2.1
  rw [hret] at wc
  have hM := sd_met h hok.1 hok.2.1 hfit l G
  rw [hret] at hM
  rw [sd_map_rev]
  have e0 : (Value.ref a :: st).map (sd_v G) = Value.ref (G.2.2.1.size + a) :: st.map (sd_v G) := by
    show Value.ref (sd_ad G a) :: _ = _
    rw [sd_ad_lt ha]
  rw [e0]
  have e1 : (Value.ref a :: vs).map (sd_v G) = Value.ref (G.2.2.1.size + a) :: vs.map (sd_v G) := by
    show Value.ref (sd_ad G a) :: _ = _
    rw [sd_ad_lt ha]
  have hp : PreS s H (va_Pc ((.ref a :: vs).map (sd_v G)) (sd_Pc G C I J)) ((.ref a :: vs).map (sd_v G)) := sd_preS hX.2.2.2.2.2.2.2.2.1 hR
  rw [e1] at hp hM
  have hG : GoodIn sd_gd (.code μ'.1 μ'.2.1 μ'.2.2.1 none :: sd_gd) := sd_goodIn (fun w hw => by
    rcases List.mem_cons.mp hw with rfl | h
    · exact wc
    · exact h)
  refine sd_call (va_runI (As := vs.map (sd_v G)) (rest := st.map (sd_v G)) (n := n) ⟨hX.1, hX.2.1, hX.2.2.2.1, hX.2.2.2.2.1, hts⟩ hM (cwI n hts hG rfl rfl rfl (hts _ wz) (hts _ wm) (hts _ wi) hname hok.2.2.1 hok.2.2.2) hp rfl (by simpa using hn) hL.1 rfl (sd_room8 G m lsA _ hst) d ⟨hc1, hs1⟩) hS (fun r C' I' J' H1 locs1 hq hR' hS' => ?_)
  rw [sd_back]
  exact kk r C' I' J' hq p l e s m args below meth c G Z hX hSc hZ H1 locs1 lsA hR' hS' hL
/-- a private constructor of a nest mate -/
theorem AW.callIN {a : Nat} {host : String} (hok : sd_ok μ μ' n) (hname : μ'.1.name = "<init>") (hret : μ'.2.2.2.1 = none) (wq : ((μ.1.cls, idx, μ'.1, host) : String × Nat × MethodName × String) ∈ sd_nest) (wi : Cond.instanceMethod μ'.1 ∈ sd_gd) (wz : Cond.initialized μ'.1.cls ∈ sd_gd) (wc : Cond.code μ'.1 μ'.2.1 μ'.2.2.1 μ'.2.2.2.1 ∈ sd_gd) (d : decode μ.2.1 pc = .ok (.invokespecial idx, 3)) (hn : vs.length = n) (hfit : (sd_en (.ref a :: vs)).length ≤ μ'.2.2.1) (hst : (st.map fun v => v.category).sum ≤ 8)
    (hkc : kc + μ'.2.2.2.2.cells = kc') (hks : ks + μ'.2.2.2.2.slots = ks') (hc1 : kc' ≤ μ.2.2.2.2.cells) (hs1 : ks' ≤ μ.2.2.2.2.slots) (ha : a < 100000) {st0 : List Value} (hst0 : vs.reverse ++ .ref a :: st = st0)
    (h : AWm μ' (.ref a :: vs) (C, X, I, J) Q') (kk : ∀ r C I J, Q' r (C, X, I, J) → AW μ kc' ks' (pc + 3) ls (r.toList.map Value.int ++ st) (C, X, I, J) Q) : AW μ kc ks pc ls st0 (C, X, I, J) Q := by
  subst hkc; subst hks; subst hst0
  intro p l e s m args below meth c G Z hX hSc hZ H locs lsA hR hS hL
  have hR : sd_R G C I J H := hR
  have hts := hX.2.2.2.2.2.1
  rw [hret] at wc
  have hM := sd_met h hok.1 hok.2.1 hfit l G
  rw [hret] at hM
  rw [sd_map_rev]
  have e0 : (Value.ref a :: st).map (sd_v G) = Value.ref (G.2.2.1.size + a) :: st.map (sd_v G) := by
    show Value.ref (sd_ad G a) :: _ = _
    rw [sd_ad_lt ha]
  rw [e0]
  have e1 : (Value.ref a :: vs).map (sd_v G) = Value.ref (G.2.2.1.size + a) :: vs.map (sd_v G) := by
    show Value.ref (sd_ad G a) :: _ = _
    rw [sd_ad_lt ha]
  have hp : PreS s H (va_Pc ((.ref a :: vs).map (sd_v G)) (sd_Pc G C I J)) ((.ref a :: vs).map (sd_v G)) := sd_preS hX.2.2.2.2.2.2.2.2.1 hR
  rw [e1] at hp hM
  have hG : GoodIn sd_gd (.code μ'.1 μ'.2.1 μ'.2.2.1 none :: sd_gd) := sd_goodIn (fun w hw => by
    rcases List.mem_cons.mp hw with rfl | h
    · exact wc
    · exact h)
  refine sd_call (va_runIN (host := host) (As := vs.map (sd_v G)) (rest := st.map (sd_v G)) (n := n) ⟨hX.1, hX.2.1, hX.2.2.2.1, hX.2.2.2.2.1, hts⟩ hM ⟨va_cnB n hts hG rfl rfl rfl (hX.2.2.2.2.2.2.2.2.1.2.1 _ wq) (hts _ wz) hok.2.2.1 hok.2.2.2, hname, hts _ wi⟩ hp rfl (by simpa using hn) hL.1 rfl (sd_room8 G m lsA _ hst) d ⟨hc1, hs1⟩) hS (fun r C' I' J' H1 locs1 hq hR' hS' => ?_)
  rw [sd_back]
  exact kk r C' I' J' hq p l e s m args below meth c G Z hX hSc hZ H1 locs1 lsA hR' hS' hL
end Calls2
end
section
-- arraycopy, the script, answers
section More
variable {μ : sd_M} {kc ks pc : Nat} {ls st : List Value} {C : List sd_C} {X : Nat × (Nat → Int32)} {I : sd_I} {J : sd_J} {Q : Option Int32 → sd_S → Prop}
theorem sd_below {G : sd_G} {p : Program} {s : State} {m : MethodId} {args : Array Value} {meth : Method} {c : Code} {H : Heap} {locs : List Loc} (hX : sd_X μ p s m args meth c G) (hS : va_S (sd_A G) s.heap H locs) : ∀ q, q < G.2.2.1.size → H[q]? = G.2.2.1[q]? := fun q hq => by
  have h10 := hX.2.2.2.2.2.2.2.2.2
  rw [hS.2.1 q (Nat.lt_of_lt_of_le hq h10.2) (Nat.not_le.mpr hq)]
  exact h10.1 q hq
theorem AW.copyI {a b n0 n1 p0 q0 k0 idx : Nat} {ra rb : List (Option Nat)} {sp dp nn : Int32} (d : decode μ.2.1 pc = .ok (.invokestatic idx, 3)) (w : Cond.methodLink μ.1.cls idx arraycopyName ∈ sd_gd) (hA : C[a]? = some (20, n0, ra)) (hB : C[b]? = some (20, n1, rb)) (h1 : sp = nI p0) (h2 : dp = nI q0) (h3 : nn = nI k0) (h4 : p0 + k0 ≤ n0) (h5 : q0 + k0 ≤ n1) (hn0 : n0 < 2 ^ 31) (hn1 : n1 < 2 ^ 31) (hf : 1 ≤ μ.2.2.2.2.frames) (hlo : (st.map fun v => v.category).sum + 18 ≤ μ.2.2.2.2.locals)
    (kk : AW μ 0 ks (pc + 3) ls st (C, X, sd_r I b (va_cpy (I a) (I b) p0 q0 k0), J) Q) : AW μ 0 ks pc ls (.int nn :: .int dp :: .ref b :: .int sp :: .ref a :: st) (C, X, I, J) Q := by
  subst h1; subst h2; subst h3
  intro p l e s m args below meth c G Z hX hSc hZ H locs lsA hR hS hL
  have hR : sd_R G C I J H := hR
  show W p l e _ s m args below meth c H locs 0 ks Z (F0 m pc lsA (Value.int (nI k0) :: Value.int (nI q0) :: Value.ref (sd_ad G b) :: Value.int (nI p0) :: Value.ref (sd_ad G a) :: st.map (sd_v G)))
  rw [sd_ad_lt (hR.lt hA), sd_ad_lt (hR.lt hB)]
  have hts := hX.2.2.2.2.2.1
  have c1 : (nI p0).toNatClampNeg = p0 := nI_clamp (by omega)
  have c2 : (nI q0).toNatClampNeg = q0 := nI_clamp (by omega)
  have c3 : (nI k0).toNatClampNeg = k0 := nI_clamp (by omega)
  have hcat : ((st.map (sd_v G)).map fun v => v.category).sum = (st.map fun v => v.category).sum := by
    rw [List.map_map]
    exact congrArg List.sum (List.map_congr_left (fun v _ => sd_v_cat G v))
  intro T hT Y
  have hz : H.size = s.heap.size := by have := Y.heapSize; rw [hT] at this; have := hS.1; omega
  refine va_copyi hX.1 hX.2.1 (by rw [hX.2.2.2.1, hL.1]) hX.2.2.2.2.1 (hts _ w) (hts _ wN_copy) (hts _ wT_copy) (hts _ wZ_J10) hX.2.2.2.2.2.2.2.2.1.1 hR.2.2.2 (sd_D G C I J) hS a b 0 0 (sd_eI hA) (sd_eI hB) (ty := .int) rfl rfl rfl (nI_pos (by omega)) (nI_pos (by omega)) (nI_pos (by omega)) (by rw [c1, c3]; exact h4) (by rw [c2, c3]; exact h5) (fun _ _ => rfl) hf (by rw [hcat]; exact hlo) d (fun H1 locs1 hP1 hD1 hS1 => ?_) T hT Y
  rw [c1, c2, c3] at hP1
  intro T1 hT1 Y1
  have hz1 : H1.size = s.heap.size := by have := Y1.heapSize; rw [hT1] at this; have := hS1.1; omega
  have hws : sd_ws G C (sd_r I b (va_cpy (I a) (I b) p0 q0 k0)) J = (sd_ws G C I J).set b (G.2.2.1.size + b, .inl (G.2.1 20, n1, .inl (va_cpy (I a) (I b) p0 q0 k0))) := by
    have h := sd_ws_upd (G := G) (I := I) (I' := sd_r I b (va_cpy (I a) (I b) p0 q0 k0)) (J := J) (J' := J) (c' := (20, n1, rb)) hB (fun k d hk => sd_E_I (sd_r_ne hk) d)
    rw [sd_set_same hB] at h
    rw [h]
    show (sd_ws G C I J).set b (_, .inl (G.2.1 20, n1, .inl (sd_r I b _ b))) = _
    rw [sd_r_eq]
  exact kk p l e s m args below meth c G Z hX hSc hZ H1 locs1 lsA ⟨by rw [hz1, ← hz]; exact hR.1, hR.2.1, sd_below hX hS1, by rw [hws]; exact hP1⟩ hS1 hL T1 hT1 Y1
theorem AW.copyJ {a b n0 n1 p0 q0 k0 idx : Nat} {ra rb : List (Option Nat)} {sp dp nn : Int32} (d : decode μ.2.1 pc = .ok (.invokestatic idx, 3)) (w : Cond.methodLink μ.1.cls idx arraycopyName ∈ sd_gd) (hA : C[a]? = some (22, n0, ra)) (hB : C[b]? = some (22, n1, rb)) (h1 : sp = nI p0) (h2 : dp = nI q0) (h3 : nn = nI k0) (h4 : p0 + k0 ≤ n0) (h5 : q0 + k0 ≤ n1) (hn0 : n0 < 2 ^ 31) (hn1 : n1 < 2 ^ 31) (hf : 1 ≤ μ.2.2.2.2.frames) (hlo : (st.map fun v => v.category).sum + 18 ≤ μ.2.2.2.2.locals)
    (kk : AW μ 0 ks (pc + 3) ls st (C, X, I, sd_r J b (va_cpy (J a) (J b) p0 q0 k0)) Q) : AW μ 0 ks pc ls (.int nn :: .int dp :: .ref b :: .int sp :: .ref a :: st) (C, X, I, J) Q := by
  subst h1; subst h2; subst h3
  intro p l e s m args below meth c G Z hX hSc hZ H locs lsA hR hS hL
  have hR : sd_R G C I J H := hR
  show W p l e _ s m args below meth c H locs 0 ks Z (F0 m pc lsA (Value.int (nI k0) :: Value.int (nI q0) :: Value.ref (sd_ad G b) :: Value.int (nI p0) :: Value.ref (sd_ad G a) :: st.map (sd_v G)))
  rw [sd_ad_lt (hR.lt hA), sd_ad_lt (hR.lt hB)]
  have hts := hX.2.2.2.2.2.1
  have c1 : (nI p0).toNatClampNeg = p0 := nI_clamp (by omega)
  have c2 : (nI q0).toNatClampNeg = q0 := nI_clamp (by omega)
  have c3 : (nI k0).toNatClampNeg = k0 := nI_clamp (by omega)
  have hcat : ((st.map (sd_v G)).map fun v => v.category).sum = (st.map fun v => v.category).sum := by
    rw [List.map_map]
    exact congrArg List.sum (List.map_congr_left (fun v _ => sd_v_cat G v))
  intro T hT Y
  have hz : H.size = s.heap.size := by have := Y.heapSize; rw [hT] at this; have := hS.1; omega
  refine va_copyl hX.1 hX.2.1 (by rw [hX.2.2.2.1, hL.1]) hX.2.2.2.2.1 (hts _ w) (hts _ wN_copy) (hts _ wT_copy) (hts _ wZ_J10) hX.2.2.2.2.2.2.2.2.1.1 hR.2.2.2 (sd_D G C I J) hS a b 2 2 (sd_eJ hA) (sd_eJ hB) (ty := .long) rfl rfl rfl (nI_pos (by omega)) (nI_pos (by omega)) (nI_pos (by omega)) (by rw [c1, c3]; exact h4) (by rw [c2, c3]; exact h5) (fun _ _ => rfl) hf (by rw [hcat]; exact hlo) d (fun H1 locs1 hP1 hD1 hS1 => ?_) T hT Y
  rw [c1, c2, c3] at hP1
  intro T1 hT1 Y1
  have hz1 : H1.size = s.heap.size := by have := Y1.heapSize; rw [hT1] at this; have := hS1.1; omega
  have hws : sd_ws G C I (sd_r J b (va_cpy (J a) (J b) p0 q0 k0)) = (sd_ws G C I J).set b (G.2.2.1.size + b, .inl (G.2.1 22, n1, .inr (.inl (va_cpy (J a) (J b) p0 q0 k0)))) := by
    have h := sd_ws_upd (G := G) (I := I) (I' := I) (J := J) (J' := sd_r J b (va_cpy (J a) (J b) p0 q0 k0)) (c' := (22, n1, rb)) hB (fun k d hk => sd_E_J (sd_r_ne hk) d)
    rw [sd_set_same hB] at h
    rw [h]
    show (sd_ws G C I J).set b (_, .inl (G.2.1 22, n1, .inr (.inl (sd_r J b _ b)))) = _
    rw [sd_r_eq]
  exact kk p l e s m args below meth c G Z hX hSc hZ H1 locs1 lsA ⟨by rw [hz1, ← hz]; exact hR.1, hR.2.1, sd_below hX hS1, by rw [hws]; exact hP1⟩ hS1 hL T1 hT1 Y1
/-- the law's script -/
theorem AW.sld {i : Int32} (hμ : μ.1 = x) (d : decode μ.2.1 pc = .ok (.iaload, 1)) (j : Nat) (hi : i = nI j) (hj : j < X.1) (hn : X.1 < 2 ^ 31) (kk : AW μ kc ks (pc + 1) ls (.int (X.2 j) :: st) (C, X, I, J) Q) : AW μ kc ks pc ls (.int i :: .ref 100000 :: st) (C, X, I, J) Q := by
  subst hi
  intro p l e s m args below meth c G Z hX hSc hZ H locs lsA hR hS hL
  have hR : sd_R G C I J H := hR
  obtain ⟨h1, h2, h3⟩ := hSc hμ
  show W p l e _ s m args below meth c H locs kc ks Z (F0 m pc lsA (Value.int (nI j) :: Value.ref G.2.2.2.1 :: st.map (sd_v G)))
  refine va_sld hX.1 hX.2.1 h1 h2 h3 hS (vp_in_nI hj hn) d ?_
  rw [nI_clamp (by omega)]
  exact kk p l e s m args below meth c G Z hX hSc hZ H locs lsA hR hS hL
theorem AW.slen (hμ : μ.1 = x) (d : decode μ.2.1 pc = .ok (.arraylength, 1)) (kk : AW μ kc ks (pc + 1) ls (.int (nI X.1) :: st) (C, X, I, J) Q) : AW μ kc ks pc ls (.ref 100000 :: st) (C, X, I, J) Q := by
  intro p l e s m args below meth c G Z hX hSc hZ H locs lsA hR hS hL
  have hR : sd_R G C I J H := hR
  obtain ⟨h1, h2, h3⟩ := hSc hμ
  exact va_slen hX.1 hX.2.1 h1 h2 h3 hS d (kk p l e s m args below meth c G Z hX hSc hZ H locs lsA hR hS hL)
/-- the text "pfcth" -/
theorem AW.ldcS (hμ : μ.1.cls = RX8) (d : decode μ.2.1 pc = .ok (.ldc 63, 2)) (kk : AW μ kc ks (pc + 2) ls (.ref 100001 :: st) (C, X, I, J) Q) : AW μ kc ks pc ls st (C, X, I, J) Q := by
  intro p l e s m args below meth c G Z hX hSc hZ H locs lsA hR hS hL
  have hR : sd_R G C I J H := hR
  have hs := hX.2.2.2.2.2.2.2.2.1.2.2.2.2
  exact va_ldcS hX.1 hX.2.1 hX.2.2.2.2.1 (by rw [hμ]; exact hs.1) d (kk p l e s m args below meth c G Z hX hSc hZ H locs lsA hR hS hL)
theorem sd_kept {G : sd_G} {p : Program} {s : State} {m : MethodId} {args : Array Value} {meth : Method} {c : Code} (hX : sd_X μ p s m args meth c G) : ∀ a : Nat, a < G.2.2.1.size → ¬ sd_A G a → s.heap[a]? = G.2.2.1[a]? := fun a ha _ => hX.2.2.2.2.2.2.2.2.2.1 a ha
theorem AW.strC {idx : Nat} (d : decode μ.2.1 pc = .ok (.getstatic idx, 3)) (w : Cond.fieldLink μ.1.cls idx "java/lang/String" "COMPACT_STRINGS" "Z" ∈ sd_gd) (kk : AW μ kc ks (pc + 3) ls (.int 1 :: st) (C, X, I, J) Q) : AW μ kc ks pc ls st (C, X, I, J) Q := by
  intro p l e s m args below meth c G Z hX hSc hZ H locs lsA hR hS hL
  have hR : sd_R G C I J H := hR
  have hs := hX.2.2.2.2.2.2.2.2.1.2.2.2.2
  exact va_gets hX.1 hX.2.1 (hs.2.2.2.2.2.kept (sd_kept hX)) hS hX.2.2.2.2.1 (hX.2.2.2.2.2.1 _ w) (fun _ h => h) d (kk p l e s m args below meth c G Z hX hSc hZ H locs lsA hR hS hL)
theorem AW.strK {idx : Nat} (d : decode μ.2.1 pc = .ok (.getfield idx, 3)) (w : Cond.fieldLink μ.1.cls idx "java/lang/String" "coder" "B" ∈ sd_gd) (kk : AW μ kc ks (pc + 3) ls (.int 0 :: st) (C, X, I, J) Q) : AW μ kc ks pc ls (.ref 100001 :: st) (C, X, I, J) Q := by
  intro p l e s m args below meth c G Z hX hSc hZ H locs lsA hR hS hL
  have hR : sd_R G C I J H := hR
  have hs := hX.2.2.2.2.2.2.2.2.1.2.2.2.2
  exact vk_getf hX.1 hX.2.1 (hs.2.2.1.kept (sd_kept hX)) hS hX.2.2.2.2.1 (hX.2.2.2.2.2.1 _ w) (fun _ h => h) d (kk p l e s m args below meth c G Z hX hSc hZ H locs lsA hR hS hL)
theorem AW.strV {idx : Nat} (d : decode μ.2.1 pc = .ok (.getfield idx, 3)) (w : Cond.fieldLink μ.1.cls idx "java/lang/String" "value" "[B" ∈ sd_gd) (kk : AW μ kc ks (pc + 3) ls (.ref 100002 :: st) (C, X, I, J) Q) : AW μ kc ks pc ls (.ref 100001 :: st) (C, X, I, J) Q := by
  intro p l e s m args below meth c G Z hX hSc hZ H locs lsA hR hS hL
  have hR : sd_R G C I J H := hR
  have hs := hX.2.2.2.2.2.2.2.2.1.2.2.2.2
  exact vk_getf hX.1 hX.2.1 (hs.2.2.2.1.kept (sd_kept hX)) hS hX.2.2.2.2.1 (hX.2.2.2.2.2.1 _ w) (fun _ h => h) d (kk p l e s m args below meth c G Z hX hSc hZ H locs lsA hR hS hL)
end More
end
