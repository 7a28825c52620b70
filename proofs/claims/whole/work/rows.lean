section
-- ===== PART A: goes FIRST, ahead of the names: the tables' words, and 'selects' of the private methods out of them =====
/-- a private method of a class that the tables say can be made, by its rows of tables_1 -/
def lw_okq (q : MethodName × Nat) : Prop := (q.1.cls ≠ "java/lang/invoke/MethodHandle" ∧ q.1.cls ≠ "java/lang/invoke/VarHandle") ∧ Cond.instantiable q.1.cls q.2 ∈ tables_1 ∧ Cond.privateMethod q.1 ∈ tables_1 ∧ Cond.instanceMethod q.1 ∈ tables_1
theorem lw_p0 : lw_okq (⟨"ThankingGifts$Reader", "readSleepers", "(LThankingGifts$House;)Z"⟩, 3) := ⟨⟨by decide +kernel, by decide +kernel⟩, List.mem_of_getElem? (i := 181) (by decide +kernel), List.mem_of_getElem? (i := 397) (by decide +kernel), List.mem_of_getElem? (i := 398) (by decide +kernel)⟩
theorem lw_p1 : lw_okq (⟨"ThankingGifts$Reader", "readSleeper", "(LThankingGifts$House;)Z"⟩, 3) := ⟨⟨by decide +kernel, by decide +kernel⟩, List.mem_of_getElem? (i := 181) (by decide +kernel), List.mem_of_getElem? (i := 401) (by decide +kernel), List.mem_of_getElem? (i := 402) (by decide +kernel)⟩
theorem lw_p2 : lw_okq (⟨"ThankingGifts$Reader", "readDigit", "(II)I"⟩, 3) := ⟨⟨by decide +kernel, by decide +kernel⟩, List.mem_of_getElem? (i := 181) (by decide +kernel), List.mem_of_getElem? (i := 405) (by decide +kernel), List.mem_of_getElem? (i := 406) (by decide +kernel)⟩
theorem lw_p3 : lw_okq (⟨"ThankingGifts$Reader", "skipBlanks", "()V"⟩, 3) := ⟨⟨by decide +kernel, by decide +kernel⟩, List.mem_of_getElem? (i := 181) (by decide +kernel), List.mem_of_getElem? (i := 409) (by decide +kernel), List.mem_of_getElem? (i := 410) (by decide +kernel)⟩
theorem lw_p4 : lw_okq (⟨"ThankingGifts$Reader", "digitHere", "()I"⟩, 3) := ⟨⟨by decide +kernel, by decide +kernel⟩, List.mem_of_getElem? (i := 181) (by decide +kernel), List.mem_of_getElem? (i := 413) (by decide +kernel), List.mem_of_getElem? (i := 414) (by decide +kernel)⟩
theorem lw_p5 : lw_okq (⟨"ThankingGifts$Reader", "takes", "(C)Z"⟩, 3) := ⟨⟨by decide +kernel, by decide +kernel⟩, List.mem_of_getElem? (i := 181) (by decide +kernel), List.mem_of_getElem? (i := 418) (by decide +kernel), List.mem_of_getElem? (i := 419) (by decide +kernel)⟩
theorem lw_p6 : lw_okq (⟨"ThankingGifts$Reader", "readNumber", "()I"⟩, 3) := ⟨⟨by decide +kernel, by decide +kernel⟩, List.mem_of_getElem? (i := 181) (by decide +kernel), List.mem_of_getElem? (i := 422) (by decide +kernel), List.mem_of_getElem? (i := 423) (by decide +kernel)⟩
theorem lw_p7 : lw_okq (⟨"ThankingGifts$Reader", "readThings", "(LThankingGifts$House;)Z"⟩, 3) := ⟨⟨by decide +kernel, by decide +kernel⟩, List.mem_of_getElem? (i := 181) (by decide +kernel), List.mem_of_getElem? (i := 427) (by decide +kernel), List.mem_of_getElem? (i := 428) (by decide +kernel)⟩
theorem lw_p8 : lw_okq (⟨"ThankingGifts$Reader", "readThing", "(LThankingGifts$House;)Z"⟩, 3) := ⟨⟨by decide +kernel, by decide +kernel⟩, List.mem_of_getElem? (i := 181) (by decide +kernel), List.mem_of_getElem? (i := 431) (by decide +kernel), List.mem_of_getElem? (i := 432) (by decide +kernel)⟩
theorem lw_p9 : lw_okq (⟨"ThankingGifts$Reader", "readKind", "()I"⟩, 3) := ⟨⟨by decide +kernel, by decide +kernel⟩, List.mem_of_getElem? (i := 181) (by decide +kernel), List.mem_of_getElem? (i := 435) (by decide +kernel), List.mem_of_getElem? (i := 436) (by decide +kernel)⟩
theorem lw_p10 : lw_okq (⟨"ThankingGifts", "spendNights", "(IZ)I"⟩, 9) := ⟨⟨by decide +kernel, by decide +kernel⟩, List.mem_of_getElem? (i := 23) (by decide +kernel), List.mem_of_getElem? (i := 568) (by decide +kernel), List.mem_of_getElem? (i := 569) (by decide +kernel)⟩
theorem lw_p11 : lw_okq (⟨"ThankingGifts", "ways", "(III)I"⟩, 9) := ⟨⟨by decide +kernel, by decide +kernel⟩, List.mem_of_getElem? (i := 23) (by decide +kernel), List.mem_of_getElem? (i := 726) (by decide +kernel), List.mem_of_getElem? (i := 727) (by decide +kernel)⟩
theorem lw_p12 : lw_okq (⟨"ThankingGifts", "kindsHeard", "(ILThankingGifts$Sheet;II)I"⟩, 9) := ⟨⟨by decide +kernel, by decide +kernel⟩, List.mem_of_getElem? (i := 23) (by decide +kernel), List.mem_of_getElem? (i := 771) (by decide +kernel), List.mem_of_getElem? (i := 772) (by decide +kernel)⟩
theorem lw_p13 : lw_okq (⟨"ThankingGifts", "isHeardAs", "(IIILThankingGifts$Sheet;II)Z"⟩, 9) := ⟨⟨by decide +kernel, by decide +kernel⟩, List.mem_of_getElem? (i := 23) (by decide +kernel), List.mem_of_getElem? (i := 775) (by decide +kernel), List.mem_of_getElem? (i := 776) (by decide +kernel)⟩
theorem lw_p14 : lw_okq (⟨"ThankingGifts", "dearsHeard", "(ILThankingGifts$Sheet;II)I"⟩, 9) := ⟨⟨by decide +kernel, by decide +kernel⟩, List.mem_of_getElem? (i := 23) (by decide +kernel), List.mem_of_getElem? (i := 779) (by decide +kernel), List.mem_of_getElem? (i := 780) (by decide +kernel)⟩
theorem lw_p15 : lw_okq (⟨"ThankingGiftsModel", "isSleeper", "(I)Z"⟩, 12) := ⟨⟨by decide +kernel, by decide +kernel⟩, List.mem_of_getElem? (i := 813) (by decide +kernel), List.mem_of_getElem? (i := 883) (by decide +kernel), List.mem_of_getElem? (i := 884) (by decide +kernel)⟩
def lw_privs_1 : List (MethodName × Nat) := [(⟨"ThankingGifts$Reader", "readSleepers", "(LThankingGifts$House;)Z"⟩, 3), (⟨"ThankingGifts$Reader", "readSleeper", "(LThankingGifts$House;)Z"⟩, 3), (⟨"ThankingGifts$Reader", "readDigit", "(II)I"⟩, 3), (⟨"ThankingGifts$Reader", "skipBlanks", "()V"⟩, 3), (⟨"ThankingGifts$Reader", "digitHere", "()I"⟩, 3), (⟨"ThankingGifts$Reader", "takes", "(C)Z"⟩, 3), (⟨"ThankingGifts$Reader", "readNumber", "()I"⟩, 3), (⟨"ThankingGifts$Reader", "readThings", "(LThankingGifts$House;)Z"⟩, 3), (⟨"ThankingGifts$Reader", "readThing", "(LThankingGifts$House;)Z"⟩, 3), (⟨"ThankingGifts$Reader", "readKind", "()I"⟩, 3), (⟨"ThankingGifts", "spendNights", "(IZ)I"⟩, 9), (⟨"ThankingGifts", "ways", "(III)I"⟩, 9), (⟨"ThankingGifts", "kindsHeard", "(ILThankingGifts$Sheet;II)I"⟩, 9), (⟨"ThankingGifts", "isHeardAs", "(IIILThankingGifts$Sheet;II)Z"⟩, 9), (⟨"ThankingGifts", "dearsHeard", "(ILThankingGifts$Sheet;II)I"⟩, 9), (⟨"ThankingGiftsModel", "isSleeper", "(I)Z"⟩, 12)]
theorem lw_r1 : ∀ q ∈ lw_privs_1, lw_okq q := List.forall_mem_cons.mpr ⟨lw_p0, List.forall_mem_cons.mpr ⟨lw_p1, List.forall_mem_cons.mpr ⟨lw_p2, List.forall_mem_cons.mpr ⟨lw_p3, List.forall_mem_cons.mpr ⟨lw_p4, List.forall_mem_cons.mpr ⟨lw_p5, List.forall_mem_cons.mpr ⟨lw_p6, List.forall_mem_cons.mpr ⟨lw_p7, List.forall_mem_cons.mpr ⟨lw_p8, List.forall_mem_cons.mpr ⟨lw_p9, List.forall_mem_cons.mpr ⟨lw_p10, List.forall_mem_cons.mpr ⟨lw_p11, List.forall_mem_cons.mpr ⟨lw_p12, List.forall_mem_cons.mpr ⟨lw_p13, List.forall_mem_cons.mpr ⟨lw_p14, List.forall_mem_cons.mpr ⟨lw_p15, fun _ h => absurd h List.not_mem_nil⟩⟩⟩⟩⟩⟩⟩⟩⟩⟩⟩⟩⟩⟩⟩⟩
theorem lw_p16 : lw_okq (⟨"ThankingGiftsModel", "isThing", "(I)Z"⟩, 12) := ⟨⟨by decide +kernel, by decide +kernel⟩, List.mem_of_getElem? (i := 813) (by decide +kernel), List.mem_of_getElem? (i := 903) (by decide +kernel), List.mem_of_getElem? (i := 904) (by decide +kernel)⟩
theorem lw_p17 : lw_okq (⟨"ThankingGiftsModel", "isHouse", "()Z"⟩, 12) := ⟨⟨by decide +kernel, by decide +kernel⟩, List.mem_of_getElem? (i := 813) (by decide +kernel), List.mem_of_getElem? (i := 923) (by decide +kernel), List.mem_of_getElem? (i := 924) (by decide +kernel)⟩
theorem lw_p18 : lw_okq (⟨"ThankingGiftsModel", "isSleeperItem", "()Z"⟩, 12) := ⟨⟨by decide +kernel, by decide +kernel⟩, List.mem_of_getElem? (i := 813) (by decide +kernel), List.mem_of_getElem? (i := 927) (by decide +kernel), List.mem_of_getElem? (i := 928) (by decide +kernel)⟩
theorem lw_p19 : lw_okq (⟨"ThankingGiftsModel", "isDigit", "(II)Z"⟩, 12) := ⟨⟨by decide +kernel, by decide +kernel⟩, List.mem_of_getElem? (i := 813) (by decide +kernel), List.mem_of_getElem? (i := 931) (by decide +kernel), List.mem_of_getElem? (i := 932) (by decide +kernel)⟩
theorem lw_p20 : lw_okq (⟨"ThankingGiftsModel", "peek", "()I"⟩, 12) := ⟨⟨by decide +kernel, by decide +kernel⟩, List.mem_of_getElem? (i := 813) (by decide +kernel), List.mem_of_getElem? (i := 935) (by decide +kernel), List.mem_of_getElem? (i := 936) (by decide +kernel)⟩
theorem lw_p21 : lw_okq (⟨"ThankingGiftsModel", "isSign", "(I)Z"⟩, 12) := ⟨⟨by decide +kernel, by decide +kernel⟩, List.mem_of_getElem? (i := 813) (by decide +kernel), List.mem_of_getElem? (i := 939) (by decide +kernel), List.mem_of_getElem? (i := 940) (by decide +kernel)⟩
theorem lw_p22 : lw_okq (⟨"ThankingGiftsModel", "isNumber", "()Z"⟩, 12) := ⟨⟨by decide +kernel, by decide +kernel⟩, List.mem_of_getElem? (i := 813) (by decide +kernel), List.mem_of_getElem? (i := 943) (by decide +kernel), List.mem_of_getElem? (i := 944) (by decide +kernel)⟩
theorem lw_p23 : lw_okq (⟨"ThankingGiftsModel", "isThingItem", "()Z"⟩, 12) := ⟨⟨by decide +kernel, by decide +kernel⟩, List.mem_of_getElem? (i := 813) (by decide +kernel), List.mem_of_getElem? (i := 947) (by decide +kernel), List.mem_of_getElem? (i := 948) (by decide +kernel)⟩
theorem lw_p24 : lw_okq (⟨"ThankingGiftsModel", "note", "()V"⟩, 12) := ⟨⟨by decide +kernel, by decide +kernel⟩, List.mem_of_getElem? (i := 813) (by decide +kernel), List.mem_of_getElem? (i := 968) (by decide +kernel), List.mem_of_getElem? (i := 969) (by decide +kernel)⟩
theorem lw_p25 : lw_okq (⟨"ThankingGiftsModel", "goOn", "(I)V"⟩, 12) := ⟨⟨by decide +kernel, by decide +kernel⟩, List.mem_of_getElem? (i := 813) (by decide +kernel), List.mem_of_getElem? (i := 1010) (by decide +kernel), List.mem_of_getElem? (i := 1011) (by decide +kernel)⟩
theorem lw_p26 : lw_okq (⟨"ThankingGiftsModel", "begin", "()V"⟩, 12) := ⟨⟨by decide +kernel, by decide +kernel⟩, List.mem_of_getElem? (i := 813) (by decide +kernel), List.mem_of_getElem? (i := 1014) (by decide +kernel), List.mem_of_getElem? (i := 1015) (by decide +kernel)⟩
theorem lw_p27 : lw_okq (⟨"ThankingGiftsModel", "wokenOn", "(I)I"⟩, 12) := ⟨⟨by decide +kernel, by decide +kernel⟩, List.mem_of_getElem? (i := 813) (by decide +kernel), List.mem_of_getElem? (i := 1034) (by decide +kernel), List.mem_of_getElem? (i := 1035) (by decide +kernel)⟩
theorem lw_p28 : lw_okq (⟨"ThankingGiftsModel", "wrong", "(IIII)I"⟩, 12) := ⟨⟨by decide +kernel, by decide +kernel⟩, List.mem_of_getElem? (i := 813) (by decide +kernel), List.mem_of_getElem? (i := 1079) (by decide +kernel), List.mem_of_getElem? (i := 1080) (by decide +kernel)⟩
def lw_privs_2 : List (MethodName × Nat) := [(⟨"ThankingGiftsModel", "isThing", "(I)Z"⟩, 12), (⟨"ThankingGiftsModel", "isHouse", "()Z"⟩, 12), (⟨"ThankingGiftsModel", "isSleeperItem", "()Z"⟩, 12), (⟨"ThankingGiftsModel", "isDigit", "(II)Z"⟩, 12), (⟨"ThankingGiftsModel", "peek", "()I"⟩, 12), (⟨"ThankingGiftsModel", "isSign", "(I)Z"⟩, 12), (⟨"ThankingGiftsModel", "isNumber", "()Z"⟩, 12), (⟨"ThankingGiftsModel", "isThingItem", "()Z"⟩, 12), (⟨"ThankingGiftsModel", "note", "()V"⟩, 12), (⟨"ThankingGiftsModel", "goOn", "(I)V"⟩, 12), (⟨"ThankingGiftsModel", "begin", "()V"⟩, 12), (⟨"ThankingGiftsModel", "wokenOn", "(I)I"⟩, 12), (⟨"ThankingGiftsModel", "wrong", "(IIII)I"⟩, 12)]
theorem lw_r2 : ∀ q ∈ lw_privs_2, lw_okq q := List.forall_mem_cons.mpr ⟨lw_p16, List.forall_mem_cons.mpr ⟨lw_p17, List.forall_mem_cons.mpr ⟨lw_p18, List.forall_mem_cons.mpr ⟨lw_p19, List.forall_mem_cons.mpr ⟨lw_p20, List.forall_mem_cons.mpr ⟨lw_p21, List.forall_mem_cons.mpr ⟨lw_p22, List.forall_mem_cons.mpr ⟨lw_p23, List.forall_mem_cons.mpr ⟨lw_p24, List.forall_mem_cons.mpr ⟨lw_p25, List.forall_mem_cons.mpr ⟨lw_p26, List.forall_mem_cons.mpr ⟨lw_p27, List.forall_mem_cons.mpr ⟨lw_p28, fun _ h => absurd h List.not_mem_nil⟩⟩⟩⟩⟩⟩⟩⟩⟩⟩⟩⟩⟩
def lw_privs : List (MethodName × Nat) := lw_privs_1 ++ (lw_privs_2)
def lw_tbl : List Cond := k2_sels lw_privs ++ tables_1
theorem lw_privs_ok : ∀ q ∈ lw_privs, lw_okq q := by
  show ∀ q ∈ lw_privs_1 ++ (lw_privs_2), lw_okq q
  exact List.forall_mem_append.mpr ⟨lw_r1, lw_r2⟩
end
section
abbrev sd_M0 : Type := MethodName × ByteArray × Nat × Option FieldType × Room
def RX0 : String := "ThankingGifts$Curt"
def TX0 : u_T := fun k => match k with
  | _ => ("", "", "", false)
def tyX0 : Nat → FieldType := fun k => match k with
  | _ => .int
theorem nmX0 : ∀ a, a < 0 → ∀ b, b < 0 → a ≠ b → (TX0 a).2.1 ≠ (TX0 b).2.1 := by decide +kernel
theorem tyX0_ok : ∀ k, k < 0 → parseFieldDescriptor (TX0 k).2.2.1 = some (tyX0 k) := by decide +kernel
abbrev cX0_init : ByteArray := prog_2_method_1_code
def yX0_init : MethodName := ⟨RX0, "<init>", "()V"⟩
abbrev cX0_leftBehind : ByteArray := prog_2_method_2_code
def yX0_leftBehind : MethodName := ⟨RX0, "leftBehind", "(III)I"⟩
def RX1 : String := "ThankingGifts$Fulsome"
def TX1 : u_T := fun k => match k with
  | _ => ("", "", "", false)
def tyX1 : Nat → FieldType := fun k => match k with
  | _ => .int
theorem nmX1 : ∀ a, a < 0 → ∀ b, b < 0 → a ≠ b → (TX1 a).2.1 ≠ (TX1 b).2.1 := by decide +kernel
theorem tyX1_ok : ∀ k, k < 0 → parseFieldDescriptor (TX1 k).2.2.1 = some (tyX1 k) := by decide +kernel
abbrev cX1_init : ByteArray := prog_3_method_1_code
def yX1_init : MethodName := ⟨RX1, "<init>", "()V"⟩
abbrev cX1_loudness : ByteArray := prog_3_method_2_code
def yX1_loudness : MethodName := ⟨RX1, "loudness", "(II)I"⟩
abbrev cX1_leftBehind : ByteArray := prog_3_method_3_code
def yX1_leftBehind : MethodName := ⟨RX1, "leftBehind", "(III)I"⟩
def RX2 : String := "ThankingGifts$House"
def TX2 : u_T := fun k => match k with
  | 0 => ("ThankingGifts$House", "kinds", "[LThankingGifts$Plain;", true)
  | 1 => ("ThankingGifts$House", "bed", "[I", true)
  | 2 => ("ThankingGifts$House", "bears", "[I", true)
  | 3 => ("ThankingGifts$House", "kind", "[I", true)
  | 4 => ("ThankingGifts$House", "dear", "[I", true)
  | 5 => ("ThankingGifts$House", "roomLoud", "[I", true)
  | 6 => ("ThankingGifts$House", "now", "LThankingGifts$Moment;", true)
  | 7 => ("ThankingGifts$House", "sleepers", "I", false)
  | _ => ("ThankingGifts$House", "things", "I", false)
def tyX2 : Nat → FieldType := fun k => match k with
  | 0 => .array (.object "ThankingGifts$Plain")
  | 1 => .array .int
  | 2 => .array .int
  | 3 => .array .int
  | 4 => .array .int
  | 5 => .array .int
  | 6 => .object "ThankingGifts$Moment"
  | 7 => .int
  | _ => .int
theorem nmX2 : ∀ a, a < 9 → ∀ b, b < 9 → a ≠ b → (TX2 a).2.1 ≠ (TX2 b).2.1 := by decide +kernel
theorem tyX2_ok : ∀ k, k < 9 → parseFieldDescriptor (TX2 k).2.2.1 = some (tyX2 k) := by decide +kernel
abbrev cX2_init : ByteArray := prog_4_method_1_code
def yX2_init : MethodName := ⟨RX2, "<init>", "()V"⟩
abbrev cX2_takeAll : ByteArray := prog_4_method_2_code
def yX2_takeAll : MethodName := ⟨RX2, "takeAll", "(LThankingGifts$House;)V"⟩
abbrev cX2_clear : ByteArray := prog_4_method_3_code
def yX2_clear : MethodName := ⟨RX2, "clear", "(I)V"⟩
abbrev cX2_addSleeper : ByteArray := prog_4_method_4_code
def yX2_addSleeper : MethodName := ⟨RX2, "addSleeper", "(II)V"⟩
abbrev cX2_addThing : ByteArray := prog_4_method_5_code
def yX2_addThing : MethodName := ⟨RX2, "addThing", "(IIII)V"⟩
abbrev cX2_hasSleeper : ByteArray := prog_4_method_6_code
def yX2_hasSleeper : MethodName := ⟨RX2, "hasSleeper", "(I)Z"⟩
abbrev cX2_hasThing : ByteArray := prog_4_method_7_code
def yX2_hasThing : MethodName := ⟨RX2, "hasThing", "(I)Z"⟩
abbrev cX2_leftBehind : ByteArray := prog_4_method_8_code
def yX2_leftBehind : MethodName := ⟨RX2, "leftBehind", "(IIII)I"⟩
abbrev cX2_loudWith : ByteArray := prog_4_method_9_code
def yX2_loudWith : MethodName := ⟨RX2, "loudWith", "(III)I"⟩
abbrev cX2_loudOfSet : ByteArray := prog_4_method_10_code
def yX2_loudOfSet : MethodName := ⟨RX2, "loudOfSet", "(I)I"⟩
abbrev cX2_loudOfAll : ByteArray := prog_4_method_11_code
def yX2_loudOfAll : MethodName := ⟨RX2, "loudOfAll", "()I"⟩
abbrev cX2_thingsIn : ByteArray := prog_4_method_12_code
def yX2_thingsIn : MethodName := ⟨RX2, "thingsIn", "(I)I"⟩
abbrev cX2_thingsOf : ByteArray := prog_4_method_13_code
def yX2_thingsOf : MethodName := ⟨RX2, "thingsOf", "(I)I"⟩
abbrev cX2_silentThings : ByteArray := prog_4_method_14_code
def yX2_silentThings : MethodName := ⟨RX2, "silentThings", "()I"⟩
abbrev cX2_sleepersIn : ByteArray := prog_4_method_15_code
def yX2_sleepersIn : MethodName := ⟨RX2, "sleepersIn", "(I)I"⟩
abbrev cX2_listen : ByteArray := prog_4_method_16_code
def yX2_listen : MethodName := ⟨RX2, "listen", "()V"⟩
abbrev cX2_isAsleep : ByteArray := prog_4_method_17_code
def yX2_isAsleep : MethodName := ⟨RX2, "isAsleep", "(I)Z"⟩
abbrev cX2_spendNight : ByteArray := prog_4_method_18_code
def yX2_spendNight : MethodName := ⟨RX2, "spendNight", "()I"⟩
abbrev cX2_moveByDraw : ByteArray := prog_4_method_19_code
def yX2_moveByDraw : MethodName := ⟨RX2, "moveByDraw", "()V"⟩
abbrev cX2_placesOf : ByteArray := prog_4_method_20_code
def yX2_placesOf : MethodName := ⟨RX2, "placesOf", "(I[II)I"⟩
def RX3 : String := "ThankingGifts$Hum"
def TX3 : u_T := fun k => match k with
  | _ => ("", "", "", false)
def tyX3 : Nat → FieldType := fun k => match k with
  | _ => .int
theorem nmX3 : ∀ a, a < 0 → ∀ b, b < 0 → a ≠ b → (TX3 a).2.1 ≠ (TX3 b).2.1 := by decide +kernel
theorem tyX3_ok : ∀ k, k < 0 → parseFieldDescriptor (TX3 k).2.2.1 = some (tyX3 k) := by decide +kernel
abbrev cX3_init : ByteArray := prog_5_method_1_code
def yX3_init : MethodName := ⟨RX3, "<init>", "()V"⟩
abbrev cX3_loudness : ByteArray := prog_5_method_2_code
def yX3_loudness : MethodName := ⟨RX3, "loudness", "(II)I"⟩
abbrev cX3_leftBehind : ByteArray := prog_5_method_3_code
def yX3_leftBehind : MethodName := ⟨RX3, "leftBehind", "(III)I"⟩
def RX4 : String := "ThankingGifts$Moment"
def TX4 : u_T := fun k => match k with
  | 0 => ("ThankingGifts$Moment", "place", "[I", true)
  | 1 => ("ThankingGifts$Moment", "giver", "[I", true)
  | 2 => ("ThankingGifts$Moment", "left", "[I", true)
  | 3 => ("ThankingGifts$Moment", "slept", "[I", true)
  | 4 => ("ThankingGifts$Moment", "woken", "[I", true)
  | 5 => ("ThankingGifts$Moment", "night", "I", false)
  | _ => ("ThankingGifts$Moment", "draw", "I", false)
def tyX4 : Nat → FieldType := fun k => match k with
  | 0 => .array .int
  | 1 => .array .int
  | 2 => .array .int
  | 3 => .array .int
  | 4 => .array .int
  | 5 => .int
  | _ => .int
theorem nmX4 : ∀ a, a < 7 → ∀ b, b < 7 → a ≠ b → (TX4 a).2.1 ≠ (TX4 b).2.1 := by decide +kernel
theorem tyX4_ok : ∀ k, k < 7 → parseFieldDescriptor (TX4 k).2.2.1 = some (tyX4 k) := by decide +kernel
abbrev cX4_init : ByteArray := prog_6_method_1_code
def yX4_init : MethodName := ⟨RX4, "<init>", "()V"⟩
abbrev cX4_takeAll : ByteArray := prog_6_method_2_code
def yX4_takeAll : MethodName := ⟨RX4, "takeAll", "(LThankingGifts$Moment;)V"⟩
def RX5 : String := "ThankingGifts$Outlook"
def TX5 : u_T := fun k => match k with
  | 0 => ("ThankingGifts$Outlook", "thingLoud", "[I", true)
  | 1 => ("ThankingGifts$Outlook", "nights", "I", false)
  | 2 => ("ThankingGifts$Outlook", "things", "I", false)
  | 3 => ("ThankingGifts$Outlook", "place", "[I", true)
  | _ => ("ThankingGifts$Outlook", "roomLoud", "[I", true)
def tyX5 : Nat → FieldType := fun k => match k with
  | 0 => .array .int
  | 1 => .int
  | 2 => .int
  | 3 => .array .int
  | _ => .array .int
theorem nmX5 : ∀ a, a < 5 → ∀ b, b < 5 → a ≠ b → (TX5 a).2.1 ≠ (TX5 b).2.1 := by decide +kernel
theorem tyX5_ok : ∀ k, k < 5 → parseFieldDescriptor (TX5 k).2.2.1 = some (tyX5 k) := by decide +kernel
abbrev cX5_init : ByteArray := prog_7_method_1_code
def yX5_init : MethodName := ⟨RX5, "<init>", "()V"⟩
abbrev cX5_look : ByteArray := prog_7_method_2_code
def yX5_look : MethodName := ⟨RX5, "look", "(LThankingGifts$House;I)V"⟩
abbrev cX5_swapRooms : ByteArray := prog_7_method_3_code
def yX5_swapRooms : MethodName := ⟨RX5, "swapRooms", "(LThankingGifts$House;II)V"⟩
abbrev cX5_listen : ByteArray := prog_7_method_4_code
def yX5_listen : MethodName := ⟨RX5, "listen", "(II)V"⟩
abbrev cX5_wokenIn : ByteArray := prog_7_method_5_code
def yX5_wokenIn : MethodName := ⟨RX5, "wokenIn", "(LThankingGifts$House;II)I"⟩
abbrev cX5_wakings : ByteArray := prog_7_method_6_code
def yX5_wakings : MethodName := ⟨RX5, "wakings", "(LThankingGifts$House;)I"⟩
abbrev cX5_wakingsIn : ByteArray := prog_7_method_7_code
def yX5_wakingsIn : MethodName := ⟨RX5, "wakingsIn", "(II)I"⟩
abbrev cX5_isQuietWithout : ByteArray := prog_7_method_8_code
def yX5_isQuietWithout : MethodName := ⟨RX5, "isQuietWithout", "(LThankingGifts$House;I)Z"⟩
def RX6 : String := "ThankingGifts$Past"
def TX6 : u_T := fun k => match k with
  | 0 => ("ThankingGifts$Past", "kept", "[LThankingGifts$Moment;", true)
  | 1 => ("ThankingGifts$Past", "next", "I", false)
  | _ => ("ThankingGifts$Past", "known", "I", false)
def tyX6 : Nat → FieldType := fun k => match k with
  | 0 => .array (.object "ThankingGifts$Moment")
  | 1 => .int
  | _ => .int
theorem nmX6 : ∀ a, a < 3 → ∀ b, b < 3 → a ≠ b → (TX6 a).2.1 ≠ (TX6 b).2.1 := by decide +kernel
theorem tyX6_ok : ∀ k, k < 3 → parseFieldDescriptor (TX6 k).2.2.1 = some (tyX6 k) := by decide +kernel
abbrev cX6_init : ByteArray := prog_8_method_1_code
def yX6_init : MethodName := ⟨RX6, "<init>", "()V"⟩
abbrev cX6_keep : ByteArray := prog_8_method_2_code
def yX6_keep : MethodName := ⟨RX6, "keep", "(LThankingGifts$Moment;)V"⟩
abbrev cX6_bringBack : ByteArray := prog_8_method_3_code
def yX6_bringBack : MethodName := ⟨RX6, "bringBack", "(LThankingGifts$Moment;)V"⟩
abbrev cX6_forget : ByteArray := prog_8_method_4_code
def yX6_forget : MethodName := ⟨RX6, "forget", "()V"⟩
abbrev cX6_takeAll : ByteArray := prog_8_method_5_code
def yX6_takeAll : MethodName := ⟨RX6, "takeAll", "(LThankingGifts$Past;)V"⟩
def RX7 : String := "ThankingGifts$Plain"
def TX7 : u_T := fun k => match k with
  | _ => ("", "", "", false)
def tyX7 : Nat → FieldType := fun k => match k with
  | _ => .int
theorem nmX7 : ∀ a, a < 0 → ∀ b, b < 0 → a ≠ b → (TX7 a).2.1 ≠ (TX7 b).2.1 := by decide +kernel
theorem tyX7_ok : ∀ k, k < 0 → parseFieldDescriptor (TX7 k).2.2.1 = some (tyX7 k) := by decide +kernel
abbrev cX7_init : ByteArray := prog_9_method_1_code
def yX7_init : MethodName := ⟨RX7, "<init>", "()V"⟩
abbrev cX7_loudness : ByteArray := prog_9_method_2_code
def yX7_loudness : MethodName := ⟨RX7, "loudness", "(II)I"⟩
abbrev cX7_leftBehind : ByteArray := prog_9_method_3_code
def yX7_leftBehind : MethodName := ⟨RX7, "leftBehind", "(III)I"⟩
def RX8 : String := "ThankingGifts$Reader"
def TX8 : u_T := fun k => match k with
  | 0 => ("ThankingGifts$Reader", "tape", "[C", true)
  | 1 => ("ThankingGifts$Reader", "length", "I", false)
  | _ => ("ThankingGifts$Reader", "place", "I", false)
def tyX8 : Nat → FieldType := fun k => match k with
  | 0 => .array .char
  | 1 => .int
  | _ => .int
theorem nmX8 : ∀ a, a < 3 → ∀ b, b < 3 → a ≠ b → (TX8 a).2.1 ≠ (TX8 b).2.1 := by decide +kernel
theorem tyX8_ok : ∀ k, k < 3 → parseFieldDescriptor (TX8 k).2.2.1 = some (tyX8 k) := by decide +kernel
abbrev cX8_init : ByteArray := prog_10_method_1_code
def yX8_init : MethodName := ⟨RX8, "<init>", "()V"⟩
abbrev cX8_addLetter : ByteArray := prog_10_method_2_code
def yX8_addLetter : MethodName := ⟨RX8, "addLetter", "(C)V"⟩
abbrev cX8_clear : ByteArray := prog_10_method_3_code
def yX8_clear : MethodName := ⟨RX8, "clear", "()V"⟩
abbrev cX8_readHouse : ByteArray := prog_10_method_4_code
def yX8_readHouse : MethodName := ⟨RX8, "readHouse", "(LThankingGifts$House;)Z"⟩
abbrev cX8_readSleepers : ByteArray := prog_10_method_5_code
def yX8_readSleepers : MethodName := ⟨RX8, "readSleepers", "(LThankingGifts$House;)Z"⟩
abbrev cX8_readThings : ByteArray := prog_10_method_6_code
def yX8_readThings : MethodName := ⟨RX8, "readThings", "(LThankingGifts$House;)Z"⟩
abbrev cX8_readSleeper : ByteArray := prog_10_method_7_code
def yX8_readSleeper : MethodName := ⟨RX8, "readSleeper", "(LThankingGifts$House;)Z"⟩
abbrev cX8_readThing : ByteArray := prog_10_method_8_code
def yX8_readThing : MethodName := ⟨RX8, "readThing", "(LThankingGifts$House;)Z"⟩
abbrev cX8_readKind : ByteArray := prog_10_method_9_code
def yX8_readKind : MethodName := ⟨RX8, "readKind", "()I"⟩
abbrev cX8_readDigit : ByteArray := prog_10_method_10_code
def yX8_readDigit : MethodName := ⟨RX8, "readDigit", "(II)I"⟩
abbrev cX8_readNumber : ByteArray := prog_10_method_11_code
def yX8_readNumber : MethodName := ⟨RX8, "readNumber", "()I"⟩
abbrev cX8_digitHere : ByteArray := prog_10_method_12_code
def yX8_digitHere : MethodName := ⟨RX8, "digitHere", "()I"⟩
abbrev cX8_takes : ByteArray := prog_10_method_13_code
def yX8_takes : MethodName := ⟨RX8, "takes", "(C)Z"⟩
abbrev cX8_skipBlanks : ByteArray := prog_10_method_14_code
def yX8_skipBlanks : MethodName := ⟨RX8, "skipBlanks", "()V"⟩
def RX9 : String := "ThankingGifts$Sheet"
def TX9 : u_T := fun k => match k with
  | 0 => ("ThankingGifts$Sheet", "items", "[J", true)
  | 1 => ("ThankingGifts$Sheet", "present", "Z", false)
  | 2 => ("ThankingGifts$Sheet", "lane", "I", false)
  | _ => ("ThankingGifts$Sheet", "length", "I", false)
def tyX9 : Nat → FieldType := fun k => match k with
  | 0 => .array .long
  | 1 => .boolean
  | 2 => .int
  | _ => .int
theorem nmX9 : ∀ a, a < 4 → ∀ b, b < 4 → a ≠ b → (TX9 a).2.1 ≠ (TX9 b).2.1 := by decide +kernel
theorem tyX9_ok : ∀ k, k < 4 → parseFieldDescriptor (TX9 k).2.2.1 = some (tyX9 k) := by decide +kernel
abbrev cX9_init : ByteArray := prog_11_method_1_code
def yX9_init : MethodName := ⟨RX9, "<init>", "()V"⟩
abbrev cX9_renew : ByteArray := prog_11_method_2_code
def yX9_renew : MethodName := ⟨RX9, "renew", "(II)V"⟩
abbrev cX9_refusal : ByteArray := prog_11_method_3_code
def yX9_refusal : MethodName := ⟨RX9, "refusal", "(III)I"⟩
abbrev cX9_spans : ByteArray := prog_11_method_4_code
def yX9_spans : MethodName := ⟨RX9, "spans", "(II)Z"⟩
abbrev cX9_put : ByteArray := prog_11_method_5_code
def yX9_put : MethodName := ⟨RX9, "put", "(IJ)V"⟩
def RX10 : String := "ThankingGifts$Turnabout"
def TX10 : u_T := fun k => match k with
  | _ => ("", "", "", false)
def tyX10 : Nat → FieldType := fun k => match k with
  | _ => .int
theorem nmX10 : ∀ a, a < 0 → ∀ b, b < 0 → a ≠ b → (TX10 a).2.1 ≠ (TX10 b).2.1 := by decide +kernel
theorem tyX10_ok : ∀ k, k < 0 → parseFieldDescriptor (TX10 k).2.2.1 = some (tyX10 k) := by decide +kernel
abbrev cX10_init : ByteArray := prog_12_method_1_code
def yX10_init : MethodName := ⟨RX10, "<init>", "()V"⟩
abbrev cX10_loudness : ByteArray := prog_12_method_2_code
def yX10_loudness : MethodName := ⟨RX10, "loudness", "(II)I"⟩
abbrev cX10_leftBehind : ByteArray := prog_12_method_3_code
def yX10_leftBehind : MethodName := ⟨RX10, "leftBehind", "(III)I"⟩
def RX11 : String := "ThankingGifts"
def TX11 : u_T := fun k => match k with
  | 0 => ("ThankingGifts", "house", "LThankingGifts$House;", true)
  | 1 => ("ThankingGifts", "past", "LThankingGifts$Past;", true)
  | 2 => ("ThankingGifts", "imagedHouse", "LThankingGifts$House;", true)
  | 3 => ("ThankingGifts", "imagedPast", "LThankingGifts$Past;", true)
  | 4 => ("ThankingGifts", "imaged", "Z", false)
  | 5 => ("ThankingGifts", "draft", "LThankingGifts$House;", true)
  | 6 => ("ThankingGifts", "reader", "LThankingGifts$Reader;", true)
  | 7 => ("ThankingGifts", "outlook", "LThankingGifts$Outlook;", true)
  | _ => ("ThankingGifts", "sheets", "[LThankingGifts$Sheet;", true)
def tyX11 : Nat → FieldType := fun k => match k with
  | 0 => .object "ThankingGifts$House"
  | 1 => .object "ThankingGifts$Past"
  | 2 => .object "ThankingGifts$House"
  | 3 => .object "ThankingGifts$Past"
  | 4 => .boolean
  | 5 => .object "ThankingGifts$House"
  | 6 => .object "ThankingGifts$Reader"
  | 7 => .object "ThankingGifts$Outlook"
  | _ => .array (.object "ThankingGifts$Sheet")
theorem nmX11 : ∀ a, a < 9 → ∀ b, b < 9 → a ≠ b → (TX11 a).2.1 ≠ (TX11 b).2.1 := by decide +kernel
theorem tyX11_ok : ∀ k, k < 9 → parseFieldDescriptor (TX11 k).2.2.1 = some (tyX11 k) := by decide +kernel
abbrev cX11_init : ByteArray := prog_1_method_1_code
def yX11_init : MethodName := ⟨RX11, "<init>", "()V"⟩
abbrev cX11_sleeper : ByteArray := prog_1_method_2_code
def yX11_sleeper : MethodName := ⟨RX11, "sleeper", "(II)I"⟩
abbrev cX11_thing : ByteArray := prog_1_method_3_code
def yX11_thing : MethodName := ⟨RX11, "thing", "(IIII)I"⟩
abbrev cX11_of : ByteArray := prog_1_method_4_code
def yX11_of : MethodName := ⟨RX11, "of", "(II)I"⟩
abbrev cX11_gift : ByteArray := prog_1_method_5_code
def yX11_gift : MethodName := ⟨RX11, "gift", "(II)I"⟩
abbrev cX11_room : ByteArray := prog_1_method_6_code
def yX11_room : MethodName := ⟨RX11, "room", "(II)I"⟩
abbrev cX11_bed : ByteArray := prog_1_method_7_code
def yX11_bed : MethodName := ⟨RX11, "bed", "(II)I"⟩
abbrev cX11_type : ByteArray := prog_1_method_8_code
def yX11_type : MethodName := ⟨RX11, "type", "(I)I"⟩
abbrev cX11_house : ByteArray := prog_1_method_9_code
def yX11_house : MethodName := ⟨RX11, "house", "()I"⟩
abbrev cX11_count : ByteArray := prog_1_method_10_code
def yX11_count : MethodName := ⟨RX11, "count", "(I)I"⟩
abbrev cX11_nights : ByteArray := prog_1_method_11_code
def yX11_nights : MethodName := ⟨RX11, "nights", "(I)I"⟩
abbrev cX11_move : ByteArray := prog_1_method_12_code
def yX11_move : MethodName := ⟨RX11, "move", "(II)I"⟩
abbrev cX11_pass : ByteArray := prog_1_method_13_code
def yX11_pass : MethodName := ⟨RX11, "pass", "(II)I"⟩
abbrev cX11_back : ByteArray := prog_1_method_14_code
def yX11_back : MethodName := ⟨RX11, "back", "(I)I"⟩
abbrev cX11_drift : ByteArray := prog_1_method_15_code
def yX11_drift : MethodName := ⟨RX11, "drift", "(I)I"⟩
abbrev cX11_undo : ByteArray := prog_1_method_16_code
def yX11_undo : MethodName := ⟨RX11, "undo", "()I"⟩
abbrev cX11_seed : ByteArray := prog_1_method_17_code
def yX11_seed : MethodName := ⟨RX11, "seed", "(I)I"⟩
abbrev cX11_ahead : ByteArray := prog_1_method_18_code
def yX11_ahead : MethodName := ⟨RX11, "ahead", "(II)I"⟩
abbrev cX11_loudAhead : ByteArray := prog_1_method_19_code
def yX11_loudAhead : MethodName := ⟨RX11, "loudAhead", "(II)I"⟩
abbrev cX11_sleeps : ByteArray := prog_1_method_20_code
def yX11_sleeps : MethodName := ⟨RX11, "sleeps", "(II)I"⟩
abbrev cX11_peace : ByteArray := prog_1_method_21_code
def yX11_peace : MethodName := ⟨RX11, "peace", "()I"⟩
abbrev cX11_best : ByteArray := prog_1_method_22_code
def yX11_best : MethodName := ⟨RX11, "best", "(III)I"⟩
abbrev cX11_bestBed : ByteArray := prog_1_method_23_code
def yX11_bestBed : MethodName := ⟨RX11, "bestBed", "(III)I"⟩
abbrev cX11_change : ByteArray := prog_1_method_24_code
def yX11_change : MethodName := ⟨RX11, "change", "(II)I"⟩
abbrev cX11_backs : ByteArray := prog_1_method_25_code
def yX11_backs : MethodName := ⟨RX11, "backs", "(II)I"⟩
abbrev cX11_luck : ByteArray := prog_1_method_26_code
def yX11_luck : MethodName := ⟨RX11, "luck", "(III)I"⟩
abbrev cX11_thanked : ByteArray := prog_1_method_27_code
def yX11_thanked : MethodName := ⟨RX11, "thanked", "(I)I"⟩
abbrev cX11_image : ByteArray := prog_1_method_28_code
def yX11_image : MethodName := ⟨RX11, "image", "()I"⟩
abbrev cX11_restore : ByteArray := prog_1_method_29_code
def yX11_restore : MethodName := ⟨RX11, "restore", "()I"⟩
abbrev cX11_heard : ByteArray := prog_1_method_30_code
def yX11_heard : MethodName := ⟨RX11, "heard", "(IIIIII)I"⟩
abbrev cX11_film : ByteArray := prog_1_method_31_code
def yX11_film : MethodName := ⟨RX11, "film", "(IIIII)I"⟩
abbrev cX11_sheet : ByteArray := prog_1_method_32_code
def yX11_sheet : MethodName := ⟨RX11, "sheet", "(III)I"⟩
abbrev cX11_drop : ByteArray := prog_1_method_33_code
def yX11_drop : MethodName := ⟨RX11, "drop", "(I)I"⟩
abbrev cX11_item : ByteArray := prog_1_method_34_code
def yX11_item : MethodName := ⟨RX11, "item", "(IIIJ)I"⟩
abbrev cX11_copy : ByteArray := prog_1_method_35_code
def yX11_copy : MethodName := ⟨RX11, "copy", "(IIIII)I"⟩
abbrev cX11_spendNights : ByteArray := prog_1_method_36_code
def yX11_spendNights : MethodName := ⟨RX11, "spendNights", "(IZ)I"⟩
abbrev cX11_kindsHeard : ByteArray := prog_1_method_37_code
def yX11_kindsHeard : MethodName := ⟨RX11, "kindsHeard", "(ILThankingGifts$Sheet;II)I"⟩
abbrev cX11_dearsHeard : ByteArray := prog_1_method_38_code
def yX11_dearsHeard : MethodName := ⟨RX11, "dearsHeard", "(ILThankingGifts$Sheet;II)I"⟩
abbrev cX11_isHeardAs : ByteArray := prog_1_method_39_code
def yX11_isHeardAs : MethodName := ⟨RX11, "isHeardAs", "(IIILThankingGifts$Sheet;II)Z"⟩
abbrev cX11_ways : ByteArray := prog_1_method_40_code
def yX11_ways : MethodName := ⟨RX11, "ways", "(III)I"⟩
abbrev cX11_greatestCommon : ByteArray := prog_1_method_41_code
def yX11_greatestCommon : MethodName := ⟨RX11, "greatestCommon", "(II)I"⟩
abbrev cX11_within : ByteArray := prog_1_method_42_code
def yX11_within : MethodName := ⟨RX11, "within", "(III)Z"⟩
abbrev cX11_isRoom : ByteArray := prog_1_method_43_code
def yX11_isRoom : MethodName := ⟨RX11, "isRoom", "(I)Z"⟩
abbrev cX11_isGiver : ByteArray := prog_1_method_44_code
def yX11_isGiver : MethodName := ⟨RX11, "isGiver", "(I)Z"⟩
abbrev cX11_isSheet : ByteArray := prog_1_method_45_code
def yX11_isSheet : MethodName := ⟨RX11, "isSheet", "(I)Z"⟩
abbrev cX11_isLane : ByteArray := prog_1_method_46_code
def yX11_isLane : MethodName := ⟨RX11, "isLane", "(I)Z"⟩
abbrev cX11_isIn : ByteArray := prog_1_method_47_code
def yX11_isIn : MethodName := ⟨RX11, "isIn", "(II)Z"⟩
abbrev cX11_leftAtFirst : ByteArray := prog_1_method_48_code
def yX11_leftAtFirst : MethodName := ⟨RX11, "leftAtFirst", "(I)I"⟩
abbrev cX11_sum : ByteArray := prog_1_method_49_code
def yX11_sum : MethodName := ⟨RX11, "sum", "([II)I"⟩
def RX12 : String := "ThankingGiftsModel"
def TX12 : u_T := fun k => match k with
  | 0 => ("ThankingGiftsModel", "lane", "[I", true)
  | 1 => ("ThankingGiftsModel", "size", "[I", true)
  | 2 => ("ThankingGiftsModel", "item", "[J", true)
  | 3 => ("ThankingGiftsModel", "letters", "I", false)
  | 4 => ("ThankingGiftsModel", "tape", "[I", true)
  | 5 => ("ThankingGiftsModel", "position", "I", false)
  | 6 => ("ThankingGiftsModel", "number", "I", false)
  | 7 => ("ThankingGiftsModel", "now", "[I", true)
  | 8 => ("ThankingGiftsModel", "tried", "[I", true)
  | 9 => ("ThankingGiftsModel", "read", "[I", true)
  | 10 => ("ThankingGiftsModel", "kept", "[I", true)
  | _ => ("ThankingGiftsModel", "isKept", "Z", false)
def tyX12 : Nat → FieldType := fun k => match k with
  | 0 => .array .int
  | 1 => .array .int
  | 2 => .array .long
  | 3 => .int
  | 4 => .array .int
  | 5 => .int
  | 6 => .int
  | 7 => .array .int
  | 8 => .array .int
  | 9 => .array .int
  | 10 => .array .int
  | _ => .boolean
theorem nmX12 : ∀ a, a < 12 → ∀ b, b < 12 → a ≠ b → (TX12 a).2.1 ≠ (TX12 b).2.1 := by decide +kernel
theorem tyX12_ok : ∀ k, k < 12 → parseFieldDescriptor (TX12 k).2.2.1 = some (tyX12 k) := by decide +kernel
abbrev cX12_init : ByteArray := prog_14_method_1_code
def yX12_init : MethodName := ⟨RX12, "<init>", "()V"⟩
abbrev cX12_in : ByteArray := prog_14_method_2_code
def yX12_in : MethodName := ⟨RX12, "in", "(III)Z"⟩
abbrev cX12_has : ByteArray := prog_14_method_3_code
def yX12_has : MethodName := ⟨RX12, "has", "(II)Z"⟩
abbrev cX12_bits : ByteArray := prog_14_method_4_code
def yX12_bits : MethodName := ⟨RX12, "bits", "(I)I"⟩
abbrev cX12_bring : ByteArray := prog_14_method_5_code
def yX12_bring : MethodName := ⟨RX12, "bring", "([II[III)V"⟩
abbrev cX12_isSleeper : ByteArray := prog_14_method_6_code
def yX12_isSleeper : MethodName := ⟨RX12, "isSleeper", "(I)Z"⟩
abbrev cX12_isThing : ByteArray := prog_14_method_7_code
def yX12_isThing : MethodName := ⟨RX12, "isThing", "(I)Z"⟩
abbrev cX12_isRoom : ByteArray := prog_14_method_8_code
def yX12_isRoom : MethodName := ⟨RX12, "isRoom", "(I)Z"⟩
abbrev cX12_addSleeper : ByteArray := prog_14_method_9_code
def yX12_addSleeper : MethodName := ⟨RX12, "addSleeper", "([III)I"⟩
abbrev cX12_firstLeft : ByteArray := prog_14_method_10_code
def yX12_firstLeft : MethodName := ⟨RX12, "firstLeft", "(I)I"⟩
abbrev cX12_addThing : ByteArray := prog_14_method_11_code
def yX12_addThing : MethodName := ⟨RX12, "addThing", "([IIIII)I"⟩
abbrev cX12_sleeper : ByteArray := prog_14_method_12_code
def yX12_sleeper : MethodName := ⟨RX12, "sleeper", "(II)I"⟩
abbrev cX12_thing : ByteArray := prog_14_method_13_code
def yX12_thing : MethodName := ⟨RX12, "thing", "(IIII)I"⟩
abbrev cX12_loudBy : ByteArray := prog_14_method_14_code
def yX12_loudBy : MethodName := ⟨RX12, "loudBy", "(IIII)I"⟩
abbrev cX12_leftBy : ByteArray := prog_14_method_15_code
def yX12_leftBy : MethodName := ⟨RX12, "leftBy", "(IIII)I"⟩
abbrev cX12_loudOf : ByteArray := prog_14_method_16_code
def yX12_loudOf : MethodName := ⟨RX12, "loudOf", "([II)I"⟩
abbrev cX12_loudIn : ByteArray := prog_14_method_17_code
def yX12_loudIn : MethodName := ⟨RX12, "loudIn", "([II)I"⟩
abbrev cX12_isAsleep : ByteArray := prog_14_method_18_code
def yX12_isAsleep : MethodName := ⟨RX12, "isAsleep", "([II)Z"⟩
abbrev cX12_of : ByteArray := prog_14_method_19_code
def yX12_of : MethodName := ⟨RX12, "of", "(II)I"⟩
abbrev cX12_gift : ByteArray := prog_14_method_20_code
def yX12_gift : MethodName := ⟨RX12, "gift", "(II)I"⟩
abbrev cX12_room : ByteArray := prog_14_method_21_code
def yX12_room : MethodName := ⟨RX12, "room", "(II)I"⟩
abbrev cX12_bed : ByteArray := prog_14_method_22_code
def yX12_bed : MethodName := ⟨RX12, "bed", "(II)I"⟩
abbrev cX12_type : ByteArray := prog_14_method_23_code
def yX12_type : MethodName := ⟨RX12, "type", "(I)I"⟩
abbrev cX12_peek : ByteArray := prog_14_method_24_code
def yX12_peek : MethodName := ⟨RX12, "peek", "()I"⟩
abbrev cX12_isSign : ByteArray := prog_14_method_25_code
def yX12_isSign : MethodName := ⟨RX12, "isSign", "(I)Z"⟩
abbrev cX12_isDigit : ByteArray := prog_14_method_26_code
def yX12_isDigit : MethodName := ⟨RX12, "isDigit", "(II)Z"⟩
abbrev cX12_isNumber : ByteArray := prog_14_method_27_code
def yX12_isNumber : MethodName := ⟨RX12, "isNumber", "()Z"⟩
abbrev cX12_isSleeperItem : ByteArray := prog_14_method_28_code
def yX12_isSleeperItem : MethodName := ⟨RX12, "isSleeperItem", "()Z"⟩
abbrev cX12_kindBy : ByteArray := prog_14_method_29_code
def yX12_kindBy : MethodName := ⟨RX12, "kindBy", "(I)I"⟩
abbrev cX12_isThingItem : ByteArray := prog_14_method_30_code
def yX12_isThingItem : MethodName := ⟨RX12, "isThingItem", "()Z"⟩
abbrev cX12_isHouse : ByteArray := prog_14_method_31_code
def yX12_isHouse : MethodName := ⟨RX12, "isHouse", "()Z"⟩
abbrev cX12_house : ByteArray := prog_14_method_32_code
def yX12_house : MethodName := ⟨RX12, "house", "()I"⟩
abbrev cX12_count : ByteArray := prog_14_method_33_code
def yX12_count : MethodName := ⟨RX12, "count", "(I)I"⟩
abbrev cX12_wokenIn : ByteArray := prog_14_method_34_code
def yX12_wokenIn : MethodName := ⟨RX12, "wokenIn", "([I)I"⟩
abbrev cX12_note : ByteArray := prog_14_method_35_code
def yX12_note : MethodName := ⟨RX12, "note", "()V"⟩
abbrev cX12_goBy : ByteArray := prog_14_method_36_code
def yX12_goBy : MethodName := ⟨RX12, "goBy", "([I)V"⟩
abbrev cX12_nights : ByteArray := prog_14_method_37_code
def yX12_nights : MethodName := ⟨RX12, "nights", "(I)I"⟩
abbrev cX12_move : ByteArray := prog_14_method_38_code
def yX12_move : MethodName := ⟨RX12, "move", "(II)I"⟩
abbrev cX12_pass : ByteArray := prog_14_method_39_code
def yX12_pass : MethodName := ⟨RX12, "pass", "(II)I"⟩
abbrev cX12_back : ByteArray := prog_14_method_40_code
def yX12_back : MethodName := ⟨RX12, "back", "(I)I"⟩
abbrev cX12_drift : ByteArray := prog_14_method_41_code
def yX12_drift : MethodName := ⟨RX12, "drift", "(I)I"⟩
abbrev cX12_undo : ByteArray := prog_14_method_42_code
def yX12_undo : MethodName := ⟨RX12, "undo", "()I"⟩
abbrev cX12_seed : ByteArray := prog_14_method_43_code
def yX12_seed : MethodName := ⟨RX12, "seed", "(I)I"⟩
abbrev cX12_begin : ByteArray := prog_14_method_44_code
def yX12_begin : MethodName := ⟨RX12, "begin", "()V"⟩
abbrev cX12_goOn : ByteArray := prog_14_method_45_code
def yX12_goOn : MethodName := ⟨RX12, "goOn", "(I)V"⟩
abbrev cX12_ahead : ByteArray := prog_14_method_46_code
def yX12_ahead : MethodName := ⟨RX12, "ahead", "(II)I"⟩
abbrev cX12_loudAhead : ByteArray := prog_14_method_47_code
def yX12_loudAhead : MethodName := ⟨RX12, "loudAhead", "(II)I"⟩
abbrev cX12_sleeps : ByteArray := prog_14_method_48_code
def yX12_sleeps : MethodName := ⟨RX12, "sleeps", "(II)I"⟩
abbrev cX12_peace : ByteArray := prog_14_method_49_code
def yX12_peace : MethodName := ⟨RX12, "peace", "()I"⟩
abbrev cX12_wokenOn : ByteArray := prog_14_method_50_code
def yX12_wokenOn : MethodName := ⟨RX12, "wokenOn", "(I)I"⟩
abbrev cX12_best : ByteArray := prog_14_method_51_code
def yX12_best : MethodName := ⟨RX12, "best", "(III)I"⟩
abbrev cX12_bestBed : ByteArray := prog_14_method_52_code
def yX12_bestBed : MethodName := ⟨RX12, "bestBed", "(III)I"⟩
abbrev cX12_change : ByteArray := prog_14_method_53_code
def yX12_change : MethodName := ⟨RX12, "change", "(II)I"⟩
abbrev cX12_backs : ByteArray := prog_14_method_54_code
def yX12_backs : MethodName := ⟨RX12, "backs", "(II)I"⟩
abbrev cX12_luck : ByteArray := prog_14_method_55_code
def yX12_luck : MethodName := ⟨RX12, "luck", "(III)I"⟩
abbrev cX12_thanked : ByteArray := prog_14_method_56_code
def yX12_thanked : MethodName := ⟨RX12, "thanked", "(I)I"⟩
abbrev cX12_image : ByteArray := prog_14_method_57_code
def yX12_image : MethodName := ⟨RX12, "image", "()I"⟩
abbrev cX12_restore : ByteArray := prog_14_method_58_code
def yX12_restore : MethodName := ⟨RX12, "restore", "()I"⟩
abbrev cX12_isSheet : ByteArray := prog_14_method_59_code
def yX12_isSheet : MethodName := ⟨RX12, "isSheet", "(I)Z"⟩
abbrev cX12_isPart : ByteArray := prog_14_method_60_code
def yX12_isPart : MethodName := ⟨RX12, "isPart", "(III)Z"⟩
abbrev cX12_wrong : ByteArray := prog_14_method_61_code
def yX12_wrong : MethodName := ⟨RX12, "wrong", "(IIII)I"⟩
abbrev cX12_heard : ByteArray := prog_14_method_62_code
def yX12_heard : MethodName := ⟨RX12, "heard", "(IIIIII)I"⟩
abbrev cX12_film : ByteArray := prog_14_method_63_code
def yX12_film : MethodName := ⟨RX12, "film", "(IIIII)I"⟩
abbrev cX12_sheet : ByteArray := prog_14_method_64_code
def yX12_sheet : MethodName := ⟨RX12, "sheet", "(III)I"⟩
abbrev cX12_drop : ByteArray := prog_14_method_65_code
def yX12_drop : MethodName := ⟨RX12, "drop", "(I)I"⟩
abbrev cX12_item : ByteArray := prog_14_method_66_code
def yX12_item : MethodName := ⟨RX12, "item", "(IIIJ)I"⟩
abbrev cX12_copy : ByteArray := prog_14_method_67_code
def yX12_copy : MethodName := ⟨RX12, "copy", "(IIIII)I"⟩
def RJ11 : String := "java/lang/Character"
abbrev cJ11_isValidCodePoint_9a6ad : ByteArray := prog_15_method_11_code
def yJ11_isValidCodePoint_9a6ad : MethodName := ⟨RJ11, "isValidCodePoint", "(I)Z"⟩
abbrev cJ11_highSurrogate_5068e : ByteArray := prog_15_method_28_code
def yJ11_highSurrogate_5068e : MethodName := ⟨RJ11, "highSurrogate", "(I)C"⟩
abbrev cJ11_lowSurrogate_5068e : ByteArray := prog_15_method_29_code
def yJ11_lowSurrogate_5068e : MethodName := ⟨RJ11, "lowSurrogate", "(I)C"⟩
def RJ6 : String := "java/lang/Integer"
abbrev cJ6_bitCount_0f7a4 : ByteArray := prog_16_method_49_code
def yJ6_bitCount_0f7a4 : MethodName := ⟨RJ6, "bitCount", "(I)I"⟩
def RJ9 : String := "java/lang/Math"
abbrev cJ9_max_7cf53 : ByteArray := prog_17_method_65_code
def yJ9_max_7cf53 : MethodName := ⟨RJ9, "max", "(II)I"⟩
abbrev cJ9_min_7cf53 : ByteArray := prog_17_method_69_code
def yJ9_min_7cf53 : MethodName := ⟨RJ9, "min", "(II)I"⟩
def RJ0 : String := "java/lang/String"
abbrev cJ0_length_8abf5 : ByteArray := prog_18_method_54_code
def yJ0_length_8abf5 : MethodName := ⟨RJ0, "length", "()I"⟩
abbrev cJ0_indexOf_0f7a4 : ByteArray := prog_18_method_79_code
def yJ0_indexOf_0f7a4 : MethodName := ⟨RJ0, "indexOf", "(I)I"⟩
abbrev cJ0_indexOf_7cf53 : ByteArray := prog_18_method_80_code
def yJ0_indexOf_7cf53 : MethodName := ⟨RJ0, "indexOf", "(II)I"⟩
abbrev cJ0_coder_7d493 : ByteArray := prog_18_method_152_code
def yJ0_coder_7d493 : MethodName := ⟨RJ0, "coder", "()B"⟩
abbrev cJ0_isLatin1_aae02 : ByteArray := prog_18_method_154_code
def yJ0_isLatin1_aae02 : MethodName := ⟨RJ0, "isLatin1", "()Z"⟩
abbrev cJ0_checkBoundsBeginEnd_23922 : ByteArray := prog_18_method_158_code
def yJ0_checkBoundsBeginEnd_23922 : MethodName := ⟨RJ0, "checkBoundsBeginEnd", "(III)V"⟩
def RJ1 : String := "java/lang/StringLatin1"
abbrev cJ1_canEncode_9a6ad : ByteArray := prog_19_method_4_code
def yJ1_canEncode_9a6ad : MethodName := ⟨RJ1, "canEncode", "(I)Z"⟩
abbrev cJ1_indexOf_4cfef : ByteArray := prog_19_method_22_code
def yJ1_indexOf_4cfef : MethodName := ⟨RJ1, "indexOf", "([BIII)I"⟩
abbrev cJ1_indexOfChar_4cfef : ByteArray := prog_19_method_23_code
def yJ1_indexOfChar_4cfef : MethodName := ⟨RJ1, "indexOfChar", "([BIII)I"⟩
def RJ2 : String := "java/lang/StringUTF16"
abbrev cJ2_getChar_3b067 : ByteArray := prog_20_method_5_code
def yJ2_getChar_3b067 : MethodName := ⟨RJ2, "getChar", "([BI)C"⟩
abbrev cJ2_length_9d52b : ByteArray := prog_20_method_6_code
def yJ2_length_9d52b : MethodName := ⟨RJ2, "length", "([B)I"⟩
abbrev cJ2_indexOf_4cfef : ByteArray := prog_20_method_40_code
def yJ2_indexOf_4cfef : MethodName := ⟨RJ2, "indexOf", "([BIII)I"⟩
abbrev cJ2_indexOfChar_4cfef : ByteArray := prog_20_method_47_code
def yJ2_indexOfChar_4cfef : MethodName := ⟨RJ2, "indexOfChar", "([BIII)I"⟩
abbrev cJ2_indexOfCharUnsafe_4cfef : ByteArray := prog_20_method_48_code
def yJ2_indexOfCharUnsafe_4cfef : MethodName := ⟨RJ2, "indexOfCharUnsafe", "([BIII)I"⟩
abbrev cJ2_indexOfSupplementary_4cfef : ByteArray := prog_20_method_49_code
def yJ2_indexOfSupplementary_4cfef : MethodName := ⟨RJ2, "indexOfSupplementary", "([BIII)I"⟩
abbrev cJ2_checkBoundsBeginEnd_d044e : ByteArray := prog_20_method_93_code
def yJ2_checkBoundsBeginEnd_d044e : MethodName := ⟨RJ2, "checkBoundsBeginEnd", "(II[B)V"⟩
def RJ10 : String := "java/lang/System"
def RJ3 : String := "jdk/internal/util/Preconditions"
abbrev cJ3_checkFromToIndex_8c36e : ByteArray := prog_22_method_12_code
def yJ3_checkFromToIndex_8c36e : MethodName := ⟨RJ3, "checkFromToIndex", "(IIILjava/util/function/BiFunction;)I"⟩
def RL : String := "ThankingGiftsLaw"
abbrev vwCl : List vw_C := [(RX0, TX0, 0), (RX1, TX1, 0), (RX2, TX2, 9), (RX3, TX3, 0), (RX4, TX4, 7), (RX5, TX5, 5), (RX6, TX6, 3), (RX7, TX7, 0), (RX8, TX8, 3), (RX9, TX9, 4), (RX10, TX10, 0), (RX11, TX11, 9), (RX12, TX12, 12)]
def sd_nF : Nat → Nat
  | 0 => 0
  | 1 => 0
  | 2 => 9
  | 3 => 0
  | 4 => 7
  | 5 => 5
  | 6 => 3
  | 7 => 0
  | 8 => 3
  | 9 => 4
  | 10 => 0
  | 11 => 9
  | 12 => 12
  | _ => 0
def sd_isR : Nat → Nat → Bool
  | 2, 0 => true
  | 2, 1 => true
  | 2, 2 => true
  | 2, 3 => true
  | 2, 4 => true
  | 2, 5 => true
  | 2, 6 => true
  | 4, 0 => true
  | 4, 1 => true
  | 4, 2 => true
  | 4, 3 => true
  | 4, 4 => true
  | 5, 0 => true
  | 5, 3 => true
  | 5, 4 => true
  | 6, 0 => true
  | 8, 0 => true
  | 9, 0 => true
  | 11, 0 => true
  | 11, 1 => true
  | 11, 2 => true
  | 11, 3 => true
  | 11, 5 => true
  | 11, 6 => true
  | 11, 7 => true
  | 11, 8 => true
  | 12, 0 => true
  | 12, 1 => true
  | 12, 2 => true
  | 12, 4 => true
  | 12, 7 => true
  | 12, 8 => true
  | 12, 9 => true
  | 12, 10 => true
  | _, _ => false
theorem sd_m0 {w : Cond} {i : Nat} (h : (k2_sels lw_privs)[i]? = some w) : w ∈ lw_tbl := List.mem_append_left _ (List.mem_of_getElem? h)
theorem sd_m {w : Cond} (h : w ∈ tables_1) : w ∈ lw_tbl := List.mem_append_right _ h
theorem sd_m1 {w : Cond} {i : Nat} (h : tables_1_1[i]? = some w) : w ∈ lw_tbl := sd_m (List.mem_append_left _ (List.mem_of_getElem? h))
theorem sd_m2 {w : Cond} {i : Nat} (h : tables_1_2[i]? = some w) : w ∈ lw_tbl := sd_m (List.mem_append_right _ (List.mem_append_left _ (List.mem_of_getElem? h)))
theorem sd_m3 {w : Cond} {i : Nat} (h : tables_1_3[i]? = some w) : w ∈ lw_tbl := sd_m (List.mem_append_right _ (List.mem_append_right _ (List.mem_append_left _ (List.mem_of_getElem? h))))
theorem sd_m4 {w : Cond} {i : Nat} (h : tables_1_4[i]? = some w) : w ∈ lw_tbl := sd_m (List.mem_append_right _ (List.mem_append_right _ (List.mem_append_right _ (List.mem_append_left _ (List.mem_of_getElem? h)))))
theorem sd_m5 {w : Cond} {i : Nat} (h : tables_1_5[i]? = some w) : w ∈ lw_tbl := sd_m (List.mem_append_right _ (List.mem_append_right _ (List.mem_append_right _ (List.mem_append_right _ (List.mem_of_getElem? h)))))
def sd_gd : List Cond := lw_tbl.filter goodWord
theorem sd_gd_in {w : Cond} (h : w ∈ lw_tbl) (hg : goodWord w = true) : w ∈ sd_gd := List.mem_filter.mpr ⟨h, hg⟩
theorem sd_gd_good {w : Cond} (h : w ∈ sd_gd) : goodWord w = true := (List.mem_filter.mp h).2
theorem wS_X8_X8_readSleepers : (.selects RX8 yX8_readSleepers yX8_readSleepers : Cond) ∈ sd_gd := sd_gd_in (sd_m0 (i := 0) (by decide +kernel)) rfl
theorem wS_X8_X8_readSleeper : (.selects RX8 yX8_readSleeper yX8_readSleeper : Cond) ∈ sd_gd := sd_gd_in (sd_m0 (i := 1) (by decide +kernel)) rfl
theorem wS_X8_X8_readDigit : (.selects RX8 yX8_readDigit yX8_readDigit : Cond) ∈ sd_gd := sd_gd_in (sd_m0 (i := 2) (by decide +kernel)) rfl
theorem wS_X8_X8_skipBlanks : (.selects RX8 yX8_skipBlanks yX8_skipBlanks : Cond) ∈ sd_gd := sd_gd_in (sd_m0 (i := 3) (by decide +kernel)) rfl
theorem wS_X8_X8_digitHere : (.selects RX8 yX8_digitHere yX8_digitHere : Cond) ∈ sd_gd := sd_gd_in (sd_m0 (i := 4) (by decide +kernel)) rfl
theorem wS_X8_X8_takes : (.selects RX8 yX8_takes yX8_takes : Cond) ∈ sd_gd := sd_gd_in (sd_m0 (i := 5) (by decide +kernel)) rfl
theorem wS_X8_X8_readNumber : (.selects RX8 yX8_readNumber yX8_readNumber : Cond) ∈ sd_gd := sd_gd_in (sd_m0 (i := 6) (by decide +kernel)) rfl
theorem wS_X8_X8_readThings : (.selects RX8 yX8_readThings yX8_readThings : Cond) ∈ sd_gd := sd_gd_in (sd_m0 (i := 7) (by decide +kernel)) rfl
theorem wS_X8_X8_readThing : (.selects RX8 yX8_readThing yX8_readThing : Cond) ∈ sd_gd := sd_gd_in (sd_m0 (i := 8) (by decide +kernel)) rfl
theorem wS_X8_X8_readKind : (.selects RX8 yX8_readKind yX8_readKind : Cond) ∈ sd_gd := sd_gd_in (sd_m0 (i := 9) (by decide +kernel)) rfl
theorem wS_X11_X11_spendNights : (.selects RX11 yX11_spendNights yX11_spendNights : Cond) ∈ sd_gd := sd_gd_in (sd_m0 (i := 10) (by decide +kernel)) rfl
theorem wS_X11_X11_ways : (.selects RX11 yX11_ways yX11_ways : Cond) ∈ sd_gd := sd_gd_in (sd_m0 (i := 11) (by decide +kernel)) rfl
theorem wS_X11_X11_kindsHeard : (.selects RX11 yX11_kindsHeard yX11_kindsHeard : Cond) ∈ sd_gd := sd_gd_in (sd_m0 (i := 12) (by decide +kernel)) rfl
theorem wS_X11_X11_isHeardAs : (.selects RX11 yX11_isHeardAs yX11_isHeardAs : Cond) ∈ sd_gd := sd_gd_in (sd_m0 (i := 13) (by decide +kernel)) rfl
theorem wS_X11_X11_dearsHeard : (.selects RX11 yX11_dearsHeard yX11_dearsHeard : Cond) ∈ sd_gd := sd_gd_in (sd_m0 (i := 14) (by decide +kernel)) rfl
theorem wS_X12_X12_isSleeper : (.selects RX12 yX12_isSleeper yX12_isSleeper : Cond) ∈ sd_gd := sd_gd_in (sd_m0 (i := 15) (by decide +kernel)) rfl
theorem wS_X12_X12_isThing : (.selects RX12 yX12_isThing yX12_isThing : Cond) ∈ sd_gd := sd_gd_in (sd_m0 (i := 16) (by decide +kernel)) rfl
theorem wS_X12_X12_isHouse : (.selects RX12 yX12_isHouse yX12_isHouse : Cond) ∈ sd_gd := sd_gd_in (sd_m0 (i := 17) (by decide +kernel)) rfl
theorem wS_X12_X12_isSleeperItem : (.selects RX12 yX12_isSleeperItem yX12_isSleeperItem : Cond) ∈ sd_gd := sd_gd_in (sd_m0 (i := 18) (by decide +kernel)) rfl
theorem wS_X12_X12_isDigit : (.selects RX12 yX12_isDigit yX12_isDigit : Cond) ∈ sd_gd := sd_gd_in (sd_m0 (i := 19) (by decide +kernel)) rfl
theorem wS_X12_X12_peek : (.selects RX12 yX12_peek yX12_peek : Cond) ∈ sd_gd := sd_gd_in (sd_m0 (i := 20) (by decide +kernel)) rfl
theorem wS_X12_X12_isSign : (.selects RX12 yX12_isSign yX12_isSign : Cond) ∈ sd_gd := sd_gd_in (sd_m0 (i := 21) (by decide +kernel)) rfl
theorem wS_X12_X12_isNumber : (.selects RX12 yX12_isNumber yX12_isNumber : Cond) ∈ sd_gd := sd_gd_in (sd_m0 (i := 22) (by decide +kernel)) rfl
theorem wS_X12_X12_isThingItem : (.selects RX12 yX12_isThingItem yX12_isThingItem : Cond) ∈ sd_gd := sd_gd_in (sd_m0 (i := 23) (by decide +kernel)) rfl
theorem wS_X12_X12_note : (.selects RX12 yX12_note yX12_note : Cond) ∈ sd_gd := sd_gd_in (sd_m0 (i := 24) (by decide +kernel)) rfl
theorem wS_X12_X12_goOn : (.selects RX12 yX12_goOn yX12_goOn : Cond) ∈ sd_gd := sd_gd_in (sd_m0 (i := 25) (by decide +kernel)) rfl
theorem wS_X12_X12_begin : (.selects RX12 yX12_begin yX12_begin : Cond) ∈ sd_gd := sd_gd_in (sd_m0 (i := 26) (by decide +kernel)) rfl
theorem wS_X12_X12_wokenOn : (.selects RX12 yX12_wokenOn yX12_wokenOn : Cond) ∈ sd_gd := sd_gd_in (sd_m0 (i := 27) (by decide +kernel)) rfl
theorem wS_X12_X12_wrong : (.selects RX12 yX12_wrong yX12_wrong : Cond) ∈ sd_gd := sd_gd_in (sd_m0 (i := 28) (by decide +kernel)) rfl
theorem wZ_L : (.initialized RL : Cond) ∈ sd_gd := sd_gd_in (sd_m1 (i := 0) (by decide +kernel)) rfl
theorem wZ_X11 : (.initialized RX11 : Cond) ∈ sd_gd := sd_gd_in (sd_m1 (i := 1) (by decide +kernel)) rfl
theorem wZ_X2 : (.initialized RX2 : Cond) ∈ sd_gd := sd_gd_in (sd_m1 (i := 2) (by decide +kernel)) rfl
theorem wZ_X7 : (.initialized RX7 : Cond) ∈ sd_gd := sd_gd_in (sd_m1 (i := 3) (by decide +kernel)) rfl
theorem wZ_X1 : (.initialized RX1 : Cond) ∈ sd_gd := sd_gd_in (sd_m1 (i := 4) (by decide +kernel)) rfl
theorem wZ_X0 : (.initialized RX0 : Cond) ∈ sd_gd := sd_gd_in (sd_m1 (i := 5) (by decide +kernel)) rfl
theorem wZ_X10 : (.initialized RX10 : Cond) ∈ sd_gd := sd_gd_in (sd_m1 (i := 6) (by decide +kernel)) rfl
theorem wZ_X3 : (.initialized RX3 : Cond) ∈ sd_gd := sd_gd_in (sd_m1 (i := 7) (by decide +kernel)) rfl
theorem wZ_X4 : (.initialized RX4 : Cond) ∈ sd_gd := sd_gd_in (sd_m1 (i := 8) (by decide +kernel)) rfl
theorem wZ_X6 : (.initialized RX6 : Cond) ∈ sd_gd := sd_gd_in (sd_m1 (i := 9) (by decide +kernel)) rfl
theorem wZ_X8 : (.initialized RX8 : Cond) ∈ sd_gd := sd_gd_in (sd_m1 (i := 10) (by decide +kernel)) rfl
theorem wZ_X5 : (.initialized RX5 : Cond) ∈ sd_gd := sd_gd_in (sd_m1 (i := 11) (by decide +kernel)) rfl
theorem wZ_X9 : (.initialized RX9 : Cond) ∈ sd_gd := sd_gd_in (sd_m1 (i := 12) (by decide +kernel)) rfl
theorem wZ_X12 : (.initialized RX12 : Cond) ∈ sd_gd := sd_gd_in (sd_m1 (i := 13) (by decide +kernel)) rfl
theorem wZ_J9 : (.initialized RJ9 : Cond) ∈ sd_gd := sd_gd_in (sd_m1 (i := 14) (by decide +kernel)) rfl
theorem wZ_J0 : (.initialized RJ0 : Cond) ∈ sd_gd := sd_gd_in (sd_m1 (i := 15) (by decide +kernel)) rfl
theorem wZ_J1 : (.initialized RJ1 : Cond) ∈ sd_gd := sd_gd_in (sd_m1 (i := 16) (by decide +kernel)) rfl
theorem wZ_J2 : (.initialized RJ2 : Cond) ∈ sd_gd := sd_gd_in (sd_m1 (i := 17) (by decide +kernel)) rfl
theorem wZ_J3 : (.initialized RJ3 : Cond) ∈ sd_gd := sd_gd_in (sd_m1 (i := 18) (by decide +kernel)) rfl
theorem wZ_J11 : (.initialized RJ11 : Cond) ∈ sd_gd := sd_gd_in (sd_m1 (i := 19) (by decide +kernel)) rfl
theorem wZ_J10 : (.initialized RJ10 : Cond) ∈ sd_gd := sd_gd_in (sd_m1 (i := 20) (by decide +kernel)) rfl
theorem wZ_J6 : (.initialized RJ6 : Cond) ∈ sd_gd := sd_gd_in (sd_m1 (i := 21) (by decide +kernel)) rfl
theorem wL_L_7 : (.classLink RL 7 RX11 : Cond) ∈ sd_gd := sd_gd_in (sd_m1 (i := 22) (by decide +kernel)) rfl
theorem wB_X11 : (.instantiable RX11 9 : Cond) ∈ sd_gd := sd_gd_in (sd_m1 (i := 23) (by decide +kernel)) rfl
theorem wM_L_9 : (.methodLink RL 9 yX11_init : Cond) ∈ sd_gd := sd_gd_in (sd_m1 (i := 24) (by decide +kernel)) rfl
theorem wI_X11_init : (.instanceMethod yX11_init : Cond) ∈ sd_gd := sd_gd_in (sd_m1 (i := 25) (by decide +kernel)) rfl
theorem wC_X11_init : (.code yX11_init cX11_init 1 none : Cond) ∈ sd_gd := sd_gd_in (sd_m1 (i := 26) (by decide +kernel)) rfl
theorem wM_X11_1 : (.methodLink RX11 1 Lib.objectInit : Cond) ∈ sd_gd := sd_gd_in (sd_m1 (i := 27) (by decide +kernel)) rfl
theorem wI_obj : (.instanceMethod Lib.objectInit : Cond) ∈ sd_gd := sd_gd_in (sd_m1 (i := 28) (by decide +kernel)) rfl
theorem wC_obj : (.code Lib.objectInit ⟨#[0xb1]⟩ 1 none : Cond) ∈ sd_gd := sd_gd_in (sd_m1 (i := 29) (by decide +kernel)) rfl
theorem wL_X11_7 : (.classLink RX11 7 RX2 : Cond) ∈ sd_gd := sd_gd_in (sd_m1 (i := 30) (by decide +kernel)) rfl
theorem wB_X2 : (.instantiable RX2 9 : Cond) ∈ sd_gd := sd_gd_in (sd_m1 (i := 31) (by decide +kernel)) rfl
theorem wI_X2_init : (.instanceMethod yX2_init : Cond) ∈ sd_gd := sd_gd_in (sd_m1 (i := 33) (by decide +kernel)) rfl
theorem wC_X2_init : (.code yX2_init cX2_init 1 none : Cond) ∈ sd_gd := sd_gd_in (sd_m1 (i := 34) (by decide +kernel)) rfl
theorem wM_X2_3 : (.methodLink RX2 3 Lib.objectInit : Cond) ∈ sd_gd := sd_gd_in (sd_m1 (i := 35) (by decide +kernel)) rfl
theorem wL_X2_9 : (.classLink RX2 9 RX7 : Cond) ∈ sd_gd := sd_gd_in (sd_m1 (i := 36) (by decide +kernel)) rfl
theorem wB_X7 : (.instantiable RX7 0 : Cond) ∈ sd_gd := sd_gd_in (sd_m1 (i := 38) (by decide +kernel)) rfl
theorem wI_X7_init : (.instanceMethod yX7_init : Cond) ∈ sd_gd := sd_gd_in (sd_m1 (i := 40) (by decide +kernel)) rfl
theorem wC_X7_init : (.code yX7_init cX7_init 1 none : Cond) ∈ sd_gd := sd_gd_in (sd_m1 (i := 41) (by decide +kernel)) rfl
theorem wM_X7_1 : (.methodLink RX7 1 Lib.objectInit : Cond) ∈ sd_gd := sd_gd_in (sd_m1 (i := 42) (by decide +kernel)) rfl
theorem wL_X2_12 : (.classLink RX2 12 RX1 : Cond) ∈ sd_gd := sd_gd_in (sd_m1 (i := 44) (by decide +kernel)) rfl
theorem wB_X1 : (.instantiable RX1 0 : Cond) ∈ sd_gd := sd_gd_in (sd_m1 (i := 45) (by decide +kernel)) rfl
theorem wI_X1_init : (.instanceMethod yX1_init : Cond) ∈ sd_gd := sd_gd_in (sd_m1 (i := 47) (by decide +kernel)) rfl
theorem wC_X1_init : (.code yX1_init cX1_init 1 none : Cond) ∈ sd_gd := sd_gd_in (sd_m1 (i := 48) (by decide +kernel)) rfl
theorem wU_X1 : (.superclass RX1 RX7 : Cond) ∈ sd_gd := sd_gd_in (sd_m1 (i := 50) (by decide +kernel)) rfl
theorem wL_X2_15 : (.classLink RX2 15 RX0 : Cond) ∈ sd_gd := sd_gd_in (sd_m1 (i := 51) (by decide +kernel)) rfl
theorem wB_X0 : (.instantiable RX0 0 : Cond) ∈ sd_gd := sd_gd_in (sd_m1 (i := 52) (by decide +kernel)) rfl
theorem wI_X0_init : (.instanceMethod yX0_init : Cond) ∈ sd_gd := sd_gd_in (sd_m1 (i := 54) (by decide +kernel)) rfl
theorem wC_X0_init : (.code yX0_init cX0_init 1 none : Cond) ∈ sd_gd := sd_gd_in (sd_m1 (i := 55) (by decide +kernel)) rfl
theorem wU_X0 : (.superclass RX0 RX7 : Cond) ∈ sd_gd := sd_gd_in (sd_m1 (i := 57) (by decide +kernel)) rfl
theorem wL_X2_18 : (.classLink RX2 18 RX10 : Cond) ∈ sd_gd := sd_gd_in (sd_m1 (i := 58) (by decide +kernel)) rfl
theorem wB_X10 : (.instantiable RX10 0 : Cond) ∈ sd_gd := sd_gd_in (sd_m1 (i := 59) (by decide +kernel)) rfl
theorem wI_X10_init : (.instanceMethod yX10_init : Cond) ∈ sd_gd := sd_gd_in (sd_m1 (i := 61) (by decide +kernel)) rfl
theorem wC_X10_init : (.code yX10_init cX10_init 1 none : Cond) ∈ sd_gd := sd_gd_in (sd_m1 (i := 62) (by decide +kernel)) rfl
theorem wU_X10 : (.superclass RX10 RX1 : Cond) ∈ sd_gd := sd_gd_in (sd_m1 (i := 64) (by decide +kernel)) rfl
theorem wL_X2_21 : (.classLink RX2 21 RX3 : Cond) ∈ sd_gd := sd_gd_in (sd_m1 (i := 65) (by decide +kernel)) rfl
theorem wB_X3 : (.instantiable RX3 0 : Cond) ∈ sd_gd := sd_gd_in (sd_m1 (i := 66) (by decide +kernel)) rfl
theorem wI_X3_init : (.instanceMethod yX3_init : Cond) ∈ sd_gd := sd_gd_in (sd_m1 (i := 68) (by decide +kernel)) rfl
theorem wC_X3_init : (.code yX3_init cX3_init 1 none : Cond) ∈ sd_gd := sd_gd_in (sd_m1 (i := 69) (by decide +kernel)) rfl
theorem wU_X3 : (.superclass RX3 RX0 : Cond) ∈ sd_gd := sd_gd_in (sd_m1 (i := 71) (by decide +kernel)) rfl
theorem wL_X2_46 : (.classLink RX2 46 RX4 : Cond) ∈ sd_gd := sd_gd_in (sd_m1 (i := 72) (by decide +kernel)) rfl
theorem wB_X4 : (.instantiable RX4 7 : Cond) ∈ sd_gd := sd_gd_in (sd_m1 (i := 73) (by decide +kernel)) rfl
theorem wI_X4_init : (.instanceMethod yX4_init : Cond) ∈ sd_gd := sd_gd_in (sd_m1 (i := 75) (by decide +kernel)) rfl
theorem wC_X4_init : (.code yX4_init cX4_init 1 none : Cond) ∈ sd_gd := sd_gd_in (sd_m1 (i := 76) (by decide +kernel)) rfl
theorem wM_X4_3 : (.methodLink RX4 3 Lib.objectInit : Cond) ∈ sd_gd := sd_gd_in (sd_m1 (i := 77) (by decide +kernel)) rfl
theorem wF_X4_9 : (.fieldLink RX4 9 "ThankingGifts$Moment" "place" "[I" : Cond) ∈ sd_gd := sd_gd_in (sd_m1 (i := 78) (by decide +kernel)) rfl
theorem wF_X5_41 : (.fieldLink RX5 41 "ThankingGifts$Moment" "place" "[I" : Cond) ∈ sd_gd := sd_gd_in (sd_m1 (i := 79) (by decide +kernel)) rfl
theorem wF_X2_85 : (.fieldLink RX2 85 "ThankingGifts$Moment" "place" "[I" : Cond) ∈ sd_gd := sd_gd_in (sd_m1 (i := 80) (by decide +kernel)) rfl
theorem wF_X11_122 : (.fieldLink RX11 122 "ThankingGifts$Moment" "place" "[I" : Cond) ∈ sd_gd := sd_gd_in (sd_m1 (i := 81) (by decide +kernel)) rfl
theorem wF_X4_15 : (.fieldLink RX4 15 "ThankingGifts$Moment" "giver" "[I" : Cond) ∈ sd_gd := sd_gd_in (sd_m1 (i := 82) (by decide +kernel)) rfl
theorem wF_X2_82 : (.fieldLink RX2 82 "ThankingGifts$Moment" "giver" "[I" : Cond) ∈ sd_gd := sd_gd_in (sd_m1 (i := 83) (by decide +kernel)) rfl
theorem wF_X11_116 : (.fieldLink RX11 116 "ThankingGifts$Moment" "giver" "[I" : Cond) ∈ sd_gd := sd_gd_in (sd_m1 (i := 84) (by decide +kernel)) rfl
theorem wF_X4_18 : (.fieldLink RX4 18 "ThankingGifts$Moment" "left" "[I" : Cond) ∈ sd_gd := sd_gd_in (sd_m1 (i := 85) (by decide +kernel)) rfl
theorem wF_X5_50 : (.fieldLink RX5 50 "ThankingGifts$Moment" "left" "[I" : Cond) ∈ sd_gd := sd_gd_in (sd_m1 (i := 86) (by decide +kernel)) rfl
theorem wF_X2_88 : (.fieldLink RX2 88 "ThankingGifts$Moment" "left" "[I" : Cond) ∈ sd_gd := sd_gd_in (sd_m1 (i := 87) (by decide +kernel)) rfl
theorem wF_X11_125 : (.fieldLink RX11 125 "ThankingGifts$Moment" "left" "[I" : Cond) ∈ sd_gd := sd_gd_in (sd_m1 (i := 88) (by decide +kernel)) rfl
theorem wF_X4_21 : (.fieldLink RX4 21 "ThankingGifts$Moment" "slept" "[I" : Cond) ∈ sd_gd := sd_gd_in (sd_m1 (i := 89) (by decide +kernel)) rfl
theorem wF_X2_76 : (.fieldLink RX2 76 "ThankingGifts$Moment" "slept" "[I" : Cond) ∈ sd_gd := sd_gd_in (sd_m1 (i := 90) (by decide +kernel)) rfl
theorem wF_X11_96 : (.fieldLink RX11 96 "ThankingGifts$Moment" "slept" "[I" : Cond) ∈ sd_gd := sd_gd_in (sd_m1 (i := 91) (by decide +kernel)) rfl
theorem wF_X4_24 : (.fieldLink RX4 24 "ThankingGifts$Moment" "woken" "[I" : Cond) ∈ sd_gd := sd_gd_in (sd_m1 (i := 92) (by decide +kernel)) rfl
theorem wF_X2_79 : (.fieldLink RX2 79 "ThankingGifts$Moment" "woken" "[I" : Cond) ∈ sd_gd := sd_gd_in (sd_m1 (i := 93) (by decide +kernel)) rfl
theorem wF_X11_101 : (.fieldLink RX11 101 "ThankingGifts$Moment" "woken" "[I" : Cond) ∈ sd_gd := sd_gd_in (sd_m1 (i := 94) (by decide +kernel)) rfl
theorem wF_X4_37 : (.fieldLink RX4 37 "ThankingGifts$Moment" "night" "I" : Cond) ∈ sd_gd := sd_gd_in (sd_m1 (i := 95) (by decide +kernel)) rfl
theorem wF_X2_70 : (.fieldLink RX2 70 "ThankingGifts$Moment" "night" "I" : Cond) ∈ sd_gd := sd_gd_in (sd_m1 (i := 96) (by decide +kernel)) rfl
theorem wF_X11_168 : (.fieldLink RX11 168 "ThankingGifts$Moment" "night" "I" : Cond) ∈ sd_gd := sd_gd_in (sd_m1 (i := 97) (by decide +kernel)) rfl
theorem wF_X4_27 : (.fieldLink RX4 27 "ThankingGifts$Moment" "draw" "I" : Cond) ∈ sd_gd := sd_gd_in (sd_m1 (i := 98) (by decide +kernel)) rfl
theorem wF_X2_73 : (.fieldLink RX2 73 "ThankingGifts$Moment" "draw" "I" : Cond) ∈ sd_gd := sd_gd_in (sd_m1 (i := 99) (by decide +kernel)) rfl
theorem wF_X11_149 : (.fieldLink RX11 149 "ThankingGifts$Moment" "draw" "I" : Cond) ∈ sd_gd := sd_gd_in (sd_m1 (i := 100) (by decide +kernel)) rfl
theorem wY_int : (.arrayClass .int : Cond) ∈ sd_gd := sd_gd_in (sd_m1 (i := 116) (by decide +kernel)) rfl
theorem wF_X2_24 : (.fieldLink RX2 24 "ThankingGifts$House" "kinds" "[LThankingGifts$Plain;" : Cond) ∈ sd_gd := sd_gd_in (sd_m1 (i := 117) (by decide +kernel)) rfl
theorem wF_X2_30 : (.fieldLink RX2 30 "ThankingGifts$House" "bed" "[I" : Cond) ∈ sd_gd := sd_gd_in (sd_m1 (i := 118) (by decide +kernel)) rfl
theorem wF_X11_85 : (.fieldLink RX11 85 "ThankingGifts$House" "bed" "[I" : Cond) ∈ sd_gd := sd_gd_in (sd_m1 (i := 119) (by decide +kernel)) rfl
theorem wF_X5_78 : (.fieldLink RX5 78 "ThankingGifts$House" "bed" "[I" : Cond) ∈ sd_gd := sd_gd_in (sd_m1 (i := 120) (by decide +kernel)) rfl
theorem wF_X2_34 : (.fieldLink RX2 34 "ThankingGifts$House" "bears" "[I" : Cond) ∈ sd_gd := sd_gd_in (sd_m1 (i := 121) (by decide +kernel)) rfl
theorem wF_X11_89 : (.fieldLink RX11 89 "ThankingGifts$House" "bears" "[I" : Cond) ∈ sd_gd := sd_gd_in (sd_m1 (i := 122) (by decide +kernel)) rfl
theorem wF_X5_81 : (.fieldLink RX5 81 "ThankingGifts$House" "bears" "[I" : Cond) ∈ sd_gd := sd_gd_in (sd_m1 (i := 123) (by decide +kernel)) rfl
theorem wF_X2_37 : (.fieldLink RX2 37 "ThankingGifts$House" "kind" "[I" : Cond) ∈ sd_gd := sd_gd_in (sd_m1 (i := 124) (by decide +kernel)) rfl
theorem wF_X5_57 : (.fieldLink RX5 57 "ThankingGifts$House" "kind" "[I" : Cond) ∈ sd_gd := sd_gd_in (sd_m1 (i := 125) (by decide +kernel)) rfl
theorem wF_X11_113 : (.fieldLink RX11 113 "ThankingGifts$House" "kind" "[I" : Cond) ∈ sd_gd := sd_gd_in (sd_m1 (i := 126) (by decide +kernel)) rfl
theorem wF_X2_40 : (.fieldLink RX2 40 "ThankingGifts$House" "dear" "[I" : Cond) ∈ sd_gd := sd_gd_in (sd_m1 (i := 127) (by decide +kernel)) rfl
theorem wF_X5_60 : (.fieldLink RX5 60 "ThankingGifts$House" "dear" "[I" : Cond) ∈ sd_gd := sd_gd_in (sd_m1 (i := 128) (by decide +kernel)) rfl
theorem wF_X11_119 : (.fieldLink RX11 119 "ThankingGifts$House" "dear" "[I" : Cond) ∈ sd_gd := sd_gd_in (sd_m1 (i := 129) (by decide +kernel)) rfl
theorem wF_X2_43 : (.fieldLink RX2 43 "ThankingGifts$House" "roomLoud" "[I" : Cond) ∈ sd_gd := sd_gd_in (sd_m1 (i := 130) (by decide +kernel)) rfl
theorem wF_X11_132 : (.fieldLink RX11 132 "ThankingGifts$House" "roomLoud" "[I" : Cond) ∈ sd_gd := sd_gd_in (sd_m1 (i := 131) (by decide +kernel)) rfl
theorem wF_X2_49 : (.fieldLink RX2 49 "ThankingGifts$House" "now" "LThankingGifts$Moment;" : Cond) ∈ sd_gd := sd_gd_in (sd_m1 (i := 132) (by decide +kernel)) rfl
theorem wF_X5_37 : (.fieldLink RX5 37 "ThankingGifts$House" "now" "LThankingGifts$Moment;" : Cond) ∈ sd_gd := sd_gd_in (sd_m1 (i := 133) (by decide +kernel)) rfl
theorem wF_X11_92 : (.fieldLink RX11 92 "ThankingGifts$House" "now" "LThankingGifts$Moment;" : Cond) ∈ sd_gd := sd_gd_in (sd_m1 (i := 134) (by decide +kernel)) rfl
theorem wF_X11_61 : (.fieldLink RX11 61 "ThankingGifts$House" "sleepers" "I" : Cond) ∈ sd_gd := sd_gd_in (sd_m1 (i := 135) (by decide +kernel)) rfl
theorem wF_X2_63 : (.fieldLink RX2 63 "ThankingGifts$House" "sleepers" "I" : Cond) ∈ sd_gd := sd_gd_in (sd_m1 (i := 136) (by decide +kernel)) rfl
theorem wF_X5_75 : (.fieldLink RX5 75 "ThankingGifts$House" "sleepers" "I" : Cond) ∈ sd_gd := sd_gd_in (sd_m1 (i := 137) (by decide +kernel)) rfl
theorem wF_X5_31 : (.fieldLink RX5 31 "ThankingGifts$House" "things" "I" : Cond) ∈ sd_gd := sd_gd_in (sd_m1 (i := 138) (by decide +kernel)) rfl
theorem wF_X2_67 : (.fieldLink RX2 67 "ThankingGifts$House" "things" "I" : Cond) ∈ sd_gd := sd_gd_in (sd_m1 (i := 139) (by decide +kernel)) rfl
theorem wF_X11_75 : (.fieldLink RX11 75 "ThankingGifts$House" "things" "I" : Cond) ∈ sd_gd := sd_gd_in (sd_m1 (i := 140) (by decide +kernel)) rfl
theorem wL_X11_16 : (.classLink RX11 16 RX6 : Cond) ∈ sd_gd := sd_gd_in (sd_m1 (i := 160) (by decide +kernel)) rfl
theorem wB_X6 : (.instantiable RX6 3 : Cond) ∈ sd_gd := sd_gd_in (sd_m1 (i := 161) (by decide +kernel)) rfl
theorem wM_X11_18 : (.methodLink RX11 18 yX6_init : Cond) ∈ sd_gd := sd_gd_in (sd_m1 (i := 162) (by decide +kernel)) rfl
theorem wI_X6_init : (.instanceMethod yX6_init : Cond) ∈ sd_gd := sd_gd_in (sd_m1 (i := 163) (by decide +kernel)) rfl
theorem wC_X6_init : (.code yX6_init cX6_init 2 none : Cond) ∈ sd_gd := sd_gd_in (sd_m1 (i := 164) (by decide +kernel)) rfl
theorem wM_X6_3 : (.methodLink RX6 3 Lib.objectInit : Cond) ∈ sd_gd := sd_gd_in (sd_m1 (i := 165) (by decide +kernel)) rfl
theorem wL_X6_9 : (.classLink RX6 9 RX4 : Cond) ∈ sd_gd := sd_gd_in (sd_m1 (i := 166) (by decide +kernel)) rfl
theorem wF_X6_11 : (.fieldLink RX6 11 "ThankingGifts$Past" "kept" "[LThankingGifts$Moment;" : Cond) ∈ sd_gd := sd_gd_in (sd_m1 (i := 169) (by decide +kernel)) rfl
theorem wF_X6_18 : (.fieldLink RX6 18 "ThankingGifts$Past" "next" "I" : Cond) ∈ sd_gd := sd_gd_in (sd_m1 (i := 170) (by decide +kernel)) rfl
theorem wF_X6_26 : (.fieldLink RX6 26 "ThankingGifts$Past" "known" "I" : Cond) ∈ sd_gd := sd_gd_in (sd_m1 (i := 171) (by decide +kernel)) rfl
theorem wF_X11_182 : (.fieldLink RX11 182 "ThankingGifts$Past" "known" "I" : Cond) ∈ sd_gd := sd_gd_in (sd_m1 (i := 172) (by decide +kernel)) rfl
theorem wL_X11_32 : (.classLink RX11 32 RX8 : Cond) ∈ sd_gd := sd_gd_in (sd_m1 (i := 180) (by decide +kernel)) rfl
theorem wB_X8 : (.instantiable RX8 3 : Cond) ∈ sd_gd := sd_gd_in (sd_m1 (i := 181) (by decide +kernel)) rfl
theorem wI_X8_init : (.instanceMethod yX8_init : Cond) ∈ sd_gd := sd_gd_in (sd_m1 (i := 183) (by decide +kernel)) rfl
theorem wC_X8_init : (.code yX8_init cX8_init 1 none : Cond) ∈ sd_gd := sd_gd_in (sd_m1 (i := 184) (by decide +kernel)) rfl
theorem wM_X8_3 : (.methodLink RX8 3 Lib.objectInit : Cond) ∈ sd_gd := sd_gd_in (sd_m1 (i := 185) (by decide +kernel)) rfl
theorem wF_X8_9 : (.fieldLink RX8 9 "ThankingGifts$Reader" "tape" "[C" : Cond) ∈ sd_gd := sd_gd_in (sd_m1 (i := 186) (by decide +kernel)) rfl
theorem wF_X8_15 : (.fieldLink RX8 15 "ThankingGifts$Reader" "length" "I" : Cond) ∈ sd_gd := sd_gd_in (sd_m1 (i := 187) (by decide +kernel)) rfl
theorem wF_X11_142 : (.fieldLink RX11 142 "ThankingGifts$Reader" "length" "I" : Cond) ∈ sd_gd := sd_gd_in (sd_m1 (i := 188) (by decide +kernel)) rfl
theorem wF_X8_19 : (.fieldLink RX8 19 "ThankingGifts$Reader" "place" "I" : Cond) ∈ sd_gd := sd_gd_in (sd_m1 (i := 189) (by decide +kernel)) rfl
theorem wF_X11_160 : (.fieldLink RX11 160 "ThankingGifts$Reader" "place" "I" : Cond) ∈ sd_gd := sd_gd_in (sd_m1 (i := 190) (by decide +kernel)) rfl
theorem wY_char : (.arrayClass .char : Cond) ∈ sd_gd := sd_gd_in (sd_m1 (i := 198) (by decide +kernel)) rfl
theorem wL_X11_39 : (.classLink RX11 39 RX5 : Cond) ∈ sd_gd := sd_gd_in (sd_m1 (i := 199) (by decide +kernel)) rfl
theorem wB_X5 : (.instantiable RX5 5 : Cond) ∈ sd_gd := sd_gd_in (sd_m1 (i := 200) (by decide +kernel)) rfl
theorem wI_X5_init : (.instanceMethod yX5_init : Cond) ∈ sd_gd := sd_gd_in (sd_m1 (i := 202) (by decide +kernel)) rfl
theorem wC_X5_init : (.code yX5_init cX5_init 1 none : Cond) ∈ sd_gd := sd_gd_in (sd_m1 (i := 203) (by decide +kernel)) rfl
theorem wM_X5_3 : (.methodLink RX5 3 Lib.objectInit : Cond) ∈ sd_gd := sd_gd_in (sd_m1 (i := 204) (by decide +kernel)) rfl
theorem wF_X5_9 : (.fieldLink RX5 9 "ThankingGifts$Outlook" "thingLoud" "[I" : Cond) ∈ sd_gd := sd_gd_in (sd_m1 (i := 205) (by decide +kernel)) rfl
theorem wF_X5_27 : (.fieldLink RX5 27 "ThankingGifts$Outlook" "nights" "I" : Cond) ∈ sd_gd := sd_gd_in (sd_m1 (i := 206) (by decide +kernel)) rfl
theorem wF_X5_36 : (.fieldLink RX5 36 "ThankingGifts$Outlook" "things" "I" : Cond) ∈ sd_gd := sd_gd_in (sd_m1 (i := 207) (by decide +kernel)) rfl
theorem wF_X5_15 : (.fieldLink RX5 15 "ThankingGifts$Outlook" "place" "[I" : Cond) ∈ sd_gd := sd_gd_in (sd_m1 (i := 208) (by decide +kernel)) rfl
theorem wF_X11_218 : (.fieldLink RX11 218 "ThankingGifts$Outlook" "place" "[I" : Cond) ∈ sd_gd := sd_gd_in (sd_m1 (i := 209) (by decide +kernel)) rfl
theorem wF_X5_18 : (.fieldLink RX5 18 "ThankingGifts$Outlook" "roomLoud" "[I" : Cond) ∈ sd_gd := sd_gd_in (sd_m1 (i := 210) (by decide +kernel)) rfl
theorem wF_X11_209 : (.fieldLink RX11 209 "ThankingGifts$Outlook" "roomLoud" "[I" : Cond) ∈ sd_gd := sd_gd_in (sd_m1 (i := 211) (by decide +kernel)) rfl
theorem wL_X11_46 : (.classLink RX11 46 RX9 : Cond) ∈ sd_gd := sd_gd_in (sd_m1 (i := 223) (by decide +kernel)) rfl
theorem wB_X9 : (.instantiable RX9 4 : Cond) ∈ sd_gd := sd_gd_in (sd_m1 (i := 225) (by decide +kernel)) rfl
theorem wI_X9_init : (.instanceMethod yX9_init : Cond) ∈ sd_gd := sd_gd_in (sd_m1 (i := 227) (by decide +kernel)) rfl
theorem wC_X9_init : (.code yX9_init cX9_init 1 none : Cond) ∈ sd_gd := sd_gd_in (sd_m1 (i := 228) (by decide +kernel)) rfl
theorem wM_X9_3 : (.methodLink RX9 3 Lib.objectInit : Cond) ∈ sd_gd := sd_gd_in (sd_m1 (i := 229) (by decide +kernel)) rfl
theorem wF_X9_9 : (.fieldLink RX9 9 "ThankingGifts$Sheet" "items" "[J" : Cond) ∈ sd_gd := sd_gd_in (sd_m1 (i := 230) (by decide +kernel)) rfl
theorem wF_X11_292 : (.fieldLink RX11 292 "ThankingGifts$Sheet" "items" "[J" : Cond) ∈ sd_gd := sd_gd_in (sd_m1 (i := 231) (by decide +kernel)) rfl
theorem wF_X9_15 : (.fieldLink RX9 15 "ThankingGifts$Sheet" "present" "Z" : Cond) ∈ sd_gd := sd_gd_in (sd_m1 (i := 232) (by decide +kernel)) rfl
theorem wF_X11_282 : (.fieldLink RX11 282 "ThankingGifts$Sheet" "present" "Z" : Cond) ∈ sd_gd := sd_gd_in (sd_m1 (i := 233) (by decide +kernel)) rfl
theorem wF_X9_19 : (.fieldLink RX9 19 "ThankingGifts$Sheet" "lane" "I" : Cond) ∈ sd_gd := sd_gd_in (sd_m1 (i := 234) (by decide +kernel)) rfl
theorem wF_X11_286 : (.fieldLink RX11 286 "ThankingGifts$Sheet" "lane" "I" : Cond) ∈ sd_gd := sd_gd_in (sd_m1 (i := 235) (by decide +kernel)) rfl
theorem wF_X9_23 : (.fieldLink RX9 23 "ThankingGifts$Sheet" "length" "I" : Cond) ∈ sd_gd := sd_gd_in (sd_m1 (i := 236) (by decide +kernel)) rfl
theorem wF_X11_285 : (.fieldLink RX11 285 "ThankingGifts$Sheet" "length" "I" : Cond) ∈ sd_gd := sd_gd_in (sd_m1 (i := 237) (by decide +kernel)) rfl
theorem wY_long : (.arrayClass .long : Cond) ∈ sd_gd := sd_gd_in (sd_m2 (i := 7) (by decide +kernel)) rfl
theorem wF_X11_10 : (.fieldLink RX11 10 "ThankingGifts" "house" "LThankingGifts$House;" : Cond) ∈ sd_gd := sd_gd_in (sd_m2 (i := 8) (by decide +kernel)) rfl
theorem wF_X11_19 : (.fieldLink RX11 19 "ThankingGifts" "past" "LThankingGifts$Past;" : Cond) ∈ sd_gd := sd_gd_in (sd_m2 (i := 9) (by decide +kernel)) rfl
theorem wF_X11_23 : (.fieldLink RX11 23 "ThankingGifts" "imagedHouse" "LThankingGifts$House;" : Cond) ∈ sd_gd := sd_gd_in (sd_m2 (i := 10) (by decide +kernel)) rfl
theorem wF_X11_26 : (.fieldLink RX11 26 "ThankingGifts" "imagedPast" "LThankingGifts$Past;" : Cond) ∈ sd_gd := sd_gd_in (sd_m2 (i := 11) (by decide +kernel)) rfl
theorem wF_X11_255 : (.fieldLink RX11 255 "ThankingGifts" "imaged" "Z" : Cond) ∈ sd_gd := sd_gd_in (sd_m2 (i := 12) (by decide +kernel)) rfl
theorem wF_X11_29 : (.fieldLink RX11 29 "ThankingGifts" "draft" "LThankingGifts$House;" : Cond) ∈ sd_gd := sd_gd_in (sd_m2 (i := 13) (by decide +kernel)) rfl
theorem wF_X11_35 : (.fieldLink RX11 35 "ThankingGifts" "reader" "LThankingGifts$Reader;" : Cond) ∈ sd_gd := sd_gd_in (sd_m2 (i := 14) (by decide +kernel)) rfl
theorem wF_X11_42 : (.fieldLink RX11 42 "ThankingGifts" "outlook" "LThankingGifts$Outlook;" : Cond) ∈ sd_gd := sd_gd_in (sd_m2 (i := 15) (by decide +kernel)) rfl
theorem wF_X11_49 : (.fieldLink RX11 49 "ThankingGifts" "sheets" "[LThankingGifts$Sheet;" : Cond) ∈ sd_gd := sd_gd_in (sd_m2 (i := 16) (by decide +kernel)) rfl
theorem wM_L_13 : (.methodLink RL 13 yX11_sleeper : Cond) ∈ sd_gd := sd_gd_in (sd_m2 (i := 36) (by decide +kernel)) rfl
theorem wI_X11_sleeper : (.instanceMethod yX11_sleeper : Cond) ∈ sd_gd := sd_gd_in (sd_m2 (i := 37) (by decide +kernel)) rfl
theorem wS_X11_X11_sleeper : (.selects RX11 yX11_sleeper yX11_sleeper : Cond) ∈ sd_gd := sd_gd_in (sd_m2 (i := 38) (by decide +kernel)) rfl
theorem wC_X11_sleeper : (.code yX11_sleeper cX11_sleeper 3 (some .int) : Cond) ∈ sd_gd := sd_gd_in (sd_m2 (i := 39) (by decide +kernel)) rfl
theorem wM_X11_53 : (.methodLink RX11 53 yX11_isRoom : Cond) ∈ sd_gd := sd_gd_in (sd_m2 (i := 40) (by decide +kernel)) rfl
theorem wT_X11_isRoom : (.static yX11_isRoom : Cond) ∈ sd_gd := sd_gd_in (sd_m2 (i := 41) (by decide +kernel)) rfl
theorem wC_X11_isRoom : (.code yX11_isRoom cX11_isRoom 1 (some .boolean) : Cond) ∈ sd_gd := sd_gd_in (sd_m2 (i := 42) (by decide +kernel)) rfl
theorem wM_X11_57 : (.methodLink RX11 57 yX11_within : Cond) ∈ sd_gd := sd_gd_in (sd_m2 (i := 43) (by decide +kernel)) rfl
theorem wT_X11_within : (.static yX11_within : Cond) ∈ sd_gd := sd_gd_in (sd_m2 (i := 44) (by decide +kernel)) rfl
theorem wC_X11_within : (.code yX11_within cX11_within 3 (some .boolean) : Cond) ∈ sd_gd := sd_gd_in (sd_m2 (i := 45) (by decide +kernel)) rfl
theorem wM_X11_65 : (.methodLink RX11 65 yX6_forget : Cond) ∈ sd_gd := sd_gd_in (sd_m2 (i := 46) (by decide +kernel)) rfl
theorem wI_X6_forget : (.instanceMethod yX6_forget : Cond) ∈ sd_gd := sd_gd_in (sd_m2 (i := 47) (by decide +kernel)) rfl
theorem wS_X6_X6_forget : (.selects RX6 yX6_forget yX6_forget : Cond) ∈ sd_gd := sd_gd_in (sd_m2 (i := 48) (by decide +kernel)) rfl
theorem wC_X6_forget : (.code yX6_forget cX6_forget 1 none : Cond) ∈ sd_gd := sd_gd_in (sd_m2 (i := 49) (by decide +kernel)) rfl
theorem wM_X11_68 : (.methodLink RX11 68 yX2_addSleeper : Cond) ∈ sd_gd := sd_gd_in (sd_m2 (i := 50) (by decide +kernel)) rfl
theorem wI_X2_addSleeper : (.instanceMethod yX2_addSleeper : Cond) ∈ sd_gd := sd_gd_in (sd_m2 (i := 51) (by decide +kernel)) rfl
theorem wS_X2_X2_addSleeper : (.selects RX2 yX2_addSleeper yX2_addSleeper : Cond) ∈ sd_gd := sd_gd_in (sd_m2 (i := 52) (by decide +kernel)) rfl
theorem wC_X2_addSleeper : (.code yX2_addSleeper cX2_addSleeper 3 none : Cond) ∈ sd_gd := sd_gd_in (sd_m2 (i := 53) (by decide +kernel)) rfl
theorem wM_L_18 : (.methodLink RL 18 yX11_thing : Cond) ∈ sd_gd := sd_gd_in (sd_m2 (i := 54) (by decide +kernel)) rfl
theorem wI_X11_thing : (.instanceMethod yX11_thing : Cond) ∈ sd_gd := sd_gd_in (sd_m2 (i := 55) (by decide +kernel)) rfl
theorem wS_X11_X11_thing : (.selects RX11 yX11_thing yX11_thing : Cond) ∈ sd_gd := sd_gd_in (sd_m2 (i := 56) (by decide +kernel)) rfl
theorem wC_X11_thing : (.code yX11_thing cX11_thing 5 (some .int) : Cond) ∈ sd_gd := sd_gd_in (sd_m2 (i := 57) (by decide +kernel)) rfl
theorem wM_X11_72 : (.methodLink RX11 72 yX11_isGiver : Cond) ∈ sd_gd := sd_gd_in (sd_m2 (i := 58) (by decide +kernel)) rfl
theorem wT_X11_isGiver : (.static yX11_isGiver : Cond) ∈ sd_gd := sd_gd_in (sd_m2 (i := 59) (by decide +kernel)) rfl
theorem wC_X11_isGiver : (.code yX11_isGiver cX11_isGiver 1 (some .boolean) : Cond) ∈ sd_gd := sd_gd_in (sd_m2 (i := 60) (by decide +kernel)) rfl
theorem wM_X11_78 : (.methodLink RX11 78 yX2_addThing : Cond) ∈ sd_gd := sd_gd_in (sd_m2 (i := 61) (by decide +kernel)) rfl
theorem wI_X2_addThing : (.instanceMethod yX2_addThing : Cond) ∈ sd_gd := sd_gd_in (sd_m2 (i := 62) (by decide +kernel)) rfl
theorem wS_X2_X2_addThing : (.selects RX2 yX2_addThing yX2_addThing : Cond) ∈ sd_gd := sd_gd_in (sd_m2 (i := 63) (by decide +kernel)) rfl
theorem wC_X2_addThing : (.code yX2_addThing cX2_addThing 5 none : Cond) ∈ sd_gd := sd_gd_in (sd_m2 (i := 64) (by decide +kernel)) rfl
theorem wT_X11_leftAtFirst : (.static yX11_leftAtFirst : Cond) ∈ sd_gd := sd_gd_in (sd_m2 (i := 66) (by decide +kernel)) rfl
theorem wC_X11_leftAtFirst : (.code yX11_leftAtFirst cX11_leftAtFirst 1 (some .int) : Cond) ∈ sd_gd := sd_gd_in (sd_m2 (i := 67) (by decide +kernel)) rfl
theorem wM_X11_312 : (.methodLink RX11 312 yJ9_min_7cf53 : Cond) ∈ sd_gd := sd_gd_in (sd_m2 (i := 68) (by decide +kernel)) rfl
theorem wT_J9_min_7cf53 : (.static yJ9_min_7cf53 : Cond) ∈ sd_gd := sd_gd_in (sd_m2 (i := 69) (by decide +kernel)) rfl
theorem wC_J9_min_7cf53 : (.code yJ9_min_7cf53 cJ9_min_7cf53 2 (some .int) : Cond) ∈ sd_gd := sd_gd_in (sd_m2 (i := 70) (by decide +kernel)) rfl
theorem wM_L_23 : (.methodLink RL 23 yX11_of : Cond) ∈ sd_gd := sd_gd_in (sd_m2 (i := 71) (by decide +kernel)) rfl
theorem wI_X11_of : (.instanceMethod yX11_of : Cond) ∈ sd_gd := sd_gd_in (sd_m2 (i := 72) (by decide +kernel)) rfl
theorem wS_X11_X11_of : (.selects RX11 yX11_of yX11_of : Cond) ∈ sd_gd := sd_gd_in (sd_m2 (i := 73) (by decide +kernel)) rfl
theorem wC_X11_of : (.code yX11_of cX11_of 3 (some .int) : Cond) ∈ sd_gd := sd_gd_in (sd_m2 (i := 74) (by decide +kernel)) rfl
theorem wM_X11_82 : (.methodLink RX11 82 yX2_hasSleeper : Cond) ∈ sd_gd := sd_gd_in (sd_m2 (i := 75) (by decide +kernel)) rfl
theorem wI_X2_hasSleeper : (.instanceMethod yX2_hasSleeper : Cond) ∈ sd_gd := sd_gd_in (sd_m2 (i := 76) (by decide +kernel)) rfl
theorem wS_X2_X2_hasSleeper : (.selects RX2 yX2_hasSleeper yX2_hasSleeper : Cond) ∈ sd_gd := sd_gd_in (sd_m2 (i := 77) (by decide +kernel)) rfl
theorem wC_X2_hasSleeper : (.code yX2_hasSleeper cX2_hasSleeper 2 (some .boolean) : Cond) ∈ sd_gd := sd_gd_in (sd_m2 (i := 78) (by decide +kernel)) rfl
theorem wM_X11_104 : (.methodLink RX11 104 yX2_listen : Cond) ∈ sd_gd := sd_gd_in (sd_m2 (i := 80) (by decide +kernel)) rfl
theorem wI_X2_listen : (.instanceMethod yX2_listen : Cond) ∈ sd_gd := sd_gd_in (sd_m2 (i := 81) (by decide +kernel)) rfl
theorem wS_X2_X2_listen : (.selects RX2 yX2_listen yX2_listen : Cond) ∈ sd_gd := sd_gd_in (sd_m2 (i := 82) (by decide +kernel)) rfl
theorem wC_X2_listen : (.code yX2_listen cX2_listen 2 none : Cond) ∈ sd_gd := sd_gd_in (sd_m2 (i := 83) (by decide +kernel)) rfl
theorem wM_X2_111 : (.methodLink RX2 111 yX2_loudWith : Cond) ∈ sd_gd := sd_gd_in (sd_m2 (i := 84) (by decide +kernel)) rfl
theorem wI_X2_loudWith : (.instanceMethod yX2_loudWith : Cond) ∈ sd_gd := sd_gd_in (sd_m2 (i := 85) (by decide +kernel)) rfl
theorem wS_X2_X2_loudWith : (.selects RX2 yX2_loudWith yX2_loudWith : Cond) ∈ sd_gd := sd_gd_in (sd_m2 (i := 86) (by decide +kernel)) rfl
theorem wC_X2_loudWith : (.code yX2_loudWith cX2_loudWith 4 (some .int) : Cond) ∈ sd_gd := sd_gd_in (sd_m2 (i := 87) (by decide +kernel)) rfl
theorem wM_X2_103 : (.methodLink RX2 103 yX7_loudness : Cond) ∈ sd_gd := sd_gd_in (sd_m2 (i := 88) (by decide +kernel)) rfl
theorem wI_X7_loudness : (.instanceMethod yX7_loudness : Cond) ∈ sd_gd := sd_gd_in (sd_m2 (i := 89) (by decide +kernel)) rfl
theorem wS_X7_X7_loudness : (.selects RX7 yX7_loudness yX7_loudness : Cond) ∈ sd_gd := sd_gd_in (sd_m2 (i := 90) (by decide +kernel)) rfl
theorem wA_X7_loudness : (.sameMethod "ThankingGifts$Plain" "ThankingGifts$Plain" "loudness" "(II)I" : Cond) ∈ sd_gd := sd_gd_in (sd_m2 (i := 91) (by decide +kernel)) rfl
theorem wS_X0_X7_loudness : (.selects RX0 yX7_loudness yX7_loudness : Cond) ∈ sd_gd := sd_gd_in (sd_m2 (i := 92) (by decide +kernel)) rfl
theorem wS_X1_X7_loudness : (.selects RX1 yX7_loudness yX1_loudness : Cond) ∈ sd_gd := sd_gd_in (sd_m2 (i := 93) (by decide +kernel)) rfl
theorem wI_X1_loudness : (.instanceMethod yX1_loudness : Cond) ∈ sd_gd := sd_gd_in (sd_m2 (i := 94) (by decide +kernel)) rfl
theorem wC_X1_loudness : (.code yX1_loudness cX1_loudness 3 (some .int) : Cond) ∈ sd_gd := sd_gd_in (sd_m2 (i := 95) (by decide +kernel)) rfl
theorem wS_X3_X7_loudness : (.selects RX3 yX7_loudness yX3_loudness : Cond) ∈ sd_gd := sd_gd_in (sd_m2 (i := 96) (by decide +kernel)) rfl
theorem wI_X3_loudness : (.instanceMethod yX3_loudness : Cond) ∈ sd_gd := sd_gd_in (sd_m2 (i := 97) (by decide +kernel)) rfl
theorem wC_X3_loudness : (.code yX3_loudness cX3_loudness 3 (some .int) : Cond) ∈ sd_gd := sd_gd_in (sd_m2 (i := 98) (by decide +kernel)) rfl
theorem wS_X10_X7_loudness : (.selects RX10 yX7_loudness yX10_loudness : Cond) ∈ sd_gd := sd_gd_in (sd_m2 (i := 99) (by decide +kernel)) rfl
theorem wI_X10_loudness : (.instanceMethod yX10_loudness : Cond) ∈ sd_gd := sd_gd_in (sd_m2 (i := 100) (by decide +kernel)) rfl
theorem wC_X10_loudness : (.code yX10_loudness cX10_loudness 3 (some .int) : Cond) ∈ sd_gd := sd_gd_in (sd_m2 (i := 101) (by decide +kernel)) rfl
theorem wM_X10_7 : (.methodLink RX10 7 yX1_loudness : Cond) ∈ sd_gd := sd_gd_in (sd_m2 (i := 102) (by decide +kernel)) rfl
theorem wC_X7_loudness : (.code yX7_loudness cX7_loudness 3 (some .int) : Cond) ∈ sd_gd := sd_gd_in (sd_m2 (i := 103) (by decide +kernel)) rfl
theorem wM_X11_107 : (.methodLink RX11 107 yX2_isAsleep : Cond) ∈ sd_gd := sd_gd_in (sd_m2 (i := 104) (by decide +kernel)) rfl
theorem wI_X2_isAsleep : (.instanceMethod yX2_isAsleep : Cond) ∈ sd_gd := sd_gd_in (sd_m2 (i := 105) (by decide +kernel)) rfl
theorem wS_X2_X2_isAsleep : (.selects RX2 yX2_isAsleep yX2_isAsleep : Cond) ∈ sd_gd := sd_gd_in (sd_m2 (i := 106) (by decide +kernel)) rfl
theorem wC_X2_isAsleep : (.code yX2_isAsleep cX2_isAsleep 2 (some .boolean) : Cond) ∈ sd_gd := sd_gd_in (sd_m2 (i := 107) (by decide +kernel)) rfl
theorem wM_L_27 : (.methodLink RL 27 yX11_gift : Cond) ∈ sd_gd := sd_gd_in (sd_m2 (i := 108) (by decide +kernel)) rfl
theorem wI_X11_gift : (.instanceMethod yX11_gift : Cond) ∈ sd_gd := sd_gd_in (sd_m2 (i := 109) (by decide +kernel)) rfl
theorem wS_X11_X11_gift : (.selects RX11 yX11_gift yX11_gift : Cond) ∈ sd_gd := sd_gd_in (sd_m2 (i := 110) (by decide +kernel)) rfl
theorem wC_X11_gift : (.code yX11_gift cX11_gift 3 (some .int) : Cond) ∈ sd_gd := sd_gd_in (sd_m2 (i := 111) (by decide +kernel)) rfl
theorem wM_X11_110 : (.methodLink RX11 110 yX2_hasThing : Cond) ∈ sd_gd := sd_gd_in (sd_m2 (i := 112) (by decide +kernel)) rfl
theorem wI_X2_hasThing : (.instanceMethod yX2_hasThing : Cond) ∈ sd_gd := sd_gd_in (sd_m2 (i := 113) (by decide +kernel)) rfl
theorem wS_X2_X2_hasThing : (.selects RX2 yX2_hasThing yX2_hasThing : Cond) ∈ sd_gd := sd_gd_in (sd_m2 (i := 114) (by decide +kernel)) rfl
theorem wC_X2_hasThing : (.code yX2_hasThing cX2_hasThing 2 (some .boolean) : Cond) ∈ sd_gd := sd_gd_in (sd_m2 (i := 115) (by decide +kernel)) rfl
theorem wM_X11_128 : (.methodLink RX11 128 yX2_loudWith : Cond) ∈ sd_gd := sd_gd_in (sd_m2 (i := 116) (by decide +kernel)) rfl
theorem wM_L_31 : (.methodLink RL 31 yX11_room : Cond) ∈ sd_gd := sd_gd_in (sd_m2 (i := 117) (by decide +kernel)) rfl
theorem wI_X11_room : (.instanceMethod yX11_room : Cond) ∈ sd_gd := sd_gd_in (sd_m2 (i := 118) (by decide +kernel)) rfl
theorem wS_X11_X11_room : (.selects RX11 yX11_room yX11_room : Cond) ∈ sd_gd := sd_gd_in (sd_m2 (i := 119) (by decide +kernel)) rfl
theorem wC_X11_room : (.code yX11_room cX11_room 3 (some .int) : Cond) ∈ sd_gd := sd_gd_in (sd_m2 (i := 120) (by decide +kernel)) rfl
theorem wM_X11_135 : (.methodLink RX11 135 yX2_thingsIn : Cond) ∈ sd_gd := sd_gd_in (sd_m2 (i := 121) (by decide +kernel)) rfl
theorem wI_X2_thingsIn : (.instanceMethod yX2_thingsIn : Cond) ∈ sd_gd := sd_gd_in (sd_m2 (i := 122) (by decide +kernel)) rfl
theorem wS_X2_X2_thingsIn : (.selects RX2 yX2_thingsIn yX2_thingsIn : Cond) ∈ sd_gd := sd_gd_in (sd_m2 (i := 123) (by decide +kernel)) rfl
theorem wC_X2_thingsIn : (.code yX2_thingsIn cX2_thingsIn 2 (some .int) : Cond) ∈ sd_gd := sd_gd_in (sd_m2 (i := 124) (by decide +kernel)) rfl
theorem wM_X2_117 : (.methodLink RX2 117 yX2_placesOf : Cond) ∈ sd_gd := sd_gd_in (sd_m2 (i := 125) (by decide +kernel)) rfl
theorem wT_X2_placesOf : (.static yX2_placesOf : Cond) ∈ sd_gd := sd_gd_in (sd_m2 (i := 126) (by decide +kernel)) rfl
theorem wC_X2_placesOf : (.code yX2_placesOf cX2_placesOf 5 (some .int) : Cond) ∈ sd_gd := sd_gd_in (sd_m2 (i := 127) (by decide +kernel)) rfl
theorem wM_X11_139 : (.methodLink RX11 139 yX2_sleepersIn : Cond) ∈ sd_gd := sd_gd_in (sd_m2 (i := 128) (by decide +kernel)) rfl
theorem wI_X2_sleepersIn : (.instanceMethod yX2_sleepersIn : Cond) ∈ sd_gd := sd_gd_in (sd_m2 (i := 129) (by decide +kernel)) rfl
theorem wS_X2_X2_sleepersIn : (.selects RX2 yX2_sleepersIn yX2_sleepersIn : Cond) ∈ sd_gd := sd_gd_in (sd_m2 (i := 130) (by decide +kernel)) rfl
theorem wC_X2_sleepersIn : (.code yX2_sleepersIn cX2_sleepersIn 2 (some .int) : Cond) ∈ sd_gd := sd_gd_in (sd_m2 (i := 131) (by decide +kernel)) rfl
theorem wM_L_35 : (.methodLink RL 35 yX11_bed : Cond) ∈ sd_gd := sd_gd_in (sd_m2 (i := 132) (by decide +kernel)) rfl
theorem wI_X11_bed : (.instanceMethod yX11_bed : Cond) ∈ sd_gd := sd_gd_in (sd_m2 (i := 133) (by decide +kernel)) rfl
theorem wS_X11_X11_bed : (.selects RX11 yX11_bed yX11_bed : Cond) ∈ sd_gd := sd_gd_in (sd_m2 (i := 134) (by decide +kernel)) rfl
theorem wC_X11_bed : (.code yX11_bed cX11_bed 4 (some .int) : Cond) ∈ sd_gd := sd_gd_in (sd_m2 (i := 135) (by decide +kernel)) rfl
theorem wM_L_39 : (.methodLink RL 39 yX11_type : Cond) ∈ sd_gd := sd_gd_in (sd_m2 (i := 136) (by decide +kernel)) rfl
theorem wI_X11_type : (.instanceMethod yX11_type : Cond) ∈ sd_gd := sd_gd_in (sd_m2 (i := 137) (by decide +kernel)) rfl
theorem wS_X11_X11_type : (.selects RX11 yX11_type yX11_type : Cond) ∈ sd_gd := sd_gd_in (sd_m2 (i := 138) (by decide +kernel)) rfl
theorem wC_X11_type : (.code yX11_type cX11_type 2 (some .int) : Cond) ∈ sd_gd := sd_gd_in (sd_m2 (i := 139) (by decide +kernel)) rfl
theorem wM_X11_145 : (.methodLink RX11 145 yX8_addLetter : Cond) ∈ sd_gd := sd_gd_in (sd_m2 (i := 140) (by decide +kernel)) rfl
theorem wI_X8_addLetter : (.instanceMethod yX8_addLetter : Cond) ∈ sd_gd := sd_gd_in (sd_m2 (i := 141) (by decide +kernel)) rfl
theorem wS_X8_X8_addLetter : (.selects RX8 yX8_addLetter yX8_addLetter : Cond) ∈ sd_gd := sd_gd_in (sd_m2 (i := 142) (by decide +kernel)) rfl
theorem wC_X8_addLetter : (.code yX8_addLetter cX8_addLetter 2 none : Cond) ∈ sd_gd := sd_gd_in (sd_m2 (i := 143) (by decide +kernel)) rfl
theorem wM_L_44 : (.methodLink RL 44 yX11_house : Cond) ∈ sd_gd := sd_gd_in (sd_m2 (i := 144) (by decide +kernel)) rfl
theorem wI_X11_house : (.instanceMethod yX11_house : Cond) ∈ sd_gd := sd_gd_in (sd_m2 (i := 145) (by decide +kernel)) rfl
theorem wS_X11_X11_house : (.selects RX11 yX11_house yX11_house : Cond) ∈ sd_gd := sd_gd_in (sd_m2 (i := 146) (by decide +kernel)) rfl
theorem wC_X11_house : (.code yX11_house cX11_house 3 (some .int) : Cond) ∈ sd_gd := sd_gd_in (sd_m2 (i := 147) (by decide +kernel)) rfl
theorem wM_X11_152 : (.methodLink RX11 152 yX2_clear : Cond) ∈ sd_gd := sd_gd_in (sd_m2 (i := 148) (by decide +kernel)) rfl
theorem wI_X2_clear : (.instanceMethod yX2_clear : Cond) ∈ sd_gd := sd_gd_in (sd_m2 (i := 149) (by decide +kernel)) rfl
theorem wS_X2_X2_clear : (.selects RX2 yX2_clear yX2_clear : Cond) ∈ sd_gd := sd_gd_in (sd_m2 (i := 150) (by decide +kernel)) rfl
theorem wC_X2_clear : (.code yX2_clear cX2_clear 2 none : Cond) ∈ sd_gd := sd_gd_in (sd_m2 (i := 151) (by decide +kernel)) rfl
theorem wM_X11_156 : (.methodLink RX11 156 yX8_readHouse : Cond) ∈ sd_gd := sd_gd_in (sd_m2 (i := 152) (by decide +kernel)) rfl
theorem wI_X8_readHouse : (.instanceMethod yX8_readHouse : Cond) ∈ sd_gd := sd_gd_in (sd_m2 (i := 153) (by decide +kernel)) rfl
theorem wS_X8_X8_readHouse : (.selects RX8 yX8_readHouse yX8_readHouse : Cond) ∈ sd_gd := sd_gd_in (sd_m2 (i := 154) (by decide +kernel)) rfl
theorem wC_X8_readHouse : (.code yX8_readHouse cX8_readHouse 2 (some .boolean) : Cond) ∈ sd_gd := sd_gd_in (sd_m2 (i := 155) (by decide +kernel)) rfl
theorem wM_X8_22 : (.methodLink RX8 22 yX8_readSleepers : Cond) ∈ sd_gd := sd_gd_in (sd_m2 (i := 156) (by decide +kernel)) rfl
theorem wI_X8_readSleepers : (.instanceMethod yX8_readSleepers : Cond) ∈ sd_gd := sd_gd_in (sd_m2 (i := 158) (by decide +kernel)) rfl
theorem wC_X8_readSleepers : (.code yX8_readSleepers cX8_readSleepers 4 (some .boolean) : Cond) ∈ sd_gd := sd_gd_in (sd_m2 (i := 159) (by decide +kernel)) rfl
theorem wM_X8_36 : (.methodLink RX8 36 yX8_readSleeper : Cond) ∈ sd_gd := sd_gd_in (sd_m2 (i := 160) (by decide +kernel)) rfl
theorem wI_X8_readSleeper : (.instanceMethod yX8_readSleeper : Cond) ∈ sd_gd := sd_gd_in (sd_m2 (i := 162) (by decide +kernel)) rfl
theorem wC_X8_readSleeper : (.code yX8_readSleeper cX8_readSleeper 4 (some .boolean) : Cond) ∈ sd_gd := sd_gd_in (sd_m2 (i := 163) (by decide +kernel)) rfl
theorem wM_X8_42 : (.methodLink RX8 42 yX8_readDigit : Cond) ∈ sd_gd := sd_gd_in (sd_m2 (i := 164) (by decide +kernel)) rfl
theorem wI_X8_readDigit : (.instanceMethod yX8_readDigit : Cond) ∈ sd_gd := sd_gd_in (sd_m2 (i := 166) (by decide +kernel)) rfl
theorem wC_X8_readDigit : (.code yX8_readDigit cX8_readDigit 4 (some .int) : Cond) ∈ sd_gd := sd_gd_in (sd_m2 (i := 167) (by decide +kernel)) rfl
theorem wM_X8_33 : (.methodLink RX8 33 yX8_skipBlanks : Cond) ∈ sd_gd := sd_gd_in (sd_m2 (i := 168) (by decide +kernel)) rfl
theorem wI_X8_skipBlanks : (.instanceMethod yX8_skipBlanks : Cond) ∈ sd_gd := sd_gd_in (sd_m2 (i := 170) (by decide +kernel)) rfl
theorem wC_X8_skipBlanks : (.code yX8_skipBlanks cX8_skipBlanks 1 none : Cond) ∈ sd_gd := sd_gd_in (sd_m2 (i := 171) (by decide +kernel)) rfl
theorem wM_X8_71 : (.methodLink RX8 71 yX8_digitHere : Cond) ∈ sd_gd := sd_gd_in (sd_m2 (i := 172) (by decide +kernel)) rfl
theorem wI_X8_digitHere : (.instanceMethod yX8_digitHere : Cond) ∈ sd_gd := sd_gd_in (sd_m2 (i := 174) (by decide +kernel)) rfl
theorem wC_X8_digitHere : (.code yX8_digitHere cX8_digitHere 1 (some .int) : Cond) ∈ sd_gd := sd_gd_in (sd_m2 (i := 175) (by decide +kernel)) rfl
theorem wM_X8_26 : (.methodLink RX8 26 yX8_takes : Cond) ∈ sd_gd := sd_gd_in (sd_m2 (i := 177) (by decide +kernel)) rfl
theorem wI_X8_takes : (.instanceMethod yX8_takes : Cond) ∈ sd_gd := sd_gd_in (sd_m2 (i := 179) (by decide +kernel)) rfl
theorem wC_X8_takes : (.code yX8_takes cX8_takes 2 (some .boolean) : Cond) ∈ sd_gd := sd_gd_in (sd_m2 (i := 180) (by decide +kernel)) rfl
theorem wM_X8_46 : (.methodLink RX8 46 yX8_readNumber : Cond) ∈ sd_gd := sd_gd_in (sd_m2 (i := 181) (by decide +kernel)) rfl
theorem wI_X8_readNumber : (.instanceMethod yX8_readNumber : Cond) ∈ sd_gd := sd_gd_in (sd_m2 (i := 183) (by decide +kernel)) rfl
theorem wC_X8_readNumber : (.code yX8_readNumber cX8_readNumber 4 (some .int) : Cond) ∈ sd_gd := sd_gd_in (sd_m2 (i := 184) (by decide +kernel)) rfl
theorem wM_X8_50 : (.methodLink RX8 50 yX2_addSleeper : Cond) ∈ sd_gd := sd_gd_in (sd_m2 (i := 185) (by decide +kernel)) rfl
theorem wM_X8_30 : (.methodLink RX8 30 yX8_readThings : Cond) ∈ sd_gd := sd_gd_in (sd_m2 (i := 186) (by decide +kernel)) rfl
theorem wI_X8_readThings : (.instanceMethod yX8_readThings : Cond) ∈ sd_gd := sd_gd_in (sd_m2 (i := 188) (by decide +kernel)) rfl
theorem wC_X8_readThings : (.code yX8_readThings cX8_readThings 4 (some .boolean) : Cond) ∈ sd_gd := sd_gd_in (sd_m2 (i := 189) (by decide +kernel)) rfl
theorem wM_X8_39 : (.methodLink RX8 39 yX8_readThing : Cond) ∈ sd_gd := sd_gd_in (sd_m2 (i := 190) (by decide +kernel)) rfl
theorem wI_X8_readThing : (.instanceMethod yX8_readThing : Cond) ∈ sd_gd := sd_gd_in (sd_m2 (i := 192) (by decide +kernel)) rfl
theorem wC_X8_readThing : (.code yX8_readThing cX8_readThing 6 (some .boolean) : Cond) ∈ sd_gd := sd_gd_in (sd_m2 (i := 193) (by decide +kernel)) rfl
theorem wM_X8_56 : (.methodLink RX8 56 yX8_readKind : Cond) ∈ sd_gd := sd_gd_in (sd_m2 (i := 194) (by decide +kernel)) rfl
theorem wI_X8_readKind : (.instanceMethod yX8_readKind : Cond) ∈ sd_gd := sd_gd_in (sd_m2 (i := 196) (by decide +kernel)) rfl
theorem wC_X8_readKind : (.code yX8_readKind cX8_readKind 2 (some .int) : Cond) ∈ sd_gd := sd_gd_in (sd_m2 (i := 197) (by decide +kernel)) rfl
theorem wR_str : (.stringRef RX8 63 "pfcth" : Cond) ∈ lw_tbl := sd_m2 (i := 198) (by decide +kernel)
theorem wM_X8_65 : (.methodLink RX8 65 yJ0_indexOf_0f7a4 : Cond) ∈ sd_gd := sd_gd_in (sd_m2 (i := 199) (by decide +kernel)) rfl
theorem wI_J0_indexOf_0f7a4 : (.instanceMethod yJ0_indexOf_0f7a4 : Cond) ∈ sd_gd := sd_gd_in (sd_m2 (i := 200) (by decide +kernel)) rfl
theorem wS_J0_J0_indexOf_0f7a4 : (.selects RJ0 yJ0_indexOf_0f7a4 yJ0_indexOf_0f7a4 : Cond) ∈ sd_gd := sd_gd_in (sd_m2 (i := 201) (by decide +kernel)) rfl
theorem wC_J0_indexOf_0f7a4 : (.code yJ0_indexOf_0f7a4 cJ0_indexOf_0f7a4 2 (some .int) : Cond) ∈ sd_gd := sd_gd_in (sd_m2 (i := 202) (by decide +kernel)) rfl
theorem wM_J0_633 : (.methodLink RJ0 633 yJ0_indexOf_7cf53 : Cond) ∈ sd_gd := sd_gd_in (sd_m2 (i := 203) (by decide +kernel)) rfl
theorem wI_J0_indexOf_7cf53 : (.instanceMethod yJ0_indexOf_7cf53 : Cond) ∈ sd_gd := sd_gd_in (sd_m2 (i := 204) (by decide +kernel)) rfl
theorem wS_J0_J0_indexOf_7cf53 : (.selects RJ0 yJ0_indexOf_7cf53 yJ0_indexOf_7cf53 : Cond) ∈ sd_gd := sd_gd_in (sd_m2 (i := 205) (by decide +kernel)) rfl
theorem wC_J0_indexOf_7cf53 : (.code yJ0_indexOf_7cf53 cJ0_indexOf_7cf53 3 (some .int) : Cond) ∈ sd_gd := sd_gd_in (sd_m2 (i := 206) (by decide +kernel)) rfl
theorem wM_J0_492 : (.methodLink RJ0 492 yJ0_isLatin1_aae02 : Cond) ∈ sd_gd := sd_gd_in (sd_m2 (i := 207) (by decide +kernel)) rfl
theorem wI_J0_isLatin1_aae02 : (.instanceMethod yJ0_isLatin1_aae02 : Cond) ∈ sd_gd := sd_gd_in (sd_m2 (i := 208) (by decide +kernel)) rfl
theorem wS_J0_J0_isLatin1_aae02 : (.selects RJ0 yJ0_isLatin1_aae02 yJ0_isLatin1_aae02 : Cond) ∈ sd_gd := sd_gd_in (sd_m2 (i := 209) (by decide +kernel)) rfl
theorem wC_J0_isLatin1_aae02 : (.code yJ0_isLatin1_aae02 cJ0_isLatin1_aae02 1 (some .boolean) : Cond) ∈ sd_gd := sd_gd_in (sd_m2 (i := 210) (by decide +kernel)) rfl
theorem wF_J0_38 : (.fieldLink RJ0 38 "java/lang/String" "COMPACT_STRINGS" "Z" : Cond) ∈ sd_gd := sd_gd_in (sd_m2 (i := 211) (by decide +kernel)) rfl
theorem wM_J0_505 : (.methodLink RJ0 505 yJ0_length_8abf5 : Cond) ∈ sd_gd := sd_gd_in (sd_m2 (i := 213) (by decide +kernel)) rfl
theorem wI_J0_length_8abf5 : (.instanceMethod yJ0_length_8abf5 : Cond) ∈ sd_gd := sd_gd_in (sd_m2 (i := 214) (by decide +kernel)) rfl
theorem wS_J0_J0_length_8abf5 : (.selects RJ0 yJ0_length_8abf5 yJ0_length_8abf5 : Cond) ∈ sd_gd := sd_gd_in (sd_m2 (i := 215) (by decide +kernel)) rfl
theorem wC_J0_length_8abf5 : (.code yJ0_length_8abf5 cJ0_length_8abf5 1 (some .int) : Cond) ∈ sd_gd := sd_gd_in (sd_m2 (i := 216) (by decide +kernel)) rfl
theorem wM_J0_335 : (.methodLink RJ0 335 yJ0_coder_7d493 : Cond) ∈ sd_gd := sd_gd_in (sd_m2 (i := 217) (by decide +kernel)) rfl
theorem wI_J0_coder_7d493 : (.instanceMethod yJ0_coder_7d493 : Cond) ∈ sd_gd := sd_gd_in (sd_m2 (i := 218) (by decide +kernel)) rfl
theorem wS_J0_J0_coder_7d493 : (.selects RJ0 yJ0_coder_7d493 yJ0_coder_7d493 : Cond) ∈ sd_gd := sd_gd_in (sd_m2 (i := 219) (by decide +kernel)) rfl
theorem wC_J0_coder_7d493 : (.code yJ0_coder_7d493 cJ0_coder_7d493 1 (some .byte) : Cond) ∈ sd_gd := sd_gd_in (sd_m2 (i := 220) (by decide +kernel)) rfl
theorem wM_J0_637 : (.methodLink RJ0 637 yJ1_indexOf_4cfef : Cond) ∈ sd_gd := sd_gd_in (sd_m2 (i := 221) (by decide +kernel)) rfl
theorem wT_J1_indexOf_4cfef : (.static yJ1_indexOf_4cfef : Cond) ∈ sd_gd := sd_gd_in (sd_m2 (i := 222) (by decide +kernel)) rfl
theorem wC_J1_indexOf_4cfef : (.code yJ1_indexOf_4cfef cJ1_indexOf_4cfef 4 (some .int) : Cond) ∈ sd_gd := sd_gd_in (sd_m2 (i := 223) (by decide +kernel)) rfl
theorem wM_J1_88 : (.methodLink RJ1 88 yJ1_canEncode_9a6ad : Cond) ∈ sd_gd := sd_gd_in (sd_m2 (i := 224) (by decide +kernel)) rfl
theorem wT_J1_canEncode_9a6ad : (.static yJ1_canEncode_9a6ad : Cond) ∈ sd_gd := sd_gd_in (sd_m2 (i := 225) (by decide +kernel)) rfl
theorem wC_J1_canEncode_9a6ad : (.code yJ1_canEncode_9a6ad cJ1_canEncode_9a6ad 1 (some .boolean) : Cond) ∈ sd_gd := sd_gd_in (sd_m2 (i := 226) (by decide +kernel)) rfl
theorem wM_J1_92 : (.methodLink RJ1 92 yJ9_max_7cf53 : Cond) ∈ sd_gd := sd_gd_in (sd_m2 (i := 227) (by decide +kernel)) rfl
theorem wT_J9_max_7cf53 : (.static yJ9_max_7cf53 : Cond) ∈ sd_gd := sd_gd_in (sd_m2 (i := 228) (by decide +kernel)) rfl
theorem wC_J9_max_7cf53 : (.code yJ9_max_7cf53 cJ9_max_7cf53 2 (some .int) : Cond) ∈ sd_gd := sd_gd_in (sd_m2 (i := 229) (by decide +kernel)) rfl
theorem wM_J1_38 : (.methodLink RJ1 38 yJ9_min_7cf53 : Cond) ∈ sd_gd := sd_gd_in (sd_m2 (i := 230) (by decide +kernel)) rfl
theorem wM_J1_95 : (.methodLink RJ1 95 yJ1_indexOfChar_4cfef : Cond) ∈ sd_gd := sd_gd_in (sd_m2 (i := 231) (by decide +kernel)) rfl
theorem wT_J1_indexOfChar_4cfef : (.static yJ1_indexOfChar_4cfef : Cond) ∈ sd_gd := sd_gd_in (sd_m2 (i := 232) (by decide +kernel)) rfl
theorem wC_J1_indexOfChar_4cfef : (.code yJ1_indexOfChar_4cfef cJ1_indexOfChar_4cfef 6 (some .int) : Cond) ∈ sd_gd := sd_gd_in (sd_m2 (i := 233) (by decide +kernel)) rfl
theorem wM_J0_640 : (.methodLink RJ0 640 yJ2_indexOf_4cfef : Cond) ∈ sd_gd := sd_gd_in (sd_m2 (i := 234) (by decide +kernel)) rfl
theorem wT_J2_indexOf_4cfef : (.static yJ2_indexOf_4cfef : Cond) ∈ sd_gd := sd_gd_in (sd_m2 (i := 235) (by decide +kernel)) rfl
theorem wC_J2_indexOf_4cfef : (.code yJ2_indexOf_4cfef cJ2_indexOf_4cfef 4 (some .int) : Cond) ∈ sd_gd := sd_gd_in (sd_m2 (i := 236) (by decide +kernel)) rfl
theorem wM_J2_224 : (.methodLink RJ2 224 yJ9_max_7cf53 : Cond) ∈ sd_gd := sd_gd_in (sd_m2 (i := 237) (by decide +kernel)) rfl
theorem wM_J2_183 : (.methodLink RJ2 183 yJ9_min_7cf53 : Cond) ∈ sd_gd := sd_gd_in (sd_m2 (i := 238) (by decide +kernel)) rfl
theorem wK_J2_227 : (.constant RJ2 227 (65536) : Cond) ∈ sd_gd := sd_gd_in (sd_m2 (i := 239) (by decide +kernel)) rfl
theorem wM_J2_228 : (.methodLink RJ2 228 yJ2_indexOfChar_4cfef : Cond) ∈ sd_gd := sd_gd_in (sd_m3 (i := 0) (by decide +kernel)) rfl
theorem wT_J2_indexOfChar_4cfef : (.static yJ2_indexOfChar_4cfef : Cond) ∈ sd_gd := sd_gd_in (sd_m3 (i := 1) (by decide +kernel)) rfl
theorem wC_J2_indexOfChar_4cfef : (.code yJ2_indexOfChar_4cfef cJ2_indexOfChar_4cfef 4 (some .int) : Cond) ∈ sd_gd := sd_gd_in (sd_m3 (i := 2) (by decide +kernel)) rfl
theorem wM_J2_96 : (.methodLink RJ2 96 yJ2_checkBoundsBeginEnd_d044e : Cond) ∈ sd_gd := sd_gd_in (sd_m3 (i := 3) (by decide +kernel)) rfl
theorem wT_J2_checkBoundsBeginEnd_d044e : (.static yJ2_checkBoundsBeginEnd_d044e : Cond) ∈ sd_gd := sd_gd_in (sd_m3 (i := 4) (by decide +kernel)) rfl
theorem wC_J2_checkBoundsBeginEnd_d044e : (.code yJ2_checkBoundsBeginEnd_d044e cJ2_checkBoundsBeginEnd_d044e 3 none : Cond) ∈ sd_gd := sd_gd_in (sd_m3 (i := 5) (by decide +kernel)) rfl
theorem wM_J2_48 : (.methodLink RJ2 48 yJ2_length_9d52b : Cond) ∈ sd_gd := sd_gd_in (sd_m3 (i := 6) (by decide +kernel)) rfl
theorem wT_J2_length_9d52b : (.static yJ2_length_9d52b : Cond) ∈ sd_gd := sd_gd_in (sd_m3 (i := 7) (by decide +kernel)) rfl
theorem wC_J2_length_9d52b : (.code yJ2_length_9d52b cJ2_length_9d52b 1 (some .int) : Cond) ∈ sd_gd := sd_gd_in (sd_m3 (i := 8) (by decide +kernel)) rfl
theorem wM_J2_241 : (.methodLink RJ2 241 yJ0_checkBoundsBeginEnd_23922 : Cond) ∈ sd_gd := sd_gd_in (sd_m3 (i := 9) (by decide +kernel)) rfl
theorem wT_J0_checkBoundsBeginEnd_23922 : (.static yJ0_checkBoundsBeginEnd_23922 : Cond) ∈ sd_gd := sd_gd_in (sd_m3 (i := 10) (by decide +kernel)) rfl
theorem wC_J0_checkBoundsBeginEnd_23922 : (.code yJ0_checkBoundsBeginEnd_23922 cJ0_checkBoundsBeginEnd_23922 3 none : Cond) ∈ sd_gd := sd_gd_in (sd_m3 (i := 11) (by decide +kernel)) rfl
theorem wF_J0_1053 : (.fieldLink RJ0 1053 "jdk/internal/util/Preconditions" "SIOOBE_FORMATTER" "Ljava/util/function/BiFunction;" : Cond) ∈ sd_gd := sd_gd_in (sd_m3 (i := 12) (by decide +kernel)) rfl
theorem wM_J0_1062 : (.methodLink RJ0 1062 yJ3_checkFromToIndex_8c36e : Cond) ∈ sd_gd := sd_gd_in (sd_m3 (i := 14) (by decide +kernel)) rfl
theorem wT_J3_checkFromToIndex_8c36e : (.static yJ3_checkFromToIndex_8c36e : Cond) ∈ sd_gd := sd_gd_in (sd_m3 (i := 15) (by decide +kernel)) rfl
theorem wC_J3_checkFromToIndex_8c36e : (.code yJ3_checkFromToIndex_8c36e cJ3_checkFromToIndex_8c36e 4 (some .int) : Cond) ∈ sd_gd := sd_gd_in (sd_m3 (i := 16) (by decide +kernel)) rfl
theorem wM_J2_244 : (.methodLink RJ2 244 yJ2_indexOfCharUnsafe_4cfef : Cond) ∈ sd_gd := sd_gd_in (sd_m3 (i := 17) (by decide +kernel)) rfl
theorem wT_J2_indexOfCharUnsafe_4cfef : (.static yJ2_indexOfCharUnsafe_4cfef : Cond) ∈ sd_gd := sd_gd_in (sd_m3 (i := 18) (by decide +kernel)) rfl
theorem wC_J2_indexOfCharUnsafe_4cfef : (.code yJ2_indexOfCharUnsafe_4cfef cJ2_indexOfCharUnsafe_4cfef 5 (some .int) : Cond) ∈ sd_gd := sd_gd_in (sd_m3 (i := 19) (by decide +kernel)) rfl
theorem wM_J2_71 : (.methodLink RJ2 71 yJ2_getChar_3b067 : Cond) ∈ sd_gd := sd_gd_in (sd_m3 (i := 20) (by decide +kernel)) rfl
theorem wT_J2_getChar_3b067 : (.static yJ2_getChar_3b067 : Cond) ∈ sd_gd := sd_gd_in (sd_m3 (i := 21) (by decide +kernel)) rfl
theorem wC_J2_getChar_3b067 : (.code yJ2_getChar_3b067 cJ2_getChar_3b067 2 (some .char) : Cond) ∈ sd_gd := sd_gd_in (sd_m3 (i := 22) (by decide +kernel)) rfl
theorem wF_J2_44 : (.fieldLink RJ2 44 "java/lang/StringUTF16" "$assertionsDisabled" "Z" : Cond) ∈ sd_gd := sd_gd_in (sd_m3 (i := 23) (by decide +kernel)) rfl
theorem wF_J2_59 : (.fieldLink RJ2 59 "java/lang/StringUTF16" "HI_BYTE_SHIFT" "I" : Cond) ∈ sd_gd := sd_gd_in (sd_m3 (i := 25) (by decide +kernel)) rfl
theorem wF_J2_63 : (.fieldLink RJ2 63 "java/lang/StringUTF16" "LO_BYTE_SHIFT" "I" : Cond) ∈ sd_gd := sd_gd_in (sd_m3 (i := 27) (by decide +kernel)) rfl
theorem wM_J2_232 : (.methodLink RJ2 232 yJ2_indexOfSupplementary_4cfef : Cond) ∈ sd_gd := sd_gd_in (sd_m3 (i := 29) (by decide +kernel)) rfl
theorem wT_J2_indexOfSupplementary_4cfef : (.static yJ2_indexOfSupplementary_4cfef : Cond) ∈ sd_gd := sd_gd_in (sd_m3 (i := 30) (by decide +kernel)) rfl
theorem wC_J2_indexOfSupplementary_4cfef : (.code yJ2_indexOfSupplementary_4cfef cJ2_indexOfSupplementary_4cfef 7 (some .int) : Cond) ∈ sd_gd := sd_gd_in (sd_m3 (i := 31) (by decide +kernel)) rfl
theorem wM_J2_164 : (.methodLink RJ2 164 yJ11_isValidCodePoint_9a6ad : Cond) ∈ sd_gd := sd_gd_in (sd_m3 (i := 32) (by decide +kernel)) rfl
theorem wT_J11_isValidCodePoint_9a6ad : (.static yJ11_isValidCodePoint_9a6ad : Cond) ∈ sd_gd := sd_gd_in (sd_m3 (i := 33) (by decide +kernel)) rfl
theorem wC_J11_isValidCodePoint_9a6ad : (.code yJ11_isValidCodePoint_9a6ad cJ11_isValidCodePoint_9a6ad 2 (some .boolean) : Cond) ∈ sd_gd := sd_gd_in (sd_m3 (i := 34) (by decide +kernel)) rfl
theorem wM_J2_157 : (.methodLink RJ2 157 yJ11_highSurrogate_5068e : Cond) ∈ sd_gd := sd_gd_in (sd_m3 (i := 35) (by decide +kernel)) rfl
theorem wT_J11_highSurrogate_5068e : (.static yJ11_highSurrogate_5068e : Cond) ∈ sd_gd := sd_gd_in (sd_m3 (i := 36) (by decide +kernel)) rfl
theorem wC_J11_highSurrogate_5068e : (.code yJ11_highSurrogate_5068e cJ11_highSurrogate_5068e 1 (some .char) : Cond) ∈ sd_gd := sd_gd_in (sd_m3 (i := 37) (by decide +kernel)) rfl
theorem wK_J11_110 : (.constant RJ11 110 (55232) : Cond) ∈ sd_gd := sd_gd_in (sd_m3 (i := 38) (by decide +kernel)) rfl
theorem wM_J2_161 : (.methodLink RJ2 161 yJ11_lowSurrogate_5068e : Cond) ∈ sd_gd := sd_gd_in (sd_m3 (i := 39) (by decide +kernel)) rfl
theorem wT_J11_lowSurrogate_5068e : (.static yJ11_lowSurrogate_5068e : Cond) ∈ sd_gd := sd_gd_in (sd_m3 (i := 40) (by decide +kernel)) rfl
theorem wC_J11_lowSurrogate_5068e : (.code yJ11_lowSurrogate_5068e cJ11_lowSurrogate_5068e 1 (some .char) : Cond) ∈ sd_gd := sd_gd_in (sd_m3 (i := 41) (by decide +kernel)) rfl
theorem wK_J11_76 : (.constant RJ11 76 (56320) : Cond) ∈ sd_gd := sd_gd_in (sd_m3 (i := 42) (by decide +kernel)) rfl
theorem wM_X8_59 : (.methodLink RX8 59 yX2_addThing : Cond) ∈ sd_gd := sd_gd_in (sd_m3 (i := 43) (by decide +kernel)) rfl
theorem wM_X11_162 : (.methodLink RX11 162 yX8_clear : Cond) ∈ sd_gd := sd_gd_in (sd_m3 (i := 44) (by decide +kernel)) rfl
theorem wI_X8_clear : (.instanceMethod yX8_clear : Cond) ∈ sd_gd := sd_gd_in (sd_m3 (i := 45) (by decide +kernel)) rfl
theorem wS_X8_X8_clear : (.selects RX8 yX8_clear yX8_clear : Cond) ∈ sd_gd := sd_gd_in (sd_m3 (i := 46) (by decide +kernel)) rfl
theorem wC_X8_clear : (.code yX8_clear cX8_clear 1 none : Cond) ∈ sd_gd := sd_gd_in (sd_m3 (i := 47) (by decide +kernel)) rfl
theorem wM_X11_164 : (.methodLink RX11 164 yX2_takeAll : Cond) ∈ sd_gd := sd_gd_in (sd_m3 (i := 48) (by decide +kernel)) rfl
theorem wI_X2_takeAll : (.instanceMethod yX2_takeAll : Cond) ∈ sd_gd := sd_gd_in (sd_m3 (i := 49) (by decide +kernel)) rfl
theorem wS_X2_X2_takeAll : (.selects RX2 yX2_takeAll yX2_takeAll : Cond) ∈ sd_gd := sd_gd_in (sd_m3 (i := 50) (by decide +kernel)) rfl
theorem wC_X2_takeAll : (.code yX2_takeAll cX2_takeAll 2 none : Cond) ∈ sd_gd := sd_gd_in (sd_m3 (i := 51) (by decide +kernel)) rfl
theorem wM_X2_53 : (.methodLink RX2 53 ⟨"java/lang/System", "arraycopy", "(Ljava/lang/Object;ILjava/lang/Object;II)V"⟩ : Cond) ∈ sd_gd := sd_gd_in (sd_m3 (i := 52) (by decide +kernel)) rfl
theorem wT_copy : (.static arraycopyName : Cond) ∈ sd_gd := sd_gd_in (sd_m3 (i := 53) (by decide +kernel)) rfl
theorem wN_copy : (.native arraycopyName : Cond) ∈ sd_gd := sd_gd_in (sd_m3 (i := 54) (by decide +kernel)) rfl
theorem wM_X2_59 : (.methodLink RX2 59 yX4_takeAll : Cond) ∈ sd_gd := sd_gd_in (sd_m3 (i := 55) (by decide +kernel)) rfl
theorem wI_X4_takeAll : (.instanceMethod yX4_takeAll : Cond) ∈ sd_gd := sd_gd_in (sd_m3 (i := 56) (by decide +kernel)) rfl
theorem wS_X4_X4_takeAll : (.selects RX4 yX4_takeAll yX4_takeAll : Cond) ∈ sd_gd := sd_gd_in (sd_m3 (i := 57) (by decide +kernel)) rfl
theorem wC_X4_takeAll : (.code yX4_takeAll cX4_takeAll 2 none : Cond) ∈ sd_gd := sd_gd_in (sd_m3 (i := 58) (by decide +kernel)) rfl
theorem wM_X4_31 : (.methodLink RX4 31 ⟨"java/lang/System", "arraycopy", "(Ljava/lang/Object;ILjava/lang/Object;II)V"⟩ : Cond) ∈ sd_gd := sd_gd_in (sd_m3 (i := 59) (by decide +kernel)) rfl
theorem wY_byte : (.arrayClass .byte : Cond) ∈ sd_gd := sd_gd_in (sd_m3 (i := 60) (by decide +kernel)) rfl
theorem wM_L_49 : (.methodLink RL 49 yX11_count : Cond) ∈ sd_gd := sd_gd_in (sd_m3 (i := 61) (by decide +kernel)) rfl
theorem wI_X11_count : (.instanceMethod yX11_count : Cond) ∈ sd_gd := sd_gd_in (sd_m3 (i := 62) (by decide +kernel)) rfl
theorem wS_X11_X11_count : (.selects RX11 yX11_count yX11_count : Cond) ∈ sd_gd := sd_gd_in (sd_m3 (i := 63) (by decide +kernel)) rfl
theorem wC_X11_count : (.code yX11_count cX11_count 2 (some .int) : Cond) ∈ sd_gd := sd_gd_in (sd_m3 (i := 64) (by decide +kernel)) rfl
theorem wM_X11_171 : (.methodLink RX11 171 yX11_sum : Cond) ∈ sd_gd := sd_gd_in (sd_m3 (i := 65) (by decide +kernel)) rfl
theorem wT_X11_sum : (.static yX11_sum : Cond) ∈ sd_gd := sd_gd_in (sd_m3 (i := 66) (by decide +kernel)) rfl
theorem wC_X11_sum : (.code yX11_sum cX11_sum 4 (some .int) : Cond) ∈ sd_gd := sd_gd_in (sd_m3 (i := 67) (by decide +kernel)) rfl
theorem wM_X11_175 : (.methodLink RX11 175 yX2_loudOfAll : Cond) ∈ sd_gd := sd_gd_in (sd_m3 (i := 68) (by decide +kernel)) rfl
theorem wI_X2_loudOfAll : (.instanceMethod yX2_loudOfAll : Cond) ∈ sd_gd := sd_gd_in (sd_m3 (i := 69) (by decide +kernel)) rfl
theorem wS_X2_X2_loudOfAll : (.selects RX2 yX2_loudOfAll yX2_loudOfAll : Cond) ∈ sd_gd := sd_gd_in (sd_m3 (i := 70) (by decide +kernel)) rfl
theorem wC_X2_loudOfAll : (.code yX2_loudOfAll cX2_loudOfAll 1 (some .int) : Cond) ∈ sd_gd := sd_gd_in (sd_m3 (i := 71) (by decide +kernel)) rfl
theorem wM_X2_114 : (.methodLink RX2 114 yX2_loudOfSet : Cond) ∈ sd_gd := sd_gd_in (sd_m3 (i := 72) (by decide +kernel)) rfl
theorem wI_X2_loudOfSet : (.instanceMethod yX2_loudOfSet : Cond) ∈ sd_gd := sd_gd_in (sd_m3 (i := 73) (by decide +kernel)) rfl
theorem wS_X2_X2_loudOfSet : (.selects RX2 yX2_loudOfSet yX2_loudOfSet : Cond) ∈ sd_gd := sd_gd_in (sd_m3 (i := 74) (by decide +kernel)) rfl
theorem wC_X2_loudOfSet : (.code yX2_loudOfSet cX2_loudOfSet 4 (some .int) : Cond) ∈ sd_gd := sd_gd_in (sd_m3 (i := 75) (by decide +kernel)) rfl
theorem wT_X11_isIn : (.static yX11_isIn : Cond) ∈ sd_gd := sd_gd_in (sd_m3 (i := 77) (by decide +kernel)) rfl
theorem wC_X11_isIn : (.code yX11_isIn cX11_isIn 2 (some .boolean) : Cond) ∈ sd_gd := sd_gd_in (sd_m3 (i := 78) (by decide +kernel)) rfl
theorem wM_X11_179 : (.methodLink RX11 179 yX2_silentThings : Cond) ∈ sd_gd := sd_gd_in (sd_m3 (i := 79) (by decide +kernel)) rfl
theorem wI_X2_silentThings : (.instanceMethod yX2_silentThings : Cond) ∈ sd_gd := sd_gd_in (sd_m3 (i := 80) (by decide +kernel)) rfl
theorem wS_X2_X2_silentThings : (.selects RX2 yX2_silentThings yX2_silentThings : Cond) ∈ sd_gd := sd_gd_in (sd_m3 (i := 81) (by decide +kernel)) rfl
theorem wC_X2_silentThings : (.code yX2_silentThings cX2_silentThings 1 (some .int) : Cond) ∈ sd_gd := sd_gd_in (sd_m3 (i := 82) (by decide +kernel)) rfl
theorem wM_L_53 : (.methodLink RL 53 yX11_nights : Cond) ∈ sd_gd := sd_gd_in (sd_m3 (i := 83) (by decide +kernel)) rfl
theorem wI_X11_nights : (.instanceMethod yX11_nights : Cond) ∈ sd_gd := sd_gd_in (sd_m3 (i := 84) (by decide +kernel)) rfl
theorem wS_X11_X11_nights : (.selects RX11 yX11_nights yX11_nights : Cond) ∈ sd_gd := sd_gd_in (sd_m3 (i := 85) (by decide +kernel)) rfl
theorem wC_X11_nights : (.code yX11_nights cX11_nights 2 (some .int) : Cond) ∈ sd_gd := sd_gd_in (sd_m3 (i := 86) (by decide +kernel)) rfl
theorem wM_X11_185 : (.methodLink RX11 185 yX11_spendNights : Cond) ∈ sd_gd := sd_gd_in (sd_m3 (i := 87) (by decide +kernel)) rfl
theorem wI_X11_spendNights : (.instanceMethod yX11_spendNights : Cond) ∈ sd_gd := sd_gd_in (sd_m3 (i := 89) (by decide +kernel)) rfl
theorem wC_X11_spendNights : (.code yX11_spendNights cX11_spendNights 5 (some .int) : Cond) ∈ sd_gd := sd_gd_in (sd_m3 (i := 90) (by decide +kernel)) rfl
theorem wM_X11_189 : (.methodLink RX11 189 yX6_keep : Cond) ∈ sd_gd := sd_gd_in (sd_m3 (i := 91) (by decide +kernel)) rfl
theorem wI_X6_keep : (.instanceMethod yX6_keep : Cond) ∈ sd_gd := sd_gd_in (sd_m3 (i := 92) (by decide +kernel)) rfl
theorem wS_X6_X6_keep : (.selects RX6 yX6_keep yX6_keep : Cond) ∈ sd_gd := sd_gd_in (sd_m3 (i := 93) (by decide +kernel)) rfl
theorem wC_X6_keep : (.code yX6_keep cX6_keep 2 none : Cond) ∈ sd_gd := sd_gd_in (sd_m3 (i := 94) (by decide +kernel)) rfl
theorem wM_X6_22 : (.methodLink RX6 22 yX4_takeAll : Cond) ∈ sd_gd := sd_gd_in (sd_m3 (i := 95) (by decide +kernel)) rfl
theorem wM_X6_29 : (.methodLink RX6 29 yJ9_min_7cf53 : Cond) ∈ sd_gd := sd_gd_in (sd_m3 (i := 96) (by decide +kernel)) rfl
theorem wM_X11_302 : (.methodLink RX11 302 yX2_moveByDraw : Cond) ∈ sd_gd := sd_gd_in (sd_m3 (i := 97) (by decide +kernel)) rfl
theorem wI_X2_moveByDraw : (.instanceMethod yX2_moveByDraw : Cond) ∈ sd_gd := sd_gd_in (sd_m3 (i := 98) (by decide +kernel)) rfl
theorem wS_X2_X2_moveByDraw : (.selects RX2 yX2_moveByDraw yX2_moveByDraw : Cond) ∈ sd_gd := sd_gd_in (sd_m3 (i := 99) (by decide +kernel)) rfl
theorem wC_X2_moveByDraw : (.code yX2_moveByDraw cX2_moveByDraw 2 none : Cond) ∈ sd_gd := sd_gd_in (sd_m3 (i := 100) (by decide +kernel)) rfl
theorem wKL_X2_131 : (.constantLong RX2 131 (1103515245) : Cond) ∈ sd_gd := sd_gd_in (sd_m3 (i := 101) (by decide +kernel)) rfl
theorem wKL_X2_133 : (.constantLong RX2 133 (12345) : Cond) ∈ sd_gd := sd_gd_in (sd_m3 (i := 102) (by decide +kernel)) rfl
theorem wKL_X2_135 : (.constantLong RX2 135 (2147483647) : Cond) ∈ sd_gd := sd_gd_in (sd_m3 (i := 103) (by decide +kernel)) rfl
theorem wK_X2_137 : (.constant RX2 137 (65536) : Cond) ∈ sd_gd := sd_gd_in (sd_m3 (i := 104) (by decide +kernel)) rfl
theorem wM_X11_305 : (.methodLink RX11 305 yX2_spendNight : Cond) ∈ sd_gd := sd_gd_in (sd_m3 (i := 105) (by decide +kernel)) rfl
theorem wI_X2_spendNight : (.instanceMethod yX2_spendNight : Cond) ∈ sd_gd := sd_gd_in (sd_m3 (i := 106) (by decide +kernel)) rfl
theorem wS_X2_X2_spendNight : (.selects RX2 yX2_spendNight yX2_spendNight : Cond) ∈ sd_gd := sd_gd_in (sd_m3 (i := 107) (by decide +kernel)) rfl
theorem wC_X2_spendNight : (.code yX2_spendNight cX2_spendNight 3 (some .int) : Cond) ∈ sd_gd := sd_gd_in (sd_m3 (i := 108) (by decide +kernel)) rfl
theorem wM_X2_121 : (.methodLink RX2 121 yX2_listen : Cond) ∈ sd_gd := sd_gd_in (sd_m3 (i := 109) (by decide +kernel)) rfl
theorem wM_X2_124 : (.methodLink RX2 124 yX2_isAsleep : Cond) ∈ sd_gd := sd_gd_in (sd_m3 (i := 110) (by decide +kernel)) rfl
theorem wM_X2_128 : (.methodLink RX2 128 yX2_leftBehind : Cond) ∈ sd_gd := sd_gd_in (sd_m3 (i := 111) (by decide +kernel)) rfl
theorem wI_X2_leftBehind : (.instanceMethod yX2_leftBehind : Cond) ∈ sd_gd := sd_gd_in (sd_m3 (i := 112) (by decide +kernel)) rfl
theorem wS_X2_X2_leftBehind : (.selects RX2 yX2_leftBehind yX2_leftBehind : Cond) ∈ sd_gd := sd_gd_in (sd_m3 (i := 113) (by decide +kernel)) rfl
theorem wC_X2_leftBehind : (.code yX2_leftBehind cX2_leftBehind 5 (some .int) : Cond) ∈ sd_gd := sd_gd_in (sd_m3 (i := 114) (by decide +kernel)) rfl
theorem wM_X2_99 : (.methodLink RX2 99 yX7_leftBehind : Cond) ∈ sd_gd := sd_gd_in (sd_m3 (i := 115) (by decide +kernel)) rfl
theorem wI_X7_leftBehind : (.instanceMethod yX7_leftBehind : Cond) ∈ sd_gd := sd_gd_in (sd_m3 (i := 116) (by decide +kernel)) rfl
theorem wS_X7_X7_leftBehind : (.selects RX7 yX7_leftBehind yX7_leftBehind : Cond) ∈ sd_gd := sd_gd_in (sd_m3 (i := 117) (by decide +kernel)) rfl
theorem wA_X7_leftBehind : (.sameMethod "ThankingGifts$Plain" "ThankingGifts$Plain" "leftBehind" "(III)I" : Cond) ∈ sd_gd := sd_gd_in (sd_m3 (i := 118) (by decide +kernel)) rfl
theorem wS_X0_X7_leftBehind : (.selects RX0 yX7_leftBehind yX0_leftBehind : Cond) ∈ sd_gd := sd_gd_in (sd_m3 (i := 119) (by decide +kernel)) rfl
theorem wI_X0_leftBehind : (.instanceMethod yX0_leftBehind : Cond) ∈ sd_gd := sd_gd_in (sd_m3 (i := 120) (by decide +kernel)) rfl
theorem wC_X0_leftBehind : (.code yX0_leftBehind cX0_leftBehind 4 (some .int) : Cond) ∈ sd_gd := sd_gd_in (sd_m3 (i := 121) (by decide +kernel)) rfl
theorem wS_X1_X7_leftBehind : (.selects RX1 yX7_leftBehind yX1_leftBehind : Cond) ∈ sd_gd := sd_gd_in (sd_m3 (i := 122) (by decide +kernel)) rfl
theorem wI_X1_leftBehind : (.instanceMethod yX1_leftBehind : Cond) ∈ sd_gd := sd_gd_in (sd_m3 (i := 123) (by decide +kernel)) rfl
theorem wC_X1_leftBehind : (.code yX1_leftBehind cX1_leftBehind 4 (some .int) : Cond) ∈ sd_gd := sd_gd_in (sd_m3 (i := 124) (by decide +kernel)) rfl
theorem wM_X1_7 : (.methodLink RX1 7 yJ9_max_7cf53 : Cond) ∈ sd_gd := sd_gd_in (sd_m3 (i := 125) (by decide +kernel)) rfl
theorem wS_X3_X7_leftBehind : (.selects RX3 yX7_leftBehind yX3_leftBehind : Cond) ∈ sd_gd := sd_gd_in (sd_m3 (i := 126) (by decide +kernel)) rfl
theorem wI_X3_leftBehind : (.instanceMethod yX3_leftBehind : Cond) ∈ sd_gd := sd_gd_in (sd_m3 (i := 127) (by decide +kernel)) rfl
theorem wC_X3_leftBehind : (.code yX3_leftBehind cX3_leftBehind 4 (some .int) : Cond) ∈ sd_gd := sd_gd_in (sd_m3 (i := 128) (by decide +kernel)) rfl
theorem wM_X3_7 : (.methodLink RX3 7 yX0_leftBehind : Cond) ∈ sd_gd := sd_gd_in (sd_m3 (i := 129) (by decide +kernel)) rfl
theorem wS_X10_X7_leftBehind : (.selects RX10 yX7_leftBehind yX10_leftBehind : Cond) ∈ sd_gd := sd_gd_in (sd_m3 (i := 130) (by decide +kernel)) rfl
theorem wI_X10_leftBehind : (.instanceMethod yX10_leftBehind : Cond) ∈ sd_gd := sd_gd_in (sd_m3 (i := 131) (by decide +kernel)) rfl
theorem wC_X10_leftBehind : (.code yX10_leftBehind cX10_leftBehind 4 (some .int) : Cond) ∈ sd_gd := sd_gd_in (sd_m3 (i := 132) (by decide +kernel)) rfl
theorem wM_X10_11 : (.methodLink RX10 11 yX1_leftBehind : Cond) ∈ sd_gd := sd_gd_in (sd_m3 (i := 133) (by decide +kernel)) rfl
theorem wC_X7_leftBehind : (.code yX7_leftBehind cX7_leftBehind 4 (some .int) : Cond) ∈ sd_gd := sd_gd_in (sd_m3 (i := 134) (by decide +kernel)) rfl
theorem wM_X7_7 : (.methodLink RX7 7 yJ9_max_7cf53 : Cond) ∈ sd_gd := sd_gd_in (sd_m3 (i := 135) (by decide +kernel)) rfl
theorem wM_L_57 : (.methodLink RL 57 yX11_move : Cond) ∈ sd_gd := sd_gd_in (sd_m3 (i := 136) (by decide +kernel)) rfl
theorem wI_X11_move : (.instanceMethod yX11_move : Cond) ∈ sd_gd := sd_gd_in (sd_m3 (i := 137) (by decide +kernel)) rfl
theorem wS_X11_X11_move : (.selects RX11 yX11_move yX11_move : Cond) ∈ sd_gd := sd_gd_in (sd_m3 (i := 138) (by decide +kernel)) rfl
theorem wC_X11_move : (.code yX11_move cX11_move 4 (some .int) : Cond) ∈ sd_gd := sd_gd_in (sd_m3 (i := 139) (by decide +kernel)) rfl
theorem wM_L_61 : (.methodLink RL 61 yX11_pass : Cond) ∈ sd_gd := sd_gd_in (sd_m3 (i := 140) (by decide +kernel)) rfl
theorem wI_X11_pass : (.instanceMethod yX11_pass : Cond) ∈ sd_gd := sd_gd_in (sd_m3 (i := 141) (by decide +kernel)) rfl
theorem wS_X11_X11_pass : (.selects RX11 yX11_pass yX11_pass : Cond) ∈ sd_gd := sd_gd_in (sd_m3 (i := 142) (by decide +kernel)) rfl
theorem wC_X11_pass : (.code yX11_pass cX11_pass 4 (some .int) : Cond) ∈ sd_gd := sd_gd_in (sd_m3 (i := 143) (by decide +kernel)) rfl
theorem wM_X11_193 : (.methodLink RX11 193 yX11_leftAtFirst : Cond) ∈ sd_gd := sd_gd_in (sd_m3 (i := 144) (by decide +kernel)) rfl
theorem wM_L_65 : (.methodLink RL 65 yX11_back : Cond) ∈ sd_gd := sd_gd_in (sd_m3 (i := 145) (by decide +kernel)) rfl
theorem wI_X11_back : (.instanceMethod yX11_back : Cond) ∈ sd_gd := sd_gd_in (sd_m3 (i := 146) (by decide +kernel)) rfl
theorem wS_X11_X11_back : (.selects RX11 yX11_back yX11_back : Cond) ∈ sd_gd := sd_gd_in (sd_m3 (i := 147) (by decide +kernel)) rfl
theorem wC_X11_back : (.code yX11_back cX11_back 3 (some .int) : Cond) ∈ sd_gd := sd_gd_in (sd_m3 (i := 148) (by decide +kernel)) rfl
theorem wM_L_69 : (.methodLink RL 69 yX11_drift : Cond) ∈ sd_gd := sd_gd_in (sd_m3 (i := 149) (by decide +kernel)) rfl
theorem wI_X11_drift : (.instanceMethod yX11_drift : Cond) ∈ sd_gd := sd_gd_in (sd_m3 (i := 150) (by decide +kernel)) rfl
theorem wS_X11_X11_drift : (.selects RX11 yX11_drift yX11_drift : Cond) ∈ sd_gd := sd_gd_in (sd_m3 (i := 151) (by decide +kernel)) rfl
theorem wC_X11_drift : (.code yX11_drift cX11_drift 2 (some .int) : Cond) ∈ sd_gd := sd_gd_in (sd_m3 (i := 152) (by decide +kernel)) rfl
theorem wM_L_73 : (.methodLink RL 73 yX11_undo : Cond) ∈ sd_gd := sd_gd_in (sd_m3 (i := 153) (by decide +kernel)) rfl
theorem wI_X11_undo : (.instanceMethod yX11_undo : Cond) ∈ sd_gd := sd_gd_in (sd_m3 (i := 154) (by decide +kernel)) rfl
theorem wS_X11_X11_undo : (.selects RX11 yX11_undo yX11_undo : Cond) ∈ sd_gd := sd_gd_in (sd_m3 (i := 155) (by decide +kernel)) rfl
theorem wC_X11_undo : (.code yX11_undo cX11_undo 1 (some .int) : Cond) ∈ sd_gd := sd_gd_in (sd_m3 (i := 156) (by decide +kernel)) rfl
theorem wM_X11_196 : (.methodLink RX11 196 yX6_bringBack : Cond) ∈ sd_gd := sd_gd_in (sd_m3 (i := 157) (by decide +kernel)) rfl
theorem wI_X6_bringBack : (.instanceMethod yX6_bringBack : Cond) ∈ sd_gd := sd_gd_in (sd_m3 (i := 158) (by decide +kernel)) rfl
theorem wS_X6_X6_bringBack : (.selects RX6 yX6_bringBack yX6_bringBack : Cond) ∈ sd_gd := sd_gd_in (sd_m3 (i := 159) (by decide +kernel)) rfl
theorem wC_X6_bringBack : (.code yX6_bringBack cX6_bringBack 2 none : Cond) ∈ sd_gd := sd_gd_in (sd_m3 (i := 160) (by decide +kernel)) rfl
theorem wM_L_77 : (.methodLink RL 77 yX11_seed : Cond) ∈ sd_gd := sd_gd_in (sd_m3 (i := 161) (by decide +kernel)) rfl
theorem wI_X11_seed : (.instanceMethod yX11_seed : Cond) ∈ sd_gd := sd_gd_in (sd_m3 (i := 162) (by decide +kernel)) rfl
theorem wS_X11_X11_seed : (.selects RX11 yX11_seed yX11_seed : Cond) ∈ sd_gd := sd_gd_in (sd_m3 (i := 163) (by decide +kernel)) rfl
theorem wC_X11_seed : (.code yX11_seed cX11_seed 3 (some .int) : Cond) ∈ sd_gd := sd_gd_in (sd_m3 (i := 164) (by decide +kernel)) rfl
theorem wM_L_81 : (.methodLink RL 81 yX11_ahead : Cond) ∈ sd_gd := sd_gd_in (sd_m3 (i := 165) (by decide +kernel)) rfl
theorem wI_X11_ahead : (.instanceMethod yX11_ahead : Cond) ∈ sd_gd := sd_gd_in (sd_m3 (i := 166) (by decide +kernel)) rfl
theorem wS_X11_X11_ahead : (.selects RX11 yX11_ahead yX11_ahead : Cond) ∈ sd_gd := sd_gd_in (sd_m3 (i := 167) (by decide +kernel)) rfl
theorem wC_X11_ahead : (.code yX11_ahead cX11_ahead 5 (some .int) : Cond) ∈ sd_gd := sd_gd_in (sd_m3 (i := 168) (by decide +kernel)) rfl
theorem wM_X11_199 : (.methodLink RX11 199 yX2_leftBehind : Cond) ∈ sd_gd := sd_gd_in (sd_m3 (i := 169) (by decide +kernel)) rfl
theorem wM_L_85 : (.methodLink RL 85 yX11_loudAhead : Cond) ∈ sd_gd := sd_gd_in (sd_m3 (i := 170) (by decide +kernel)) rfl
theorem wI_X11_loudAhead : (.instanceMethod yX11_loudAhead : Cond) ∈ sd_gd := sd_gd_in (sd_m3 (i := 171) (by decide +kernel)) rfl
theorem wS_X11_X11_loudAhead : (.selects RX11 yX11_loudAhead yX11_loudAhead : Cond) ∈ sd_gd := sd_gd_in (sd_m3 (i := 172) (by decide +kernel)) rfl
theorem wC_X11_loudAhead : (.code yX11_loudAhead cX11_loudAhead 3 (some .int) : Cond) ∈ sd_gd := sd_gd_in (sd_m3 (i := 173) (by decide +kernel)) rfl
theorem wM_X11_203 : (.methodLink RX11 203 yX5_look : Cond) ∈ sd_gd := sd_gd_in (sd_m3 (i := 174) (by decide +kernel)) rfl
theorem wI_X5_look : (.instanceMethod yX5_look : Cond) ∈ sd_gd := sd_gd_in (sd_m3 (i := 175) (by decide +kernel)) rfl
theorem wS_X5_X5_look : (.selects RX5 yX5_look yX5_look : Cond) ∈ sd_gd := sd_gd_in (sd_m3 (i := 176) (by decide +kernel)) rfl
theorem wC_X5_look : (.code yX5_look cX5_look 6 none : Cond) ∈ sd_gd := sd_gd_in (sd_m3 (i := 177) (by decide +kernel)) rfl
theorem wM_X5_21 : (.methodLink RX5 21 yJ9_min_7cf53 : Cond) ∈ sd_gd := sd_gd_in (sd_m3 (i := 178) (by decide +kernel)) rfl
theorem wM_X5_44 : (.methodLink RX5 44 ⟨"java/lang/System", "arraycopy", "(Ljava/lang/Object;ILjava/lang/Object;II)V"⟩ : Cond) ∈ sd_gd := sd_gd_in (sd_m3 (i := 179) (by decide +kernel)) rfl
theorem wM_X5_53 : (.methodLink RX5 53 yX2_loudWith : Cond) ∈ sd_gd := sd_gd_in (sd_m3 (i := 180) (by decide +kernel)) rfl
theorem wM_X5_63 : (.methodLink RX5 63 yX2_leftBehind : Cond) ∈ sd_gd := sd_gd_in (sd_m3 (i := 181) (by decide +kernel)) rfl
theorem wM_X11_207 : (.methodLink RX11 207 yX5_listen : Cond) ∈ sd_gd := sd_gd_in (sd_m3 (i := 182) (by decide +kernel)) rfl
theorem wI_X5_listen : (.instanceMethod yX5_listen : Cond) ∈ sd_gd := sd_gd_in (sd_m3 (i := 183) (by decide +kernel)) rfl
theorem wS_X5_X5_listen : (.selects RX5 yX5_listen yX5_listen : Cond) ∈ sd_gd := sd_gd_in (sd_m3 (i := 184) (by decide +kernel)) rfl
theorem wC_X5_listen : (.code yX5_listen cX5_listen 4 none : Cond) ∈ sd_gd := sd_gd_in (sd_m3 (i := 185) (by decide +kernel)) rfl
theorem wM_L_89 : (.methodLink RL 89 yX11_sleeps : Cond) ∈ sd_gd := sd_gd_in (sd_m3 (i := 187) (by decide +kernel)) rfl
theorem wI_X11_sleeps : (.instanceMethod yX11_sleeps : Cond) ∈ sd_gd := sd_gd_in (sd_m3 (i := 188) (by decide +kernel)) rfl
theorem wS_X11_X11_sleeps : (.selects RX11 yX11_sleeps yX11_sleeps : Cond) ∈ sd_gd := sd_gd_in (sd_m3 (i := 189) (by decide +kernel)) rfl
theorem wC_X11_sleeps : (.code yX11_sleeps cX11_sleeps 3 (some .int) : Cond) ∈ sd_gd := sd_gd_in (sd_m3 (i := 190) (by decide +kernel)) rfl
theorem wM_X11_210 : (.methodLink RX11 210 yX5_wakingsIn : Cond) ∈ sd_gd := sd_gd_in (sd_m3 (i := 191) (by decide +kernel)) rfl
theorem wI_X5_wakingsIn : (.instanceMethod yX5_wakingsIn : Cond) ∈ sd_gd := sd_gd_in (sd_m3 (i := 192) (by decide +kernel)) rfl
theorem wS_X5_X5_wakingsIn : (.selects RX5 yX5_wakingsIn yX5_wakingsIn : Cond) ∈ sd_gd := sd_gd_in (sd_m3 (i := 193) (by decide +kernel)) rfl
theorem wC_X5_wakingsIn : (.code yX5_wakingsIn cX5_wakingsIn 5 (some .int) : Cond) ∈ sd_gd := sd_gd_in (sd_m3 (i := 194) (by decide +kernel)) rfl
theorem wM_X5_71 : (.methodLink RX5 71 yX5_listen : Cond) ∈ sd_gd := sd_gd_in (sd_m3 (i := 195) (by decide +kernel)) rfl
theorem wM_L_93 : (.methodLink RL 93 yX11_peace : Cond) ∈ sd_gd := sd_gd_in (sd_m3 (i := 196) (by decide +kernel)) rfl
theorem wI_X11_peace : (.instanceMethod yX11_peace : Cond) ∈ sd_gd := sd_gd_in (sd_m3 (i := 197) (by decide +kernel)) rfl
theorem wS_X11_X11_peace : (.selects RX11 yX11_peace yX11_peace : Cond) ∈ sd_gd := sd_gd_in (sd_m3 (i := 198) (by decide +kernel)) rfl
theorem wC_X11_peace : (.code yX11_peace cX11_peace 2 (some .int) : Cond) ∈ sd_gd := sd_gd_in (sd_m3 (i := 199) (by decide +kernel)) rfl
theorem wM_X11_214 : (.methodLink RX11 214 yX5_wokenIn : Cond) ∈ sd_gd := sd_gd_in (sd_m3 (i := 200) (by decide +kernel)) rfl
theorem wI_X5_wokenIn : (.instanceMethod yX5_wokenIn : Cond) ∈ sd_gd := sd_gd_in (sd_m3 (i := 201) (by decide +kernel)) rfl
theorem wS_X5_X5_wokenIn : (.selects RX5 yX5_wokenIn yX5_wokenIn : Cond) ∈ sd_gd := sd_gd_in (sd_m3 (i := 202) (by decide +kernel)) rfl
theorem wC_X5_wokenIn : (.code yX5_wokenIn cX5_wokenIn 6 (some .int) : Cond) ∈ sd_gd := sd_gd_in (sd_m3 (i := 203) (by decide +kernel)) rfl
theorem wM_L_97 : (.methodLink RL 97 yX11_best : Cond) ∈ sd_gd := sd_gd_in (sd_m3 (i := 204) (by decide +kernel)) rfl
theorem wI_X11_best : (.instanceMethod yX11_best : Cond) ∈ sd_gd := sd_gd_in (sd_m3 (i := 205) (by decide +kernel)) rfl
theorem wS_X11_X11_best : (.selects RX11 yX11_best yX11_best : Cond) ∈ sd_gd := sd_gd_in (sd_m3 (i := 206) (by decide +kernel)) rfl
theorem wC_X11_best : (.code yX11_best cX11_best 8 (some .int) : Cond) ∈ sd_gd := sd_gd_in (sd_m3 (i := 207) (by decide +kernel)) rfl
theorem wM_X11_219 : (.methodLink RX11 219 yX5_wakings : Cond) ∈ sd_gd := sd_gd_in (sd_m3 (i := 208) (by decide +kernel)) rfl
theorem wI_X5_wakings : (.instanceMethod yX5_wakings : Cond) ∈ sd_gd := sd_gd_in (sd_m3 (i := 209) (by decide +kernel)) rfl
theorem wS_X5_X5_wakings : (.selects RX5 yX5_wakings yX5_wakings : Cond) ∈ sd_gd := sd_gd_in (sd_m3 (i := 210) (by decide +kernel)) rfl
theorem wC_X5_wakings : (.code yX5_wakings cX5_wakings 4 (some .int) : Cond) ∈ sd_gd := sd_gd_in (sd_m3 (i := 211) (by decide +kernel)) rfl
theorem wM_X5_84 : (.methodLink RX5 84 yX5_wokenIn : Cond) ∈ sd_gd := sd_gd_in (sd_m3 (i := 212) (by decide +kernel)) rfl
theorem wM_L_102 : (.methodLink RL 102 yX11_bestBed : Cond) ∈ sd_gd := sd_gd_in (sd_m3 (i := 213) (by decide +kernel)) rfl
theorem wI_X11_bestBed : (.instanceMethod yX11_bestBed : Cond) ∈ sd_gd := sd_gd_in (sd_m3 (i := 214) (by decide +kernel)) rfl
theorem wS_X11_X11_bestBed : (.selects RX11 yX11_bestBed yX11_bestBed : Cond) ∈ sd_gd := sd_gd_in (sd_m3 (i := 215) (by decide +kernel)) rfl
theorem wC_X11_bestBed : (.code yX11_bestBed cX11_bestBed 8 (some .int) : Cond) ∈ sd_gd := sd_gd_in (sd_m3 (i := 216) (by decide +kernel)) rfl
theorem wM_L_106 : (.methodLink RL 106 yX11_change : Cond) ∈ sd_gd := sd_gd_in (sd_m3 (i := 217) (by decide +kernel)) rfl
theorem wI_X11_change : (.instanceMethod yX11_change : Cond) ∈ sd_gd := sd_gd_in (sd_m3 (i := 218) (by decide +kernel)) rfl
theorem wS_X11_X11_change : (.selects RX11 yX11_change yX11_change : Cond) ∈ sd_gd := sd_gd_in (sd_m3 (i := 219) (by decide +kernel)) rfl
theorem wC_X11_change : (.code yX11_change cX11_change 8 (some .int) : Cond) ∈ sd_gd := sd_gd_in (sd_m3 (i := 220) (by decide +kernel)) rfl
theorem wM_X11_223 : (.methodLink RX11 223 yX5_swapRooms : Cond) ∈ sd_gd := sd_gd_in (sd_m3 (i := 221) (by decide +kernel)) rfl
theorem wI_X5_swapRooms : (.instanceMethod yX5_swapRooms : Cond) ∈ sd_gd := sd_gd_in (sd_m3 (i := 222) (by decide +kernel)) rfl
theorem wS_X5_X5_swapRooms : (.selects RX5 yX5_swapRooms yX5_swapRooms : Cond) ∈ sd_gd := sd_gd_in (sd_m3 (i := 223) (by decide +kernel)) rfl
theorem wC_X5_swapRooms : (.code yX5_swapRooms cX5_swapRooms 6 none : Cond) ∈ sd_gd := sd_gd_in (sd_m3 (i := 224) (by decide +kernel)) rfl
theorem wM_L_110 : (.methodLink RL 110 yX11_backs : Cond) ∈ sd_gd := sd_gd_in (sd_m3 (i := 225) (by decide +kernel)) rfl
theorem wI_X11_backs : (.instanceMethod yX11_backs : Cond) ∈ sd_gd := sd_gd_in (sd_m3 (i := 226) (by decide +kernel)) rfl
theorem wS_X11_X11_backs : (.selects RX11 yX11_backs yX11_backs : Cond) ∈ sd_gd := sd_gd_in (sd_m3 (i := 227) (by decide +kernel)) rfl
theorem wC_X11_backs : (.code yX11_backs cX11_backs 5 (some .int) : Cond) ∈ sd_gd := sd_gd_in (sd_m3 (i := 228) (by decide +kernel)) rfl
theorem wM_X11_227 : (.methodLink RX11 227 yJ6_bitCount_0f7a4 : Cond) ∈ sd_gd := sd_gd_in (sd_m3 (i := 229) (by decide +kernel)) rfl
theorem wT_J6_bitCount_0f7a4 : (.static yJ6_bitCount_0f7a4 : Cond) ∈ sd_gd := sd_gd_in (sd_m3 (i := 230) (by decide +kernel)) rfl
theorem wC_J6_bitCount_0f7a4 : (.code yJ6_bitCount_0f7a4 cJ6_bitCount_0f7a4 1 (some .int) : Cond) ∈ sd_gd := sd_gd_in (sd_m3 (i := 231) (by decide +kernel)) rfl
theorem wK_J6_265 : (.constant RJ6 265 (1431655765) : Cond) ∈ sd_gd := sd_gd_in (sd_m3 (i := 232) (by decide +kernel)) rfl
theorem wK_J6_266 : (.constant RJ6 266 (858993459) : Cond) ∈ sd_gd := sd_gd_in (sd_m3 (i := 233) (by decide +kernel)) rfl
theorem wK_J6_267 : (.constant RJ6 267 (252645135) : Cond) ∈ sd_gd := sd_gd_in (sd_m3 (i := 234) (by decide +kernel)) rfl
theorem wM_X11_232 : (.methodLink RX11 232 yX5_isQuietWithout : Cond) ∈ sd_gd := sd_gd_in (sd_m3 (i := 235) (by decide +kernel)) rfl
theorem wI_X5_isQuietWithout : (.instanceMethod yX5_isQuietWithout : Cond) ∈ sd_gd := sd_gd_in (sd_m3 (i := 236) (by decide +kernel)) rfl
theorem wS_X5_X5_isQuietWithout : (.selects RX5 yX5_isQuietWithout yX5_isQuietWithout : Cond) ∈ sd_gd := sd_gd_in (sd_m3 (i := 237) (by decide +kernel)) rfl
theorem wC_X5_isQuietWithout : (.code yX5_isQuietWithout cX5_isQuietWithout 4 (some .boolean) : Cond) ∈ sd_gd := sd_gd_in (sd_m3 (i := 238) (by decide +kernel)) rfl
theorem wM_L_114 : (.methodLink RL 114 yX11_luck : Cond) ∈ sd_gd := sd_gd_in (sd_m3 (i := 239) (by decide +kernel)) rfl
theorem wI_X11_luck : (.instanceMethod yX11_luck : Cond) ∈ sd_gd := sd_gd_in (sd_m4 (i := 0) (by decide +kernel)) rfl
theorem wS_X11_X11_luck : (.selects RX11 yX11_luck yX11_luck : Cond) ∈ sd_gd := sd_gd_in (sd_m4 (i := 1) (by decide +kernel)) rfl
theorem wC_X11_luck : (.code yX11_luck cX11_luck 9 (some .int) : Cond) ∈ sd_gd := sd_gd_in (sd_m4 (i := 2) (by decide +kernel)) rfl
theorem wM_X11_236 : (.methodLink RX11 236 yX11_isIn : Cond) ∈ sd_gd := sd_gd_in (sd_m4 (i := 3) (by decide +kernel)) rfl
theorem wM_X11_240 : (.methodLink RX11 240 yX2_loudOfSet : Cond) ∈ sd_gd := sd_gd_in (sd_m4 (i := 4) (by decide +kernel)) rfl
theorem wM_X11_243 : (.methodLink RX11 243 yX11_ways : Cond) ∈ sd_gd := sd_gd_in (sd_m4 (i := 5) (by decide +kernel)) rfl
theorem wI_X11_ways : (.instanceMethod yX11_ways : Cond) ∈ sd_gd := sd_gd_in (sd_m4 (i := 7) (by decide +kernel)) rfl
theorem wC_X11_ways : (.code yX11_ways cX11_ways 6 (some .int) : Cond) ∈ sd_gd := sd_gd_in (sd_m4 (i := 8) (by decide +kernel)) rfl
theorem wM_X11_246 : (.methodLink RX11 246 yX11_greatestCommon : Cond) ∈ sd_gd := sd_gd_in (sd_m4 (i := 9) (by decide +kernel)) rfl
theorem wT_X11_greatestCommon : (.static yX11_greatestCommon : Cond) ∈ sd_gd := sd_gd_in (sd_m4 (i := 10) (by decide +kernel)) rfl
theorem wC_X11_greatestCommon : (.code yX11_greatestCommon cX11_greatestCommon 6 (some .int) : Cond) ∈ sd_gd := sd_gd_in (sd_m4 (i := 11) (by decide +kernel)) rfl
theorem wM_L_118 : (.methodLink RL 118 yX11_thanked : Cond) ∈ sd_gd := sd_gd_in (sd_m4 (i := 12) (by decide +kernel)) rfl
theorem wI_X11_thanked : (.instanceMethod yX11_thanked : Cond) ∈ sd_gd := sd_gd_in (sd_m4 (i := 13) (by decide +kernel)) rfl
theorem wS_X11_X11_thanked : (.selects RX11 yX11_thanked yX11_thanked : Cond) ∈ sd_gd := sd_gd_in (sd_m4 (i := 14) (by decide +kernel)) rfl
theorem wC_X11_thanked : (.code yX11_thanked cX11_thanked 2 (some .int) : Cond) ∈ sd_gd := sd_gd_in (sd_m4 (i := 15) (by decide +kernel)) rfl
theorem wM_X11_249 : (.methodLink RX11 249 yX2_thingsOf : Cond) ∈ sd_gd := sd_gd_in (sd_m4 (i := 16) (by decide +kernel)) rfl
theorem wI_X2_thingsOf : (.instanceMethod yX2_thingsOf : Cond) ∈ sd_gd := sd_gd_in (sd_m4 (i := 17) (by decide +kernel)) rfl
theorem wS_X2_X2_thingsOf : (.selects RX2 yX2_thingsOf yX2_thingsOf : Cond) ∈ sd_gd := sd_gd_in (sd_m4 (i := 18) (by decide +kernel)) rfl
theorem wC_X2_thingsOf : (.code yX2_thingsOf cX2_thingsOf 2 (some .int) : Cond) ∈ sd_gd := sd_gd_in (sd_m4 (i := 19) (by decide +kernel)) rfl
theorem wM_L_122 : (.methodLink RL 122 yX11_image : Cond) ∈ sd_gd := sd_gd_in (sd_m4 (i := 20) (by decide +kernel)) rfl
theorem wI_X11_image : (.instanceMethod yX11_image : Cond) ∈ sd_gd := sd_gd_in (sd_m4 (i := 21) (by decide +kernel)) rfl
theorem wS_X11_X11_image : (.selects RX11 yX11_image yX11_image : Cond) ∈ sd_gd := sd_gd_in (sd_m4 (i := 22) (by decide +kernel)) rfl
theorem wC_X11_image : (.code yX11_image cX11_image 1 (some .int) : Cond) ∈ sd_gd := sd_gd_in (sd_m4 (i := 23) (by decide +kernel)) rfl
theorem wM_X11_252 : (.methodLink RX11 252 yX6_takeAll : Cond) ∈ sd_gd := sd_gd_in (sd_m4 (i := 24) (by decide +kernel)) rfl
theorem wI_X6_takeAll : (.instanceMethod yX6_takeAll : Cond) ∈ sd_gd := sd_gd_in (sd_m4 (i := 25) (by decide +kernel)) rfl
theorem wS_X6_X6_takeAll : (.selects RX6 yX6_takeAll yX6_takeAll : Cond) ∈ sd_gd := sd_gd_in (sd_m4 (i := 26) (by decide +kernel)) rfl
theorem wC_X6_takeAll : (.code yX6_takeAll cX6_takeAll 3 none : Cond) ∈ sd_gd := sd_gd_in (sd_m4 (i := 27) (by decide +kernel)) rfl
theorem wM_L_126 : (.methodLink RL 126 yX11_restore : Cond) ∈ sd_gd := sd_gd_in (sd_m4 (i := 28) (by decide +kernel)) rfl
theorem wI_X11_restore : (.instanceMethod yX11_restore : Cond) ∈ sd_gd := sd_gd_in (sd_m4 (i := 29) (by decide +kernel)) rfl
theorem wS_X11_X11_restore : (.selects RX11 yX11_restore yX11_restore : Cond) ∈ sd_gd := sd_gd_in (sd_m4 (i := 30) (by decide +kernel)) rfl
theorem wC_X11_restore : (.code yX11_restore cX11_restore 1 (some .int) : Cond) ∈ sd_gd := sd_gd_in (sd_m4 (i := 31) (by decide +kernel)) rfl
theorem wM_L_130 : (.methodLink RL 130 yX11_heard : Cond) ∈ sd_gd := sd_gd_in (sd_m4 (i := 32) (by decide +kernel)) rfl
theorem wI_X11_heard : (.instanceMethod yX11_heard : Cond) ∈ sd_gd := sd_gd_in (sd_m4 (i := 33) (by decide +kernel)) rfl
theorem wS_X11_X11_heard : (.selects RX11 yX11_heard yX11_heard : Cond) ∈ sd_gd := sd_gd_in (sd_m4 (i := 34) (by decide +kernel)) rfl
theorem wC_X11_heard : (.code yX11_heard cX11_heard 8 (some .int) : Cond) ∈ sd_gd := sd_gd_in (sd_m4 (i := 35) (by decide +kernel)) rfl
theorem wM_X11_259 : (.methodLink RX11 259 yX11_isSheet : Cond) ∈ sd_gd := sd_gd_in (sd_m4 (i := 36) (by decide +kernel)) rfl
theorem wT_X11_isSheet : (.static yX11_isSheet : Cond) ∈ sd_gd := sd_gd_in (sd_m4 (i := 37) (by decide +kernel)) rfl
theorem wC_X11_isSheet : (.code yX11_isSheet cX11_isSheet 1 (some .boolean) : Cond) ∈ sd_gd := sd_gd_in (sd_m4 (i := 38) (by decide +kernel)) rfl
theorem wM_X11_262 : (.methodLink RX11 262 yX11_isLane : Cond) ∈ sd_gd := sd_gd_in (sd_m4 (i := 39) (by decide +kernel)) rfl
theorem wT_X11_isLane : (.static yX11_isLane : Cond) ∈ sd_gd := sd_gd_in (sd_m4 (i := 40) (by decide +kernel)) rfl
theorem wC_X11_isLane : (.code yX11_isLane cX11_isLane 1 (some .boolean) : Cond) ∈ sd_gd := sd_gd_in (sd_m4 (i := 41) (by decide +kernel)) rfl
theorem wM_X11_265 : (.methodLink RX11 265 yX9_refusal : Cond) ∈ sd_gd := sd_gd_in (sd_m4 (i := 42) (by decide +kernel)) rfl
theorem wI_X9_refusal : (.instanceMethod yX9_refusal : Cond) ∈ sd_gd := sd_gd_in (sd_m4 (i := 43) (by decide +kernel)) rfl
theorem wS_X9_X9_refusal : (.selects RX9 yX9_refusal yX9_refusal : Cond) ∈ sd_gd := sd_gd_in (sd_m4 (i := 44) (by decide +kernel)) rfl
theorem wC_X9_refusal : (.code yX9_refusal cX9_refusal 4 (some .int) : Cond) ∈ sd_gd := sd_gd_in (sd_m4 (i := 45) (by decide +kernel)) rfl
theorem wM_X9_26 : (.methodLink RX9 26 yX9_spans : Cond) ∈ sd_gd := sd_gd_in (sd_m4 (i := 46) (by decide +kernel)) rfl
theorem wI_X9_spans : (.instanceMethod yX9_spans : Cond) ∈ sd_gd := sd_gd_in (sd_m4 (i := 47) (by decide +kernel)) rfl
theorem wS_X9_X9_spans : (.selects RX9 yX9_spans yX9_spans : Cond) ∈ sd_gd := sd_gd_in (sd_m4 (i := 48) (by decide +kernel)) rfl
theorem wC_X9_spans : (.code yX9_spans cX9_spans 3 (some .boolean) : Cond) ∈ sd_gd := sd_gd_in (sd_m4 (i := 49) (by decide +kernel)) rfl
theorem wM_X11_268 : (.methodLink RX11 268 yX11_kindsHeard : Cond) ∈ sd_gd := sd_gd_in (sd_m4 (i := 50) (by decide +kernel)) rfl
theorem wI_X11_kindsHeard : (.instanceMethod yX11_kindsHeard : Cond) ∈ sd_gd := sd_gd_in (sd_m4 (i := 52) (by decide +kernel)) rfl
theorem wC_X11_kindsHeard : (.code yX11_kindsHeard cX11_kindsHeard 7 (some .int) : Cond) ∈ sd_gd := sd_gd_in (sd_m4 (i := 53) (by decide +kernel)) rfl
theorem wM_X11_308 : (.methodLink RX11 308 yX11_isHeardAs : Cond) ∈ sd_gd := sd_gd_in (sd_m4 (i := 54) (by decide +kernel)) rfl
theorem wI_X11_isHeardAs : (.instanceMethod yX11_isHeardAs : Cond) ∈ sd_gd := sd_gd_in (sd_m4 (i := 56) (by decide +kernel)) rfl
theorem wC_X11_isHeardAs : (.code yX11_isHeardAs cX11_isHeardAs 9 (some .boolean) : Cond) ∈ sd_gd := sd_gd_in (sd_m4 (i := 57) (by decide +kernel)) rfl
theorem wM_X11_272 : (.methodLink RX11 272 yX11_dearsHeard : Cond) ∈ sd_gd := sd_gd_in (sd_m4 (i := 58) (by decide +kernel)) rfl
theorem wI_X11_dearsHeard : (.instanceMethod yX11_dearsHeard : Cond) ∈ sd_gd := sd_gd_in (sd_m4 (i := 60) (by decide +kernel)) rfl
theorem wC_X11_dearsHeard : (.code yX11_dearsHeard cX11_dearsHeard 7 (some .int) : Cond) ∈ sd_gd := sd_gd_in (sd_m4 (i := 61) (by decide +kernel)) rfl
theorem wM_L_135 : (.methodLink RL 135 yX11_film : Cond) ∈ sd_gd := sd_gd_in (sd_m4 (i := 62) (by decide +kernel)) rfl
theorem wI_X11_film : (.instanceMethod yX11_film : Cond) ∈ sd_gd := sd_gd_in (sd_m4 (i := 63) (by decide +kernel)) rfl
theorem wS_X11_X11_film : (.selects RX11 yX11_film yX11_film : Cond) ∈ sd_gd := sd_gd_in (sd_m4 (i := 64) (by decide +kernel)) rfl
theorem wC_X11_film : (.code yX11_film cX11_film 9 (some .int) : Cond) ∈ sd_gd := sd_gd_in (sd_m4 (i := 65) (by decide +kernel)) rfl
theorem wM_X11_275 : (.methodLink RX11 275 yX9_put : Cond) ∈ sd_gd := sd_gd_in (sd_m4 (i := 66) (by decide +kernel)) rfl
theorem wI_X9_put : (.instanceMethod yX9_put : Cond) ∈ sd_gd := sd_gd_in (sd_m4 (i := 67) (by decide +kernel)) rfl
theorem wS_X9_X9_put : (.selects RX9 yX9_put yX9_put : Cond) ∈ sd_gd := sd_gd_in (sd_m4 (i := 68) (by decide +kernel)) rfl
theorem wC_X9_put : (.code yX9_put cX9_put 4 none : Cond) ∈ sd_gd := sd_gd_in (sd_m4 (i := 69) (by decide +kernel)) rfl
theorem wM_L_140 : (.methodLink RL 140 yX11_sheet : Cond) ∈ sd_gd := sd_gd_in (sd_m4 (i := 70) (by decide +kernel)) rfl
theorem wI_X11_sheet : (.instanceMethod yX11_sheet : Cond) ∈ sd_gd := sd_gd_in (sd_m4 (i := 71) (by decide +kernel)) rfl
theorem wS_X11_X11_sheet : (.selects RX11 yX11_sheet yX11_sheet : Cond) ∈ sd_gd := sd_gd_in (sd_m4 (i := 72) (by decide +kernel)) rfl
theorem wC_X11_sheet : (.code yX11_sheet cX11_sheet 4 (some .int) : Cond) ∈ sd_gd := sd_gd_in (sd_m4 (i := 73) (by decide +kernel)) rfl
theorem wM_X11_279 : (.methodLink RX11 279 yX9_renew : Cond) ∈ sd_gd := sd_gd_in (sd_m4 (i := 74) (by decide +kernel)) rfl
theorem wI_X9_renew : (.instanceMethod yX9_renew : Cond) ∈ sd_gd := sd_gd_in (sd_m4 (i := 75) (by decide +kernel)) rfl
theorem wS_X9_X9_renew : (.selects RX9 yX9_renew yX9_renew : Cond) ∈ sd_gd := sd_gd_in (sd_m4 (i := 76) (by decide +kernel)) rfl
theorem wC_X9_renew : (.code yX9_renew cX9_renew 4 none : Cond) ∈ sd_gd := sd_gd_in (sd_m4 (i := 77) (by decide +kernel)) rfl
theorem wM_L_144 : (.methodLink RL 144 yX11_drop : Cond) ∈ sd_gd := sd_gd_in (sd_m4 (i := 78) (by decide +kernel)) rfl
theorem wI_X11_drop : (.instanceMethod yX11_drop : Cond) ∈ sd_gd := sd_gd_in (sd_m4 (i := 79) (by decide +kernel)) rfl
theorem wS_X11_X11_drop : (.selects RX11 yX11_drop yX11_drop : Cond) ∈ sd_gd := sd_gd_in (sd_m4 (i := 80) (by decide +kernel)) rfl
theorem wC_X11_drop : (.code yX11_drop cX11_drop 2 (some .int) : Cond) ∈ sd_gd := sd_gd_in (sd_m4 (i := 81) (by decide +kernel)) rfl
theorem wM_L_150 : (.methodLink RL 150 yX11_item : Cond) ∈ sd_gd := sd_gd_in (sd_m4 (i := 82) (by decide +kernel)) rfl
theorem wI_X11_item : (.instanceMethod yX11_item : Cond) ∈ sd_gd := sd_gd_in (sd_m4 (i := 83) (by decide +kernel)) rfl
theorem wS_X11_X11_item : (.selects RX11 yX11_item yX11_item : Cond) ∈ sd_gd := sd_gd_in (sd_m4 (i := 84) (by decide +kernel)) rfl
theorem wC_X11_item : (.code yX11_item cX11_item 7 (some .int) : Cond) ∈ sd_gd := sd_gd_in (sd_m4 (i := 85) (by decide +kernel)) rfl
theorem wM_L_155 : (.methodLink RL 155 yX11_copy : Cond) ∈ sd_gd := sd_gd_in (sd_m4 (i := 86) (by decide +kernel)) rfl
theorem wI_X11_copy : (.instanceMethod yX11_copy : Cond) ∈ sd_gd := sd_gd_in (sd_m4 (i := 87) (by decide +kernel)) rfl
theorem wS_X11_X11_copy : (.selects RX11 yX11_copy yX11_copy : Cond) ∈ sd_gd := sd_gd_in (sd_m4 (i := 88) (by decide +kernel)) rfl
theorem wC_X11_copy : (.code yX11_copy cX11_copy 8 (some .int) : Cond) ∈ sd_gd := sd_gd_in (sd_m4 (i := 89) (by decide +kernel)) rfl
theorem wM_X11_289 : (.methodLink RX11 289 yX9_spans : Cond) ∈ sd_gd := sd_gd_in (sd_m4 (i := 90) (by decide +kernel)) rfl
theorem wM_X11_296 : (.methodLink RX11 296 ⟨"java/lang/System", "arraycopy", "(Ljava/lang/Object;ILjava/lang/Object;II)V"⟩ : Cond) ∈ sd_gd := sd_gd_in (sd_m4 (i := 91) (by decide +kernel)) rfl
theorem wL_L_10 : (.classLink RL 10 RX12 : Cond) ∈ sd_gd := sd_gd_in (sd_m4 (i := 92) (by decide +kernel)) rfl
theorem wB_X12 : (.instantiable RX12 12 : Cond) ∈ sd_gd := sd_gd_in (sd_m4 (i := 93) (by decide +kernel)) rfl
theorem wM_L_12 : (.methodLink RL 12 yX12_init : Cond) ∈ sd_gd := sd_gd_in (sd_m4 (i := 94) (by decide +kernel)) rfl
theorem wI_X12_init : (.instanceMethod yX12_init : Cond) ∈ sd_gd := sd_gd_in (sd_m4 (i := 95) (by decide +kernel)) rfl
theorem wC_X12_init : (.code yX12_init cX12_init 2 none : Cond) ∈ sd_gd := sd_gd_in (sd_m4 (i := 96) (by decide +kernel)) rfl
theorem wM_X12_1 : (.methodLink RX12 1 Lib.objectInit : Cond) ∈ sd_gd := sd_gd_in (sd_m4 (i := 97) (by decide +kernel)) rfl
theorem wF_X12_7 : (.fieldLink RX12 7 "ThankingGiftsModel" "lane" "[I" : Cond) ∈ sd_gd := sd_gd_in (sd_m4 (i := 98) (by decide +kernel)) rfl
theorem wF_X12_13 : (.fieldLink RX12 13 "ThankingGiftsModel" "size" "[I" : Cond) ∈ sd_gd := sd_gd_in (sd_m4 (i := 99) (by decide +kernel)) rfl
theorem wF_X12_16 : (.fieldLink RX12 16 "ThankingGiftsModel" "item" "[J" : Cond) ∈ sd_gd := sd_gd_in (sd_m4 (i := 100) (by decide +kernel)) rfl
theorem wF_X12_76 : (.fieldLink RX12 76 "ThankingGiftsModel" "letters" "I" : Cond) ∈ sd_gd := sd_gd_in (sd_m4 (i := 101) (by decide +kernel)) rfl
theorem wF_X12_20 : (.fieldLink RX12 20 "ThankingGiftsModel" "tape" "[I" : Cond) ∈ sd_gd := sd_gd_in (sd_m4 (i := 102) (by decide +kernel)) rfl
theorem wF_X12_80 : (.fieldLink RX12 80 "ThankingGiftsModel" "position" "I" : Cond) ∈ sd_gd := sd_gd_in (sd_m4 (i := 103) (by decide +kernel)) rfl
theorem wF_X12_87 : (.fieldLink RX12 87 "ThankingGiftsModel" "number" "I" : Cond) ∈ sd_gd := sd_gd_in (sd_m4 (i := 104) (by decide +kernel)) rfl
theorem wF_X12_23 : (.fieldLink RX12 23 "ThankingGiftsModel" "now" "[I" : Cond) ∈ sd_gd := sd_gd_in (sd_m4 (i := 105) (by decide +kernel)) rfl
theorem wF_X12_26 : (.fieldLink RX12 26 "ThankingGiftsModel" "tried" "[I" : Cond) ∈ sd_gd := sd_gd_in (sd_m4 (i := 106) (by decide +kernel)) rfl
theorem wF_X12_29 : (.fieldLink RX12 29 "ThankingGiftsModel" "read" "[I" : Cond) ∈ sd_gd := sd_gd_in (sd_m4 (i := 107) (by decide +kernel)) rfl
theorem wF_X12_32 : (.fieldLink RX12 32 "ThankingGiftsModel" "kept" "[I" : Cond) ∈ sd_gd := sd_gd_in (sd_m4 (i := 108) (by decide +kernel)) rfl
theorem wF_X12_154 : (.fieldLink RX12 154 "ThankingGiftsModel" "isKept" "Z" : Cond) ∈ sd_gd := sd_gd_in (sd_m4 (i := 109) (by decide +kernel)) rfl
theorem wM_L_17 : (.methodLink RL 17 yX12_sleeper : Cond) ∈ sd_gd := sd_gd_in (sd_m4 (i := 135) (by decide +kernel)) rfl
theorem wI_X12_sleeper : (.instanceMethod yX12_sleeper : Cond) ∈ sd_gd := sd_gd_in (sd_m4 (i := 136) (by decide +kernel)) rfl
theorem wS_X12_X12_sleeper : (.selects RX12 yX12_sleeper yX12_sleeper : Cond) ∈ sd_gd := sd_gd_in (sd_m4 (i := 137) (by decide +kernel)) rfl
theorem wC_X12_sleeper : (.code yX12_sleeper cX12_sleeper 3 (some .int) : Cond) ∈ sd_gd := sd_gd_in (sd_m4 (i := 138) (by decide +kernel)) rfl
theorem wM_X12_43 : (.methodLink RX12 43 yX12_isRoom : Cond) ∈ sd_gd := sd_gd_in (sd_m4 (i := 139) (by decide +kernel)) rfl
theorem wT_X12_isRoom : (.static yX12_isRoom : Cond) ∈ sd_gd := sd_gd_in (sd_m4 (i := 140) (by decide +kernel)) rfl
theorem wC_X12_isRoom : (.code yX12_isRoom cX12_isRoom 1 (some .boolean) : Cond) ∈ sd_gd := sd_gd_in (sd_m4 (i := 141) (by decide +kernel)) rfl
theorem wM_X12_35 : (.methodLink RX12 35 yX12_in : Cond) ∈ sd_gd := sd_gd_in (sd_m4 (i := 142) (by decide +kernel)) rfl
theorem wT_X12_in : (.static yX12_in : Cond) ∈ sd_gd := sd_gd_in (sd_m4 (i := 143) (by decide +kernel)) rfl
theorem wC_X12_in : (.code yX12_in cX12_in 3 (some .boolean) : Cond) ∈ sd_gd := sd_gd_in (sd_m4 (i := 144) (by decide +kernel)) rfl
theorem wM_X12_47 : (.methodLink RX12 47 yX12_addSleeper : Cond) ∈ sd_gd := sd_gd_in (sd_m4 (i := 145) (by decide +kernel)) rfl
theorem wT_X12_addSleeper : (.static yX12_addSleeper : Cond) ∈ sd_gd := sd_gd_in (sd_m4 (i := 146) (by decide +kernel)) rfl
theorem wC_X12_addSleeper : (.code yX12_addSleeper cX12_addSleeper 4 (some .int) : Cond) ∈ sd_gd := sd_gd_in (sd_m4 (i := 147) (by decide +kernel)) rfl
theorem wM_L_22 : (.methodLink RL 22 yX12_thing : Cond) ∈ sd_gd := sd_gd_in (sd_m4 (i := 148) (by decide +kernel)) rfl
theorem wI_X12_thing : (.instanceMethod yX12_thing : Cond) ∈ sd_gd := sd_gd_in (sd_m4 (i := 149) (by decide +kernel)) rfl
theorem wS_X12_X12_thing : (.selects RX12 yX12_thing yX12_thing : Cond) ∈ sd_gd := sd_gd_in (sd_m4 (i := 150) (by decide +kernel)) rfl
theorem wC_X12_thing : (.code yX12_thing cX12_thing 5 (some .int) : Cond) ∈ sd_gd := sd_gd_in (sd_m4 (i := 151) (by decide +kernel)) rfl
theorem wM_X12_51 : (.methodLink RX12 51 yX12_addThing : Cond) ∈ sd_gd := sd_gd_in (sd_m4 (i := 152) (by decide +kernel)) rfl
theorem wT_X12_addThing : (.static yX12_addThing : Cond) ∈ sd_gd := sd_gd_in (sd_m4 (i := 153) (by decide +kernel)) rfl
theorem wC_X12_addThing : (.code yX12_addThing cX12_addThing 6 (some .int) : Cond) ∈ sd_gd := sd_gd_in (sd_m4 (i := 154) (by decide +kernel)) rfl
theorem wM_X12_39 : (.methodLink RX12 39 yX12_firstLeft : Cond) ∈ sd_gd := sd_gd_in (sd_m4 (i := 155) (by decide +kernel)) rfl
theorem wT_X12_firstLeft : (.static yX12_firstLeft : Cond) ∈ sd_gd := sd_gd_in (sd_m4 (i := 156) (by decide +kernel)) rfl
theorem wC_X12_firstLeft : (.code yX12_firstLeft cX12_firstLeft 1 (some .int) : Cond) ∈ sd_gd := sd_gd_in (sd_m4 (i := 157) (by decide +kernel)) rfl
theorem wM_L_26 : (.methodLink RL 26 yX12_of : Cond) ∈ sd_gd := sd_gd_in (sd_m4 (i := 158) (by decide +kernel)) rfl
theorem wI_X12_of : (.instanceMethod yX12_of : Cond) ∈ sd_gd := sd_gd_in (sd_m4 (i := 159) (by decide +kernel)) rfl
theorem wS_X12_X12_of : (.selects RX12 yX12_of yX12_of : Cond) ∈ sd_gd := sd_gd_in (sd_m4 (i := 160) (by decide +kernel)) rfl
theorem wC_X12_of : (.code yX12_of cX12_of 3 (some .int) : Cond) ∈ sd_gd := sd_gd_in (sd_m4 (i := 161) (by decide +kernel)) rfl
theorem wM_X12_66 : (.methodLink RX12 66 yX12_isSleeper : Cond) ∈ sd_gd := sd_gd_in (sd_m4 (i := 162) (by decide +kernel)) rfl
theorem wI_X12_isSleeper : (.instanceMethod yX12_isSleeper : Cond) ∈ sd_gd := sd_gd_in (sd_m4 (i := 164) (by decide +kernel)) rfl
theorem wC_X12_isSleeper : (.code yX12_isSleeper cX12_isSleeper 2 (some .boolean) : Cond) ∈ sd_gd := sd_gd_in (sd_m4 (i := 165) (by decide +kernel)) rfl
theorem wM_X12_69 : (.methodLink RX12 69 yX12_isAsleep : Cond) ∈ sd_gd := sd_gd_in (sd_m4 (i := 166) (by decide +kernel)) rfl
theorem wT_X12_isAsleep : (.static yX12_isAsleep : Cond) ∈ sd_gd := sd_gd_in (sd_m4 (i := 167) (by decide +kernel)) rfl
theorem wC_X12_isAsleep : (.code yX12_isAsleep cX12_isAsleep 2 (some .boolean) : Cond) ∈ sd_gd := sd_gd_in (sd_m4 (i := 168) (by decide +kernel)) rfl
theorem wM_X12_63 : (.methodLink RX12 63 yX12_loudIn : Cond) ∈ sd_gd := sd_gd_in (sd_m4 (i := 169) (by decide +kernel)) rfl
theorem wT_X12_loudIn : (.static yX12_loudIn : Cond) ∈ sd_gd := sd_gd_in (sd_m4 (i := 170) (by decide +kernel)) rfl
theorem wC_X12_loudIn : (.code yX12_loudIn cX12_loudIn 4 (some .int) : Cond) ∈ sd_gd := sd_gd_in (sd_m4 (i := 171) (by decide +kernel)) rfl
theorem wM_X12_59 : (.methodLink RX12 59 yX12_loudOf : Cond) ∈ sd_gd := sd_gd_in (sd_m4 (i := 172) (by decide +kernel)) rfl
theorem wT_X12_loudOf : (.static yX12_loudOf : Cond) ∈ sd_gd := sd_gd_in (sd_m4 (i := 173) (by decide +kernel)) rfl
theorem wC_X12_loudOf : (.code yX12_loudOf cX12_loudOf 2 (some .int) : Cond) ∈ sd_gd := sd_gd_in (sd_m4 (i := 174) (by decide +kernel)) rfl
theorem wM_X12_55 : (.methodLink RX12 55 yX12_loudBy : Cond) ∈ sd_gd := sd_gd_in (sd_m4 (i := 175) (by decide +kernel)) rfl
theorem wT_X12_loudBy : (.static yX12_loudBy : Cond) ∈ sd_gd := sd_gd_in (sd_m4 (i := 176) (by decide +kernel)) rfl
theorem wC_X12_loudBy : (.code yX12_loudBy cX12_loudBy 4 (some .int) : Cond) ∈ sd_gd := sd_gd_in (sd_m4 (i := 177) (by decide +kernel)) rfl
theorem wM_L_30 : (.methodLink RL 30 yX12_gift : Cond) ∈ sd_gd := sd_gd_in (sd_m4 (i := 178) (by decide +kernel)) rfl
theorem wI_X12_gift : (.instanceMethod yX12_gift : Cond) ∈ sd_gd := sd_gd_in (sd_m4 (i := 179) (by decide +kernel)) rfl
theorem wS_X12_X12_gift : (.selects RX12 yX12_gift yX12_gift : Cond) ∈ sd_gd := sd_gd_in (sd_m4 (i := 180) (by decide +kernel)) rfl
theorem wC_X12_gift : (.code yX12_gift cX12_gift 3 (some .int) : Cond) ∈ sd_gd := sd_gd_in (sd_m4 (i := 181) (by decide +kernel)) rfl
theorem wM_X12_73 : (.methodLink RX12 73 yX12_isThing : Cond) ∈ sd_gd := sd_gd_in (sd_m4 (i := 182) (by decide +kernel)) rfl
theorem wI_X12_isThing : (.instanceMethod yX12_isThing : Cond) ∈ sd_gd := sd_gd_in (sd_m4 (i := 184) (by decide +kernel)) rfl
theorem wC_X12_isThing : (.code yX12_isThing cX12_isThing 2 (some .boolean) : Cond) ∈ sd_gd := sd_gd_in (sd_m4 (i := 185) (by decide +kernel)) rfl
theorem wM_L_34 : (.methodLink RL 34 yX12_room : Cond) ∈ sd_gd := sd_gd_in (sd_m4 (i := 186) (by decide +kernel)) rfl
theorem wI_X12_room : (.instanceMethod yX12_room : Cond) ∈ sd_gd := sd_gd_in (sd_m4 (i := 187) (by decide +kernel)) rfl
theorem wS_X12_X12_room : (.selects RX12 yX12_room yX12_room : Cond) ∈ sd_gd := sd_gd_in (sd_m4 (i := 188) (by decide +kernel)) rfl
theorem wC_X12_room : (.code yX12_room cX12_room 6 (some .int) : Cond) ∈ sd_gd := sd_gd_in (sd_m4 (i := 189) (by decide +kernel)) rfl
theorem wM_L_38 : (.methodLink RL 38 yX12_bed : Cond) ∈ sd_gd := sd_gd_in (sd_m4 (i := 190) (by decide +kernel)) rfl
theorem wI_X12_bed : (.instanceMethod yX12_bed : Cond) ∈ sd_gd := sd_gd_in (sd_m4 (i := 191) (by decide +kernel)) rfl
theorem wS_X12_X12_bed : (.selects RX12 yX12_bed yX12_bed : Cond) ∈ sd_gd := sd_gd_in (sd_m4 (i := 192) (by decide +kernel)) rfl
theorem wC_X12_bed : (.code yX12_bed cX12_bed 4 (some .int) : Cond) ∈ sd_gd := sd_gd_in (sd_m4 (i := 193) (by decide +kernel)) rfl
theorem wM_L_43 : (.methodLink RL 43 yX12_type : Cond) ∈ sd_gd := sd_gd_in (sd_m4 (i := 194) (by decide +kernel)) rfl
theorem wI_X12_type : (.instanceMethod yX12_type : Cond) ∈ sd_gd := sd_gd_in (sd_m4 (i := 195) (by decide +kernel)) rfl
theorem wS_X12_X12_type : (.selects RX12 yX12_type yX12_type : Cond) ∈ sd_gd := sd_gd_in (sd_m4 (i := 196) (by decide +kernel)) rfl
theorem wC_X12_type : (.code yX12_type cX12_type 2 (some .int) : Cond) ∈ sd_gd := sd_gd_in (sd_m4 (i := 197) (by decide +kernel)) rfl
theorem wM_L_48 : (.methodLink RL 48 yX12_house : Cond) ∈ sd_gd := sd_gd_in (sd_m4 (i := 198) (by decide +kernel)) rfl
theorem wI_X12_house : (.instanceMethod yX12_house : Cond) ∈ sd_gd := sd_gd_in (sd_m4 (i := 199) (by decide +kernel)) rfl
theorem wS_X12_X12_house : (.selects RX12 yX12_house yX12_house : Cond) ∈ sd_gd := sd_gd_in (sd_m4 (i := 200) (by decide +kernel)) rfl
theorem wC_X12_house : (.code yX12_house cX12_house 2 (some .int) : Cond) ∈ sd_gd := sd_gd_in (sd_m4 (i := 201) (by decide +kernel)) rfl
theorem wM_X12_110 : (.methodLink RX12 110 yX12_isHouse : Cond) ∈ sd_gd := sd_gd_in (sd_m4 (i := 202) (by decide +kernel)) rfl
theorem wI_X12_isHouse : (.instanceMethod yX12_isHouse : Cond) ∈ sd_gd := sd_gd_in (sd_m4 (i := 204) (by decide +kernel)) rfl
theorem wC_X12_isHouse : (.code yX12_isHouse cX12_isHouse 2 (some .boolean) : Cond) ∈ sd_gd := sd_gd_in (sd_m4 (i := 205) (by decide +kernel)) rfl
theorem wM_X12_104 : (.methodLink RX12 104 yX12_isSleeperItem : Cond) ∈ sd_gd := sd_gd_in (sd_m4 (i := 206) (by decide +kernel)) rfl
theorem wI_X12_isSleeperItem : (.instanceMethod yX12_isSleeperItem : Cond) ∈ sd_gd := sd_gd_in (sd_m4 (i := 208) (by decide +kernel)) rfl
theorem wC_X12_isSleeperItem : (.code yX12_isSleeperItem cX12_isSleeperItem 2 (some .boolean) : Cond) ∈ sd_gd := sd_gd_in (sd_m4 (i := 209) (by decide +kernel)) rfl
theorem wM_X12_90 : (.methodLink RX12 90 yX12_isDigit : Cond) ∈ sd_gd := sd_gd_in (sd_m4 (i := 210) (by decide +kernel)) rfl
theorem wI_X12_isDigit : (.instanceMethod yX12_isDigit : Cond) ∈ sd_gd := sd_gd_in (sd_m4 (i := 212) (by decide +kernel)) rfl
theorem wC_X12_isDigit : (.code yX12_isDigit cX12_isDigit 3 (some .boolean) : Cond) ∈ sd_gd := sd_gd_in (sd_m4 (i := 213) (by decide +kernel)) rfl
theorem wM_X12_83 : (.methodLink RX12 83 yX12_peek : Cond) ∈ sd_gd := sd_gd_in (sd_m4 (i := 214) (by decide +kernel)) rfl
theorem wI_X12_peek : (.instanceMethod yX12_peek : Cond) ∈ sd_gd := sd_gd_in (sd_m4 (i := 216) (by decide +kernel)) rfl
theorem wC_X12_peek : (.code yX12_peek cX12_peek 1 (some .int) : Cond) ∈ sd_gd := sd_gd_in (sd_m4 (i := 217) (by decide +kernel)) rfl
theorem wM_X12_94 : (.methodLink RX12 94 yX12_isSign : Cond) ∈ sd_gd := sd_gd_in (sd_m4 (i := 218) (by decide +kernel)) rfl
theorem wI_X12_isSign : (.instanceMethod yX12_isSign : Cond) ∈ sd_gd := sd_gd_in (sd_m4 (i := 220) (by decide +kernel)) rfl
theorem wC_X12_isSign : (.code yX12_isSign cX12_isSign 2 (some .boolean) : Cond) ∈ sd_gd := sd_gd_in (sd_m4 (i := 221) (by decide +kernel)) rfl
theorem wM_X12_97 : (.methodLink RX12 97 yX12_isNumber : Cond) ∈ sd_gd := sd_gd_in (sd_m4 (i := 222) (by decide +kernel)) rfl
theorem wI_X12_isNumber : (.instanceMethod yX12_isNumber : Cond) ∈ sd_gd := sd_gd_in (sd_m4 (i := 224) (by decide +kernel)) rfl
theorem wC_X12_isNumber : (.code yX12_isNumber cX12_isNumber 3 (some .boolean) : Cond) ∈ sd_gd := sd_gd_in (sd_m4 (i := 225) (by decide +kernel)) rfl
theorem wM_X12_107 : (.methodLink RX12 107 yX12_isThingItem : Cond) ∈ sd_gd := sd_gd_in (sd_m4 (i := 226) (by decide +kernel)) rfl
theorem wI_X12_isThingItem : (.instanceMethod yX12_isThingItem : Cond) ∈ sd_gd := sd_gd_in (sd_m4 (i := 228) (by decide +kernel)) rfl
theorem wC_X12_isThingItem : (.code yX12_isThingItem cX12_isThingItem 4 (some .boolean) : Cond) ∈ sd_gd := sd_gd_in (sd_m4 (i := 229) (by decide +kernel)) rfl
theorem wM_X12_101 : (.methodLink RX12 101 yX12_kindBy : Cond) ∈ sd_gd := sd_gd_in (sd_m4 (i := 230) (by decide +kernel)) rfl
theorem wT_X12_kindBy : (.static yX12_kindBy : Cond) ∈ sd_gd := sd_gd_in (sd_m4 (i := 231) (by decide +kernel)) rfl
theorem wC_X12_kindBy : (.code yX12_kindBy cX12_kindBy 1 (some .int) : Cond) ∈ sd_gd := sd_gd_in (sd_m4 (i := 232) (by decide +kernel)) rfl
theorem wM_X12_113 : (.methodLink RX12 113 yX12_bring : Cond) ∈ sd_gd := sd_gd_in (sd_m4 (i := 233) (by decide +kernel)) rfl
theorem wT_X12_bring : (.static yX12_bring : Cond) ∈ sd_gd := sd_gd_in (sd_m4 (i := 234) (by decide +kernel)) rfl
theorem wC_X12_bring : (.code yX12_bring cX12_bring 6 none : Cond) ∈ sd_gd := sd_gd_in (sd_m4 (i := 235) (by decide +kernel)) rfl
theorem wM_L_52 : (.methodLink RL 52 yX12_count : Cond) ∈ sd_gd := sd_gd_in (sd_m4 (i := 236) (by decide +kernel)) rfl
theorem wI_X12_count : (.instanceMethod yX12_count : Cond) ∈ sd_gd := sd_gd_in (sd_m4 (i := 237) (by decide +kernel)) rfl
theorem wS_X12_X12_count : (.selects RX12 yX12_count yX12_count : Cond) ∈ sd_gd := sd_gd_in (sd_m4 (i := 238) (by decide +kernel)) rfl
theorem wC_X12_count : (.code yX12_count cX12_count 4 (some .int) : Cond) ∈ sd_gd := sd_gd_in (sd_m4 (i := 239) (by decide +kernel)) rfl
theorem wM_X12_117 : (.methodLink RX12 117 yX12_wokenIn : Cond) ∈ sd_gd := sd_gd_in (sd_m5 (i := 0) (by decide +kernel)) rfl
theorem wT_X12_wokenIn : (.static yX12_wokenIn : Cond) ∈ sd_gd := sd_gd_in (sd_m5 (i := 1) (by decide +kernel)) rfl
theorem wC_X12_wokenIn : (.code yX12_wokenIn cX12_wokenIn 3 (some .int) : Cond) ∈ sd_gd := sd_gd_in (sd_m5 (i := 2) (by decide +kernel)) rfl
theorem wM_L_56 : (.methodLink RL 56 yX12_nights : Cond) ∈ sd_gd := sd_gd_in (sd_m5 (i := 3) (by decide +kernel)) rfl
theorem wI_X12_nights : (.instanceMethod yX12_nights : Cond) ∈ sd_gd := sd_gd_in (sd_m5 (i := 4) (by decide +kernel)) rfl
theorem wS_X12_X12_nights : (.selects RX12 yX12_nights yX12_nights : Cond) ∈ sd_gd := sd_gd_in (sd_m5 (i := 5) (by decide +kernel)) rfl
theorem wC_X12_nights : (.code yX12_nights cX12_nights 4 (some .int) : Cond) ∈ sd_gd := sd_gd_in (sd_m5 (i := 6) (by decide +kernel)) rfl
theorem wM_X12_124 : (.methodLink RX12 124 yX12_note : Cond) ∈ sd_gd := sd_gd_in (sd_m5 (i := 7) (by decide +kernel)) rfl
theorem wI_X12_note : (.instanceMethod yX12_note : Cond) ∈ sd_gd := sd_gd_in (sd_m5 (i := 9) (by decide +kernel)) rfl
theorem wC_X12_note : (.code yX12_note cX12_note 1 none : Cond) ∈ sd_gd := sd_gd_in (sd_m5 (i := 10) (by decide +kernel)) rfl
theorem wM_X12_127 : (.methodLink RX12 127 yX12_goBy : Cond) ∈ sd_gd := sd_gd_in (sd_m5 (i := 11) (by decide +kernel)) rfl
theorem wT_X12_goBy : (.static yX12_goBy : Cond) ∈ sd_gd := sd_gd_in (sd_m5 (i := 12) (by decide +kernel)) rfl
theorem wC_X12_goBy : (.code yX12_goBy cX12_goBy 2 none : Cond) ∈ sd_gd := sd_gd_in (sd_m5 (i := 13) (by decide +kernel)) rfl
theorem wM_X12_121 : (.methodLink RX12 121 yX12_leftBy : Cond) ∈ sd_gd := sd_gd_in (sd_m5 (i := 14) (by decide +kernel)) rfl
theorem wT_X12_leftBy : (.static yX12_leftBy : Cond) ∈ sd_gd := sd_gd_in (sd_m5 (i := 15) (by decide +kernel)) rfl
theorem wC_X12_leftBy : (.code yX12_leftBy cX12_leftBy 5 (some .int) : Cond) ∈ sd_gd := sd_gd_in (sd_m5 (i := 16) (by decide +kernel)) rfl
theorem wM_L_60 : (.methodLink RL 60 yX12_move : Cond) ∈ sd_gd := sd_gd_in (sd_m5 (i := 17) (by decide +kernel)) rfl
theorem wI_X12_move : (.instanceMethod yX12_move : Cond) ∈ sd_gd := sd_gd_in (sd_m5 (i := 18) (by decide +kernel)) rfl
theorem wS_X12_X12_move : (.selects RX12 yX12_move yX12_move : Cond) ∈ sd_gd := sd_gd_in (sd_m5 (i := 19) (by decide +kernel)) rfl
theorem wC_X12_move : (.code yX12_move cX12_move 4 (some .int) : Cond) ∈ sd_gd := sd_gd_in (sd_m5 (i := 20) (by decide +kernel)) rfl
theorem wM_L_64 : (.methodLink RL 64 yX12_pass : Cond) ∈ sd_gd := sd_gd_in (sd_m5 (i := 21) (by decide +kernel)) rfl
theorem wI_X12_pass : (.instanceMethod yX12_pass : Cond) ∈ sd_gd := sd_gd_in (sd_m5 (i := 22) (by decide +kernel)) rfl
theorem wS_X12_X12_pass : (.selects RX12 yX12_pass yX12_pass : Cond) ∈ sd_gd := sd_gd_in (sd_m5 (i := 23) (by decide +kernel)) rfl
theorem wC_X12_pass : (.code yX12_pass cX12_pass 4 (some .int) : Cond) ∈ sd_gd := sd_gd_in (sd_m5 (i := 24) (by decide +kernel)) rfl
theorem wM_L_68 : (.methodLink RL 68 yX12_back : Cond) ∈ sd_gd := sd_gd_in (sd_m5 (i := 25) (by decide +kernel)) rfl
theorem wI_X12_back : (.instanceMethod yX12_back : Cond) ∈ sd_gd := sd_gd_in (sd_m5 (i := 26) (by decide +kernel)) rfl
theorem wS_X12_X12_back : (.selects RX12 yX12_back yX12_back : Cond) ∈ sd_gd := sd_gd_in (sd_m5 (i := 27) (by decide +kernel)) rfl
theorem wC_X12_back : (.code yX12_back cX12_back 3 (some .int) : Cond) ∈ sd_gd := sd_gd_in (sd_m5 (i := 28) (by decide +kernel)) rfl
theorem wM_L_72 : (.methodLink RL 72 yX12_drift : Cond) ∈ sd_gd := sd_gd_in (sd_m5 (i := 29) (by decide +kernel)) rfl
theorem wI_X12_drift : (.instanceMethod yX12_drift : Cond) ∈ sd_gd := sd_gd_in (sd_m5 (i := 30) (by decide +kernel)) rfl
theorem wS_X12_X12_drift : (.selects RX12 yX12_drift yX12_drift : Cond) ∈ sd_gd := sd_gd_in (sd_m5 (i := 31) (by decide +kernel)) rfl
theorem wC_X12_drift : (.code yX12_drift cX12_drift 5 (some .int) : Cond) ∈ sd_gd := sd_gd_in (sd_m5 (i := 32) (by decide +kernel)) rfl
theorem wKL_X12_131 : (.constantLong RX12 131 (1103515245) : Cond) ∈ sd_gd := sd_gd_in (sd_m5 (i := 33) (by decide +kernel)) rfl
theorem wKL_X12_133 : (.constantLong RX12 133 (12345) : Cond) ∈ sd_gd := sd_gd_in (sd_m5 (i := 34) (by decide +kernel)) rfl
theorem wKL_X12_135 : (.constantLong RX12 135 (2147483648) : Cond) ∈ sd_gd := sd_gd_in (sd_m5 (i := 35) (by decide +kernel)) rfl
theorem wK_X12_137 : (.constant RX12 137 (65536) : Cond) ∈ sd_gd := sd_gd_in (sd_m5 (i := 36) (by decide +kernel)) rfl
theorem wM_L_76 : (.methodLink RL 76 yX12_undo : Cond) ∈ sd_gd := sd_gd_in (sd_m5 (i := 37) (by decide +kernel)) rfl
theorem wI_X12_undo : (.instanceMethod yX12_undo : Cond) ∈ sd_gd := sd_gd_in (sd_m5 (i := 38) (by decide +kernel)) rfl
theorem wS_X12_X12_undo : (.selects RX12 yX12_undo yX12_undo : Cond) ∈ sd_gd := sd_gd_in (sd_m5 (i := 39) (by decide +kernel)) rfl
theorem wC_X12_undo : (.code yX12_undo cX12_undo 1 (some .int) : Cond) ∈ sd_gd := sd_gd_in (sd_m5 (i := 40) (by decide +kernel)) rfl
theorem wM_L_80 : (.methodLink RL 80 yX12_seed : Cond) ∈ sd_gd := sd_gd_in (sd_m5 (i := 41) (by decide +kernel)) rfl
theorem wI_X12_seed : (.instanceMethod yX12_seed : Cond) ∈ sd_gd := sd_gd_in (sd_m5 (i := 42) (by decide +kernel)) rfl
theorem wS_X12_X12_seed : (.selects RX12 yX12_seed yX12_seed : Cond) ∈ sd_gd := sd_gd_in (sd_m5 (i := 43) (by decide +kernel)) rfl
theorem wC_X12_seed : (.code yX12_seed cX12_seed 3 (some .int) : Cond) ∈ sd_gd := sd_gd_in (sd_m5 (i := 44) (by decide +kernel)) rfl
theorem wM_L_84 : (.methodLink RL 84 yX12_ahead : Cond) ∈ sd_gd := sd_gd_in (sd_m5 (i := 45) (by decide +kernel)) rfl
theorem wI_X12_ahead : (.instanceMethod yX12_ahead : Cond) ∈ sd_gd := sd_gd_in (sd_m5 (i := 46) (by decide +kernel)) rfl
theorem wS_X12_X12_ahead : (.selects RX12 yX12_ahead yX12_ahead : Cond) ∈ sd_gd := sd_gd_in (sd_m5 (i := 47) (by decide +kernel)) rfl
theorem wC_X12_ahead : (.code yX12_ahead cX12_ahead 3 (some .int) : Cond) ∈ sd_gd := sd_gd_in (sd_m5 (i := 48) (by decide +kernel)) rfl
theorem wM_X12_141 : (.methodLink RX12 141 yX12_goOn : Cond) ∈ sd_gd := sd_gd_in (sd_m5 (i := 49) (by decide +kernel)) rfl
theorem wI_X12_goOn : (.instanceMethod yX12_goOn : Cond) ∈ sd_gd := sd_gd_in (sd_m5 (i := 51) (by decide +kernel)) rfl
theorem wC_X12_goOn : (.code yX12_goOn cX12_goOn 3 none : Cond) ∈ sd_gd := sd_gd_in (sd_m5 (i := 52) (by decide +kernel)) rfl
theorem wM_X12_138 : (.methodLink RX12 138 yX12_begin : Cond) ∈ sd_gd := sd_gd_in (sd_m5 (i := 53) (by decide +kernel)) rfl
theorem wI_X12_begin : (.instanceMethod yX12_begin : Cond) ∈ sd_gd := sd_gd_in (sd_m5 (i := 55) (by decide +kernel)) rfl
theorem wC_X12_begin : (.code yX12_begin cX12_begin 1 none : Cond) ∈ sd_gd := sd_gd_in (sd_m5 (i := 56) (by decide +kernel)) rfl
theorem wM_L_88 : (.methodLink RL 88 yX12_loudAhead : Cond) ∈ sd_gd := sd_gd_in (sd_m5 (i := 57) (by decide +kernel)) rfl
theorem wI_X12_loudAhead : (.instanceMethod yX12_loudAhead : Cond) ∈ sd_gd := sd_gd_in (sd_m5 (i := 58) (by decide +kernel)) rfl
theorem wS_X12_X12_loudAhead : (.selects RX12 yX12_loudAhead yX12_loudAhead : Cond) ∈ sd_gd := sd_gd_in (sd_m5 (i := 59) (by decide +kernel)) rfl
theorem wC_X12_loudAhead : (.code yX12_loudAhead cX12_loudAhead 3 (some .int) : Cond) ∈ sd_gd := sd_gd_in (sd_m5 (i := 60) (by decide +kernel)) rfl
theorem wM_L_92 : (.methodLink RL 92 yX12_sleeps : Cond) ∈ sd_gd := sd_gd_in (sd_m5 (i := 61) (by decide +kernel)) rfl
theorem wI_X12_sleeps : (.instanceMethod yX12_sleeps : Cond) ∈ sd_gd := sd_gd_in (sd_m5 (i := 62) (by decide +kernel)) rfl
theorem wS_X12_X12_sleeps : (.selects RX12 yX12_sleeps yX12_sleeps : Cond) ∈ sd_gd := sd_gd_in (sd_m5 (i := 63) (by decide +kernel)) rfl
theorem wC_X12_sleeps : (.code yX12_sleeps cX12_sleeps 3 (some .int) : Cond) ∈ sd_gd := sd_gd_in (sd_m5 (i := 64) (by decide +kernel)) rfl
theorem wM_L_96 : (.methodLink RL 96 yX12_peace : Cond) ∈ sd_gd := sd_gd_in (sd_m5 (i := 65) (by decide +kernel)) rfl
theorem wI_X12_peace : (.instanceMethod yX12_peace : Cond) ∈ sd_gd := sd_gd_in (sd_m5 (i := 66) (by decide +kernel)) rfl
theorem wS_X12_X12_peace : (.selects RX12 yX12_peace yX12_peace : Cond) ∈ sd_gd := sd_gd_in (sd_m5 (i := 67) (by decide +kernel)) rfl
theorem wC_X12_peace : (.code yX12_peace cX12_peace 3 (some .int) : Cond) ∈ sd_gd := sd_gd_in (sd_m5 (i := 68) (by decide +kernel)) rfl
theorem wM_L_101 : (.methodLink RL 101 yX12_best : Cond) ∈ sd_gd := sd_gd_in (sd_m5 (i := 69) (by decide +kernel)) rfl
theorem wI_X12_best : (.instanceMethod yX12_best : Cond) ∈ sd_gd := sd_gd_in (sd_m5 (i := 70) (by decide +kernel)) rfl
theorem wS_X12_X12_best : (.selects RX12 yX12_best yX12_best : Cond) ∈ sd_gd := sd_gd_in (sd_m5 (i := 71) (by decide +kernel)) rfl
theorem wC_X12_best : (.code yX12_best cX12_best 8 (some .int) : Cond) ∈ sd_gd := sd_gd_in (sd_m5 (i := 72) (by decide +kernel)) rfl
theorem wM_X12_145 : (.methodLink RX12 145 yX12_wokenOn : Cond) ∈ sd_gd := sd_gd_in (sd_m5 (i := 73) (by decide +kernel)) rfl
theorem wI_X12_wokenOn : (.instanceMethod yX12_wokenOn : Cond) ∈ sd_gd := sd_gd_in (sd_m5 (i := 75) (by decide +kernel)) rfl
theorem wC_X12_wokenOn : (.code yX12_wokenOn cX12_wokenOn 4 (some .int) : Cond) ∈ sd_gd := sd_gd_in (sd_m5 (i := 76) (by decide +kernel)) rfl
theorem wM_L_105 : (.methodLink RL 105 yX12_bestBed : Cond) ∈ sd_gd := sd_gd_in (sd_m5 (i := 77) (by decide +kernel)) rfl
theorem wI_X12_bestBed : (.instanceMethod yX12_bestBed : Cond) ∈ sd_gd := sd_gd_in (sd_m5 (i := 78) (by decide +kernel)) rfl
theorem wS_X12_X12_bestBed : (.selects RX12 yX12_bestBed yX12_bestBed : Cond) ∈ sd_gd := sd_gd_in (sd_m5 (i := 79) (by decide +kernel)) rfl
theorem wC_X12_bestBed : (.code yX12_bestBed cX12_bestBed 8 (some .int) : Cond) ∈ sd_gd := sd_gd_in (sd_m5 (i := 80) (by decide +kernel)) rfl
theorem wM_L_109 : (.methodLink RL 109 yX12_change : Cond) ∈ sd_gd := sd_gd_in (sd_m5 (i := 81) (by decide +kernel)) rfl
theorem wI_X12_change : (.instanceMethod yX12_change : Cond) ∈ sd_gd := sd_gd_in (sd_m5 (i := 82) (by decide +kernel)) rfl
theorem wS_X12_X12_change : (.selects RX12 yX12_change yX12_change : Cond) ∈ sd_gd := sd_gd_in (sd_m5 (i := 83) (by decide +kernel)) rfl
theorem wC_X12_change : (.code yX12_change cX12_change 9 (some .int) : Cond) ∈ sd_gd := sd_gd_in (sd_m5 (i := 84) (by decide +kernel)) rfl
theorem wM_L_113 : (.methodLink RL 113 yX12_backs : Cond) ∈ sd_gd := sd_gd_in (sd_m5 (i := 85) (by decide +kernel)) rfl
theorem wI_X12_backs : (.instanceMethod yX12_backs : Cond) ∈ sd_gd := sd_gd_in (sd_m5 (i := 86) (by decide +kernel)) rfl
theorem wS_X12_X12_backs : (.selects RX12 yX12_backs yX12_backs : Cond) ∈ sd_gd := sd_gd_in (sd_m5 (i := 87) (by decide +kernel)) rfl
theorem wC_X12_backs : (.code yX12_backs cX12_backs 6 (some .int) : Cond) ∈ sd_gd := sd_gd_in (sd_m5 (i := 88) (by decide +kernel)) rfl
theorem wM_X12_148 : (.methodLink RX12 148 yX12_bits : Cond) ∈ sd_gd := sd_gd_in (sd_m5 (i := 89) (by decide +kernel)) rfl
theorem wT_X12_bits : (.static yX12_bits : Cond) ∈ sd_gd := sd_gd_in (sd_m5 (i := 90) (by decide +kernel)) rfl
theorem wC_X12_bits : (.code yX12_bits cX12_bits 3 (some .int) : Cond) ∈ sd_gd := sd_gd_in (sd_m5 (i := 91) (by decide +kernel)) rfl
theorem wM_X12_151 : (.methodLink RX12 151 yX12_has : Cond) ∈ sd_gd := sd_gd_in (sd_m5 (i := 92) (by decide +kernel)) rfl
theorem wT_X12_has : (.static yX12_has : Cond) ∈ sd_gd := sd_gd_in (sd_m5 (i := 93) (by decide +kernel)) rfl
theorem wC_X12_has : (.code yX12_has cX12_has 2 (some .boolean) : Cond) ∈ sd_gd := sd_gd_in (sd_m5 (i := 94) (by decide +kernel)) rfl
theorem wM_L_117 : (.methodLink RL 117 yX12_luck : Cond) ∈ sd_gd := sd_gd_in (sd_m5 (i := 95) (by decide +kernel)) rfl
theorem wI_X12_luck : (.instanceMethod yX12_luck : Cond) ∈ sd_gd := sd_gd_in (sd_m5 (i := 96) (by decide +kernel)) rfl
theorem wS_X12_X12_luck : (.selects RX12 yX12_luck yX12_luck : Cond) ∈ sd_gd := sd_gd_in (sd_m5 (i := 97) (by decide +kernel)) rfl
theorem wC_X12_luck : (.code yX12_luck cX12_luck 10 (some .int) : Cond) ∈ sd_gd := sd_gd_in (sd_m5 (i := 98) (by decide +kernel)) rfl
theorem wM_L_121 : (.methodLink RL 121 yX12_thanked : Cond) ∈ sd_gd := sd_gd_in (sd_m5 (i := 99) (by decide +kernel)) rfl
theorem wI_X12_thanked : (.instanceMethod yX12_thanked : Cond) ∈ sd_gd := sd_gd_in (sd_m5 (i := 100) (by decide +kernel)) rfl
theorem wS_X12_X12_thanked : (.selects RX12 yX12_thanked yX12_thanked : Cond) ∈ sd_gd := sd_gd_in (sd_m5 (i := 101) (by decide +kernel)) rfl
theorem wC_X12_thanked : (.code yX12_thanked cX12_thanked 4 (some .int) : Cond) ∈ sd_gd := sd_gd_in (sd_m5 (i := 102) (by decide +kernel)) rfl
theorem wM_L_125 : (.methodLink RL 125 yX12_image : Cond) ∈ sd_gd := sd_gd_in (sd_m5 (i := 103) (by decide +kernel)) rfl
theorem wI_X12_image : (.instanceMethod yX12_image : Cond) ∈ sd_gd := sd_gd_in (sd_m5 (i := 104) (by decide +kernel)) rfl
theorem wS_X12_X12_image : (.selects RX12 yX12_image yX12_image : Cond) ∈ sd_gd := sd_gd_in (sd_m5 (i := 105) (by decide +kernel)) rfl
theorem wC_X12_image : (.code yX12_image cX12_image 1 (some .int) : Cond) ∈ sd_gd := sd_gd_in (sd_m5 (i := 106) (by decide +kernel)) rfl
theorem wM_L_129 : (.methodLink RL 129 yX12_restore : Cond) ∈ sd_gd := sd_gd_in (sd_m5 (i := 107) (by decide +kernel)) rfl
theorem wI_X12_restore : (.instanceMethod yX12_restore : Cond) ∈ sd_gd := sd_gd_in (sd_m5 (i := 108) (by decide +kernel)) rfl
theorem wS_X12_X12_restore : (.selects RX12 yX12_restore yX12_restore : Cond) ∈ sd_gd := sd_gd_in (sd_m5 (i := 109) (by decide +kernel)) rfl
theorem wC_X12_restore : (.code yX12_restore cX12_restore 1 (some .int) : Cond) ∈ sd_gd := sd_gd_in (sd_m5 (i := 110) (by decide +kernel)) rfl
theorem wM_L_134 : (.methodLink RL 134 yX12_heard : Cond) ∈ sd_gd := sd_gd_in (sd_m5 (i := 111) (by decide +kernel)) rfl
theorem wI_X12_heard : (.instanceMethod yX12_heard : Cond) ∈ sd_gd := sd_gd_in (sd_m5 (i := 112) (by decide +kernel)) rfl
theorem wS_X12_X12_heard : (.selects RX12 yX12_heard yX12_heard : Cond) ∈ sd_gd := sd_gd_in (sd_m5 (i := 113) (by decide +kernel)) rfl
theorem wC_X12_heard : (.code yX12_heard cX12_heard 13 (some .int) : Cond) ∈ sd_gd := sd_gd_in (sd_m5 (i := 114) (by decide +kernel)) rfl
theorem wM_X12_161 : (.methodLink RX12 161 yX12_isSheet : Cond) ∈ sd_gd := sd_gd_in (sd_m5 (i := 115) (by decide +kernel)) rfl
theorem wT_X12_isSheet : (.static yX12_isSheet : Cond) ∈ sd_gd := sd_gd_in (sd_m5 (i := 116) (by decide +kernel)) rfl
theorem wC_X12_isSheet : (.code yX12_isSheet cX12_isSheet 1 (some .boolean) : Cond) ∈ sd_gd := sd_gd_in (sd_m5 (i := 117) (by decide +kernel)) rfl
theorem wM_X12_164 : (.methodLink RX12 164 yX12_wrong : Cond) ∈ sd_gd := sd_gd_in (sd_m5 (i := 118) (by decide +kernel)) rfl
theorem wI_X12_wrong : (.instanceMethod yX12_wrong : Cond) ∈ sd_gd := sd_gd_in (sd_m5 (i := 120) (by decide +kernel)) rfl
theorem wC_X12_wrong : (.code yX12_wrong cX12_wrong 5 (some .int) : Cond) ∈ sd_gd := sd_gd_in (sd_m5 (i := 121) (by decide +kernel)) rfl
theorem wM_X12_158 : (.methodLink RX12 158 yX12_isPart : Cond) ∈ sd_gd := sd_gd_in (sd_m5 (i := 122) (by decide +kernel)) rfl
theorem wT_X12_isPart : (.static yX12_isPart : Cond) ∈ sd_gd := sd_gd_in (sd_m5 (i := 123) (by decide +kernel)) rfl
theorem wC_X12_isPart : (.code yX12_isPart cX12_isPart 3 (some .boolean) : Cond) ∈ sd_gd := sd_gd_in (sd_m5 (i := 124) (by decide +kernel)) rfl
theorem wM_L_139 : (.methodLink RL 139 yX12_film : Cond) ∈ sd_gd := sd_gd_in (sd_m5 (i := 125) (by decide +kernel)) rfl
theorem wI_X12_film : (.instanceMethod yX12_film : Cond) ∈ sd_gd := sd_gd_in (sd_m5 (i := 126) (by decide +kernel)) rfl
theorem wS_X12_X12_film : (.selects RX12 yX12_film yX12_film : Cond) ∈ sd_gd := sd_gd_in (sd_m5 (i := 127) (by decide +kernel)) rfl
theorem wC_X12_film : (.code yX12_film cX12_film 8 (some .int) : Cond) ∈ sd_gd := sd_gd_in (sd_m5 (i := 128) (by decide +kernel)) rfl
theorem wM_L_143 : (.methodLink RL 143 yX12_sheet : Cond) ∈ sd_gd := sd_gd_in (sd_m5 (i := 129) (by decide +kernel)) rfl
theorem wI_X12_sheet : (.instanceMethod yX12_sheet : Cond) ∈ sd_gd := sd_gd_in (sd_m5 (i := 130) (by decide +kernel)) rfl
theorem wS_X12_X12_sheet : (.selects RX12 yX12_sheet yX12_sheet : Cond) ∈ sd_gd := sd_gd_in (sd_m5 (i := 131) (by decide +kernel)) rfl
theorem wC_X12_sheet : (.code yX12_sheet cX12_sheet 5 (some .int) : Cond) ∈ sd_gd := sd_gd_in (sd_m5 (i := 132) (by decide +kernel)) rfl
theorem wM_L_147 : (.methodLink RL 147 yX12_drop : Cond) ∈ sd_gd := sd_gd_in (sd_m5 (i := 133) (by decide +kernel)) rfl
theorem wI_X12_drop : (.instanceMethod yX12_drop : Cond) ∈ sd_gd := sd_gd_in (sd_m5 (i := 134) (by decide +kernel)) rfl
theorem wS_X12_X12_drop : (.selects RX12 yX12_drop yX12_drop : Cond) ∈ sd_gd := sd_gd_in (sd_m5 (i := 135) (by decide +kernel)) rfl
theorem wC_X12_drop : (.code yX12_drop cX12_drop 2 (some .int) : Cond) ∈ sd_gd := sd_gd_in (sd_m5 (i := 136) (by decide +kernel)) rfl
theorem wM_L_154 : (.methodLink RL 154 yX12_item : Cond) ∈ sd_gd := sd_gd_in (sd_m5 (i := 137) (by decide +kernel)) rfl
theorem wI_X12_item : (.instanceMethod yX12_item : Cond) ∈ sd_gd := sd_gd_in (sd_m5 (i := 138) (by decide +kernel)) rfl
theorem wS_X12_X12_item : (.selects RX12 yX12_item yX12_item : Cond) ∈ sd_gd := sd_gd_in (sd_m5 (i := 139) (by decide +kernel)) rfl
theorem wC_X12_item : (.code yX12_item cX12_item 7 (some .int) : Cond) ∈ sd_gd := sd_gd_in (sd_m5 (i := 140) (by decide +kernel)) rfl
theorem wM_L_158 : (.methodLink RL 158 yX12_copy : Cond) ∈ sd_gd := sd_gd_in (sd_m5 (i := 141) (by decide +kernel)) rfl
theorem wI_X12_copy : (.instanceMethod yX12_copy : Cond) ∈ sd_gd := sd_gd_in (sd_m5 (i := 142) (by decide +kernel)) rfl
theorem wS_X12_X12_copy : (.selects RX12 yX12_copy yX12_copy : Cond) ∈ sd_gd := sd_gd_in (sd_m5 (i := 143) (by decide +kernel)) rfl
theorem wC_X12_copy : (.code yX12_copy cX12_copy 9 (some .int) : Cond) ∈ sd_gd := sd_gd_in (sd_m5 (i := 144) (by decide +kernel)) rfl
theorem wKL_L_148 : (.constantLong RL 148 (4294967295) : Cond) ∈ sd_gd := sd_gd_in (sd_m5 (i := 145) (by decide +kernel)) rfl
theorem wA_X1_loudness : (.sameMethod "ThankingGifts$Fulsome" "ThankingGifts$Fulsome" "loudness" "(II)I" : Cond) ∈ sd_gd := sd_gd_in (sd_m5 (i := 146) (by decide +kernel)) rfl
theorem wA_X0_leftBehind : (.sameMethod "ThankingGifts$Curt" "ThankingGifts$Curt" "leftBehind" "(III)I" : Cond) ∈ sd_gd := sd_gd_in (sd_m5 (i := 147) (by decide +kernel)) rfl
theorem wA_X1_leftBehind : (.sameMethod "ThankingGifts$Fulsome" "ThankingGifts$Fulsome" "leftBehind" "(III)I" : Cond) ∈ sd_gd := sd_gd_in (sd_m5 (i := 148) (by decide +kernel)) rfl
theorem wF_J0_15 : (.fieldLink RJ0 15 "java/lang/String" "coder" "B" : Cond) ∈ sd_gd := sd_gd_in (sd_m5 (i := 153) (by decide +kernel)) rfl
theorem wF_J0_9 : (.fieldLink RJ0 9 "java/lang/String" "value" "[B" : Cond) ∈ sd_gd := sd_gd_in (sd_m5 (i := 154) (by decide +kernel)) rfl
def sd_nest : List (String × Nat × MethodName × String) := [(RX11, 9, yX2_init, "ThankingGifts"), (RX2, 11, yX7_init, "ThankingGifts"), (RX2, 14, yX1_init, "ThankingGifts"), (RX1, 1, yX7_init, "ThankingGifts"), (RX2, 17, yX0_init, "ThankingGifts"), (RX0, 1, yX7_init, "ThankingGifts"), (RX2, 20, yX10_init, "ThankingGifts"), (RX10, 1, yX1_init, "ThankingGifts"), (RX2, 23, yX3_init, "ThankingGifts"), (RX3, 1, yX0_init, "ThankingGifts"), (RX2, 48, yX4_init, "ThankingGifts"), (RX6, 17, yX4_init, "ThankingGifts"), (RX11, 34, yX8_init, "ThankingGifts"), (RX11, 41, yX5_init, "ThankingGifts"), (RX11, 48, yX9_init, "ThankingGifts"), (RX2, 91, yX11_leftAtFirst, "ThankingGifts"), (RX2, 95, yX11_within, "ThankingGifts"), (RX8, 74, yX11_within, "ThankingGifts"), (RX2, 107, yX11_isIn, "ThankingGifts"), (RX5, 67, yX11_isIn, "ThankingGifts")]
theorem sd_nest_in : ∀ q ∈ sd_nest, Cond.methodLinkNest q.1 q.2.1 q.2.2.1 q.2.2.2 ∈ lw_tbl := by
  intro q hq
  simp only [sd_nest, List.mem_cons, List.not_mem_nil, or_false] at hq
  rcases hq with rfl | rfl | rfl | rfl | rfl | rfl | rfl | rfl | rfl | rfl | rfl | rfl | rfl | rfl | rfl | rfl | rfl | rfl | rfl | rfl
  · exact sd_m1 (i := 32) (by decide +kernel)
  · exact sd_m1 (i := 39) (by decide +kernel)
  · exact sd_m1 (i := 46) (by decide +kernel)
  · exact sd_m1 (i := 49) (by decide +kernel)
  · exact sd_m1 (i := 53) (by decide +kernel)
  · exact sd_m1 (i := 56) (by decide +kernel)
  · exact sd_m1 (i := 60) (by decide +kernel)
  · exact sd_m1 (i := 63) (by decide +kernel)
  · exact sd_m1 (i := 67) (by decide +kernel)
  · exact sd_m1 (i := 70) (by decide +kernel)
  · exact sd_m1 (i := 74) (by decide +kernel)
  · exact sd_m1 (i := 168) (by decide +kernel)
  · exact sd_m1 (i := 182) (by decide +kernel)
  · exact sd_m1 (i := 201) (by decide +kernel)
  · exact sd_m1 (i := 226) (by decide +kernel)
  · exact sd_m2 (i := 65) (by decide +kernel)
  · exact sd_m2 (i := 79) (by decide +kernel)
  · exact sd_m2 (i := 176) (by decide +kernel)
  · exact sd_m3 (i := 76) (by decide +kernel)
  · exact sd_m3 (i := 186) (by decide +kernel)
theorem wQ_X11_9 : ((RX11, 9, yX2_init, "ThankingGifts") : String × Nat × MethodName × String) ∈ sd_nest := List.mem_of_getElem? (i := 0) rfl
theorem wQ_X2_11 : ((RX2, 11, yX7_init, "ThankingGifts") : String × Nat × MethodName × String) ∈ sd_nest := List.mem_of_getElem? (i := 1) rfl
theorem wQ_X2_14 : ((RX2, 14, yX1_init, "ThankingGifts") : String × Nat × MethodName × String) ∈ sd_nest := List.mem_of_getElem? (i := 2) rfl
theorem wQ_X1_1 : ((RX1, 1, yX7_init, "ThankingGifts") : String × Nat × MethodName × String) ∈ sd_nest := List.mem_of_getElem? (i := 3) rfl
theorem wQ_X2_17 : ((RX2, 17, yX0_init, "ThankingGifts") : String × Nat × MethodName × String) ∈ sd_nest := List.mem_of_getElem? (i := 4) rfl
theorem wQ_X0_1 : ((RX0, 1, yX7_init, "ThankingGifts") : String × Nat × MethodName × String) ∈ sd_nest := List.mem_of_getElem? (i := 5) rfl
theorem wQ_X2_20 : ((RX2, 20, yX10_init, "ThankingGifts") : String × Nat × MethodName × String) ∈ sd_nest := List.mem_of_getElem? (i := 6) rfl
theorem wQ_X10_1 : ((RX10, 1, yX1_init, "ThankingGifts") : String × Nat × MethodName × String) ∈ sd_nest := List.mem_of_getElem? (i := 7) rfl
theorem wQ_X2_23 : ((RX2, 23, yX3_init, "ThankingGifts") : String × Nat × MethodName × String) ∈ sd_nest := List.mem_of_getElem? (i := 8) rfl
theorem wQ_X3_1 : ((RX3, 1, yX0_init, "ThankingGifts") : String × Nat × MethodName × String) ∈ sd_nest := List.mem_of_getElem? (i := 9) rfl
theorem wQ_X2_48 : ((RX2, 48, yX4_init, "ThankingGifts") : String × Nat × MethodName × String) ∈ sd_nest := List.mem_of_getElem? (i := 10) rfl
theorem wQ_X6_17 : ((RX6, 17, yX4_init, "ThankingGifts") : String × Nat × MethodName × String) ∈ sd_nest := List.mem_of_getElem? (i := 11) rfl
theorem wQ_X11_34 : ((RX11, 34, yX8_init, "ThankingGifts") : String × Nat × MethodName × String) ∈ sd_nest := List.mem_of_getElem? (i := 12) rfl
theorem wQ_X11_41 : ((RX11, 41, yX5_init, "ThankingGifts") : String × Nat × MethodName × String) ∈ sd_nest := List.mem_of_getElem? (i := 13) rfl
theorem wQ_X11_48 : ((RX11, 48, yX9_init, "ThankingGifts") : String × Nat × MethodName × String) ∈ sd_nest := List.mem_of_getElem? (i := 14) rfl
theorem wQ_X2_91 : ((RX2, 91, yX11_leftAtFirst, "ThankingGifts") : String × Nat × MethodName × String) ∈ sd_nest := List.mem_of_getElem? (i := 15) rfl
theorem wQ_X2_95 : ((RX2, 95, yX11_within, "ThankingGifts") : String × Nat × MethodName × String) ∈ sd_nest := List.mem_of_getElem? (i := 16) rfl
theorem wQ_X8_74 : ((RX8, 74, yX11_within, "ThankingGifts") : String × Nat × MethodName × String) ∈ sd_nest := List.mem_of_getElem? (i := 17) rfl
theorem wQ_X2_107 : ((RX2, 107, yX11_isIn, "ThankingGifts") : String × Nat × MethodName × String) ∈ sd_nest := List.mem_of_getElem? (i := 18) rfl
theorem wQ_X5_67 : ((RX5, 67, yX11_isIn, "ThankingGifts") : String × Nat × MethodName × String) ∈ sd_nest := List.mem_of_getElem? (i := 19) rfl
def sd_casts : List (String × String) := [(RX1, RX7), (RX0, RX7), (RX10, RX7), (RX3, RX7)]
theorem sd_casts_in : ∀ q ∈ sd_casts, Cond.castable q.1 q.2 ∈ lw_tbl := by
  intro q hq
  simp only [sd_casts, List.mem_cons, List.not_mem_nil, or_false] at hq
  rcases hq with rfl | rfl | rfl | rfl
  · exact sd_m5 (i := 149) (by decide +kernel)
  · exact sd_m5 (i := 150) (by decide +kernel)
  · exact sd_m5 (i := 151) (by decide +kernel)
  · exact sd_m5 (i := 152) (by decide +kernel)
def sd_overs : List String := [RX7, RX4, RX9]
theorem sd_overs_in : ∀ q ∈ sd_overs, Cond.arrayOver (.object q) ∈ lw_tbl := by
  intro q hq
  simp only [sd_overs, List.mem_cons, List.not_mem_nil, or_false] at hq
  rcases hq with rfl | rfl | rfl
  · exact sd_m1 (i := 37) (by decide +kernel)
  · exact sd_m1 (i := 167) (by decide +kernel)
  · exact sd_m1 (i := 224) (by decide +kernel)
theorem wV_X0 : ∀ w ∈ u_ws RX0 TX0 0, w ∈ sd_gd := by
  intro w hw
  exact absurd hw List.not_mem_nil
theorem wV_X1 : ∀ w ∈ u_ws RX1 TX1 0, w ∈ sd_gd := by
  intro w hw
  exact absurd hw List.not_mem_nil
theorem wV_X2 : ∀ w ∈ u_ws RX2 TX2 9, w ∈ sd_gd := by
  intro w hw
  obtain ⟨j, hj, rfl⟩ := List.mem_map.mp hw
  have hj := List.mem_range.mp hj
  match j, hj with
  | 0, _ => exact sd_gd_in (sd_m1 (i := 141) (by decide +kernel)) rfl
  | 1, _ => exact sd_gd_in (sd_m1 (i := 143) (by decide +kernel)) rfl
  | 2, _ => exact sd_gd_in (sd_m1 (i := 145) (by decide +kernel)) rfl
  | 3, _ => exact sd_gd_in (sd_m1 (i := 147) (by decide +kernel)) rfl
  | 4, _ => exact sd_gd_in (sd_m1 (i := 149) (by decide +kernel)) rfl
  | 5, _ => exact sd_gd_in (sd_m1 (i := 151) (by decide +kernel)) rfl
  | 6, _ => exact sd_gd_in (sd_m1 (i := 153) (by decide +kernel)) rfl
  | 7, _ => exact sd_gd_in (sd_m1 (i := 155) (by decide +kernel)) rfl
  | 8, _ => exact sd_gd_in (sd_m1 (i := 157) (by decide +kernel)) rfl
theorem wV_X3 : ∀ w ∈ u_ws RX3 TX3 0, w ∈ sd_gd := by
  intro w hw
  exact absurd hw List.not_mem_nil
theorem wV_X4 : ∀ w ∈ u_ws RX4 TX4 7, w ∈ sd_gd := by
  intro w hw
  obtain ⟨j, hj, rfl⟩ := List.mem_map.mp hw
  have hj := List.mem_range.mp hj
  match j, hj with
  | 0, _ => exact sd_gd_in (sd_m1 (i := 101) (by decide +kernel)) rfl
  | 1, _ => exact sd_gd_in (sd_m1 (i := 103) (by decide +kernel)) rfl
  | 2, _ => exact sd_gd_in (sd_m1 (i := 105) (by decide +kernel)) rfl
  | 3, _ => exact sd_gd_in (sd_m1 (i := 107) (by decide +kernel)) rfl
  | 4, _ => exact sd_gd_in (sd_m1 (i := 109) (by decide +kernel)) rfl
  | 5, _ => exact sd_gd_in (sd_m1 (i := 111) (by decide +kernel)) rfl
  | 6, _ => exact sd_gd_in (sd_m1 (i := 113) (by decide +kernel)) rfl
theorem wV_X5 : ∀ w ∈ u_ws RX5 TX5 5, w ∈ sd_gd := by
  intro w hw
  obtain ⟨j, hj, rfl⟩ := List.mem_map.mp hw
  have hj := List.mem_range.mp hj
  match j, hj with
  | 0, _ => exact sd_gd_in (sd_m1 (i := 212) (by decide +kernel)) rfl
  | 1, _ => exact sd_gd_in (sd_m1 (i := 214) (by decide +kernel)) rfl
  | 2, _ => exact sd_gd_in (sd_m1 (i := 216) (by decide +kernel)) rfl
  | 3, _ => exact sd_gd_in (sd_m1 (i := 218) (by decide +kernel)) rfl
  | 4, _ => exact sd_gd_in (sd_m1 (i := 220) (by decide +kernel)) rfl
theorem wV_X6 : ∀ w ∈ u_ws RX6 TX6 3, w ∈ sd_gd := by
  intro w hw
  obtain ⟨j, hj, rfl⟩ := List.mem_map.mp hw
  have hj := List.mem_range.mp hj
  match j, hj with
  | 0, _ => exact sd_gd_in (sd_m1 (i := 173) (by decide +kernel)) rfl
  | 1, _ => exact sd_gd_in (sd_m1 (i := 175) (by decide +kernel)) rfl
  | 2, _ => exact sd_gd_in (sd_m1 (i := 177) (by decide +kernel)) rfl
theorem wV_X7 : ∀ w ∈ u_ws RX7 TX7 0, w ∈ sd_gd := by
  intro w hw
  exact absurd hw List.not_mem_nil
theorem wV_X8 : ∀ w ∈ u_ws RX8 TX8 3, w ∈ sd_gd := by
  intro w hw
  obtain ⟨j, hj, rfl⟩ := List.mem_map.mp hw
  have hj := List.mem_range.mp hj
  match j, hj with
  | 0, _ => exact sd_gd_in (sd_m1 (i := 191) (by decide +kernel)) rfl
  | 1, _ => exact sd_gd_in (sd_m1 (i := 193) (by decide +kernel)) rfl
  | 2, _ => exact sd_gd_in (sd_m1 (i := 195) (by decide +kernel)) rfl
theorem wV_X9 : ∀ w ∈ u_ws RX9 TX9 4, w ∈ sd_gd := by
  intro w hw
  obtain ⟨j, hj, rfl⟩ := List.mem_map.mp hw
  have hj := List.mem_range.mp hj
  match j, hj with
  | 0, _ => exact sd_gd_in (sd_m1 (i := 238) (by decide +kernel)) rfl
  | 1, _ => exact sd_gd_in (sd_m2 (i := 0) (by decide +kernel)) rfl
  | 2, _ => exact sd_gd_in (sd_m2 (i := 2) (by decide +kernel)) rfl
  | 3, _ => exact sd_gd_in (sd_m2 (i := 4) (by decide +kernel)) rfl
theorem wV_X10 : ∀ w ∈ u_ws RX10 TX10 0, w ∈ sd_gd := by
  intro w hw
  exact absurd hw List.not_mem_nil
theorem wV_X11 : ∀ w ∈ u_ws RX11 TX11 9, w ∈ sd_gd := by
  intro w hw
  obtain ⟨j, hj, rfl⟩ := List.mem_map.mp hw
  have hj := List.mem_range.mp hj
  match j, hj with
  | 0, _ => exact sd_gd_in (sd_m2 (i := 17) (by decide +kernel)) rfl
  | 1, _ => exact sd_gd_in (sd_m2 (i := 19) (by decide +kernel)) rfl
  | 2, _ => exact sd_gd_in (sd_m2 (i := 21) (by decide +kernel)) rfl
  | 3, _ => exact sd_gd_in (sd_m2 (i := 23) (by decide +kernel)) rfl
  | 4, _ => exact sd_gd_in (sd_m2 (i := 25) (by decide +kernel)) rfl
  | 5, _ => exact sd_gd_in (sd_m2 (i := 27) (by decide +kernel)) rfl
  | 6, _ => exact sd_gd_in (sd_m2 (i := 29) (by decide +kernel)) rfl
  | 7, _ => exact sd_gd_in (sd_m2 (i := 31) (by decide +kernel)) rfl
  | 8, _ => exact sd_gd_in (sd_m2 (i := 33) (by decide +kernel)) rfl
theorem wV_X12 : ∀ w ∈ u_ws RX12 TX12 12, w ∈ sd_gd := by
  intro w hw
  obtain ⟨j, hj, rfl⟩ := List.mem_map.mp hw
  have hj := List.mem_range.mp hj
  match j, hj with
  | 0, _ => exact sd_gd_in (sd_m4 (i := 110) (by decide +kernel)) rfl
  | 1, _ => exact sd_gd_in (sd_m4 (i := 112) (by decide +kernel)) rfl
  | 2, _ => exact sd_gd_in (sd_m4 (i := 114) (by decide +kernel)) rfl
  | 3, _ => exact sd_gd_in (sd_m4 (i := 116) (by decide +kernel)) rfl
  | 4, _ => exact sd_gd_in (sd_m4 (i := 118) (by decide +kernel)) rfl
  | 5, _ => exact sd_gd_in (sd_m4 (i := 120) (by decide +kernel)) rfl
  | 6, _ => exact sd_gd_in (sd_m4 (i := 122) (by decide +kernel)) rfl
  | 7, _ => exact sd_gd_in (sd_m4 (i := 124) (by decide +kernel)) rfl
  | 8, _ => exact sd_gd_in (sd_m4 (i := 126) (by decide +kernel)) rfl
  | 9, _ => exact sd_gd_in (sd_m4 (i := 128) (by decide +kernel)) rfl
  | 10, _ => exact sd_gd_in (sd_m4 (i := 130) (by decide +kernel)) rfl
  | 11, _ => exact sd_gd_in (sd_m4 (i := 132) (by decide +kernel)) rfl
def muJ0_checkBoundsBeginEnd_23922 : sd_M0 := (yJ0_checkBoundsBeginEnd_23922, cJ0_checkBoundsBeginEnd_23922, 3, none, { frames := 1, cells := 0, slots := 0, locals := 23 })
def muJ0_coder_7d493 : sd_M0 := (yJ0_coder_7d493, cJ0_coder_7d493, 1, (some .byte), { frames := 0, cells := 0, slots := 0, locals := 0 })
def muJ0_indexOf_0f7a4 : sd_M0 := (yJ0_indexOf_0f7a4, cJ0_indexOf_0f7a4, 2, (some .int), { frames := 6, cells := 0, slots := 0, locals := 138 })
def muJ0_indexOf_7cf53 : sd_M0 := (yJ0_indexOf_7cf53, cJ0_indexOf_7cf53, 3, (some .int), { frames := 5, cells := 0, slots := 0, locals := 116 })
def muJ0_isLatin1_aae02 : sd_M0 := (yJ0_isLatin1_aae02, cJ0_isLatin1_aae02, 1, (some .boolean), { frames := 0, cells := 0, slots := 0, locals := 0 })
def muJ0_length_8abf5 : sd_M0 := (yJ0_length_8abf5, cJ0_length_8abf5, 1, (some .int), { frames := 1, cells := 0, slots := 0, locals := 20 })
def muJ1_canEncode_9a6ad : sd_M0 := (yJ1_canEncode_9a6ad, cJ1_canEncode_9a6ad, 1, (some .boolean), { frames := 0, cells := 0, slots := 0, locals := 0 })
def muJ1_indexOfChar_4cfef : sd_M0 := (yJ1_indexOfChar_4cfef, cJ1_indexOfChar_4cfef, 6, (some .int), { frames := 0, cells := 0, slots := 0, locals := 0 })
def muJ1_indexOf_4cfef : sd_M0 := (yJ1_indexOf_4cfef, cJ1_indexOf_4cfef, 4, (some .int), { frames := 1, cells := 0, slots := 0, locals := 25 })
def muJ2_checkBoundsBeginEnd_d044e : sd_M0 := (yJ2_checkBoundsBeginEnd_d044e, cJ2_checkBoundsBeginEnd_d044e, 3, none, { frames := 2, cells := 0, slots := 0, locals := 45 })
def muJ2_getChar_3b067 : sd_M0 := (yJ2_getChar_3b067, cJ2_getChar_3b067, 2, (some .char), { frames := 1, cells := 0, slots := 0, locals := 20 })
def muJ2_indexOfCharUnsafe_4cfef : sd_M0 := (yJ2_indexOfCharUnsafe_4cfef, cJ2_indexOfCharUnsafe_4cfef, 5, (some .int), { frames := 2, cells := 0, slots := 0, locals := 41 })
def muJ2_indexOfChar_4cfef : sd_M0 := (yJ2_indexOfChar_4cfef, cJ2_indexOfChar_4cfef, 4, (some .int), { frames := 3, cells := 0, slots := 0, locals := 67 })
def muJ2_indexOfSupplementary_4cfef : sd_M0 := (yJ2_indexOfSupplementary_4cfef, cJ2_indexOfSupplementary_4cfef, 7, (some .int), { frames := 3, cells := 0, slots := 0, locals := 67 })
def muJ2_indexOf_4cfef : sd_M0 := (yJ2_indexOf_4cfef, cJ2_indexOf_4cfef, 4, (some .int), { frames := 4, cells := 0, slots := 0, locals := 93 })
def muJ2_length_9d52b : sd_M0 := (yJ2_length_9d52b, cJ2_length_9d52b, 1, (some .int), { frames := 0, cells := 0, slots := 0, locals := 0 })
def muJ3_checkFromToIndex_8c36e : sd_M0 := (yJ3_checkFromToIndex_8c36e, cJ3_checkFromToIndex_8c36e, 4, (some .int), { frames := 0, cells := 0, slots := 0, locals := 0 })
def muJ6_bitCount_0f7a4 : sd_M0 := (yJ6_bitCount_0f7a4, cJ6_bitCount_0f7a4, 1, (some .int), { frames := 0, cells := 0, slots := 0, locals := 0 })
def muJ9_max_7cf53 : sd_M0 := (yJ9_max_7cf53, cJ9_max_7cf53, 2, (some .int), { frames := 0, cells := 0, slots := 0, locals := 0 })
def muJ9_min_7cf53 : sd_M0 := (yJ9_min_7cf53, cJ9_min_7cf53, 2, (some .int), { frames := 0, cells := 0, slots := 0, locals := 0 })
def muJ11_highSurrogate_5068e : sd_M0 := (yJ11_highSurrogate_5068e, cJ11_highSurrogate_5068e, 1, (some .char), { frames := 0, cells := 0, slots := 0, locals := 0 })
def muJ11_isValidCodePoint_9a6ad : sd_M0 := (yJ11_isValidCodePoint_9a6ad, cJ11_isValidCodePoint_9a6ad, 2, (some .boolean), { frames := 0, cells := 0, slots := 0, locals := 0 })
def muJ11_lowSurrogate_5068e : sd_M0 := (yJ11_lowSurrogate_5068e, cJ11_lowSurrogate_5068e, 1, (some .char), { frames := 0, cells := 0, slots := 0, locals := 0 })
def muX0_init : sd_M0 := (yX0_init, cX0_init, 1, none, { frames := 2, cells := 0, slots := 0, locals := 42 })
def muX0_leftBehind : sd_M0 := (yX0_leftBehind, cX0_leftBehind, 4, (some .int), { frames := 0, cells := 0, slots := 0, locals := 0 })
def muX1_init : sd_M0 := (yX1_init, cX1_init, 1, none, { frames := 2, cells := 0, slots := 0, locals := 42 })
def muX1_leftBehind : sd_M0 := (yX1_leftBehind, cX1_leftBehind, 4, (some .int), { frames := 1, cells := 0, slots := 0, locals := 21 })
def muX1_loudness : sd_M0 := (yX1_loudness, cX1_loudness, 3, (some .int), { frames := 0, cells := 0, slots := 0, locals := 0 })
def muX2_addSleeper : sd_M0 := (yX2_addSleeper, cX2_addSleeper, 3, none, { frames := 0, cells := 0, slots := 0, locals := 0 })
def muX2_addThing : sd_M0 := (yX2_addThing, cX2_addThing, 5, none, { frames := 2, cells := 0, slots := 0, locals := 41 })
def muX2_clear : sd_M0 := (yX2_clear, cX2_clear, 2, none, { frames := 0, cells := 0, slots := 0, locals := 0 })
def muX2_hasSleeper : sd_M0 := (yX2_hasSleeper, cX2_hasSleeper, 2, (some .boolean), { frames := 1, cells := 0, slots := 0, locals := 22 })
def muX2_hasThing : sd_M0 := (yX2_hasThing, cX2_hasThing, 2, (some .boolean), { frames := 1, cells := 0, slots := 0, locals := 22 })
def muX2_init : sd_M0 := (yX2_init, cX2_init, 1, none, { frames := 4, cells := 17, slots := 76, locals := 82 })
def muX2_isAsleep : sd_M0 := (yX2_isAsleep, cX2_isAsleep, 2, (some .boolean), { frames := 0, cells := 0, slots := 0, locals := 0 })
def muX2_leftBehind : sd_M0 := (yX2_leftBehind, cX2_leftBehind, 5, (some .int), { frames := 3, cells := 0, slots := 0, locals := 67 })
def muX2_listen : sd_M0 := (yX2_listen, cX2_listen, 2, none, { frames := 3, cells := 0, slots := 0, locals := 67 })
def muX2_loudOfAll : sd_M0 := (yX2_loudOfAll, cX2_loudOfAll, 1, (some .int), { frames := 4, cells := 0, slots := 0, locals := 90 })
def muX2_loudOfSet : sd_M0 := (yX2_loudOfSet, cX2_loudOfSet, 4, (some .int), { frames := 3, cells := 0, slots := 0, locals := 67 })
def muX2_loudWith : sd_M0 := (yX2_loudWith, cX2_loudWith, 4, (some .int), { frames := 2, cells := 0, slots := 0, locals := 44 })
def muX2_moveByDraw : sd_M0 := (yX2_moveByDraw, cX2_moveByDraw, 2, none, { frames := 0, cells := 0, slots := 0, locals := 0 })
def muX2_placesOf : sd_M0 := (yX2_placesOf, cX2_placesOf, 5, (some .int), { frames := 0, cells := 0, slots := 0, locals := 0 })
def muX2_silentThings : sd_M0 := (yX2_silentThings, cX2_silentThings, 1, (some .int), { frames := 1, cells := 0, slots := 0, locals := 24 })
def muX2_sleepersIn : sd_M0 := (yX2_sleepersIn, cX2_sleepersIn, 2, (some .int), { frames := 1, cells := 0, slots := 0, locals := 24 })
def muX2_spendNight : sd_M0 := (yX2_spendNight, cX2_spendNight, 3, (some .int), { frames := 4, cells := 0, slots := 0, locals := 91 })
def muX2_takeAll : sd_M0 := (yX2_takeAll, cX2_takeAll, 2, none, { frames := 2, cells := 0, slots := 0, locals := 49 })
def muX2_thingsIn : sd_M0 := (yX2_thingsIn, cX2_thingsIn, 2, (some .int), { frames := 1, cells := 0, slots := 0, locals := 24 })
def muX2_thingsOf : sd_M0 := (yX2_thingsOf, cX2_thingsOf, 2, (some .int), { frames := 1, cells := 0, slots := 0, locals := 24 })
def muX3_init : sd_M0 := (yX3_init, cX3_init, 1, none, { frames := 3, cells := 0, slots := 0, locals := 62 })
def muX3_leftBehind : sd_M0 := (yX3_leftBehind, cX3_leftBehind, 4, (some .int), { frames := 1, cells := 0, slots := 0, locals := 23 })
def muX3_loudness : sd_M0 := (yX3_loudness, cX3_loudness, 3, (some .int), { frames := 0, cells := 0, slots := 0, locals := 0 })
def muX4_init : sd_M0 := (yX4_init, cX4_init, 1, none, { frames := 1, cells := 5, slots := 34, locals := 22 })
def muX4_takeAll : sd_M0 := (yX4_takeAll, cX4_takeAll, 2, none, { frames := 1, cells := 0, slots := 0, locals := 28 })
def muX5_init : sd_M0 := (yX5_init, cX5_init, 1, none, { frames := 1, cells := 3, slots := 500, locals := 22 })
def muX5_isQuietWithout : sd_M0 := (yX5_isQuietWithout, cX5_isQuietWithout, 4, (some .boolean), { frames := 3, cells := 0, slots := 0, locals := 69 })
def muX5_listen : sd_M0 := (yX5_listen, cX5_listen, 4, none, { frames := 1, cells := 0, slots := 0, locals := 21 })
def muX5_look : sd_M0 := (yX5_look, cX5_look, 6, none, { frames := 4, cells := 0, slots := 0, locals := 91 })
def muX5_swapRooms : sd_M0 := (yX5_swapRooms, cX5_swapRooms, 6, none, { frames := 0, cells := 0, slots := 0, locals := 0 })
def muX5_wakings : sd_M0 := (yX5_wakings, cX5_wakings, 4, (some .int), { frames := 3, cells := 0, slots := 0, locals := 69 })
def muX5_wakingsIn : sd_M0 := (yX5_wakingsIn, cX5_wakingsIn, 5, (some .int), { frames := 2, cells := 0, slots := 0, locals := 44 })
def muX5_wokenIn : sd_M0 := (yX5_wokenIn, cX5_wokenIn, 6, (some .int), { frames := 2, cells := 0, slots := 0, locals := 44 })
def muX6_bringBack : sd_M0 := (yX6_bringBack, cX6_bringBack, 2, none, { frames := 2, cells := 0, slots := 0, locals := 49 })
def muX6_forget : sd_M0 := (yX6_forget, cX6_forget, 1, none, { frames := 0, cells := 0, slots := 0, locals := 0 })
def muX6_init : sd_M0 := (yX6_init, cX6_init, 2, none, { frames := 2, cells := 49, slots := 336, locals := 42 })
def muX6_keep : sd_M0 := (yX6_keep, cX6_keep, 2, none, { frames := 2, cells := 0, slots := 0, locals := 49 })
def muX6_takeAll : sd_M0 := (yX6_takeAll, cX6_takeAll, 3, none, { frames := 2, cells := 0, slots := 0, locals := 49 })
def muX7_init : sd_M0 := (yX7_init, cX7_init, 1, none, { frames := 1, cells := 0, slots := 0, locals := 22 })
def muX7_leftBehind : sd_M0 := (yX7_leftBehind, cX7_leftBehind, 4, (some .int), { frames := 1, cells := 0, slots := 0, locals := 21 })
def muX7_loudness : sd_M0 := (yX7_loudness, cX7_loudness, 3, (some .int), { frames := 0, cells := 0, slots := 0, locals := 0 })
def muX8_addLetter : sd_M0 := (yX8_addLetter, cX8_addLetter, 2, none, { frames := 0, cells := 0, slots := 0, locals := 0 })
def muX8_clear : sd_M0 := (yX8_clear, cX8_clear, 1, none, { frames := 0, cells := 0, slots := 0, locals := 0 })
def muX8_digitHere : sd_M0 := (yX8_digitHere, cX8_digitHere, 1, (some .int), { frames := 0, cells := 0, slots := 0, locals := 0 })
def muX8_init : sd_M0 := (yX8_init, cX8_init, 1, none, { frames := 1, cells := 1, slots := 80, locals := 22 })
def muX8_readDigit : sd_M0 := (yX8_readDigit, cX8_readDigit, 4, (some .int), { frames := 1, cells := 0, slots := 0, locals := 22 })
def muX8_readHouse : sd_M0 := (yX8_readHouse, cX8_readHouse, 2, (some .boolean), { frames := 10, cells := 0, slots := 0, locals := 228 })
def muX8_readKind : sd_M0 := (yX8_readKind, cX8_readKind, 2, (some .int), { frames := 7, cells := 0, slots := 0, locals := 159 })
def muX8_readNumber : sd_M0 := (yX8_readNumber, cX8_readNumber, 4, (some .int), { frames := 2, cells := 0, slots := 0, locals := 45 })
def muX8_readSleeper : sd_M0 := (yX8_readSleeper, cX8_readSleeper, 4, (some .boolean), { frames := 3, cells := 0, slots := 0, locals := 68 })
def muX8_readSleepers : sd_M0 := (yX8_readSleepers, cX8_readSleepers, 4, (some .boolean), { frames := 4, cells := 0, slots := 0, locals := 91 })
def muX8_readThing : sd_M0 := (yX8_readThing, cX8_readThing, 6, (some .boolean), { frames := 8, cells := 0, slots := 0, locals := 180 })
def muX8_readThings : sd_M0 := (yX8_readThings, cX8_readThings, 4, (some .boolean), { frames := 9, cells := 0, slots := 0, locals := 205 })
def muX8_skipBlanks : sd_M0 := (yX8_skipBlanks, cX8_skipBlanks, 1, none, { frames := 0, cells := 0, slots := 0, locals := 0 })
def muX8_takes : sd_M0 := (yX8_takes, cX8_takes, 2, (some .boolean), { frames := 1, cells := 0, slots := 0, locals := 20 })
def muX9_init : sd_M0 := (yX9_init, cX9_init, 1, none, { frames := 1, cells := 1, slots := 24, locals := 22 })
def muX9_put : sd_M0 := (yX9_put, cX9_put, 4, none, { frames := 0, cells := 0, slots := 0, locals := 0 })
def muX9_refusal : sd_M0 := (yX9_refusal, cX9_refusal, 4, (some .int), { frames := 1, cells := 0, slots := 0, locals := 22 })
def muX9_renew : sd_M0 := (yX9_renew, cX9_renew, 4, none, { frames := 0, cells := 0, slots := 0, locals := 0 })
def muX9_spans : sd_M0 := (yX9_spans, cX9_spans, 3, (some .boolean), { frames := 0, cells := 0, slots := 0, locals := 0 })
def muX10_init : sd_M0 := (yX10_init, cX10_init, 1, none, { frames := 3, cells := 0, slots := 0, locals := 62 })
def muX10_leftBehind : sd_M0 := (yX10_leftBehind, cX10_leftBehind, 4, (some .int), { frames := 2, cells := 0, slots := 0, locals := 44 })
def muX10_loudness : sd_M0 := (yX10_loudness, cX10_loudness, 3, (some .int), { frames := 1, cells := 0, slots := 0, locals := 22 })
def muX11_ahead : sd_M0 := (yX11_ahead, cX11_ahead, 5, (some .int), { frames := 4, cells := 0, slots := 0, locals := 91 })
def muX11_back : sd_M0 := (yX11_back, cX11_back, 3, (some .int), { frames := 3, cells := 0, slots := 0, locals := 70 })
def muX11_backs : sd_M0 := (yX11_backs, cX11_backs, 5, (some .int), { frames := 5, cells := 0, slots := 0, locals := 116 })
def muX11_bed : sd_M0 := (yX11_bed, cX11_bed, 4, (some .int), { frames := 2, cells := 0, slots := 0, locals := 43 })
def muX11_best : sd_M0 := (yX11_best, cX11_best, 8, (some .int), { frames := 5, cells := 0, slots := 0, locals := 116 })
def muX11_bestBed : sd_M0 := (yX11_bestBed, cX11_bestBed, 8, (some .int), { frames := 5, cells := 0, slots := 0, locals := 116 })
def muX11_change : sd_M0 := (yX11_change, cX11_change, 8, (some .int), { frames := 5, cells := 0, slots := 0, locals := 116 })
def muX11_copy : sd_M0 := (yX11_copy, cX11_copy, 8, (some .int), { frames := 2, cells := 0, slots := 0, locals := 42 })
def muX11_count : sd_M0 := (yX11_count, cX11_count, 2, (some .int), { frames := 5, cells := 0, slots := 0, locals := 110 })
def muX11_dearsHeard : sd_M0 := (yX11_dearsHeard, cX11_dearsHeard, 7, (some .int), { frames := 5, cells := 0, slots := 0, locals := 119 })
def muX11_drift : sd_M0 := (yX11_drift, cX11_drift, 2, (some .int), { frames := 6, cells := 0, slots := 0, locals := 137 })
def muX11_drop : sd_M0 := (yX11_drop, cX11_drop, 2, (some .int), { frames := 2, cells := 0, slots := 0, locals := 42 })
def muX11_film : sd_M0 := (yX11_film, cX11_film, 9, (some .int), { frames := 4, cells := 0, slots := 0, locals := 91 })
def muX11_gift : sd_M0 := (yX11_gift, cX11_gift, 3, (some .int), { frames := 3, cells := 0, slots := 0, locals := 67 })
def muX11_greatestCommon : sd_M0 := (yX11_greatestCommon, cX11_greatestCommon, 6, (some .int), { frames := 0, cells := 0, slots := 0, locals := 0 })
def muX11_heard : sd_M0 := (yX11_heard, cX11_heard, 8, (some .int), { frames := 6, cells := 0, slots := 0, locals := 145 })
def muX11_house : sd_M0 := (yX11_house, cX11_house, 3, (some .int), { frames := 11, cells := 0, slots := 0, locals := 249 })
def muX11_image : sd_M0 := (yX11_image, cX11_image, 1, (some .int), { frames := 3, cells := 0, slots := 0, locals := 71 })
def muX11_init : sd_M0 := (yX11_init, cX11_init, 1, none, { frames := 5, cells := 169, slots := 1637, locals := 102 })
def muX11_isGiver : sd_M0 := (yX11_isGiver, cX11_isGiver, 1, (some .boolean), { frames := 1, cells := 0, slots := 0, locals := 22 })
def muX11_isHeardAs : sd_M0 := (yX11_isHeardAs, cX11_isHeardAs, 9, (some .boolean), { frames := 4, cells := 0, slots := 0, locals := 91 })
def muX11_isIn : sd_M0 := (yX11_isIn, cX11_isIn, 2, (some .boolean), { frames := 0, cells := 0, slots := 0, locals := 0 })
def muX11_isLane : sd_M0 := (yX11_isLane, cX11_isLane, 1, (some .boolean), { frames := 1, cells := 0, slots := 0, locals := 22 })
def muX11_isRoom : sd_M0 := (yX11_isRoom, cX11_isRoom, 1, (some .boolean), { frames := 1, cells := 0, slots := 0, locals := 22 })
def muX11_isSheet : sd_M0 := (yX11_isSheet, cX11_isSheet, 1, (some .boolean), { frames := 1, cells := 0, slots := 0, locals := 22 })
def muX11_item : sd_M0 := (yX11_item, cX11_item, 7, (some .int), { frames := 2, cells := 0, slots := 0, locals := 45 })
def muX11_kindsHeard : sd_M0 := (yX11_kindsHeard, cX11_kindsHeard, 7, (some .int), { frames := 5, cells := 0, slots := 0, locals := 119 })
def muX11_leftAtFirst : sd_M0 := (yX11_leftAtFirst, cX11_leftAtFirst, 1, (some .int), { frames := 1, cells := 0, slots := 0, locals := 21 })
def muX11_loudAhead : sd_M0 := (yX11_loudAhead, cX11_loudAhead, 3, (some .int), { frames := 5, cells := 0, slots := 0, locals := 116 })
def muX11_luck : sd_M0 := (yX11_luck, cX11_luck, 9, (some .int), { frames := 4, cells := 0, slots := 0, locals := 90 })
def muX11_move : sd_M0 := (yX11_move, cX11_move, 4, (some .int), { frames := 3, cells := 0, slots := 0, locals := 70 })
def muX11_nights : sd_M0 := (yX11_nights, cX11_nights, 2, (some .int), { frames := 6, cells := 0, slots := 0, locals := 137 })
def muX11_of : sd_M0 := (yX11_of, cX11_of, 3, (some .int), { frames := 4, cells := 0, slots := 0, locals := 88 })
def muX11_pass : sd_M0 := (yX11_pass, cX11_pass, 4, (some .int), { frames := 3, cells := 0, slots := 0, locals := 70 })
def muX11_peace : sd_M0 := (yX11_peace, cX11_peace, 2, (some .int), { frames := 5, cells := 0, slots := 0, locals := 116 })
def muX11_restore : sd_M0 := (yX11_restore, cX11_restore, 1, (some .int), { frames := 3, cells := 0, slots := 0, locals := 71 })
def muX11_room : sd_M0 := (yX11_room, cX11_room, 3, (some .int), { frames := 4, cells := 0, slots := 0, locals := 88 })
def muX11_seed : sd_M0 := (yX11_seed, cX11_seed, 3, (some .int), { frames := 0, cells := 0, slots := 0, locals := 0 })
def muX11_sheet : sd_M0 := (yX11_sheet, cX11_sheet, 4, (some .int), { frames := 2, cells := 0, slots := 0, locals := 42 })
def muX11_sleeper : sd_M0 := (yX11_sleeper, cX11_sleeper, 3, (some .int), { frames := 2, cells := 0, slots := 0, locals := 42 })
def muX11_sleeps : sd_M0 := (yX11_sleeps, cX11_sleeps, 3, (some .int), { frames := 5, cells := 0, slots := 0, locals := 116 })
def muX11_spendNights : sd_M0 := (yX11_spendNights, cX11_spendNights, 5, (some .int), { frames := 5, cells := 0, slots := 0, locals := 113 })
def muX11_sum : sd_M0 := (yX11_sum, cX11_sum, 4, (some .int), { frames := 0, cells := 0, slots := 0, locals := 0 })
def muX11_thanked : sd_M0 := (yX11_thanked, cX11_thanked, 2, (some .int), { frames := 4, cells := 0, slots := 0, locals := 90 })
def muX11_thing : sd_M0 := (yX11_thing, cX11_thing, 5, (some .int), { frames := 3, cells := 0, slots := 0, locals := 65 })
def muX11_type : sd_M0 := (yX11_type, cX11_type, 2, (some .int), { frames := 1, cells := 0, slots := 0, locals := 22 })
def muX11_undo : sd_M0 := (yX11_undo, cX11_undo, 1, (some .int), { frames := 3, cells := 0, slots := 0, locals := 70 })
def muX11_ways : sd_M0 := (yX11_ways, cX11_ways, 6, (some .int), { frames := 1, cells := 0, slots := 0, locals := 21 })
def muX11_within : sd_M0 := (yX11_within, cX11_within, 3, (some .boolean), { frames := 0, cells := 0, slots := 0, locals := 0 })
def muX12_addSleeper : sd_M0 := (yX12_addSleeper, cX12_addSleeper, 4, (some .int), { frames := 0, cells := 0, slots := 0, locals := 0 })
def muX12_addThing : sd_M0 := (yX12_addThing, cX12_addThing, 6, (some .int), { frames := 1, cells := 0, slots := 0, locals := 20 })
def muX12_ahead : sd_M0 := (yX12_ahead, cX12_ahead, 3, (some .int), { frames := 6, cells := 0, slots := 0, locals := 131 })
def muX12_back : sd_M0 := (yX12_back, cX12_back, 3, (some .int), { frames := 2, cells := 0, slots := 0, locals := 45 })
def muX12_backs : sd_M0 := (yX12_backs, cX12_backs, 6, (some .int), { frames := 6, cells := 0, slots := 0, locals := 132 })
def muX12_bed : sd_M0 := (yX12_bed, cX12_bed, 4, (some .int), { frames := 2, cells := 0, slots := 0, locals := 43 })
def muX12_begin : sd_M0 := (yX12_begin, cX12_begin, 1, none, { frames := 1, cells := 0, slots := 0, locals := 25 })
def muX12_best : sd_M0 := (yX12_best, cX12_best, 8, (some .int), { frames := 6, cells := 0, slots := 0, locals := 132 })
def muX12_bestBed : sd_M0 := (yX12_bestBed, cX12_bestBed, 8, (some .int), { frames := 6, cells := 0, slots := 0, locals := 132 })
def muX12_bits : sd_M0 := (yX12_bits, cX12_bits, 3, (some .int), { frames := 0, cells := 0, slots := 0, locals := 0 })
def muX12_bring : sd_M0 := (yX12_bring, cX12_bring, 6, none, { frames := 0, cells := 0, slots := 0, locals := 0 })
def muX12_change : sd_M0 := (yX12_change, cX12_change, 9, (some .int), { frames := 6, cells := 0, slots := 0, locals := 132 })
def muX12_copy : sd_M0 := (yX12_copy, cX12_copy, 9, (some .int), { frames := 2, cells := 0, slots := 0, locals := 42 })
def muX12_count : sd_M0 := (yX12_count, cX12_count, 4, (some .int), { frames := 2, cells := 0, slots := 0, locals := 44 })
def muX12_drift : sd_M0 := (yX12_drift, cX12_drift, 5, (some .int), { frames := 5, cells := 0, slots := 0, locals := 109 })
def muX12_drop : sd_M0 := (yX12_drop, cX12_drop, 2, (some .int), { frames := 2, cells := 0, slots := 0, locals := 42 })
def muX12_film : sd_M0 := (yX12_film, cX12_film, 8, (some .int), { frames := 5, cells := 0, slots := 0, locals := 109 })
def muX12_firstLeft : sd_M0 := (yX12_firstLeft, cX12_firstLeft, 1, (some .int), { frames := 0, cells := 0, slots := 0, locals := 0 })
def muX12_gift : sd_M0 := (yX12_gift, cX12_gift, 3, (some .int), { frames := 2, cells := 0, slots := 0, locals := 44 })
def muX12_goBy : sd_M0 := (yX12_goBy, cX12_goBy, 2, none, { frames := 4, cells := 0, slots := 0, locals := 88 })
def muX12_goOn : sd_M0 := (yX12_goOn, cX12_goOn, 3, none, { frames := 5, cells := 0, slots := 0, locals := 109 })
def muX12_has : sd_M0 := (yX12_has, cX12_has, 2, (some .boolean), { frames := 0, cells := 0, slots := 0, locals := 0 })
def muX12_heard : sd_M0 := (yX12_heard, cX12_heard, 13, (some .int), { frames := 2, cells := 0, slots := 0, locals := 46 })
def muX12_house : sd_M0 := (yX12_house, cX12_house, 2, (some .int), { frames := 5, cells := 0, slots := 0, locals := 108 })
def muX12_image : sd_M0 := (yX12_image, cX12_image, 1, (some .int), { frames := 1, cells := 0, slots := 0, locals := 25 })
def muX12_in : sd_M0 := (yX12_in, cX12_in, 3, (some .boolean), { frames := 0, cells := 0, slots := 0, locals := 0 })
def muX12_init : sd_M0 := (yX12_init, cX12_init, 2, none, { frames := 1, cells := 8, slots := 1596, locals := 22 })
def muX12_isAsleep : sd_M0 := (yX12_isAsleep, cX12_isAsleep, 2, (some .boolean), { frames := 3, cells := 0, slots := 0, locals := 67 })
def muX12_isDigit : sd_M0 := (yX12_isDigit, cX12_isDigit, 3, (some .boolean), { frames := 1, cells := 0, slots := 0, locals := 22 })
def muX12_isHouse : sd_M0 := (yX12_isHouse, cX12_isHouse, 2, (some .boolean), { frames := 4, cells := 0, slots := 0, locals := 87 })
def muX12_isNumber : sd_M0 := (yX12_isNumber, cX12_isNumber, 3, (some .boolean), { frames := 2, cells := 0, slots := 0, locals := 44 })
def muX12_isPart : sd_M0 := (yX12_isPart, cX12_isPart, 3, (some .boolean), { frames := 0, cells := 0, slots := 0, locals := 0 })
def muX12_isRoom : sd_M0 := (yX12_isRoom, cX12_isRoom, 1, (some .boolean), { frames := 1, cells := 0, slots := 0, locals := 22 })
def muX12_isSheet : sd_M0 := (yX12_isSheet, cX12_isSheet, 1, (some .boolean), { frames := 1, cells := 0, slots := 0, locals := 22 })
def muX12_isSign : sd_M0 := (yX12_isSign, cX12_isSign, 2, (some .boolean), { frames := 1, cells := 0, slots := 0, locals := 20 })
def muX12_isSleeper : sd_M0 := (yX12_isSleeper, cX12_isSleeper, 2, (some .boolean), { frames := 1, cells := 0, slots := 0, locals := 22 })
def muX12_isSleeperItem : sd_M0 := (yX12_isSleeperItem, cX12_isSleeperItem, 2, (some .boolean), { frames := 3, cells := 0, slots := 0, locals := 66 })
def muX12_isThing : sd_M0 := (yX12_isThing, cX12_isThing, 2, (some .boolean), { frames := 1, cells := 0, slots := 0, locals := 22 })
def muX12_isThingItem : sd_M0 := (yX12_isThingItem, cX12_isThingItem, 4, (some .boolean), { frames := 2, cells := 0, slots := 0, locals := 45 })
def muX12_item : sd_M0 := (yX12_item, cX12_item, 7, (some .int), { frames := 2, cells := 0, slots := 0, locals := 46 })
def muX12_kindBy : sd_M0 := (yX12_kindBy, cX12_kindBy, 1, (some .int), { frames := 0, cells := 0, slots := 0, locals := 0 })
def muX12_leftBy : sd_M0 := (yX12_leftBy, cX12_leftBy, 5, (some .int), { frames := 0, cells := 0, slots := 0, locals := 0 })
def muX12_loudAhead : sd_M0 := (yX12_loudAhead, cX12_loudAhead, 3, (some .int), { frames := 6, cells := 0, slots := 0, locals := 131 })
def muX12_loudBy : sd_M0 := (yX12_loudBy, cX12_loudBy, 4, (some .int), { frames := 0, cells := 0, slots := 0, locals := 0 })
def muX12_loudIn : sd_M0 := (yX12_loudIn, cX12_loudIn, 4, (some .int), { frames := 2, cells := 0, slots := 0, locals := 44 })
def muX12_loudOf : sd_M0 := (yX12_loudOf, cX12_loudOf, 2, (some .int), { frames := 1, cells := 0, slots := 0, locals := 23 })
def muX12_luck : sd_M0 := (yX12_luck, cX12_luck, 10, (some .int), { frames := 2, cells := 0, slots := 0, locals := 44 })
def muX12_move : sd_M0 := (yX12_move, cX12_move, 4, (some .int), { frames := 2, cells := 0, slots := 0, locals := 45 })
def muX12_nights : sd_M0 := (yX12_nights, cX12_nights, 4, (some .int), { frames := 5, cells := 0, slots := 0, locals := 109 })
def muX12_note : sd_M0 := (yX12_note, cX12_note, 1, none, { frames := 1, cells := 0, slots := 0, locals := 25 })
def muX12_of : sd_M0 := (yX12_of, cX12_of, 3, (some .int), { frames := 4, cells := 0, slots := 0, locals := 88 })
def muX12_pass : sd_M0 := (yX12_pass, cX12_pass, 4, (some .int), { frames := 2, cells := 0, slots := 0, locals := 45 })
def muX12_peace : sd_M0 := (yX12_peace, cX12_peace, 3, (some .int), { frames := 5, cells := 0, slots := 0, locals := 109 })
def muX12_peek : sd_M0 := (yX12_peek, cX12_peek, 1, (some .int), { frames := 0, cells := 0, slots := 0, locals := 0 })
def muX12_restore : sd_M0 := (yX12_restore, cX12_restore, 1, (some .int), { frames := 1, cells := 0, slots := 0, locals := 25 })
def muX12_room : sd_M0 := (yX12_room, cX12_room, 6, (some .int), { frames := 3, cells := 0, slots := 0, locals := 67 })
def muX12_seed : sd_M0 := (yX12_seed, cX12_seed, 3, (some .int), { frames := 0, cells := 0, slots := 0, locals := 0 })
def muX12_sheet : sd_M0 := (yX12_sheet, cX12_sheet, 5, (some .int), { frames := 2, cells := 0, slots := 0, locals := 42 })
def muX12_sleeper : sd_M0 := (yX12_sleeper, cX12_sleeper, 3, (some .int), { frames := 2, cells := 0, slots := 0, locals := 42 })
def muX12_sleeps : sd_M0 := (yX12_sleeps, cX12_sleeps, 3, (some .int), { frames := 6, cells := 0, slots := 0, locals := 131 })
def muX12_thanked : sd_M0 := (yX12_thanked, cX12_thanked, 4, (some .int), { frames := 2, cells := 0, slots := 0, locals := 44 })
def muX12_thing : sd_M0 := (yX12_thing, cX12_thing, 5, (some .int), { frames := 2, cells := 0, slots := 0, locals := 45 })
def muX12_type : sd_M0 := (yX12_type, cX12_type, 2, (some .int), { frames := 1, cells := 0, slots := 0, locals := 22 })
def muX12_undo : sd_M0 := (yX12_undo, cX12_undo, 1, (some .int), { frames := 1, cells := 0, slots := 0, locals := 25 })
def muX12_wokenIn : sd_M0 := (yX12_wokenIn, cX12_wokenIn, 3, (some .int), { frames := 0, cells := 0, slots := 0, locals := 0 })
def muX12_wokenOn : sd_M0 := (yX12_wokenOn, cX12_wokenOn, 4, (some .int), { frames := 5, cells := 0, slots := 0, locals := 109 })
def muX12_wrong : sd_M0 := (yX12_wrong, cX12_wrong, 5, (some .int), { frames := 1, cells := 0, slots := 0, locals := 22 })
def muL_law : sd_M0 := (x, code, 4, ret, room_1)
end
section
-- the flat world: cells by number, their ints in I, their longs in J; a reference k stands for the cell base + k
abbrev sd_C : Type := Nat × Nat × List (Option Nat)
abbrev sd_I : Type := Nat → Nat → Int32
abbrev sd_J : Type := Nat → Nat → Int64
abbrev sd_S : Type := List sd_C × (Nat × (Nat → Int32)) × sd_I × sd_J
abbrev sd_M : Type := sd_M0
abbrev sd_G : Type := va_G × (Nat → ClassId) × Heap × Nat × Nat × Nat
theorem sd_goodIn {ws : List Cond} (h : ∀ w ∈ ws, w ∈ sd_gd) : GoodIn sd_gd ws := fun w hw => ⟨h w hw, good_of_word (sd_gd_good (h w hw))⟩
def sd_ad (G : sd_G) (k : Nat) : Nat := if k = 100000 then G.2.2.2.1 else if k = 100001 then G.2.2.2.2.1 else if k = 100002 then G.2.2.2.2.2 else G.2.2.1.size + k
def sd_v (G : sd_G) : Value → Value
  | .ref k => .ref (sd_ad G k)
  | v => v
theorem sd_ad_lt {G : sd_G} {k : Nat} (h : k < 100000) : sd_ad G k = G.2.2.1.size + k := by
  unfold sd_ad; rw [if_neg (by omega), if_neg (by omega), if_neg (by omega)]
theorem sd_v_cat (G : sd_G) (v : Value) : (sd_v G v).category = v.category := by cases v <;> rfl
def sd_fv (G : sd_G) (b : Bool) (r : Option Nat) (x : Int32) : Value := if b then va_rf (r.map (G.2.2.1.size + ·)) else .int x
def sd_av (b : Bool) (r : Option Nat) (x : Int32) : Value := if b then va_rf r else .int x
theorem sd_av_v {G : sd_G} {b : Bool} {r : Option Nat} {x : Int32} (h : ∀ k, r = some k → k < 100000) : sd_v G (sd_av b r x) = sd_fv G b r x := by
  cases b with
  | false => rfl
  | true =>
    cases r with
    | none => rfl
    | some k =>
      show Value.ref (sd_ad G k) = Value.ref (G.2.2.1.size + k)
      rw [sd_ad_lt (h k rfl)]
def sd_fs (G : sd_G) (I : sd_I) (k : Nat) (c : sd_C) : List Value := (List.range (sd_nF c.1)).map (fun j => sd_fv G (sd_isR c.1 j) (c.2.2.getD j none) (I k j))
def sd_E (G : sd_G) (I : sd_I) (J : sd_J) (k : Nat) (c : sd_C) : va_E :=
  if c.1 < 13 then .inr (c.1, sd_fs G I k c)
  else if c.1 = 22 then .inl (G.2.1 22, c.2.1, .inr (.inl (J k)))
  else if c.1 < 22 then .inl (G.2.1 c.1, c.2.1, .inl (I k))
  else .inl (G.2.1 c.1, c.2.1, .inr (.inr (.inr (.inr (fun j => (c.2.2.getD j none).map (G.2.2.1.size + ·))))))
def sd_ws (G : sd_G) (C : List sd_C) (I : sd_I) (J : sd_J) : va_W := C.zipIdx.map (fun q => (G.2.2.1.size + q.2, sd_E G I J q.2 q.1))
theorem sd_ws_at {G : sd_G} {C : List sd_C} {I : sd_I} {J : sd_J} (k : Nat) : (sd_ws G C I J)[k]? = C[k]?.map (fun c => (G.2.2.1.size + k, sd_E G I J k c)) := by
  unfold sd_ws
  rw [List.getElem?_map, List.getElem?_zipIdx]
  cases C[k]? <;> simp
theorem sd_ws_upd {G : sd_G} {C : List sd_C} {I I' : sd_I} {J J' : sd_J} {a : Nat} {c c' : sd_C} (h0 : C[a]? = some c) (h2 : ∀ k d, k ≠ a → sd_E G I' J' k d = sd_E G I J k d) : sd_ws G (C.set a c') I' J' = (sd_ws G C I J).set a (G.2.2.1.size + a, sd_E G I' J' a c') := by
  apply List.ext_getElem?
  intro k
  have hl : a < C.length := (List.getElem?_eq_some_iff.mp h0).1
  have hl2 : a < (sd_ws G C I J).length := by unfold sd_ws; simpa using hl
  rw [sd_ws_at]
  by_cases hk : k = a
  · subst hk
    rw [List.getElem?_set_self hl, List.getElem?_set_self hl2]
    rfl
  · rw [List.getElem?_set_ne (fun e => hk e.symm), List.getElem?_set_ne (fun e => hk e.symm), sd_ws_at]
    cases C[k]? with
    | none => rfl
    | some d => simp only [Option.map_some, h2 k d hk]
theorem sd_set_same {C : List sd_C} {a : Nat} {c : sd_C} (h : C[a]? = some c) : C.set a c = C := by
  apply List.ext_getElem?
  intro k
  have hl : a < C.length := (List.getElem?_eq_some_iff.mp h).1
  by_cases hk : k = a
  · subst hk; rw [List.getElem?_set_self hl, h]
  · rw [List.getElem?_set_ne (fun e => hk e.symm)]
def sd_A (G : sd_G) : Nat → Prop := fun q => G.2.2.1.size ≤ q
theorem sd_D (G : sd_G) (C : List sd_C) (I : sd_I) (J : sd_J) : va_D (sd_A G) (sd_ws G C I J) := by
  refine ⟨fun i j p q hp hq e => ?_, fun k q hq => ?_⟩
  · rw [sd_ws_at] at hp hq
    obtain ⟨c1, -, rfl⟩ := Option.map_eq_some_iff.mp hp
    obtain ⟨c2, -, rfl⟩ := Option.map_eq_some_iff.mp hq
    exact Nat.add_left_cancel e
  · rw [sd_ws_at] at hq
    obtain ⟨c1, -, rfl⟩ := Option.map_eq_some_iff.mp hq
    exact Nat.le_add_right _ _
/-- the heap holds the flat world -/
def sd_R (G : sd_G) (C : List sd_C) (I : sd_I) (J : sd_J) (H : Heap) : Prop :=
  H.size = G.2.2.1.size + C.length ∧ C.length ≤ 100000 ∧ (∀ q, q < G.2.2.1.size → H[q]? = G.2.2.1[q]?) ∧ va_P G.1 vwCl (sd_ws G C I J) H
abbrev sd_tys (G : sd_G) : List (ClassId × FieldType) := [(G.2.1 20, .int), (G.2.1 21, .char), (G.2.1 22, .long), (G.2.1 23, .object RX7), (G.2.1 24, .object RX4), (G.2.1 25, .object RX9)]
/-- what is said of the text "pfcth", which lies below the base -/
def sd_Str (G : sd_G) (U : State) : Prop :=
  vk_R RX8 63 "pfcth" G.2.2.2.2.1 U ∧ va_O "java/lang/String" G.2.2.2.2.1 (sd_A G) U G.2.2.1 ∧ va_OF "java/lang/String" "coder" "B" (.int 0) G.2.2.2.2.1 (sd_A G) U G.2.2.1 ∧
  va_OF "java/lang/String" "value" "[B" (.ref G.2.2.2.2.2) G.2.2.2.2.1 (sd_A G) U G.2.2.1 ∧ va_T .byte G.2.2.2.2.2 5 (fun j => .int ([112, 102, 99, 116, 104].getD j 0)) (sd_A G) U G.2.2.1 ∧
  va_Z "java/lang/String" "COMPACT_STRINGS" "Z" (.int 1) (sd_A G) U G.2.2.1
/-- what is carried everywhere, of the tables -/
def sd_F (G : sd_G) (U : State) : Prop :=
  va_K G.1 vwCl (sd_tys G) U ∧ (∀ q ∈ sd_nest, va_Nw (.methodLinkNest q.1 q.2.1 q.2.2.1 q.2.2.2) U) ∧ (∀ q ∈ sd_casts, va_Nw (.castable q.1 q.2) U) ∧ (∀ q ∈ sd_overs, va_AO q U) ∧ sd_Str G U
theorem sd_F.warm {G : sd_G} {s U : State} (hW : s.WarmedH U.vm) (h : sd_F G s) : sd_F G U := by
  obtain ⟨h1, h2, h3, h4, h5, h6, h7, h8, h9, h10⟩ := h
  exact ⟨va_K.moved hW.alike h1, fun q hq => va_Nw.warmM hW (h2 q hq), fun q hq => va_Nw.warmC hW (h3 q hq), fun q hq => va_AO.moved hW.alike (h4 q hq), vk_R.warm hW h5, va_O.moved hW.alike h6, va_OF.moved hW.alike h7, va_OF.moved hW.alike h8, va_T.moved hW.alike h9, va_Z.moved hW.alike h10⟩
theorem sd_F.same {G : sd_G} {u U : State} (hv : U.vm = u.vm) (h : sd_F G u) : sd_F G U := by
  obtain ⟨h1, h2, h3, h4, h5, h6, h7, h8, h9, h10⟩ := h
  have ha : u.vm.Alike U.vm := by rw [hv]; exact Vm.Alike.refl _
  exact ⟨va_K.moved ha h1, fun q hq => va_Nw.same rfl hv.symm (h2 q hq), fun q hq => va_Nw.same rfl hv.symm (h3 q hq), fun q hq => va_AO.moved ha (h4 q hq), vk_R.same hv h5, va_O.moved ha h6, va_OF.moved ha h7, va_OF.moved ha h8, va_T.moved ha h9, va_Z.moved ha h10⟩
/-- a method's surroundings -/
def sd_X (μ : sd_M) (p : Program) (s : State) (m : MethodId) (args : Array Value) (meth : Method) (c : Code) (G : sd_G) : Prop :=
  p.tables.exec = Jvm.exec ∧ c.code = μ.2.1 ∧ meth.sig.returnType = μ.2.2.2.1 ∧ c.maxLocals = μ.2.2.1 ∧ s.vm.findClass μ.1.cls = some m.cls ∧ (∀ w ∈ sd_gd, w.before args s = true) ∧ meth.locks = false ∧ meth.name = μ.1.name ∧ sd_F G s ∧ (∀ q, q < G.2.2.1.size → s.heap[q]? = G.2.2.1[q]?) ∧ G.2.2.1.size ≤ s.heap.size
/-- the script, in the law alone -/
def sd_Sc (μ : sd_M) (G : sd_G) (X : Nat × (Nat → Int32)) (s : State) : Prop := μ.1 = x → va_X G.2.2.2.1 X.1 X.2 s s.heap ∧ G.2.2.2.1 < s.heap.size ∧ ¬ sd_A G G.2.2.2.1
def sd_ret (μ : sd_M) (pc : Nat) (r : Option Int32) : Prop := match r with
  | none => μ.2.2.2.1 = none ∧ decode μ.2.1 pc = .ok (.return_, 1)
  | some v => (∃ ty, μ.2.2.2.1 = some ty ∧ narrow ty (.int v) = .int v) ∧ decode μ.2.1 pc = .ok (.ireturn, 1)
/-- what the end of the method gives -/
def sd_Z (μ : sd_M) (p : Program) (l : Launch) (e : Env) (s : State) (m : MethodId) (args : Array Value) (below : List Frame) (meth : Method) (c : Code) (G : sd_G) (X : Nat × (Nat → Int32)) (Z : State → Prop) (Q : Option Int32 → sd_S → Prop) : Prop :=
  ∀ (r : Option Int32) (C : List sd_C) (I : sd_I) (J : sd_J) (H : Heap) (locs : List Loc) (lsA : Array Slot) (pc : Nat), sd_ret μ pc r → Q r (C, X, I, J) → sd_R G C I J H → va_S (sd_A G) s.heap H locs →
    W p l e μ.2.2.2.2 s m args below meth c H locs μ.2.2.2.2.cells μ.2.2.2.2.slots Z (F0 m pc lsA (r.toList.map Value.int))
def sd_L (G : sd_G) (n : Nat) (ls : List Value) (lsA : Array Slot) : Prop := lsA.size = n ∧ lv_wf lsA ∧ ∀ (i : Nat) (v : Value), ls[i]? = some v → v ≠ .null → lsA[i]? = some (.val (sd_v G v))
/-- the machine, at pc of the method μ, in a state that the flat world tells, comes to an end with Q -/
def AW (μ : sd_M) (kc ks pc : Nat) (ls st : List Value) (σ : sd_S) (Q : Option Int32 → sd_S → Prop) : Prop :=
  ∀ (p : Program) (l : Launch) (e : Env) (s : State) (m : MethodId) (args : Array Value) (below : List Frame) (meth : Method) (c : Code) (G : sd_G) (Z : State → Prop),
    sd_X μ p s m args meth c G → sd_Sc μ G σ.2.1 s → sd_Z μ p l e s m args below meth c G σ.2.1 Z Q →
    ∀ (H : Heap) (locs : List Loc) (lsA : Array Slot), sd_R G σ.1 σ.2.2.1 σ.2.2.2 H → va_S (sd_A G) s.heap H locs → sd_L G μ.2.2.1 ls lsA →
      W p l e μ.2.2.2.2 s m args below meth c H locs kc ks Z (F0 m pc lsA (st.map (sd_v G)))
def sd_u {α : Type} (I : Nat → Nat → α) (a j : Nat) (v : α) : Nat → Nat → α := fun b => if b = a then (fun k => if k = j then v else I a k) else I b
def sd_r {α : Type} (I : Nat → Nat → α) (a : Nat) (f : Nat → α) : Nat → Nat → α := fun b => if b = a then f else I b
/-- a call of μ: its arguments in its locals -/
def sd_en : List Value → List Value
  | [] => []
  | v :: vs => if v.category = 2 then v :: .null :: sd_en vs else v :: sd_en vs
def AWm (μ : sd_M) (vs : List Value) (σ : sd_S) (Q : Option Int32 → sd_S → Prop) : Prop := AW μ 0 0 0 (sd_en vs ++ List.replicate (μ.2.2.1 - (sd_en vs).length) .null) [] σ Q
def AWi (μ : sd_M) (vs : List Value) (σ : sd_S) (Q : Int32 → sd_S → Prop) : Prop := AWm μ vs σ (fun r σ' => ∃ v, r = some v ∧ Q v σ')
def AWv (μ : sd_M) (vs : List Value) (σ : sd_S) (Q : sd_S → Prop) : Prop := AWm μ vs σ (fun r σ' => r = none ∧ Q σ')
end
section
-- one row an instruction, over the flat world
section Rows
variable {μ : sd_M} {kc ks pc : Nat} {ls st : List Value} {σ : sd_S} {Q : Option Int32 → sd_S → Prop}
theorem AW.go {pc' : Nat} {ls' st' : List Value} (h : ∀ (p : Program) (l : Launch) (e : Env) (s : State) (m : MethodId) (args : Array Value) (below : List Frame) (meth : Method) (c : Code) (G : sd_G) (Z : State → Prop) (H : Heap) (locs : List Loc) (lsA : Array Slot), sd_X μ p s m args meth c G → sd_L G μ.2.2.1 ls lsA →
      (∀ lsB, sd_L G μ.2.2.1 ls' lsB → W p l e μ.2.2.2.2 s m args below meth c H locs kc ks Z (F0 m pc' lsB (st'.map (sd_v G)))) → W p l e μ.2.2.2.2 s m args below meth c H locs kc ks Z (F0 m pc lsA (st.map (sd_v G))))
    (k : AW μ kc ks pc' ls' st' σ Q) : AW μ kc ks pc ls st σ Q := by
  intro p l e s m args below meth c G Z hX hSc hZ H locs lsA hR hS hL
  exact h p l e s m args below meth c G Z H locs lsA hX hL (fun lsB hB => k p l e s m args below meth c G Z hX hSc hZ H locs lsB hR hS hB)
theorem AW.iconst {n : Int} {v : Int32} (d : decode μ.2.1 pc = .ok (.iconst n, 1)) (hv : Int32.ofInt n = v) (k : AW μ kc ks (pc + 1) ls (.int v :: st) σ Q) : AW μ kc ks pc ls st σ Q :=
  AW.go (fun _ _ _ _ _ _ _ _ _ _ _ _ _ _ hX hL k => lv_iconst hX.1 hX.2.1 d hv (k _ hL)) k
theorem AW.bipush {n : Int} {v : Int32} (d : decode μ.2.1 pc = .ok (.bipush n, 2)) (hv : (Int8.ofInt n).toInt32 = v) (k : AW μ kc ks (pc + 2) ls (.int v :: st) σ Q) : AW μ kc ks pc ls st σ Q :=
  AW.go (fun _ _ _ _ _ _ _ _ _ _ _ _ _ _ hX hL k => lv_bipush hX.1 hX.2.1 d hv (k _ hL)) k
theorem AW.sipush {n : Int} {v : Int32} (d : decode μ.2.1 pc = .ok (.sipush n, 3)) (hv : (Int16.ofInt n).toInt32 = v) (k : AW μ kc ks (pc + 3) ls (.int v :: st) σ Q) : AW μ kc ks pc ls st σ Q :=
  AW.go (fun _ _ _ _ _ _ _ _ _ _ _ _ _ _ hX hL k => lv_sipush hX.1 hX.2.1 d hv (k _ hL)) k
theorem AW.lconst {n : Fin 2} {v : Int64} (d : decode μ.2.1 pc = .ok (.lconst n, 1)) (hv : Int64.ofNat (n : Nat) = v) (k : AW μ kc ks (pc + 1) ls (.long v :: st) σ Q) : AW μ kc ks pc ls st σ Q :=
  AW.go (fun _ _ _ _ _ _ _ _ _ _ _ _ _ _ hX hL k => lv_lconst hX.1 hX.2.1 d hv (k _ hL)) k
theorem AW.ldc {idx : Nat} {v : Int32} (d : decode μ.2.1 pc = .ok (.ldc idx, 2)) (w : Cond.constant μ.1.cls idx v ∈ sd_gd) (k : AW μ kc ks (pc + 2) ls (.int v :: st) σ Q) : AW μ kc ks pc ls st σ Q :=
  AW.go (fun _ _ _ _ _ _ _ _ _ _ _ _ _ _ hX hL k => lv_ldc hX.1 hX.2.1 hX.2.2.2.2.1 (hX.2.2.2.2.2.1 _ w) d (k _ hL)) k
theorem AW.ldcw {idx : Nat} {v : Int32} (d : decode μ.2.1 pc = .ok (.ldc_w idx, 3)) (w : Cond.constant μ.1.cls idx v ∈ sd_gd) (k : AW μ kc ks (pc + 3) ls (.int v :: st) σ Q) : AW μ kc ks pc ls st σ Q :=
  AW.go (fun _ _ _ _ _ _ _ _ _ _ _ _ _ _ hX hL k => lv_ldcw hX.1 hX.2.1 hX.2.2.2.2.1 (hX.2.2.2.2.2.1 _ w) d (k _ hL)) k
theorem AW.ldc2 {idx : Nat} {v : Int64} (d : decode μ.2.1 pc = .ok (.ldc2_w idx, 3)) (w : Cond.constantLong μ.1.cls idx v ∈ sd_gd) (k : AW μ kc ks (pc + 3) ls (.long v :: st) σ Q) : AW μ kc ks pc ls st σ Q :=
  AW.go (fun _ _ _ _ _ _ _ _ _ _ _ _ _ _ hX hL k => lv_ldc2 hX.1 hX.2.1 hX.2.2.2.2.1 (hX.2.2.2.2.2.1 _ w) d (k _ hL)) k
theorem AW.iload_n {n : Fin 4} {i : Nat} {v : Int32} (d : decode μ.2.1 pc = .ok (.iload_n n, 1)) (hi : (n : Nat) = i) (h : ls[i]? = some (.int v)) (k : AW μ kc ks (pc + 1) ls (.int v :: st) σ Q) : AW μ kc ks pc ls st σ Q :=
  AW.go (fun _ _ _ _ _ _ _ _ _ _ _ _ _ _ hX hL k => lv_iload_n hX.1 hX.2.1 d hi (hL.2.2 i _ h (fun h => by cases h)) (k _ hL)) k
theorem AW.iload {i : Nat} {v : Int32} (d : decode μ.2.1 pc = .ok (.iload i, 2)) (h : ls[i]? = some (.int v)) (k : AW μ kc ks (pc + 2) ls (.int v :: st) σ Q) : AW μ kc ks pc ls st σ Q :=
  AW.go (fun _ _ _ _ _ _ _ _ _ _ _ _ _ _ hX hL k => lv_iload hX.1 hX.2.1 d (hL.2.2 i _ h (fun h => by cases h)) (k _ hL)) k
theorem AW.lload_n {n : Fin 4} {i : Nat} {v : Int64} (d : decode μ.2.1 pc = .ok (.lload_n n, 1)) (hi : (n : Nat) = i) (h : ls[i]? = some (.long v)) (k : AW μ kc ks (pc + 1) ls (.long v :: st) σ Q) : AW μ kc ks pc ls st σ Q :=
  AW.go (fun _ _ _ _ _ _ _ _ _ _ _ _ _ _ hX hL k => lv_lload_n hX.1 hX.2.1 d hi (hL.2.2 i _ h (fun h => by cases h)) (k _ hL)) k
theorem AW.lload {i : Nat} {v : Int64} (d : decode μ.2.1 pc = .ok (.lload i, 2)) (h : ls[i]? = some (.long v)) (k : AW μ kc ks (pc + 2) ls (.long v :: st) σ Q) : AW μ kc ks pc ls st σ Q :=
  AW.go (fun _ _ _ _ _ _ _ _ _ _ _ _ _ _ hX hL k => lv_lload hX.1 hX.2.1 d (hL.2.2 i _ h (fun h => by cases h)) (k _ hL)) k
theorem AW.aload_n {n : Fin 4} {i a : Nat} (d : decode μ.2.1 pc = .ok (.aload_n n, 1)) (hi : (n : Nat) = i) (h : ls[i]? = some (.ref a)) (k : AW μ kc ks (pc + 1) ls (.ref a :: st) σ Q) : AW μ kc ks pc ls st σ Q :=
  AW.go (fun _ _ _ _ _ _ _ _ _ _ _ _ _ _ hX hL k => lv_aload_n hX.1 hX.2.1 d hi (hL.2.2 i _ h (fun h => by cases h)) (k _ hL)) k
theorem AW.aload {i a : Nat} (d : decode μ.2.1 pc = .ok (.aload i, 2)) (h : ls[i]? = some (.ref a)) (k : AW μ kc ks (pc + 2) ls (.ref a :: st) σ Q) : AW μ kc ks pc ls st σ Q :=
  AW.go (fun _ _ _ _ _ _ _ _ _ _ _ _ _ _ hX hL k => lv_aload hX.1 hX.2.1 d (hL.2.2 i _ h (fun h => by cases h)) (k _ hL)) k
/-- the local ahead of place i isn't a long one -/
def sd_one (ls : List Value) (i : Nat) : Bool := match i with
  | 0 => true
  | j + 1 => match ls[j]? with
    | some v => v.category == 1
    | none => true
def sd_known (G : sd_G) (ls : List Value) : List (Nat × Value) := ls.zipIdx.filterMap (fun q => match q.1 with
  | .null => none
  | v => some (q.2, sd_v G v))
theorem sd_known_mem {G : sd_G} {ls : List Value} {i : Nat} {v : Value} (h : ls[i]? = some v) (hv : v ≠ .null) : (i, sd_v G v) ∈ sd_known G ls := by
  unfold sd_known
  refine List.mem_filterMap.mpr ⟨(v, i), ?_, ?_⟩
  · exact List.mem_zipIdx_iff_getElem?.mpr h
  · cases v <;> first | exact absurd rfl hv | rfl
theorem sd_known_has {G : sd_G} {n : Nat} {ls : List Value} {lsA : Array Slot} (h : sd_L G n ls lsA) : lv_has lsA n (sd_known G ls) := by
  refine ⟨h.1, h.2.1, fun q hq => ?_⟩
  unfold sd_known at hq
  obtain ⟨⟨v, i⟩, h1, h2⟩ := List.mem_filterMap.mp hq
  have h1 := List.mem_zipIdx_iff_getElem?.mp h1
  dsimp only at h1 h2
  by_cases hv : v = .null
  · subst hv; cases h2
  · have := h.2.2 i v h1 hv
    cases v <;> first | exact absurd rfl hv | (cases h2; exact this)
theorem sd_L_of {G : sd_G} {n i : Nat} {ls : List Value} {lsA lsB : Array Slot} {v : Value} (hone : sd_one ls i = true) (h : sd_L G n ls lsA) (h' : lv_has lsB n ((i, sd_v G v) :: (sd_known G ls).filter (fun q => !(q.1 == i) && !(q.1 + 1 == i && q.2.category == 2)))) : sd_L G n (ls.set i v) lsB := by
  refine ⟨h'.1, h'.2.1, fun j w hj hw => ?_⟩
  by_cases hji : j = i
  · subst hji
    rw [List.getElem?_set] at hj
    rw [if_pos rfl] at hj
    split at hj
    · cases hj
      exact h'.2.2 _ List.mem_cons_self
    · cases hj
  · rw [List.getElem?_set_ne (fun e => hji e.symm)] at hj
    refine h'.2.2 (j, sd_v G w) (List.mem_cons_of_mem _ (List.mem_filter.mpr ⟨sd_known_mem hj hw, ?_⟩))
    have e1 : (j == i) = false := by simpa using hji
    simp only [e1, Bool.not_false, Bool.true_and, Bool.not_eq_true', Bool.and_eq_false_iff]
    by_cases hj1 : j + 1 = i
    · right
      subst hj1
      have : (w.category == 1) = true := by simpa [sd_one, hj] using hone
      rw [sd_v_cat]
      have h1 : w.category = 1 := by simpa using this
      rw [h1]; rfl
    · left; simpa using hj1
theorem AW.istore_n {n : Fin 4} {i : Nat} {v : Int32} {ls' : List Value} (d : decode μ.2.1 pc = .ok (.istore_n n, 1)) (hi : (n : Nat) = i) (hn : i < μ.2.2.1) (ho : sd_one ls i = true) (hl : ls.set i (.int v) = ls') (k : AW μ kc ks (pc + 1) ls' st σ Q) : AW μ kc ks pc ls (.int v :: st) σ Q := by
  subst hl
  exact AW.go (fun _ _ _ _ _ _ _ _ _ _ _ _ _ _ hX hL k => lv_istore_n hX.1 hX.2.1 d hi (sd_known_has hL) hn rfl (fun lsB hB => k lsB (sd_L_of (v := .int v) ho hL hB))) k
theorem AW.istore {i : Nat} {v : Int32} {ls' : List Value} (d : decode μ.2.1 pc = .ok (.istore i, 2)) (hn : i < μ.2.2.1) (ho : sd_one ls i = true) (hl : ls.set i (.int v) = ls') (k : AW μ kc ks (pc + 2) ls' st σ Q) : AW μ kc ks pc ls (.int v :: st) σ Q := by
  subst hl
  exact AW.go (fun _ _ _ _ _ _ _ _ _ _ _ _ _ _ hX hL k => lv_istore hX.1 hX.2.1 d (sd_known_has hL) hn rfl (fun lsB hB => k lsB (sd_L_of (v := .int v) ho hL hB))) k
theorem AW.astore_n {n : Fin 4} {i a : Nat} {ls' : List Value} (d : decode μ.2.1 pc = .ok (.astore_n n, 1)) (hi : (n : Nat) = i) (hn : i < μ.2.2.1) (ho : sd_one ls i = true) (hl : ls.set i (.ref a) = ls') (k : AW μ kc ks (pc + 1) ls' st σ Q) : AW μ kc ks pc ls (.ref a :: st) σ Q := by
  subst hl
  exact AW.go (fun _ _ _ _ _ _ _ _ _ _ _ _ _ _ hX hL k => lv_astore_n hX.1 hX.2.1 d hi (sd_known_has hL) hn rfl (fun lsB hB => k lsB (sd_L_of (v := .ref a) ho hL hB))) k
theorem AW.astore {i a : Nat} {ls' : List Value} (d : decode μ.2.1 pc = .ok (.astore i, 2)) (hn : i < μ.2.2.1) (ho : sd_one ls i = true) (hl : ls.set i (.ref a) = ls') (k : AW μ kc ks (pc + 2) ls' st σ Q) : AW μ kc ks pc ls (.ref a :: st) σ Q := by
  subst hl
  exact AW.go (fun _ _ _ _ _ _ _ _ _ _ _ _ _ _ hX hL k => lv_astore hX.1 hX.2.1 d (sd_known_has hL) hn rfl (fun lsB hB => k lsB (sd_L_of (v := .ref a) ho hL hB))) k
theorem AW.iinc {i : Nat} {n : Int} {x v : Int32} {ls' : List Value} (d : decode μ.2.1 pc = .ok (.iinc i n, 3)) (h : ls[i]? = some (.int x)) (hv : x + Int32.ofInt n = v) (hn : i < μ.2.2.1) (ho : sd_one ls i = true) (hl : ls.set i (.int v) = ls') (k : AW μ kc ks (pc + 3) ls' st σ Q) : AW μ kc ks pc ls st σ Q := by
  subst hl
  refine AW.go (fun _ _ _ _ _ _ _ _ _ G _ _ _ _ hX hL k => ?_) k
  obtain ⟨j, hj⟩ := List.getElem?_of_mem (sd_known_mem (G := G) h (fun h => by cases h))
  exact lv_iinc hX.1 hX.2.1 d (sd_known_has hL) (k := j) hj hv hn rfl (fun lsB hB => k lsB (sd_L_of (v := .int v) ho hL hB))
theorem AW.iadd {x y : Int32} (d : decode μ.2.1 pc = .ok (.iadd, 1)) (k : AW μ kc ks (pc + 1) ls (.int (x + y) :: st) σ Q) : AW μ kc ks pc ls (.int y :: .int x :: st) σ Q :=
  AW.go (fun _ _ _ _ _ _ _ _ _ _ _ _ _ _ hX hL k => lv_iadd hX.1 hX.2.1 d (k _ hL)) k
theorem AW.isub {x y : Int32} (d : decode μ.2.1 pc = .ok (.isub, 1)) (k : AW μ kc ks (pc + 1) ls (.int (x - y) :: st) σ Q) : AW μ kc ks pc ls (.int y :: .int x :: st) σ Q :=
  AW.go (fun _ _ _ _ _ _ _ _ _ _ _ _ _ _ hX hL k => lv_isub hX.1 hX.2.1 d (k _ hL)) k
theorem AW.imul {x y : Int32} (d : decode μ.2.1 pc = .ok (.imul, 1)) (k : AW μ kc ks (pc + 1) ls (.int (x * y) :: st) σ Q) : AW μ kc ks pc ls (.int y :: .int x :: st) σ Q :=
  AW.go (fun _ _ _ _ _ _ _ _ _ _ _ _ _ _ hX hL k => lv_imul hX.1 hX.2.1 d (k _ hL)) k
theorem AW.iand {x y : Int32} (d : decode μ.2.1 pc = .ok (.iand, 1)) (k : AW μ kc ks (pc + 1) ls (.int (x &&& y) :: st) σ Q) : AW μ kc ks pc ls (.int y :: .int x :: st) σ Q :=
  AW.go (fun _ _ _ _ _ _ _ _ _ _ _ _ _ _ hX hL k => lv_iand hX.1 hX.2.1 d (k _ hL)) k
theorem AW.ior {x y : Int32} (d : decode μ.2.1 pc = .ok (.ior, 1)) (k : AW μ kc ks (pc + 1) ls (.int (x ||| y) :: st) σ Q) : AW μ kc ks pc ls (.int y :: .int x :: st) σ Q :=
  AW.go (fun _ _ _ _ _ _ _ _ _ _ _ _ _ _ hX hL k => lv_ior hX.1 hX.2.1 d (k _ hL)) k
theorem AW.ixor {x y : Int32} (d : decode μ.2.1 pc = .ok (.ixor, 1)) (k : AW μ kc ks (pc + 1) ls (.int (x ^^^ y) :: st) σ Q) : AW μ kc ks pc ls (.int y :: .int x :: st) σ Q :=
  AW.go (fun _ _ _ _ _ _ _ _ _ _ _ _ _ _ hX hL k => lv_ixor hX.1 hX.2.1 d (k _ hL)) k
theorem AW.idiv {x y : Int32} (d : decode μ.2.1 pc = .ok (.idiv, 1)) (hne : ¬ y = 0) (k : AW μ kc ks (pc + 1) ls (.int (x / y) :: st) σ Q) : AW μ kc ks pc ls (.int y :: .int x :: st) σ Q :=
  AW.go (fun _ _ _ _ _ _ _ _ _ _ _ _ _ _ hX hL k => lv_idiv hX.1 hX.2.1 d hne (k _ hL)) k
theorem AW.irem {x y : Int32} (d : decode μ.2.1 pc = .ok (.irem, 1)) (hne : ¬ y = 0) (k : AW μ kc ks (pc + 1) ls (.int (x - x / y * y) :: st) σ Q) : AW μ kc ks pc ls (.int y :: .int x :: st) σ Q :=
  AW.go (fun _ _ _ _ _ _ _ _ _ _ _ _ _ _ hX hL k => lv_irem hX.1 hX.2.1 d hne (k _ hL)) k
theorem AW.ishl {x y : Int32} (d : decode μ.2.1 pc = .ok (.ishl, 1)) (k : AW μ kc ks (pc + 1) ls (.int (x <<< (y &&& 31)) :: st) σ Q) : AW μ kc ks pc ls (.int y :: .int x :: st) σ Q :=
  AW.go (fun _ _ _ _ _ _ _ _ _ _ _ _ _ _ hX hL k => lv_ishl hX.1 hX.2.1 d (k _ hL)) k
theorem AW.ishr {x y : Int32} (d : decode μ.2.1 pc = .ok (.ishr, 1)) (k : AW μ kc ks (pc + 1) ls (.int (x >>> (y &&& 31)) :: st) σ Q) : AW μ kc ks pc ls (.int y :: .int x :: st) σ Q :=
  AW.go (fun _ _ _ _ _ _ _ _ _ _ _ _ _ _ hX hL k => lv_ishr hX.1 hX.2.1 d (k _ hL)) k
theorem AW.iushr {x y : Int32} (d : decode μ.2.1 pc = .ok (.iushr, 1)) (k : AW μ kc ks (pc + 1) ls (.int (x.toUInt32 >>> (y.toUInt32 &&& Int32.toUInt32 31)).toInt32 :: st) σ Q) : AW μ kc ks pc ls (.int y :: .int x :: st) σ Q :=
  AW.go (fun _ _ _ _ _ _ _ _ _ _ _ _ _ _ hX hL k => lv_iushr hX.1 hX.2.1 d rfl (k _ hL)) k
theorem AW.ladd {x y : Int64} (d : decode μ.2.1 pc = .ok (.ladd, 1)) (k : AW μ kc ks (pc + 1) ls (.long (x + y) :: st) σ Q) : AW μ kc ks pc ls (.long y :: .long x :: st) σ Q :=
  AW.go (fun _ _ _ _ _ _ _ _ _ _ _ _ _ _ hX hL k => lv_ladd hX.1 hX.2.1 d (k _ hL)) k
theorem AW.lmul {x y : Int64} (d : decode μ.2.1 pc = .ok (.lmul, 1)) (k : AW μ kc ks (pc + 1) ls (.long (x * y) :: st) σ Q) : AW μ kc ks pc ls (.long y :: .long x :: st) σ Q :=
  AW.go (fun _ _ _ _ _ _ _ _ _ _ _ _ _ _ hX hL k => lv_lmul hX.1 hX.2.1 d (k _ hL)) k
theorem AW.land {x y : Int64} (d : decode μ.2.1 pc = .ok (.land, 1)) (k : AW μ kc ks (pc + 1) ls (.long (x &&& y) :: st) σ Q) : AW μ kc ks pc ls (.long y :: .long x :: st) σ Q :=
  AW.go (fun _ _ _ _ _ _ _ _ _ _ _ _ _ _ hX hL k => lv_land hX.1 hX.2.1 d (k _ hL)) k
theorem AW.lor {x y : Int64} (d : decode μ.2.1 pc = .ok (.lor, 1)) (k : AW μ kc ks (pc + 1) ls (.long (x ||| y) :: st) σ Q) : AW μ kc ks pc ls (.long y :: .long x :: st) σ Q :=
  AW.go (fun _ _ _ _ _ _ _ _ _ _ _ _ _ _ hX hL k => lv_lor hX.1 hX.2.1 d (k _ hL)) k
theorem AW.lrem {x y : Int64} (d : decode μ.2.1 pc = .ok (.lrem, 1)) (hne : ¬ y = 0) (k : AW μ kc ks (pc + 1) ls (.long (x - x / y * y) :: st) σ Q) : AW μ kc ks pc ls (.long y :: .long x :: st) σ Q :=
  AW.go (fun _ _ _ _ _ _ _ _ _ _ _ _ _ _ hX hL k => lv_lrem hX.1 hX.2.1 d hne (k _ hL)) k
theorem AW.lshl {x : Int64} {y : Int32} (d : decode μ.2.1 pc = .ok (.lshl, 1)) (k : AW μ kc ks (pc + 1) ls (.long (x <<< (y.toInt64 &&& 63)) :: st) σ Q) : AW μ kc ks pc ls (.int y :: .long x :: st) σ Q :=
  AW.go (fun _ _ _ _ _ _ _ _ _ _ _ _ _ _ hX hL k => lv_lshl hX.1 hX.2.1 d rfl (k _ hL)) k
theorem AW.lcmp {x y : Int64} (d : decode μ.2.1 pc = .ok (.lcmp, 1)) (k : AW μ kc ks (pc + 1) ls (.int (lg_cmp x y) :: st) σ Q) : AW μ kc ks pc ls (.long y :: .long x :: st) σ Q :=
  AW.go (fun _ _ _ _ _ _ _ _ _ _ _ _ _ _ hX hL k => W.lcmp hX.1 hX.2.1 d (k _ hL)) k
theorem AW.i2l {x : Int32} (d : decode μ.2.1 pc = .ok (.i2l, 1)) (k : AW μ kc ks (pc + 1) ls (.long x.toInt64 :: st) σ Q) : AW μ kc ks pc ls (.int x :: st) σ Q :=
  AW.go (fun _ _ _ _ _ _ _ _ _ _ _ _ _ _ hX hL k => lv_i2l hX.1 hX.2.1 d rfl (k _ hL)) k
theorem AW.l2i {x : Int64} (d : decode μ.2.1 pc = .ok (.l2i, 1)) (k : AW μ kc ks (pc + 1) ls (.int x.toInt32 :: st) σ Q) : AW μ kc ks pc ls (.long x :: st) σ Q :=
  AW.go (fun _ _ _ _ _ _ _ _ _ _ _ _ _ _ hX hL k => lv_l2i hX.1 hX.2.1 d rfl (k _ hL)) k
theorem AW.i2b {x : Int32} (d : decode μ.2.1 pc = .ok (.i2b, 1)) (k : AW μ kc ks (pc + 1) ls (.int x.toInt8.toInt32 :: st) σ Q) : AW μ kc ks pc ls (.int x :: st) σ Q :=
  AW.go (fun _ _ _ _ _ _ _ _ _ _ _ _ _ _ hX hL k => lv_i2b hX.1 hX.2.1 d rfl (k _ hL)) k
theorem AW.i2s {x : Int32} (d : decode μ.2.1 pc = .ok (.i2s, 1)) (k : AW μ kc ks (pc + 1) ls (.int x.toInt16.toInt32 :: st) σ Q) : AW μ kc ks pc ls (.int x :: st) σ Q :=
  AW.go (fun _ _ _ _ _ _ _ _ _ _ _ _ _ _ hX hL k => lv_i2s hX.1 hX.2.1 d rfl (k _ hL)) k
theorem AW.i2c {x : Int32} (d : decode μ.2.1 pc = .ok (.i2c, 1)) (k : AW μ kc ks (pc + 1) ls (.int (x.toUInt32 % 65536).toInt32 :: st) σ Q) : AW μ kc ks pc ls (.int x :: st) σ Q :=
  AW.go (fun _ _ _ _ _ _ _ _ _ _ _ _ _ _ hX hL k => lv_i2c hX.1 hX.2.1 d rfl (k _ hL)) k
theorem AW.dup {v : Value} (d : decode μ.2.1 pc = .ok (.dup, 1)) (h : v.category = 1) (k : AW μ kc ks (pc + 1) ls (v :: v :: st) σ Q) : AW μ kc ks pc ls (v :: st) σ Q :=
  AW.go (fun _ _ _ _ _ _ _ _ _ _ _ _ _ _ hX hL k => lv_dup hX.1 hX.2.1 d (by rw [sd_v_cat]; exact h) (k _ hL)) k
theorem AW.dup2 {v w : Value} (d : decode μ.2.1 pc = .ok (.dup2, 1)) (h : v.category = 1) (h2 : w.category = 1) (k : AW μ kc ks (pc + 1) ls (v :: w :: v :: w :: st) σ Q) : AW μ kc ks pc ls (v :: w :: st) σ Q :=
  AW.go (fun _ _ _ _ _ _ _ _ _ _ _ _ _ _ hX hL k => lv_dup2_11 hX.1 hX.2.1 d (by rw [sd_v_cat]; exact h) (by rw [sd_v_cat]; exact h2) (k _ hL)) k
theorem AW.pop {v : Value} (d : decode μ.2.1 pc = .ok (.pop, 1)) (h : v.category = 1) (k : AW μ kc ks (pc + 1) ls st σ Q) : AW μ kc ks pc ls (v :: st) σ Q :=
  AW.go (fun _ _ _ _ _ _ _ _ _ _ _ _ _ _ hX hL k => lv_pop hX.1 hX.2.1 d (by rw [sd_v_cat]; exact h) (k _ hL)) k
theorem AW.goto {off : Int} {tgt : Nat} (d : decode μ.2.1 pc = .ok (.goto off, 3)) (ht : (pc : Int) + off = (tgt : Int)) (k : AW μ kc ks tgt ls st σ Q) : AW μ kc ks pc ls st σ Q :=
  AW.go (fun _ _ _ _ _ _ _ _ _ _ _ _ _ _ hX hL k => lv_goto hX.1 hX.2.1 d ht (k _ hL)) k
theorem AW.go2 {tgt : Nat} {P : Prop} {st' : List Value} (h : ∀ (p : Program) (l : Launch) (e : Env) (s : State) (m : MethodId) (args : Array Value) (below : List Frame) (meth : Method) (c : Code) (G : sd_G) (Z : State → Prop) (H : Heap) (locs : List Loc) (lsA : Array Slot), sd_X μ p s m args meth c G →
      (P → W p l e μ.2.2.2.2 s m args below meth c H locs kc ks Z (F0 m tgt lsA (st'.map (sd_v G)))) → (¬ P → W p l e μ.2.2.2.2 s m args below meth c H locs kc ks Z (F0 m (pc + 3) lsA (st'.map (sd_v G)))) → W p l e μ.2.2.2.2 s m args below meth c H locs kc ks Z (F0 m pc lsA (st.map (sd_v G))))
    (kt : P → AW μ kc ks tgt ls st' σ Q) (kf : ¬ P → AW μ kc ks (pc + 3) ls st' σ Q) : AW μ kc ks pc ls st σ Q := by
  intro p l e s m args below meth c G Z hX hSc hZ H locs lsA hR hS hL
  exact h p l e s m args below meth c G Z H locs lsA hX (fun hp => kt hp p l e s m args below meth c G Z hX hSc hZ H locs lsA hR hS hL) (fun hp => kf hp p l e s m args below meth c G Z hX hSc hZ H locs lsA hR hS hL)
theorem AW.if_eq {off : Int} {tgt : Nat} {x : Int32} (d : decode μ.2.1 pc = .ok (.ifCond .eq off, 3)) (ht : (pc : Int) + off = (tgt : Int)) (kt : x = 0 → AW μ kc ks tgt ls st σ Q) (kf : ¬ x = 0 → AW μ kc ks (pc + 3) ls st σ Q) : AW μ kc ks pc ls (.int x :: st) σ Q :=
  AW.go2 (fun _ _ _ _ _ _ _ _ _ _ _ _ _ _ hX a b => lv_if_eq hX.1 hX.2.1 d ht a b) kt kf
theorem AW.if_ne {off : Int} {tgt : Nat} {x : Int32} (d : decode μ.2.1 pc = .ok (.ifCond .ne off, 3)) (ht : (pc : Int) + off = (tgt : Int)) (kt : ¬ x = 0 → AW μ kc ks tgt ls st σ Q) (kf : x = 0 → AW μ kc ks (pc + 3) ls st σ Q) : AW μ kc ks pc ls (.int x :: st) σ Q :=
  AW.go2 (fun _ _ _ _ _ _ _ _ _ _ _ _ _ _ hX a b => lv_if_ne hX.1 hX.2.1 d ht a (fun h => b (fun n => n h))) kt (fun h => kf (Classical.not_not.mp h))
theorem AW.if_lt {off : Int} {tgt : Nat} {x : Int32} (d : decode μ.2.1 pc = .ok (.ifCond .lt off, 3)) (ht : (pc : Int) + off = (tgt : Int)) (kt : x < 0 → AW μ kc ks tgt ls st σ Q) (kf : ¬ x < 0 → AW μ kc ks (pc + 3) ls st σ Q) : AW μ kc ks pc ls (.int x :: st) σ Q :=
  AW.go2 (fun _ _ _ _ _ _ _ _ _ _ _ _ _ _ hX a b => lv_if_lt hX.1 hX.2.1 d ht a b) kt kf
theorem AW.if_ge {off : Int} {tgt : Nat} {x : Int32} (d : decode μ.2.1 pc = .ok (.ifCond .ge off, 3)) (ht : (pc : Int) + off = (tgt : Int)) (kt : 0 ≤ x → AW μ kc ks tgt ls st σ Q) (kf : ¬ 0 ≤ x → AW μ kc ks (pc + 3) ls st σ Q) : AW μ kc ks pc ls (.int x :: st) σ Q :=
  AW.go2 (fun _ _ _ _ _ _ _ _ _ _ _ _ _ _ hX a b => lv_if_ge hX.1 hX.2.1 d ht a b) kt kf
theorem AW.if_gt {off : Int} {tgt : Nat} {x : Int32} (d : decode μ.2.1 pc = .ok (.ifCond .gt off, 3)) (ht : (pc : Int) + off = (tgt : Int)) (kt : 0 < x → AW μ kc ks tgt ls st σ Q) (kf : ¬ 0 < x → AW μ kc ks (pc + 3) ls st σ Q) : AW μ kc ks pc ls (.int x :: st) σ Q :=
  AW.go2 (fun _ _ _ _ _ _ _ _ _ _ _ _ _ _ hX a b => lv_if_gt hX.1 hX.2.1 d ht a b) kt kf
theorem AW.if_le {off : Int} {tgt : Nat} {x : Int32} (d : decode μ.2.1 pc = .ok (.ifCond .le off, 3)) (ht : (pc : Int) + off = (tgt : Int)) (kt : x ≤ 0 → AW μ kc ks tgt ls st σ Q) (kf : ¬ x ≤ 0 → AW μ kc ks (pc + 3) ls st σ Q) : AW μ kc ks pc ls (.int x :: st) σ Q :=
  AW.go2 (fun _ _ _ _ _ _ _ _ _ _ _ _ _ _ hX a b => lv_if_le hX.1 hX.2.1 d ht a b) kt kf
theorem AW.icmp_eq {off : Int} {tgt : Nat} {x y : Int32} (d : decode μ.2.1 pc = .ok (.if_icmp .eq off, 3)) (ht : (pc : Int) + off = (tgt : Int)) (kt : x = y → AW μ kc ks tgt ls st σ Q) (kf : ¬ x = y → AW μ kc ks (pc + 3) ls st σ Q) : AW μ kc ks pc ls (.int y :: .int x :: st) σ Q :=
  AW.go2 (fun _ _ _ _ _ _ _ _ _ _ _ _ _ _ hX a b => lv_icmp_eq hX.1 hX.2.1 d ht a b) kt kf
theorem AW.icmp_ne {off : Int} {tgt : Nat} {x y : Int32} (d : decode μ.2.1 pc = .ok (.if_icmp .ne off, 3)) (ht : (pc : Int) + off = (tgt : Int)) (kt : ¬ x = y → AW μ kc ks tgt ls st σ Q) (kf : x = y → AW μ kc ks (pc + 3) ls st σ Q) : AW μ kc ks pc ls (.int y :: .int x :: st) σ Q :=
  AW.go2 (fun _ _ _ _ _ _ _ _ _ _ _ _ _ _ hX a b => lv_icmp_ne hX.1 hX.2.1 d ht a (fun h => b (fun n => n h))) kt (fun h => kf (Classical.not_not.mp h))
theorem AW.icmp_lt {off : Int} {tgt : Nat} {x y : Int32} (d : decode μ.2.1 pc = .ok (.if_icmp .lt off, 3)) (ht : (pc : Int) + off = (tgt : Int)) (kt : x < y → AW μ kc ks tgt ls st σ Q) (kf : ¬ x < y → AW μ kc ks (pc + 3) ls st σ Q) : AW μ kc ks pc ls (.int y :: .int x :: st) σ Q :=
  AW.go2 (fun _ _ _ _ _ _ _ _ _ _ _ _ _ _ hX a b => lv_icmp_lt hX.1 hX.2.1 d ht a b) kt kf
theorem AW.icmp_ge {off : Int} {tgt : Nat} {x y : Int32} (d : decode μ.2.1 pc = .ok (.if_icmp .ge off, 3)) (ht : (pc : Int) + off = (tgt : Int)) (kt : y ≤ x → AW μ kc ks tgt ls st σ Q) (kf : ¬ y ≤ x → AW μ kc ks (pc + 3) ls st σ Q) : AW μ kc ks pc ls (.int y :: .int x :: st) σ Q :=
  AW.go2 (fun _ _ _ _ _ _ _ _ _ _ _ _ _ _ hX a b => lv_icmp_ge hX.1 hX.2.1 d ht a b) kt kf
theorem AW.icmp_gt {off : Int} {tgt : Nat} {x y : Int32} (d : decode μ.2.1 pc = .ok (.if_icmp .gt off, 3)) (ht : (pc : Int) + off = (tgt : Int)) (kt : y < x → AW μ kc ks tgt ls st σ Q) (kf : ¬ y < x → AW μ kc ks (pc + 3) ls st σ Q) : AW μ kc ks pc ls (.int y :: .int x :: st) σ Q :=
  AW.go2 (fun _ _ _ _ _ _ _ _ _ _ _ _ _ _ hX a b => lv_icmp_gt hX.1 hX.2.1 d ht a b) kt kf
theorem AW.icmp_le {off : Int} {tgt : Nat} {x y : Int32} (d : decode μ.2.1 pc = .ok (.if_icmp .le off, 3)) (ht : (pc : Int) + off = (tgt : Int)) (kt : x ≤ y → AW μ kc ks tgt ls st σ Q) (kf : ¬ x ≤ y → AW μ kc ks (pc + 3) ls st σ Q) : AW μ kc ks pc ls (.int y :: .int x :: st) σ Q :=
  AW.go2 (fun _ _ _ _ _ _ _ _ _ _ _ _ _ _ hX a b => lv_icmp_le hX.1 hX.2.1 d ht a b) kt kf
theorem AW.tableIn {df lo hi : Int} {offs : Array Int} {len : Nat} {x : Int32} {off : Int} {tgt : Nat} (d : decode μ.2.1 pc = .ok (.tableswitch df lo hi offs, len)) (h1 : ¬ x.toInt < lo) (h2 : ¬ hi < x.toInt) (ho : offs[(x.toInt - lo).toNat]? = some off) (ht : (pc : Int) + off = (tgt : Int)) (k : AW μ kc ks tgt ls st σ Q) : AW μ kc ks pc ls (.int x :: st) σ Q :=
  AW.go (fun _ _ _ _ _ _ _ _ _ _ _ _ _ _ hX hL k => lv_tableIn hX.1 hX.2.1 d h1 h2 ho ht (k _ hL)) k
theorem AW.tableOut {df lo hi : Int} {offs : Array Int} {len : Nat} {x : Int32} {tgt : Nat} (d : decode μ.2.1 pc = .ok (.tableswitch df lo hi offs, len)) (h : x.toInt < lo ∨ hi < x.toInt) (ht : (pc : Int) + df = (tgt : Int)) (k : AW μ kc ks tgt ls st σ Q) : AW μ kc ks pc ls (.int x :: st) σ Q :=
  AW.go (fun _ _ _ _ _ _ _ _ _ _ _ _ _ _ hX hL k => lv_tableOut hX.1 hX.2.1 d h ht (k _ hL)) k
/-- fewer locals are known -/
theorem AW.forget {ls' : List Value} (h : ∀ (i : Nat) (v : Value), ls'[i]? = some v → v ≠ .null → ls[i]? = some v) (k : AW μ kc ks pc ls' st σ Q) : AW μ kc ks pc ls st σ Q := by
  intro p l e s m args below meth c G Z hX hSc hZ H locs lsA hR hS hL
  exact k p l e s m args below meth c G Z hX hSc hZ H locs lsA hR hS ⟨hL.1, hL.2.1, fun i v h1 h2 => hL.2.2 i v (h i v h1 h2) h2⟩
theorem AW.conseq {Q' : Option Int32 → sd_S → Prop} (h : ∀ r σ', Q r σ' → Q' r σ') (k : AW μ kc ks pc ls st σ Q) : AW μ kc ks pc ls st σ Q' := by
  intro p l e s m args below meth c G Z hX hSc hZ
  exact k p l e s m args below meth c G Z hX hSc (fun r C I J H locs lsA pc hr hq => hZ r C I J H locs lsA pc hr (h _ _ hq))
/-- the ends -/
theorem AW.ret (d : decode μ.2.1 pc = .ok (.return_, 1)) (hr : μ.2.2.2.1 = none) (hc : kc ≤ μ.2.2.2.2.cells) (hs : ks ≤ μ.2.2.2.2.slots) (hq : Q none σ) : AW μ kc ks pc ls [] σ Q := by
  intro p l e s m args below meth c G Z hX hSc hZ H locs lsA hR hS hL
  exact W.widen hc hs (hZ none σ.1 σ.2.2.1 σ.2.2.2 H locs lsA pc ⟨hr, d⟩ hq hR hS)
theorem AW.iret {v : Int32} (d : decode μ.2.1 pc = .ok (.ireturn, 1)) (hr : ∃ ty, μ.2.2.2.1 = some ty ∧ narrow ty (.int v) = .int v) (hc : kc ≤ μ.2.2.2.2.cells) (hs : ks ≤ μ.2.2.2.2.slots) (hq : Q (some v) σ) : AW μ kc ks pc ls [.int v] σ Q := by
  intro p l e s m args below meth c G Z hX hSc hZ H locs lsA hR hS hL
  exact W.widen hc hs (hZ (some v) σ.1 σ.2.2.1 σ.2.2.2 H locs lsA pc ⟨hr, d⟩ hq hR hS)
end Rows
end
section
-- rows over the heap
theorem sd_at {G : sd_G} {C : List sd_C} {I : sd_I} {J : sd_J} {a : Nat} {c : sd_C} (h : C[a]? = some c) : (sd_ws G C I J)[a]? = some (G.2.2.1.size + a, sd_E G I J a c) := by rw [sd_ws_at, h]; rfl
theorem sd_R.lt {G : sd_G} {C : List sd_C} {I : sd_I} {J : sd_J} {H : Heap} {a : Nat} {c : sd_C} (h : sd_R G C I J H) (hc : C[a]? = some c) : a < 100000 := Nat.lt_of_lt_of_le (List.getElem?_eq_some_iff.mp hc).1 h.2.1
theorem sd_R.put {G : sd_G} {C : List sd_C} {I I' : sd_I} {J J' : sd_J} {H H' : Heap} {a : Nat} {c c' : sd_C} (hR : sd_R G C I J H) (hC : C[a]? = some c) (h2 : ∀ k d, k ≠ a → sd_E G I' J' k d = sd_E G I J k d) (hz : H'.size = H.size) (oq : ∀ q, q ≠ G.2.2.1.size + a → H'[q]? = H[q]?) (hat : va_at G.1 vwCl (G.2.2.1.size + a, sd_E G I' J' a c') H') : sd_R G (C.set a c') I' J' H' := by
  refine ⟨by rw [hz, hR.1, List.length_set], by rw [List.length_set]; exact hR.2.1, fun q hq => ?_, ?_⟩
  · rw [oq q (by omega)]; exact hR.2.2.1 q hq
  · rw [sd_ws_upd hC h2]
    exact hR.2.2.2.set (sd_D G C I J) (sd_at hC) hat oq
theorem sd_u_ne {α : Type} {I : Nat → Nat → α} {a b j : Nat} {v : α} (h : b ≠ a) : sd_u I a j v b = I b := if_neg h
theorem sd_u_eq {α : Type} {I : Nat → Nat → α} {a j : Nat} {v : α} : sd_u I a j v a = fun k => if k = j then v else I a k := if_pos rfl
theorem sd_r_ne {α : Type} {I : Nat → Nat → α} {a b : Nat} {f : Nat → α} (h : b ≠ a) : sd_r I a f b = I b := if_neg h
theorem sd_r_eq {α : Type} {I : Nat → Nat → α} {a : Nat} {f : Nat → α} : sd_r I a f a = f := if_pos rfl
theorem sd_E_I {G : sd_G} {I I' : sd_I} {J : sd_J} {k : Nat} (h : I' k = I k) (d : sd_C) : sd_E G I' J k d = sd_E G I J k d := by
  unfold sd_E sd_fs; rw [h]
theorem sd_E_J {G : sd_G} {I : sd_I} {J J' : sd_J} {k : Nat} (h : J' k = J k) (d : sd_C) : sd_E G I J' k d = sd_E G I J k d := by
  unfold sd_E; rw [h]
section Mem
variable {μ : sd_M} {kc ks pc : Nat} {ls st : List Value} {C : List sd_C} {X : Nat × (Nat → Int32)} {I : sd_I} {J : sd_J} {Q : Option Int32 → sd_S → Prop}
theorem sd_fs_at {G : sd_G} {I : sd_I} {a k : Nat} {c : sd_C} (hk : k < sd_nF c.1) : (sd_fs G I a c)[k]? = some (sd_fv G (sd_isR c.1 k) (c.2.2.getD k none) (I a k)) := by
  unfold sd_fs
  rw [List.getElem?_map, List.getElem?_range hk]; rfl
/-- a field is read -/
theorem AW.get {a k idx n ci N : Nat} {rs : List (Option Nat)} {Cn : String} {T : u_T} {v : Value} (d : decode μ.2.1 pc = .ok (.getfield idx, 3)) (hc : vwCl[ci]? = some (Cn, T, N)) (hin : ∀ w ∈ u_ws Cn T N, w ∈ sd_gd) (hk : k < N) (hN : sd_nF ci = N) (hci : ci < 13)
    (hw : Cond.fieldLink μ.1.cls idx (T k).1 (T k).2.1 (T k).2.2.1 ∈ sd_gd) (hC : C[a]? = some (ci, n, rs)) (hv : sd_av (sd_isR ci k) (rs.getD k none) (I a k) = v) (hv2 : ∀ r, rs.getD k none = some r → r < 100000)
    (kk : AW μ kc ks (pc + 3) ls (v :: st) (C, X, I, J) Q) : AW μ kc ks pc ls (.ref a :: st) (C, X, I, J) Q := by
  intro p l e s m args below meth c G Z hX hSc hZ H locs lsA hR hS hL
  show W p l e _ s m args below meth c H locs kc ks Z (F0 m pc lsA (Value.ref (sd_ad G a) :: st.map (sd_v G)))
  rw [sd_ad_lt (hR.lt hC)]
  have he : (sd_ws G C I J)[a]? = some (G.2.2.1.size + a, .inr (ci, sd_fs G I a (ci, n, rs))) := by rw [sd_at hC]; unfold sd_E; rw [if_pos hci]
  refine va_get (D := G.1) (ci := ci) (v := sd_v G v) (C := Cn) (T := T) (N := N) hX.1 hX.2.1 hX.2.2.2.2.2.1 hin hX.2.2.2.2.1 hX.2.2.2.2.2.2.2.2.1.1 hR.2.2.2 a he hc k hk (hX.2.2.2.2.2.1 _ hw) (fun _ h9 => h9) ?_ d (kk p l e s m args below meth c G Z hX hSc hZ H locs lsA hR hS hL)
  rw [← hv, sd_av_v hv2]
  exact sd_fs_at (c := (ci, n, rs)) (by rw [hN]; exact hk)
theorem sd_fs_put {G : sd_G} {I : sd_I} {a k : Nat} {ci n : Nat} {rs : List (Option Nat)} {v : Int32} (hk : k < sd_nF ci) (hr : sd_isR ci k = false) : sd_fs G (sd_u I a k v) a (ci, n, rs) = (sd_fs G I a (ci, n, rs)).set k (.int v) := by
  apply List.ext_getElem?
  intro j
  by_cases hj : j = k
  · subst hj
    rw [sd_fs_at (c := (ci, n, rs)) hk, List.getElem?_set_self (by unfold sd_fs; simpa using hk), sd_u_eq]
    simp [sd_fv, hr]
  · rw [List.getElem?_set_ne (fun e => hj e.symm)]
    by_cases hl : j < sd_nF ci
    · rw [sd_fs_at (c := (ci, n, rs)) hl, sd_fs_at (c := (ci, n, rs)) hl, sd_u_eq]
      simp [hj]
    · rw [List.getElem?_eq_none, List.getElem?_eq_none] <;> (unfold sd_fs; simp; omega)
theorem sd_fs_putR {G : sd_G} {I : sd_I} {a k r : Nat} {ci n : Nat} {rs : List (Option Nat)} (hk : k < sd_nF ci) (hl : k < rs.length) (hr : sd_isR ci k = true) : sd_fs G I a (ci, n, rs.set k (some r)) = (sd_fs G I a (ci, n, rs)).set k (.ref (G.2.2.1.size + r)) := by
  apply List.ext_getElem?
  intro j
  by_cases hj : j = k
  · subst hj
    rw [sd_fs_at (c := (ci, n, _)) hk, List.getElem?_set_self (by unfold sd_fs; simpa using hk)]
    simp [sd_fv, hr, List.getD_eq_getElem?_getD, List.getElem?_set_self hl, va_rf]
  · rw [List.getElem?_set_ne (fun e => hj e.symm)]
    by_cases hl2 : j < sd_nF ci
    · rw [sd_fs_at (c := (ci, n, _)) hl2, sd_fs_at (c := (ci, n, _)) hl2]
      simp [List.getD_eq_getElem?_getD, List.getElem?_set_ne (fun e => hj e.symm)]
    · rw [List.getElem?_eq_none, List.getElem?_eq_none] <;> (unfold sd_fs; simp; omega)
/-- a number is put into a field that isn't final -/
theorem AW.put {a k idx n ci N : Nat} {rs : List (Option Nat)} {Cn : String} {T : u_T} {v : Int32} {ty : FieldType} (d : decode μ.2.1 pc = .ok (.putfield idx, 3)) (hc : vwCl[ci]? = some (Cn, T, N)) (hin : ∀ w ∈ u_ws Cn T N, w ∈ sd_gd) (ty0 : Nat → FieldType) (hty : ∀ k, k < N → parseFieldDescriptor (T k).2.2.1 = some (ty0 k)) (hnm : ∀ a, a < N → ∀ b, b < N → a ≠ b → (T a).2.1 ≠ (T b).2.1) (hk : k < N) (hN : sd_nF ci = N) (hci : ci < 13)
    (hw : Cond.fieldLink μ.1.cls idx (T k).1 (T k).2.1 (T k).2.2.1 ∈ sd_gd) (hfin : (T k).2.2.2 = false) (hd : parseFieldDescriptor (T k).2.2.1 = some ty) (hn : narrow ty (.int v) = .int v) (hfit : fits ty (.int v) = true) (hr : sd_isR ci k = false) (hC : C[a]? = some (ci, n, rs))
    (kk : AW μ kc ks (pc + 3) ls st (C, X, sd_u I a k v, J) Q) : AW μ kc ks pc ls (.int v :: .ref a :: st) (C, X, I, J) Q := by
  intro p l e s m args below meth c G Z hX hSc hZ H locs lsA hR hS hL
  show W p l e _ s m args below meth c H locs kc ks Z (F0 m pc lsA (Value.int v :: Value.ref (sd_ad G a) :: st.map (sd_v G)))
  rw [sd_ad_lt (hR.lt hC)]
  have hK := hX.2.2.2.2.2.2.2.2.1.1
  have hts := hX.2.2.2.2.2.1
  have he : (sd_ws G C I J)[a]? = some (G.2.2.1.size + a, .inr (ci, sd_fs G I a (ci, n, rs))) := by rw [sd_at hC]; unfold sd_E; rw [if_pos hci]
  have hap := va_apart (own := μ.1.cls) hts hin ty0 hty hnm hK hc
  obtain ⟨r, h1, cell, q1, q2, q3, q4⟩ := hR.2.2.2 a _ he
  have hr' : r = (Cn, T, N) := Option.some.inj (h1.symm.trans hc)
  subst hr'
  obtain ⟨hSl, hfc, kC, hkC, hkind⟩ := hK.1 ci _ hc
  obtain ⟨cf, kf, fi, f, hi, hsl⟩ := hSl k hk
  have hlay := hts _ (hin _ (u_in_lay hk))
  unfold u_lay at hlay
  rw [if_neg (by rw [hfin]; decide)] at hlay
  have hst := (u_facts hfc hkC (u_lays hts hin hk) hi).1
  have h6 := u_store hfc hkC hkind hlay hi hd hn hfit
  refine W.putK hX.1 hX.2.1 (f := f) ⟨hX.2.2.2.2.1, hts _ hw, ⟨_, _, _, hi⟩, hst⟩ (by rw [q2]; exact h6) q1 q3 (by rw [hsl]; exact k2_hasslot (q4 k hk)) rfl rfl d fun H' e1 e2 e3 => ?_
  rw [hsl] at e1 ⊢
  have hR' : sd_R G (C.set a (ci, n, rs)) (sd_u I a k v) J H' := by
    refine hR.put hC (fun k' d' hk' => sd_E_I (sd_u_ne hk') d') e2 e3 ?_
    have hE : sd_E G (sd_u I a k v) J a (ci, n, rs) = .inr (ci, (sd_fs G I a (ci, n, rs)).set k (.int v)) := by
      unfold sd_E; rw [if_pos hci, sd_fs_put (by rw [hN]; exact hk) hr]
    rw [hE]
    exact ⟨_, hc, t_OB.to (V := updV (vp_V (sd_fs G I a (ci, n, rs))) k (.int v)) ⟨_, e1, q2, q3, t_set q4 hap hk (.int v)⟩ (fun j _ => vp_updV_set (by unfold sd_fs; simpa [hN] using hk) _ j)⟩
  rw [sd_set_same hC] at hR'
  exact kk p l e s m args below meth c G Z hX hSc hZ H' _ lsA hR' (hS.put e2 e3 (Nat.le_add_right _ _)) hL
/-- a reference is put into a final field, in the constructor -/
theorem AW.putF {a b k idx n ci N : Nat} {rs : List (Option Nat)} {Cn : String} {T : u_T} {ty : FieldType} (d : decode μ.2.1 pc = .ok (.putfield idx, 3)) (hc : vwCl[ci]? = some (Cn, T, N)) (hin : ∀ w ∈ u_ws Cn T N, w ∈ sd_gd) (ty0 : Nat → FieldType) (hty : ∀ k, k < N → parseFieldDescriptor (T k).2.2.1 = some (ty0 k)) (hnm : ∀ a, a < N → ∀ b, b < N → a ≠ b → (T a).2.1 ≠ (T b).2.1) (hk : k < N) (hN : sd_nF ci = N) (hci : ci < 13)
    (hw : Cond.fieldLink μ.1.cls idx (T k).1 (T k).2.1 (T k).2.2.1 ∈ sd_gd) (hfin : (T k).2.2.2 = true) (hname : μ.1.name = "<init>") (hdecl : (T k).1 = μ.1.cls) (hd : parseFieldDescriptor (T k).2.2.1 = some ty) (hn : ∀ b, narrow ty (.ref b) = .ref b) (hfit : ∀ b, fits ty (.ref b) = true) (hr : sd_isR ci k = true) (hC : C[a]? = some (ci, n, rs)) (hl : k < rs.length) (hb : b < 100000)
    (kk : AW μ kc ks (pc + 3) ls st (C.set a (ci, n, rs.set k (some b)), X, I, J) Q) : AW μ kc ks pc ls (.ref b :: .ref a :: st) (C, X, I, J) Q := by
  intro p l e s m args below meth c G Z hX hSc hZ H locs lsA hR hS hL
  show W p l e _ s m args below meth c H locs kc ks Z (F0 m pc lsA (Value.ref (sd_ad G b) :: Value.ref (sd_ad G a) :: st.map (sd_v G)))
  rw [sd_ad_lt (hR.lt hC), sd_ad_lt hb]
  have hK := hX.2.2.2.2.2.2.2.2.1.1
  have hts := hX.2.2.2.2.2.1
  have hown := hX.2.2.2.2.1
  have he : (sd_ws G C I J)[a]? = some (G.2.2.1.size + a, .inr (ci, sd_fs G I a (ci, n, rs))) := by rw [sd_at hC]; unfold sd_E; rw [if_pos hci]
  have hap := va_apart (own := μ.1.cls) hts hin ty0 hty hnm hK hc
  obtain ⟨r, h1, cell, q1, q2, q3, q4⟩ := hR.2.2.2 a _ he
  have hr' : r = (Cn, T, N) := Option.some.inj (h1.symm.trans hc)
  subst hr'
  obtain ⟨hSl, hfc, kC, hkC, hkind⟩ := hK.1 ci _ hc
  obtain ⟨cf, kf, fi, f, hi, hsl⟩ := hSl k hk
  have hlay := hts _ (hin _ (u_in_lay hk))
  unfold u_lay at hlay
  rw [if_pos hfin] at hlay
  have hst := (u_facts hfc hkC (u_lays hts hin hk) hi).1
  have hcf : m.cls = cf := by
    obtain ⟨_, _, c', _, _, _, -, -, hf', -, -, -, hown2, -⟩ := Cond.laysFinal_spec hlay
    have e1 : c' = cf := by have := hi.symm.trans hf'; simp at this; exact this.1.symm
    rw [hdecl] at hown2
    rw [← e1]; exact Option.some.inj (hown.symm.trans hown2)
  have h6 := u_fits hfc hkC hkind (Or.inr hlay) hi hd (hn (G.2.2.1.size + b)) (hfit (G.2.2.1.size + b))
  refine W.putFinK hX.1 hX.2.1 hown (hts _ hw) hi hst hcf (hX.2.2.2.2.2.2.2.1.trans hname) (by rw [q2]; exact h6) q1 q3 (by rw [hsl]; exact k2_hasslot (q4 k hk)) rfl rfl d fun H' e1 e2 e3 => ?_
  rw [hsl] at e1 ⊢
  have hR' : sd_R G (C.set a (ci, n, rs.set k (some b))) I J H' := by
    refine hR.put hC (fun _ _ _ => rfl) e2 e3 ?_
    have hE : sd_E G I J a (ci, n, rs.set k (some b)) = .inr (ci, (sd_fs G I a (ci, n, rs)).set k (.ref (G.2.2.1.size + b))) := by
      unfold sd_E; rw [if_pos hci, sd_fs_putR (by rw [hN]; exact hk) hl hr]
    rw [hE]
    exact ⟨_, hc, t_OB.to (V := updV (vp_V (sd_fs G I a (ci, n, rs))) k (.ref (G.2.2.1.size + b))) ⟨_, e1, q2, q3, t_set q4 hap hk _⟩ (fun j _ => vp_updV_set (by unfold sd_fs; simpa [hN] using hk) _ j)⟩
  exact kk p l e s m args below meth c G Z hX hSc hZ H' _ lsA hR' (hS.put e2 e3 (Nat.le_add_right _ _)) hL
theorem sd_eI {G : sd_G} {C : List sd_C} {I : sd_I} {J : sd_J} {a n : Nat} {rs : List (Option Nat)} (hC : C[a]? = some (20, n, rs)) : (sd_ws G C I J)[a]? = some (G.2.2.1.size + a, .inl (G.2.1 20, n, .inl (I a))) := sd_at hC
theorem sd_eC {G : sd_G} {C : List sd_C} {I : sd_I} {J : sd_J} {a n : Nat} {rs : List (Option Nat)} (hC : C[a]? = some (21, n, rs)) : (sd_ws G C I J)[a]? = some (G.2.2.1.size + a, .inl (G.2.1 21, n, .inl (I a))) := sd_at hC
theorem sd_eJ {G : sd_G} {C : List sd_C} {I : sd_I} {J : sd_J} {a n : Nat} {rs : List (Option Nat)} (hC : C[a]? = some (22, n, rs)) : (sd_ws G C I J)[a]? = some (G.2.2.1.size + a, .inl (G.2.1 22, n, .inr (.inl (J a)))) := sd_at hC
theorem sd_eR {G : sd_G} {C : List sd_C} {I : sd_I} {J : sd_J} {a n t : Nat} {rs : List (Option Nat)} (ht : 22 < t) (hC : C[a]? = some (t, n, rs)) : (sd_ws G C I J)[a]? = some (G.2.2.1.size + a, .inl (G.2.1 t, n, .inr (.inr (.inr (.inr (fun j => (rs.getD j none).map (G.2.2.1.size + ·))))))) := by
  rw [sd_at hC]; unfold sd_E; rw [if_neg (by omega), if_neg (by omega), if_neg (by omega)]
/-- elements are read -/
theorem AW.iald {a n : Nat} {rs : List (Option Nat)} {i : Int32} (d : decode μ.2.1 pc = .ok (.iaload, 1)) (hC : C[a]? = some (20, n, rs)) (j : Nat) (hi : i = nI j) (hj : j < n) (hn : n < 2 ^ 31) (kk : AW μ kc ks (pc + 1) ls (.int (I a j) :: st) (C, X, I, J) Q) : AW μ kc ks pc ls (.int i :: .ref a :: st) (C, X, I, J) Q := by
  subst hi
  intro p l e s m args below meth c G Z hX hSc hZ H locs lsA hR hS hL
  show W p l e _ s m args below meth c H locs kc ks Z (F0 m pc lsA (Value.int (nI j) :: Value.ref (sd_ad G a) :: st.map (sd_v G)))
  rw [sd_ad_lt (hR.lt hC)]
  refine va_iald hX.1 hX.2.1 hX.2.2.2.2.2.2.2.2.1.1 hR.2.2.2 a 0 (sd_eI hC) rfl (vp_in_nI hj hn) d ?_
  rw [nI_clamp (by omega)]
  exact kk p l e s m args below meth c G Z hX hSc hZ H locs lsA hR hS hL
theorem AW.cald {a n : Nat} {rs : List (Option Nat)} {i : Int32} (d : decode μ.2.1 pc = .ok (.caload, 1)) (hC : C[a]? = some (21, n, rs)) (j : Nat) (hi : i = nI j) (hj : j < n) (hn : n < 2 ^ 31) (kk : AW μ kc ks (pc + 1) ls (.int (I a j) :: st) (C, X, I, J) Q) : AW μ kc ks pc ls (.int i :: .ref a :: st) (C, X, I, J) Q := by
  subst hi
  intro p l e s m args below meth c G Z hX hSc hZ H locs lsA hR hS hL
  show W p l e _ s m args below meth c H locs kc ks Z (F0 m pc lsA (Value.int (nI j) :: Value.ref (sd_ad G a) :: st.map (sd_v G)))
  rw [sd_ad_lt (hR.lt hC)]
  refine va_cald hX.1 hX.2.1 hX.2.2.2.2.2.2.2.2.1.1 hR.2.2.2 a 1 (sd_eC hC) rfl (vp_in_nI hj hn) d ?_
  rw [nI_clamp (by omega)]
  exact kk p l e s m args below meth c G Z hX hSc hZ H locs lsA hR hS hL
theorem AW.lald {a n : Nat} {rs : List (Option Nat)} {i : Int32} (d : decode μ.2.1 pc = .ok (.laload, 1)) (hC : C[a]? = some (22, n, rs)) (j : Nat) (hi : i = nI j) (hj : j < n) (hn : n < 2 ^ 31) (kk : AW μ kc ks (pc + 1) ls (.long (J a j) :: st) (C, X, I, J) Q) : AW μ kc ks pc ls (.int i :: .ref a :: st) (C, X, I, J) Q := by
  subst hi
  intro p l e s m args below meth c G Z hX hSc hZ H locs lsA hR hS hL
  show W p l e _ s m args below meth c H locs kc ks Z (F0 m pc lsA (Value.int (nI j) :: Value.ref (sd_ad G a) :: st.map (sd_v G)))
  rw [sd_ad_lt (hR.lt hC)]
  refine va_lald hX.1 hX.2.1 hX.2.2.2.2.2.2.2.2.1.1 hR.2.2.2 a 2 (sd_eJ hC) rfl (vp_in_nI hj hn) d ?_
  rw [nI_clamp (by omega)]
  exact kk p l e s m args below meth c G Z hX hSc hZ H locs lsA hR hS hL
theorem AW.aald {a n t b : Nat} {rs : List (Option Nat)} {i : Int32} (d : decode μ.2.1 pc = .ok (.aaload, 1)) (ht : t = 23 ∨ t = 24 ∨ t = 25) (hC : C[a]? = some (t, n, rs)) (j : Nat) (hi : i = nI j) (hj : j < n) (hn : n < 2 ^ 31) (hb : rs.getD j none = some b) (hb2 : b < 100000) (kk : AW μ kc ks (pc + 1) ls (.ref b :: st) (C, X, I, J) Q) : AW μ kc ks pc ls (.int i :: .ref a :: st) (C, X, I, J) Q := by
  subst hi
  intro p l e s m args below meth c G Z hX hSc hZ H locs lsA hR hS hL
  show W p l e _ s m args below meth c H locs kc ks Z (F0 m pc lsA (Value.int (nI j) :: Value.ref (sd_ad G a) :: st.map (sd_v G)))
  rw [sd_ad_lt (hR.lt hC)]
  have key : ∀ (t0 : Nat) (Cn : String), (sd_tys G)[t0]? = some (G.2.1 t, .object Cn) → W p l e μ.2.2.2.2 s m args below meth c H locs kc ks Z (F0 m pc lsA (Value.int (nI j) :: Value.ref (G.2.2.1.size + a) :: st.map (sd_v G))) := by
    intro t0 Cn h0
    refine va_aldq hX.1 hX.2.1 hX.2.2.2.2.2.2.2.2.1.1 hR.2.2.2 a t0 (sd_eR (by omega) hC) h0 (vp_in_nI hj hn) d ?_
    rw [nI_clamp (by omega), hb]
    have := kk p l e s m args below meth c G Z hX hSc hZ H locs lsA hR hS hL
    have e2 : (Value.ref b :: st).map (sd_v G) = Value.ref (G.2.2.1.size + b) :: st.map (sd_v G) := by
      show Value.ref (sd_ad G b) :: _ = _
      rw [sd_ad_lt hb2]
    rw [e2] at this
    exact this
  rcases ht with rfl | rfl | rfl
  · exact key 3 _ rfl
  · exact key 4 _ rfl
  · exact key 5 _ rfl
theorem AW.alen {a n t : Nat} {rs : List (Option Nat)} {v : Int32} (d : decode μ.2.1 pc = .ok (.arraylength, 1)) (hC : C[a]? = some (20, n, rs)) (hv : nI n = v) (kk : AW μ kc ks (pc + 1) ls (.int v :: st) (C, X, I, J) Q) : AW μ kc ks pc ls (.ref a :: st) (C, X, I, J) Q := by
  intro p l e s m args below meth c G Z hX hSc hZ H locs lsA hR hS hL
  show W p l e _ s m args below meth c H locs kc ks Z (F0 m pc lsA (Value.ref (sd_ad G a) :: st.map (sd_v G)))
  rw [sd_ad_lt (hR.lt hC)]
  exact va_alen hX.1 hX.2.1 hX.2.2.2.2.2.2.2.2.1.1 hR.2.2.2 a 0 (sd_eI hC) (ty := .int) rfl hv d (kk p l e s m args below meth c G Z hX hSc hZ H locs lsA hR hS hL)
/-- elements are put -/
theorem AW.iast {a n : Nat} {rs : List (Option Nat)} {i v : Int32} (d : decode μ.2.1 pc = .ok (.iastore, 1)) (hC : C[a]? = some (20, n, rs)) (j : Nat) (hi : i = nI j) (hj : j < n) (hn : n < 2 ^ 31) (kk : AW μ kc ks (pc + 1) ls st (C, X, sd_u I a j v, J) Q) : AW μ kc ks pc ls (.int v :: .int i :: .ref a :: st) (C, X, I, J) Q := by
  subst hi
  intro p l e s m args below meth c G Z hX hSc hZ H locs lsA hR hS hL
  show W p l e _ s m args below meth c H locs kc ks Z (F0 m pc lsA (Value.int v :: Value.int (nI j) :: Value.ref (sd_ad G a) :: st.map (sd_v G)))
  rw [sd_ad_lt (hR.lt hC)]
  have hK := hX.2.2.2.2.2.2.2.2.1.1
  have hcl : (nI j).toNatClampNeg = j := nI_clamp (by omega)
  refine W.iast hX.1 hX.2.1 (hR.2.2.2 a _ (sd_eI hC)) ((hK.2 0 _ rfl).1 n (fun j => .int (I a j))) (fun q => by cases q) (by show ¬ (nI j < 0 ∨ (arrV _ _ _).slots.size ≤ _); rw [arrV_size]; exact vp_in_nI hj hn) rfl rfl d fun H1 ee z oq => ?_
  have hR' : sd_R G (C.set a (20, n, rs)) (sd_u I a j v) J H1 := by
    refine hR.put hC (fun k' d' hk' => sd_E_I (sd_u_ne hk') d') z oq ?_
    show H1[G.2.2.1.size + a]? = some (vp_cell (G.2.1 20) (n, .inl (sd_u I a j v a)))
    rw [ee, vp_cell_i, vp_cell_i, arrV_store, hcl, sd_u_eq]
    congr 2
    funext q
    by_cases hq : q = j
    · subst hq; simp [updV]
    · simp [updV, hq]
  rw [sd_set_same hC] at hR'
  exact kk p l e s m args below meth c G Z hX hSc hZ H1 _ lsA hR' (hS.put z oq (Nat.le_add_right _ _)) hL
theorem AW.cast {a n : Nat} {rs : List (Option Nat)} {i v : Int32} (d : decode μ.2.1 pc = .ok (.castore, 1)) (hC : C[a]? = some (21, n, rs)) (j : Nat) (hi : i = nI j) (hj : j < n) (hn : n < 2 ^ 31) (hv : narrow .char (.int v) = .int v) (kk : AW μ kc ks (pc + 1) ls st (C, X, sd_u I a j v, J) Q) : AW μ kc ks pc ls (.int v :: .int i :: .ref a :: st) (C, X, I, J) Q := by
  subst hi
  intro p l e s m args below meth c G Z hX hSc hZ H locs lsA hR hS hL
  show W p l e _ s m args below meth c H locs kc ks Z (F0 m pc lsA (Value.int v :: Value.int (nI j) :: Value.ref (sd_ad G a) :: st.map (sd_v G)))
  rw [sd_ad_lt (hR.lt hC)]
  have hK := hX.2.2.2.2.2.2.2.2.1.1
  have hcl : (nI j).toNatClampNeg = j := nI_clamp (by omega)
  refine W.cast hX.1 hX.2.1 (hR.2.2.2 a _ (sd_eC hC)) ((hK.2 1 _ rfl).1 n (fun j => .int (I a j))) (fun q => by cases q) (by show ¬ (nI j < 0 ∨ (arrV _ _ _).slots.size ≤ _); rw [arrV_size]; exact vp_in_nI hj hn) rfl rfl d fun H1 ee z oq => ?_
  have hR' : sd_R G (C.set a (21, n, rs)) (sd_u I a j v) J H1 := by
    refine hR.put hC (fun k' d' hk' => sd_E_I (sd_u_ne hk') d') z oq ?_
    show H1[G.2.2.1.size + a]? = some (vp_cell (G.2.1 21) (n, .inl (sd_u I a j v a)))
    rw [ee, hv, vp_cell_i, vp_cell_i, arrV_store, hcl, sd_u_eq]
    congr 2
    funext q
    by_cases hq : q = j
    · subst hq; simp [updV]
    · simp [updV, hq]
  rw [sd_set_same hC] at hR'
  exact kk p l e s m args below meth c G Z hX hSc hZ H1 _ lsA hR' (hS.put z oq (Nat.le_add_right _ _)) hL
theorem AW.last {a n : Nat} {rs : List (Option Nat)} {i : Int32} {v : Int64} (d : decode μ.2.1 pc = .ok (.lastore, 1)) (hC : C[a]? = some (22, n, rs)) (j : Nat) (hi : i = nI j) (hj : j < n) (hn : n < 2 ^ 31) (kk : AW μ kc ks (pc + 1) ls st (C, X, I, sd_u J a j v) Q) : AW μ kc ks pc ls (.long v :: .int i :: .ref a :: st) (C, X, I, J) Q := by
  subst hi
  intro p l e s m args below meth c G Z hX hSc hZ H locs lsA hR hS hL
  show W p l e _ s m args below meth c H locs kc ks Z (F0 m pc lsA (Value.long v :: Value.int (nI j) :: Value.ref (sd_ad G a) :: st.map (sd_v G)))
  rw [sd_ad_lt (hR.lt hC)]
  have hK := hX.2.2.2.2.2.2.2.2.1.1
  have hcl : (nI j).toNatClampNeg = j := nI_clamp (by omega)
  refine W.last hX.1 hX.2.1 (hR.2.2.2 a _ (sd_eJ hC)) ((hK.2 2 _ rfl).1 n (fun j => .long (J a j))) (fun q => by cases q) (by show ¬ (nI j < 0 ∨ (arrV _ _ _).slots.size ≤ _); rw [arrV_size]; exact vp_in_nI hj hn) rfl rfl d fun H1 ee z oq => ?_
  have hR' : sd_R G (C.set a (22, n, rs)) I (sd_u J a j v) H1 := by
    refine hR.put hC (fun k' d' hk' => sd_E_J (sd_u_ne hk') d') z oq ?_
    show H1[G.2.2.1.size + a]? = some (vp_cell (G.2.1 22) (n, .inr (.inl (sd_u J a j v a))))
    rw [ee, vp_cell_l, vp_cell_l, arrV_store, hcl, sd_u_eq]
    congr 2
    funext q
    by_cases hq : q = j
    · subst hq; simp [updV]
    · simp [updV, hq]
  rw [sd_set_same hC] at hR'
  exact kk p l e s m args below meth c G Z hX hSc hZ H1 _ lsA hR' (hS.put z oq (Nat.le_add_right _ _)) hL
end Mem
end
section
-- new cells; calls
theorem sd_R.push {G : sd_G} {C : List sd_C} {I I' : sd_I} {J J' : sd_J} {H H' : Heap} {c : sd_C} (hR : sd_R G C I J H) (hl : C.length < 100000) (hI : ∀ k d, k < C.length → sd_E G I' J' k d = sd_E G I J k d) (hz : H'.size = H.size + 1) (oq : ∀ q, q < H.size → H'[q]? = H[q]?) (hat : va_at G.1 vwCl (G.2.2.1.size + C.length, sd_E G I' J' C.length c) H') : sd_R G (C ++ [c]) I' J' H' := by
  have hws : sd_ws G (C ++ [c]) I' J' = sd_ws G C I J ++ [(G.2.2.1.size + C.length, sd_E G I' J' C.length c)] := by
    apply List.ext_getElem?
    intro k
    have hlen : (sd_ws G C I J).length = C.length := by unfold sd_ws; simp
    rw [sd_ws_at]
    by_cases h1 : k < C.length
    · rw [List.getElem?_append_left h1, List.getElem?_append_left (by rw [hlen]; exact h1), sd_ws_at]
      cases C[k]? with
      | none => rfl
      | some d => simp only [Option.map_some, hI k d h1]
    · rw [List.getElem?_append_right (by omega), List.getElem?_append_right (by omega), hlen]
      by_cases h2 : k = C.length
      · subst h2; simp
      · rw [List.getElem?_eq_none (by simp; omega), List.getElem?_eq_none (by simp; omega)]; rfl
  refine ⟨by rw [hz, hR.1, List.length_append]; rfl, by rw [List.length_append]; exact hl, fun q hq => ?_, ?_⟩
  · rw [oq q (by rw [hR.1]; omega)]; exact hR.2.2.1 q hq
  · rw [hws]
    refine va_P.app (hR.2.2.2.kept (fun k q hq => oq _ ((hR.2.2.2 k q hq).lt))) (fun k q hq => ?_)
    have hz : k < 1 := (List.getElem?_eq_some_iff.mp hq).1
    rw [show k = 0 by omega] at hq
    cases hq
    exact hat
section New
variable {μ : sd_M} {kc ks pc : Nat} {ls st : List Value} {C : List sd_C} {X : Nat × (Nat → Int32)} {I : sd_I} {J : sd_J} {Q : Option Int32 → sd_S → Prop}
theorem AW.new {ci idx N q : Nat} {Cn : String} {T : u_T} (d : decode μ.2.1 pc = .ok (.new idx, 3)) (hc : vwCl[ci]? = some (Cn, T, N)) (hin : ∀ w ∈ u_ws Cn T N, w ∈ sd_gd) (ty : Nat → FieldType) (hty : ∀ k, k < N → parseFieldDescriptor (T k).2.2.1 = some (ty k)) (hN : sd_nF ci = N) (hci : ci < 13) (hdf : ∀ j, j < N → defaultValue (ty j) = sd_av (sd_isR ci j) none 0)
    (w1 : Cond.classLink μ.1.cls idx Cn ∈ sd_gd) (w2 : Cond.instantiable Cn N ∈ sd_gd) (w3 : Cond.initialized Cn ∈ sd_gd) (hq : C.length = q) (hl : q < 100000) (hkc : kc + 1 ≤ μ.2.2.2.2.cells) (hks : ks + N ≤ μ.2.2.2.2.slots)
    (kk : AW μ (kc + 1) (ks + N) (pc + 3) ls (.ref q :: st) (C ++ [(ci, 0, List.replicate N none)], X, sd_r I q (fun _ => 0), J) Q) : AW μ kc ks pc ls st (C, X, I, J) Q := by
  subst hq
  intro p l e s m args below meth c G Z hX hSc hZ H locs lsA hR hS hL
  have hR : sd_R G C I J H := hR
  have hK := hX.2.2.2.2.2.2.2.2.1.1
  have hts := hX.2.2.2.2.2.1
  have hKn := hK.1 ci _ hc
  refine W.newcK hX.1 hX.2.1 hX.2.2.2.2.1 (hts _ w1) (hts _ w2) (hts _ w3) rfl d hkc hks hKn.2.1 rfl fun H1 kC hkC e1 z1 o1 => ?_
  have hsz : H.size = G.2.2.1.size + C.length := hR.1
  have hR' : sd_R G (C ++ [(ci, 0, List.replicate N none)]) (sd_r I C.length (fun _ => 0)) J H1 := by
    refine hR.push hl (fun k d hk => sd_E_I (sd_r_ne (by omega)) d) z1 o1 ?_
    have hE : sd_E G (sd_r I C.length (fun _ => 0)) J C.length (ci, 0, List.replicate N none) = .inr (ci, sd_fs G (sd_r I C.length (fun _ => 0)) C.length (ci, 0, List.replicate N none)) := by
      unfold sd_E; rw [if_pos hci]
    rw [hE]
    refine ⟨_, hc, ?_⟩
    rw [hsz] at e1
    refine (u_born ty hts hin hKn hkC e1 hty).to (fun j hj => ?_)
    show defaultValue (ty j) = vp_V (sd_fs G _ _ _) j
    unfold vp_V
    rw [List.getD_eq_getElem?_getD, sd_fs_at (c := (ci, 0, List.replicate N none)) (by rw [hN]; exact hj), sd_r_eq, hdf j hj]
    have : (List.replicate N (none : Option Nat)).getD j none = none := by
      rw [List.getD_eq_getElem?_getD]
      by_cases h : j < N
      · rw [List.getElem?_replicate, if_pos h]; rfl
      · rw [List.getElem?_replicate, if_neg h]; rfl
    rw [this]
    cases sd_isR ci j <;> rfl
  have := kk p l e s m args below meth c G Z hX hSc hZ H1 locs lsA hR' ⟨Nat.le_trans hS.1 (by omega), fun x h1 h2 => (o1 x (Nat.lt_of_lt_of_le h1 hS.1)).trans (hS.2.1 x h1 h2), hS.2.2⟩ hL
  have e2 : (Value.ref C.length :: st).map (sd_v G) = Value.ref H.size :: st.map (sd_v G) := by
    show Value.ref (sd_ad G C.length) :: _ = _
    rw [sd_ad_lt hl, hsz]
  rw [e2] at this
  exact this
theorem AW.newa {at_ : ArrayType} {n : Int32} {N t q t0 : Nat} {ty : FieldType} (d : decode μ.2.1 pc = .ok (.newarray at_, 2)) (hty : newarray.typeOf at_ = ty) (ht : (t = 20 ∧ ty = .int ∧ t0 = 0) ∨ (t = 21 ∧ ty = .char ∧ t0 = 1) ∨ (t = 22 ∧ ty = .long ∧ t0 = 2)) (w : Cond.arrayClass ty ∈ sd_gd) (hn : ¬ n < 0) (hN : n.toNatClampNeg = N) (hb : N ≤ 1000) (hq : C.length = q) (hl : q < 100000) (hkc : kc + 1 ≤ μ.2.2.2.2.cells) (hks : ks + N ≤ μ.2.2.2.2.slots)
    (kk : AW μ (kc + 1) (ks + N) (pc + 2) ls (.ref q :: st) (C ++ [(t, N, [])], X, sd_r I q (fun _ => 0), sd_r J q (fun _ => 0)) Q) : AW μ kc ks pc ls (.int n :: st) (C, X, I, J) Q := by
  subst hq
  intro p l e s m args below meth c G Z hX hSc hZ H locs lsA hR hS hL
  have hR : sd_R G C I J H := hR
  have hK := hX.2.2.2.2.2.2.2.2.1.1
  have hts := hX.2.2.2.2.2.1
  have hsz : H.size = G.2.2.1.size + C.length := hR.1
  have hbytes : N * componentBytes (newarray.typeOf at_) ≤ 536870912 := by
    have : componentBytes (newarray.typeOf at_) ≤ 8 := by cases at_ <;> decide
    have := Nat.mul_le_mul hb this
    omega
  refine va_newaK hX.1 hX.2.1 (by rw [hty]; exact hts _ w) rfl d rfl hn hN hbytes hkc hks rfl fun H1 cA e1 z1 o1 hAr hNm => ?_
  rw [hty] at e1 hAr hNm
  have hcA : cA = G.2.1 t := by
    have h0 := (hK.2 t0 (G.2.1 t, ty) (by rcases ht with ⟨rfl, rfl, rfl⟩ | ⟨rfl, rfl, rfl⟩ | ⟨rfl, rfl, rfl⟩ <;> rfl)).2
    have h1 : s.vm.findClass ("[" ++ ty.toString) = some (G.2.1 t) := by rcases ht with ⟨rfl, rfl, rfl⟩ | ⟨rfl, rfl, rfl⟩ | ⟨rfl, rfl, rfl⟩ <;> exact h0
    exact Option.some.inj (hNm.symm.trans h1)
  have hR' : sd_R G (C ++ [(t, N, [])]) (sd_r I C.length (fun _ => 0)) (sd_r J C.length (fun _ => 0)) H1 := by
    refine hR.push hl (fun k d hk => by rw [sd_E_J (sd_r_ne (by omega)), sd_E_I (sd_r_ne (by omega))]) z1 o1 ?_
    rw [← hsz]
    subst hcA
    rcases ht with ⟨rfl, rfl, rfl⟩ | ⟨rfl, rfl, rfl⟩ | ⟨rfl, rfl, rfl⟩
    · show H1[H.size]? = some (vp_cell (G.2.1 20) (N, .inl (sd_r I C.length (fun _ => 0) C.length)))
      rw [e1, sd_r_eq]; rfl
    · show H1[H.size]? = some (vp_cell (G.2.1 21) (N, .inl (sd_r I C.length (fun _ => 0) C.length)))
      rw [e1, sd_r_eq]; rfl
    · show H1[H.size]? = some (vp_cell (G.2.1 22) (N, .inr (.inl (sd_r J C.length (fun _ => 0) C.length))))
      rw [e1, sd_r_eq]; rfl
  have := kk p l e s m args below meth c G Z hX hSc hZ H1 locs lsA hR' ⟨Nat.le_trans hS.1 (by omega), fun x h1 h2 => (o1 x (Nat.lt_of_lt_of_le h1 hS.1)).trans (hS.2.1 x h1 h2), hS.2.2⟩ hL
  have e2 : (Value.ref C.length :: st).map (sd_v G) = Value.ref H.size :: st.map (sd_v G) := by
    show Value.ref (sd_ad G C.length) :: _ = _
    rw [sd_ad_lt hl, hsz]
  rw [e2] at this
  exact this
theorem AW.anew {n : Int32} {N t q t0 idx : Nat} {Cn : String} (d : decode μ.2.1 pc = .ok (.anewarray idx, 3)) (ht : (t = 23 ∧ Cn = RX7 ∧ t0 = 3) ∨ (t = 24 ∧ Cn = RX4 ∧ t0 = 4) ∨ (t = 25 ∧ Cn = RX9 ∧ t0 = 5)) (w : Cond.classLink μ.1.cls idx Cn ∈ sd_gd) (wo : Cn ∈ sd_overs) (hn : ¬ n < 0) (hN : n.toNatClampNeg = N) (hb : N ≤ 1000) (hq : C.length = q) (hl : q < 100000) (hkc : kc + 1 ≤ μ.2.2.2.2.cells) (hks : ks + N ≤ μ.2.2.2.2.slots)
    (kk : AW μ (kc + 1) (ks + N) (pc + 3) ls (.ref q :: st) (C ++ [(t, N, List.replicate N none)], X, I, J) Q) : AW μ kc ks pc ls (.int n :: st) (C, X, I, J) Q := by
  subst hq; subst hN
  intro p l e s m args below meth c G Z hX hSc hZ H locs lsA hR hS hL
  have hR : sd_R G C I J H := hR
  have hK := hX.2.2.2.2.2.2.2.2.1.1
  have hts := hX.2.2.2.2.2.1
  have hsz : H.size = G.2.2.1.size + C.length := hR.1
  refine W.anew hX.1 hX.2.1 hX.2.2.2.2.1 (hts _ w) (va_AO.use (hX.2.2.2.2.2.2.2.2.1.2.2.2.1 _ wo)) rfl d rfl hn (by omega) hkc hks fun cA kA comp f1 f2 f3 f4 => ?_
  generalize hH1 : H.push ({ cls := cA, slots := Array.replicate n.toNatClampNeg .null, vm := .none } : Cell) = H1
  have z1 : H1.size = H.size + 1 := by rw [← hH1, Array.size_push]
  have e1 : H1[H.size]? = some (arrV cA n.toNatClampNeg (fun _ => .null)) := by rw [← hH1, Array.getElem?_push_size, ← arrV_new]
  have o1 : ∀ q : Nat, q < H.size → H1[q]? = H[q]? := fun q hq => by rw [← hH1, Array.getElem?_push, if_neg (Nat.ne_of_lt hq)]
  have hcA : cA = G.2.1 t := by
    have h0 : va_RA s (G.2.1 t) (.object Cn) := (hK.2 t0 (G.2.1 t, .object Cn) (by rcases ht with ⟨rfl, rfl, rfl⟩ | ⟨rfl, rfl, rfl⟩ | ⟨rfl, rfl, rfl⟩ <;> rfl)).2
    obtain ⟨_, _, _, _, _, h1⟩ := h0
    exact Option.some.inj (f1.symm.trans h1)
  have hR' : sd_R G (C ++ [(t, n.toNatClampNeg, List.replicate n.toNatClampNeg none)]) I J H1 := by
    refine hR.push hl (fun k d hk => rfl) z1 o1 ?_
    rw [← hsz]
    have hE : sd_E G I J C.length (t, n.toNatClampNeg, List.replicate n.toNatClampNeg none) = .inl (G.2.1 t, n.toNatClampNeg, .inr (.inr (.inr (.inr (fun j => ((List.replicate n.toNatClampNeg none).getD j none).map (G.2.2.1.size + ·)))))) := by
      unfold sd_E; rw [if_neg (by omega), if_neg (by omega), if_neg (by omega)]
    rw [hE]
    show H1[H.size]? = some (vp_cell _ _)
    rw [vp_cell_q, e1, hcA]
    congr 2
    funext j
    have : (List.replicate n.toNatClampNeg (none : Option Nat)).getD j none = none := by
      rw [List.getD_eq_getElem?_getD, List.getElem?_replicate]
      by_cases h : j < n.toNatClampNeg
      · rw [if_pos h]; rfl
      · rw [if_neg h]; rfl
    rw [this]; rfl
  have := kk p l e s m args below meth c G Z hX hSc hZ H1 locs lsA hR' ⟨Nat.le_trans hS.1 (by omega), fun x h1 h2 => (o1 x (Nat.lt_of_lt_of_le h1 hS.1)).trans (hS.2.1 x h1 h2), hS.2.2⟩ hL
  have e2 : (Value.ref C.length :: st).map (sd_v G) = Value.ref H.size :: st.map (sd_v G) := by
    show Value.ref (sd_ad G C.length) :: _ = _
    rw [sd_ad_lt hl, hsz]
  rw [e2] at this
  exact this
/-- a reference is put into an array of them -/
theorem AW.aast {a b n t t0 ci nb N : Nat} {rs rb : List (Option Nat)} {i : Int32} {Cn En : String} {T : u_T} (d : decode μ.2.1 pc = .ok (.aastore, 1)) (ht : (t = 23 ∧ En = RX7 ∧ t0 = 3) ∨ (t = 24 ∧ En = RX4 ∧ t0 = 4) ∨ (t = 25 ∧ En = RX9 ∧ t0 = 5)) (hC : C[a]? = some (t, n, rs)) (hB : C[b]? = some (ci, nb, rb)) (hci : ci < 13) (hc : vwCl[ci]? = some (Cn, T, N)) (hcast : Cn = En ∨ (Cn, En) ∈ sd_casts) (j : Nat) (hi : i = nI j) (hj : j < n) (hn : n < 2 ^ 31) (hrs : rs.length = n)
    (kk : AW μ kc ks (pc + 1) ls st (C.set a (t, n, rs.set j (some b)), X, I, J) Q) : AW μ kc ks pc ls (.ref b :: .int i :: .ref a :: st) (C, X, I, J) Q := by
  subst hi
  intro p l e s m args below meth c G Z hX hSc hZ H locs lsA hR hS hL
  have hR : sd_R G C I J H := hR
  show W p l e _ s m args below meth c H locs kc ks Z (F0 m pc lsA (Value.ref (sd_ad G b) :: Value.int (nI j) :: Value.ref (sd_ad G a) :: st.map (sd_v G)))
  rw [sd_ad_lt (hR.lt hC), sd_ad_lt (hR.lt hB)]
  have hK := hX.2.2.2.2.2.2.2.2.1.1
  have hcl : (nI j).toNatClampNeg = j := nI_clamp (by omega)
  have ht2 : 22 < t := by omega
  have heb : (sd_ws G C I J)[b]? = some (G.2.2.1.size + b, .inr (ci, sd_fs G I b (ci, nb, rb))) := by rw [sd_at hB]; unfold sd_E; rw [if_pos hci]
  obtain ⟨r', hr', cellV, g1, g2, g3, -⟩ := hR.2.2.2 b _ heb
  have hcls := (hK.1 ci _ hc).2
  have h0 : va_RA s (G.2.1 t) (.object En) := (hK.2 t0 (G.2.1 t, .object En) (by rcases ht with ⟨rfl, rfl, rfl⟩ | ⟨rfl, rfl, rfl⟩ | ⟨rfl, rfl, rfl⟩ <;> rfl)).2
  obtain ⟨kA, comp, k1, k2, k3, -⟩ := h0
  obtain ⟨kE, hkE, -⟩ := Vm.findClass_spec k3
  obtain ⟨kC, hkC, hkind⟩ := hcls.2
  have hass : s.vm.assignable (G.1.1 ci) comp = true := by
    rcases hcast with rfl | hm
    · have : comp = G.1.1 ci := Option.some.inj (k3.symm.trans hcls.1)
      rw [this]; exact va_assign hcls
    · obtain ⟨c0, t1, f1, f2, f3⟩ := Cond.castable_spec (va_Nw.use (A := args) rfl (hX.2.2.2.2.2.2.2.2.1.2.2.1 _ hm))
      cases hcls.1.symm.trans f1
      cases k3.symm.trans f2
      exact f3
  refine W.aast hX.1 hX.2.1 (hR.2.2.2 a _ (sd_eR ht2 hC)) (fun q h => by cases h) (fun h => by cases h) k1 k2 rfl hkE ⟨fun h => (vp_in_nI hj hn) (Or.inl h), by show _ < (arrV _ _ _).slots.size; rw [arrV_size, hcl]; exact hj⟩ g1 (fun q h => by rw [g3] at h; cases h) (by rw [g2]; exact hkC) (by rw [g2]; exact hass) rfl rfl d fun H1 ee z oq => ?_
  have hR' : sd_R G (C.set a (t, n, rs.set j (some b))) I J H1 := by
    refine hR.put hC (fun _ _ _ => rfl) z oq ?_
    have hE : sd_E G I J a (t, n, rs.set j (some b)) = .inl (G.2.1 t, n, .inr (.inr (.inr (.inr (fun k => ((rs.set j (some b)).getD k none).map (G.2.2.1.size + ·)))))) := by
      unfold sd_E; rw [if_neg (by omega), if_neg (by omega), if_neg (by omega)]
    rw [hE]
    show H1[G.2.2.1.size + a]? = some (vp_cell _ _)
    rw [ee, vp_cell_q, vp_cell_q, arrV_store, hcl]
    congr 2
    funext q
    by_cases hq : q = j
    · subst hq
      simp [updV, List.getD_eq_getElem?_getD, List.getElem?_set_self (show q < rs.length by omega), va_rf]
    · simp [updV, hq, List.getD_eq_getElem?_getD, List.getElem?_set_ne (fun e => hq e.symm)]
  exact kk p l e s m args below meth c G Z hX hSc hZ H1 _ lsA hR' (hS.put z oq (Nat.le_add_right _ _)) hL
/-- Object's constructor -/
theorem AW.obj {idx a : Nat} (d : decode μ.2.1 pc = .ok (.invokespecial idx, 3)) (w : Cond.methodLink μ.1.cls idx Lib.objectInit ∈ sd_gd) (hf : 1 ≤ μ.2.2.2.2.frames) (hlo : (st.map fun v => v.category).sum + 12 ≤ μ.2.2.2.2.locals) (kk : AW μ kc ks (pc + 3) ls st (C, X, I, J) Q) : AW μ kc ks pc ls (.ref a :: st) (C, X, I, J) Q := by
  intro p l e s m args below meth c G Z hX hSc hZ H locs lsA hR hS hL
  have hR : sd_R G C I J H := hR
  have hts := hX.2.2.2.2.2.1
  have hcat : ((st.map (sd_v G)).map fun v => v.category).sum = (st.map fun v => v.category).sum := by
    rw [List.map_map]
    exact congrArg List.sum (List.map_congr_left (fun v _ => sd_v_cat G v))
  exact W.objInit hX.1 hX.2.1 hX.2.2.2.2.1 (hts _ w) (hts _ wI_obj) (hts _ wC_obj) rfl (by rw [hX.2.2.2.1]; exact hL.1) rfl d hf (by show 2 * 0 + _ + 12 ≤ _; rw [hcat]; omega) (kk p l e s m args below meth c G Z hX hSc hZ H locs lsA hR hS hL)
end New
end
section
-- a method's contract out of its walk; calls
def sd_Qc (G : sd_G) (X : Nat × (Nat → Int32)) (Q : Option Int32 → sd_S → Prop) : Array Value → State → Outcome → State → Prop := fun _ st oc t =>
  (∃ (r : Option Int32) (C : List sd_C) (I : sd_I) (J : sd_J), oc = .returned (r.map Value.int) ∧ Q r (C, X, I, J) ∧ sd_R G C I J t.heap) ∧ va_F (sd_A G) st t
def sd_Pc (G : sd_G) (C : List sd_C) (I : sd_I) (J : sd_J) (U : State) : Prop := sd_F G U ∧ sd_R G C I J U.heap
theorem sd_en_args (G : sd_G) : ∀ (vs : List Value) (k i : Nat) (v : Value), (sd_en vs)[i]? = some v → v ≠ .null → (k + i, sd_v G v) ∈ lv_args k (vs.map (sd_v G)) := by
  intro vs
  induction vs with
  | nil => intro k i v h; simp [sd_en] at h
  | cons a vs ih =>
    intro k i v h hv
    unfold sd_en at h
    simp only [List.map_cons, lv_args, sd_v_cat]
    by_cases hc : a.category = 2
    · rw [if_pos hc] at h
      rw [if_pos hc]
      match i, h with
      | 0, h => cases h; exact List.mem_cons_self
      | 1, h => cases h; exact absurd rfl hv
      | i + 2, h =>
        refine List.mem_cons_of_mem _ ?_
        have := ih (k + 2) i v h hv
        rwa [show k + 2 + i = k + (i + 2) by omega] at this
    · rw [if_neg hc] at h
      rw [if_neg hc]
      match i, h with
      | 0, h => cases h; exact List.mem_cons_self
      | i + 1, h =>
        refine List.mem_cons_of_mem _ ?_
        have := ih (k + 1) i v h hv
        rwa [show k + 1 + i = k + (i + 1) by omega] at this
theorem sd_en_len (G : sd_G) (vs : List Value) : (lg_sl (vs.map (sd_v G))).length = (sd_en vs).length := by
  induction vs with
  | nil => rfl
  | cons a vs ih =>
    have h1 : lg_sl ((a :: vs).map (sd_v G)) = (if (sd_v G a).category = 2 then [.val (sd_v G a), .second] else [.val (sd_v G a)]) ++ lg_sl (vs.map (sd_v G)) := by
      simp [lg_sl]
    rw [h1, List.length_append, ih, sd_v_cat]
    rw [show sd_en (a :: vs) = if a.category = 2 then a :: .null :: sd_en vs else a :: sd_en vs from rfl]
    by_cases hc : a.category = 2
    · rw [if_pos hc, if_pos hc]; simp; omega
    · rw [if_neg hc, if_neg hc]; simp; omega
theorem sd_met {μ : sd_M} {vs : List Value} {C : List sd_C} {X : Nat × (Nat → Int32)} {I : sd_I} {J : sd_J} {Q : Option Int32 → sd_S → Prop} (h : AWm μ vs (C, X, I, J) Q) (hpl : plainName μ.1.cls = true) (hx : μ.1 ≠ x) (hfit : (sd_en vs).length ≤ μ.2.2.1) (l : Launch) (G : sd_G) :
    Met l μ.1 (.code μ.1 μ.2.1 μ.2.2.1 μ.2.2.2.1 :: sd_gd) μ.2.2.2.2 (va_Pc (vs.map (sd_v G)) (sd_Pc G C I J)) (sd_Qc G X Q) μ.2.2.2.2.cells μ.2.2.2.2.slots (sd_A G) := by
  refine Met.ofW (cc := μ.2.1) (maxL := μ.2.2.1) (ret := μ.2.2.2.1) hpl rfl ?_
  intro p e s m args below meth c s₁ B hml hv
  obtain ⟨rfl, hF, hR⟩ := hv
  have hts := atoms_spec (ws := .code μ.1 μ.2.1 μ.2.2.1 μ.2.2.2.1 :: sd_gd) B.pre
  have hX : sd_X μ p s m (vs.map (sd_v G)).toArray meth c G := ⟨B.exec, B.bytes, B.returns, hml, findClass_of_methodNamed B.named, fun w hw => hts w (List.mem_cons_of_mem _ hw), B.notSynchronized, (name_of_methodNamed B.named B.method).1, hF, hR.2.2.1, by rw [hR.1]; exact Nat.le_add_right _ _⟩
  rw [lg_entry_eq]
  have hl := lv_entry (vs.map (sd_v G)) (n := μ.2.2.1) (by rw [sd_en_len]; exact hfit)
  generalize ((lg_sl (vs.map (sd_v G)) ++ List.replicate (μ.2.2.1 - (lg_sl (vs.map (sd_v G))).length) Slot.unset).toArray) = lsA at hl ⊢
  refine h p l e s m _ below meth c G _ hX (fun e => absurd e hx) ?_ s.heap [] lsA hR va_S.rf ⟨hl.1, hl.2.1, fun i v hi hv => ?_⟩
  · intro r C' I' J' H locs lsB pc hr hq hR' hS'
    have hF' : ∀ t : State, t.heap = H → va_F (sd_A G) s t := fun t ht => hS'.F ht
    cases r with
    | none =>
      exact W.vret hX.1 hX.2.1 (hX.2.2.1.trans hr.1) (fun t ht hW => ⟨⟨none, C', I', J', rfl, hq, by rw [ht]; exact hR'⟩, hF' t ht⟩) hS'.2.2 hr.2 hX.2.2.2.2.2.2.1
    | some v =>
      obtain ⟨⟨ty, h1, h2⟩, h3⟩ := hr
      exact W.zret hX.1 hX.2.1 (hX.2.2.1.trans h1) h2 (fun t ht hW => ⟨⟨some v, C', I', J', rfl, hq, by rw [ht]; exact hR'⟩, hF' t ht⟩) hS'.2.2 h3 hX.2.2.2.2.2.2.1
  · by_cases hi2 : i < (sd_en vs).length
    · rw [List.getElem?_append_left hi2] at hi
      have := sd_en_args G vs 0 i v hi hv
      rw [Nat.zero_add] at this
      exact hl.2.2 _ this
    · rw [List.getElem?_append_right (by omega), List.getElem?_replicate] at hi
      split at hi
      · cases hi; exact absurd rfl hv
      · cases hi
theorem sd_call {p : Program} {l : Launch} {e : Env} {R : Room} {s : State} {m : MethodId} {args : Array Value} {below : List Frame} {meth : Method} {c : Code} {H : Heap} {locs : List Loc} {cells slots mc ms pc : Nat} {Z : State → Prop} {ls : Array Slot} {st0 rest : List Value} {a : Array Value} {H0 : Heap} {G : sd_G} {X : Nat × (Nat → Int32)} {Q : Option Int32 → sd_S → Prop}
    (hr : va_Run p l e R s m args below meth c H locs cells slots mc ms (F0 m pc ls st0) rest (sd_Qc G X Q a) (sd_A G)) (hS : va_S (sd_A G) H0 H locs)
    (kk : ∀ (r : Option Int32) (C : List sd_C) (I : sd_I) (J : sd_J) (H1 : Heap) (locs1 : List Loc), Q r (C, X, I, J) → sd_R G C I J H1 → va_S (sd_A G) H0 H1 locs1 → W p l e R s m args below meth c H1 locs1 (cells + mc) (slots + ms) Z (F0 m (pc + 3) ls (r.toList.map Value.int ++ rest))) : W p l e R s m args below meth c H locs cells slots Z (F0 m pc ls st0) := by
  intro T hT Y
  obtain ⟨v, st₀, t, T', L, h0, Y', hL, e1, e2, ⟨⟨r, C, I, J, hv, hq, hR⟩, hz, hk⟩, st⟩ := hr T hT Y
  have hv : v = r.map Value.int := by injection hv
  subst hv
  rw [h0] at hz hk
  obtain ⟨t2, a1, b1⟩ := kk r C I J T'.heap (locs ++ L) hq (by rw [e1]; exact hR)
    ⟨Nat.le_trans hS.1 (by rw [e1]; exact hz), fun q h1 h2 => by rw [e1, hk q (Nat.lt_of_lt_of_le h1 hS.1) h2]; exact hS.2.1 q h1 h2, fun q hq => by
      rcases List.mem_append.mp hq with h | h
      · exact hS.2.2 q h
      · exact hL q h⟩ T' rfl Y'
  refine ⟨t2, st t2 ?_, b1⟩
  cases r <;> exact a1
section Calls2
variable {μ μ' : sd_M} {kc ks kc' ks' pc : Nat} {ls st vs : List Value} {C : List sd_C} {X : Nat × (Nat → Int32)} {I : sd_I} {J : sd_J} {Q Q' : Option Int32 → sd_S → Prop} {idx n : Nat}
theorem sd_blind (G : sd_G) (vs : List Value) : FrameBlind (va_Pc (vs.map (sd_v G)) (sd_Pc G C I J)) := fun a U g mk q => by
  obtain ⟨q0, q1, q2⟩ := q
  exact ⟨q0, sd_F.same (u := U) rfl q1, q2⟩
theorem sd_preS {G : sd_G} {s : State} {H : Heap} (hF : sd_F G s) (hR : sd_R G C I J H) : PreS s H (va_Pc (vs.map (sd_v G)) (sd_Pc G C I J)) (vs.map (sd_v G)) :=
  ⟨sd_blind G vs, fun U hU hW => ⟨rfl, hF.warm hW, by rw [hU]; exact hR⟩⟩
theorem sd_room8 (G : sd_G) (m : MethodId) (lsA : Array Slot) (st0 : List Value) (h : (st.map fun v => v.category).sum ≤ 8) : 2 * (F0 m pc lsA st0).monitorRoom + ((st.map (sd_v G)).map fun v => v.category).sum ≤ 8 := by
  have hcat : ((st.map (sd_v G)).map fun v => v.category).sum = (st.map fun v => v.category).sum := by
    rw [List.map_map]
    exact congrArg List.sum (List.map_congr_left (fun v _ => sd_v_cat G v))
  show 2 * 0 + _ ≤ 8
  omega
/-- what a call asks of the callee and the rooms -/
def sd_ok (μ μ' : sd_M) (n : Nat) : Prop := plainName μ'.1.cls = true ∧ μ'.1 ≠ x ∧ (μ'.1.cls ≠ "java/lang/invoke/MethodHandle" ∧ μ'.1.cls ≠ "java/lang/invoke/VarHandle" ∧ (parseMethodDescriptor μ'.1.desc).map (fun d => d.parameters.length) = some n) ∧ (μ'.2.2.2.2.frames + 1 ≤ μ.2.2.2.2.frames ∧ 8 + (μ'.2.2.1 + 11) + μ'.2.2.2.2.locals ≤ μ.2.2.2.2.locals)
theorem sd_wsG (wc : Cond.code μ'.1 μ'.2.1 μ'.2.2.1 μ'.2.2.2.1 ∈ sd_gd) : ∀ w ∈ (Cond.code μ'.1 μ'.2.1 μ'.2.2.1 μ'.2.2.2.1 :: sd_gd), w ∈ sd_gd := fun w hw => by
  rcases List.mem_cons.mp hw with rfl | h
  · exact wc
  · exact h
theorem sd_map_rev (G : sd_G) (vs st : List Value) : (vs.reverse ++ st).map (sd_v G) = (vs.map (sd_v G)).reverse ++ st.map (sd_v G) := by simp
theorem sd_back {G : sd_G} {m : MethodId} {pc : Nat} {lsA : Array Slot} {r : Option Int32} : (F0 m pc lsA (r.toList.map Value.int ++ st.map (sd_v G))) = F0 m pc lsA ((r.toList.map Value.int ++ st).map (sd_v G)) := by
  cases r <;> rfl
/-- invokestatic -/
theorem AW.callS (hok : sd_ok μ μ' n) (wm : Cond.methodLink μ.1.cls idx μ'.1 ∈ sd_gd) (ws : Cond.static μ'.1 ∈ sd_gd) (wi : Cond.initialized μ'.1.cls ∈ sd_gd) (wc : Cond.code μ'.1 μ'.2.1 μ'.2.2.1 μ'.2.2.2.1 ∈ sd_gd) (d : decode μ.2.1 pc = .ok (.invokestatic idx, 3)) (hn : vs.length = n) (hfit : (sd_en vs).length ≤ μ'.2.2.1) (hst : (st.map fun v => v.category).sum ≤ 8)
    (hkc : kc + μ'.2.2.2.2.cells = kc') (hks : ks + μ'.2.2.2.2.slots = ks') (hc1 : kc' ≤ μ.2.2.2.2.cells) (hs1 : ks' ≤ μ.2.2.2.2.slots) {st0 : List Value} (hst0 : vs.reverse ++ st = st0)
    (h : AWm μ' vs (C, X, I, J) Q') (kk : ∀ r C I J, Q' r (C, X, I, J) → AW μ kc' ks' (pc + 3) ls (r.toList.map Value.int ++ st) (C, X, I, J) Q) : AW μ kc ks pc ls st0 (C, X, I, J) Q := by
  subst hkc; subst hks; subst hst0
  intro p l e s m args below meth c G Z hX hSc hZ H locs lsA hR hS hL
  have hR : sd_R G C I J H := hR
  have hts := hX.2.2.2.2.2.1
  have hG : GoodIn sd_gd (va_wsS μ.1.cls idx μ'.1 (.code μ'.1 μ'.2.1 μ'.2.2.1 μ'.2.2.2.1 :: sd_gd)) := sd_goodIn (fun w hw => by
    rcases List.mem_append.mp hw with h1 | h1
    · simp only [List.mem_cons, List.not_mem_nil, or_false] at h1
      rcases h1 with rfl | rfl | rfl <;> assumption
    · exact sd_wsG wc w h1)
  rw [sd_map_rev]
  refine sd_call (va_runS (As := vs.map (sd_v G)) (rest := st.map (sd_v G)) (n := n) ⟨hX.1, hX.2.1, hX.2.2.2.1, hX.2.2.2.2.1, hts⟩ (sd_met h hok.1 hok.2.1 hfit l G) (va_cwS n hts hG rfl rfl rfl hok.2.2.1 hok.2.2.2) (sd_preS hX.2.2.2.2.2.2.2.2.1 hR) rfl (by simpa using hn) hL.1 rfl (sd_room8 G m lsA _ hst) d ⟨hc1, hs1⟩) hS (fun r C' I' J' H1 locs1 hq hR' hS' => ?_)
  rw [sd_back]
  exact kk r C' I' J' hq p l e s m args below meth c G Z hX hSc hZ H1 locs1 lsA hR' hS' hL
/-- invokestatic, a private one of a nest mate -/
theorem AW.callSN {host : String} (hok : sd_ok μ μ' n) (wq : ((μ.1.cls, idx, μ'.1, host) : String × Nat × MethodName × String) ∈ sd_nest) (ws : Cond.static μ'.1 ∈ sd_gd) (wi : Cond.initialized μ'.1.cls ∈ sd_gd) (wc : Cond.code μ'.1 μ'.2.1 μ'.2.2.1 μ'.2.2.2.1 ∈ sd_gd) (d : decode μ.2.1 pc = .ok (.invokestatic idx, 3)) (hn : vs.length = n) (hfit : (sd_en vs).length ≤ μ'.2.2.1) (hst : (st.map fun v => v.category).sum ≤ 8)
    (hkc : kc + μ'.2.2.2.2.cells = kc') (hks : ks + μ'.2.2.2.2.slots = ks') (hc1 : kc' ≤ μ.2.2.2.2.cells) (hs1 : ks' ≤ μ.2.2.2.2.slots) {st0 : List Value} (hst0 : vs.reverse ++ st = st0)
    (h : AWm μ' vs (C, X, I, J) Q') (kk : ∀ r C I J, Q' r (C, X, I, J) → AW μ kc' ks' (pc + 3) ls (r.toList.map Value.int ++ st) (C, X, I, J) Q) : AW μ kc ks pc ls st0 (C, X, I, J) Q := by
  subst hkc; subst hks; subst hst0
  intro p l e s m args below meth c G Z hX hSc hZ H locs lsA hR hS hL
  have hR : sd_R G C I J H := hR
  have hts := hX.2.2.2.2.2.1
  rw [sd_map_rev]
  refine sd_call (va_runSN (host := host) (As := vs.map (sd_v G)) (rest := st.map (sd_v G)) (n := n) ⟨hX.1, hX.2.1, hX.2.2.2.1, hX.2.2.2.2.1, hts⟩ (sd_met h hok.1 hok.2.1 hfit l G) ⟨va_cnB n hts (sd_goodIn (sd_wsG wc)) rfl rfl rfl (hX.2.2.2.2.2.2.2.2.1.2.1 _ wq) (hts _ wi) hok.2.2.1 hok.2.2.2, hts _ ws, trivial⟩ (sd_preS hX.2.2.2.2.2.2.2.2.1 hR) rfl (by simpa using hn) hL.1 rfl (sd_room8 G m lsA _ hst) d ⟨hc1, hs1⟩) hS (fun r C' I' J' H1 locs1 hq hR' hS' => ?_)
  rw [sd_back]
  exact kk r C' I' J' hq p l e s m args below meth c G Z hX hSc hZ H1 locs1 lsA hR' hS' hL
theorem sd_preV {G : sd_G} {s : State} {H : Heap} {a ci na N : Nat} {rs : List (Option Nat)} {Cn : String} {T : u_T} (hF : sd_F G s) (hR : sd_R G C I J H) (hC : C[a]? = some (ci, na, rs)) (hci : ci < 13) (hc : vwCl[ci]? = some (Cn, T, N)) : PreV s H Cn (G.2.2.1.size + a) (va_Pc ((.ref a :: vs).map (sd_v G)) (sd_Pc G C I J)) (vs.map (sd_v G)) := by
  refine ⟨sd_blind G (.ref a :: vs), ?_, fun U hU hW => ⟨?_, hF.warm hW, by rw [hU]; exact hR⟩⟩
  · exact va_recv hF.1 hR.2.2.2 hc (q0 := a) (ci := ci) (fs := sd_fs G I a (ci, na, rs)) (by rw [sd_at hC]; unfold sd_E; rw [if_pos hci])
  · show _ = (Value.ref (sd_ad G a) :: _).toArray
    rw [sd_ad_lt (hR.lt hC)]
/-- invokevirtual, of a method of the object's own class -/
theorem AW.callV {a ci na N : Nat} {rs : List (Option Nat)} {Cn : String} {T : u_T} (hok : sd_ok μ μ' n) (hcls : μ'.1.cls = Cn) (wm : Cond.methodLink μ.1.cls idx μ'.1 ∈ sd_gd) (wi : Cond.instanceMethod μ'.1 ∈ sd_gd) (wse : Cond.selects Cn μ'.1 μ'.1 ∈ sd_gd) (wz : Cond.initialized Cn ∈ sd_gd) (wc : Cond.code μ'.1 μ'.2.1 μ'.2.2.1 μ'.2.2.2.1 ∈ sd_gd) (hci : ci < 13) (hc : vwCl[ci]? = some (Cn, T, N)) (d : decode μ.2.1 pc = .ok (.invokevirtual idx, 3)) (hn : vs.length = n) (hfit : (sd_en (.ref a :: vs)).length ≤ μ'.2.2.1) (hst : (st.map fun v => v.category).sum ≤ 8)
    (hkc : kc + μ'.2.2.2.2.cells = kc') (hks : ks + μ'.2.2.2.2.slots = ks') (hc1 : kc' ≤ μ.2.2.2.2.cells) (hs1 : ks' ≤ μ.2.2.2.2.slots) (hC : C[a]? = some (ci, na, rs)) {st0 : List Value} (hst0 : vs.reverse ++ .ref a :: st = st0)
    (h : AWm μ' (.ref a :: vs) (C, X, I, J) Q') (kk : ∀ r C I J, Q' r (C, X, I, J) → AW μ kc' ks' (pc + 3) ls (r.toList.map Value.int ++ st) (C, X, I, J) Q) : AW μ kc ks pc ls st0 (C, X, I, J) Q := by
  subst hkc; subst hks; subst hst0
  intro p l e s m args below meth c G Z hX hSc hZ H locs lsA hR hS hL
  have hR : sd_R G C I J H := hR
  have hts := hX.2.2.2.2.2.1
  have hG : GoodIn sd_gd (wsV μ.1.cls idx Cn μ'.1 (.code μ'.1 μ'.2.1 μ'.2.2.1 μ'.2.2.2.1 :: sd_gd)) := sd_goodIn (fun w hw => by
    rcases List.mem_append.mp hw with h1 | h1
    · simp only [List.mem_cons, List.not_mem_nil, or_false] at h1
      rcases h1 with rfl | rfl | rfl | rfl <;> assumption
    · exact sd_wsG wc w h1)
  rw [sd_map_rev]
  have e0 : (Value.ref a :: st).map (sd_v G) = Value.ref (G.2.2.1.size + a) :: st.map (sd_v G) := by
    show Value.ref (sd_ad G a) :: _ = _
    rw [sd_ad_lt (hR.lt hC)]
  rw [e0]
  refine sd_call (va_runV (As := vs.map (sd_v G)) (rest := st.map (sd_v G)) (n := n) ⟨hX.1, hX.2.1, hX.2.2.2.1, hX.2.2.2.2.1, hts⟩ (sd_met h hok.1 hok.2.1 hfit l G) (cwV n hts hG rfl rfl rfl ⟨hcls, hok.2.2.1⟩ hok.2.2.2) (sd_preV hX.2.2.2.2.2.2.2.2.1 hR hC hci hc) rfl (by simpa using hn) hL.1 rfl (sd_room8 G m lsA _ hst) d ⟨hc1, hs1⟩) hS (fun r C' I' J' H1 locs1 hq hR' hS' => ?_)
  rw [sd_back]
  exact kk r C' I' J' hq p l e s m args below meth c G Z hX hSc hZ H1 locs1 lsA hR' hS' hL
/-- invokevirtual of a method that the object's class has its own of -/
theorem AW.callU {a ci na N : Nat} {rs : List (Option Nat)} {Cn owner : String} {T : u_T} {xm : MethodName} (hok : sd_ok μ μ' n) (hown : owner ≠ "java/lang/invoke/MethodHandle" ∧ owner ≠ "java/lang/invoke/VarHandle" ∧ (parseMethodDescriptor xm.desc).map (fun d => d.parameters.length) = some n) (ho : (⟨owner, xm.name, xm.desc⟩ : MethodName) = xm) (wx : Cond.instanceMethod xm ∈ sd_gd) {bx : ByteArray} {mx : Nat} {rx : Option FieldType} (wcx : Cond.code xm bx mx rx ∈ sd_gd) (wm : Cond.methodLink μ.1.cls idx xm ∈ sd_gd) (wsm : Cond.sameMethod xm.cls owner xm.name xm.desc ∈ sd_gd) (wi : Cond.instanceMethod μ'.1 ∈ sd_gd) (wse : Cond.selects Cn xm μ'.1 ∈ sd_gd) (wz : Cond.initialized μ'.1.cls ∈ sd_gd) (wc : Cond.code μ'.1 μ'.2.1 μ'.2.2.1 μ'.2.2.2.1 ∈ sd_gd) (hci : ci < 13) (hc : vwCl[ci]? = some (Cn, T, N)) (d : decode μ.2.1 pc = .ok (.invokevirtual idx, 3)) (hn : vs.length = n) (hfit : (sd_en (.ref a :: vs)).length ≤ μ'.2.2.1) (hst : (st.map fun v => v.category).sum ≤ 8)
    (hkc : kc + μ'.2.2.2.2.cells = kc') (hks : ks + μ'.2.2.2.2.slots = ks') (hc1 : kc' ≤ μ.2.2.2.2.cells) (hs1 : ks' ≤ μ.2.2.2.2.slots) (hC : C[a]? = some (ci, na, rs)) {st0 : List Value} (hst0 : vs.reverse ++ .ref a :: st = st0)
    (h : AWm μ' (.ref a :: vs) (C, X, I, J) Q') (kk : ∀ r C I J, Q' r (C, X, I, J) → AW μ kc' ks' (pc + 3) ls (r.toList.map Value.int ++ st) (C, X, I, J) Q) : AW μ kc ks pc ls st0 (C, X, I, J) Q := by
  subst hkc; subst hks; subst hst0
  intro p l e s m args below meth c G Z hX hSc hZ H locs lsA hR hS hL
  have hR : sd_R G C I J H := hR
  have hts := hX.2.2.2.2.2.1
  have hG : GoodIn sd_gd (va_wsO μ.1.cls idx Cn owner xm μ'.1 (.code μ'.1 μ'.2.1 μ'.2.2.1 μ'.2.2.2.1 :: sd_gd)) := sd_goodIn (fun w hw => by
    rcases List.mem_append.mp hw with h1 | h1
    · simp only [List.mem_cons, List.not_mem_nil, or_false] at h1
      rcases h1 with rfl | rfl | rfl | rfl | rfl | rfl <;> first | assumption | (rw [ho]; exact wx)
    · exact sd_wsG wc w h1)
  rw [sd_map_rev]
  have e0 : (Value.ref a :: st).map (sd_v G) = Value.ref (G.2.2.1.size + a) :: st.map (sd_v G) := by
    show Value.ref (sd_ad G a) :: _ = _
    rw [sd_ad_lt (hR.lt hC)]
  rw [e0]
  refine sd_call (va_runU (As := vs.map (sd_v G)) (rest := st.map (sd_v G)) (n := n) ⟨hX.1, hX.2.1, hX.2.2.2.1, hX.2.2.2.2.1, hts⟩ (sd_met h hok.1 hok.2.1 hfit l G) (va_cwO n hts hG rfl rfl rfl (by rw [ho]; exact wcx) hown hok.2.2.2) (sd_preV hX.2.2.2.2.2.2.2.2.1 hR hC hci hc) rfl (by simpa using hn) hL.1 rfl (sd_room8 G m lsA _ hst) d ⟨hc1, hs1⟩) hS (fun r C' I' J' H1 locs1 hq hR' hS' => ?_)
  rw [sd_back]
  exact kk r C' I' J' hq p l e s m args below meth c G Z hX hSc hZ H1 locs1 lsA hR' hS' hL
/-- invokespecial, of the super class's method -/
theorem AW.callSU {a ci na N : Nat} {rs : List (Option Nat)} {Cn : String} {T : u_T} (hok : sd_ok μ μ' n) (hname : μ'.1.name ≠ "<init>") (wm : Cond.methodLink μ.1.cls idx μ'.1 ∈ sd_gd) (wsm : Cond.sameMethod μ'.1.cls μ'.1.cls μ'.1.name μ'.1.desc ∈ sd_gd) (wsu : Cond.superclass μ.1.cls μ'.1.cls ∈ sd_gd) (wi : Cond.instanceMethod μ'.1 ∈ sd_gd) (wz : Cond.initialized μ'.1.cls ∈ sd_gd) (wc : Cond.code μ'.1 μ'.2.1 μ'.2.2.1 μ'.2.2.2.1 ∈ sd_gd) (hci : ci < 13) (hc : vwCl[ci]? = some (Cn, T, N)) (d : decode μ.2.1 pc = .ok (.invokespecial idx, 3)) (hn : vs.length = n) (hfit : (sd_en (.ref a :: vs)).length ≤ μ'.2.2.1) (hst : (st.map fun v => v.category).sum ≤ 8)
    (hkc : kc + μ'.2.2.2.2.cells = kc') (hks : ks + μ'.2.2.2.2.slots = ks') (hc1 : kc' ≤ μ.2.2.2.2.cells) (hs1 : ks' ≤ μ.2.2.2.2.slots) (hC : C[a]? = some (ci, na, rs)) {st0 : List Value} (hst0 : vs.reverse ++ .ref a :: st = st0)
    (h : AWm μ' (.ref a :: vs) (C, X, I, J) Q') (kk : ∀ r C I J, Q' r (C, X, I, J) → AW μ kc' ks' (pc + 3) ls (r.toList.map Value.int ++ st) (C, X, I, J) Q) : AW μ kc ks pc ls st0 (C, X, I, J) Q := by
  subst hkc; subst hks; subst hst0
  intro p l e s m args below meth c G Z hX hSc hZ H locs lsA hR hS hL
  have hR : sd_R G C I J H := hR
  have hts := hX.2.2.2.2.2.1
  have hG : GoodIn sd_gd (va_wsSU μ.1.cls idx μ'.1 (.code μ'.1 μ'.2.1 μ'.2.2.1 μ'.2.2.2.1 :: sd_gd)) := sd_goodIn (fun w hw => by
    rcases List.mem_append.mp hw with h1 | h1
    · simp only [List.mem_cons, List.not_mem_nil, or_false] at h1
      rcases h1 with rfl | rfl | rfl | rfl | rfl <;> assumption
    · exact sd_wsG wc w h1)
  rw [sd_map_rev]
  have e0 : (Value.ref a :: st).map (sd_v G) = Value.ref (G.2.2.1.size + a) :: st.map (sd_v G) := by
    show Value.ref (sd_ad G a) :: _ = _
    rw [sd_ad_lt (hR.lt hC)]
  rw [e0]
  refine sd_call (va_runSU (hX.2.2.2.2.2.2.2.2.1.1.1 ci _ hc).2 (As := vs.map (sd_v G)) (rest := st.map (sd_v G)) (n := n) ⟨hX.1, hX.2.1, hX.2.2.2.1, hX.2.2.2.2.1, hts⟩ (sd_met h hok.1 hok.2.1 hfit l G) (va_cwSU n hts hG rfl rfl rfl ⟨hname, hok.2.2.1.2.2⟩ hok.2.2.2) (sd_preV hX.2.2.2.2.2.2.2.2.1 hR hC hci hc) rfl (by simpa using hn) hL.1 rfl (sd_room8 G m lsA _ hst) d ⟨hc1, hs1⟩) hS (fun r C' I' J' H1 locs1 hq hR' hS' => ?_)
  rw [sd_back]
  exact kk r C' I' J' hq p l e s m args below meth c G Z hX hSc hZ H1 locs1 lsA hR' hS' hL
/-- a constructor -/
theorem AW.callI {a : Nat} (hok : sd_ok μ μ' n) (hname : μ'.1.name = "<init>") (hret : μ'.2.2.2.1 = none) (wm : Cond.methodLink μ.1.cls idx μ'.1 ∈ sd_gd) (wi : Cond.instanceMethod μ'.1 ∈ sd_gd) (wz : Cond.initialized μ'.1.cls ∈ sd_gd) (wc : Cond.code μ'.1 μ'.2.1 μ'.2.2.1 μ'.2.2.2.1 ∈ sd_gd) (d : decode μ.2.1 pc = .ok (.invokespecial idx, 3)) (hn : vs.length = n) (hfit : (sd_en (.ref a :: vs)).length ≤ μ'.2.2.1) (hst : (st.map fun v => v.category).sum ≤ 8)
    (hkc : kc + μ'.2.2.2.2.cells = kc') (hks : ks + μ'.2.2.2.2.slots = ks') (hc1 : kc' ≤ μ.2.2.2.2.cells) (hs1 : ks' ≤ μ.2.2.2.2.slots) (ha : a < 100000) {st0 : List Value} (hst0 : vs.reverse ++ .ref a :: st = st0)
    (h : AWm μ' (.ref a :: vs) (C, X, I, J) Q') (kk : ∀ r C I J, Q' r (C, X, I, J) → AW μ kc' ks' (pc + 3) ls (r.toList.map Value.int ++ st) (C, X, I, J) Q) : AW μ kc ks pc ls st0 (C, X, I, J) Q := by
  subst hkc; subst hks; subst hst0
  intro p l e s m args below meth c G Z hX hSc hZ H locs lsA hR hS hL
  have hR : sd_R G C I J H := hR
  have hts := hX.2.2.2.2.2.1
  rw [hret] at wc
  have hM := sd_met h hok.1 hok.2.1 hfit l G
  rw [hret] at hM
  rw [sd_map_rev]
  have e0 : (Value.ref a :: st).map (sd_v G) = Value.ref (G.2.2.1.size + a) :: st.map (sd_v G) := by
    show Value.ref (sd_ad G a) :: _ = _
    rw [sd_ad_lt ha]
  rw [e0]
  have e1 : (Value.ref a :: vs).map (sd_v G) = Value.ref (G.2.2.1.size + a) :: vs.map (sd_v G) := by
    show Value.ref (sd_ad G a) :: _ = _
    rw [sd_ad_lt ha]
  have hp : PreS s H (va_Pc ((.ref a :: vs).map (sd_v G)) (sd_Pc G C I J)) ((.ref a :: vs).map (sd_v G)) := sd_preS hX.2.2.2.2.2.2.2.2.1 hR
  rw [e1] at hp hM
  have hG : GoodIn sd_gd (.code μ'.1 μ'.2.1 μ'.2.2.1 none :: sd_gd) := sd_goodIn (fun w hw => by
    rcases List.mem_cons.mp hw with rfl | h
    · exact wc
    · exact h)
  refine sd_call (va_runI (As := vs.map (sd_v G)) (rest := st.map (sd_v G)) (n := n) ⟨hX.1, hX.2.1, hX.2.2.2.1, hX.2.2.2.2.1, hts⟩ hM (cwI n hts hG rfl rfl rfl (hts _ wz) (hts _ wm) (hts _ wi) hname hok.2.2.1 hok.2.2.2) hp rfl (by simpa using hn) hL.1 rfl (sd_room8 G m lsA _ hst) d ⟨hc1, hs1⟩) hS (fun r C' I' J' H1 locs1 hq hR' hS' => ?_)
  rw [sd_back]
  exact kk r C' I' J' hq p l e s m args below meth c G Z hX hSc hZ H1 locs1 lsA hR' hS' hL
/-- a private constructor of a nest mate -/
theorem AW.callIN {a : Nat} {host : String} (hok : sd_ok μ μ' n) (hname : μ'.1.name = "<init>") (hret : μ'.2.2.2.1 = none) (wq : ((μ.1.cls, idx, μ'.1, host) : String × Nat × MethodName × String) ∈ sd_nest) (wi : Cond.instanceMethod μ'.1 ∈ sd_gd) (wz : Cond.initialized μ'.1.cls ∈ sd_gd) (wc : Cond.code μ'.1 μ'.2.1 μ'.2.2.1 μ'.2.2.2.1 ∈ sd_gd) (d : decode μ.2.1 pc = .ok (.invokespecial idx, 3)) (hn : vs.length = n) (hfit : (sd_en (.ref a :: vs)).length ≤ μ'.2.2.1) (hst : (st.map fun v => v.category).sum ≤ 8)
    (hkc : kc + μ'.2.2.2.2.cells = kc') (hks : ks + μ'.2.2.2.2.slots = ks') (hc1 : kc' ≤ μ.2.2.2.2.cells) (hs1 : ks' ≤ μ.2.2.2.2.slots) (ha : a < 100000) {st0 : List Value} (hst0 : vs.reverse ++ .ref a :: st = st0)
    (h : AWm μ' (.ref a :: vs) (C, X, I, J) Q') (kk : ∀ r C I J, Q' r (C, X, I, J) → AW μ kc' ks' (pc + 3) ls (r.toList.map Value.int ++ st) (C, X, I, J) Q) : AW μ kc ks pc ls st0 (C, X, I, J) Q := by
  subst hkc; subst hks; subst hst0
  intro p l e s m args below meth c G Z hX hSc hZ H locs lsA hR hS hL
  have hR : sd_R G C I J H := hR
  have hts := hX.2.2.2.2.2.1
  rw [hret] at wc
  have hM := sd_met h hok.1 hok.2.1 hfit l G
  rw [hret] at hM
  rw [sd_map_rev]
  have e0 : (Value.ref a :: st).map (sd_v G) = Value.ref (G.2.2.1.size + a) :: st.map (sd_v G) := by
    show Value.ref (sd_ad G a) :: _ = _
    rw [sd_ad_lt ha]
  rw [e0]
  have e1 : (Value.ref a :: vs).map (sd_v G) = Value.ref (G.2.2.1.size + a) :: vs.map (sd_v G) := by
    show Value.ref (sd_ad G a) :: _ = _
    rw [sd_ad_lt ha]
  have hp : PreS s H (va_Pc ((.ref a :: vs).map (sd_v G)) (sd_Pc G C I J)) ((.ref a :: vs).map (sd_v G)) := sd_preS hX.2.2.2.2.2.2.2.2.1 hR
  rw [e1] at hp hM
  have hG : GoodIn sd_gd (.code μ'.1 μ'.2.1 μ'.2.2.1 none :: sd_gd) := sd_goodIn (fun w hw => by
    rcases List.mem_cons.mp hw with rfl | h
    · exact wc
    · exact h)
  refine sd_call (va_runIN (host := host) (As := vs.map (sd_v G)) (rest := st.map (sd_v G)) (n := n) ⟨hX.1, hX.2.1, hX.2.2.2.1, hX.2.2.2.2.1, hts⟩ hM ⟨va_cnB n hts hG rfl rfl rfl (hX.2.2.2.2.2.2.2.2.1.2.1 _ wq) (hts _ wz) hok.2.2.1 hok.2.2.2, hname, hts _ wi⟩ hp rfl (by simpa using hn) hL.1 rfl (sd_room8 G m lsA _ hst) d ⟨hc1, hs1⟩) hS (fun r C' I' J' H1 locs1 hq hR' hS' => ?_)
  rw [sd_back]
  exact kk r C' I' J' hq p l e s m args below meth c G Z hX hSc hZ H1 locs1 lsA hR' hS' hL
end Calls2
end
section
-- arraycopy, the script, answers
section More
variable {μ : sd_M} {kc ks pc : Nat} {ls st : List Value} {C : List sd_C} {X : Nat × (Nat → Int32)} {I : sd_I} {J : sd_J} {Q : Option Int32 → sd_S → Prop}
theorem sd_below {G : sd_G} {p : Program} {s : State} {m : MethodId} {args : Array Value} {meth : Method} {c : Code} {H : Heap} {locs : List Loc} (hX : sd_X μ p s m args meth c G) (hS : va_S (sd_A G) s.heap H locs) : ∀ q, q < G.2.2.1.size → H[q]? = G.2.2.1[q]? := fun q hq => by
  have h10 := hX.2.2.2.2.2.2.2.2.2
  rw [hS.2.1 q (Nat.lt_of_lt_of_le hq h10.2) (Nat.not_le.mpr hq)]
  exact h10.1 q hq
theorem AW.copyI {a b n0 n1 p0 q0 k0 idx : Nat} {ra rb : List (Option Nat)} {sp dp nn : Int32} (d : decode μ.2.1 pc = .ok (.invokestatic idx, 3)) (w : Cond.methodLink μ.1.cls idx arraycopyName ∈ sd_gd) (hA : C[a]? = some (20, n0, ra)) (hB : C[b]? = some (20, n1, rb)) (h1 : sp = nI p0) (h2 : dp = nI q0) (h3 : nn = nI k0) (h4 : p0 + k0 ≤ n0) (h5 : q0 + k0 ≤ n1) (hn0 : n0 < 2 ^ 31) (hn1 : n1 < 2 ^ 31) (hf : 1 ≤ μ.2.2.2.2.frames) (hlo : (st.map fun v => v.category).sum + 18 ≤ μ.2.2.2.2.locals)
    (kk : AW μ 0 ks (pc + 3) ls st (C, X, sd_r I b (va_cpy (I a) (I b) p0 q0 k0), J) Q) : AW μ 0 ks pc ls (.int nn :: .int dp :: .ref b :: .int sp :: .ref a :: st) (C, X, I, J) Q := by
  subst h1; subst h2; subst h3
  intro p l e s m args below meth c G Z hX hSc hZ H locs lsA hR hS hL
  have hR : sd_R G C I J H := hR
  show W p l e _ s m args below meth c H locs 0 ks Z (F0 m pc lsA (Value.int (nI k0) :: Value.int (nI q0) :: Value.ref (sd_ad G b) :: Value.int (nI p0) :: Value.ref (sd_ad G a) :: st.map (sd_v G)))
  rw [sd_ad_lt (hR.lt hA), sd_ad_lt (hR.lt hB)]
  have hts := hX.2.2.2.2.2.1
  have c1 : (nI p0).toNatClampNeg = p0 := nI_clamp (by omega)
  have c2 : (nI q0).toNatClampNeg = q0 := nI_clamp (by omega)
  have c3 : (nI k0).toNatClampNeg = k0 := nI_clamp (by omega)
  have hcat : ((st.map (sd_v G)).map fun v => v.category).sum = (st.map fun v => v.category).sum := by
    rw [List.map_map]
    exact congrArg List.sum (List.map_congr_left (fun v _ => sd_v_cat G v))
  intro T hT Y
  have hz : H.size = s.heap.size := by have := Y.heapSize; rw [hT] at this; have := hS.1; omega
  refine va_copyi hX.1 hX.2.1 (by rw [hX.2.2.2.1, hL.1]) hX.2.2.2.2.1 (hts _ w) (hts _ wN_copy) (hts _ wT_copy) (hts _ wZ_J10) hX.2.2.2.2.2.2.2.2.1.1 hR.2.2.2 (sd_D G C I J) hS a b 0 0 (sd_eI hA) (sd_eI hB) (ty := .int) rfl rfl rfl (nI_pos (by omega)) (nI_pos (by omega)) (nI_pos (by omega)) (by rw [c1, c3]; exact h4) (by rw [c2, c3]; exact h5) (fun _ _ => rfl) hf (by rw [hcat]; exact hlo) d (fun H1 locs1 hP1 hD1 hS1 => ?_) T hT Y
  rw [c1, c2, c3] at hP1
  intro T1 hT1 Y1
  have hz1 : H1.size = s.heap.size := by have := Y1.heapSize; rw [hT1] at this; have := hS1.1; omega
  have hws : sd_ws G C (sd_r I b (va_cpy (I a) (I b) p0 q0 k0)) J = (sd_ws G C I J).set b (G.2.2.1.size + b, .inl (G.2.1 20, n1, .inl (va_cpy (I a) (I b) p0 q0 k0))) := by
    have h := sd_ws_upd (G := G) (I := I) (I' := sd_r I b (va_cpy (I a) (I b) p0 q0 k0)) (J := J) (J' := J) (c' := (20, n1, rb)) hB (fun k d hk => sd_E_I (sd_r_ne hk) d)
    rw [sd_set_same hB] at h
    rw [h]
    show (sd_ws G C I J).set b (_, .inl (G.2.1 20, n1, .inl (sd_r I b _ b))) = _
    rw [sd_r_eq]
  exact kk p l e s m args below meth c G Z hX hSc hZ H1 locs1 lsA ⟨by rw [hz1, ← hz]; exact hR.1, hR.2.1, sd_below hX hS1, by rw [hws]; exact hP1⟩ hS1 hL T1 hT1 Y1
theorem AW.copyJ {a b n0 n1 p0 q0 k0 idx : Nat} {ra rb : List (Option Nat)} {sp dp nn : Int32} (d : decode μ.2.1 pc = .ok (.invokestatic idx, 3)) (w : Cond.methodLink μ.1.cls idx arraycopyName ∈ sd_gd) (hA : C[a]? = some (22, n0, ra)) (hB : C[b]? = some (22, n1, rb)) (h1 : sp = nI p0) (h2 : dp = nI q0) (h3 : nn = nI k0) (h4 : p0 + k0 ≤ n0) (h5 : q0 + k0 ≤ n1) (hn0 : n0 < 2 ^ 31) (hn1 : n1 < 2 ^ 31) (hf : 1 ≤ μ.2.2.2.2.frames) (hlo : (st.map fun v => v.category).sum + 18 ≤ μ.2.2.2.2.locals)
    (kk : AW μ 0 ks (pc + 3) ls st (C, X, I, sd_r J b (va_cpy (J a) (J b) p0 q0 k0)) Q) : AW μ 0 ks pc ls (.int nn :: .int dp :: .ref b :: .int sp :: .ref a :: st) (C, X, I, J) Q := by
  subst h1; subst h2; subst h3
  intro p l e s m args below meth c G Z hX hSc hZ H locs lsA hR hS hL
  have hR : sd_R G C I J H := hR
  show W p l e _ s m args below meth c H locs 0 ks Z (F0 m pc lsA (Value.int (nI k0) :: Value.int (nI q0) :: Value.ref (sd_ad G b) :: Value.int (nI p0) :: Value.ref (sd_ad G a) :: st.map (sd_v G)))
  rw [sd_ad_lt (hR.lt hA), sd_ad_lt (hR.lt hB)]
  have hts := hX.2.2.2.2.2.1
  have c1 : (nI p0).toNatClampNeg = p0 := nI_clamp (by omega)
  have c2 : (nI q0).toNatClampNeg = q0 := nI_clamp (by omega)
  have c3 : (nI k0).toNatClampNeg = k0 := nI_clamp (by omega)
  have hcat : ((st.map (sd_v G)).map fun v => v.category).sum = (st.map fun v => v.category).sum := by
    rw [List.map_map]
    exact congrArg List.sum (List.map_congr_left (fun v _ => sd_v_cat G v))
  intro T hT Y
  have hz : H.size = s.heap.size := by have := Y.heapSize; rw [hT] at this; have := hS.1; omega
  refine va_copyl hX.1 hX.2.1 (by rw [hX.2.2.2.1, hL.1]) hX.2.2.2.2.1 (hts _ w) (hts _ wN_copy) (hts _ wT_copy) (hts _ wZ_J10) hX.2.2.2.2.2.2.2.2.1.1 hR.2.2.2 (sd_D G C I J) hS a b 2 2 (sd_eJ hA) (sd_eJ hB) (ty := .long) rfl rfl rfl (nI_pos (by omega)) (nI_pos (by omega)) (nI_pos (by omega)) (by rw [c1, c3]; exact h4) (by rw [c2, c3]; exact h5) (fun _ _ => rfl) hf (by rw [hcat]; exact hlo) d (fun H1 locs1 hP1 hD1 hS1 => ?_) T hT Y
  rw [c1, c2, c3] at hP1
  intro T1 hT1 Y1
  have hz1 : H1.size = s.heap.size := by have := Y1.heapSize; rw [hT1] at this; have := hS1.1; omega
  have hws : sd_ws G C I (sd_r J b (va_cpy (J a) (J b) p0 q0 k0)) = (sd_ws G C I J).set b (G.2.2.1.size + b, .inl (G.2.1 22, n1, .inr (.inl (va_cpy (J a) (J b) p0 q0 k0)))) := by
    have h := sd_ws_upd (G := G) (I := I) (I' := I) (J := J) (J' := sd_r J b (va_cpy (J a) (J b) p0 q0 k0)) (c' := (22, n1, rb)) hB (fun k d hk => sd_E_J (sd_r_ne hk) d)
    rw [sd_set_same hB] at h
    rw [h]
    show (sd_ws G C I J).set b (_, .inl (G.2.1 22, n1, .inr (.inl (sd_r J b _ b)))) = _
    rw [sd_r_eq]
  exact kk p l e s m args below meth c G Z hX hSc hZ H1 locs1 lsA ⟨by rw [hz1, ← hz]; exact hR.1, hR.2.1, sd_below hX hS1, by rw [hws]; exact hP1⟩ hS1 hL T1 hT1 Y1
/-- the law's script -/
theorem AW.sld {i : Int32} (hμ : μ.1 = x) (d : decode μ.2.1 pc = .ok (.iaload, 1)) (j : Nat) (hi : i = nI j) (hj : j < X.1) (hn : X.1 < 2 ^ 31) (kk : AW μ kc ks (pc + 1) ls (.int (X.2 j) :: st) (C, X, I, J) Q) : AW μ kc ks pc ls (.int i :: .ref 100000 :: st) (C, X, I, J) Q := by
  subst hi
  intro p l e s m args below meth c G Z hX hSc hZ H locs lsA hR hS hL
  have hR : sd_R G C I J H := hR
  obtain ⟨h1, h2, h3⟩ := hSc hμ
  show W p l e _ s m args below meth c H locs kc ks Z (F0 m pc lsA (Value.int (nI j) :: Value.ref G.2.2.2.1 :: st.map (sd_v G)))
  refine va_sld hX.1 hX.2.1 h1 h2 h3 hS (vp_in_nI hj hn) d ?_
  rw [nI_clamp (by omega)]
  exact kk p l e s m args below meth c G Z hX hSc hZ H locs lsA hR hS hL
theorem AW.slen (hμ : μ.1 = x) (d : decode μ.2.1 pc = .ok (.arraylength, 1)) (kk : AW μ kc ks (pc + 1) ls (.int (nI X.1) :: st) (C, X, I, J) Q) : AW μ kc ks pc ls (.ref 100000 :: st) (C, X, I, J) Q := by
  intro p l e s m args below meth c G Z hX hSc hZ H locs lsA hR hS hL
  have hR : sd_R G C I J H := hR
  obtain ⟨h1, h2, h3⟩ := hSc hμ
  exact va_slen hX.1 hX.2.1 h1 h2 h3 hS d (kk p l e s m args below meth c G Z hX hSc hZ H locs lsA hR hS hL)
/-- the text "pfcth" -/
theorem AW.ldcS (hμ : μ.1.cls = RX8) (d : decode μ.2.1 pc = .ok (.ldc 63, 2)) (kk : AW μ kc ks (pc + 2) ls (.ref 100001 :: st) (C, X, I, J) Q) : AW μ kc ks pc ls st (C, X, I, J) Q := by
  intro p l e s m args below meth c G Z hX hSc hZ H locs lsA hR hS hL
  have hR : sd_R G C I J H := hR
  have hs := hX.2.2.2.2.2.2.2.2.1.2.2.2.2
  exact va_ldcS hX.1 hX.2.1 hX.2.2.2.2.1 (by rw [hμ]; exact hs.1) d (kk p l e s m args below meth c G Z hX hSc hZ H locs lsA hR hS hL)
theorem sd_kept {G : sd_G} {p : Program} {s : State} {m : MethodId} {args : Array Value} {meth : Method} {c : Code} (hX : sd_X μ p s m args meth c G) : ∀ a : Nat, a < G.2.2.1.size → ¬ sd_A G a → s.heap[a]? = G.2.2.1[a]? := fun a ha _ => hX.2.2.2.2.2.2.2.2.2.1 a ha
theorem AW.strC {idx : Nat} (d : decode μ.2.1 pc = .ok (.getstatic idx, 3)) (w : Cond.fieldLink μ.1.cls idx "java/lang/String" "COMPACT_STRINGS" "Z" ∈ sd_gd) (kk : AW μ kc ks (pc + 3) ls (.int 1 :: st) (C, X, I, J) Q) : AW μ kc ks pc ls st (C, X, I, J) Q := by
  intro p l e s m args below meth c G Z hX hSc hZ H locs lsA hR hS hL
  have hR : sd_R G C I J H := hR
  have hs := hX.2.2.2.2.2.2.2.2.1.2.2.2.2
  exact va_gets hX.1 hX.2.1 (hs.2.2.2.2.2.kept (sd_kept hX)) hS hX.2.2.2.2.1 (hX.2.2.2.2.2.1 _ w) (fun _ h => h) d (kk p l e s m args below meth c G Z hX hSc hZ H locs lsA hR hS hL)
theorem AW.strK {idx : Nat} (d : decode μ.2.1 pc = .ok (.getfield idx, 3)) (w : Cond.fieldLink μ.1.cls idx "java/lang/String" "coder" "B" ∈ sd_gd) (kk : AW μ kc ks (pc + 3) ls (.int 0 :: st) (C, X, I, J) Q) : AW μ kc ks pc ls (.ref 100001 :: st) (C, X, I, J) Q := by
  intro p l e s m args below meth c G Z hX hSc hZ H locs lsA hR hS hL
  have hR : sd_R G C I J H := hR
  have hs := hX.2.2.2.2.2.2.2.2.1.2.2.2.2
  exact vk_getf hX.1 hX.2.1 (hs.2.2.1.kept (sd_kept hX)) hS hX.2.2.2.2.1 (hX.2.2.2.2.2.1 _ w) (fun _ h => h) d (kk p l e s m args below meth c G Z hX hSc hZ H locs lsA hR hS hL)
theorem AW.strV {idx : Nat} (d : decode μ.2.1 pc = .ok (.getfield idx, 3)) (w : Cond.fieldLink μ.1.cls idx "java/lang/String" "value" "[B" ∈ sd_gd) (kk : AW μ kc ks (pc + 3) ls (.ref 100002 :: st) (C, X, I, J) Q) : AW μ kc ks pc ls (.ref 100001 :: st) (C, X, I, J) Q := by
  intro p l e s m args below meth c G Z hX hSc hZ H locs lsA hR hS hL
  have hR : sd_R G C I J H := hR
  have hs := hX.2.2.2.2.2.2.2.2.1.2.2.2.2
  exact vk_getf hX.1 hX.2.1 (hs.2.2.2.1.kept (sd_kept hX)) hS hX.2.2.2.2.1 (hX.2.2.2.2.2.1 _ w) (fun _ h => h) d (kk p l e s m args below meth c G Z hX hSc hZ H locs lsA hR hS hL)
end More
end
section
def sk0 : List sd_C := [(11, 0, [some 1, some 19, some 69, some 87, none, some 137, some 155, some 157, some 161]), (2, 0, [some 2, some 8, some 9, some 10, some 11, some 12, some 13, none, none]), (23, 5, [some 3, some 4, some 5, some 6, some 7]), (7, 0, []), (1, 0, []), (0, 0, []), (10, 0, []), (3, 0, []), (20, 5, []), (20, 5, []), (20, 8, []), (20, 8, []), (20, 4, []), (4, 0, [some 14, some 15, some 16, some 17, some 18, none, none]), (20, 8, []), (20, 8, []), (20, 8, []), (20, 5, []), (20, 5, []), (6, 0, [some 20, none, none]), (24, 8, [some 21, some 27, some 33, some 39, some 45, some 51, some 57, some 63]), (4, 0, [some 22, some 23, some 24, some 25, some 26, none, none]), (20, 8, []), (20, 8, []), (20, 8, []), (20, 5, []), (20, 5, []), (4, 0, [some 28, some 29, some 30, some 31, some 32, none, none]), (20, 8, []), (20, 8, []), (20, 8, []), (20, 5, []), (20, 5, []), (4, 0, [some 34, some 35, some 36, some 37, some 38, none, none]), (20, 8, []), (20, 8, []), (20, 8, []), (20, 5, []), (20, 5, []), (4, 0, [some 40, some 41, some 42, some 43, some 44, none, none]), (20, 8, []), (20, 8, []), (20, 8, []), (20, 5, []), (20, 5, []), (4, 0, [some 46, some 47, some 48, some 49, some 50, none, none]), (20, 8, []), (20, 8, []), (20, 8, []), (20, 5, []), (20, 5, []), (4, 0, [some 52, some 53, some 54, some 55, some 56, none, none]), (20, 8, []), (20, 8, []), (20, 8, []), (20, 5, []), (20, 5, []), (4, 0, [some 58, some 59, some 60, some 61, some 62, none, none]), (20, 8, []), (20, 8, []), (20, 8, []), (20, 5, []), (20, 5, []), (4, 0, [some 64, some 65, some 66, some 67, some 68, none, none]), (20, 8, []), (20, 8, []), (20, 8, []), (20, 5, []), (20, 5, []), (2, 0, [some 70, some 76, some 77, some 78, some 79, some 80, some 81, none, none]), (23, 5, [some 71, some 72, some 73, some 74, some 75]), (7, 0, []), (1, 0, []), (0, 0, []), (10, 0, []), (3, 0, []), (20, 5, []), (20, 5, []), (20, 8, []), (20, 8, []), (20, 4, []), (4, 0, [some 82, some 83, some 84, some 85, some 86, none, none]), (20, 8, []), (20, 8, []), (20, 8, []), (20, 5, []), (20, 5, []), (6, 0, [some 88, none, none]), (24, 8, [some 89, some 95, some 101, some 107, some 113, some 119, some 125, some 131]), (4, 0, [some 90, some 91, some 92, some 93, some 94, none, none]), (20, 8, []), (20, 8, []), (20, 8, []), (20, 5, []), (20, 5, []), (4, 0, [some 96, some 97, some 98, some 99, some 100, none, none]), (20, 8, []), (20, 8, []), (20, 8, []), (20, 5, []), (20, 5, []), (4, 0, [some 102, some 103, some 104, some 105, some 106, none, none]), (20, 8, []), (20, 8, []), (20, 8, []), (20, 5, []), (20, 5, []), (4, 0, [some 108, some 109, some 110, some 111, some 112, none, none]), (20, 8, []), (20, 8, []), (20, 8, []), (20, 5, []), (20, 5, []), (4, 0, [some 114, some 115, some 116, some 117, some 118, none, none]), (20, 8, []), (20, 8, []), (20, 8, []), (20, 5, []), (20, 5, []), (4, 0, [some 120, some 121, some 122, some 123, some 124, none, none]), (20, 8, []), (20, 8, []), (20, 8, []), (20, 5, []), (20, 5, []), (4, 0, [some 126, some 127, some 128, some 129, some 130, none, none]), (20, 8, []), (20, 8, []), (20, 8, []), (20, 5, []), (20, 5, []), (4, 0, [some 132, some 133, some 134, some 135, some 136, none, none]), (20, 8, []), (20, 8, []), (20, 8, []), (20, 5, []), (20, 5, []), (2, 0, [some 138, some 144, some 145, some 146, some 147, some 148, some 149, none, none]), (23, 5, [some 139, some 140, some 141, some 142, some 143]), (7, 0, []), (1, 0, []), (0, 0, []), (10, 0, []), (3, 0, []), (20, 5, []), (20, 5, []), (20, 8, []), (20, 8, []), (20, 4, []), (4, 0, [some 150, some 151, some 152, some 153, some 154, none, none]), (20, 8, []), (20, 8, []), (20, 8, []), (20, 5, []), (20, 5, []), (8, 0, [some 156, none, none]), (21, 80, []), (5, 0, [some 158, none, none, some 159, some 160]), (20, 488, []), (20, 8, []), (20, 4, []), (25, 4, [some 162, some 164, some 166, some 168]), (9, 0, [some 163, none, none, none]), (22, 24, []), (9, 0, [some 165, none, none, none]), (22, 24, []), (9, 0, [some 167, none, none, none]), (22, 24, []), (9, 0, [some 169, none, none, none]), (22, 24, []), (12, 0, [some 171, some 172, some 173, none, some 174, none, none, some 175, some 176, some 177, some 178, none]), (20, 4, []), (20, 4, []), (22, 96, []), (20, 80, []), (20, 353, []), (20, 353, []), (20, 353, []), (20, 353, [])]
theorem k0_0 : sk0[0]? = some (11, 0, [some 1, some 19, some 69, some 87, none, some 137, some 155, some 157, some 161]) := by decide +kernel
theorem k0_1 : sk0[1]? = some (2, 0, [some 2, some 8, some 9, some 10, some 11, some 12, some 13, none, none]) := by decide +kernel
theorem k0_3 : sk0[3]? = some (7, 0, []) := by decide +kernel
theorem k0_4 : sk0[4]? = some (1, 0, []) := by decide +kernel
theorem k0_5 : sk0[5]? = some (0, 0, []) := by decide +kernel
theorem k0_6 : sk0[6]? = some (10, 0, []) := by decide +kernel
theorem k0_7 : sk0[7]? = some (3, 0, []) := by decide +kernel
theorem k0_13 : sk0[13]? = some (4, 0, [some 14, some 15, some 16, some 17, some 18, none, none]) := by decide +kernel
theorem k0_19 : sk0[19]? = some (6, 0, [some 20, none, none]) := by decide +kernel
theorem k0_21 : sk0[21]? = some (4, 0, [some 22, some 23, some 24, some 25, some 26, none, none]) := by decide +kernel
theorem k0_27 : sk0[27]? = some (4, 0, [some 28, some 29, some 30, some 31, some 32, none, none]) := by decide +kernel
theorem k0_33 : sk0[33]? = some (4, 0, [some 34, some 35, some 36, some 37, some 38, none, none]) := by decide +kernel
theorem k0_39 : sk0[39]? = some (4, 0, [some 40, some 41, some 42, some 43, some 44, none, none]) := by decide +kernel
theorem k0_45 : sk0[45]? = some (4, 0, [some 46, some 47, some 48, some 49, some 50, none, none]) := by decide +kernel
theorem k0_51 : sk0[51]? = some (4, 0, [some 52, some 53, some 54, some 55, some 56, none, none]) := by decide +kernel
theorem k0_57 : sk0[57]? = some (4, 0, [some 58, some 59, some 60, some 61, some 62, none, none]) := by decide +kernel
theorem k0_63 : sk0[63]? = some (4, 0, [some 64, some 65, some 66, some 67, some 68, none, none]) := by decide +kernel
theorem k0_69 : sk0[69]? = some (2, 0, [some 70, some 76, some 77, some 78, some 79, some 80, some 81, none, none]) := by decide +kernel
theorem k0_71 : sk0[71]? = some (7, 0, []) := by decide +kernel
theorem k0_72 : sk0[72]? = some (1, 0, []) := by decide +kernel
theorem k0_73 : sk0[73]? = some (0, 0, []) := by decide +kernel
theorem k0_74 : sk0[74]? = some (10, 0, []) := by decide +kernel
theorem k0_75 : sk0[75]? = some (3, 0, []) := by decide +kernel
theorem k0_81 : sk0[81]? = some (4, 0, [some 82, some 83, some 84, some 85, some 86, none, none]) := by decide +kernel
theorem k0_87 : sk0[87]? = some (6, 0, [some 88, none, none]) := by decide +kernel
theorem k0_89 : sk0[89]? = some (4, 0, [some 90, some 91, some 92, some 93, some 94, none, none]) := by decide +kernel
theorem k0_95 : sk0[95]? = some (4, 0, [some 96, some 97, some 98, some 99, some 100, none, none]) := by decide +kernel
theorem k0_101 : sk0[101]? = some (4, 0, [some 102, some 103, some 104, some 105, some 106, none, none]) := by decide +kernel
theorem k0_107 : sk0[107]? = some (4, 0, [some 108, some 109, some 110, some 111, some 112, none, none]) := by decide +kernel
theorem k0_113 : sk0[113]? = some (4, 0, [some 114, some 115, some 116, some 117, some 118, none, none]) := by decide +kernel
theorem k0_119 : sk0[119]? = some (4, 0, [some 120, some 121, some 122, some 123, some 124, none, none]) := by decide +kernel
theorem k0_125 : sk0[125]? = some (4, 0, [some 126, some 127, some 128, some 129, some 130, none, none]) := by decide +kernel
theorem k0_131 : sk0[131]? = some (4, 0, [some 132, some 133, some 134, some 135, some 136, none, none]) := by decide +kernel
theorem k0_137 : sk0[137]? = some (2, 0, [some 138, some 144, some 145, some 146, some 147, some 148, some 149, none, none]) := by decide +kernel
theorem k0_139 : sk0[139]? = some (7, 0, []) := by decide +kernel
theorem k0_140 : sk0[140]? = some (1, 0, []) := by decide +kernel
theorem k0_141 : sk0[141]? = some (0, 0, []) := by decide +kernel
theorem k0_142 : sk0[142]? = some (10, 0, []) := by decide +kernel
theorem k0_143 : sk0[143]? = some (3, 0, []) := by decide +kernel
theorem k0_149 : sk0[149]? = some (4, 0, [some 150, some 151, some 152, some 153, some 154, none, none]) := by decide +kernel
theorem k0_155 : sk0[155]? = some (8, 0, [some 156, none, none]) := by decide +kernel
theorem k0_156 : sk0[156]? = some (21, 80, []) := by decide +kernel
theorem k0_157 : sk0[157]? = some (5, 0, [some 158, none, none, some 159, some 160]) := by decide +kernel
theorem k0_158 : sk0[158]? = some (20, 488, []) := by decide +kernel
theorem k0_159 : sk0[159]? = some (20, 8, []) := by decide +kernel
theorem k0_160 : sk0[160]? = some (20, 4, []) := by decide +kernel
theorem k0_161 : sk0[161]? = some (25, 4, [some 162, some 164, some 166, some 168]) := by decide +kernel
theorem k0_162 : sk0[162]? = some (9, 0, [some 163, none, none, none]) := by decide +kernel
theorem k0_163 : sk0[163]? = some (22, 24, []) := by decide +kernel
theorem k0_164 : sk0[164]? = some (9, 0, [some 165, none, none, none]) := by decide +kernel
theorem k0_165 : sk0[165]? = some (22, 24, []) := by decide +kernel
theorem k0_166 : sk0[166]? = some (9, 0, [some 167, none, none, none]) := by decide +kernel
theorem k0_167 : sk0[167]? = some (22, 24, []) := by decide +kernel
theorem k0_168 : sk0[168]? = some (9, 0, [some 169, none, none, none]) := by decide +kernel
theorem k0_169 : sk0[169]? = some (22, 24, []) := by decide +kernel
theorem k0_170 : sk0[170]? = some (12, 0, [some 171, some 172, some 173, none, some 174, none, none, some 175, some 176, some 177, some 178, none]) := by decide +kernel
theorem k0_171 : sk0[171]? = some (20, 4, []) := by decide +kernel
theorem k0_172 : sk0[172]? = some (20, 4, []) := by decide +kernel
theorem k0_173 : sk0[173]? = some (22, 96, []) := by decide +kernel
theorem k0_174 : sk0[174]? = some (20, 80, []) := by decide +kernel
theorem k0_175 : sk0[175]? = some (20, 353, []) := by decide +kernel
theorem k0_176 : sk0[176]? = some (20, 353, []) := by decide +kernel
theorem k0_177 : sk0[177]? = some (20, 353, []) := by decide +kernel
theorem k0_178 : sk0[178]? = some (20, 353, []) := by decide +kernel
def is2 (a : Nat) : Prop := a = 1 ∨ a = 69 ∨ a = 137
theorem is2.a0 {a : Nat} (h : is2 a) : sk0[a]? = some (2, 0, [some (a + 1), some (a + 7), some (a + 8), some (a + 9), some (a + 10), some (a + 11), some (a + 12), none, none]) := by
  rcases h with rfl | rfl | rfl <;> decide +kernel
theorem is2.a1 {a : Nat} (h : is2 a) : sk0[a + 1]? = some (23, 5, [some (a + 2), some (a + 3), some (a + 4), some (a + 5), some (a + 6)]) := by
  rcases h with rfl | rfl | rfl <;> decide +kernel
theorem is2.a2 {a : Nat} (h : is2 a) : sk0[a + 2]? = some (7, 0, []) := by
  rcases h with rfl | rfl | rfl <;> decide +kernel
theorem is2.a3 {a : Nat} (h : is2 a) : sk0[a + 3]? = some (1, 0, []) := by
  rcases h with rfl | rfl | rfl <;> decide +kernel
theorem is2.a4 {a : Nat} (h : is2 a) : sk0[a + 4]? = some (0, 0, []) := by
  rcases h with rfl | rfl | rfl <;> decide +kernel
theorem is2.a5 {a : Nat} (h : is2 a) : sk0[a + 5]? = some (10, 0, []) := by
  rcases h with rfl | rfl | rfl <;> decide +kernel
theorem is2.a6 {a : Nat} (h : is2 a) : sk0[a + 6]? = some (3, 0, []) := by
  rcases h with rfl | rfl | rfl <;> decide +kernel
theorem is2.a7 {a : Nat} (h : is2 a) : sk0[a + 7]? = some (20, 5, []) := by
  rcases h with rfl | rfl | rfl <;> decide +kernel
theorem is2.a8 {a : Nat} (h : is2 a) : sk0[a + 8]? = some (20, 5, []) := by
  rcases h with rfl | rfl | rfl <;> decide +kernel
theorem is2.a9 {a : Nat} (h : is2 a) : sk0[a + 9]? = some (20, 8, []) := by
  rcases h with rfl | rfl | rfl <;> decide +kernel
theorem is2.a10 {a : Nat} (h : is2 a) : sk0[a + 10]? = some (20, 8, []) := by
  rcases h with rfl | rfl | rfl <;> decide +kernel
theorem is2.a11 {a : Nat} (h : is2 a) : sk0[a + 11]? = some (20, 4, []) := by
  rcases h with rfl | rfl | rfl <;> decide +kernel
theorem is2.a12 {a : Nat} (h : is2 a) : sk0[a + 12]? = some (4, 0, [some (a + 13), some (a + 14), some (a + 15), some (a + 16), some (a + 17), none, none]) := by
  rcases h with rfl | rfl | rfl <;> decide +kernel
theorem is2.a13 {a : Nat} (h : is2 a) : sk0[a + 13]? = some (20, 8, []) := by
  rcases h with rfl | rfl | rfl <;> decide +kernel
theorem is2.a14 {a : Nat} (h : is2 a) : sk0[a + 14]? = some (20, 8, []) := by
  rcases h with rfl | rfl | rfl <;> decide +kernel
theorem is2.a15 {a : Nat} (h : is2 a) : sk0[a + 15]? = some (20, 8, []) := by
  rcases h with rfl | rfl | rfl <;> decide +kernel
theorem is2.a16 {a : Nat} (h : is2 a) : sk0[a + 16]? = some (20, 5, []) := by
  rcases h with rfl | rfl | rfl <;> decide +kernel
theorem is2.a17 {a : Nat} (h : is2 a) : sk0[a + 17]? = some (20, 5, []) := by
  rcases h with rfl | rfl | rfl <;> decide +kernel
theorem is2.lt {a : Nat} (h : is2 a) : a < 200 := by unfold is2 at h; omega
def is4 (a : Nat) : Prop := a = 13 ∨ a = 21 ∨ a = 27 ∨ a = 33 ∨ a = 39 ∨ a = 45 ∨ a = 51 ∨ a = 57 ∨ a = 63 ∨ a = 81 ∨ a = 89 ∨ a = 95 ∨ a = 101 ∨ a = 107 ∨ a = 113 ∨ a = 119 ∨ a = 125 ∨ a = 131 ∨ a = 149
theorem is4.a0 {a : Nat} (h : is4 a) : sk0[a]? = some (4, 0, [some (a + 1), some (a + 2), some (a + 3), some (a + 4), some (a + 5), none, none]) := by
  rcases h with rfl | rfl | rfl | rfl | rfl | rfl | rfl | rfl | rfl | rfl | rfl | rfl | rfl | rfl | rfl | rfl | rfl | rfl | rfl <;> decide +kernel
theorem is4.a1 {a : Nat} (h : is4 a) : sk0[a + 1]? = some (20, 8, []) := by
  rcases h with rfl | rfl | rfl | rfl | rfl | rfl | rfl | rfl | rfl | rfl | rfl | rfl | rfl | rfl | rfl | rfl | rfl | rfl | rfl <;> decide +kernel
theorem is4.a2 {a : Nat} (h : is4 a) : sk0[a + 2]? = some (20, 8, []) := by
  rcases h with rfl | rfl | rfl | rfl | rfl | rfl | rfl | rfl | rfl | rfl | rfl | rfl | rfl | rfl | rfl | rfl | rfl | rfl | rfl <;> decide +kernel
theorem is4.a3 {a : Nat} (h : is4 a) : sk0[a + 3]? = some (20, 8, []) := by
  rcases h with rfl | rfl | rfl | rfl | rfl | rfl | rfl | rfl | rfl | rfl | rfl | rfl | rfl | rfl | rfl | rfl | rfl | rfl | rfl <;> decide +kernel
theorem is4.a4 {a : Nat} (h : is4 a) : sk0[a + 4]? = some (20, 5, []) := by
  rcases h with rfl | rfl | rfl | rfl | rfl | rfl | rfl | rfl | rfl | rfl | rfl | rfl | rfl | rfl | rfl | rfl | rfl | rfl | rfl <;> decide +kernel
theorem is4.a5 {a : Nat} (h : is4 a) : sk0[a + 5]? = some (20, 5, []) := by
  rcases h with rfl | rfl | rfl | rfl | rfl | rfl | rfl | rfl | rfl | rfl | rfl | rfl | rfl | rfl | rfl | rfl | rfl | rfl | rfl <;> decide +kernel
theorem is4.lt {a : Nat} (h : is4 a) : a < 200 := by unfold is4 at h; omega
def is5 (a : Nat) : Prop := a = 157
theorem is5.a0 {a : Nat} (h : is5 a) : sk0[a]? = some (5, 0, [some 158, none, none, some 159, some 160]) := by subst h; decide +kernel
theorem is5.lt {a : Nat} (h : is5 a) : a < 200 := by unfold is5 at h; omega
def is6 (a : Nat) : Prop := a = 19 ∨ a = 87
theorem is6.a0 {a : Nat} (h : is6 a) : sk0[a]? = some (6, 0, [some (a + 1), none, none]) := by
  rcases h with rfl | rfl <;> decide +kernel
theorem is6.a1 {a : Nat} (h : is6 a) : sk0[a + 1]? = some (24, 8, [some (a + 2), some (a + 8), some (a + 14), some (a + 20), some (a + 26), some (a + 32), some (a + 38), some (a + 44)]) := by
  rcases h with rfl | rfl <;> decide +kernel
theorem is6.lt {a : Nat} (h : is6 a) : a < 200 := by unfold is6 at h; omega
def is8 (a : Nat) : Prop := a = 155
theorem is8.a0 {a : Nat} (h : is8 a) : sk0[a]? = some (8, 0, [some 156, none, none]) := by subst h; decide +kernel
theorem is8.lt {a : Nat} (h : is8 a) : a < 200 := by unfold is8 at h; omega
def is9 (a : Nat) : Prop := a = 162 ∨ a = 164 ∨ a = 166 ∨ a = 168
theorem is9.a0 {a : Nat} (h : is9 a) : sk0[a]? = some (9, 0, [some (a + 1), none, none, none]) := by
  rcases h with rfl | rfl | rfl | rfl <;> decide +kernel
theorem is9.a1 {a : Nat} (h : is9 a) : sk0[a + 1]? = some (22, 24, []) := by
  rcases h with rfl | rfl | rfl | rfl <;> decide +kernel
theorem is9.lt {a : Nat} (h : is9 a) : a < 200 := by unfold is9 at h; omega
def is11 (a : Nat) : Prop := a = 0
theorem is11.a0 {a : Nat} (h : is11 a) : sk0[a]? = some (11, 0, [some 1, some 19, some 69, some 87, none, some 137, some 155, some 157, some 161]) := by subst h; decide +kernel
theorem is11.lt {a : Nat} (h : is11 a) : a < 200 := by unfold is11 at h; omega
def is12 (a : Nat) : Prop := a = 170
theorem is12.a0 {a : Nat} (h : is12 a) : sk0[a]? = some (12, 0, [some 171, some 172, some 173, none, some 174, none, none, some 175, some 176, some 177, some 178, none]) := by subst h; decide +kernel
theorem is12.lt {a : Nat} (h : is12 a) : a < 200 := by unfold is12 at h; omega
theorem is2.m {a : Nat} (h : is2 a) : is4 (a + 12) := by unfold is2 at h; unfold is4; omega
theorem is2.k0 {a : Nat} (h : is2 a) : sk0[a + 2]? = some (7, 0, []) := is2.a2 h
theorem is2.k1 {a : Nat} (h : is2 a) : sk0[a + 3]? = some (1, 0, []) := is2.a3 h
theorem is2.k2 {a : Nat} (h : is2 a) : sk0[a + 4]? = some (0, 0, []) := is2.a4 h
theorem is2.k3 {a : Nat} (h : is2 a) : sk0[a + 5]? = some (10, 0, []) := is2.a5 h
theorem is2.k4 {a : Nat} (h : is2 a) : sk0[a + 6]? = some (3, 0, []) := is2.a6 h
theorem is6.m {a i : Nat} (h : is6 a) (hi : i < 8) : is4 (a + 2 + 6 * i) := by unfold is6 at h; unfold is4; omega
theorem g2_0 {μ : sd_M} {kc ks pc a idx : Nat} {ls st : List Value} {X : Nat × (Nat → Int32)} {I : sd_I} {J : sd_J} {Q : Option Int32 → sd_S → Prop} (d : decode μ.2.1 pc = .ok (.getfield idx, 3)) (w : Cond.fieldLink μ.1.cls idx "ThankingGifts$House" "kinds" "[LThankingGifts$Plain;" ∈ sd_gd) (h : is2 a) (kk : AW μ kc ks (pc + 3) ls (.ref (a + 1) :: st) (sk0, X, I, J) Q) : AW μ kc ks pc ls (.ref a :: st) (sk0, X, I, J) Q :=
  AW.get (ci := 2) (k := 0) d rfl wV_X2 (by decide) rfl (by decide) w h.a0 rfl (fun r hr => by have := h.lt; injection hr with hr; omega) kk
theorem g2_1 {μ : sd_M} {kc ks pc a idx : Nat} {ls st : List Value} {X : Nat × (Nat → Int32)} {I : sd_I} {J : sd_J} {Q : Option Int32 → sd_S → Prop} (d : decode μ.2.1 pc = .ok (.getfield idx, 3)) (w : Cond.fieldLink μ.1.cls idx "ThankingGifts$House" "bed" "[I" ∈ sd_gd) (h : is2 a) (kk : AW μ kc ks (pc + 3) ls (.ref (a + 7) :: st) (sk0, X, I, J) Q) : AW μ kc ks pc ls (.ref a :: st) (sk0, X, I, J) Q :=
  AW.get (ci := 2) (k := 1) d rfl wV_X2 (by decide) rfl (by decide) w h.a0 rfl (fun r hr => by have := h.lt; injection hr with hr; omega) kk
theorem g2_2 {μ : sd_M} {kc ks pc a idx : Nat} {ls st : List Value} {X : Nat × (Nat → Int32)} {I : sd_I} {J : sd_J} {Q : Option Int32 → sd_S → Prop} (d : decode μ.2.1 pc = .ok (.getfield idx, 3)) (w : Cond.fieldLink μ.1.cls idx "ThankingGifts$House" "bears" "[I" ∈ sd_gd) (h : is2 a) (kk : AW μ kc ks (pc + 3) ls (.ref (a + 8) :: st) (sk0, X, I, J) Q) : AW μ kc ks pc ls (.ref a :: st) (sk0, X, I, J) Q :=
  AW.get (ci := 2) (k := 2) d rfl wV_X2 (by decide) rfl (by decide) w h.a0 rfl (fun r hr => by have := h.lt; injection hr with hr; omega) kk
theorem g2_3 {μ : sd_M} {kc ks pc a idx : Nat} {ls st : List Value} {X : Nat × (Nat → Int32)} {I : sd_I} {J : sd_J} {Q : Option Int32 → sd_S → Prop} (d : decode μ.2.1 pc = .ok (.getfield idx, 3)) (w : Cond.fieldLink μ.1.cls idx "ThankingGifts$House" "kind" "[I" ∈ sd_gd) (h : is2 a) (kk : AW μ kc ks (pc + 3) ls (.ref (a + 9) :: st) (sk0, X, I, J) Q) : AW μ kc ks pc ls (.ref a :: st) (sk0, X, I, J) Q :=
  AW.get (ci := 2) (k := 3) d rfl wV_X2 (by decide) rfl (by decide) w h.a0 rfl (fun r hr => by have := h.lt; injection hr with hr; omega) kk
theorem g2_4 {μ : sd_M} {kc ks pc a idx : Nat} {ls st : List Value} {X : Nat × (Nat → Int32)} {I : sd_I} {J : sd_J} {Q : Option Int32 → sd_S → Prop} (d : decode μ.2.1 pc = .ok (.getfield idx, 3)) (w : Cond.fieldLink μ.1.cls idx "ThankingGifts$House" "dear" "[I" ∈ sd_gd) (h : is2 a) (kk : AW μ kc ks (pc + 3) ls (.ref (a + 10) :: st) (sk0, X, I, J) Q) : AW μ kc ks pc ls (.ref a :: st) (sk0, X, I, J) Q :=
  AW.get (ci := 2) (k := 4) d rfl wV_X2 (by decide) rfl (by decide) w h.a0 rfl (fun r hr => by have := h.lt; injection hr with hr; omega) kk
theorem g2_5 {μ : sd_M} {kc ks pc a idx : Nat} {ls st : List Value} {X : Nat × (Nat → Int32)} {I : sd_I} {J : sd_J} {Q : Option Int32 → sd_S → Prop} (d : decode μ.2.1 pc = .ok (.getfield idx, 3)) (w : Cond.fieldLink μ.1.cls idx "ThankingGifts$House" "roomLoud" "[I" ∈ sd_gd) (h : is2 a) (kk : AW μ kc ks (pc + 3) ls (.ref (a + 11) :: st) (sk0, X, I, J) Q) : AW μ kc ks pc ls (.ref a :: st) (sk0, X, I, J) Q :=
  AW.get (ci := 2) (k := 5) d rfl wV_X2 (by decide) rfl (by decide) w h.a0 rfl (fun r hr => by have := h.lt; injection hr with hr; omega) kk
theorem g2_6 {μ : sd_M} {kc ks pc a idx : Nat} {ls st : List Value} {X : Nat × (Nat → Int32)} {I : sd_I} {J : sd_J} {Q : Option Int32 → sd_S → Prop} (d : decode μ.2.1 pc = .ok (.getfield idx, 3)) (w : Cond.fieldLink μ.1.cls idx "ThankingGifts$House" "now" "LThankingGifts$Moment;" ∈ sd_gd) (h : is2 a) (kk : AW μ kc ks (pc + 3) ls (.ref (a + 12) :: st) (sk0, X, I, J) Q) : AW μ kc ks pc ls (.ref a :: st) (sk0, X, I, J) Q :=
  AW.get (ci := 2) (k := 6) d rfl wV_X2 (by decide) rfl (by decide) w h.a0 rfl (fun r hr => by have := h.lt; injection hr with hr; omega) kk
theorem g2_7 {μ : sd_M} {kc ks pc a idx : Nat} {ls st : List Value} {X : Nat × (Nat → Int32)} {I : sd_I} {J : sd_J} {Q : Option Int32 → sd_S → Prop} (d : decode μ.2.1 pc = .ok (.getfield idx, 3)) (w : Cond.fieldLink μ.1.cls idx "ThankingGifts$House" "sleepers" "I" ∈ sd_gd) (h : is2 a) (kk : AW μ kc ks (pc + 3) ls (.int (I a 7) :: st) (sk0, X, I, J) Q) : AW μ kc ks pc ls (.ref a :: st) (sk0, X, I, J) Q :=
  AW.get (ci := 2) (k := 7) d rfl wV_X2 (by decide) rfl (by decide) w h.a0 rfl (fun r hr => by cases hr) kk
theorem p2_7 {μ : sd_M} {kc ks pc a idx : Nat} {ls st : List Value} {X : Nat × (Nat → Int32)} {I : sd_I} {J : sd_J} {Q : Option Int32 → sd_S → Prop} {v : Int32} (d : decode μ.2.1 pc = .ok (.putfield idx, 3)) (w : Cond.fieldLink μ.1.cls idx "ThankingGifts$House" "sleepers" "I" ∈ sd_gd) (h : is2 a) (kk : AW μ kc ks (pc + 3) ls st (sk0, X, sd_u I a 7 v, J) Q) : AW μ kc ks pc ls (.int v :: .ref a :: st) (sk0, X, I, J) Q :=
  AW.put (ci := 2) (k := 7) (ty := .int) d rfl wV_X2 tyX2 tyX2_ok nmX2 (by decide) rfl (by decide) w rfl (by decide +kernel) rfl rfl rfl h.a0 kk
theorem g2_8 {μ : sd_M} {kc ks pc a idx : Nat} {ls st : List Value} {X : Nat × (Nat → Int32)} {I : sd_I} {J : sd_J} {Q : Option Int32 → sd_S → Prop} (d : decode μ.2.1 pc = .ok (.getfield idx, 3)) (w : Cond.fieldLink μ.1.cls idx "ThankingGifts$House" "things" "I" ∈ sd_gd) (h : is2 a) (kk : AW μ kc ks (pc + 3) ls (.int (I a 8) :: st) (sk0, X, I, J) Q) : AW μ kc ks pc ls (.ref a :: st) (sk0, X, I, J) Q :=
  AW.get (ci := 2) (k := 8) d rfl wV_X2 (by decide) rfl (by decide) w h.a0 rfl (fun r hr => by cases hr) kk
theorem p2_8 {μ : sd_M} {kc ks pc a idx : Nat} {ls st : List Value} {X : Nat × (Nat → Int32)} {I : sd_I} {J : sd_J} {Q : Option Int32 → sd_S → Prop} {v : Int32} (d : decode μ.2.1 pc = .ok (.putfield idx, 3)) (w : Cond.fieldLink μ.1.cls idx "ThankingGifts$House" "things" "I" ∈ sd_gd) (h : is2 a) (kk : AW μ kc ks (pc + 3) ls st (sk0, X, sd_u I a 8 v, J) Q) : AW μ kc ks pc ls (.int v :: .ref a :: st) (sk0, X, I, J) Q :=
  AW.put (ci := 2) (k := 8) (ty := .int) d rfl wV_X2 tyX2 tyX2_ok nmX2 (by decide) rfl (by decide) w rfl (by decide +kernel) rfl rfl rfl h.a0 kk
theorem g4_0 {μ : sd_M} {kc ks pc a idx : Nat} {ls st : List Value} {X : Nat × (Nat → Int32)} {I : sd_I} {J : sd_J} {Q : Option Int32 → sd_S → Prop} (d : decode μ.2.1 pc = .ok (.getfield idx, 3)) (w : Cond.fieldLink μ.1.cls idx "ThankingGifts$Moment" "place" "[I" ∈ sd_gd) (h : is4 a) (kk : AW μ kc ks (pc + 3) ls (.ref (a + 1) :: st) (sk0, X, I, J) Q) : AW μ kc ks pc ls (.ref a :: st) (sk0, X, I, J) Q :=
  AW.get (ci := 4) (k := 0) d rfl wV_X4 (by decide) rfl (by decide) w h.a0 rfl (fun r hr => by have := h.lt; injection hr with hr; omega) kk
theorem g4_1 {μ : sd_M} {kc ks pc a idx : Nat} {ls st : List Value} {X : Nat × (Nat → Int32)} {I : sd_I} {J : sd_J} {Q : Option Int32 → sd_S → Prop} (d : decode μ.2.1 pc = .ok (.getfield idx, 3)) (w : Cond.fieldLink μ.1.cls idx "ThankingGifts$Moment" "giver" "[I" ∈ sd_gd) (h : is4 a) (kk : AW μ kc ks (pc + 3) ls (.ref (a + 2) :: st) (sk0, X, I, J) Q) : AW μ kc ks pc ls (.ref a :: st) (sk0, X, I, J) Q :=
  AW.get (ci := 4) (k := 1) d rfl wV_X4 (by decide) rfl (by decide) w h.a0 rfl (fun r hr => by have := h.lt; injection hr with hr; omega) kk
theorem g4_2 {μ : sd_M} {kc ks pc a idx : Nat} {ls st : List Value} {X : Nat × (Nat → Int32)} {I : sd_I} {J : sd_J} {Q : Option Int32 → sd_S → Prop} (d : decode μ.2.1 pc = .ok (.getfield idx, 3)) (w : Cond.fieldLink μ.1.cls idx "ThankingGifts$Moment" "left" "[I" ∈ sd_gd) (h : is4 a) (kk : AW μ kc ks (pc + 3) ls (.ref (a + 3) :: st) (sk0, X, I, J) Q) : AW μ kc ks pc ls (.ref a :: st) (sk0, X, I, J) Q :=
  AW.get (ci := 4) (k := 2) d rfl wV_X4 (by decide) rfl (by decide) w h.a0 rfl (fun r hr => by have := h.lt; injection hr with hr; omega) kk
theorem g4_3 {μ : sd_M} {kc ks pc a idx : Nat} {ls st : List Value} {X : Nat × (Nat → Int32)} {I : sd_I} {J : sd_J} {Q : Option Int32 → sd_S → Prop} (d : decode μ.2.1 pc = .ok (.getfield idx, 3)) (w : Cond.fieldLink μ.1.cls idx "ThankingGifts$Moment" "slept" "[I" ∈ sd_gd) (h : is4 a) (kk : AW μ kc ks (pc + 3) ls (.ref (a + 4) :: st) (sk0, X, I, J) Q) : AW μ kc ks pc ls (.ref a :: st) (sk0, X, I, J) Q :=
  AW.get (ci := 4) (k := 3) d rfl wV_X4 (by decide) rfl (by decide) w h.a0 rfl (fun r hr => by have := h.lt; injection hr with hr; omega) kk
theorem g4_4 {μ : sd_M} {kc ks pc a idx : Nat} {ls st : List Value} {X : Nat × (Nat → Int32)} {I : sd_I} {J : sd_J} {Q : Option Int32 → sd_S → Prop} (d : decode μ.2.1 pc = .ok (.getfield idx, 3)) (w : Cond.fieldLink μ.1.cls idx "ThankingGifts$Moment" "woken" "[I" ∈ sd_gd) (h : is4 a) (kk : AW μ kc ks (pc + 3) ls (.ref (a + 5) :: st) (sk0, X, I, J) Q) : AW μ kc ks pc ls (.ref a :: st) (sk0, X, I, J) Q :=
  AW.get (ci := 4) (k := 4) d rfl wV_X4 (by decide) rfl (by decide) w h.a0 rfl (fun r hr => by have := h.lt; injection hr with hr; omega) kk
theorem g4_5 {μ : sd_M} {kc ks pc a idx : Nat} {ls st : List Value} {X : Nat × (Nat → Int32)} {I : sd_I} {J : sd_J} {Q : Option Int32 → sd_S → Prop} (d : decode μ.2.1 pc = .ok (.getfield idx, 3)) (w : Cond.fieldLink μ.1.cls idx "ThankingGifts$Moment" "night" "I" ∈ sd_gd) (h : is4 a) (kk : AW μ kc ks (pc + 3) ls (.int (I a 5) :: st) (sk0, X, I, J) Q) : AW μ kc ks pc ls (.ref a :: st) (sk0, X, I, J) Q :=
  AW.get (ci := 4) (k := 5) d rfl wV_X4 (by decide) rfl (by decide) w h.a0 rfl (fun r hr => by cases hr) kk
theorem p4_5 {μ : sd_M} {kc ks pc a idx : Nat} {ls st : List Value} {X : Nat × (Nat → Int32)} {I : sd_I} {J : sd_J} {Q : Option Int32 → sd_S → Prop} {v : Int32} (d : decode μ.2.1 pc = .ok (.putfield idx, 3)) (w : Cond.fieldLink μ.1.cls idx "ThankingGifts$Moment" "night" "I" ∈ sd_gd) (h : is4 a) (kk : AW μ kc ks (pc + 3) ls st (sk0, X, sd_u I a 5 v, J) Q) : AW μ kc ks pc ls (.int v :: .ref a :: st) (sk0, X, I, J) Q :=
  AW.put (ci := 4) (k := 5) (ty := .int) d rfl wV_X4 tyX4 tyX4_ok nmX4 (by decide) rfl (by decide) w rfl (by decide +kernel) rfl rfl rfl h.a0 kk
theorem g4_6 {μ : sd_M} {kc ks pc a idx : Nat} {ls st : List Value} {X : Nat × (Nat → Int32)} {I : sd_I} {J : sd_J} {Q : Option Int32 → sd_S → Prop} (d : decode μ.2.1 pc = .ok (.getfield idx, 3)) (w : Cond.fieldLink μ.1.cls idx "ThankingGifts$Moment" "draw" "I" ∈ sd_gd) (h : is4 a) (kk : AW μ kc ks (pc + 3) ls (.int (I a 6) :: st) (sk0, X, I, J) Q) : AW μ kc ks pc ls (.ref a :: st) (sk0, X, I, J) Q :=
  AW.get (ci := 4) (k := 6) d rfl wV_X4 (by decide) rfl (by decide) w h.a0 rfl (fun r hr => by cases hr) kk
theorem p4_6 {μ : sd_M} {kc ks pc a idx : Nat} {ls st : List Value} {X : Nat × (Nat → Int32)} {I : sd_I} {J : sd_J} {Q : Option Int32 → sd_S → Prop} {v : Int32} (d : decode μ.2.1 pc = .ok (.putfield idx, 3)) (w : Cond.fieldLink μ.1.cls idx "ThankingGifts$Moment" "draw" "I" ∈ sd_gd) (h : is4 a) (kk : AW μ kc ks (pc + 3) ls st (sk0, X, sd_u I a 6 v, J) Q) : AW μ kc ks pc ls (.int v :: .ref a :: st) (sk0, X, I, J) Q :=
  AW.put (ci := 4) (k := 6) (ty := .int) d rfl wV_X4 tyX4 tyX4_ok nmX4 (by decide) rfl (by decide) w rfl (by decide +kernel) rfl rfl rfl h.a0 kk
theorem g5_0 {μ : sd_M} {kc ks pc a idx : Nat} {ls st : List Value} {X : Nat × (Nat → Int32)} {I : sd_I} {J : sd_J} {Q : Option Int32 → sd_S → Prop} (d : decode μ.2.1 pc = .ok (.getfield idx, 3)) (w : Cond.fieldLink μ.1.cls idx "ThankingGifts$Outlook" "thingLoud" "[I" ∈ sd_gd) (h : is5 a) (kk : AW μ kc ks (pc + 3) ls (.ref 158 :: st) (sk0, X, I, J) Q) : AW μ kc ks pc ls (.ref a :: st) (sk0, X, I, J) Q :=
  AW.get (ci := 5) (k := 0) d rfl wV_X5 (by decide) rfl (by decide) w h.a0 rfl (fun r hr => by have := h.lt; injection hr with hr; omega) kk
theorem g5_1 {μ : sd_M} {kc ks pc a idx : Nat} {ls st : List Value} {X : Nat × (Nat → Int32)} {I : sd_I} {J : sd_J} {Q : Option Int32 → sd_S → Prop} (d : decode μ.2.1 pc = .ok (.getfield idx, 3)) (w : Cond.fieldLink μ.1.cls idx "ThankingGifts$Outlook" "nights" "I" ∈ sd_gd) (h : is5 a) (kk : AW μ kc ks (pc + 3) ls (.int (I a 1) :: st) (sk0, X, I, J) Q) : AW μ kc ks pc ls (.ref a :: st) (sk0, X, I, J) Q :=
  AW.get (ci := 5) (k := 1) d rfl wV_X5 (by decide) rfl (by decide) w h.a0 rfl (fun r hr => by cases hr) kk
theorem p5_1 {μ : sd_M} {kc ks pc a idx : Nat} {ls st : List Value} {X : Nat × (Nat → Int32)} {I : sd_I} {J : sd_J} {Q : Option Int32 → sd_S → Prop} {v : Int32} (d : decode μ.2.1 pc = .ok (.putfield idx, 3)) (w : Cond.fieldLink μ.1.cls idx "ThankingGifts$Outlook" "nights" "I" ∈ sd_gd) (h : is5 a) (kk : AW μ kc ks (pc + 3) ls st (sk0, X, sd_u I a 1 v, J) Q) : AW μ kc ks pc ls (.int v :: .ref a :: st) (sk0, X, I, J) Q :=
  AW.put (ci := 5) (k := 1) (ty := .int) d rfl wV_X5 tyX5 tyX5_ok nmX5 (by decide) rfl (by decide) w rfl (by decide +kernel) rfl rfl rfl h.a0 kk
theorem g5_2 {μ : sd_M} {kc ks pc a idx : Nat} {ls st : List Value} {X : Nat × (Nat → Int32)} {I : sd_I} {J : sd_J} {Q : Option Int32 → sd_S → Prop} (d : decode μ.2.1 pc = .ok (.getfield idx, 3)) (w : Cond.fieldLink μ.1.cls idx "ThankingGifts$Outlook" "things" "I" ∈ sd_gd) (h : is5 a) (kk : AW μ kc ks (pc + 3) ls (.int (I a 2) :: st) (sk0, X, I, J) Q) : AW μ kc ks pc ls (.ref a :: st) (sk0, X, I, J) Q :=
  AW.get (ci := 5) (k := 2) d rfl wV_X5 (by decide) rfl (by decide) w h.a0 rfl (fun r hr => by cases hr) kk
theorem p5_2 {μ : sd_M} {kc ks pc a idx : Nat} {ls st : List Value} {X : Nat × (Nat → Int32)} {I : sd_I} {J : sd_J} {Q : Option Int32 → sd_S → Prop} {v : Int32} (d : decode μ.2.1 pc = .ok (.putfield idx, 3)) (w : Cond.fieldLink μ.1.cls idx "ThankingGifts$Outlook" "things" "I" ∈ sd_gd) (h : is5 a) (kk : AW μ kc ks (pc + 3) ls st (sk0, X, sd_u I a 2 v, J) Q) : AW μ kc ks pc ls (.int v :: .ref a :: st) (sk0, X, I, J) Q :=
  AW.put (ci := 5) (k := 2) (ty := .int) d rfl wV_X5 tyX5 tyX5_ok nmX5 (by decide) rfl (by decide) w rfl (by decide +kernel) rfl rfl rfl h.a0 kk
theorem g5_3 {μ : sd_M} {kc ks pc a idx : Nat} {ls st : List Value} {X : Nat × (Nat → Int32)} {I : sd_I} {J : sd_J} {Q : Option Int32 → sd_S → Prop} (d : decode μ.2.1 pc = .ok (.getfield idx, 3)) (w : Cond.fieldLink μ.1.cls idx "ThankingGifts$Outlook" "place" "[I" ∈ sd_gd) (h : is5 a) (kk : AW μ kc ks (pc + 3) ls (.ref 159 :: st) (sk0, X, I, J) Q) : AW μ kc ks pc ls (.ref a :: st) (sk0, X, I, J) Q :=
  AW.get (ci := 5) (k := 3) d rfl wV_X5 (by decide) rfl (by decide) w h.a0 rfl (fun r hr => by have := h.lt; injection hr with hr; omega) kk
theorem g5_4 {μ : sd_M} {kc ks pc a idx : Nat} {ls st : List Value} {X : Nat × (Nat → Int32)} {I : sd_I} {J : sd_J} {Q : Option Int32 → sd_S → Prop} (d : decode μ.2.1 pc = .ok (.getfield idx, 3)) (w : Cond.fieldLink μ.1.cls idx "ThankingGifts$Outlook" "roomLoud" "[I" ∈ sd_gd) (h : is5 a) (kk : AW μ kc ks (pc + 3) ls (.ref 160 :: st) (sk0, X, I, J) Q) : AW μ kc ks pc ls (.ref a :: st) (sk0, X, I, J) Q :=
  AW.get (ci := 5) (k := 4) d rfl wV_X5 (by decide) rfl (by decide) w h.a0 rfl (fun r hr => by have := h.lt; injection hr with hr; omega) kk
theorem g6_0 {μ : sd_M} {kc ks pc a idx : Nat} {ls st : List Value} {X : Nat × (Nat → Int32)} {I : sd_I} {J : sd_J} {Q : Option Int32 → sd_S → Prop} (d : decode μ.2.1 pc = .ok (.getfield idx, 3)) (w : Cond.fieldLink μ.1.cls idx "ThankingGifts$Past" "kept" "[LThankingGifts$Moment;" ∈ sd_gd) (h : is6 a) (kk : AW μ kc ks (pc + 3) ls (.ref (a + 1) :: st) (sk0, X, I, J) Q) : AW μ kc ks pc ls (.ref a :: st) (sk0, X, I, J) Q :=
  AW.get (ci := 6) (k := 0) d rfl wV_X6 (by decide) rfl (by decide) w h.a0 rfl (fun r hr => by have := h.lt; injection hr with hr; omega) kk
theorem g6_1 {μ : sd_M} {kc ks pc a idx : Nat} {ls st : List Value} {X : Nat × (Nat → Int32)} {I : sd_I} {J : sd_J} {Q : Option Int32 → sd_S → Prop} (d : decode μ.2.1 pc = .ok (.getfield idx, 3)) (w : Cond.fieldLink μ.1.cls idx "ThankingGifts$Past" "next" "I" ∈ sd_gd) (h : is6 a) (kk : AW μ kc ks (pc + 3) ls (.int (I a 1) :: st) (sk0, X, I, J) Q) : AW μ kc ks pc ls (.ref a :: st) (sk0, X, I, J) Q :=
  AW.get (ci := 6) (k := 1) d rfl wV_X6 (by decide) rfl (by decide) w h.a0 rfl (fun r hr => by cases hr) kk
theorem p6_1 {μ : sd_M} {kc ks pc a idx : Nat} {ls st : List Value} {X : Nat × (Nat → Int32)} {I : sd_I} {J : sd_J} {Q : Option Int32 → sd_S → Prop} {v : Int32} (d : decode μ.2.1 pc = .ok (.putfield idx, 3)) (w : Cond.fieldLink μ.1.cls idx "ThankingGifts$Past" "next" "I" ∈ sd_gd) (h : is6 a) (kk : AW μ kc ks (pc + 3) ls st (sk0, X, sd_u I a 1 v, J) Q) : AW μ kc ks pc ls (.int v :: .ref a :: st) (sk0, X, I, J) Q :=
  AW.put (ci := 6) (k := 1) (ty := .int) d rfl wV_X6 tyX6 tyX6_ok nmX6 (by decide) rfl (by decide) w rfl (by decide +kernel) rfl rfl rfl h.a0 kk
theorem g6_2 {μ : sd_M} {kc ks pc a idx : Nat} {ls st : List Value} {X : Nat × (Nat → Int32)} {I : sd_I} {J : sd_J} {Q : Option Int32 → sd_S → Prop} (d : decode μ.2.1 pc = .ok (.getfield idx, 3)) (w : Cond.fieldLink μ.1.cls idx "ThankingGifts$Past" "known" "I" ∈ sd_gd) (h : is6 a) (kk : AW μ kc ks (pc + 3) ls (.int (I a 2) :: st) (sk0, X, I, J) Q) : AW μ kc ks pc ls (.ref a :: st) (sk0, X, I, J) Q :=
  AW.get (ci := 6) (k := 2) d rfl wV_X6 (by decide) rfl (by decide) w h.a0 rfl (fun r hr => by cases hr) kk
theorem p6_2 {μ : sd_M} {kc ks pc a idx : Nat} {ls st : List Value} {X : Nat × (Nat → Int32)} {I : sd_I} {J : sd_J} {Q : Option Int32 → sd_S → Prop} {v : Int32} (d : decode μ.2.1 pc = .ok (.putfield idx, 3)) (w : Cond.fieldLink μ.1.cls idx "ThankingGifts$Past" "known" "I" ∈ sd_gd) (h : is6 a) (kk : AW μ kc ks (pc + 3) ls st (sk0, X, sd_u I a 2 v, J) Q) : AW μ kc ks pc ls (.int v :: .ref a :: st) (sk0, X, I, J) Q :=
  AW.put (ci := 6) (k := 2) (ty := .int) d rfl wV_X6 tyX6 tyX6_ok nmX6 (by decide) rfl (by decide) w rfl (by decide +kernel) rfl rfl rfl h.a0 kk
theorem g8_0 {μ : sd_M} {kc ks pc a idx : Nat} {ls st : List Value} {X : Nat × (Nat → Int32)} {I : sd_I} {J : sd_J} {Q : Option Int32 → sd_S → Prop} (d : decode μ.2.1 pc = .ok (.getfield idx, 3)) (w : Cond.fieldLink μ.1.cls idx "ThankingGifts$Reader" "tape" "[C" ∈ sd_gd) (h : is8 a) (kk : AW μ kc ks (pc + 3) ls (.ref 156 :: st) (sk0, X, I, J) Q) : AW μ kc ks pc ls (.ref a :: st) (sk0, X, I, J) Q :=
  AW.get (ci := 8) (k := 0) d rfl wV_X8 (by decide) rfl (by decide) w h.a0 rfl (fun r hr => by have := h.lt; injection hr with hr; omega) kk
theorem g8_1 {μ : sd_M} {kc ks pc a idx : Nat} {ls st : List Value} {X : Nat × (Nat → Int32)} {I : sd_I} {J : sd_J} {Q : Option Int32 → sd_S → Prop} (d : decode μ.2.1 pc = .ok (.getfield idx, 3)) (w : Cond.fieldLink μ.1.cls idx "ThankingGifts$Reader" "length" "I" ∈ sd_gd) (h : is8 a) (kk : AW μ kc ks (pc + 3) ls (.int (I a 1) :: st) (sk0, X, I, J) Q) : AW μ kc ks pc ls (.ref a :: st) (sk0, X, I, J) Q :=
  AW.get (ci := 8) (k := 1) d rfl wV_X8 (by decide) rfl (by decide) w h.a0 rfl (fun r hr => by cases hr) kk
theorem p8_1 {μ : sd_M} {kc ks pc a idx : Nat} {ls st : List Value} {X : Nat × (Nat → Int32)} {I : sd_I} {J : sd_J} {Q : Option Int32 → sd_S → Prop} {v : Int32} (d : decode μ.2.1 pc = .ok (.putfield idx, 3)) (w : Cond.fieldLink μ.1.cls idx "ThankingGifts$Reader" "length" "I" ∈ sd_gd) (h : is8 a) (kk : AW μ kc ks (pc + 3) ls st (sk0, X, sd_u I a 1 v, J) Q) : AW μ kc ks pc ls (.int v :: .ref a :: st) (sk0, X, I, J) Q :=
  AW.put (ci := 8) (k := 1) (ty := .int) d rfl wV_X8 tyX8 tyX8_ok nmX8 (by decide) rfl (by decide) w rfl (by decide +kernel) rfl rfl rfl h.a0 kk
theorem g8_2 {μ : sd_M} {kc ks pc a idx : Nat} {ls st : List Value} {X : Nat × (Nat → Int32)} {I : sd_I} {J : sd_J} {Q : Option Int32 → sd_S → Prop} (d : decode μ.2.1 pc = .ok (.getfield idx, 3)) (w : Cond.fieldLink μ.1.cls idx "ThankingGifts$Reader" "place" "I" ∈ sd_gd) (h : is8 a) (kk : AW μ kc ks (pc + 3) ls (.int (I a 2) :: st) (sk0, X, I, J) Q) : AW μ kc ks pc ls (.ref a :: st) (sk0, X, I, J) Q :=
  AW.get (ci := 8) (k := 2) d rfl wV_X8 (by decide) rfl (by decide) w h.a0 rfl (fun r hr => by cases hr) kk
theorem p8_2 {μ : sd_M} {kc ks pc a idx : Nat} {ls st : List Value} {X : Nat × (Nat → Int32)} {I : sd_I} {J : sd_J} {Q : Option Int32 → sd_S → Prop} {v : Int32} (d : decode μ.2.1 pc = .ok (.putfield idx, 3)) (w : Cond.fieldLink μ.1.cls idx "ThankingGifts$Reader" "place" "I" ∈ sd_gd) (h : is8 a) (kk : AW μ kc ks (pc + 3) ls st (sk0, X, sd_u I a 2 v, J) Q) : AW μ kc ks pc ls (.int v :: .ref a :: st) (sk0, X, I, J) Q :=
  AW.put (ci := 8) (k := 2) (ty := .int) d rfl wV_X8 tyX8 tyX8_ok nmX8 (by decide) rfl (by decide) w rfl (by decide +kernel) rfl rfl rfl h.a0 kk
theorem g9_0 {μ : sd_M} {kc ks pc a idx : Nat} {ls st : List Value} {X : Nat × (Nat → Int32)} {I : sd_I} {J : sd_J} {Q : Option Int32 → sd_S → Prop} (d : decode μ.2.1 pc = .ok (.getfield idx, 3)) (w : Cond.fieldLink μ.1.cls idx "ThankingGifts$Sheet" "items" "[J" ∈ sd_gd) (h : is9 a) (kk : AW μ kc ks (pc + 3) ls (.ref (a + 1) :: st) (sk0, X, I, J) Q) : AW μ kc ks pc ls (.ref a :: st) (sk0, X, I, J) Q :=
  AW.get (ci := 9) (k := 0) d rfl wV_X9 (by decide) rfl (by decide) w h.a0 rfl (fun r hr => by have := h.lt; injection hr with hr; omega) kk
theorem g9_1 {μ : sd_M} {kc ks pc a idx : Nat} {ls st : List Value} {X : Nat × (Nat → Int32)} {I : sd_I} {J : sd_J} {Q : Option Int32 → sd_S → Prop} (d : decode μ.2.1 pc = .ok (.getfield idx, 3)) (w : Cond.fieldLink μ.1.cls idx "ThankingGifts$Sheet" "present" "Z" ∈ sd_gd) (h : is9 a) (kk : AW μ kc ks (pc + 3) ls (.int (I a 1) :: st) (sk0, X, I, J) Q) : AW μ kc ks pc ls (.ref a :: st) (sk0, X, I, J) Q :=
  AW.get (ci := 9) (k := 1) d rfl wV_X9 (by decide) rfl (by decide) w h.a0 rfl (fun r hr => by cases hr) kk
theorem p9_1 {μ : sd_M} {kc ks pc a idx : Nat} {ls st : List Value} {X : Nat × (Nat → Int32)} {I : sd_I} {J : sd_J} {Q : Option Int32 → sd_S → Prop} {v : Int32} (d : decode μ.2.1 pc = .ok (.putfield idx, 3)) (w : Cond.fieldLink μ.1.cls idx "ThankingGifts$Sheet" "present" "Z" ∈ sd_gd) (h : is9 a) (hb : narrow .boolean (.int v) = .int v) (hf : fits .boolean (.int v) = true) (kk : AW μ kc ks (pc + 3) ls st (sk0, X, sd_u I a 1 v, J) Q) : AW μ kc ks pc ls (.int v :: .ref a :: st) (sk0, X, I, J) Q :=
  AW.put (ci := 9) (k := 1) (ty := .boolean) d rfl wV_X9 tyX9 tyX9_ok nmX9 (by decide) rfl (by decide) w rfl (by decide +kernel) hb hf rfl h.a0 kk
theorem g9_2 {μ : sd_M} {kc ks pc a idx : Nat} {ls st : List Value} {X : Nat × (Nat → Int32)} {I : sd_I} {J : sd_J} {Q : Option Int32 → sd_S → Prop} (d : decode μ.2.1 pc = .ok (.getfield idx, 3)) (w : Cond.fieldLink μ.1.cls idx "ThankingGifts$Sheet" "lane" "I" ∈ sd_gd) (h : is9 a) (kk : AW μ kc ks (pc + 3) ls (.int (I a 2) :: st) (sk0, X, I, J) Q) : AW μ kc ks pc ls (.ref a :: st) (sk0, X, I, J) Q :=
  AW.get (ci := 9) (k := 2) d rfl wV_X9 (by decide) rfl (by decide) w h.a0 rfl (fun r hr => by cases hr) kk
theorem p9_2 {μ : sd_M} {kc ks pc a idx : Nat} {ls st : List Value} {X : Nat × (Nat → Int32)} {I : sd_I} {J : sd_J} {Q : Option Int32 → sd_S → Prop} {v : Int32} (d : decode μ.2.1 pc = .ok (.putfield idx, 3)) (w : Cond.fieldLink μ.1.cls idx "ThankingGifts$Sheet" "lane" "I" ∈ sd_gd) (h : is9 a) (kk : AW μ kc ks (pc + 3) ls st (sk0, X, sd_u I a 2 v, J) Q) : AW μ kc ks pc ls (.int v :: .ref a :: st) (sk0, X, I, J) Q :=
  AW.put (ci := 9) (k := 2) (ty := .int) d rfl wV_X9 tyX9 tyX9_ok nmX9 (by decide) rfl (by decide) w rfl (by decide +kernel) rfl rfl rfl h.a0 kk
theorem g9_3 {μ : sd_M} {kc ks pc a idx : Nat} {ls st : List Value} {X : Nat × (Nat → Int32)} {I : sd_I} {J : sd_J} {Q : Option Int32 → sd_S → Prop} (d : decode μ.2.1 pc = .ok (.getfield idx, 3)) (w : Cond.fieldLink μ.1.cls idx "ThankingGifts$Sheet" "length" "I" ∈ sd_gd) (h : is9 a) (kk : AW μ kc ks (pc + 3) ls (.int (I a 3) :: st) (sk0, X, I, J) Q) : AW μ kc ks pc ls (.ref a :: st) (sk0, X, I, J) Q :=
  AW.get (ci := 9) (k := 3) d rfl wV_X9 (by decide) rfl (by decide) w h.a0 rfl (fun r hr => by cases hr) kk
theorem p9_3 {μ : sd_M} {kc ks pc a idx : Nat} {ls st : List Value} {X : Nat × (Nat → Int32)} {I : sd_I} {J : sd_J} {Q : Option Int32 → sd_S → Prop} {v : Int32} (d : decode μ.2.1 pc = .ok (.putfield idx, 3)) (w : Cond.fieldLink μ.1.cls idx "ThankingGifts$Sheet" "length" "I" ∈ sd_gd) (h : is9 a) (kk : AW μ kc ks (pc + 3) ls st (sk0, X, sd_u I a 3 v, J) Q) : AW μ kc ks pc ls (.int v :: .ref a :: st) (sk0, X, I, J) Q :=
  AW.put (ci := 9) (k := 3) (ty := .int) d rfl wV_X9 tyX9 tyX9_ok nmX9 (by decide) rfl (by decide) w rfl (by decide +kernel) rfl rfl rfl h.a0 kk
theorem g11_0 {μ : sd_M} {kc ks pc a idx : Nat} {ls st : List Value} {X : Nat × (Nat → Int32)} {I : sd_I} {J : sd_J} {Q : Option Int32 → sd_S → Prop} (d : decode μ.2.1 pc = .ok (.getfield idx, 3)) (w : Cond.fieldLink μ.1.cls idx "ThankingGifts" "house" "LThankingGifts$House;" ∈ sd_gd) (h : is11 a) (kk : AW μ kc ks (pc + 3) ls (.ref 1 :: st) (sk0, X, I, J) Q) : AW μ kc ks pc ls (.ref a :: st) (sk0, X, I, J) Q :=
  AW.get (ci := 11) (k := 0) d rfl wV_X11 (by decide) rfl (by decide) w h.a0 rfl (fun r hr => by have := h.lt; injection hr with hr; omega) kk
theorem g11_1 {μ : sd_M} {kc ks pc a idx : Nat} {ls st : List Value} {X : Nat × (Nat → Int32)} {I : sd_I} {J : sd_J} {Q : Option Int32 → sd_S → Prop} (d : decode μ.2.1 pc = .ok (.getfield idx, 3)) (w : Cond.fieldLink μ.1.cls idx "ThankingGifts" "past" "LThankingGifts$Past;" ∈ sd_gd) (h : is11 a) (kk : AW μ kc ks (pc + 3) ls (.ref 19 :: st) (sk0, X, I, J) Q) : AW μ kc ks pc ls (.ref a :: st) (sk0, X, I, J) Q :=
  AW.get (ci := 11) (k := 1) d rfl wV_X11 (by decide) rfl (by decide) w h.a0 rfl (fun r hr => by have := h.lt; injection hr with hr; omega) kk
theorem g11_2 {μ : sd_M} {kc ks pc a idx : Nat} {ls st : List Value} {X : Nat × (Nat → Int32)} {I : sd_I} {J : sd_J} {Q : Option Int32 → sd_S → Prop} (d : decode μ.2.1 pc = .ok (.getfield idx, 3)) (w : Cond.fieldLink μ.1.cls idx "ThankingGifts" "imagedHouse" "LThankingGifts$House;" ∈ sd_gd) (h : is11 a) (kk : AW μ kc ks (pc + 3) ls (.ref 69 :: st) (sk0, X, I, J) Q) : AW μ kc ks pc ls (.ref a :: st) (sk0, X, I, J) Q :=
  AW.get (ci := 11) (k := 2) d rfl wV_X11 (by decide) rfl (by decide) w h.a0 rfl (fun r hr => by have := h.lt; injection hr with hr; omega) kk
theorem g11_3 {μ : sd_M} {kc ks pc a idx : Nat} {ls st : List Value} {X : Nat × (Nat → Int32)} {I : sd_I} {J : sd_J} {Q : Option Int32 → sd_S → Prop} (d : decode μ.2.1 pc = .ok (.getfield idx, 3)) (w : Cond.fieldLink μ.1.cls idx "ThankingGifts" "imagedPast" "LThankingGifts$Past;" ∈ sd_gd) (h : is11 a) (kk : AW μ kc ks (pc + 3) ls (.ref 87 :: st) (sk0, X, I, J) Q) : AW μ kc ks pc ls (.ref a :: st) (sk0, X, I, J) Q :=
  AW.get (ci := 11) (k := 3) d rfl wV_X11 (by decide) rfl (by decide) w h.a0 rfl (fun r hr => by have := h.lt; injection hr with hr; omega) kk
theorem g11_4 {μ : sd_M} {kc ks pc a idx : Nat} {ls st : List Value} {X : Nat × (Nat → Int32)} {I : sd_I} {J : sd_J} {Q : Option Int32 → sd_S → Prop} (d : decode μ.2.1 pc = .ok (.getfield idx, 3)) (w : Cond.fieldLink μ.1.cls idx "ThankingGifts" "imaged" "Z" ∈ sd_gd) (h : is11 a) (kk : AW μ kc ks (pc + 3) ls (.int (I a 4) :: st) (sk0, X, I, J) Q) : AW μ kc ks pc ls (.ref a :: st) (sk0, X, I, J) Q :=
  AW.get (ci := 11) (k := 4) d rfl wV_X11 (by decide) rfl (by decide) w h.a0 rfl (fun r hr => by cases hr) kk
theorem p11_4 {μ : sd_M} {kc ks pc a idx : Nat} {ls st : List Value} {X : Nat × (Nat → Int32)} {I : sd_I} {J : sd_J} {Q : Option Int32 → sd_S → Prop} {v : Int32} (d : decode μ.2.1 pc = .ok (.putfield idx, 3)) (w : Cond.fieldLink μ.1.cls idx "ThankingGifts" "imaged" "Z" ∈ sd_gd) (h : is11 a) (hb : narrow .boolean (.int v) = .int v) (hf : fits .boolean (.int v) = true) (kk : AW μ kc ks (pc + 3) ls st (sk0, X, sd_u I a 4 v, J) Q) : AW μ kc ks pc ls (.int v :: .ref a :: st) (sk0, X, I, J) Q :=
  AW.put (ci := 11) (k := 4) (ty := .boolean) d rfl wV_X11 tyX11 tyX11_ok nmX11 (by decide) rfl (by decide) w rfl (by decide +kernel) hb hf rfl h.a0 kk
theorem g11_5 {μ : sd_M} {kc ks pc a idx : Nat} {ls st : List Value} {X : Nat × (Nat → Int32)} {I : sd_I} {J : sd_J} {Q : Option Int32 → sd_S → Prop} (d : decode μ.2.1 pc = .ok (.getfield idx, 3)) (w : Cond.fieldLink μ.1.cls idx "ThankingGifts" "draft" "LThankingGifts$House;" ∈ sd_gd) (h : is11 a) (kk : AW μ kc ks (pc + 3) ls (.ref 137 :: st) (sk0, X, I, J) Q) : AW μ kc ks pc ls (.ref a :: st) (sk0, X, I, J) Q :=
  AW.get (ci := 11) (k := 5) d rfl wV_X11 (by decide) rfl (by decide) w h.a0 rfl (fun r hr => by have := h.lt; injection hr with hr; omega) kk
theorem g11_6 {μ : sd_M} {kc ks pc a idx : Nat} {ls st : List Value} {X : Nat × (Nat → Int32)} {I : sd_I} {J : sd_J} {Q : Option Int32 → sd_S → Prop} (d : decode μ.2.1 pc = .ok (.getfield idx, 3)) (w : Cond.fieldLink μ.1.cls idx "ThankingGifts" "reader" "LThankingGifts$Reader;" ∈ sd_gd) (h : is11 a) (kk : AW μ kc ks (pc + 3) ls (.ref 155 :: st) (sk0, X, I, J) Q) : AW μ kc ks pc ls (.ref a :: st) (sk0, X, I, J) Q :=
  AW.get (ci := 11) (k := 6) d rfl wV_X11 (by decide) rfl (by decide) w h.a0 rfl (fun r hr => by have := h.lt; injection hr with hr; omega) kk
theorem g11_7 {μ : sd_M} {kc ks pc a idx : Nat} {ls st : List Value} {X : Nat × (Nat → Int32)} {I : sd_I} {J : sd_J} {Q : Option Int32 → sd_S → Prop} (d : decode μ.2.1 pc = .ok (.getfield idx, 3)) (w : Cond.fieldLink μ.1.cls idx "ThankingGifts" "outlook" "LThankingGifts$Outlook;" ∈ sd_gd) (h : is11 a) (kk : AW μ kc ks (pc + 3) ls (.ref 157 :: st) (sk0, X, I, J) Q) : AW μ kc ks pc ls (.ref a :: st) (sk0, X, I, J) Q :=
  AW.get (ci := 11) (k := 7) d rfl wV_X11 (by decide) rfl (by decide) w h.a0 rfl (fun r hr => by have := h.lt; injection hr with hr; omega) kk
theorem g11_8 {μ : sd_M} {kc ks pc a idx : Nat} {ls st : List Value} {X : Nat × (Nat → Int32)} {I : sd_I} {J : sd_J} {Q : Option Int32 → sd_S → Prop} (d : decode μ.2.1 pc = .ok (.getfield idx, 3)) (w : Cond.fieldLink μ.1.cls idx "ThankingGifts" "sheets" "[LThankingGifts$Sheet;" ∈ sd_gd) (h : is11 a) (kk : AW μ kc ks (pc + 3) ls (.ref 161 :: st) (sk0, X, I, J) Q) : AW μ kc ks pc ls (.ref a :: st) (sk0, X, I, J) Q :=
  AW.get (ci := 11) (k := 8) d rfl wV_X11 (by decide) rfl (by decide) w h.a0 rfl (fun r hr => by have := h.lt; injection hr with hr; omega) kk
theorem g12_0 {μ : sd_M} {kc ks pc a idx : Nat} {ls st : List Value} {X : Nat × (Nat → Int32)} {I : sd_I} {J : sd_J} {Q : Option Int32 → sd_S → Prop} (d : decode μ.2.1 pc = .ok (.getfield idx, 3)) (w : Cond.fieldLink μ.1.cls idx "ThankingGiftsModel" "lane" "[I" ∈ sd_gd) (h : is12 a) (kk : AW μ kc ks (pc + 3) ls (.ref 171 :: st) (sk0, X, I, J) Q) : AW μ kc ks pc ls (.ref a :: st) (sk0, X, I, J) Q :=
  AW.get (ci := 12) (k := 0) d rfl wV_X12 (by decide) rfl (by decide) w h.a0 rfl (fun r hr => by have := h.lt; injection hr with hr; omega) kk
theorem g12_1 {μ : sd_M} {kc ks pc a idx : Nat} {ls st : List Value} {X : Nat × (Nat → Int32)} {I : sd_I} {J : sd_J} {Q : Option Int32 → sd_S → Prop} (d : decode μ.2.1 pc = .ok (.getfield idx, 3)) (w : Cond.fieldLink μ.1.cls idx "ThankingGiftsModel" "size" "[I" ∈ sd_gd) (h : is12 a) (kk : AW μ kc ks (pc + 3) ls (.ref 172 :: st) (sk0, X, I, J) Q) : AW μ kc ks pc ls (.ref a :: st) (sk0, X, I, J) Q :=
  AW.get (ci := 12) (k := 1) d rfl wV_X12 (by decide) rfl (by decide) w h.a0 rfl (fun r hr => by have := h.lt; injection hr with hr; omega) kk
theorem g12_2 {μ : sd_M} {kc ks pc a idx : Nat} {ls st : List Value} {X : Nat × (Nat → Int32)} {I : sd_I} {J : sd_J} {Q : Option Int32 → sd_S → Prop} (d : decode μ.2.1 pc = .ok (.getfield idx, 3)) (w : Cond.fieldLink μ.1.cls idx "ThankingGiftsModel" "item" "[J" ∈ sd_gd) (h : is12 a) (kk : AW μ kc ks (pc + 3) ls (.ref 173 :: st) (sk0, X, I, J) Q) : AW μ kc ks pc ls (.ref a :: st) (sk0, X, I, J) Q :=
  AW.get (ci := 12) (k := 2) d rfl wV_X12 (by decide) rfl (by decide) w h.a0 rfl (fun r hr => by have := h.lt; injection hr with hr; omega) kk
theorem g12_3 {μ : sd_M} {kc ks pc a idx : Nat} {ls st : List Value} {X : Nat × (Nat → Int32)} {I : sd_I} {J : sd_J} {Q : Option Int32 → sd_S → Prop} (d : decode μ.2.1 pc = .ok (.getfield idx, 3)) (w : Cond.fieldLink μ.1.cls idx "ThankingGiftsModel" "letters" "I" ∈ sd_gd) (h : is12 a) (kk : AW μ kc ks (pc + 3) ls (.int (I a 3) :: st) (sk0, X, I, J) Q) : AW μ kc ks pc ls (.ref a :: st) (sk0, X, I, J) Q :=
  AW.get (ci := 12) (k := 3) d rfl wV_X12 (by decide) rfl (by decide) w h.a0 rfl (fun r hr => by cases hr) kk
theorem p12_3 {μ : sd_M} {kc ks pc a idx : Nat} {ls st : List Value} {X : Nat × (Nat → Int32)} {I : sd_I} {J : sd_J} {Q : Option Int32 → sd_S → Prop} {v : Int32} (d : decode μ.2.1 pc = .ok (.putfield idx, 3)) (w : Cond.fieldLink μ.1.cls idx "ThankingGiftsModel" "letters" "I" ∈ sd_gd) (h : is12 a) (kk : AW μ kc ks (pc + 3) ls st (sk0, X, sd_u I a 3 v, J) Q) : AW μ kc ks pc ls (.int v :: .ref a :: st) (sk0, X, I, J) Q :=
  AW.put (ci := 12) (k := 3) (ty := .int) d rfl wV_X12 tyX12 tyX12_ok nmX12 (by decide) rfl (by decide) w rfl (by decide +kernel) rfl rfl rfl h.a0 kk
theorem g12_4 {μ : sd_M} {kc ks pc a idx : Nat} {ls st : List Value} {X : Nat × (Nat → Int32)} {I : sd_I} {J : sd_J} {Q : Option Int32 → sd_S → Prop} (d : decode μ.2.1 pc = .ok (.getfield idx, 3)) (w : Cond.fieldLink μ.1.cls idx "ThankingGiftsModel" "tape" "[I" ∈ sd_gd) (h : is12 a) (kk : AW μ kc ks (pc + 3) ls (.ref 174 :: st) (sk0, X, I, J) Q) : AW μ kc ks pc ls (.ref a :: st) (sk0, X, I, J) Q :=
  AW.get (ci := 12) (k := 4) d rfl wV_X12 (by decide) rfl (by decide) w h.a0 rfl (fun r hr => by have := h.lt; injection hr with hr; omega) kk
theorem g12_5 {μ : sd_M} {kc ks pc a idx : Nat} {ls st : List Value} {X : Nat × (Nat → Int32)} {I : sd_I} {J : sd_J} {Q : Option Int32 → sd_S → Prop} (d : decode μ.2.1 pc = .ok (.getfield idx, 3)) (w : Cond.fieldLink μ.1.cls idx "ThankingGiftsModel" "position" "I" ∈ sd_gd) (h : is12 a) (kk : AW μ kc ks (pc + 3) ls (.int (I a 5) :: st) (sk0, X, I, J) Q) : AW μ kc ks pc ls (.ref a :: st) (sk0, X, I, J) Q :=
  AW.get (ci := 12) (k := 5) d rfl wV_X12 (by decide) rfl (by decide) w h.a0 rfl (fun r hr => by cases hr) kk
theorem p12_5 {μ : sd_M} {kc ks pc a idx : Nat} {ls st : List Value} {X : Nat × (Nat → Int32)} {I : sd_I} {J : sd_J} {Q : Option Int32 → sd_S → Prop} {v : Int32} (d : decode μ.2.1 pc = .ok (.putfield idx, 3)) (w : Cond.fieldLink μ.1.cls idx "ThankingGiftsModel" "position" "I" ∈ sd_gd) (h : is12 a) (kk : AW μ kc ks (pc + 3) ls st (sk0, X, sd_u I a 5 v, J) Q) : AW μ kc ks pc ls (.int v :: .ref a :: st) (sk0, X, I, J) Q :=
  AW.put (ci := 12) (k := 5) (ty := .int) d rfl wV_X12 tyX12 tyX12_ok nmX12 (by decide) rfl (by decide) w rfl (by decide +kernel) rfl rfl rfl h.a0 kk
theorem g12_6 {μ : sd_M} {kc ks pc a idx : Nat} {ls st : List Value} {X : Nat × (Nat → Int32)} {I : sd_I} {J : sd_J} {Q : Option Int32 → sd_S → Prop} (d : decode μ.2.1 pc = .ok (.getfield idx, 3)) (w : Cond.fieldLink μ.1.cls idx "ThankingGiftsModel" "number" "I" ∈ sd_gd) (h : is12 a) (kk : AW μ kc ks (pc + 3) ls (.int (I a 6) :: st) (sk0, X, I, J) Q) : AW μ kc ks pc ls (.ref a :: st) (sk0, X, I, J) Q :=
  AW.get (ci := 12) (k := 6) d rfl wV_X12 (by decide) rfl (by decide) w h.a0 rfl (fun r hr => by cases hr) kk
theorem p12_6 {μ : sd_M} {kc ks pc a idx : Nat} {ls st : List Value} {X : Nat × (Nat → Int32)} {I : sd_I} {J : sd_J} {Q : Option Int32 → sd_S → Prop} {v : Int32} (d : decode μ.2.1 pc = .ok (.putfield idx, 3)) (w : Cond.fieldLink μ.1.cls idx "ThankingGiftsModel" "number" "I" ∈ sd_gd) (h : is12 a) (kk : AW μ kc ks (pc + 3) ls st (sk0, X, sd_u I a 6 v, J) Q) : AW μ kc ks pc ls (.int v :: .ref a :: st) (sk0, X, I, J) Q :=
  AW.put (ci := 12) (k := 6) (ty := .int) d rfl wV_X12 tyX12 tyX12_ok nmX12 (by decide) rfl (by decide) w rfl (by decide +kernel) rfl rfl rfl h.a0 kk
theorem g12_7 {μ : sd_M} {kc ks pc a idx : Nat} {ls st : List Value} {X : Nat × (Nat → Int32)} {I : sd_I} {J : sd_J} {Q : Option Int32 → sd_S → Prop} (d : decode μ.2.1 pc = .ok (.getfield idx, 3)) (w : Cond.fieldLink μ.1.cls idx "ThankingGiftsModel" "now" "[I" ∈ sd_gd) (h : is12 a) (kk : AW μ kc ks (pc + 3) ls (.ref 175 :: st) (sk0, X, I, J) Q) : AW μ kc ks pc ls (.ref a :: st) (sk0, X, I, J) Q :=
  AW.get (ci := 12) (k := 7) d rfl wV_X12 (by decide) rfl (by decide) w h.a0 rfl (fun r hr => by have := h.lt; injection hr with hr; omega) kk
theorem g12_8 {μ : sd_M} {kc ks pc a idx : Nat} {ls st : List Value} {X : Nat × (Nat → Int32)} {I : sd_I} {J : sd_J} {Q : Option Int32 → sd_S → Prop} (d : decode μ.2.1 pc = .ok (.getfield idx, 3)) (w : Cond.fieldLink μ.1.cls idx "ThankingGiftsModel" "tried" "[I" ∈ sd_gd) (h : is12 a) (kk : AW μ kc ks (pc + 3) ls (.ref 176 :: st) (sk0, X, I, J) Q) : AW μ kc ks pc ls (.ref a :: st) (sk0, X, I, J) Q :=
  AW.get (ci := 12) (k := 8) d rfl wV_X12 (by decide) rfl (by decide) w h.a0 rfl (fun r hr => by have := h.lt; injection hr with hr; omega) kk
theorem g12_9 {μ : sd_M} {kc ks pc a idx : Nat} {ls st : List Value} {X : Nat × (Nat → Int32)} {I : sd_I} {J : sd_J} {Q : Option Int32 → sd_S → Prop} (d : decode μ.2.1 pc = .ok (.getfield idx, 3)) (w : Cond.fieldLink μ.1.cls idx "ThankingGiftsModel" "read" "[I" ∈ sd_gd) (h : is12 a) (kk : AW μ kc ks (pc + 3) ls (.ref 177 :: st) (sk0, X, I, J) Q) : AW μ kc ks pc ls (.ref a :: st) (sk0, X, I, J) Q :=
  AW.get (ci := 12) (k := 9) d rfl wV_X12 (by decide) rfl (by decide) w h.a0 rfl (fun r hr => by have := h.lt; injection hr with hr; omega) kk
theorem g12_10 {μ : sd_M} {kc ks pc a idx : Nat} {ls st : List Value} {X : Nat × (Nat → Int32)} {I : sd_I} {J : sd_J} {Q : Option Int32 → sd_S → Prop} (d : decode μ.2.1 pc = .ok (.getfield idx, 3)) (w : Cond.fieldLink μ.1.cls idx "ThankingGiftsModel" "kept" "[I" ∈ sd_gd) (h : is12 a) (kk : AW μ kc ks (pc + 3) ls (.ref 178 :: st) (sk0, X, I, J) Q) : AW μ kc ks pc ls (.ref a :: st) (sk0, X, I, J) Q :=
  AW.get (ci := 12) (k := 10) d rfl wV_X12 (by decide) rfl (by decide) w h.a0 rfl (fun r hr => by have := h.lt; injection hr with hr; omega) kk
theorem g12_11 {μ : sd_M} {kc ks pc a idx : Nat} {ls st : List Value} {X : Nat × (Nat → Int32)} {I : sd_I} {J : sd_J} {Q : Option Int32 → sd_S → Prop} (d : decode μ.2.1 pc = .ok (.getfield idx, 3)) (w : Cond.fieldLink μ.1.cls idx "ThankingGiftsModel" "isKept" "Z" ∈ sd_gd) (h : is12 a) (kk : AW μ kc ks (pc + 3) ls (.int (I a 11) :: st) (sk0, X, I, J) Q) : AW μ kc ks pc ls (.ref a :: st) (sk0, X, I, J) Q :=
  AW.get (ci := 12) (k := 11) d rfl wV_X12 (by decide) rfl (by decide) w h.a0 rfl (fun r hr => by cases hr) kk
theorem p12_11 {μ : sd_M} {kc ks pc a idx : Nat} {ls st : List Value} {X : Nat × (Nat → Int32)} {I : sd_I} {J : sd_J} {Q : Option Int32 → sd_S → Prop} {v : Int32} (d : decode μ.2.1 pc = .ok (.putfield idx, 3)) (w : Cond.fieldLink μ.1.cls idx "ThankingGiftsModel" "isKept" "Z" ∈ sd_gd) (h : is12 a) (hb : narrow .boolean (.int v) = .int v) (hf : fits .boolean (.int v) = true) (kk : AW μ kc ks (pc + 3) ls st (sk0, X, sd_u I a 11 v, J) Q) : AW μ kc ks pc ls (.int v :: .ref a :: st) (sk0, X, I, J) Q :=
  AW.put (ci := 12) (k := 11) (ty := .boolean) d rfl wV_X12 tyX12 tyX12_ok nmX12 (by decide) rfl (by decide) w rfl (by decide +kernel) hb hf rfl h.a0 kk
end
section
theorem dX0_init_0 : decode cX0_init 0 = .ok (.aload_n 0, 1) := by decide +kernel
theorem dX0_init_1 : decode cX0_init 1 = .ok (.invokespecial 1, 3) := by decide +kernel
theorem dX0_init_4 : decode cX0_init 4 = .ok (.return_, 1) := by decide +kernel
theorem dX0_leftBehind_0 : decode cX0_leftBehind 0 = .ok (.iload_n 1, 1) := by decide +kernel
theorem dX0_leftBehind_1 : decode cX0_leftBehind 1 = .ok (.iconst 2, 1) := by decide +kernel
theorem dX0_leftBehind_2 : decode cX0_leftBehind 2 = .ok (.idiv, 1) := by decide +kernel
theorem dX0_leftBehind_3 : decode cX0_leftBehind 3 = .ok (.ireturn, 1) := by decide +kernel
theorem dX1_init_0 : decode cX1_init 0 = .ok (.aload_n 0, 1) := by decide +kernel
theorem dX1_init_1 : decode cX1_init 1 = .ok (.invokespecial 1, 3) := by decide +kernel
theorem dX1_init_4 : decode cX1_init 4 = .ok (.return_, 1) := by decide +kernel
theorem dX1_loudness_0 : decode cX1_loudness 0 = .ok (.iconst 2, 1) := by decide +kernel
theorem dX1_loudness_1 : decode cX1_loudness 1 = .ok (.iload_n 1, 1) := by decide +kernel
theorem dX1_loudness_2 : decode cX1_loudness 2 = .ok (.imul, 1) := by decide +kernel
theorem dX1_loudness_3 : decode cX1_loudness 3 = .ok (.ireturn, 1) := by decide +kernel
theorem dX1_leftBehind_0 : decode cX1_leftBehind 0 = .ok (.iload_n 1, 1) := by decide +kernel
theorem dX1_leftBehind_1 : decode cX1_leftBehind 1 = .ok (.iconst 1, 1) := by decide +kernel
theorem dX1_leftBehind_2 : decode cX1_leftBehind 2 = .ok (.isub, 1) := by decide +kernel
theorem dX1_leftBehind_3 : decode cX1_leftBehind 3 = .ok (.iconst 0, 1) := by decide +kernel
theorem dX1_leftBehind_4 : decode cX1_leftBehind 4 = .ok (.invokestatic 7, 3) := by decide +kernel
theorem dX1_leftBehind_7 : decode cX1_leftBehind 7 = .ok (.ireturn, 1) := by decide +kernel
theorem dX2_init_0 : decode cX2_init 0 = .ok (.aload_n 0, 1) := by decide +kernel
theorem dX2_init_1 : decode cX2_init 1 = .ok (.invokespecial 3, 3) := by decide +kernel
theorem dX2_init_4 : decode cX2_init 4 = .ok (.aload_n 0, 1) := by decide +kernel
theorem dX2_init_5 : decode cX2_init 5 = .ok (.iconst 5, 1) := by decide +kernel
theorem dX2_init_6 : decode cX2_init 6 = .ok (.anewarray 9, 3) := by decide +kernel
theorem dX2_init_9 : decode cX2_init 9 = .ok (.dup, 1) := by decide +kernel
theorem dX2_init_10 : decode cX2_init 10 = .ok (.iconst 0, 1) := by decide +kernel
theorem dX2_init_11 : decode cX2_init 11 = .ok (.new 9, 3) := by decide +kernel
theorem dX2_init_14 : decode cX2_init 14 = .ok (.dup, 1) := by decide +kernel
theorem dX2_init_15 : decode cX2_init 15 = .ok (.invokespecial 11, 3) := by decide +kernel
theorem dX2_init_18 : decode cX2_init 18 = .ok (.aastore, 1) := by decide +kernel
theorem dX2_init_19 : decode cX2_init 19 = .ok (.dup, 1) := by decide +kernel
theorem dX2_init_20 : decode cX2_init 20 = .ok (.iconst 1, 1) := by decide +kernel
theorem dX2_init_21 : decode cX2_init 21 = .ok (.new 12, 3) := by decide +kernel
theorem dX2_init_24 : decode cX2_init 24 = .ok (.dup, 1) := by decide +kernel
theorem dX2_init_25 : decode cX2_init 25 = .ok (.invokespecial 14, 3) := by decide +kernel
theorem dX2_init_28 : decode cX2_init 28 = .ok (.aastore, 1) := by decide +kernel
theorem dX2_init_29 : decode cX2_init 29 = .ok (.dup, 1) := by decide +kernel
theorem dX2_init_30 : decode cX2_init 30 = .ok (.iconst 2, 1) := by decide +kernel
theorem dX2_init_31 : decode cX2_init 31 = .ok (.new 15, 3) := by decide +kernel
theorem dX2_init_34 : decode cX2_init 34 = .ok (.dup, 1) := by decide +kernel
theorem dX2_init_35 : decode cX2_init 35 = .ok (.invokespecial 17, 3) := by decide +kernel
theorem dX2_init_38 : decode cX2_init 38 = .ok (.aastore, 1) := by decide +kernel
theorem dX2_init_39 : decode cX2_init 39 = .ok (.dup, 1) := by decide +kernel
theorem dX2_init_40 : decode cX2_init 40 = .ok (.iconst 3, 1) := by decide +kernel
theorem dX2_init_41 : decode cX2_init 41 = .ok (.new 18, 3) := by decide +kernel
theorem dX2_init_44 : decode cX2_init 44 = .ok (.dup, 1) := by decide +kernel
theorem dX2_init_45 : decode cX2_init 45 = .ok (.invokespecial 20, 3) := by decide +kernel
theorem dX2_init_48 : decode cX2_init 48 = .ok (.aastore, 1) := by decide +kernel
theorem dX2_init_49 : decode cX2_init 49 = .ok (.dup, 1) := by decide +kernel
theorem dX2_init_50 : decode cX2_init 50 = .ok (.iconst 4, 1) := by decide +kernel
theorem dX2_init_51 : decode cX2_init 51 = .ok (.new 21, 3) := by decide +kernel
theorem dX2_init_54 : decode cX2_init 54 = .ok (.dup, 1) := by decide +kernel
theorem dX2_init_55 : decode cX2_init 55 = .ok (.invokespecial 23, 3) := by decide +kernel
theorem dX2_init_58 : decode cX2_init 58 = .ok (.aastore, 1) := by decide +kernel
theorem dX2_init_59 : decode cX2_init 59 = .ok (.putfield 24, 3) := by decide +kernel
theorem dX2_init_62 : decode cX2_init 62 = .ok (.aload_n 0, 1) := by decide +kernel
theorem dX2_init_63 : decode cX2_init 63 = .ok (.iconst 5, 1) := by decide +kernel
theorem dX2_init_64 : decode cX2_init 64 = .ok (.newarray .int, 2) := by decide +kernel
theorem dX2_init_66 : decode cX2_init 66 = .ok (.putfield 30, 3) := by decide +kernel
theorem dX2_init_69 : decode cX2_init 69 = .ok (.aload_n 0, 1) := by decide +kernel
theorem dX2_init_70 : decode cX2_init 70 = .ok (.iconst 5, 1) := by decide +kernel
theorem dX2_init_71 : decode cX2_init 71 = .ok (.newarray .int, 2) := by decide +kernel
theorem dX2_init_73 : decode cX2_init 73 = .ok (.putfield 34, 3) := by decide +kernel
theorem dX2_init_76 : decode cX2_init 76 = .ok (.aload_n 0, 1) := by decide +kernel
theorem dX2_init_77 : decode cX2_init 77 = .ok (.bipush 8, 2) := by decide +kernel
theorem dX2_init_79 : decode cX2_init 79 = .ok (.newarray .int, 2) := by decide +kernel
theorem dX2_init_81 : decode cX2_init 81 = .ok (.putfield 37, 3) := by decide +kernel
theorem dX2_init_84 : decode cX2_init 84 = .ok (.aload_n 0, 1) := by decide +kernel
theorem dX2_init_85 : decode cX2_init 85 = .ok (.bipush 8, 2) := by decide +kernel
theorem dX2_init_87 : decode cX2_init 87 = .ok (.newarray .int, 2) := by decide +kernel
theorem dX2_init_89 : decode cX2_init 89 = .ok (.putfield 40, 3) := by decide +kernel
theorem dX2_init_92 : decode cX2_init 92 = .ok (.aload_n 0, 1) := by decide +kernel
theorem dX2_init_93 : decode cX2_init 93 = .ok (.iconst 4, 1) := by decide +kernel
theorem dX2_init_94 : decode cX2_init 94 = .ok (.newarray .int, 2) := by decide +kernel
theorem dX2_init_96 : decode cX2_init 96 = .ok (.putfield 43, 3) := by decide +kernel
theorem dX2_init_99 : decode cX2_init 99 = .ok (.aload_n 0, 1) := by decide +kernel
theorem dX2_init_100 : decode cX2_init 100 = .ok (.new 46, 3) := by decide +kernel
theorem dX2_init_103 : decode cX2_init 103 = .ok (.dup, 1) := by decide +kernel
theorem dX2_init_104 : decode cX2_init 104 = .ok (.invokespecial 48, 3) := by decide +kernel
theorem dX2_init_107 : decode cX2_init 107 = .ok (.putfield 49, 3) := by decide +kernel
theorem dX2_init_110 : decode cX2_init 110 = .ok (.return_, 1) := by decide +kernel
theorem dX2_takeAll_0 : decode cX2_takeAll 0 = .ok (.aload_n 1, 1) := by decide +kernel
theorem dX2_takeAll_1 : decode cX2_takeAll 1 = .ok (.getfield 30, 3) := by decide +kernel
theorem dX2_takeAll_4 : decode cX2_takeAll 4 = .ok (.iconst 0, 1) := by decide +kernel
theorem dX2_takeAll_5 : decode cX2_takeAll 5 = .ok (.aload_n 0, 1) := by decide +kernel
theorem dX2_takeAll_6 : decode cX2_takeAll 6 = .ok (.getfield 30, 3) := by decide +kernel
theorem dX2_takeAll_9 : decode cX2_takeAll 9 = .ok (.iconst 0, 1) := by decide +kernel
theorem dX2_takeAll_10 : decode cX2_takeAll 10 = .ok (.iconst 5, 1) := by decide +kernel
theorem dX2_takeAll_11 : decode cX2_takeAll 11 = .ok (.invokestatic 53, 3) := by decide +kernel
theorem dX2_takeAll_14 : decode cX2_takeAll 14 = .ok (.aload_n 1, 1) := by decide +kernel
theorem dX2_takeAll_15 : decode cX2_takeAll 15 = .ok (.getfield 34, 3) := by decide +kernel
theorem dX2_takeAll_18 : decode cX2_takeAll 18 = .ok (.iconst 0, 1) := by decide +kernel
theorem dX2_takeAll_19 : decode cX2_takeAll 19 = .ok (.aload_n 0, 1) := by decide +kernel
theorem dX2_takeAll_20 : decode cX2_takeAll 20 = .ok (.getfield 34, 3) := by decide +kernel
theorem dX2_takeAll_23 : decode cX2_takeAll 23 = .ok (.iconst 0, 1) := by decide +kernel
theorem dX2_takeAll_24 : decode cX2_takeAll 24 = .ok (.iconst 5, 1) := by decide +kernel
theorem dX2_takeAll_25 : decode cX2_takeAll 25 = .ok (.invokestatic 53, 3) := by decide +kernel
theorem dX2_takeAll_28 : decode cX2_takeAll 28 = .ok (.aload_n 1, 1) := by decide +kernel
theorem dX2_takeAll_29 : decode cX2_takeAll 29 = .ok (.getfield 37, 3) := by decide +kernel
theorem dX2_takeAll_32 : decode cX2_takeAll 32 = .ok (.iconst 0, 1) := by decide +kernel
theorem dX2_takeAll_33 : decode cX2_takeAll 33 = .ok (.aload_n 0, 1) := by decide +kernel
theorem dX2_takeAll_34 : decode cX2_takeAll 34 = .ok (.getfield 37, 3) := by decide +kernel
theorem dX2_takeAll_37 : decode cX2_takeAll 37 = .ok (.iconst 0, 1) := by decide +kernel
theorem dX2_takeAll_38 : decode cX2_takeAll 38 = .ok (.bipush 8, 2) := by decide +kernel
theorem dX2_takeAll_40 : decode cX2_takeAll 40 = .ok (.invokestatic 53, 3) := by decide +kernel
theorem dX2_takeAll_43 : decode cX2_takeAll 43 = .ok (.aload_n 1, 1) := by decide +kernel
theorem dX2_takeAll_44 : decode cX2_takeAll 44 = .ok (.getfield 40, 3) := by decide +kernel
theorem dX2_takeAll_47 : decode cX2_takeAll 47 = .ok (.iconst 0, 1) := by decide +kernel
theorem dX2_takeAll_48 : decode cX2_takeAll 48 = .ok (.aload_n 0, 1) := by decide +kernel
theorem dX2_takeAll_49 : decode cX2_takeAll 49 = .ok (.getfield 40, 3) := by decide +kernel
theorem dX2_takeAll_52 : decode cX2_takeAll 52 = .ok (.iconst 0, 1) := by decide +kernel
theorem dX2_takeAll_53 : decode cX2_takeAll 53 = .ok (.bipush 8, 2) := by decide +kernel
theorem dX2_takeAll_55 : decode cX2_takeAll 55 = .ok (.invokestatic 53, 3) := by decide +kernel
theorem dX2_takeAll_58 : decode cX2_takeAll 58 = .ok (.aload_n 0, 1) := by decide +kernel
theorem dX2_takeAll_59 : decode cX2_takeAll 59 = .ok (.getfield 49, 3) := by decide +kernel
theorem dX2_takeAll_62 : decode cX2_takeAll 62 = .ok (.aload_n 1, 1) := by decide +kernel
theorem dX2_takeAll_63 : decode cX2_takeAll 63 = .ok (.getfield 49, 3) := by decide +kernel
theorem dX2_takeAll_66 : decode cX2_takeAll 66 = .ok (.invokevirtual 59, 3) := by decide +kernel
theorem dX2_takeAll_69 : decode cX2_takeAll 69 = .ok (.aload_n 0, 1) := by decide +kernel
theorem dX2_takeAll_70 : decode cX2_takeAll 70 = .ok (.aload_n 1, 1) := by decide +kernel
theorem dX2_takeAll_71 : decode cX2_takeAll 71 = .ok (.getfield 63, 3) := by decide +kernel
theorem dX2_takeAll_74 : decode cX2_takeAll 74 = .ok (.putfield 63, 3) := by decide +kernel
theorem dX2_takeAll_77 : decode cX2_takeAll 77 = .ok (.aload_n 0, 1) := by decide +kernel
theorem dX2_takeAll_78 : decode cX2_takeAll 78 = .ok (.aload_n 1, 1) := by decide +kernel
theorem dX2_takeAll_79 : decode cX2_takeAll 79 = .ok (.getfield 67, 3) := by decide +kernel
theorem dX2_takeAll_82 : decode cX2_takeAll 82 = .ok (.putfield 67, 3) := by decide +kernel
theorem dX2_takeAll_85 : decode cX2_takeAll 85 = .ok (.return_, 1) := by decide +kernel
theorem dX2_clear_0 : decode cX2_clear 0 = .ok (.aload_n 0, 1) := by decide +kernel
theorem dX2_clear_1 : decode cX2_clear 1 = .ok (.iconst 0, 1) := by decide +kernel
theorem dX2_clear_2 : decode cX2_clear 2 = .ok (.putfield 63, 3) := by decide +kernel
theorem dX2_clear_5 : decode cX2_clear 5 = .ok (.aload_n 0, 1) := by decide +kernel
theorem dX2_clear_6 : decode cX2_clear 6 = .ok (.iconst 0, 1) := by decide +kernel
theorem dX2_clear_7 : decode cX2_clear 7 = .ok (.putfield 67, 3) := by decide +kernel
theorem dX2_clear_10 : decode cX2_clear 10 = .ok (.aload_n 0, 1) := by decide +kernel
theorem dX2_clear_11 : decode cX2_clear 11 = .ok (.getfield 49, 3) := by decide +kernel
theorem dX2_clear_14 : decode cX2_clear 14 = .ok (.iconst 0, 1) := by decide +kernel
theorem dX2_clear_15 : decode cX2_clear 15 = .ok (.putfield 70, 3) := by decide +kernel
theorem dX2_clear_18 : decode cX2_clear 18 = .ok (.aload_n 0, 1) := by decide +kernel
theorem dX2_clear_19 : decode cX2_clear 19 = .ok (.getfield 49, 3) := by decide +kernel
theorem dX2_clear_22 : decode cX2_clear 22 = .ok (.iload_n 1, 1) := by decide +kernel
theorem dX2_clear_23 : decode cX2_clear 23 = .ok (.putfield 73, 3) := by decide +kernel
theorem dX2_clear_26 : decode cX2_clear 26 = .ok (.return_, 1) := by decide +kernel
theorem dX2_addSleeper_0 : decode cX2_addSleeper 0 = .ok (.aload_n 0, 1) := by decide +kernel
theorem dX2_addSleeper_1 : decode cX2_addSleeper 1 = .ok (.getfield 63, 3) := by decide +kernel
theorem dX2_addSleeper_4 : decode cX2_addSleeper 4 = .ok (.iconst 5, 1) := by decide +kernel
theorem dX2_addSleeper_5 : decode cX2_addSleeper 5 = .ok (.if_icmp .lt 4, 3) := by decide +kernel
theorem dX2_addSleeper_8 : decode cX2_addSleeper 8 = .ok (.return_, 1) := by decide +kernel
theorem dX2_addSleeper_9 : decode cX2_addSleeper 9 = .ok (.aload_n 0, 1) := by decide +kernel
theorem dX2_addSleeper_10 : decode cX2_addSleeper 10 = .ok (.getfield 30, 3) := by decide +kernel
theorem dX2_addSleeper_13 : decode cX2_addSleeper 13 = .ok (.aload_n 0, 1) := by decide +kernel
theorem dX2_addSleeper_14 : decode cX2_addSleeper 14 = .ok (.getfield 63, 3) := by decide +kernel
theorem dX2_addSleeper_17 : decode cX2_addSleeper 17 = .ok (.iload_n 1, 1) := by decide +kernel
theorem dX2_addSleeper_18 : decode cX2_addSleeper 18 = .ok (.iastore, 1) := by decide +kernel
theorem dX2_addSleeper_19 : decode cX2_addSleeper 19 = .ok (.aload_n 0, 1) := by decide +kernel
theorem dX2_addSleeper_20 : decode cX2_addSleeper 20 = .ok (.getfield 34, 3) := by decide +kernel
theorem dX2_addSleeper_23 : decode cX2_addSleeper 23 = .ok (.aload_n 0, 1) := by decide +kernel
theorem dX2_addSleeper_24 : decode cX2_addSleeper 24 = .ok (.getfield 63, 3) := by decide +kernel
theorem dX2_addSleeper_27 : decode cX2_addSleeper 27 = .ok (.iload_n 2, 1) := by decide +kernel
theorem dX2_addSleeper_28 : decode cX2_addSleeper 28 = .ok (.iastore, 1) := by decide +kernel
theorem dX2_addSleeper_29 : decode cX2_addSleeper 29 = .ok (.aload_n 0, 1) := by decide +kernel
theorem dX2_addSleeper_30 : decode cX2_addSleeper 30 = .ok (.getfield 49, 3) := by decide +kernel
theorem dX2_addSleeper_33 : decode cX2_addSleeper 33 = .ok (.getfield 76, 3) := by decide +kernel
theorem dX2_addSleeper_36 : decode cX2_addSleeper 36 = .ok (.aload_n 0, 1) := by decide +kernel
theorem dX2_addSleeper_37 : decode cX2_addSleeper 37 = .ok (.getfield 63, 3) := by decide +kernel
theorem dX2_addSleeper_40 : decode cX2_addSleeper 40 = .ok (.iconst 0, 1) := by decide +kernel
theorem dX2_addSleeper_41 : decode cX2_addSleeper 41 = .ok (.iastore, 1) := by decide +kernel
theorem dX2_addSleeper_42 : decode cX2_addSleeper 42 = .ok (.aload_n 0, 1) := by decide +kernel
theorem dX2_addSleeper_43 : decode cX2_addSleeper 43 = .ok (.getfield 49, 3) := by decide +kernel
theorem dX2_addSleeper_46 : decode cX2_addSleeper 46 = .ok (.getfield 79, 3) := by decide +kernel
theorem dX2_addSleeper_49 : decode cX2_addSleeper 49 = .ok (.aload_n 0, 1) := by decide +kernel
theorem dX2_addSleeper_50 : decode cX2_addSleeper 50 = .ok (.getfield 63, 3) := by decide +kernel
theorem dX2_addSleeper_53 : decode cX2_addSleeper 53 = .ok (.iconst 0, 1) := by decide +kernel
theorem dX2_addSleeper_54 : decode cX2_addSleeper 54 = .ok (.iastore, 1) := by decide +kernel
theorem dX2_addSleeper_55 : decode cX2_addSleeper 55 = .ok (.aload_n 0, 1) := by decide +kernel
theorem dX2_addSleeper_56 : decode cX2_addSleeper 56 = .ok (.dup, 1) := by decide +kernel
theorem dX2_addSleeper_57 : decode cX2_addSleeper 57 = .ok (.getfield 63, 3) := by decide +kernel
theorem dX2_addSleeper_60 : decode cX2_addSleeper 60 = .ok (.iconst 1, 1) := by decide +kernel
theorem dX2_addSleeper_61 : decode cX2_addSleeper 61 = .ok (.iadd, 1) := by decide +kernel
theorem dX2_addSleeper_62 : decode cX2_addSleeper 62 = .ok (.putfield 63, 3) := by decide +kernel
theorem dX2_addSleeper_65 : decode cX2_addSleeper 65 = .ok (.return_, 1) := by decide +kernel
theorem dX2_addThing_0 : decode cX2_addThing 0 = .ok (.aload_n 0, 1) := by decide +kernel
theorem dX2_addThing_1 : decode cX2_addThing 1 = .ok (.getfield 67, 3) := by decide +kernel
theorem dX2_addThing_4 : decode cX2_addThing 4 = .ok (.bipush 8, 2) := by decide +kernel
theorem dX2_addThing_6 : decode cX2_addThing 6 = .ok (.if_icmp .lt 4, 3) := by decide +kernel
theorem dX2_addThing_9 : decode cX2_addThing 9 = .ok (.return_, 1) := by decide +kernel
theorem dX2_addThing_10 : decode cX2_addThing 10 = .ok (.aload_n 0, 1) := by decide +kernel
theorem dX2_addThing_11 : decode cX2_addThing 11 = .ok (.getfield 37, 3) := by decide +kernel
theorem dX2_addThing_14 : decode cX2_addThing 14 = .ok (.aload_n 0, 1) := by decide +kernel
theorem dX2_addThing_15 : decode cX2_addThing 15 = .ok (.getfield 67, 3) := by decide +kernel
theorem dX2_addThing_18 : decode cX2_addThing 18 = .ok (.iload_n 1, 1) := by decide +kernel
theorem dX2_addThing_19 : decode cX2_addThing 19 = .ok (.iastore, 1) := by decide +kernel
theorem dX2_addThing_20 : decode cX2_addThing 20 = .ok (.aload_n 0, 1) := by decide +kernel
theorem dX2_addThing_21 : decode cX2_addThing 21 = .ok (.getfield 40, 3) := by decide +kernel
theorem dX2_addThing_24 : decode cX2_addThing 24 = .ok (.aload_n 0, 1) := by decide +kernel
theorem dX2_addThing_25 : decode cX2_addThing 25 = .ok (.getfield 67, 3) := by decide +kernel
theorem dX2_addThing_28 : decode cX2_addThing 28 = .ok (.iload_n 3, 1) := by decide +kernel
theorem dX2_addThing_29 : decode cX2_addThing 29 = .ok (.iastore, 1) := by decide +kernel
theorem dX2_addThing_30 : decode cX2_addThing 30 = .ok (.aload_n 0, 1) := by decide +kernel
theorem dX2_addThing_31 : decode cX2_addThing 31 = .ok (.getfield 49, 3) := by decide +kernel
theorem dX2_addThing_34 : decode cX2_addThing 34 = .ok (.getfield 82, 3) := by decide +kernel
theorem dX2_addThing_37 : decode cX2_addThing 37 = .ok (.aload_n 0, 1) := by decide +kernel
theorem dX2_addThing_38 : decode cX2_addThing 38 = .ok (.getfield 67, 3) := by decide +kernel
theorem dX2_addThing_41 : decode cX2_addThing 41 = .ok (.iload_n 2, 1) := by decide +kernel
theorem dX2_addThing_42 : decode cX2_addThing 42 = .ok (.iastore, 1) := by decide +kernel
theorem dX2_addThing_43 : decode cX2_addThing 43 = .ok (.aload_n 0, 1) := by decide +kernel
theorem dX2_addThing_44 : decode cX2_addThing 44 = .ok (.getfield 49, 3) := by decide +kernel
theorem dX2_addThing_47 : decode cX2_addThing 47 = .ok (.getfield 85, 3) := by decide +kernel
theorem dX2_addThing_50 : decode cX2_addThing 50 = .ok (.aload_n 0, 1) := by decide +kernel
theorem dX2_addThing_51 : decode cX2_addThing 51 = .ok (.getfield 67, 3) := by decide +kernel
theorem dX2_addThing_54 : decode cX2_addThing 54 = .ok (.iload 4, 2) := by decide +kernel
theorem dX2_addThing_56 : decode cX2_addThing 56 = .ok (.iastore, 1) := by decide +kernel
theorem dX2_addThing_57 : decode cX2_addThing 57 = .ok (.aload_n 0, 1) := by decide +kernel
theorem dX2_addThing_58 : decode cX2_addThing 58 = .ok (.getfield 49, 3) := by decide +kernel
theorem dX2_addThing_61 : decode cX2_addThing 61 = .ok (.getfield 88, 3) := by decide +kernel
theorem dX2_addThing_64 : decode cX2_addThing 64 = .ok (.aload_n 0, 1) := by decide +kernel
theorem dX2_addThing_65 : decode cX2_addThing 65 = .ok (.getfield 67, 3) := by decide +kernel
theorem dX2_addThing_68 : decode cX2_addThing 68 = .ok (.iload_n 3, 1) := by decide +kernel
theorem dX2_addThing_69 : decode cX2_addThing 69 = .ok (.invokestatic 91, 3) := by decide +kernel
theorem dX2_addThing_72 : decode cX2_addThing 72 = .ok (.iastore, 1) := by decide +kernel
theorem dX2_addThing_73 : decode cX2_addThing 73 = .ok (.aload_n 0, 1) := by decide +kernel
theorem dX2_addThing_74 : decode cX2_addThing 74 = .ok (.dup, 1) := by decide +kernel
theorem dX2_addThing_75 : decode cX2_addThing 75 = .ok (.getfield 67, 3) := by decide +kernel
theorem dX2_addThing_78 : decode cX2_addThing 78 = .ok (.iconst 1, 1) := by decide +kernel
theorem dX2_addThing_79 : decode cX2_addThing 79 = .ok (.iadd, 1) := by decide +kernel
theorem dX2_addThing_80 : decode cX2_addThing 80 = .ok (.putfield 67, 3) := by decide +kernel
theorem dX2_addThing_83 : decode cX2_addThing 83 = .ok (.return_, 1) := by decide +kernel
theorem dX2_hasSleeper_0 : decode cX2_hasSleeper 0 = .ok (.iload_n 1, 1) := by decide +kernel
theorem dX2_hasSleeper_1 : decode cX2_hasSleeper 1 = .ok (.iconst 0, 1) := by decide +kernel
theorem dX2_hasSleeper_2 : decode cX2_hasSleeper 2 = .ok (.aload_n 0, 1) := by decide +kernel
theorem dX2_hasSleeper_3 : decode cX2_hasSleeper 3 = .ok (.getfield 63, 3) := by decide +kernel
theorem dX2_hasSleeper_6 : decode cX2_hasSleeper 6 = .ok (.iconst 1, 1) := by decide +kernel
theorem dX2_hasSleeper_7 : decode cX2_hasSleeper 7 = .ok (.isub, 1) := by decide +kernel
theorem dX2_hasSleeper_8 : decode cX2_hasSleeper 8 = .ok (.invokestatic 95, 3) := by decide +kernel
theorem dX2_hasSleeper_11 : decode cX2_hasSleeper 11 = .ok (.ireturn, 1) := by decide +kernel
theorem dX2_hasThing_0 : decode cX2_hasThing 0 = .ok (.iload_n 1, 1) := by decide +kernel
theorem dX2_hasThing_1 : decode cX2_hasThing 1 = .ok (.iconst 0, 1) := by decide +kernel
theorem dX2_hasThing_2 : decode cX2_hasThing 2 = .ok (.aload_n 0, 1) := by decide +kernel
theorem dX2_hasThing_3 : decode cX2_hasThing 3 = .ok (.getfield 67, 3) := by decide +kernel
theorem dX2_hasThing_6 : decode cX2_hasThing 6 = .ok (.iconst 1, 1) := by decide +kernel
theorem dX2_hasThing_7 : decode cX2_hasThing 7 = .ok (.isub, 1) := by decide +kernel
theorem dX2_hasThing_8 : decode cX2_hasThing 8 = .ok (.invokestatic 95, 3) := by decide +kernel
theorem dX2_hasThing_11 : decode cX2_hasThing 11 = .ok (.ireturn, 1) := by decide +kernel
theorem dX2_leftBehind_0 : decode cX2_leftBehind 0 = .ok (.aload_n 0, 1) := by decide +kernel
theorem dX2_leftBehind_1 : decode cX2_leftBehind 1 = .ok (.getfield 24, 3) := by decide +kernel
theorem dX2_leftBehind_4 : decode cX2_leftBehind 4 = .ok (.iload_n 1, 1) := by decide +kernel
theorem dX2_leftBehind_5 : decode cX2_leftBehind 5 = .ok (.aaload, 1) := by decide +kernel
theorem dX2_leftBehind_6 : decode cX2_leftBehind 6 = .ok (.iload_n 3, 1) := by decide +kernel
theorem dX2_leftBehind_7 : decode cX2_leftBehind 7 = .ok (.iload_n 2, 1) := by decide +kernel
theorem dX2_leftBehind_8 : decode cX2_leftBehind 8 = .ok (.aload_n 0, 1) := by decide +kernel
theorem dX2_leftBehind_9 : decode cX2_leftBehind 9 = .ok (.getfield 49, 3) := by decide +kernel
theorem dX2_leftBehind_12 : decode cX2_leftBehind 12 = .ok (.getfield 70, 3) := by decide +kernel
theorem dX2_leftBehind_15 : decode cX2_leftBehind 15 = .ok (.iload 4, 2) := by decide +kernel
theorem dX2_leftBehind_17 : decode cX2_leftBehind 17 = .ok (.iadd, 1) := by decide +kernel
theorem dX2_leftBehind_18 : decode cX2_leftBehind 18 = .ok (.invokevirtual 99, 3) := by decide +kernel
theorem dX2_leftBehind_21 : decode cX2_leftBehind 21 = .ok (.ireturn, 1) := by decide +kernel
theorem dX2_loudWith_0 : decode cX2_loudWith 0 = .ok (.iload_n 2, 1) := by decide +kernel
theorem dX2_loudWith_1 : decode cX2_loudWith 1 = .ok (.ifCond .ne 7, 3) := by decide +kernel
theorem dX2_loudWith_4 : decode cX2_loudWith 4 = .ok (.iconst 0, 1) := by decide +kernel
theorem dX2_loudWith_5 : decode cX2_loudWith 5 = .ok (.goto 32, 3) := by decide +kernel
theorem dX2_loudWith_8 : decode cX2_loudWith 8 = .ok (.aload_n 0, 1) := by decide +kernel
theorem dX2_loudWith_9 : decode cX2_loudWith 9 = .ok (.getfield 24, 3) := by decide +kernel
theorem dX2_loudWith_12 : decode cX2_loudWith 12 = .ok (.aload_n 0, 1) := by decide +kernel
theorem dX2_loudWith_13 : decode cX2_loudWith 13 = .ok (.getfield 37, 3) := by decide +kernel
theorem dX2_loudWith_16 : decode cX2_loudWith 16 = .ok (.iload_n 1, 1) := by decide +kernel
theorem dX2_loudWith_17 : decode cX2_loudWith 17 = .ok (.iaload, 1) := by decide +kernel
theorem dX2_loudWith_18 : decode cX2_loudWith 18 = .ok (.aaload, 1) := by decide +kernel
theorem dX2_loudWith_19 : decode cX2_loudWith 19 = .ok (.aload_n 0, 1) := by decide +kernel
theorem dX2_loudWith_20 : decode cX2_loudWith 20 = .ok (.getfield 40, 3) := by decide +kernel
theorem dX2_loudWith_23 : decode cX2_loudWith 23 = .ok (.iload_n 1, 1) := by decide +kernel
theorem dX2_loudWith_24 : decode cX2_loudWith 24 = .ok (.iaload, 1) := by decide +kernel
theorem dX2_loudWith_25 : decode cX2_loudWith 25 = .ok (.aload_n 0, 1) := by decide +kernel
theorem dX2_loudWith_26 : decode cX2_loudWith 26 = .ok (.getfield 49, 3) := by decide +kernel
theorem dX2_loudWith_29 : decode cX2_loudWith 29 = .ok (.getfield 70, 3) := by decide +kernel
theorem dX2_loudWith_32 : decode cX2_loudWith 32 = .ok (.iload_n 3, 1) := by decide +kernel
theorem dX2_loudWith_33 : decode cX2_loudWith 33 = .ok (.iadd, 1) := by decide +kernel
theorem dX2_loudWith_34 : decode cX2_loudWith 34 = .ok (.invokevirtual 103, 3) := by decide +kernel
theorem dX2_loudWith_37 : decode cX2_loudWith 37 = .ok (.ireturn, 1) := by decide +kernel
theorem dX2_loudOfSet_0 : decode cX2_loudOfSet 0 = .ok (.iconst 0, 1) := by decide +kernel
theorem dX2_loudOfSet_1 : decode cX2_loudOfSet 1 = .ok (.istore_n 2, 1) := by decide +kernel
theorem dX2_loudOfSet_2 : decode cX2_loudOfSet 2 = .ok (.iconst 0, 1) := by decide +kernel
theorem dX2_loudOfSet_3 : decode cX2_loudOfSet 3 = .ok (.istore_n 3, 1) := by decide +kernel
theorem dX2_loudOfSet_4 : decode cX2_loudOfSet 4 = .ok (.iload_n 3, 1) := by decide +kernel
theorem dX2_loudOfSet_5 : decode cX2_loudOfSet 5 = .ok (.aload_n 0, 1) := by decide +kernel
theorem dX2_loudOfSet_6 : decode cX2_loudOfSet 6 = .ok (.getfield 67, 3) := by decide +kernel
theorem dX2_loudOfSet_9 : decode cX2_loudOfSet 9 = .ok (.if_icmp .ge 39, 3) := by decide +kernel
theorem dX2_loudOfSet_12 : decode cX2_loudOfSet 12 = .ok (.iload_n 2, 1) := by decide +kernel
theorem dX2_loudOfSet_13 : decode cX2_loudOfSet 13 = .ok (.iload_n 1, 1) := by decide +kernel
theorem dX2_loudOfSet_14 : decode cX2_loudOfSet 14 = .ok (.iload_n 3, 1) := by decide +kernel
theorem dX2_loudOfSet_15 : decode cX2_loudOfSet 15 = .ok (.invokestatic 107, 3) := by decide +kernel
theorem dX2_loudOfSet_18 : decode cX2_loudOfSet 18 = .ok (.ifCond .eq 21, 3) := by decide +kernel
theorem dX2_loudOfSet_21 : decode cX2_loudOfSet 21 = .ok (.aload_n 0, 1) := by decide +kernel
theorem dX2_loudOfSet_22 : decode cX2_loudOfSet 22 = .ok (.iload_n 3, 1) := by decide +kernel
theorem dX2_loudOfSet_23 : decode cX2_loudOfSet 23 = .ok (.aload_n 0, 1) := by decide +kernel
theorem dX2_loudOfSet_24 : decode cX2_loudOfSet 24 = .ok (.getfield 49, 3) := by decide +kernel
theorem dX2_loudOfSet_27 : decode cX2_loudOfSet 27 = .ok (.getfield 88, 3) := by decide +kernel
theorem dX2_loudOfSet_30 : decode cX2_loudOfSet 30 = .ok (.iload_n 3, 1) := by decide +kernel
theorem dX2_loudOfSet_31 : decode cX2_loudOfSet 31 = .ok (.iaload, 1) := by decide +kernel
theorem dX2_loudOfSet_32 : decode cX2_loudOfSet 32 = .ok (.iconst 0, 1) := by decide +kernel
theorem dX2_loudOfSet_33 : decode cX2_loudOfSet 33 = .ok (.invokevirtual 111, 3) := by decide +kernel
theorem dX2_loudOfSet_36 : decode cX2_loudOfSet 36 = .ok (.goto 4, 3) := by decide +kernel
theorem dX2_loudOfSet_39 : decode cX2_loudOfSet 39 = .ok (.iconst 0, 1) := by decide +kernel
theorem dX2_loudOfSet_40 : decode cX2_loudOfSet 40 = .ok (.iadd, 1) := by decide +kernel
theorem dX2_loudOfSet_41 : decode cX2_loudOfSet 41 = .ok (.istore_n 2, 1) := by decide +kernel
theorem dX2_loudOfSet_42 : decode cX2_loudOfSet 42 = .ok (.iinc 3 1, 3) := by decide +kernel
theorem dX2_loudOfSet_45 : decode cX2_loudOfSet 45 = .ok (.goto (-41), 3) := by decide +kernel
theorem dX2_loudOfSet_48 : decode cX2_loudOfSet 48 = .ok (.iload_n 2, 1) := by decide +kernel
theorem dX2_loudOfSet_49 : decode cX2_loudOfSet 49 = .ok (.ireturn, 1) := by decide +kernel
theorem dX2_loudOfAll_0 : decode cX2_loudOfAll 0 = .ok (.aload_n 0, 1) := by decide +kernel
theorem dX2_loudOfAll_1 : decode cX2_loudOfAll 1 = .ok (.iconst 1, 1) := by decide +kernel
theorem dX2_loudOfAll_2 : decode cX2_loudOfAll 2 = .ok (.aload_n 0, 1) := by decide +kernel
theorem dX2_loudOfAll_3 : decode cX2_loudOfAll 3 = .ok (.getfield 67, 3) := by decide +kernel
theorem dX2_loudOfAll_6 : decode cX2_loudOfAll 6 = .ok (.ishl, 1) := by decide +kernel
theorem dX2_loudOfAll_7 : decode cX2_loudOfAll 7 = .ok (.iconst 1, 1) := by decide +kernel
theorem dX2_loudOfAll_8 : decode cX2_loudOfAll 8 = .ok (.isub, 1) := by decide +kernel
theorem dX2_loudOfAll_9 : decode cX2_loudOfAll 9 = .ok (.invokevirtual 114, 3) := by decide +kernel
theorem dX2_loudOfAll_12 : decode cX2_loudOfAll 12 = .ok (.ireturn, 1) := by decide +kernel
theorem dX2_thingsIn_0 : decode cX2_thingsIn 0 = .ok (.iload_n 1, 1) := by decide +kernel
theorem dX2_thingsIn_1 : decode cX2_thingsIn 1 = .ok (.aload_n 0, 1) := by decide +kernel
theorem dX2_thingsIn_2 : decode cX2_thingsIn 2 = .ok (.getfield 49, 3) := by decide +kernel
theorem dX2_thingsIn_5 : decode cX2_thingsIn 5 = .ok (.getfield 85, 3) := by decide +kernel
theorem dX2_thingsIn_8 : decode cX2_thingsIn 8 = .ok (.aload_n 0, 1) := by decide +kernel
theorem dX2_thingsIn_9 : decode cX2_thingsIn 9 = .ok (.getfield 67, 3) := by decide +kernel
theorem dX2_thingsIn_12 : decode cX2_thingsIn 12 = .ok (.invokestatic 117, 3) := by decide +kernel
theorem dX2_thingsIn_15 : decode cX2_thingsIn 15 = .ok (.ireturn, 1) := by decide +kernel
theorem dX2_thingsOf_0 : decode cX2_thingsOf 0 = .ok (.iload_n 1, 1) := by decide +kernel
theorem dX2_thingsOf_1 : decode cX2_thingsOf 1 = .ok (.aload_n 0, 1) := by decide +kernel
theorem dX2_thingsOf_2 : decode cX2_thingsOf 2 = .ok (.getfield 49, 3) := by decide +kernel
theorem dX2_thingsOf_5 : decode cX2_thingsOf 5 = .ok (.getfield 82, 3) := by decide +kernel
theorem dX2_thingsOf_8 : decode cX2_thingsOf 8 = .ok (.aload_n 0, 1) := by decide +kernel
theorem dX2_thingsOf_9 : decode cX2_thingsOf 9 = .ok (.getfield 67, 3) := by decide +kernel
theorem dX2_thingsOf_12 : decode cX2_thingsOf 12 = .ok (.invokestatic 117, 3) := by decide +kernel
theorem dX2_thingsOf_15 : decode cX2_thingsOf 15 = .ok (.ireturn, 1) := by decide +kernel
theorem dX2_silentThings_0 : decode cX2_silentThings 0 = .ok (.iconst 0, 1) := by decide +kernel
theorem dX2_silentThings_1 : decode cX2_silentThings 1 = .ok (.aload_n 0, 1) := by decide +kernel
theorem dX2_silentThings_2 : decode cX2_silentThings 2 = .ok (.getfield 49, 3) := by decide +kernel
theorem dX2_silentThings_5 : decode cX2_silentThings 5 = .ok (.getfield 88, 3) := by decide +kernel
theorem dX2_silentThings_8 : decode cX2_silentThings 8 = .ok (.aload_n 0, 1) := by decide +kernel
theorem dX2_silentThings_9 : decode cX2_silentThings 9 = .ok (.getfield 67, 3) := by decide +kernel
theorem dX2_silentThings_12 : decode cX2_silentThings 12 = .ok (.invokestatic 117, 3) := by decide +kernel
theorem dX2_silentThings_15 : decode cX2_silentThings 15 = .ok (.ireturn, 1) := by decide +kernel
theorem dX2_sleepersIn_0 : decode cX2_sleepersIn 0 = .ok (.iload_n 1, 1) := by decide +kernel
theorem dX2_sleepersIn_1 : decode cX2_sleepersIn 1 = .ok (.aload_n 0, 1) := by decide +kernel
theorem dX2_sleepersIn_2 : decode cX2_sleepersIn 2 = .ok (.getfield 30, 3) := by decide +kernel
theorem dX2_sleepersIn_5 : decode cX2_sleepersIn 5 = .ok (.aload_n 0, 1) := by decide +kernel
theorem dX2_sleepersIn_6 : decode cX2_sleepersIn 6 = .ok (.getfield 63, 3) := by decide +kernel
theorem dX2_sleepersIn_9 : decode cX2_sleepersIn 9 = .ok (.invokestatic 117, 3) := by decide +kernel
theorem dX2_sleepersIn_12 : decode cX2_sleepersIn 12 = .ok (.ireturn, 1) := by decide +kernel
theorem dX2_listen_0 : decode cX2_listen 0 = .ok (.iconst 0, 1) := by decide +kernel
theorem dX2_listen_1 : decode cX2_listen 1 = .ok (.istore_n 1, 1) := by decide +kernel
theorem dX2_listen_2 : decode cX2_listen 2 = .ok (.iload_n 1, 1) := by decide +kernel
theorem dX2_listen_3 : decode cX2_listen 3 = .ok (.iconst 4, 1) := by decide +kernel
theorem dX2_listen_4 : decode cX2_listen 4 = .ok (.if_icmp .ge 16, 3) := by decide +kernel
theorem dX2_listen_7 : decode cX2_listen 7 = .ok (.aload_n 0, 1) := by decide +kernel
theorem dX2_listen_8 : decode cX2_listen 8 = .ok (.getfield 43, 3) := by decide +kernel
theorem dX2_listen_11 : decode cX2_listen 11 = .ok (.iload_n 1, 1) := by decide +kernel
theorem dX2_listen_12 : decode cX2_listen 12 = .ok (.iconst 0, 1) := by decide +kernel
theorem dX2_listen_13 : decode cX2_listen 13 = .ok (.iastore, 1) := by decide +kernel
theorem dX2_listen_14 : decode cX2_listen 14 = .ok (.iinc 1 1, 3) := by decide +kernel
theorem dX2_listen_17 : decode cX2_listen 17 = .ok (.goto (-15), 3) := by decide +kernel
theorem dX2_listen_20 : decode cX2_listen 20 = .ok (.iconst 0, 1) := by decide +kernel
theorem dX2_listen_21 : decode cX2_listen 21 = .ok (.istore_n 1, 1) := by decide +kernel
theorem dX2_listen_22 : decode cX2_listen 22 = .ok (.iload_n 1, 1) := by decide +kernel
theorem dX2_listen_23 : decode cX2_listen 23 = .ok (.aload_n 0, 1) := by decide +kernel
theorem dX2_listen_24 : decode cX2_listen 24 = .ok (.getfield 67, 3) := by decide +kernel
theorem dX2_listen_27 : decode cX2_listen 27 = .ok (.if_icmp .ge 41, 3) := by decide +kernel
theorem dX2_listen_30 : decode cX2_listen 30 = .ok (.aload_n 0, 1) := by decide +kernel
theorem dX2_listen_31 : decode cX2_listen 31 = .ok (.getfield 43, 3) := by decide +kernel
theorem dX2_listen_34 : decode cX2_listen 34 = .ok (.aload_n 0, 1) := by decide +kernel
theorem dX2_listen_35 : decode cX2_listen 35 = .ok (.getfield 49, 3) := by decide +kernel
theorem dX2_listen_38 : decode cX2_listen 38 = .ok (.getfield 85, 3) := by decide +kernel
theorem dX2_listen_41 : decode cX2_listen 41 = .ok (.iload_n 1, 1) := by decide +kernel
theorem dX2_listen_42 : decode cX2_listen 42 = .ok (.iaload, 1) := by decide +kernel
theorem dX2_listen_43 : decode cX2_listen 43 = .ok (.dup2, 1) := by decide +kernel
theorem dX2_listen_44 : decode cX2_listen 44 = .ok (.iaload, 1) := by decide +kernel
theorem dX2_listen_45 : decode cX2_listen 45 = .ok (.aload_n 0, 1) := by decide +kernel
theorem dX2_listen_46 : decode cX2_listen 46 = .ok (.iload_n 1, 1) := by decide +kernel
theorem dX2_listen_47 : decode cX2_listen 47 = .ok (.aload_n 0, 1) := by decide +kernel
theorem dX2_listen_48 : decode cX2_listen 48 = .ok (.getfield 49, 3) := by decide +kernel
theorem dX2_listen_51 : decode cX2_listen 51 = .ok (.getfield 88, 3) := by decide +kernel
theorem dX2_listen_54 : decode cX2_listen 54 = .ok (.iload_n 1, 1) := by decide +kernel
theorem dX2_listen_55 : decode cX2_listen 55 = .ok (.iaload, 1) := by decide +kernel
theorem dX2_listen_56 : decode cX2_listen 56 = .ok (.iconst 0, 1) := by decide +kernel
theorem dX2_listen_57 : decode cX2_listen 57 = .ok (.invokevirtual 111, 3) := by decide +kernel
theorem dX2_listen_60 : decode cX2_listen 60 = .ok (.iadd, 1) := by decide +kernel
theorem dX2_listen_61 : decode cX2_listen 61 = .ok (.iastore, 1) := by decide +kernel
theorem dX2_listen_62 : decode cX2_listen 62 = .ok (.iinc 1 1, 3) := by decide +kernel
theorem dX2_listen_65 : decode cX2_listen 65 = .ok (.goto (-43), 3) := by decide +kernel
theorem dX2_listen_68 : decode cX2_listen 68 = .ok (.return_, 1) := by decide +kernel
theorem dX2_isAsleep_0 : decode cX2_isAsleep 0 = .ok (.aload_n 0, 1) := by decide +kernel
theorem dX2_isAsleep_1 : decode cX2_isAsleep 1 = .ok (.getfield 43, 3) := by decide +kernel
theorem dX2_isAsleep_4 : decode cX2_isAsleep 4 = .ok (.aload_n 0, 1) := by decide +kernel
theorem dX2_isAsleep_5 : decode cX2_isAsleep 5 = .ok (.getfield 30, 3) := by decide +kernel
theorem dX2_isAsleep_8 : decode cX2_isAsleep 8 = .ok (.iload_n 1, 1) := by decide +kernel
theorem dX2_isAsleep_9 : decode cX2_isAsleep 9 = .ok (.iaload, 1) := by decide +kernel
theorem dX2_isAsleep_10 : decode cX2_isAsleep 10 = .ok (.iaload, 1) := by decide +kernel
theorem dX2_isAsleep_11 : decode cX2_isAsleep 11 = .ok (.aload_n 0, 1) := by decide +kernel
theorem dX2_isAsleep_12 : decode cX2_isAsleep 12 = .ok (.getfield 34, 3) := by decide +kernel
theorem dX2_isAsleep_15 : decode cX2_isAsleep 15 = .ok (.iload_n 1, 1) := by decide +kernel
theorem dX2_isAsleep_16 : decode cX2_isAsleep 16 = .ok (.iaload, 1) := by decide +kernel
theorem dX2_isAsleep_17 : decode cX2_isAsleep 17 = .ok (.if_icmp .gt 7, 3) := by decide +kernel
theorem dX2_isAsleep_20 : decode cX2_isAsleep 20 = .ok (.iconst 1, 1) := by decide +kernel
theorem dX2_isAsleep_21 : decode cX2_isAsleep 21 = .ok (.goto 4, 3) := by decide +kernel
theorem dX2_isAsleep_24 : decode cX2_isAsleep 24 = .ok (.iconst 0, 1) := by decide +kernel
theorem dX2_isAsleep_25 : decode cX2_isAsleep 25 = .ok (.ireturn, 1) := by decide +kernel
theorem dX2_spendNight_0 : decode cX2_spendNight 0 = .ok (.iconst 0, 1) := by decide +kernel
theorem dX2_spendNight_1 : decode cX2_spendNight 1 = .ok (.istore_n 1, 1) := by decide +kernel
theorem dX2_spendNight_2 : decode cX2_spendNight 2 = .ok (.aload_n 0, 1) := by decide +kernel
theorem dX2_spendNight_3 : decode cX2_spendNight 3 = .ok (.invokevirtual 121, 3) := by decide +kernel
theorem dX2_spendNight_6 : decode cX2_spendNight 6 = .ok (.iconst 0, 1) := by decide +kernel
theorem dX2_spendNight_7 : decode cX2_spendNight 7 = .ok (.istore_n 2, 1) := by decide +kernel
theorem dX2_spendNight_8 : decode cX2_spendNight 8 = .ok (.iload_n 2, 1) := by decide +kernel
theorem dX2_spendNight_9 : decode cX2_spendNight 9 = .ok (.aload_n 0, 1) := by decide +kernel
theorem dX2_spendNight_10 : decode cX2_spendNight 10 = .ok (.getfield 63, 3) := by decide +kernel
theorem dX2_spendNight_13 : decode cX2_spendNight 13 = .ok (.if_icmp .ge 49, 3) := by decide +kernel
theorem dX2_spendNight_16 : decode cX2_spendNight 16 = .ok (.aload_n 0, 1) := by decide +kernel
theorem dX2_spendNight_17 : decode cX2_spendNight 17 = .ok (.iload_n 2, 1) := by decide +kernel
theorem dX2_spendNight_18 : decode cX2_spendNight 18 = .ok (.invokevirtual 124, 3) := by decide +kernel
theorem dX2_spendNight_21 : decode cX2_spendNight 21 = .ok (.ifCond .eq 19, 3) := by decide +kernel
theorem dX2_spendNight_24 : decode cX2_spendNight 24 = .ok (.aload_n 0, 1) := by decide +kernel
theorem dX2_spendNight_25 : decode cX2_spendNight 25 = .ok (.getfield 49, 3) := by decide +kernel
theorem dX2_spendNight_28 : decode cX2_spendNight 28 = .ok (.getfield 76, 3) := by decide +kernel
theorem dX2_spendNight_31 : decode cX2_spendNight 31 = .ok (.iload_n 2, 1) := by decide +kernel
theorem dX2_spendNight_32 : decode cX2_spendNight 32 = .ok (.dup2, 1) := by decide +kernel
theorem dX2_spendNight_33 : decode cX2_spendNight 33 = .ok (.iaload, 1) := by decide +kernel
theorem dX2_spendNight_34 : decode cX2_spendNight 34 = .ok (.iconst 1, 1) := by decide +kernel
theorem dX2_spendNight_35 : decode cX2_spendNight 35 = .ok (.iadd, 1) := by decide +kernel
theorem dX2_spendNight_36 : decode cX2_spendNight 36 = .ok (.iastore, 1) := by decide +kernel
theorem dX2_spendNight_37 : decode cX2_spendNight 37 = .ok (.goto 19, 3) := by decide +kernel
theorem dX2_spendNight_40 : decode cX2_spendNight 40 = .ok (.aload_n 0, 1) := by decide +kernel
theorem dX2_spendNight_41 : decode cX2_spendNight 41 = .ok (.getfield 49, 3) := by decide +kernel
theorem dX2_spendNight_44 : decode cX2_spendNight 44 = .ok (.getfield 79, 3) := by decide +kernel
theorem dX2_spendNight_47 : decode cX2_spendNight 47 = .ok (.iload_n 2, 1) := by decide +kernel
theorem dX2_spendNight_48 : decode cX2_spendNight 48 = .ok (.dup2, 1) := by decide +kernel
theorem dX2_spendNight_49 : decode cX2_spendNight 49 = .ok (.iaload, 1) := by decide +kernel
theorem dX2_spendNight_50 : decode cX2_spendNight 50 = .ok (.iconst 1, 1) := by decide +kernel
theorem dX2_spendNight_51 : decode cX2_spendNight 51 = .ok (.iadd, 1) := by decide +kernel
theorem dX2_spendNight_52 : decode cX2_spendNight 52 = .ok (.iastore, 1) := by decide +kernel
theorem dX2_spendNight_53 : decode cX2_spendNight 53 = .ok (.iinc 1 1, 3) := by decide +kernel
theorem dX2_spendNight_56 : decode cX2_spendNight 56 = .ok (.iinc 2 1, 3) := by decide +kernel
theorem dX2_spendNight_59 : decode cX2_spendNight 59 = .ok (.goto (-51), 3) := by decide +kernel
theorem dX2_spendNight_62 : decode cX2_spendNight 62 = .ok (.iconst 0, 1) := by decide +kernel
theorem dX2_spendNight_63 : decode cX2_spendNight 63 = .ok (.istore_n 2, 1) := by decide +kernel
theorem dX2_spendNight_64 : decode cX2_spendNight 64 = .ok (.iload_n 2, 1) := by decide +kernel
theorem dX2_spendNight_65 : decode cX2_spendNight 65 = .ok (.aload_n 0, 1) := by decide +kernel
theorem dX2_spendNight_66 : decode cX2_spendNight 66 = .ok (.getfield 67, 3) := by decide +kernel
theorem dX2_spendNight_69 : decode cX2_spendNight 69 = .ok (.if_icmp .ge 44, 3) := by decide +kernel
theorem dX2_spendNight_72 : decode cX2_spendNight 72 = .ok (.aload_n 0, 1) := by decide +kernel
theorem dX2_spendNight_73 : decode cX2_spendNight 73 = .ok (.getfield 49, 3) := by decide +kernel
theorem dX2_spendNight_76 : decode cX2_spendNight 76 = .ok (.getfield 88, 3) := by decide +kernel
theorem dX2_spendNight_79 : decode cX2_spendNight 79 = .ok (.iload_n 2, 1) := by decide +kernel
theorem dX2_spendNight_80 : decode cX2_spendNight 80 = .ok (.aload_n 0, 1) := by decide +kernel
theorem dX2_spendNight_81 : decode cX2_spendNight 81 = .ok (.aload_n 0, 1) := by decide +kernel
theorem dX2_spendNight_82 : decode cX2_spendNight 82 = .ok (.getfield 37, 3) := by decide +kernel
theorem dX2_spendNight_85 : decode cX2_spendNight 85 = .ok (.iload_n 2, 1) := by decide +kernel
theorem dX2_spendNight_86 : decode cX2_spendNight 86 = .ok (.iaload, 1) := by decide +kernel
theorem dX2_spendNight_87 : decode cX2_spendNight 87 = .ok (.aload_n 0, 1) := by decide +kernel
theorem dX2_spendNight_88 : decode cX2_spendNight 88 = .ok (.getfield 40, 3) := by decide +kernel
theorem dX2_spendNight_91 : decode cX2_spendNight 91 = .ok (.iload_n 2, 1) := by decide +kernel
theorem dX2_spendNight_92 : decode cX2_spendNight 92 = .ok (.iaload, 1) := by decide +kernel
theorem dX2_spendNight_93 : decode cX2_spendNight 93 = .ok (.aload_n 0, 1) := by decide +kernel
theorem dX2_spendNight_94 : decode cX2_spendNight 94 = .ok (.getfield 49, 3) := by decide +kernel
theorem dX2_spendNight_97 : decode cX2_spendNight 97 = .ok (.getfield 88, 3) := by decide +kernel
theorem dX2_spendNight_100 : decode cX2_spendNight 100 = .ok (.iload_n 2, 1) := by decide +kernel
theorem dX2_spendNight_101 : decode cX2_spendNight 101 = .ok (.iaload, 1) := by decide +kernel
theorem dX2_spendNight_102 : decode cX2_spendNight 102 = .ok (.iconst 0, 1) := by decide +kernel
theorem dX2_spendNight_103 : decode cX2_spendNight 103 = .ok (.invokevirtual 128, 3) := by decide +kernel
theorem dX2_spendNight_106 : decode cX2_spendNight 106 = .ok (.iastore, 1) := by decide +kernel
theorem dX2_spendNight_107 : decode cX2_spendNight 107 = .ok (.iinc 2 1, 3) := by decide +kernel
theorem dX2_spendNight_110 : decode cX2_spendNight 110 = .ok (.goto (-46), 3) := by decide +kernel
theorem dX2_spendNight_113 : decode cX2_spendNight 113 = .ok (.aload_n 0, 1) := by decide +kernel
theorem dX2_spendNight_114 : decode cX2_spendNight 114 = .ok (.getfield 49, 3) := by decide +kernel
theorem dX2_spendNight_117 : decode cX2_spendNight 117 = .ok (.dup, 1) := by decide +kernel
theorem dX2_spendNight_118 : decode cX2_spendNight 118 = .ok (.getfield 70, 3) := by decide +kernel
theorem dX2_spendNight_121 : decode cX2_spendNight 121 = .ok (.iconst 1, 1) := by decide +kernel
theorem dX2_spendNight_122 : decode cX2_spendNight 122 = .ok (.iadd, 1) := by decide +kernel
theorem dX2_spendNight_123 : decode cX2_spendNight 123 = .ok (.putfield 70, 3) := by decide +kernel
theorem dX2_spendNight_126 : decode cX2_spendNight 126 = .ok (.iload_n 1, 1) := by decide +kernel
theorem dX2_spendNight_127 : decode cX2_spendNight 127 = .ok (.ireturn, 1) := by decide +kernel
theorem dX2_moveByDraw_0 : decode cX2_moveByDraw 0 = .ok (.aload_n 0, 1) := by decide +kernel
theorem dX2_moveByDraw_1 : decode cX2_moveByDraw 1 = .ok (.getfield 49, 3) := by decide +kernel
theorem dX2_moveByDraw_4 : decode cX2_moveByDraw 4 = .ok (.aload_n 0, 1) := by decide +kernel
theorem dX2_moveByDraw_5 : decode cX2_moveByDraw 5 = .ok (.getfield 49, 3) := by decide +kernel
theorem dX2_moveByDraw_8 : decode cX2_moveByDraw 8 = .ok (.getfield 73, 3) := by decide +kernel
theorem dX2_moveByDraw_11 : decode cX2_moveByDraw 11 = .ok (.i2l, 1) := by decide +kernel
theorem dX2_moveByDraw_12 : decode cX2_moveByDraw 12 = .ok (.ldc2_w 131, 3) := by decide +kernel
theorem dX2_moveByDraw_15 : decode cX2_moveByDraw 15 = .ok (.lmul, 1) := by decide +kernel
theorem dX2_moveByDraw_16 : decode cX2_moveByDraw 16 = .ok (.ldc2_w 133, 3) := by decide +kernel
theorem dX2_moveByDraw_19 : decode cX2_moveByDraw 19 = .ok (.ladd, 1) := by decide +kernel
theorem dX2_moveByDraw_20 : decode cX2_moveByDraw 20 = .ok (.ldc2_w 135, 3) := by decide +kernel
theorem dX2_moveByDraw_23 : decode cX2_moveByDraw 23 = .ok (.land, 1) := by decide +kernel
theorem dX2_moveByDraw_24 : decode cX2_moveByDraw 24 = .ok (.l2i, 1) := by decide +kernel
theorem dX2_moveByDraw_25 : decode cX2_moveByDraw 25 = .ok (.putfield 73, 3) := by decide +kernel
theorem dX2_moveByDraw_28 : decode cX2_moveByDraw 28 = .ok (.aload_n 0, 1) := by decide +kernel
theorem dX2_moveByDraw_29 : decode cX2_moveByDraw 29 = .ok (.getfield 49, 3) := by decide +kernel
theorem dX2_moveByDraw_32 : decode cX2_moveByDraw 32 = .ok (.getfield 73, 3) := by decide +kernel
theorem dX2_moveByDraw_35 : decode cX2_moveByDraw 35 = .ok (.ldc 137, 2) := by decide +kernel
theorem dX2_moveByDraw_37 : decode cX2_moveByDraw 37 = .ok (.idiv, 1) := by decide +kernel
theorem dX2_moveByDraw_38 : decode cX2_moveByDraw 38 = .ok (.istore_n 1, 1) := by decide +kernel
theorem dX2_moveByDraw_39 : decode cX2_moveByDraw 39 = .ok (.iload_n 1, 1) := by decide +kernel
theorem dX2_moveByDraw_40 : decode cX2_moveByDraw 40 = .ok (.iconst 3, 1) := by decide +kernel
theorem dX2_moveByDraw_41 : decode cX2_moveByDraw 41 = .ok (.irem, 1) := by decide +kernel
theorem dX2_moveByDraw_42 : decode cX2_moveByDraw 42 = .ok (.ifCond .ne 37, 3) := by decide +kernel
theorem dX2_moveByDraw_45 : decode cX2_moveByDraw 45 = .ok (.aload_n 0, 1) := by decide +kernel
theorem dX2_moveByDraw_46 : decode cX2_moveByDraw 46 = .ok (.getfield 67, 3) := by decide +kernel
theorem dX2_moveByDraw_49 : decode cX2_moveByDraw 49 = .ok (.ifCond .le 30, 3) := by decide +kernel
theorem dX2_moveByDraw_52 : decode cX2_moveByDraw 52 = .ok (.aload_n 0, 1) := by decide +kernel
theorem dX2_moveByDraw_53 : decode cX2_moveByDraw 53 = .ok (.getfield 49, 3) := by decide +kernel
theorem dX2_moveByDraw_56 : decode cX2_moveByDraw 56 = .ok (.getfield 85, 3) := by decide +kernel
theorem dX2_moveByDraw_59 : decode cX2_moveByDraw 59 = .ok (.iload_n 1, 1) := by decide +kernel
theorem dX2_moveByDraw_60 : decode cX2_moveByDraw 60 = .ok (.aload_n 0, 1) := by decide +kernel
theorem dX2_moveByDraw_61 : decode cX2_moveByDraw 61 = .ok (.getfield 67, 3) := by decide +kernel
theorem dX2_moveByDraw_64 : decode cX2_moveByDraw 64 = .ok (.irem, 1) := by decide +kernel
theorem dX2_moveByDraw_65 : decode cX2_moveByDraw 65 = .ok (.aload_n 0, 1) := by decide +kernel
theorem dX2_moveByDraw_66 : decode cX2_moveByDraw 66 = .ok (.getfield 49, 3) := by decide +kernel
theorem dX2_moveByDraw_69 : decode cX2_moveByDraw 69 = .ok (.getfield 73, 3) := by decide +kernel
theorem dX2_moveByDraw_72 : decode cX2_moveByDraw 72 = .ok (.sipush 128, 3) := by decide +kernel
theorem dX2_moveByDraw_75 : decode cX2_moveByDraw 75 = .ok (.idiv, 1) := by decide +kernel
theorem dX2_moveByDraw_76 : decode cX2_moveByDraw 76 = .ok (.iconst 4, 1) := by decide +kernel
theorem dX2_moveByDraw_77 : decode cX2_moveByDraw 77 = .ok (.irem, 1) := by decide +kernel
theorem dX2_moveByDraw_78 : decode cX2_moveByDraw 78 = .ok (.iastore, 1) := by decide +kernel
theorem dX2_moveByDraw_79 : decode cX2_moveByDraw 79 = .ok (.return_, 1) := by decide +kernel
theorem dX2_placesOf_0 : decode cX2_placesOf 0 = .ok (.iconst 0, 1) := by decide +kernel
theorem dX2_placesOf_1 : decode cX2_placesOf 1 = .ok (.istore_n 3, 1) := by decide +kernel
theorem dX2_placesOf_2 : decode cX2_placesOf 2 = .ok (.iconst 0, 1) := by decide +kernel
theorem dX2_placesOf_3 : decode cX2_placesOf 3 = .ok (.istore 4, 2) := by decide +kernel
theorem dX2_placesOf_5 : decode cX2_placesOf 5 = .ok (.iload 4, 2) := by decide +kernel
theorem dX2_placesOf_7 : decode cX2_placesOf 7 = .ok (.iload_n 2, 1) := by decide +kernel
theorem dX2_placesOf_8 : decode cX2_placesOf 8 = .ok (.if_icmp .ge 35, 3) := by decide +kernel
theorem dX2_placesOf_11 : decode cX2_placesOf 11 = .ok (.iload 4, 2) := by decide +kernel
theorem dX2_placesOf_13 : decode cX2_placesOf 13 = .ok (.aload_n 1, 1) := by decide +kernel
theorem dX2_placesOf_14 : decode cX2_placesOf 14 = .ok (.arraylength, 1) := by decide +kernel
theorem dX2_placesOf_15 : decode cX2_placesOf 15 = .ok (.if_icmp .ge 28, 3) := by decide +kernel
theorem dX2_placesOf_18 : decode cX2_placesOf 18 = .ok (.iload_n 3, 1) := by decide +kernel
theorem dX2_placesOf_19 : decode cX2_placesOf 19 = .ok (.aload_n 1, 1) := by decide +kernel
theorem dX2_placesOf_20 : decode cX2_placesOf 20 = .ok (.iload 4, 2) := by decide +kernel
theorem dX2_placesOf_22 : decode cX2_placesOf 22 = .ok (.iaload, 1) := by decide +kernel
theorem dX2_placesOf_23 : decode cX2_placesOf 23 = .ok (.iload_n 0, 1) := by decide +kernel
theorem dX2_placesOf_24 : decode cX2_placesOf 24 = .ok (.if_icmp .ne 10, 3) := by decide +kernel
theorem dX2_placesOf_27 : decode cX2_placesOf 27 = .ok (.iconst 1, 1) := by decide +kernel
theorem dX2_placesOf_28 : decode cX2_placesOf 28 = .ok (.iload 4, 2) := by decide +kernel
theorem dX2_placesOf_30 : decode cX2_placesOf 30 = .ok (.ishl, 1) := by decide +kernel
theorem dX2_placesOf_31 : decode cX2_placesOf 31 = .ok (.goto 4, 3) := by decide +kernel
theorem dX2_placesOf_34 : decode cX2_placesOf 34 = .ok (.iconst 0, 1) := by decide +kernel
theorem dX2_placesOf_35 : decode cX2_placesOf 35 = .ok (.ior, 1) := by decide +kernel
theorem dX2_placesOf_36 : decode cX2_placesOf 36 = .ok (.istore_n 3, 1) := by decide +kernel
theorem dX2_placesOf_37 : decode cX2_placesOf 37 = .ok (.iinc 4 1, 3) := by decide +kernel
theorem dX2_placesOf_40 : decode cX2_placesOf 40 = .ok (.goto (-35), 3) := by decide +kernel
theorem dX2_placesOf_43 : decode cX2_placesOf 43 = .ok (.iload_n 3, 1) := by decide +kernel
theorem dX2_placesOf_44 : decode cX2_placesOf 44 = .ok (.ireturn, 1) := by decide +kernel
theorem dX3_init_0 : decode cX3_init 0 = .ok (.aload_n 0, 1) := by decide +kernel
theorem dX3_init_1 : decode cX3_init 1 = .ok (.invokespecial 1, 3) := by decide +kernel
theorem dX3_init_4 : decode cX3_init 4 = .ok (.return_, 1) := by decide +kernel
theorem dX3_loudness_0 : decode cX3_loudness 0 = .ok (.iconst 1, 1) := by decide +kernel
theorem dX3_loudness_1 : decode cX3_loudness 1 = .ok (.ireturn, 1) := by decide +kernel
theorem dX3_leftBehind_0 : decode cX3_leftBehind 0 = .ok (.iload_n 3, 1) := by decide +kernel
theorem dX3_leftBehind_1 : decode cX3_leftBehind 1 = .ok (.iconst 3, 1) := by decide +kernel
theorem dX3_leftBehind_2 : decode cX3_leftBehind 2 = .ok (.irem, 1) := by decide +kernel
theorem dX3_leftBehind_3 : decode cX3_leftBehind 3 = .ok (.ifCond .ne 13, 3) := by decide +kernel
theorem dX3_leftBehind_6 : decode cX3_leftBehind 6 = .ok (.aload_n 0, 1) := by decide +kernel
theorem dX3_leftBehind_7 : decode cX3_leftBehind 7 = .ok (.iload_n 1, 1) := by decide +kernel
theorem dX3_leftBehind_8 : decode cX3_leftBehind 8 = .ok (.iload_n 2, 1) := by decide +kernel
theorem dX3_leftBehind_9 : decode cX3_leftBehind 9 = .ok (.iload_n 3, 1) := by decide +kernel
theorem dX3_leftBehind_10 : decode cX3_leftBehind 10 = .ok (.invokespecial 7, 3) := by decide +kernel
theorem dX3_leftBehind_13 : decode cX3_leftBehind 13 = .ok (.goto 4, 3) := by decide +kernel
theorem dX3_leftBehind_16 : decode cX3_leftBehind 16 = .ok (.iload_n 1, 1) := by decide +kernel
theorem dX3_leftBehind_17 : decode cX3_leftBehind 17 = .ok (.ireturn, 1) := by decide +kernel
theorem dX4_init_0 : decode cX4_init 0 = .ok (.aload_n 0, 1) := by decide +kernel
theorem dX4_init_1 : decode cX4_init 1 = .ok (.invokespecial 3, 3) := by decide +kernel
theorem dX4_init_4 : decode cX4_init 4 = .ok (.aload_n 0, 1) := by decide +kernel
theorem dX4_init_5 : decode cX4_init 5 = .ok (.bipush 8, 2) := by decide +kernel
theorem dX4_init_7 : decode cX4_init 7 = .ok (.newarray .int, 2) := by decide +kernel
theorem dX4_init_9 : decode cX4_init 9 = .ok (.putfield 9, 3) := by decide +kernel
theorem dX4_init_12 : decode cX4_init 12 = .ok (.aload_n 0, 1) := by decide +kernel
theorem dX4_init_13 : decode cX4_init 13 = .ok (.bipush 8, 2) := by decide +kernel
theorem dX4_init_15 : decode cX4_init 15 = .ok (.newarray .int, 2) := by decide +kernel
theorem dX4_init_17 : decode cX4_init 17 = .ok (.putfield 15, 3) := by decide +kernel
theorem dX4_init_20 : decode cX4_init 20 = .ok (.aload_n 0, 1) := by decide +kernel
theorem dX4_init_21 : decode cX4_init 21 = .ok (.bipush 8, 2) := by decide +kernel
theorem dX4_init_23 : decode cX4_init 23 = .ok (.newarray .int, 2) := by decide +kernel
theorem dX4_init_25 : decode cX4_init 25 = .ok (.putfield 18, 3) := by decide +kernel
theorem dX4_init_28 : decode cX4_init 28 = .ok (.aload_n 0, 1) := by decide +kernel
theorem dX4_init_29 : decode cX4_init 29 = .ok (.iconst 5, 1) := by decide +kernel
theorem dX4_init_30 : decode cX4_init 30 = .ok (.newarray .int, 2) := by decide +kernel
theorem dX4_init_32 : decode cX4_init 32 = .ok (.putfield 21, 3) := by decide +kernel
theorem dX4_init_35 : decode cX4_init 35 = .ok (.aload_n 0, 1) := by decide +kernel
theorem dX4_init_36 : decode cX4_init 36 = .ok (.iconst 5, 1) := by decide +kernel
theorem dX4_init_37 : decode cX4_init 37 = .ok (.newarray .int, 2) := by decide +kernel
theorem dX4_init_39 : decode cX4_init 39 = .ok (.putfield 24, 3) := by decide +kernel
theorem dX4_init_42 : decode cX4_init 42 = .ok (.aload_n 0, 1) := by decide +kernel
theorem dX4_init_43 : decode cX4_init 43 = .ok (.iconst 1, 1) := by decide +kernel
theorem dX4_init_44 : decode cX4_init 44 = .ok (.putfield 27, 3) := by decide +kernel
theorem dX4_init_47 : decode cX4_init 47 = .ok (.return_, 1) := by decide +kernel
theorem dX4_takeAll_0 : decode cX4_takeAll 0 = .ok (.aload_n 1, 1) := by decide +kernel
theorem dX4_takeAll_1 : decode cX4_takeAll 1 = .ok (.getfield 9, 3) := by decide +kernel
theorem dX4_takeAll_4 : decode cX4_takeAll 4 = .ok (.iconst 0, 1) := by decide +kernel
theorem dX4_takeAll_5 : decode cX4_takeAll 5 = .ok (.aload_n 0, 1) := by decide +kernel
theorem dX4_takeAll_6 : decode cX4_takeAll 6 = .ok (.getfield 9, 3) := by decide +kernel
theorem dX4_takeAll_9 : decode cX4_takeAll 9 = .ok (.iconst 0, 1) := by decide +kernel
theorem dX4_takeAll_10 : decode cX4_takeAll 10 = .ok (.bipush 8, 2) := by decide +kernel
theorem dX4_takeAll_12 : decode cX4_takeAll 12 = .ok (.invokestatic 31, 3) := by decide +kernel
theorem dX4_takeAll_15 : decode cX4_takeAll 15 = .ok (.aload_n 1, 1) := by decide +kernel
theorem dX4_takeAll_16 : decode cX4_takeAll 16 = .ok (.getfield 15, 3) := by decide +kernel
theorem dX4_takeAll_19 : decode cX4_takeAll 19 = .ok (.iconst 0, 1) := by decide +kernel
theorem dX4_takeAll_20 : decode cX4_takeAll 20 = .ok (.aload_n 0, 1) := by decide +kernel
theorem dX4_takeAll_21 : decode cX4_takeAll 21 = .ok (.getfield 15, 3) := by decide +kernel
theorem dX4_takeAll_24 : decode cX4_takeAll 24 = .ok (.iconst 0, 1) := by decide +kernel
theorem dX4_takeAll_25 : decode cX4_takeAll 25 = .ok (.bipush 8, 2) := by decide +kernel
theorem dX4_takeAll_27 : decode cX4_takeAll 27 = .ok (.invokestatic 31, 3) := by decide +kernel
theorem dX4_takeAll_30 : decode cX4_takeAll 30 = .ok (.aload_n 1, 1) := by decide +kernel
theorem dX4_takeAll_31 : decode cX4_takeAll 31 = .ok (.getfield 18, 3) := by decide +kernel
theorem dX4_takeAll_34 : decode cX4_takeAll 34 = .ok (.iconst 0, 1) := by decide +kernel
theorem dX4_takeAll_35 : decode cX4_takeAll 35 = .ok (.aload_n 0, 1) := by decide +kernel
theorem dX4_takeAll_36 : decode cX4_takeAll 36 = .ok (.getfield 18, 3) := by decide +kernel
theorem dX4_takeAll_39 : decode cX4_takeAll 39 = .ok (.iconst 0, 1) := by decide +kernel
theorem dX4_takeAll_40 : decode cX4_takeAll 40 = .ok (.bipush 8, 2) := by decide +kernel
theorem dX4_takeAll_42 : decode cX4_takeAll 42 = .ok (.invokestatic 31, 3) := by decide +kernel
theorem dX4_takeAll_45 : decode cX4_takeAll 45 = .ok (.aload_n 1, 1) := by decide +kernel
theorem dX4_takeAll_46 : decode cX4_takeAll 46 = .ok (.getfield 21, 3) := by decide +kernel
theorem dX4_takeAll_49 : decode cX4_takeAll 49 = .ok (.iconst 0, 1) := by decide +kernel
theorem dX4_takeAll_50 : decode cX4_takeAll 50 = .ok (.aload_n 0, 1) := by decide +kernel
theorem dX4_takeAll_51 : decode cX4_takeAll 51 = .ok (.getfield 21, 3) := by decide +kernel
theorem dX4_takeAll_54 : decode cX4_takeAll 54 = .ok (.iconst 0, 1) := by decide +kernel
theorem dX4_takeAll_55 : decode cX4_takeAll 55 = .ok (.iconst 5, 1) := by decide +kernel
theorem dX4_takeAll_56 : decode cX4_takeAll 56 = .ok (.invokestatic 31, 3) := by decide +kernel
theorem dX4_takeAll_59 : decode cX4_takeAll 59 = .ok (.aload_n 1, 1) := by decide +kernel
theorem dX4_takeAll_60 : decode cX4_takeAll 60 = .ok (.getfield 24, 3) := by decide +kernel
theorem dX4_takeAll_63 : decode cX4_takeAll 63 = .ok (.iconst 0, 1) := by decide +kernel
theorem dX4_takeAll_64 : decode cX4_takeAll 64 = .ok (.aload_n 0, 1) := by decide +kernel
theorem dX4_takeAll_65 : decode cX4_takeAll 65 = .ok (.getfield 24, 3) := by decide +kernel
theorem dX4_takeAll_68 : decode cX4_takeAll 68 = .ok (.iconst 0, 1) := by decide +kernel
theorem dX4_takeAll_69 : decode cX4_takeAll 69 = .ok (.iconst 5, 1) := by decide +kernel
theorem dX4_takeAll_70 : decode cX4_takeAll 70 = .ok (.invokestatic 31, 3) := by decide +kernel
theorem dX4_takeAll_73 : decode cX4_takeAll 73 = .ok (.aload_n 0, 1) := by decide +kernel
theorem dX4_takeAll_74 : decode cX4_takeAll 74 = .ok (.aload_n 1, 1) := by decide +kernel
theorem dX4_takeAll_75 : decode cX4_takeAll 75 = .ok (.getfield 37, 3) := by decide +kernel
theorem dX4_takeAll_78 : decode cX4_takeAll 78 = .ok (.putfield 37, 3) := by decide +kernel
theorem dX4_takeAll_81 : decode cX4_takeAll 81 = .ok (.aload_n 0, 1) := by decide +kernel
theorem dX4_takeAll_82 : decode cX4_takeAll 82 = .ok (.aload_n 1, 1) := by decide +kernel
theorem dX4_takeAll_83 : decode cX4_takeAll 83 = .ok (.getfield 27, 3) := by decide +kernel
theorem dX4_takeAll_86 : decode cX4_takeAll 86 = .ok (.putfield 27, 3) := by decide +kernel
theorem dX4_takeAll_89 : decode cX4_takeAll 89 = .ok (.return_, 1) := by decide +kernel
theorem dX5_init_0 : decode cX5_init 0 = .ok (.aload_n 0, 1) := by decide +kernel
theorem dX5_init_1 : decode cX5_init 1 = .ok (.invokespecial 3, 3) := by decide +kernel
theorem dX5_init_4 : decode cX5_init 4 = .ok (.aload_n 0, 1) := by decide +kernel
theorem dX5_init_5 : decode cX5_init 5 = .ok (.sipush 488, 3) := by decide +kernel
theorem dX5_init_8 : decode cX5_init 8 = .ok (.newarray .int, 2) := by decide +kernel
theorem dX5_init_10 : decode cX5_init 10 = .ok (.putfield 9, 3) := by decide +kernel
theorem dX5_init_13 : decode cX5_init 13 = .ok (.aload_n 0, 1) := by decide +kernel
theorem dX5_init_14 : decode cX5_init 14 = .ok (.bipush 8, 2) := by decide +kernel
theorem dX5_init_16 : decode cX5_init 16 = .ok (.newarray .int, 2) := by decide +kernel
theorem dX5_init_18 : decode cX5_init 18 = .ok (.putfield 15, 3) := by decide +kernel
theorem dX5_init_21 : decode cX5_init 21 = .ok (.aload_n 0, 1) := by decide +kernel
theorem dX5_init_22 : decode cX5_init 22 = .ok (.iconst 4, 1) := by decide +kernel
theorem dX5_init_23 : decode cX5_init 23 = .ok (.newarray .int, 2) := by decide +kernel
theorem dX5_init_25 : decode cX5_init 25 = .ok (.putfield 18, 3) := by decide +kernel
theorem dX5_init_28 : decode cX5_init 28 = .ok (.return_, 1) := by decide +kernel
theorem dX5_look_0 : decode cX5_look 0 = .ok (.aload_n 0, 1) := by decide +kernel
theorem dX5_look_1 : decode cX5_look 1 = .ok (.iload_n 2, 1) := by decide +kernel
theorem dX5_look_2 : decode cX5_look 2 = .ok (.bipush 61, 2) := by decide +kernel
theorem dX5_look_4 : decode cX5_look 4 = .ok (.invokestatic 21, 3) := by decide +kernel
theorem dX5_look_7 : decode cX5_look 7 = .ok (.putfield 27, 3) := by decide +kernel
theorem dX5_look_10 : decode cX5_look 10 = .ok (.aload_n 0, 1) := by decide +kernel
theorem dX5_look_11 : decode cX5_look 11 = .ok (.aload_n 1, 1) := by decide +kernel
theorem dX5_look_12 : decode cX5_look 12 = .ok (.getfield 31, 3) := by decide +kernel
theorem dX5_look_15 : decode cX5_look 15 = .ok (.putfield 36, 3) := by decide +kernel
theorem dX5_look_18 : decode cX5_look 18 = .ok (.aload_n 1, 1) := by decide +kernel
theorem dX5_look_19 : decode cX5_look 19 = .ok (.getfield 37, 3) := by decide +kernel
theorem dX5_look_22 : decode cX5_look 22 = .ok (.getfield 41, 3) := by decide +kernel
theorem dX5_look_25 : decode cX5_look 25 = .ok (.iconst 0, 1) := by decide +kernel
theorem dX5_look_26 : decode cX5_look 26 = .ok (.aload_n 0, 1) := by decide +kernel
theorem dX5_look_27 : decode cX5_look 27 = .ok (.getfield 15, 3) := by decide +kernel
theorem dX5_look_30 : decode cX5_look 30 = .ok (.iconst 0, 1) := by decide +kernel
theorem dX5_look_31 : decode cX5_look 31 = .ok (.bipush 8, 2) := by decide +kernel
theorem dX5_look_33 : decode cX5_look 33 = .ok (.invokestatic 44, 3) := by decide +kernel
theorem dX5_look_36 : decode cX5_look 36 = .ok (.iconst 0, 1) := by decide +kernel
theorem dX5_look_37 : decode cX5_look 37 = .ok (.istore_n 3, 1) := by decide +kernel
theorem dX5_look_38 : decode cX5_look 38 = .ok (.iload_n 3, 1) := by decide +kernel
theorem dX5_look_39 : decode cX5_look 39 = .ok (.aload_n 0, 1) := by decide +kernel
theorem dX5_look_40 : decode cX5_look 40 = .ok (.getfield 36, 3) := by decide +kernel
theorem dX5_look_43 : decode cX5_look 43 = .ok (.if_icmp .ge 81, 3) := by decide +kernel
theorem dX5_look_46 : decode cX5_look 46 = .ok (.aload_n 1, 1) := by decide +kernel
theorem dX5_look_47 : decode cX5_look 47 = .ok (.getfield 37, 3) := by decide +kernel
theorem dX5_look_50 : decode cX5_look 50 = .ok (.getfield 50, 3) := by decide +kernel
theorem dX5_look_53 : decode cX5_look 53 = .ok (.iload_n 3, 1) := by decide +kernel
theorem dX5_look_54 : decode cX5_look 54 = .ok (.iaload, 1) := by decide +kernel
theorem dX5_look_55 : decode cX5_look 55 = .ok (.istore 4, 2) := by decide +kernel
theorem dX5_look_57 : decode cX5_look 57 = .ok (.iconst 0, 1) := by decide +kernel
theorem dX5_look_58 : decode cX5_look 58 = .ok (.istore 5, 2) := by decide +kernel
theorem dX5_look_60 : decode cX5_look 60 = .ok (.iload 5, 2) := by decide +kernel
theorem dX5_look_62 : decode cX5_look 62 = .ok (.aload_n 0, 1) := by decide +kernel
theorem dX5_look_63 : decode cX5_look 63 = .ok (.getfield 27, 3) := by decide +kernel
theorem dX5_look_66 : decode cX5_look 66 = .ok (.if_icmp .ge 52, 3) := by decide +kernel
theorem dX5_look_69 : decode cX5_look 69 = .ok (.aload_n 0, 1) := by decide +kernel
theorem dX5_look_70 : decode cX5_look 70 = .ok (.getfield 9, 3) := by decide +kernel
theorem dX5_look_73 : decode cX5_look 73 = .ok (.iload 5, 2) := by decide +kernel
theorem dX5_look_75 : decode cX5_look 75 = .ok (.bipush 8, 2) := by decide +kernel
theorem dX5_look_77 : decode cX5_look 77 = .ok (.imul, 1) := by decide +kernel
theorem dX5_look_78 : decode cX5_look 78 = .ok (.iload_n 3, 1) := by decide +kernel
theorem dX5_look_79 : decode cX5_look 79 = .ok (.iadd, 1) := by decide +kernel
theorem dX5_look_80 : decode cX5_look 80 = .ok (.aload_n 1, 1) := by decide +kernel
theorem dX5_look_81 : decode cX5_look 81 = .ok (.iload_n 3, 1) := by decide +kernel
theorem dX5_look_82 : decode cX5_look 82 = .ok (.iload 4, 2) := by decide +kernel
theorem dX5_look_84 : decode cX5_look 84 = .ok (.iload 5, 2) := by decide +kernel
theorem dX5_look_86 : decode cX5_look 86 = .ok (.invokevirtual 53, 3) := by decide +kernel
theorem dX5_look_89 : decode cX5_look 89 = .ok (.iastore, 1) := by decide +kernel
theorem dX5_look_90 : decode cX5_look 90 = .ok (.aload_n 1, 1) := by decide +kernel
theorem dX5_look_91 : decode cX5_look 91 = .ok (.aload_n 1, 1) := by decide +kernel
theorem dX5_look_92 : decode cX5_look 92 = .ok (.getfield 57, 3) := by decide +kernel
theorem dX5_look_95 : decode cX5_look 95 = .ok (.iload_n 3, 1) := by decide +kernel
theorem dX5_look_96 : decode cX5_look 96 = .ok (.iaload, 1) := by decide +kernel
theorem dX5_look_97 : decode cX5_look 97 = .ok (.aload_n 1, 1) := by decide +kernel
theorem dX5_look_98 : decode cX5_look 98 = .ok (.getfield 60, 3) := by decide +kernel
theorem dX5_look_101 : decode cX5_look 101 = .ok (.iload_n 3, 1) := by decide +kernel
theorem dX5_look_102 : decode cX5_look 102 = .ok (.iaload, 1) := by decide +kernel
theorem dX5_look_103 : decode cX5_look 103 = .ok (.iload 4, 2) := by decide +kernel
theorem dX5_look_105 : decode cX5_look 105 = .ok (.iload 5, 2) := by decide +kernel
theorem dX5_look_107 : decode cX5_look 107 = .ok (.invokevirtual 63, 3) := by decide +kernel
theorem dX5_look_110 : decode cX5_look 110 = .ok (.istore 4, 2) := by decide +kernel
theorem dX5_look_112 : decode cX5_look 112 = .ok (.iinc 5 1, 3) := by decide +kernel
theorem dX5_look_115 : decode cX5_look 115 = .ok (.goto (-55), 3) := by decide +kernel
theorem dX5_look_118 : decode cX5_look 118 = .ok (.iinc 3 1, 3) := by decide +kernel
theorem dX5_look_121 : decode cX5_look 121 = .ok (.goto (-83), 3) := by decide +kernel
theorem dX5_look_124 : decode cX5_look 124 = .ok (.return_, 1) := by decide +kernel
theorem dX5_swapRooms_0 : decode cX5_swapRooms 0 = .ok (.iconst 0, 1) := by decide +kernel
theorem dX5_swapRooms_1 : decode cX5_swapRooms 1 = .ok (.istore 4, 2) := by decide +kernel
theorem dX5_swapRooms_3 : decode cX5_swapRooms 3 = .ok (.iload 4, 2) := by decide +kernel
theorem dX5_swapRooms_5 : decode cX5_swapRooms 5 = .ok (.aload_n 0, 1) := by decide +kernel
theorem dX5_swapRooms_6 : decode cX5_swapRooms 6 = .ok (.getfield 36, 3) := by decide +kernel
theorem dX5_swapRooms_9 : decode cX5_swapRooms 9 = .ok (.if_icmp .ge 50, 3) := by decide +kernel
theorem dX5_swapRooms_12 : decode cX5_swapRooms 12 = .ok (.aload_n 1, 1) := by decide +kernel
theorem dX5_swapRooms_13 : decode cX5_swapRooms 13 = .ok (.getfield 37, 3) := by decide +kernel
theorem dX5_swapRooms_16 : decode cX5_swapRooms 16 = .ok (.getfield 41, 3) := by decide +kernel
theorem dX5_swapRooms_19 : decode cX5_swapRooms 19 = .ok (.iload 4, 2) := by decide +kernel
theorem dX5_swapRooms_21 : decode cX5_swapRooms 21 = .ok (.iaload, 1) := by decide +kernel
theorem dX5_swapRooms_22 : decode cX5_swapRooms 22 = .ok (.istore 5, 2) := by decide +kernel
theorem dX5_swapRooms_24 : decode cX5_swapRooms 24 = .ok (.aload_n 0, 1) := by decide +kernel
theorem dX5_swapRooms_25 : decode cX5_swapRooms 25 = .ok (.getfield 15, 3) := by decide +kernel
theorem dX5_swapRooms_28 : decode cX5_swapRooms 28 = .ok (.iload 4, 2) := by decide +kernel
theorem dX5_swapRooms_30 : decode cX5_swapRooms 30 = .ok (.iload 5, 2) := by decide +kernel
theorem dX5_swapRooms_32 : decode cX5_swapRooms 32 = .ok (.iload_n 2, 1) := by decide +kernel
theorem dX5_swapRooms_33 : decode cX5_swapRooms 33 = .ok (.if_icmp .ne 7, 3) := by decide +kernel
theorem dX5_swapRooms_36 : decode cX5_swapRooms 36 = .ok (.iload_n 3, 1) := by decide +kernel
theorem dX5_swapRooms_37 : decode cX5_swapRooms 37 = .ok (.goto 15, 3) := by decide +kernel
theorem dX5_swapRooms_40 : decode cX5_swapRooms 40 = .ok (.iload 5, 2) := by decide +kernel
theorem dX5_swapRooms_42 : decode cX5_swapRooms 42 = .ok (.iload_n 3, 1) := by decide +kernel
theorem dX5_swapRooms_43 : decode cX5_swapRooms 43 = .ok (.if_icmp .ne 7, 3) := by decide +kernel
theorem dX5_swapRooms_46 : decode cX5_swapRooms 46 = .ok (.iload_n 2, 1) := by decide +kernel
theorem dX5_swapRooms_47 : decode cX5_swapRooms 47 = .ok (.goto 5, 3) := by decide +kernel
theorem dX5_swapRooms_50 : decode cX5_swapRooms 50 = .ok (.iload 5, 2) := by decide +kernel
theorem dX5_swapRooms_52 : decode cX5_swapRooms 52 = .ok (.iastore, 1) := by decide +kernel
theorem dX5_swapRooms_53 : decode cX5_swapRooms 53 = .ok (.iinc 4 1, 3) := by decide +kernel
theorem dX5_swapRooms_56 : decode cX5_swapRooms 56 = .ok (.goto (-53), 3) := by decide +kernel
theorem dX5_swapRooms_59 : decode cX5_swapRooms 59 = .ok (.return_, 1) := by decide +kernel
theorem dX5_listen_0 : decode cX5_listen 0 = .ok (.iconst 0, 1) := by decide +kernel
theorem dX5_listen_1 : decode cX5_listen 1 = .ok (.istore_n 3, 1) := by decide +kernel
theorem dX5_listen_2 : decode cX5_listen 2 = .ok (.iload_n 3, 1) := by decide +kernel
theorem dX5_listen_3 : decode cX5_listen 3 = .ok (.iconst 4, 1) := by decide +kernel
theorem dX5_listen_4 : decode cX5_listen 4 = .ok (.if_icmp .ge 16, 3) := by decide +kernel
theorem dX5_listen_7 : decode cX5_listen 7 = .ok (.aload_n 0, 1) := by decide +kernel
theorem dX5_listen_8 : decode cX5_listen 8 = .ok (.getfield 18, 3) := by decide +kernel
theorem dX5_listen_11 : decode cX5_listen 11 = .ok (.iload_n 3, 1) := by decide +kernel
theorem dX5_listen_12 : decode cX5_listen 12 = .ok (.iconst 0, 1) := by decide +kernel
theorem dX5_listen_13 : decode cX5_listen 13 = .ok (.iastore, 1) := by decide +kernel
theorem dX5_listen_14 : decode cX5_listen 14 = .ok (.iinc 3 1, 3) := by decide +kernel
theorem dX5_listen_17 : decode cX5_listen 17 = .ok (.goto (-15), 3) := by decide +kernel
theorem dX5_listen_20 : decode cX5_listen 20 = .ok (.iconst 0, 1) := by decide +kernel
theorem dX5_listen_21 : decode cX5_listen 21 = .ok (.istore_n 3, 1) := by decide +kernel
theorem dX5_listen_22 : decode cX5_listen 22 = .ok (.iload_n 3, 1) := by decide +kernel
theorem dX5_listen_23 : decode cX5_listen 23 = .ok (.aload_n 0, 1) := by decide +kernel
theorem dX5_listen_24 : decode cX5_listen 24 = .ok (.getfield 36, 3) := by decide +kernel
theorem dX5_listen_27 : decode cX5_listen 27 = .ok (.if_icmp .ge 46, 3) := by decide +kernel
theorem dX5_listen_30 : decode cX5_listen 30 = .ok (.aload_n 0, 1) := by decide +kernel
theorem dX5_listen_31 : decode cX5_listen 31 = .ok (.getfield 18, 3) := by decide +kernel
theorem dX5_listen_34 : decode cX5_listen 34 = .ok (.aload_n 0, 1) := by decide +kernel
theorem dX5_listen_35 : decode cX5_listen 35 = .ok (.getfield 15, 3) := by decide +kernel
theorem dX5_listen_38 : decode cX5_listen 38 = .ok (.iload_n 3, 1) := by decide +kernel
theorem dX5_listen_39 : decode cX5_listen 39 = .ok (.iaload, 1) := by decide +kernel
theorem dX5_listen_40 : decode cX5_listen 40 = .ok (.dup2, 1) := by decide +kernel
theorem dX5_listen_41 : decode cX5_listen 41 = .ok (.iaload, 1) := by decide +kernel
theorem dX5_listen_42 : decode cX5_listen 42 = .ok (.iload_n 2, 1) := by decide +kernel
theorem dX5_listen_43 : decode cX5_listen 43 = .ok (.iload_n 3, 1) := by decide +kernel
theorem dX5_listen_44 : decode cX5_listen 44 = .ok (.invokestatic 67, 3) := by decide +kernel
theorem dX5_listen_47 : decode cX5_listen 47 = .ok (.ifCond .eq 7, 3) := by decide +kernel
theorem dX5_listen_50 : decode cX5_listen 50 = .ok (.iconst 0, 1) := by decide +kernel
theorem dX5_listen_51 : decode cX5_listen 51 = .ok (.goto 14, 3) := by decide +kernel
theorem dX5_listen_54 : decode cX5_listen 54 = .ok (.aload_n 0, 1) := by decide +kernel
theorem dX5_listen_55 : decode cX5_listen 55 = .ok (.getfield 9, 3) := by decide +kernel
theorem dX5_listen_58 : decode cX5_listen 58 = .ok (.iload_n 1, 1) := by decide +kernel
theorem dX5_listen_59 : decode cX5_listen 59 = .ok (.bipush 8, 2) := by decide +kernel
theorem dX5_listen_61 : decode cX5_listen 61 = .ok (.imul, 1) := by decide +kernel
theorem dX5_listen_62 : decode cX5_listen 62 = .ok (.iload_n 3, 1) := by decide +kernel
theorem dX5_listen_63 : decode cX5_listen 63 = .ok (.iadd, 1) := by decide +kernel
theorem dX5_listen_64 : decode cX5_listen 64 = .ok (.iaload, 1) := by decide +kernel
theorem dX5_listen_65 : decode cX5_listen 65 = .ok (.iadd, 1) := by decide +kernel
theorem dX5_listen_66 : decode cX5_listen 66 = .ok (.iastore, 1) := by decide +kernel
theorem dX5_listen_67 : decode cX5_listen 67 = .ok (.iinc 3 1, 3) := by decide +kernel
theorem dX5_listen_70 : decode cX5_listen 70 = .ok (.goto (-48), 3) := by decide +kernel
theorem dX5_listen_73 : decode cX5_listen 73 = .ok (.return_, 1) := by decide +kernel
theorem dX5_wokenIn_0 : decode cX5_wokenIn 0 = .ok (.aload_n 0, 1) := by decide +kernel
theorem dX5_wokenIn_1 : decode cX5_wokenIn 1 = .ok (.iload_n 2, 1) := by decide +kernel
theorem dX5_wokenIn_2 : decode cX5_wokenIn 2 = .ok (.iload_n 3, 1) := by decide +kernel
theorem dX5_wokenIn_3 : decode cX5_wokenIn 3 = .ok (.invokevirtual 71, 3) := by decide +kernel
theorem dX5_wokenIn_6 : decode cX5_wokenIn 6 = .ok (.iconst 0, 1) := by decide +kernel
theorem dX5_wokenIn_7 : decode cX5_wokenIn 7 = .ok (.istore 4, 2) := by decide +kernel
theorem dX5_wokenIn_9 : decode cX5_wokenIn 9 = .ok (.iconst 0, 1) := by decide +kernel
theorem dX5_wokenIn_10 : decode cX5_wokenIn 10 = .ok (.istore 5, 2) := by decide +kernel
theorem dX5_wokenIn_12 : decode cX5_wokenIn 12 = .ok (.iload 5, 2) := by decide +kernel
theorem dX5_wokenIn_14 : decode cX5_wokenIn 14 = .ok (.aload_n 1, 1) := by decide +kernel
theorem dX5_wokenIn_15 : decode cX5_wokenIn 15 = .ok (.getfield 75, 3) := by decide +kernel
theorem dX5_wokenIn_18 : decode cX5_wokenIn 18 = .ok (.if_icmp .ge 41, 3) := by decide +kernel
theorem dX5_wokenIn_21 : decode cX5_wokenIn 21 = .ok (.iload 4, 2) := by decide +kernel
theorem dX5_wokenIn_23 : decode cX5_wokenIn 23 = .ok (.aload_n 0, 1) := by decide +kernel
theorem dX5_wokenIn_24 : decode cX5_wokenIn 24 = .ok (.getfield 18, 3) := by decide +kernel
theorem dX5_wokenIn_27 : decode cX5_wokenIn 27 = .ok (.aload_n 1, 1) := by decide +kernel
theorem dX5_wokenIn_28 : decode cX5_wokenIn 28 = .ok (.getfield 78, 3) := by decide +kernel
theorem dX5_wokenIn_31 : decode cX5_wokenIn 31 = .ok (.iload 5, 2) := by decide +kernel
theorem dX5_wokenIn_33 : decode cX5_wokenIn 33 = .ok (.iaload, 1) := by decide +kernel
theorem dX5_wokenIn_34 : decode cX5_wokenIn 34 = .ok (.iaload, 1) := by decide +kernel
theorem dX5_wokenIn_35 : decode cX5_wokenIn 35 = .ok (.aload_n 1, 1) := by decide +kernel
theorem dX5_wokenIn_36 : decode cX5_wokenIn 36 = .ok (.getfield 81, 3) := by decide +kernel
theorem dX5_wokenIn_39 : decode cX5_wokenIn 39 = .ok (.iload 5, 2) := by decide +kernel
theorem dX5_wokenIn_41 : decode cX5_wokenIn 41 = .ok (.iaload, 1) := by decide +kernel
theorem dX5_wokenIn_42 : decode cX5_wokenIn 42 = .ok (.if_icmp .le 7, 3) := by decide +kernel
theorem dX5_wokenIn_45 : decode cX5_wokenIn 45 = .ok (.iconst 1, 1) := by decide +kernel
theorem dX5_wokenIn_46 : decode cX5_wokenIn 46 = .ok (.goto 4, 3) := by decide +kernel
theorem dX5_wokenIn_49 : decode cX5_wokenIn 49 = .ok (.iconst 0, 1) := by decide +kernel
theorem dX5_wokenIn_50 : decode cX5_wokenIn 50 = .ok (.iadd, 1) := by decide +kernel
theorem dX5_wokenIn_51 : decode cX5_wokenIn 51 = .ok (.istore 4, 2) := by decide +kernel
theorem dX5_wokenIn_53 : decode cX5_wokenIn 53 = .ok (.iinc 5 1, 3) := by decide +kernel
theorem dX5_wokenIn_56 : decode cX5_wokenIn 56 = .ok (.goto (-44), 3) := by decide +kernel
theorem dX5_wokenIn_59 : decode cX5_wokenIn 59 = .ok (.iload 4, 2) := by decide +kernel
theorem dX5_wokenIn_61 : decode cX5_wokenIn 61 = .ok (.ireturn, 1) := by decide +kernel
theorem dX5_wakings_0 : decode cX5_wakings 0 = .ok (.iconst 0, 1) := by decide +kernel
theorem dX5_wakings_1 : decode cX5_wakings 1 = .ok (.istore_n 2, 1) := by decide +kernel
theorem dX5_wakings_2 : decode cX5_wakings 2 = .ok (.iconst 0, 1) := by decide +kernel
theorem dX5_wakings_3 : decode cX5_wakings 3 = .ok (.istore_n 3, 1) := by decide +kernel
theorem dX5_wakings_4 : decode cX5_wakings 4 = .ok (.iload_n 3, 1) := by decide +kernel
theorem dX5_wakings_5 : decode cX5_wakings 5 = .ok (.aload_n 0, 1) := by decide +kernel
theorem dX5_wakings_6 : decode cX5_wakings 6 = .ok (.getfield 27, 3) := by decide +kernel
theorem dX5_wakings_9 : decode cX5_wakings 9 = .ok (.if_icmp .ge 19, 3) := by decide +kernel
theorem dX5_wakings_12 : decode cX5_wakings 12 = .ok (.iload_n 2, 1) := by decide +kernel
theorem dX5_wakings_13 : decode cX5_wakings 13 = .ok (.aload_n 0, 1) := by decide +kernel
theorem dX5_wakings_14 : decode cX5_wakings 14 = .ok (.aload_n 1, 1) := by decide +kernel
theorem dX5_wakings_15 : decode cX5_wakings 15 = .ok (.iload_n 3, 1) := by decide +kernel
theorem dX5_wakings_16 : decode cX5_wakings 16 = .ok (.iconst 0, 1) := by decide +kernel
theorem dX5_wakings_17 : decode cX5_wakings 17 = .ok (.invokevirtual 84, 3) := by decide +kernel
theorem dX5_wakings_20 : decode cX5_wakings 20 = .ok (.iadd, 1) := by decide +kernel
theorem dX5_wakings_21 : decode cX5_wakings 21 = .ok (.istore_n 2, 1) := by decide +kernel
theorem dX5_wakings_22 : decode cX5_wakings 22 = .ok (.iinc 3 1, 3) := by decide +kernel
theorem dX5_wakings_25 : decode cX5_wakings 25 = .ok (.goto (-21), 3) := by decide +kernel
theorem dX5_wakings_28 : decode cX5_wakings 28 = .ok (.iload_n 2, 1) := by decide +kernel
theorem dX5_wakings_29 : decode cX5_wakings 29 = .ok (.ireturn, 1) := by decide +kernel
theorem dX5_wakingsIn_0 : decode cX5_wakingsIn 0 = .ok (.iconst 0, 1) := by decide +kernel
theorem dX5_wakingsIn_1 : decode cX5_wakingsIn 1 = .ok (.istore_n 3, 1) := by decide +kernel
theorem dX5_wakingsIn_2 : decode cX5_wakingsIn 2 = .ok (.iconst 0, 1) := by decide +kernel
theorem dX5_wakingsIn_3 : decode cX5_wakingsIn 3 = .ok (.istore 4, 2) := by decide +kernel
theorem dX5_wakingsIn_5 : decode cX5_wakingsIn 5 = .ok (.iload 4, 2) := by decide +kernel
theorem dX5_wakingsIn_7 : decode cX5_wakingsIn 7 = .ok (.aload_n 0, 1) := by decide +kernel
theorem dX5_wakingsIn_8 : decode cX5_wakingsIn 8 = .ok (.getfield 27, 3) := by decide +kernel
theorem dX5_wakingsIn_11 : decode cX5_wakingsIn 11 = .ok (.if_icmp .ge 34, 3) := by decide +kernel
theorem dX5_wakingsIn_14 : decode cX5_wakingsIn 14 = .ok (.aload_n 0, 1) := by decide +kernel
theorem dX5_wakingsIn_15 : decode cX5_wakingsIn 15 = .ok (.iload 4, 2) := by decide +kernel
theorem dX5_wakingsIn_17 : decode cX5_wakingsIn 17 = .ok (.iconst 0, 1) := by decide +kernel
theorem dX5_wakingsIn_18 : decode cX5_wakingsIn 18 = .ok (.invokevirtual 71, 3) := by decide +kernel
theorem dX5_wakingsIn_21 : decode cX5_wakingsIn 21 = .ok (.iload_n 3, 1) := by decide +kernel
theorem dX5_wakingsIn_22 : decode cX5_wakingsIn 22 = .ok (.aload_n 0, 1) := by decide +kernel
theorem dX5_wakingsIn_23 : decode cX5_wakingsIn 23 = .ok (.getfield 18, 3) := by decide +kernel
theorem dX5_wakingsIn_26 : decode cX5_wakingsIn 26 = .ok (.iload_n 1, 1) := by decide +kernel
theorem dX5_wakingsIn_27 : decode cX5_wakingsIn 27 = .ok (.iaload, 1) := by decide +kernel
theorem dX5_wakingsIn_28 : decode cX5_wakingsIn 28 = .ok (.iload_n 2, 1) := by decide +kernel
theorem dX5_wakingsIn_29 : decode cX5_wakingsIn 29 = .ok (.if_icmp .le 7, 3) := by decide +kernel
theorem dX5_wakingsIn_32 : decode cX5_wakingsIn 32 = .ok (.iconst 1, 1) := by decide +kernel
theorem dX5_wakingsIn_33 : decode cX5_wakingsIn 33 = .ok (.goto 4, 3) := by decide +kernel
theorem dX5_wakingsIn_36 : decode cX5_wakingsIn 36 = .ok (.iconst 0, 1) := by decide +kernel
theorem dX5_wakingsIn_37 : decode cX5_wakingsIn 37 = .ok (.iadd, 1) := by decide +kernel
theorem dX5_wakingsIn_38 : decode cX5_wakingsIn 38 = .ok (.istore_n 3, 1) := by decide +kernel
theorem dX5_wakingsIn_39 : decode cX5_wakingsIn 39 = .ok (.iinc 4 1, 3) := by decide +kernel
theorem dX5_wakingsIn_42 : decode cX5_wakingsIn 42 = .ok (.goto (-37), 3) := by decide +kernel
theorem dX5_wakingsIn_45 : decode cX5_wakingsIn 45 = .ok (.iload_n 3, 1) := by decide +kernel
theorem dX5_wakingsIn_46 : decode cX5_wakingsIn 46 = .ok (.ireturn, 1) := by decide +kernel
theorem dX5_isQuietWithout_0 : decode cX5_isQuietWithout 0 = .ok (.iconst 0, 1) := by decide +kernel
theorem dX5_isQuietWithout_1 : decode cX5_isQuietWithout 1 = .ok (.istore_n 3, 1) := by decide +kernel
theorem dX5_isQuietWithout_2 : decode cX5_isQuietWithout 2 = .ok (.iload_n 3, 1) := by decide +kernel
theorem dX5_isQuietWithout_3 : decode cX5_isQuietWithout 3 = .ok (.aload_n 0, 1) := by decide +kernel
theorem dX5_isQuietWithout_4 : decode cX5_isQuietWithout 4 = .ok (.getfield 27, 3) := by decide +kernel
theorem dX5_isQuietWithout_7 : decode cX5_isQuietWithout 7 = .ok (.if_icmp .ge 21, 3) := by decide +kernel
theorem dX5_isQuietWithout_10 : decode cX5_isQuietWithout 10 = .ok (.aload_n 0, 1) := by decide +kernel
theorem dX5_isQuietWithout_11 : decode cX5_isQuietWithout 11 = .ok (.aload_n 1, 1) := by decide +kernel
theorem dX5_isQuietWithout_12 : decode cX5_isQuietWithout 12 = .ok (.iload_n 3, 1) := by decide +kernel
theorem dX5_isQuietWithout_13 : decode cX5_isQuietWithout 13 = .ok (.iload_n 2, 1) := by decide +kernel
theorem dX5_isQuietWithout_14 : decode cX5_isQuietWithout 14 = .ok (.invokevirtual 84, 3) := by decide +kernel
theorem dX5_isQuietWithout_17 : decode cX5_isQuietWithout 17 = .ok (.ifCond .le 5, 3) := by decide +kernel
theorem dX5_isQuietWithout_20 : decode cX5_isQuietWithout 20 = .ok (.iconst 0, 1) := by decide +kernel
theorem dX5_isQuietWithout_21 : decode cX5_isQuietWithout 21 = .ok (.ireturn, 1) := by decide +kernel
theorem dX5_isQuietWithout_22 : decode cX5_isQuietWithout 22 = .ok (.iinc 3 1, 3) := by decide +kernel
theorem dX5_isQuietWithout_25 : decode cX5_isQuietWithout 25 = .ok (.goto (-23), 3) := by decide +kernel
theorem dX5_isQuietWithout_28 : decode cX5_isQuietWithout 28 = .ok (.iconst 1, 1) := by decide +kernel
theorem dX5_isQuietWithout_29 : decode cX5_isQuietWithout 29 = .ok (.ireturn, 1) := by decide +kernel
theorem dX6_init_0 : decode cX6_init 0 = .ok (.aload_n 0, 1) := by decide +kernel
theorem dX6_init_1 : decode cX6_init 1 = .ok (.invokespecial 3, 3) := by decide +kernel
theorem dX6_init_4 : decode cX6_init 4 = .ok (.aload_n 0, 1) := by decide +kernel
theorem dX6_init_5 : decode cX6_init 5 = .ok (.bipush 8, 2) := by decide +kernel
theorem dX6_init_7 : decode cX6_init 7 = .ok (.anewarray 9, 3) := by decide +kernel
theorem dX6_init_10 : decode cX6_init 10 = .ok (.putfield 11, 3) := by decide +kernel
theorem dX6_init_13 : decode cX6_init 13 = .ok (.iconst 0, 1) := by decide +kernel
theorem dX6_init_14 : decode cX6_init 14 = .ok (.istore_n 1, 1) := by decide +kernel
theorem dX6_init_15 : decode cX6_init 15 = .ok (.iload_n 1, 1) := by decide +kernel
theorem dX6_init_16 : decode cX6_init 16 = .ok (.bipush 8, 2) := by decide +kernel
theorem dX6_init_18 : decode cX6_init 18 = .ok (.if_icmp .ge 22, 3) := by decide +kernel
theorem dX6_init_21 : decode cX6_init 21 = .ok (.aload_n 0, 1) := by decide +kernel
theorem dX6_init_22 : decode cX6_init 22 = .ok (.getfield 11, 3) := by decide +kernel
theorem dX6_init_25 : decode cX6_init 25 = .ok (.iload_n 1, 1) := by decide +kernel
theorem dX6_init_26 : decode cX6_init 26 = .ok (.new 9, 3) := by decide +kernel
theorem dX6_init_29 : decode cX6_init 29 = .ok (.dup, 1) := by decide +kernel
theorem dX6_init_30 : decode cX6_init 30 = .ok (.invokespecial 17, 3) := by decide +kernel
theorem dX6_init_33 : decode cX6_init 33 = .ok (.aastore, 1) := by decide +kernel
theorem dX6_init_34 : decode cX6_init 34 = .ok (.iinc 1 1, 3) := by decide +kernel
theorem dX6_init_37 : decode cX6_init 37 = .ok (.goto (-22), 3) := by decide +kernel
theorem dX6_init_40 : decode cX6_init 40 = .ok (.return_, 1) := by decide +kernel
theorem dX6_keep_0 : decode cX6_keep 0 = .ok (.aload_n 0, 1) := by decide +kernel
theorem dX6_keep_1 : decode cX6_keep 1 = .ok (.getfield 11, 3) := by decide +kernel
theorem dX6_keep_4 : decode cX6_keep 4 = .ok (.aload_n 0, 1) := by decide +kernel
theorem dX6_keep_5 : decode cX6_keep 5 = .ok (.getfield 18, 3) := by decide +kernel
theorem dX6_keep_8 : decode cX6_keep 8 = .ok (.aaload, 1) := by decide +kernel
theorem dX6_keep_9 : decode cX6_keep 9 = .ok (.aload_n 1, 1) := by decide +kernel
theorem dX6_keep_10 : decode cX6_keep 10 = .ok (.invokevirtual 22, 3) := by decide +kernel
theorem dX6_keep_13 : decode cX6_keep 13 = .ok (.aload_n 0, 1) := by decide +kernel
theorem dX6_keep_14 : decode cX6_keep 14 = .ok (.aload_n 0, 1) := by decide +kernel
theorem dX6_keep_15 : decode cX6_keep 15 = .ok (.getfield 18, 3) := by decide +kernel
theorem dX6_keep_18 : decode cX6_keep 18 = .ok (.iconst 1, 1) := by decide +kernel
theorem dX6_keep_19 : decode cX6_keep 19 = .ok (.iadd, 1) := by decide +kernel
theorem dX6_keep_20 : decode cX6_keep 20 = .ok (.bipush 8, 2) := by decide +kernel
theorem dX6_keep_22 : decode cX6_keep 22 = .ok (.irem, 1) := by decide +kernel
theorem dX6_keep_23 : decode cX6_keep 23 = .ok (.putfield 18, 3) := by decide +kernel
theorem dX6_keep_26 : decode cX6_keep 26 = .ok (.aload_n 0, 1) := by decide +kernel
theorem dX6_keep_27 : decode cX6_keep 27 = .ok (.aload_n 0, 1) := by decide +kernel
theorem dX6_keep_28 : decode cX6_keep 28 = .ok (.getfield 26, 3) := by decide +kernel
theorem dX6_keep_31 : decode cX6_keep 31 = .ok (.iconst 1, 1) := by decide +kernel
theorem dX6_keep_32 : decode cX6_keep 32 = .ok (.iadd, 1) := by decide +kernel
theorem dX6_keep_33 : decode cX6_keep 33 = .ok (.bipush 8, 2) := by decide +kernel
theorem dX6_keep_35 : decode cX6_keep 35 = .ok (.invokestatic 29, 3) := by decide +kernel
theorem dX6_keep_38 : decode cX6_keep 38 = .ok (.putfield 26, 3) := by decide +kernel
theorem dX6_keep_41 : decode cX6_keep 41 = .ok (.return_, 1) := by decide +kernel
theorem dX6_bringBack_0 : decode cX6_bringBack 0 = .ok (.aload_n 0, 1) := by decide +kernel
theorem dX6_bringBack_1 : decode cX6_bringBack 1 = .ok (.getfield 26, 3) := by decide +kernel
theorem dX6_bringBack_4 : decode cX6_bringBack 4 = .ok (.ifCond .ne 4, 3) := by decide +kernel
theorem dX6_bringBack_7 : decode cX6_bringBack 7 = .ok (.return_, 1) := by decide +kernel
theorem dX6_bringBack_8 : decode cX6_bringBack 8 = .ok (.aload_n 0, 1) := by decide +kernel
theorem dX6_bringBack_9 : decode cX6_bringBack 9 = .ok (.aload_n 0, 1) := by decide +kernel
theorem dX6_bringBack_10 : decode cX6_bringBack 10 = .ok (.getfield 18, 3) := by decide +kernel
theorem dX6_bringBack_13 : decode cX6_bringBack 13 = .ok (.bipush 8, 2) := by decide +kernel
theorem dX6_bringBack_15 : decode cX6_bringBack 15 = .ok (.iadd, 1) := by decide +kernel
theorem dX6_bringBack_16 : decode cX6_bringBack 16 = .ok (.iconst 1, 1) := by decide +kernel
theorem dX6_bringBack_17 : decode cX6_bringBack 17 = .ok (.isub, 1) := by decide +kernel
theorem dX6_bringBack_18 : decode cX6_bringBack 18 = .ok (.bipush 8, 2) := by decide +kernel
theorem dX6_bringBack_20 : decode cX6_bringBack 20 = .ok (.irem, 1) := by decide +kernel
theorem dX6_bringBack_21 : decode cX6_bringBack 21 = .ok (.putfield 18, 3) := by decide +kernel
theorem dX6_bringBack_24 : decode cX6_bringBack 24 = .ok (.aload_n 0, 1) := by decide +kernel
theorem dX6_bringBack_25 : decode cX6_bringBack 25 = .ok (.dup, 1) := by decide +kernel
theorem dX6_bringBack_26 : decode cX6_bringBack 26 = .ok (.getfield 26, 3) := by decide +kernel
theorem dX6_bringBack_29 : decode cX6_bringBack 29 = .ok (.iconst 1, 1) := by decide +kernel
theorem dX6_bringBack_30 : decode cX6_bringBack 30 = .ok (.isub, 1) := by decide +kernel
theorem dX6_bringBack_31 : decode cX6_bringBack 31 = .ok (.putfield 26, 3) := by decide +kernel
theorem dX6_bringBack_34 : decode cX6_bringBack 34 = .ok (.aload_n 1, 1) := by decide +kernel
theorem dX6_bringBack_35 : decode cX6_bringBack 35 = .ok (.aload_n 0, 1) := by decide +kernel
theorem dX6_bringBack_36 : decode cX6_bringBack 36 = .ok (.getfield 11, 3) := by decide +kernel
theorem dX6_bringBack_39 : decode cX6_bringBack 39 = .ok (.aload_n 0, 1) := by decide +kernel
theorem dX6_bringBack_40 : decode cX6_bringBack 40 = .ok (.getfield 18, 3) := by decide +kernel
theorem dX6_bringBack_43 : decode cX6_bringBack 43 = .ok (.aaload, 1) := by decide +kernel
theorem dX6_bringBack_44 : decode cX6_bringBack 44 = .ok (.invokevirtual 22, 3) := by decide +kernel
theorem dX6_bringBack_47 : decode cX6_bringBack 47 = .ok (.return_, 1) := by decide +kernel
theorem dX6_forget_0 : decode cX6_forget 0 = .ok (.aload_n 0, 1) := by decide +kernel
theorem dX6_forget_1 : decode cX6_forget 1 = .ok (.iconst 0, 1) := by decide +kernel
theorem dX6_forget_2 : decode cX6_forget 2 = .ok (.putfield 26, 3) := by decide +kernel
theorem dX6_forget_5 : decode cX6_forget 5 = .ok (.return_, 1) := by decide +kernel
theorem dX6_takeAll_0 : decode cX6_takeAll 0 = .ok (.iconst 0, 1) := by decide +kernel
theorem dX6_takeAll_1 : decode cX6_takeAll 1 = .ok (.istore_n 2, 1) := by decide +kernel
theorem dX6_takeAll_2 : decode cX6_takeAll 2 = .ok (.iload_n 2, 1) := by decide +kernel
theorem dX6_takeAll_3 : decode cX6_takeAll 3 = .ok (.bipush 8, 2) := by decide +kernel
theorem dX6_takeAll_5 : decode cX6_takeAll 5 = .ok (.if_icmp .ge 24, 3) := by decide +kernel
theorem dX6_takeAll_8 : decode cX6_takeAll 8 = .ok (.aload_n 0, 1) := by decide +kernel
theorem dX6_takeAll_9 : decode cX6_takeAll 9 = .ok (.getfield 11, 3) := by decide +kernel
theorem dX6_takeAll_12 : decode cX6_takeAll 12 = .ok (.iload_n 2, 1) := by decide +kernel
theorem dX6_takeAll_13 : decode cX6_takeAll 13 = .ok (.aaload, 1) := by decide +kernel
theorem dX6_takeAll_14 : decode cX6_takeAll 14 = .ok (.aload_n 1, 1) := by decide +kernel
theorem dX6_takeAll_15 : decode cX6_takeAll 15 = .ok (.getfield 11, 3) := by decide +kernel
theorem dX6_takeAll_18 : decode cX6_takeAll 18 = .ok (.iload_n 2, 1) := by decide +kernel
theorem dX6_takeAll_19 : decode cX6_takeAll 19 = .ok (.aaload, 1) := by decide +kernel
theorem dX6_takeAll_20 : decode cX6_takeAll 20 = .ok (.invokevirtual 22, 3) := by decide +kernel
theorem dX6_takeAll_23 : decode cX6_takeAll 23 = .ok (.iinc 2 1, 3) := by decide +kernel
theorem dX6_takeAll_26 : decode cX6_takeAll 26 = .ok (.goto (-24), 3) := by decide +kernel
theorem dX6_takeAll_29 : decode cX6_takeAll 29 = .ok (.aload_n 0, 1) := by decide +kernel
theorem dX6_takeAll_30 : decode cX6_takeAll 30 = .ok (.aload_n 1, 1) := by decide +kernel
theorem dX6_takeAll_31 : decode cX6_takeAll 31 = .ok (.getfield 18, 3) := by decide +kernel
theorem dX6_takeAll_34 : decode cX6_takeAll 34 = .ok (.putfield 18, 3) := by decide +kernel
theorem dX6_takeAll_37 : decode cX6_takeAll 37 = .ok (.aload_n 0, 1) := by decide +kernel
theorem dX6_takeAll_38 : decode cX6_takeAll 38 = .ok (.aload_n 1, 1) := by decide +kernel
theorem dX6_takeAll_39 : decode cX6_takeAll 39 = .ok (.getfield 26, 3) := by decide +kernel
theorem dX6_takeAll_42 : decode cX6_takeAll 42 = .ok (.putfield 26, 3) := by decide +kernel
theorem dX6_takeAll_45 : decode cX6_takeAll 45 = .ok (.return_, 1) := by decide +kernel
theorem dX7_init_0 : decode cX7_init 0 = .ok (.aload_n 0, 1) := by decide +kernel
theorem dX7_init_1 : decode cX7_init 1 = .ok (.invokespecial 1, 3) := by decide +kernel
theorem dX7_init_4 : decode cX7_init 4 = .ok (.return_, 1) := by decide +kernel
theorem dX7_loudness_0 : decode cX7_loudness 0 = .ok (.iload_n 1, 1) := by decide +kernel
theorem dX7_loudness_1 : decode cX7_loudness 1 = .ok (.ireturn, 1) := by decide +kernel
theorem dX7_leftBehind_0 : decode cX7_leftBehind 0 = .ok (.iload_n 1, 1) := by decide +kernel
theorem dX7_leftBehind_1 : decode cX7_leftBehind 1 = .ok (.iload_n 2, 1) := by decide +kernel
theorem dX7_leftBehind_2 : decode cX7_leftBehind 2 = .ok (.isub, 1) := by decide +kernel
theorem dX7_leftBehind_3 : decode cX7_leftBehind 3 = .ok (.iconst 0, 1) := by decide +kernel
theorem dX7_leftBehind_4 : decode cX7_leftBehind 4 = .ok (.invokestatic 7, 3) := by decide +kernel
theorem dX7_leftBehind_7 : decode cX7_leftBehind 7 = .ok (.ireturn, 1) := by decide +kernel
theorem dX8_init_0 : decode cX8_init 0 = .ok (.aload_n 0, 1) := by decide +kernel
theorem dX8_init_1 : decode cX8_init 1 = .ok (.invokespecial 3, 3) := by decide +kernel
theorem dX8_init_4 : decode cX8_init 4 = .ok (.aload_n 0, 1) := by decide +kernel
theorem dX8_init_5 : decode cX8_init 5 = .ok (.bipush 80, 2) := by decide +kernel
theorem dX8_init_7 : decode cX8_init 7 = .ok (.newarray .char, 2) := by decide +kernel
theorem dX8_init_9 : decode cX8_init 9 = .ok (.putfield 9, 3) := by decide +kernel
theorem dX8_init_12 : decode cX8_init 12 = .ok (.return_, 1) := by decide +kernel
theorem dX8_addLetter_0 : decode cX8_addLetter 0 = .ok (.aload_n 0, 1) := by decide +kernel
theorem dX8_addLetter_1 : decode cX8_addLetter 1 = .ok (.getfield 15, 3) := by decide +kernel
theorem dX8_addLetter_4 : decode cX8_addLetter 4 = .ok (.bipush 80, 2) := by decide +kernel
theorem dX8_addLetter_6 : decode cX8_addLetter 6 = .ok (.if_icmp .ge 23, 3) := by decide +kernel
theorem dX8_addLetter_9 : decode cX8_addLetter 9 = .ok (.aload_n 0, 1) := by decide +kernel
theorem dX8_addLetter_10 : decode cX8_addLetter 10 = .ok (.getfield 9, 3) := by decide +kernel
theorem dX8_addLetter_13 : decode cX8_addLetter 13 = .ok (.aload_n 0, 1) := by decide +kernel
theorem dX8_addLetter_14 : decode cX8_addLetter 14 = .ok (.getfield 15, 3) := by decide +kernel
theorem dX8_addLetter_17 : decode cX8_addLetter 17 = .ok (.iload_n 1, 1) := by decide +kernel
theorem dX8_addLetter_18 : decode cX8_addLetter 18 = .ok (.castore, 1) := by decide +kernel
theorem dX8_addLetter_19 : decode cX8_addLetter 19 = .ok (.aload_n 0, 1) := by decide +kernel
theorem dX8_addLetter_20 : decode cX8_addLetter 20 = .ok (.dup, 1) := by decide +kernel
theorem dX8_addLetter_21 : decode cX8_addLetter 21 = .ok (.getfield 15, 3) := by decide +kernel
theorem dX8_addLetter_24 : decode cX8_addLetter 24 = .ok (.iconst 1, 1) := by decide +kernel
theorem dX8_addLetter_25 : decode cX8_addLetter 25 = .ok (.iadd, 1) := by decide +kernel
theorem dX8_addLetter_26 : decode cX8_addLetter 26 = .ok (.putfield 15, 3) := by decide +kernel
theorem dX8_addLetter_29 : decode cX8_addLetter 29 = .ok (.return_, 1) := by decide +kernel
theorem dX8_clear_0 : decode cX8_clear 0 = .ok (.aload_n 0, 1) := by decide +kernel
theorem dX8_clear_1 : decode cX8_clear 1 = .ok (.iconst 0, 1) := by decide +kernel
theorem dX8_clear_2 : decode cX8_clear 2 = .ok (.putfield 15, 3) := by decide +kernel
theorem dX8_clear_5 : decode cX8_clear 5 = .ok (.return_, 1) := by decide +kernel
theorem dX8_readHouse_0 : decode cX8_readHouse 0 = .ok (.aload_n 0, 1) := by decide +kernel
theorem dX8_readHouse_1 : decode cX8_readHouse 1 = .ok (.iconst 0, 1) := by decide +kernel
theorem dX8_readHouse_2 : decode cX8_readHouse 2 = .ok (.putfield 19, 3) := by decide +kernel
theorem dX8_readHouse_5 : decode cX8_readHouse 5 = .ok (.aload_n 0, 1) := by decide +kernel
theorem dX8_readHouse_6 : decode cX8_readHouse 6 = .ok (.aload_n 1, 1) := by decide +kernel
theorem dX8_readHouse_7 : decode cX8_readHouse 7 = .ok (.invokevirtual 22, 3) := by decide +kernel
theorem dX8_readHouse_10 : decode cX8_readHouse 10 = .ok (.ifCond .ne 5, 3) := by decide +kernel
theorem dX8_readHouse_13 : decode cX8_readHouse 13 = .ok (.iconst 0, 1) := by decide +kernel
theorem dX8_readHouse_14 : decode cX8_readHouse 14 = .ok (.ireturn, 1) := by decide +kernel
theorem dX8_readHouse_15 : decode cX8_readHouse 15 = .ok (.aload_n 0, 1) := by decide +kernel
theorem dX8_readHouse_16 : decode cX8_readHouse 16 = .ok (.bipush 59, 2) := by decide +kernel
theorem dX8_readHouse_18 : decode cX8_readHouse 18 = .ok (.invokevirtual 26, 3) := by decide +kernel
theorem dX8_readHouse_21 : decode cX8_readHouse 21 = .ok (.ifCond .eq 13, 3) := by decide +kernel
theorem dX8_readHouse_24 : decode cX8_readHouse 24 = .ok (.aload_n 0, 1) := by decide +kernel
theorem dX8_readHouse_25 : decode cX8_readHouse 25 = .ok (.aload_n 1, 1) := by decide +kernel
theorem dX8_readHouse_26 : decode cX8_readHouse 26 = .ok (.invokevirtual 30, 3) := by decide +kernel
theorem dX8_readHouse_29 : decode cX8_readHouse 29 = .ok (.ifCond .ne 5, 3) := by decide +kernel
theorem dX8_readHouse_32 : decode cX8_readHouse 32 = .ok (.iconst 0, 1) := by decide +kernel
theorem dX8_readHouse_33 : decode cX8_readHouse 33 = .ok (.ireturn, 1) := by decide +kernel
theorem dX8_readHouse_34 : decode cX8_readHouse 34 = .ok (.aload_n 0, 1) := by decide +kernel
theorem dX8_readHouse_35 : decode cX8_readHouse 35 = .ok (.invokevirtual 33, 3) := by decide +kernel
theorem dX8_readHouse_38 : decode cX8_readHouse 38 = .ok (.aload_n 0, 1) := by decide +kernel
theorem dX8_readHouse_39 : decode cX8_readHouse 39 = .ok (.getfield 19, 3) := by decide +kernel
theorem dX8_readHouse_42 : decode cX8_readHouse 42 = .ok (.aload_n 0, 1) := by decide +kernel
theorem dX8_readHouse_43 : decode cX8_readHouse 43 = .ok (.getfield 15, 3) := by decide +kernel
theorem dX8_readHouse_46 : decode cX8_readHouse 46 = .ok (.if_icmp .ne 7, 3) := by decide +kernel
theorem dX8_readHouse_49 : decode cX8_readHouse 49 = .ok (.iconst 1, 1) := by decide +kernel
theorem dX8_readHouse_50 : decode cX8_readHouse 50 = .ok (.goto 4, 3) := by decide +kernel
theorem dX8_readHouse_53 : decode cX8_readHouse 53 = .ok (.iconst 0, 1) := by decide +kernel
theorem dX8_readHouse_54 : decode cX8_readHouse 54 = .ok (.ireturn, 1) := by decide +kernel
theorem dX8_readSleepers_0 : decode cX8_readSleepers 0 = .ok (.iconst 1, 1) := by decide +kernel
theorem dX8_readSleepers_1 : decode cX8_readSleepers 1 = .ok (.istore_n 2, 1) := by decide +kernel
theorem dX8_readSleepers_2 : decode cX8_readSleepers 2 = .ok (.iconst 0, 1) := by decide +kernel
theorem dX8_readSleepers_3 : decode cX8_readSleepers 3 = .ok (.istore_n 3, 1) := by decide +kernel
theorem dX8_readSleepers_4 : decode cX8_readSleepers 4 = .ok (.iload_n 3, 1) := by decide +kernel
theorem dX8_readSleepers_5 : decode cX8_readSleepers 5 = .ok (.iconst 5, 1) := by decide +kernel
theorem dX8_readSleepers_6 : decode cX8_readSleepers 6 = .ok (.if_icmp .ge 43, 3) := by decide +kernel
theorem dX8_readSleepers_9 : decode cX8_readSleepers 9 = .ok (.iload_n 2, 1) := by decide +kernel
theorem dX8_readSleepers_10 : decode cX8_readSleepers 10 = .ok (.ifCond .eq 39, 3) := by decide +kernel
theorem dX8_readSleepers_13 : decode cX8_readSleepers 13 = .ok (.aload_n 0, 1) := by decide +kernel
theorem dX8_readSleepers_14 : decode cX8_readSleepers 14 = .ok (.aload_n 1, 1) := by decide +kernel
theorem dX8_readSleepers_15 : decode cX8_readSleepers 15 = .ok (.invokevirtual 36, 3) := by decide +kernel
theorem dX8_readSleepers_18 : decode cX8_readSleepers 18 = .ok (.ifCond .ne 5, 3) := by decide +kernel
theorem dX8_readSleepers_21 : decode cX8_readSleepers 21 = .ok (.iconst 0, 1) := by decide +kernel
theorem dX8_readSleepers_22 : decode cX8_readSleepers 22 = .ok (.ireturn, 1) := by decide +kernel
theorem dX8_readSleepers_23 : decode cX8_readSleepers 23 = .ok (.iload_n 3, 1) := by decide +kernel
theorem dX8_readSleepers_24 : decode cX8_readSleepers 24 = .ok (.iconst 4, 1) := by decide +kernel
theorem dX8_readSleepers_25 : decode cX8_readSleepers 25 = .ok (.if_icmp .ge 16, 3) := by decide +kernel
theorem dX8_readSleepers_28 : decode cX8_readSleepers 28 = .ok (.aload_n 0, 1) := by decide +kernel
theorem dX8_readSleepers_29 : decode cX8_readSleepers 29 = .ok (.bipush 44, 2) := by decide +kernel
theorem dX8_readSleepers_31 : decode cX8_readSleepers 31 = .ok (.invokevirtual 26, 3) := by decide +kernel
theorem dX8_readSleepers_34 : decode cX8_readSleepers 34 = .ok (.ifCond .eq 7, 3) := by decide +kernel
theorem dX8_readSleepers_37 : decode cX8_readSleepers 37 = .ok (.iconst 1, 1) := by decide +kernel
theorem dX8_readSleepers_38 : decode cX8_readSleepers 38 = .ok (.goto 4, 3) := by decide +kernel
theorem dX8_readSleepers_41 : decode cX8_readSleepers 41 = .ok (.iconst 0, 1) := by decide +kernel
theorem dX8_readSleepers_42 : decode cX8_readSleepers 42 = .ok (.istore_n 2, 1) := by decide +kernel
theorem dX8_readSleepers_43 : decode cX8_readSleepers 43 = .ok (.iinc 3 1, 3) := by decide +kernel
theorem dX8_readSleepers_46 : decode cX8_readSleepers 46 = .ok (.goto (-42), 3) := by decide +kernel
theorem dX8_readSleepers_49 : decode cX8_readSleepers 49 = .ok (.iconst 1, 1) := by decide +kernel
theorem dX8_readSleepers_50 : decode cX8_readSleepers 50 = .ok (.ireturn, 1) := by decide +kernel
theorem dX8_readThings_0 : decode cX8_readThings 0 = .ok (.iconst 1, 1) := by decide +kernel
theorem dX8_readThings_1 : decode cX8_readThings 1 = .ok (.istore_n 2, 1) := by decide +kernel
theorem dX8_readThings_2 : decode cX8_readThings 2 = .ok (.iconst 0, 1) := by decide +kernel
theorem dX8_readThings_3 : decode cX8_readThings 3 = .ok (.istore_n 3, 1) := by decide +kernel
theorem dX8_readThings_4 : decode cX8_readThings 4 = .ok (.iload_n 3, 1) := by decide +kernel
theorem dX8_readThings_5 : decode cX8_readThings 5 = .ok (.bipush 8, 2) := by decide +kernel
theorem dX8_readThings_7 : decode cX8_readThings 7 = .ok (.if_icmp .ge 44, 3) := by decide +kernel
theorem dX8_readThings_10 : decode cX8_readThings 10 = .ok (.iload_n 2, 1) := by decide +kernel
theorem dX8_readThings_11 : decode cX8_readThings 11 = .ok (.ifCond .eq 40, 3) := by decide +kernel
theorem dX8_readThings_14 : decode cX8_readThings 14 = .ok (.aload_n 0, 1) := by decide +kernel
theorem dX8_readThings_15 : decode cX8_readThings 15 = .ok (.aload_n 1, 1) := by decide +kernel
theorem dX8_readThings_16 : decode cX8_readThings 16 = .ok (.invokevirtual 39, 3) := by decide +kernel
theorem dX8_readThings_19 : decode cX8_readThings 19 = .ok (.ifCond .ne 5, 3) := by decide +kernel
theorem dX8_readThings_22 : decode cX8_readThings 22 = .ok (.iconst 0, 1) := by decide +kernel
theorem dX8_readThings_23 : decode cX8_readThings 23 = .ok (.ireturn, 1) := by decide +kernel
theorem dX8_readThings_24 : decode cX8_readThings 24 = .ok (.iload_n 3, 1) := by decide +kernel
theorem dX8_readThings_25 : decode cX8_readThings 25 = .ok (.bipush 7, 2) := by decide +kernel
theorem dX8_readThings_27 : decode cX8_readThings 27 = .ok (.if_icmp .ge 16, 3) := by decide +kernel
theorem dX8_readThings_30 : decode cX8_readThings 30 = .ok (.aload_n 0, 1) := by decide +kernel
theorem dX8_readThings_31 : decode cX8_readThings 31 = .ok (.bipush 44, 2) := by decide +kernel
theorem dX8_readThings_33 : decode cX8_readThings 33 = .ok (.invokevirtual 26, 3) := by decide +kernel
theorem dX8_readThings_36 : decode cX8_readThings 36 = .ok (.ifCond .eq 7, 3) := by decide +kernel
theorem dX8_readThings_39 : decode cX8_readThings 39 = .ok (.iconst 1, 1) := by decide +kernel
theorem dX8_readThings_40 : decode cX8_readThings 40 = .ok (.goto 4, 3) := by decide +kernel
theorem dX8_readThings_43 : decode cX8_readThings 43 = .ok (.iconst 0, 1) := by decide +kernel
theorem dX8_readThings_44 : decode cX8_readThings 44 = .ok (.istore_n 2, 1) := by decide +kernel
theorem dX8_readThings_45 : decode cX8_readThings 45 = .ok (.iinc 3 1, 3) := by decide +kernel
theorem dX8_readThings_48 : decode cX8_readThings 48 = .ok (.goto (-44), 3) := by decide +kernel
theorem dX8_readThings_51 : decode cX8_readThings 51 = .ok (.iconst 1, 1) := by decide +kernel
theorem dX8_readThings_52 : decode cX8_readThings 52 = .ok (.ireturn, 1) := by decide +kernel
theorem dX8_readSleeper_0 : decode cX8_readSleeper 0 = .ok (.aload_n 0, 1) := by decide +kernel
theorem dX8_readSleeper_1 : decode cX8_readSleeper 1 = .ok (.iconst 0, 1) := by decide +kernel
theorem dX8_readSleeper_2 : decode cX8_readSleeper 2 = .ok (.iconst 3, 1) := by decide +kernel
theorem dX8_readSleeper_3 : decode cX8_readSleeper 3 = .ok (.invokevirtual 42, 3) := by decide +kernel
theorem dX8_readSleeper_6 : decode cX8_readSleeper 6 = .ok (.istore_n 2, 1) := by decide +kernel
theorem dX8_readSleeper_7 : decode cX8_readSleeper 7 = .ok (.iload_n 2, 1) := by decide +kernel
theorem dX8_readSleeper_8 : decode cX8_readSleeper 8 = .ok (.ifCond .lt 12, 3) := by decide +kernel
theorem dX8_readSleeper_11 : decode cX8_readSleeper 11 = .ok (.aload_n 0, 1) := by decide +kernel
theorem dX8_readSleeper_12 : decode cX8_readSleeper 12 = .ok (.bipush 58, 2) := by decide +kernel
theorem dX8_readSleeper_14 : decode cX8_readSleeper 14 = .ok (.invokevirtual 26, 3) := by decide +kernel
theorem dX8_readSleeper_17 : decode cX8_readSleeper 17 = .ok (.ifCond .ne 5, 3) := by decide +kernel
theorem dX8_readSleeper_20 : decode cX8_readSleeper 20 = .ok (.iconst 0, 1) := by decide +kernel
theorem dX8_readSleeper_21 : decode cX8_readSleeper 21 = .ok (.ireturn, 1) := by decide +kernel
theorem dX8_readSleeper_22 : decode cX8_readSleeper 22 = .ok (.aload_n 0, 1) := by decide +kernel
theorem dX8_readSleeper_23 : decode cX8_readSleeper 23 = .ok (.invokevirtual 46, 3) := by decide +kernel
theorem dX8_readSleeper_26 : decode cX8_readSleeper 26 = .ok (.istore_n 3, 1) := by decide +kernel
theorem dX8_readSleeper_27 : decode cX8_readSleeper 27 = .ok (.iload_n 3, 1) := by decide +kernel
theorem dX8_readSleeper_28 : decode cX8_readSleeper 28 = .ok (.ifCond .ge 5, 3) := by decide +kernel
theorem dX8_readSleeper_31 : decode cX8_readSleeper 31 = .ok (.iconst 0, 1) := by decide +kernel
theorem dX8_readSleeper_32 : decode cX8_readSleeper 32 = .ok (.ireturn, 1) := by decide +kernel
theorem dX8_readSleeper_33 : decode cX8_readSleeper 33 = .ok (.aload_n 1, 1) := by decide +kernel
theorem dX8_readSleeper_34 : decode cX8_readSleeper 34 = .ok (.iload_n 2, 1) := by decide +kernel
theorem dX8_readSleeper_35 : decode cX8_readSleeper 35 = .ok (.iload_n 3, 1) := by decide +kernel
theorem dX8_readSleeper_36 : decode cX8_readSleeper 36 = .ok (.invokevirtual 50, 3) := by decide +kernel
theorem dX8_readSleeper_39 : decode cX8_readSleeper 39 = .ok (.iconst 1, 1) := by decide +kernel
theorem dX8_readSleeper_40 : decode cX8_readSleeper 40 = .ok (.ireturn, 1) := by decide +kernel
theorem dX8_readThing_0 : decode cX8_readThing 0 = .ok (.aload_n 0, 1) := by decide +kernel
theorem dX8_readThing_1 : decode cX8_readThing 1 = .ok (.invokevirtual 56, 3) := by decide +kernel
theorem dX8_readThing_4 : decode cX8_readThing 4 = .ok (.istore_n 2, 1) := by decide +kernel
theorem dX8_readThing_5 : decode cX8_readThing 5 = .ok (.iload_n 2, 1) := by decide +kernel
theorem dX8_readThing_6 : decode cX8_readThing 6 = .ok (.ifCond .ge 5, 3) := by decide +kernel
theorem dX8_readThing_9 : decode cX8_readThing 9 = .ok (.iconst 0, 1) := by decide +kernel
theorem dX8_readThing_10 : decode cX8_readThing 10 = .ok (.ireturn, 1) := by decide +kernel
theorem dX8_readThing_11 : decode cX8_readThing 11 = .ok (.aload_n 0, 1) := by decide +kernel
theorem dX8_readThing_12 : decode cX8_readThing 12 = .ok (.iconst 0, 1) := by decide +kernel
theorem dX8_readThing_13 : decode cX8_readThing 13 = .ok (.bipush 9, 2) := by decide +kernel
theorem dX8_readThing_15 : decode cX8_readThing 15 = .ok (.invokevirtual 42, 3) := by decide +kernel
theorem dX8_readThing_18 : decode cX8_readThing 18 = .ok (.istore_n 3, 1) := by decide +kernel
theorem dX8_readThing_19 : decode cX8_readThing 19 = .ok (.iload_n 3, 1) := by decide +kernel
theorem dX8_readThing_20 : decode cX8_readThing 20 = .ok (.ifCond .ge 5, 3) := by decide +kernel
theorem dX8_readThing_23 : decode cX8_readThing 23 = .ok (.iconst 0, 1) := by decide +kernel
theorem dX8_readThing_24 : decode cX8_readThing 24 = .ok (.ireturn, 1) := by decide +kernel
theorem dX8_readThing_25 : decode cX8_readThing 25 = .ok (.aload_n 0, 1) := by decide +kernel
theorem dX8_readThing_26 : decode cX8_readThing 26 = .ok (.iconst 1, 1) := by decide +kernel
theorem dX8_readThing_27 : decode cX8_readThing 27 = .ok (.bipush 9, 2) := by decide +kernel
theorem dX8_readThing_29 : decode cX8_readThing 29 = .ok (.invokevirtual 42, 3) := by decide +kernel
theorem dX8_readThing_32 : decode cX8_readThing 32 = .ok (.istore 4, 2) := by decide +kernel
theorem dX8_readThing_34 : decode cX8_readThing 34 = .ok (.iload 4, 2) := by decide +kernel
theorem dX8_readThing_36 : decode cX8_readThing 36 = .ok (.ifCond .ge 5, 3) := by decide +kernel
theorem dX8_readThing_39 : decode cX8_readThing 39 = .ok (.iconst 0, 1) := by decide +kernel
theorem dX8_readThing_40 : decode cX8_readThing 40 = .ok (.ireturn, 1) := by decide +kernel
theorem dX8_readThing_41 : decode cX8_readThing 41 = .ok (.aload_n 0, 1) := by decide +kernel
theorem dX8_readThing_42 : decode cX8_readThing 42 = .ok (.iconst 0, 1) := by decide +kernel
theorem dX8_readThing_43 : decode cX8_readThing 43 = .ok (.iconst 3, 1) := by decide +kernel
theorem dX8_readThing_44 : decode cX8_readThing 44 = .ok (.invokevirtual 42, 3) := by decide +kernel
theorem dX8_readThing_47 : decode cX8_readThing 47 = .ok (.istore 5, 2) := by decide +kernel
theorem dX8_readThing_49 : decode cX8_readThing 49 = .ok (.iload 5, 2) := by decide +kernel
theorem dX8_readThing_51 : decode cX8_readThing 51 = .ok (.ifCond .ge 5, 3) := by decide +kernel
theorem dX8_readThing_54 : decode cX8_readThing 54 = .ok (.iconst 0, 1) := by decide +kernel
theorem dX8_readThing_55 : decode cX8_readThing 55 = .ok (.ireturn, 1) := by decide +kernel
theorem dX8_readThing_56 : decode cX8_readThing 56 = .ok (.aload_n 1, 1) := by decide +kernel
theorem dX8_readThing_57 : decode cX8_readThing 57 = .ok (.iload_n 2, 1) := by decide +kernel
theorem dX8_readThing_58 : decode cX8_readThing 58 = .ok (.iload_n 3, 1) := by decide +kernel
theorem dX8_readThing_59 : decode cX8_readThing 59 = .ok (.iload 4, 2) := by decide +kernel
theorem dX8_readThing_61 : decode cX8_readThing 61 = .ok (.iload 5, 2) := by decide +kernel
theorem dX8_readThing_63 : decode cX8_readThing 63 = .ok (.invokevirtual 59, 3) := by decide +kernel
theorem dX8_readThing_66 : decode cX8_readThing 66 = .ok (.iconst 1, 1) := by decide +kernel
theorem dX8_readThing_67 : decode cX8_readThing 67 = .ok (.ireturn, 1) := by decide +kernel
theorem dX8_readKind_0 : decode cX8_readKind 0 = .ok (.aload_n 0, 1) := by decide +kernel
theorem dX8_readKind_1 : decode cX8_readKind 1 = .ok (.invokevirtual 33, 3) := by decide +kernel
theorem dX8_readKind_4 : decode cX8_readKind 4 = .ok (.aload_n 0, 1) := by decide +kernel
theorem dX8_readKind_5 : decode cX8_readKind 5 = .ok (.getfield 19, 3) := by decide +kernel
theorem dX8_readKind_8 : decode cX8_readKind 8 = .ok (.aload_n 0, 1) := by decide +kernel
theorem dX8_readKind_9 : decode cX8_readKind 9 = .ok (.getfield 15, 3) := by decide +kernel
theorem dX8_readKind_12 : decode cX8_readKind 12 = .ok (.if_icmp .ge 20, 3) := by decide +kernel
theorem dX8_readKind_15 : decode cX8_readKind 15 = .ok (.ldc 63, 2) := by decide +kernel
theorem dX8_readKind_17 : decode cX8_readKind 17 = .ok (.aload_n 0, 1) := by decide +kernel
theorem dX8_readKind_18 : decode cX8_readKind 18 = .ok (.getfield 9, 3) := by decide +kernel
theorem dX8_readKind_21 : decode cX8_readKind 21 = .ok (.aload_n 0, 1) := by decide +kernel
theorem dX8_readKind_22 : decode cX8_readKind 22 = .ok (.getfield 19, 3) := by decide +kernel
theorem dX8_readKind_25 : decode cX8_readKind 25 = .ok (.caload, 1) := by decide +kernel
theorem dX8_readKind_26 : decode cX8_readKind 26 = .ok (.invokevirtual 65, 3) := by decide +kernel
theorem dX8_readKind_29 : decode cX8_readKind 29 = .ok (.goto 4, 3) := by decide +kernel
theorem dX8_readKind_32 : decode cX8_readKind 32 = .ok (.iconst (-1), 1) := by decide +kernel
theorem dX8_readKind_33 : decode cX8_readKind 33 = .ok (.istore_n 1, 1) := by decide +kernel
theorem dX8_readKind_34 : decode cX8_readKind 34 = .ok (.aload_n 0, 1) := by decide +kernel
theorem dX8_readKind_35 : decode cX8_readKind 35 = .ok (.dup, 1) := by decide +kernel
theorem dX8_readKind_36 : decode cX8_readKind 36 = .ok (.getfield 19, 3) := by decide +kernel
theorem dX8_readKind_39 : decode cX8_readKind 39 = .ok (.iload_n 1, 1) := by decide +kernel
theorem dX8_readKind_40 : decode cX8_readKind 40 = .ok (.ifCond .ge 7, 3) := by decide +kernel
theorem dX8_readKind_43 : decode cX8_readKind 43 = .ok (.iconst 0, 1) := by decide +kernel
theorem dX8_readKind_44 : decode cX8_readKind 44 = .ok (.goto 4, 3) := by decide +kernel
theorem dX8_readKind_47 : decode cX8_readKind 47 = .ok (.iconst 1, 1) := by decide +kernel
theorem dX8_readKind_48 : decode cX8_readKind 48 = .ok (.iadd, 1) := by decide +kernel
theorem dX8_readKind_49 : decode cX8_readKind 49 = .ok (.putfield 19, 3) := by decide +kernel
theorem dX8_readKind_52 : decode cX8_readKind 52 = .ok (.iload_n 1, 1) := by decide +kernel
theorem dX8_readKind_53 : decode cX8_readKind 53 = .ok (.ireturn, 1) := by decide +kernel
theorem dX8_readDigit_0 : decode cX8_readDigit 0 = .ok (.aload_n 0, 1) := by decide +kernel
theorem dX8_readDigit_1 : decode cX8_readDigit 1 = .ok (.invokevirtual 33, 3) := by decide +kernel
theorem dX8_readDigit_4 : decode cX8_readDigit 4 = .ok (.aload_n 0, 1) := by decide +kernel
theorem dX8_readDigit_5 : decode cX8_readDigit 5 = .ok (.invokevirtual 71, 3) := by decide +kernel
theorem dX8_readDigit_8 : decode cX8_readDigit 8 = .ok (.istore_n 3, 1) := by decide +kernel
theorem dX8_readDigit_9 : decode cX8_readDigit 9 = .ok (.iload_n 3, 1) := by decide +kernel
theorem dX8_readDigit_10 : decode cX8_readDigit 10 = .ok (.iload_n 1, 1) := by decide +kernel
theorem dX8_readDigit_11 : decode cX8_readDigit 11 = .ok (.iload_n 2, 1) := by decide +kernel
theorem dX8_readDigit_12 : decode cX8_readDigit 12 = .ok (.invokestatic 74, 3) := by decide +kernel
theorem dX8_readDigit_15 : decode cX8_readDigit 15 = .ok (.ifCond .ne 5, 3) := by decide +kernel
theorem dX8_readDigit_18 : decode cX8_readDigit 18 = .ok (.iconst (-1), 1) := by decide +kernel
theorem dX8_readDigit_19 : decode cX8_readDigit 19 = .ok (.ireturn, 1) := by decide +kernel
theorem dX8_readDigit_20 : decode cX8_readDigit 20 = .ok (.aload_n 0, 1) := by decide +kernel
theorem dX8_readDigit_21 : decode cX8_readDigit 21 = .ok (.dup, 1) := by decide +kernel
theorem dX8_readDigit_22 : decode cX8_readDigit 22 = .ok (.getfield 19, 3) := by decide +kernel
theorem dX8_readDigit_25 : decode cX8_readDigit 25 = .ok (.iconst 1, 1) := by decide +kernel
theorem dX8_readDigit_26 : decode cX8_readDigit 26 = .ok (.iadd, 1) := by decide +kernel
theorem dX8_readDigit_27 : decode cX8_readDigit 27 = .ok (.putfield 19, 3) := by decide +kernel
theorem dX8_readDigit_30 : decode cX8_readDigit 30 = .ok (.iload_n 3, 1) := by decide +kernel
theorem dX8_readDigit_31 : decode cX8_readDigit 31 = .ok (.ireturn, 1) := by decide +kernel
theorem dX8_readNumber_0 : decode cX8_readNumber 0 = .ok (.aload_n 0, 1) := by decide +kernel
theorem dX8_readNumber_1 : decode cX8_readNumber 1 = .ok (.iconst 0, 1) := by decide +kernel
theorem dX8_readNumber_2 : decode cX8_readNumber 2 = .ok (.bipush 9, 2) := by decide +kernel
theorem dX8_readNumber_4 : decode cX8_readNumber 4 = .ok (.invokevirtual 42, 3) := by decide +kernel
theorem dX8_readNumber_7 : decode cX8_readNumber 7 = .ok (.istore_n 1, 1) := by decide +kernel
theorem dX8_readNumber_8 : decode cX8_readNumber 8 = .ok (.iload_n 1, 1) := by decide +kernel
theorem dX8_readNumber_9 : decode cX8_readNumber 9 = .ok (.ifCond .ge 5, 3) := by decide +kernel
theorem dX8_readNumber_12 : decode cX8_readNumber 12 = .ok (.iconst (-1), 1) := by decide +kernel
theorem dX8_readNumber_13 : decode cX8_readNumber 13 = .ok (.ireturn, 1) := by decide +kernel
theorem dX8_readNumber_14 : decode cX8_readNumber 14 = .ok (.aload_n 0, 1) := by decide +kernel
theorem dX8_readNumber_15 : decode cX8_readNumber 15 = .ok (.getfield 19, 3) := by decide +kernel
theorem dX8_readNumber_18 : decode cX8_readNumber 18 = .ok (.iconst 1, 1) := by decide +kernel
theorem dX8_readNumber_19 : decode cX8_readNumber 19 = .ok (.isub, 1) := by decide +kernel
theorem dX8_readNumber_20 : decode cX8_readNumber 20 = .ok (.istore_n 2, 1) := by decide +kernel
theorem dX8_readNumber_21 : decode cX8_readNumber 21 = .ok (.aload_n 0, 1) := by decide +kernel
theorem dX8_readNumber_22 : decode cX8_readNumber 22 = .ok (.invokevirtual 71, 3) := by decide +kernel
theorem dX8_readNumber_25 : decode cX8_readNumber 25 = .ok (.istore_n 3, 1) := by decide +kernel
theorem dX8_readNumber_26 : decode cX8_readNumber 26 = .ok (.iload_n 3, 1) := by decide +kernel
theorem dX8_readNumber_27 : decode cX8_readNumber 27 = .ok (.ifCond .lt 20, 3) := by decide +kernel
theorem dX8_readNumber_30 : decode cX8_readNumber 30 = .ok (.bipush 10, 2) := by decide +kernel
theorem dX8_readNumber_32 : decode cX8_readNumber 32 = .ok (.iload_n 1, 1) := by decide +kernel
theorem dX8_readNumber_33 : decode cX8_readNumber 33 = .ok (.imul, 1) := by decide +kernel
theorem dX8_readNumber_34 : decode cX8_readNumber 34 = .ok (.iload_n 3, 1) := by decide +kernel
theorem dX8_readNumber_35 : decode cX8_readNumber 35 = .ok (.iadd, 1) := by decide +kernel
theorem dX8_readNumber_36 : decode cX8_readNumber 36 = .ok (.istore_n 1, 1) := by decide +kernel
theorem dX8_readNumber_37 : decode cX8_readNumber 37 = .ok (.aload_n 0, 1) := by decide +kernel
theorem dX8_readNumber_38 : decode cX8_readNumber 38 = .ok (.dup, 1) := by decide +kernel
theorem dX8_readNumber_39 : decode cX8_readNumber 39 = .ok (.getfield 19, 3) := by decide +kernel
theorem dX8_readNumber_42 : decode cX8_readNumber 42 = .ok (.iconst 1, 1) := by decide +kernel
theorem dX8_readNumber_43 : decode cX8_readNumber 43 = .ok (.iadd, 1) := by decide +kernel
theorem dX8_readNumber_44 : decode cX8_readNumber 44 = .ok (.putfield 19, 3) := by decide +kernel
theorem dX8_readNumber_47 : decode cX8_readNumber 47 = .ok (.iload_n 1, 1) := by decide +kernel
theorem dX8_readNumber_48 : decode cX8_readNumber 48 = .ok (.bipush 60, 2) := by decide +kernel
theorem dX8_readNumber_50 : decode cX8_readNumber 50 = .ok (.if_icmp .le 10, 3) := by decide +kernel
theorem dX8_readNumber_53 : decode cX8_readNumber 53 = .ok (.aload_n 0, 1) := by decide +kernel
theorem dX8_readNumber_54 : decode cX8_readNumber 54 = .ok (.iload_n 2, 1) := by decide +kernel
theorem dX8_readNumber_55 : decode cX8_readNumber 55 = .ok (.putfield 19, 3) := by decide +kernel
theorem dX8_readNumber_58 : decode cX8_readNumber 58 = .ok (.iconst (-1), 1) := by decide +kernel
theorem dX8_readNumber_59 : decode cX8_readNumber 59 = .ok (.ireturn, 1) := by decide +kernel
theorem dX8_readNumber_60 : decode cX8_readNumber 60 = .ok (.iload_n 1, 1) := by decide +kernel
theorem dX8_readNumber_61 : decode cX8_readNumber 61 = .ok (.ireturn, 1) := by decide +kernel
theorem dX8_digitHere_0 : decode cX8_digitHere 0 = .ok (.aload_n 0, 1) := by decide +kernel
theorem dX8_digitHere_1 : decode cX8_digitHere 1 = .ok (.getfield 19, 3) := by decide +kernel
theorem dX8_digitHere_4 : decode cX8_digitHere 4 = .ok (.aload_n 0, 1) := by decide +kernel
theorem dX8_digitHere_5 : decode cX8_digitHere 5 = .ok (.getfield 15, 3) := by decide +kernel
theorem dX8_digitHere_8 : decode cX8_digitHere 8 = .ok (.if_icmp .ge 31, 3) := by decide +kernel
theorem dX8_digitHere_11 : decode cX8_digitHere 11 = .ok (.aload_n 0, 1) := by decide +kernel
theorem dX8_digitHere_12 : decode cX8_digitHere 12 = .ok (.getfield 9, 3) := by decide +kernel
theorem dX8_digitHere_15 : decode cX8_digitHere 15 = .ok (.aload_n 0, 1) := by decide +kernel
theorem dX8_digitHere_16 : decode cX8_digitHere 16 = .ok (.getfield 19, 3) := by decide +kernel
theorem dX8_digitHere_19 : decode cX8_digitHere 19 = .ok (.caload, 1) := by decide +kernel
theorem dX8_digitHere_20 : decode cX8_digitHere 20 = .ok (.bipush 48, 2) := by decide +kernel
theorem dX8_digitHere_22 : decode cX8_digitHere 22 = .ok (.if_icmp .lt 17, 3) := by decide +kernel
theorem dX8_digitHere_25 : decode cX8_digitHere 25 = .ok (.aload_n 0, 1) := by decide +kernel
theorem dX8_digitHere_26 : decode cX8_digitHere 26 = .ok (.getfield 9, 3) := by decide +kernel
theorem dX8_digitHere_29 : decode cX8_digitHere 29 = .ok (.aload_n 0, 1) := by decide +kernel
theorem dX8_digitHere_30 : decode cX8_digitHere 30 = .ok (.getfield 19, 3) := by decide +kernel
theorem dX8_digitHere_33 : decode cX8_digitHere 33 = .ok (.caload, 1) := by decide +kernel
theorem dX8_digitHere_34 : decode cX8_digitHere 34 = .ok (.bipush 57, 2) := by decide +kernel
theorem dX8_digitHere_36 : decode cX8_digitHere 36 = .ok (.if_icmp .le 5, 3) := by decide +kernel
theorem dX8_digitHere_39 : decode cX8_digitHere 39 = .ok (.iconst (-1), 1) := by decide +kernel
theorem dX8_digitHere_40 : decode cX8_digitHere 40 = .ok (.ireturn, 1) := by decide +kernel
theorem dX8_digitHere_41 : decode cX8_digitHere 41 = .ok (.aload_n 0, 1) := by decide +kernel
theorem dX8_digitHere_42 : decode cX8_digitHere 42 = .ok (.getfield 9, 3) := by decide +kernel
theorem dX8_digitHere_45 : decode cX8_digitHere 45 = .ok (.aload_n 0, 1) := by decide +kernel
theorem dX8_digitHere_46 : decode cX8_digitHere 46 = .ok (.getfield 19, 3) := by decide +kernel
theorem dX8_digitHere_49 : decode cX8_digitHere 49 = .ok (.caload, 1) := by decide +kernel
theorem dX8_digitHere_50 : decode cX8_digitHere 50 = .ok (.bipush 48, 2) := by decide +kernel
theorem dX8_digitHere_52 : decode cX8_digitHere 52 = .ok (.isub, 1) := by decide +kernel
theorem dX8_digitHere_53 : decode cX8_digitHere 53 = .ok (.ireturn, 1) := by decide +kernel
theorem dX8_takes_0 : decode cX8_takes 0 = .ok (.aload_n 0, 1) := by decide +kernel
theorem dX8_takes_1 : decode cX8_takes 1 = .ok (.invokevirtual 33, 3) := by decide +kernel
theorem dX8_takes_4 : decode cX8_takes 4 = .ok (.aload_n 0, 1) := by decide +kernel
theorem dX8_takes_5 : decode cX8_takes 5 = .ok (.getfield 19, 3) := by decide +kernel
theorem dX8_takes_8 : decode cX8_takes 8 = .ok (.aload_n 0, 1) := by decide +kernel
theorem dX8_takes_9 : decode cX8_takes 9 = .ok (.getfield 15, 3) := by decide +kernel
theorem dX8_takes_12 : decode cX8_takes 12 = .ok (.if_icmp .ge 16, 3) := by decide +kernel
theorem dX8_takes_15 : decode cX8_takes 15 = .ok (.aload_n 0, 1) := by decide +kernel
theorem dX8_takes_16 : decode cX8_takes 16 = .ok (.getfield 9, 3) := by decide +kernel
theorem dX8_takes_19 : decode cX8_takes 19 = .ok (.aload_n 0, 1) := by decide +kernel
theorem dX8_takes_20 : decode cX8_takes 20 = .ok (.getfield 19, 3) := by decide +kernel
theorem dX8_takes_23 : decode cX8_takes 23 = .ok (.caload, 1) := by decide +kernel
theorem dX8_takes_24 : decode cX8_takes 24 = .ok (.iload_n 1, 1) := by decide +kernel
theorem dX8_takes_25 : decode cX8_takes 25 = .ok (.if_icmp .eq 5, 3) := by decide +kernel
theorem dX8_takes_28 : decode cX8_takes 28 = .ok (.iconst 0, 1) := by decide +kernel
theorem dX8_takes_29 : decode cX8_takes 29 = .ok (.ireturn, 1) := by decide +kernel
theorem dX8_takes_30 : decode cX8_takes 30 = .ok (.aload_n 0, 1) := by decide +kernel
theorem dX8_takes_31 : decode cX8_takes 31 = .ok (.dup, 1) := by decide +kernel
theorem dX8_takes_32 : decode cX8_takes 32 = .ok (.getfield 19, 3) := by decide +kernel
theorem dX8_takes_35 : decode cX8_takes 35 = .ok (.iconst 1, 1) := by decide +kernel
theorem dX8_takes_36 : decode cX8_takes 36 = .ok (.iadd, 1) := by decide +kernel
theorem dX8_takes_37 : decode cX8_takes 37 = .ok (.putfield 19, 3) := by decide +kernel
theorem dX8_takes_40 : decode cX8_takes 40 = .ok (.iconst 1, 1) := by decide +kernel
theorem dX8_takes_41 : decode cX8_takes 41 = .ok (.ireturn, 1) := by decide +kernel
theorem dX8_skipBlanks_0 : decode cX8_skipBlanks 0 = .ok (.aload_n 0, 1) := by decide +kernel
theorem dX8_skipBlanks_1 : decode cX8_skipBlanks 1 = .ok (.getfield 19, 3) := by decide +kernel
theorem dX8_skipBlanks_4 : decode cX8_skipBlanks 4 = .ok (.aload_n 0, 1) := by decide +kernel
theorem dX8_skipBlanks_5 : decode cX8_skipBlanks 5 = .ok (.getfield 15, 3) := by decide +kernel
theorem dX8_skipBlanks_8 : decode cX8_skipBlanks 8 = .ok (.if_icmp .ge 30, 3) := by decide +kernel
theorem dX8_skipBlanks_11 : decode cX8_skipBlanks 11 = .ok (.aload_n 0, 1) := by decide +kernel
theorem dX8_skipBlanks_12 : decode cX8_skipBlanks 12 = .ok (.getfield 9, 3) := by decide +kernel
theorem dX8_skipBlanks_15 : decode cX8_skipBlanks 15 = .ok (.aload_n 0, 1) := by decide +kernel
theorem dX8_skipBlanks_16 : decode cX8_skipBlanks 16 = .ok (.getfield 19, 3) := by decide +kernel
theorem dX8_skipBlanks_19 : decode cX8_skipBlanks 19 = .ok (.caload, 1) := by decide +kernel
theorem dX8_skipBlanks_20 : decode cX8_skipBlanks 20 = .ok (.bipush 32, 2) := by decide +kernel
theorem dX8_skipBlanks_22 : decode cX8_skipBlanks 22 = .ok (.if_icmp .ne 16, 3) := by decide +kernel
theorem dX8_skipBlanks_25 : decode cX8_skipBlanks 25 = .ok (.aload_n 0, 1) := by decide +kernel
theorem dX8_skipBlanks_26 : decode cX8_skipBlanks 26 = .ok (.dup, 1) := by decide +kernel
theorem dX8_skipBlanks_27 : decode cX8_skipBlanks 27 = .ok (.getfield 19, 3) := by decide +kernel
theorem dX8_skipBlanks_30 : decode cX8_skipBlanks 30 = .ok (.iconst 1, 1) := by decide +kernel
theorem dX8_skipBlanks_31 : decode cX8_skipBlanks 31 = .ok (.iadd, 1) := by decide +kernel
theorem dX8_skipBlanks_32 : decode cX8_skipBlanks 32 = .ok (.putfield 19, 3) := by decide +kernel
theorem dX8_skipBlanks_35 : decode cX8_skipBlanks 35 = .ok (.goto (-35), 3) := by decide +kernel
theorem dX8_skipBlanks_38 : decode cX8_skipBlanks 38 = .ok (.return_, 1) := by decide +kernel
theorem dX9_init_0 : decode cX9_init 0 = .ok (.aload_n 0, 1) := by decide +kernel
theorem dX9_init_1 : decode cX9_init 1 = .ok (.invokespecial 3, 3) := by decide +kernel
theorem dX9_init_4 : decode cX9_init 4 = .ok (.aload_n 0, 1) := by decide +kernel
theorem dX9_init_5 : decode cX9_init 5 = .ok (.bipush 24, 2) := by decide +kernel
theorem dX9_init_7 : decode cX9_init 7 = .ok (.newarray .long, 2) := by decide +kernel
theorem dX9_init_9 : decode cX9_init 9 = .ok (.putfield 9, 3) := by decide +kernel
theorem dX9_init_12 : decode cX9_init 12 = .ok (.return_, 1) := by decide +kernel
theorem dX9_renew_0 : decode cX9_renew 0 = .ok (.aload_n 0, 1) := by decide +kernel
theorem dX9_renew_1 : decode cX9_renew 1 = .ok (.iconst 1, 1) := by decide +kernel
theorem dX9_renew_2 : decode cX9_renew 2 = .ok (.putfield 15, 3) := by decide +kernel
theorem dX9_renew_5 : decode cX9_renew 5 = .ok (.aload_n 0, 1) := by decide +kernel
theorem dX9_renew_6 : decode cX9_renew 6 = .ok (.iload_n 1, 1) := by decide +kernel
theorem dX9_renew_7 : decode cX9_renew 7 = .ok (.putfield 19, 3) := by decide +kernel
theorem dX9_renew_10 : decode cX9_renew 10 = .ok (.aload_n 0, 1) := by decide +kernel
theorem dX9_renew_11 : decode cX9_renew 11 = .ok (.iload_n 2, 1) := by decide +kernel
theorem dX9_renew_12 : decode cX9_renew 12 = .ok (.putfield 23, 3) := by decide +kernel
theorem dX9_renew_15 : decode cX9_renew 15 = .ok (.iconst 0, 1) := by decide +kernel
theorem dX9_renew_16 : decode cX9_renew 16 = .ok (.istore_n 3, 1) := by decide +kernel
theorem dX9_renew_17 : decode cX9_renew 17 = .ok (.iload_n 3, 1) := by decide +kernel
theorem dX9_renew_18 : decode cX9_renew 18 = .ok (.bipush 24, 2) := by decide +kernel
theorem dX9_renew_20 : decode cX9_renew 20 = .ok (.if_icmp .ge 16, 3) := by decide +kernel
theorem dX9_renew_23 : decode cX9_renew 23 = .ok (.aload_n 0, 1) := by decide +kernel
theorem dX9_renew_24 : decode cX9_renew 24 = .ok (.getfield 9, 3) := by decide +kernel
theorem dX9_renew_27 : decode cX9_renew 27 = .ok (.iload_n 3, 1) := by decide +kernel
theorem dX9_renew_28 : decode cX9_renew 28 = .ok (.lconst 0, 1) := by decide +kernel
theorem dX9_renew_29 : decode cX9_renew 29 = .ok (.lastore, 1) := by decide +kernel
theorem dX9_renew_30 : decode cX9_renew 30 = .ok (.iinc 3 1, 3) := by decide +kernel
theorem dX9_renew_33 : decode cX9_renew 33 = .ok (.goto (-16), 3) := by decide +kernel
theorem dX9_renew_36 : decode cX9_renew 36 = .ok (.return_, 1) := by decide +kernel
theorem dX9_refusal_0 : decode cX9_refusal 0 = .ok (.aload_n 0, 1) := by decide +kernel
theorem dX9_refusal_1 : decode cX9_refusal 1 = .ok (.getfield 15, 3) := by decide +kernel
theorem dX9_refusal_4 : decode cX9_refusal 4 = .ok (.ifCond .ne 6, 3) := by decide +kernel
theorem dX9_refusal_7 : decode cX9_refusal 7 = .ok (.bipush (-11), 2) := by decide +kernel
theorem dX9_refusal_9 : decode cX9_refusal 9 = .ok (.ireturn, 1) := by decide +kernel
theorem dX9_refusal_10 : decode cX9_refusal 10 = .ok (.aload_n 0, 1) := by decide +kernel
theorem dX9_refusal_11 : decode cX9_refusal 11 = .ok (.getfield 19, 3) := by decide +kernel
theorem dX9_refusal_14 : decode cX9_refusal 14 = .ok (.iload_n 1, 1) := by decide +kernel
theorem dX9_refusal_15 : decode cX9_refusal 15 = .ok (.if_icmp .eq 6, 3) := by decide +kernel
theorem dX9_refusal_18 : decode cX9_refusal 18 = .ok (.bipush (-12), 2) := by decide +kernel
theorem dX9_refusal_20 : decode cX9_refusal 20 = .ok (.ireturn, 1) := by decide +kernel
theorem dX9_refusal_21 : decode cX9_refusal 21 = .ok (.aload_n 0, 1) := by decide +kernel
theorem dX9_refusal_22 : decode cX9_refusal 22 = .ok (.iload_n 2, 1) := by decide +kernel
theorem dX9_refusal_23 : decode cX9_refusal 23 = .ok (.iload_n 3, 1) := by decide +kernel
theorem dX9_refusal_24 : decode cX9_refusal 24 = .ok (.invokevirtual 26, 3) := by decide +kernel
theorem dX9_refusal_27 : decode cX9_refusal 27 = .ok (.ifCond .eq 7, 3) := by decide +kernel
theorem dX9_refusal_30 : decode cX9_refusal 30 = .ok (.iconst 0, 1) := by decide +kernel
theorem dX9_refusal_31 : decode cX9_refusal 31 = .ok (.goto 5, 3) := by decide +kernel
theorem dX9_refusal_34 : decode cX9_refusal 34 = .ok (.bipush (-13), 2) := by decide +kernel
theorem dX9_refusal_36 : decode cX9_refusal 36 = .ok (.ireturn, 1) := by decide +kernel
theorem dX9_spans_0 : decode cX9_spans 0 = .ok (.iload_n 1, 1) := by decide +kernel
theorem dX9_spans_1 : decode cX9_spans 1 = .ok (.ifCond .lt 29, 3) := by decide +kernel
theorem dX9_spans_4 : decode cX9_spans 4 = .ok (.iload_n 2, 1) := by decide +kernel
theorem dX9_spans_5 : decode cX9_spans 5 = .ok (.ifCond .lt 25, 3) := by decide +kernel
theorem dX9_spans_8 : decode cX9_spans 8 = .ok (.iload_n 1, 1) := by decide +kernel
theorem dX9_spans_9 : decode cX9_spans 9 = .ok (.aload_n 0, 1) := by decide +kernel
theorem dX9_spans_10 : decode cX9_spans 10 = .ok (.getfield 23, 3) := by decide +kernel
theorem dX9_spans_13 : decode cX9_spans 13 = .ok (.if_icmp .gt 17, 3) := by decide +kernel
theorem dX9_spans_16 : decode cX9_spans 16 = .ok (.iload_n 2, 1) := by decide +kernel
theorem dX9_spans_17 : decode cX9_spans 17 = .ok (.aload_n 0, 1) := by decide +kernel
theorem dX9_spans_18 : decode cX9_spans 18 = .ok (.getfield 23, 3) := by decide +kernel
theorem dX9_spans_21 : decode cX9_spans 21 = .ok (.iload_n 1, 1) := by decide +kernel
theorem dX9_spans_22 : decode cX9_spans 22 = .ok (.isub, 1) := by decide +kernel
theorem dX9_spans_23 : decode cX9_spans 23 = .ok (.if_icmp .gt 7, 3) := by decide +kernel
theorem dX9_spans_26 : decode cX9_spans 26 = .ok (.iconst 1, 1) := by decide +kernel
theorem dX9_spans_27 : decode cX9_spans 27 = .ok (.goto 4, 3) := by decide +kernel
theorem dX9_spans_30 : decode cX9_spans 30 = .ok (.iconst 0, 1) := by decide +kernel
theorem dX9_spans_31 : decode cX9_spans 31 = .ok (.ireturn, 1) := by decide +kernel
theorem dX9_put_0 : decode cX9_put 0 = .ok (.aload_n 0, 1) := by decide +kernel
theorem dX9_put_1 : decode cX9_put 1 = .ok (.getfield 19, 3) := by decide +kernel
theorem dX9_put_4 : decode cX9_put 4 = .ok (.tableswitch 66 0 2 #[28, 41, 54], 28) := by decide +kernel
theorem dX9_put_32 : decode cX9_put 32 = .ok (.aload_n 0, 1) := by decide +kernel
theorem dX9_put_33 : decode cX9_put 33 = .ok (.getfield 9, 3) := by decide +kernel
theorem dX9_put_36 : decode cX9_put 36 = .ok (.iload_n 1, 1) := by decide +kernel
theorem dX9_put_37 : decode cX9_put 37 = .ok (.lload_n 2, 1) := by decide +kernel
theorem dX9_put_38 : decode cX9_put 38 = .ok (.l2i, 1) := by decide +kernel
theorem dX9_put_39 : decode cX9_put 39 = .ok (.i2b, 1) := by decide +kernel
theorem dX9_put_40 : decode cX9_put 40 = .ok (.i2l, 1) := by decide +kernel
theorem dX9_put_41 : decode cX9_put 41 = .ok (.lastore, 1) := by decide +kernel
theorem dX9_put_42 : decode cX9_put 42 = .ok (.goto 35, 3) := by decide +kernel
theorem dX9_put_45 : decode cX9_put 45 = .ok (.aload_n 0, 1) := by decide +kernel
theorem dX9_put_46 : decode cX9_put 46 = .ok (.getfield 9, 3) := by decide +kernel
theorem dX9_put_49 : decode cX9_put 49 = .ok (.iload_n 1, 1) := by decide +kernel
theorem dX9_put_50 : decode cX9_put 50 = .ok (.lload_n 2, 1) := by decide +kernel
theorem dX9_put_51 : decode cX9_put 51 = .ok (.l2i, 1) := by decide +kernel
theorem dX9_put_52 : decode cX9_put 52 = .ok (.i2s, 1) := by decide +kernel
theorem dX9_put_53 : decode cX9_put 53 = .ok (.i2l, 1) := by decide +kernel
theorem dX9_put_54 : decode cX9_put 54 = .ok (.lastore, 1) := by decide +kernel
theorem dX9_put_55 : decode cX9_put 55 = .ok (.goto 22, 3) := by decide +kernel
theorem dX9_put_58 : decode cX9_put 58 = .ok (.aload_n 0, 1) := by decide +kernel
theorem dX9_put_59 : decode cX9_put 59 = .ok (.getfield 9, 3) := by decide +kernel
theorem dX9_put_62 : decode cX9_put 62 = .ok (.iload_n 1, 1) := by decide +kernel
theorem dX9_put_63 : decode cX9_put 63 = .ok (.lload_n 2, 1) := by decide +kernel
theorem dX9_put_64 : decode cX9_put 64 = .ok (.l2i, 1) := by decide +kernel
theorem dX9_put_65 : decode cX9_put 65 = .ok (.i2l, 1) := by decide +kernel
theorem dX9_put_66 : decode cX9_put 66 = .ok (.lastore, 1) := by decide +kernel
theorem dX9_put_67 : decode cX9_put 67 = .ok (.goto 10, 3) := by decide +kernel
theorem dX9_put_70 : decode cX9_put 70 = .ok (.aload_n 0, 1) := by decide +kernel
theorem dX9_put_71 : decode cX9_put 71 = .ok (.getfield 9, 3) := by decide +kernel
theorem dX9_put_74 : decode cX9_put 74 = .ok (.iload_n 1, 1) := by decide +kernel
theorem dX9_put_75 : decode cX9_put 75 = .ok (.lload_n 2, 1) := by decide +kernel
theorem dX9_put_76 : decode cX9_put 76 = .ok (.lastore, 1) := by decide +kernel
theorem dX9_put_77 : decode cX9_put 77 = .ok (.return_, 1) := by decide +kernel
theorem dX10_init_0 : decode cX10_init 0 = .ok (.aload_n 0, 1) := by decide +kernel
theorem dX10_init_1 : decode cX10_init 1 = .ok (.invokespecial 1, 3) := by decide +kernel
theorem dX10_init_4 : decode cX10_init 4 = .ok (.return_, 1) := by decide +kernel
theorem dX10_loudness_0 : decode cX10_loudness 0 = .ok (.iload_n 2, 1) := by decide +kernel
theorem dX10_loudness_1 : decode cX10_loudness 1 = .ok (.iconst 2, 1) := by decide +kernel
theorem dX10_loudness_2 : decode cX10_loudness 2 = .ok (.irem, 1) := by decide +kernel
theorem dX10_loudness_3 : decode cX10_loudness 3 = .ok (.ifCond .ne 7, 3) := by decide +kernel
theorem dX10_loudness_6 : decode cX10_loudness 6 = .ok (.iconst 0, 1) := by decide +kernel
theorem dX10_loudness_7 : decode cX10_loudness 7 = .ok (.goto 9, 3) := by decide +kernel
theorem dX10_loudness_10 : decode cX10_loudness 10 = .ok (.aload_n 0, 1) := by decide +kernel
theorem dX10_loudness_11 : decode cX10_loudness 11 = .ok (.iload_n 1, 1) := by decide +kernel
theorem dX10_loudness_12 : decode cX10_loudness 12 = .ok (.iload_n 2, 1) := by decide +kernel
theorem dX10_loudness_13 : decode cX10_loudness 13 = .ok (.invokespecial 7, 3) := by decide +kernel
theorem dX10_loudness_16 : decode cX10_loudness 16 = .ok (.ireturn, 1) := by decide +kernel
theorem dX10_leftBehind_0 : decode cX10_leftBehind 0 = .ok (.iload_n 3, 1) := by decide +kernel
theorem dX10_leftBehind_1 : decode cX10_leftBehind 1 = .ok (.iconst 2, 1) := by decide +kernel
theorem dX10_leftBehind_2 : decode cX10_leftBehind 2 = .ok (.irem, 1) := by decide +kernel
theorem dX10_leftBehind_3 : decode cX10_leftBehind 3 = .ok (.ifCond .ne 7, 3) := by decide +kernel
theorem dX10_leftBehind_6 : decode cX10_leftBehind 6 = .ok (.iload_n 1, 1) := by decide +kernel
theorem dX10_leftBehind_7 : decode cX10_leftBehind 7 = .ok (.goto 10, 3) := by decide +kernel
theorem dX10_leftBehind_10 : decode cX10_leftBehind 10 = .ok (.aload_n 0, 1) := by decide +kernel
theorem dX10_leftBehind_11 : decode cX10_leftBehind 11 = .ok (.iload_n 1, 1) := by decide +kernel
theorem dX10_leftBehind_12 : decode cX10_leftBehind 12 = .ok (.iload_n 2, 1) := by decide +kernel
theorem dX10_leftBehind_13 : decode cX10_leftBehind 13 = .ok (.iload_n 3, 1) := by decide +kernel
theorem dX10_leftBehind_14 : decode cX10_leftBehind 14 = .ok (.invokespecial 11, 3) := by decide +kernel
theorem dX10_leftBehind_17 : decode cX10_leftBehind 17 = .ok (.ireturn, 1) := by decide +kernel
theorem dJ9_max_7cf53_0 : decode cJ9_max_7cf53 0 = .ok (.iload_n 0, 1) := by decide +kernel
theorem dJ9_max_7cf53_1 : decode cJ9_max_7cf53 1 = .ok (.iload_n 1, 1) := by decide +kernel
theorem dJ9_max_7cf53_2 : decode cJ9_max_7cf53 2 = .ok (.if_icmp .lt 7, 3) := by decide +kernel
theorem dJ9_max_7cf53_5 : decode cJ9_max_7cf53 5 = .ok (.iload_n 0, 1) := by decide +kernel
theorem dJ9_max_7cf53_6 : decode cJ9_max_7cf53 6 = .ok (.goto 4, 3) := by decide +kernel
theorem dJ9_max_7cf53_9 : decode cJ9_max_7cf53 9 = .ok (.iload_n 1, 1) := by decide +kernel
theorem dJ9_max_7cf53_10 : decode cJ9_max_7cf53 10 = .ok (.ireturn, 1) := by decide +kernel
theorem dJ9_min_7cf53_0 : decode cJ9_min_7cf53 0 = .ok (.iload_n 0, 1) := by decide +kernel
theorem dJ9_min_7cf53_1 : decode cJ9_min_7cf53 1 = .ok (.iload_n 1, 1) := by decide +kernel
theorem dJ9_min_7cf53_2 : decode cJ9_min_7cf53 2 = .ok (.if_icmp .gt 7, 3) := by decide +kernel
theorem dJ9_min_7cf53_5 : decode cJ9_min_7cf53 5 = .ok (.iload_n 0, 1) := by decide +kernel
theorem dJ9_min_7cf53_6 : decode cJ9_min_7cf53 6 = .ok (.goto 4, 3) := by decide +kernel
theorem dJ9_min_7cf53_9 : decode cJ9_min_7cf53 9 = .ok (.iload_n 1, 1) := by decide +kernel
theorem dJ9_min_7cf53_10 : decode cJ9_min_7cf53 10 = .ok (.ireturn, 1) := by decide +kernel
theorem dJ6_bitCount_0f7a4_0 : decode cJ6_bitCount_0f7a4 0 = .ok (.iload_n 0, 1) := by decide +kernel
theorem dJ6_bitCount_0f7a4_1 : decode cJ6_bitCount_0f7a4 1 = .ok (.iload_n 0, 1) := by decide +kernel
theorem dJ6_bitCount_0f7a4_2 : decode cJ6_bitCount_0f7a4 2 = .ok (.iconst 1, 1) := by decide +kernel
theorem dJ6_bitCount_0f7a4_3 : decode cJ6_bitCount_0f7a4 3 = .ok (.iushr, 1) := by decide +kernel
theorem dJ6_bitCount_0f7a4_4 : decode cJ6_bitCount_0f7a4 4 = .ok (.ldc_w 265, 3) := by decide +kernel
theorem dJ6_bitCount_0f7a4_7 : decode cJ6_bitCount_0f7a4 7 = .ok (.iand, 1) := by decide +kernel
theorem dJ6_bitCount_0f7a4_8 : decode cJ6_bitCount_0f7a4 8 = .ok (.isub, 1) := by decide +kernel
theorem dJ6_bitCount_0f7a4_9 : decode cJ6_bitCount_0f7a4 9 = .ok (.istore_n 0, 1) := by decide +kernel
theorem dJ6_bitCount_0f7a4_10 : decode cJ6_bitCount_0f7a4 10 = .ok (.iload_n 0, 1) := by decide +kernel
theorem dJ6_bitCount_0f7a4_11 : decode cJ6_bitCount_0f7a4 11 = .ok (.ldc_w 266, 3) := by decide +kernel
theorem dJ6_bitCount_0f7a4_14 : decode cJ6_bitCount_0f7a4 14 = .ok (.iand, 1) := by decide +kernel
theorem dJ6_bitCount_0f7a4_15 : decode cJ6_bitCount_0f7a4 15 = .ok (.iload_n 0, 1) := by decide +kernel
theorem dJ6_bitCount_0f7a4_16 : decode cJ6_bitCount_0f7a4 16 = .ok (.iconst 2, 1) := by decide +kernel
theorem dJ6_bitCount_0f7a4_17 : decode cJ6_bitCount_0f7a4 17 = .ok (.iushr, 1) := by decide +kernel
theorem dJ6_bitCount_0f7a4_18 : decode cJ6_bitCount_0f7a4 18 = .ok (.ldc_w 266, 3) := by decide +kernel
theorem dJ6_bitCount_0f7a4_21 : decode cJ6_bitCount_0f7a4 21 = .ok (.iand, 1) := by decide +kernel
theorem dJ6_bitCount_0f7a4_22 : decode cJ6_bitCount_0f7a4 22 = .ok (.iadd, 1) := by decide +kernel
theorem dJ6_bitCount_0f7a4_23 : decode cJ6_bitCount_0f7a4 23 = .ok (.istore_n 0, 1) := by decide +kernel
theorem dJ6_bitCount_0f7a4_24 : decode cJ6_bitCount_0f7a4 24 = .ok (.iload_n 0, 1) := by decide +kernel
theorem dJ6_bitCount_0f7a4_25 : decode cJ6_bitCount_0f7a4 25 = .ok (.iload_n 0, 1) := by decide +kernel
theorem dJ6_bitCount_0f7a4_26 : decode cJ6_bitCount_0f7a4 26 = .ok (.iconst 4, 1) := by decide +kernel
theorem dJ6_bitCount_0f7a4_27 : decode cJ6_bitCount_0f7a4 27 = .ok (.iushr, 1) := by decide +kernel
theorem dJ6_bitCount_0f7a4_28 : decode cJ6_bitCount_0f7a4 28 = .ok (.iadd, 1) := by decide +kernel
theorem dJ6_bitCount_0f7a4_29 : decode cJ6_bitCount_0f7a4 29 = .ok (.ldc_w 267, 3) := by decide +kernel
theorem dJ6_bitCount_0f7a4_32 : decode cJ6_bitCount_0f7a4 32 = .ok (.iand, 1) := by decide +kernel
theorem dJ6_bitCount_0f7a4_33 : decode cJ6_bitCount_0f7a4 33 = .ok (.istore_n 0, 1) := by decide +kernel
theorem dJ6_bitCount_0f7a4_34 : decode cJ6_bitCount_0f7a4 34 = .ok (.iload_n 0, 1) := by decide +kernel
theorem dJ6_bitCount_0f7a4_35 : decode cJ6_bitCount_0f7a4 35 = .ok (.iload_n 0, 1) := by decide +kernel
theorem dJ6_bitCount_0f7a4_36 : decode cJ6_bitCount_0f7a4 36 = .ok (.bipush 8, 2) := by decide +kernel
theorem dJ6_bitCount_0f7a4_38 : decode cJ6_bitCount_0f7a4 38 = .ok (.iushr, 1) := by decide +kernel
theorem dJ6_bitCount_0f7a4_39 : decode cJ6_bitCount_0f7a4 39 = .ok (.iadd, 1) := by decide +kernel
theorem dJ6_bitCount_0f7a4_40 : decode cJ6_bitCount_0f7a4 40 = .ok (.istore_n 0, 1) := by decide +kernel
theorem dJ6_bitCount_0f7a4_41 : decode cJ6_bitCount_0f7a4 41 = .ok (.iload_n 0, 1) := by decide +kernel
theorem dJ6_bitCount_0f7a4_42 : decode cJ6_bitCount_0f7a4 42 = .ok (.iload_n 0, 1) := by decide +kernel
theorem dJ6_bitCount_0f7a4_43 : decode cJ6_bitCount_0f7a4 43 = .ok (.bipush 16, 2) := by decide +kernel
theorem dJ6_bitCount_0f7a4_45 : decode cJ6_bitCount_0f7a4 45 = .ok (.iushr, 1) := by decide +kernel
theorem dJ6_bitCount_0f7a4_46 : decode cJ6_bitCount_0f7a4 46 = .ok (.iadd, 1) := by decide +kernel
theorem dJ6_bitCount_0f7a4_47 : decode cJ6_bitCount_0f7a4 47 = .ok (.istore_n 0, 1) := by decide +kernel
theorem dJ6_bitCount_0f7a4_48 : decode cJ6_bitCount_0f7a4 48 = .ok (.iload_n 0, 1) := by decide +kernel
theorem dJ6_bitCount_0f7a4_49 : decode cJ6_bitCount_0f7a4 49 = .ok (.bipush 63, 2) := by decide +kernel
theorem dJ6_bitCount_0f7a4_51 : decode cJ6_bitCount_0f7a4 51 = .ok (.iand, 1) := by decide +kernel
theorem dJ6_bitCount_0f7a4_52 : decode cJ6_bitCount_0f7a4 52 = .ok (.ireturn, 1) := by decide +kernel
theorem dJ0_indexOf_0f7a4_0 : decode cJ0_indexOf_0f7a4 0 = .ok (.aload_n 0, 1) := by decide +kernel
theorem dJ0_indexOf_0f7a4_1 : decode cJ0_indexOf_0f7a4 1 = .ok (.iload_n 1, 1) := by decide +kernel
theorem dJ0_indexOf_0f7a4_2 : decode cJ0_indexOf_0f7a4 2 = .ok (.iconst 0, 1) := by decide +kernel
theorem dJ0_indexOf_0f7a4_3 : decode cJ0_indexOf_0f7a4 3 = .ok (.invokevirtual 633, 3) := by decide +kernel
theorem dJ0_indexOf_0f7a4_6 : decode cJ0_indexOf_0f7a4 6 = .ok (.ireturn, 1) := by decide +kernel
theorem dJ0_indexOf_7cf53_0 : decode cJ0_indexOf_7cf53 0 = .ok (.aload_n 0, 1) := by decide +kernel
theorem dJ0_indexOf_7cf53_1 : decode cJ0_indexOf_7cf53 1 = .ok (.invokevirtual 492, 3) := by decide +kernel
theorem dJ0_indexOf_7cf53_4 : decode cJ0_indexOf_7cf53 4 = .ok (.ifCond .eq 19, 3) := by decide +kernel
theorem dJ0_indexOf_7cf53_7 : decode cJ0_indexOf_7cf53 7 = .ok (.aload_n 0, 1) := by decide +kernel
theorem dJ0_indexOf_7cf53_8 : decode cJ0_indexOf_7cf53 8 = .ok (.getfield 9, 3) := by decide +kernel
theorem dJ0_indexOf_7cf53_11 : decode cJ0_indexOf_7cf53 11 = .ok (.iload_n 1, 1) := by decide +kernel
theorem dJ0_indexOf_7cf53_12 : decode cJ0_indexOf_7cf53 12 = .ok (.iload_n 2, 1) := by decide +kernel
theorem dJ0_indexOf_7cf53_13 : decode cJ0_indexOf_7cf53 13 = .ok (.aload_n 0, 1) := by decide +kernel
theorem dJ0_indexOf_7cf53_14 : decode cJ0_indexOf_7cf53 14 = .ok (.invokevirtual 505, 3) := by decide +kernel
theorem dJ0_indexOf_7cf53_17 : decode cJ0_indexOf_7cf53 17 = .ok (.invokestatic 637, 3) := by decide +kernel
theorem dJ0_indexOf_7cf53_20 : decode cJ0_indexOf_7cf53 20 = .ok (.goto 16, 3) := by decide +kernel
theorem dJ0_indexOf_7cf53_23 : decode cJ0_indexOf_7cf53 23 = .ok (.aload_n 0, 1) := by decide +kernel
theorem dJ0_indexOf_7cf53_24 : decode cJ0_indexOf_7cf53 24 = .ok (.getfield 9, 3) := by decide +kernel
theorem dJ0_indexOf_7cf53_27 : decode cJ0_indexOf_7cf53 27 = .ok (.iload_n 1, 1) := by decide +kernel
theorem dJ0_indexOf_7cf53_28 : decode cJ0_indexOf_7cf53 28 = .ok (.iload_n 2, 1) := by decide +kernel
theorem dJ0_indexOf_7cf53_29 : decode cJ0_indexOf_7cf53 29 = .ok (.aload_n 0, 1) := by decide +kernel
theorem dJ0_indexOf_7cf53_30 : decode cJ0_indexOf_7cf53 30 = .ok (.invokevirtual 505, 3) := by decide +kernel
theorem dJ0_indexOf_7cf53_33 : decode cJ0_indexOf_7cf53 33 = .ok (.invokestatic 640, 3) := by decide +kernel
theorem dJ0_indexOf_7cf53_36 : decode cJ0_indexOf_7cf53 36 = .ok (.ireturn, 1) := by decide +kernel
theorem dJ0_isLatin1_aae02_0 : decode cJ0_isLatin1_aae02 0 = .ok (.getstatic 38, 3) := by decide +kernel
theorem dJ0_isLatin1_aae02_3 : decode cJ0_isLatin1_aae02 3 = .ok (.ifCond .eq 14, 3) := by decide +kernel
theorem dJ0_isLatin1_aae02_6 : decode cJ0_isLatin1_aae02 6 = .ok (.aload_n 0, 1) := by decide +kernel
theorem dJ0_isLatin1_aae02_7 : decode cJ0_isLatin1_aae02 7 = .ok (.getfield 15, 3) := by decide +kernel
theorem dJ0_isLatin1_aae02_10 : decode cJ0_isLatin1_aae02 10 = .ok (.ifCond .ne 7, 3) := by decide +kernel
theorem dJ0_isLatin1_aae02_13 : decode cJ0_isLatin1_aae02 13 = .ok (.iconst 1, 1) := by decide +kernel
theorem dJ0_isLatin1_aae02_14 : decode cJ0_isLatin1_aae02 14 = .ok (.goto 4, 3) := by decide +kernel
theorem dJ0_isLatin1_aae02_17 : decode cJ0_isLatin1_aae02 17 = .ok (.iconst 0, 1) := by decide +kernel
theorem dJ0_isLatin1_aae02_18 : decode cJ0_isLatin1_aae02 18 = .ok (.ireturn, 1) := by decide +kernel
theorem dJ1_canEncode_9a6ad_0 : decode cJ1_canEncode_9a6ad 0 = .ok (.iload_n 0, 1) := by decide +kernel
theorem dJ1_canEncode_9a6ad_1 : decode cJ1_canEncode_9a6ad 1 = .ok (.ifCond .lt 14, 3) := by decide +kernel
theorem dJ1_canEncode_9a6ad_4 : decode cJ1_canEncode_9a6ad 4 = .ok (.iload_n 0, 1) := by decide +kernel
theorem dJ1_canEncode_9a6ad_5 : decode cJ1_canEncode_9a6ad 5 = .ok (.sipush 255, 3) := by decide +kernel
theorem dJ1_canEncode_9a6ad_8 : decode cJ1_canEncode_9a6ad 8 = .ok (.if_icmp .gt 7, 3) := by decide +kernel
theorem dJ1_canEncode_9a6ad_11 : decode cJ1_canEncode_9a6ad 11 = .ok (.iconst 1, 1) := by decide +kernel
theorem dJ1_canEncode_9a6ad_12 : decode cJ1_canEncode_9a6ad 12 = .ok (.goto 4, 3) := by decide +kernel
theorem dJ1_canEncode_9a6ad_15 : decode cJ1_canEncode_9a6ad 15 = .ok (.iconst 0, 1) := by decide +kernel
theorem dJ1_canEncode_9a6ad_16 : decode cJ1_canEncode_9a6ad 16 = .ok (.ireturn, 1) := by decide +kernel
theorem dJ1_indexOf_4cfef_0 : decode cJ1_indexOf_4cfef 0 = .ok (.iload_n 1, 1) := by decide +kernel
theorem dJ1_indexOf_4cfef_1 : decode cJ1_indexOf_4cfef 1 = .ok (.invokestatic 88, 3) := by decide +kernel
theorem dJ1_indexOf_4cfef_4 : decode cJ1_indexOf_4cfef 4 = .ok (.ifCond .ne 5, 3) := by decide +kernel
theorem dJ1_indexOf_4cfef_7 : decode cJ1_indexOf_4cfef 7 = .ok (.iconst (-1), 1) := by decide +kernel
theorem dJ1_indexOf_4cfef_8 : decode cJ1_indexOf_4cfef 8 = .ok (.ireturn, 1) := by decide +kernel
theorem dJ1_indexOf_4cfef_9 : decode cJ1_indexOf_4cfef 9 = .ok (.iload_n 2, 1) := by decide +kernel
theorem dJ1_indexOf_4cfef_10 : decode cJ1_indexOf_4cfef 10 = .ok (.iconst 0, 1) := by decide +kernel
theorem dJ1_indexOf_4cfef_11 : decode cJ1_indexOf_4cfef 11 = .ok (.invokestatic 92, 3) := by decide +kernel
theorem dJ1_indexOf_4cfef_14 : decode cJ1_indexOf_4cfef 14 = .ok (.istore_n 2, 1) := by decide +kernel
theorem dJ1_indexOf_4cfef_15 : decode cJ1_indexOf_4cfef 15 = .ok (.iload_n 3, 1) := by decide +kernel
theorem dJ1_indexOf_4cfef_16 : decode cJ1_indexOf_4cfef 16 = .ok (.aload_n 0, 1) := by decide +kernel
theorem dJ1_indexOf_4cfef_17 : decode cJ1_indexOf_4cfef 17 = .ok (.arraylength, 1) := by decide +kernel
theorem dJ1_indexOf_4cfef_18 : decode cJ1_indexOf_4cfef 18 = .ok (.invokestatic 38, 3) := by decide +kernel
theorem dJ1_indexOf_4cfef_21 : decode cJ1_indexOf_4cfef 21 = .ok (.istore_n 3, 1) := by decide +kernel
theorem dJ1_indexOf_4cfef_22 : decode cJ1_indexOf_4cfef 22 = .ok (.iload_n 2, 1) := by decide +kernel
theorem dJ1_indexOf_4cfef_23 : decode cJ1_indexOf_4cfef 23 = .ok (.iload_n 3, 1) := by decide +kernel
theorem dJ1_indexOf_4cfef_24 : decode cJ1_indexOf_4cfef 24 = .ok (.if_icmp .lt 5, 3) := by decide +kernel
theorem dJ1_indexOf_4cfef_27 : decode cJ1_indexOf_4cfef 27 = .ok (.iconst (-1), 1) := by decide +kernel
theorem dJ1_indexOf_4cfef_28 : decode cJ1_indexOf_4cfef 28 = .ok (.ireturn, 1) := by decide +kernel
theorem dJ1_indexOf_4cfef_29 : decode cJ1_indexOf_4cfef 29 = .ok (.aload_n 0, 1) := by decide +kernel
theorem dJ1_indexOf_4cfef_30 : decode cJ1_indexOf_4cfef 30 = .ok (.iload_n 1, 1) := by decide +kernel
theorem dJ1_indexOf_4cfef_31 : decode cJ1_indexOf_4cfef 31 = .ok (.iload_n 2, 1) := by decide +kernel
theorem dJ1_indexOf_4cfef_32 : decode cJ1_indexOf_4cfef 32 = .ok (.iload_n 3, 1) := by decide +kernel
theorem dJ1_indexOf_4cfef_33 : decode cJ1_indexOf_4cfef 33 = .ok (.invokestatic 95, 3) := by decide +kernel
theorem dJ1_indexOf_4cfef_36 : decode cJ1_indexOf_4cfef 36 = .ok (.ireturn, 1) := by decide +kernel
theorem dJ1_indexOfChar_4cfef_0 : decode cJ1_indexOfChar_4cfef 0 = .ok (.iload_n 1, 1) := by decide +kernel
theorem dJ1_indexOfChar_4cfef_1 : decode cJ1_indexOfChar_4cfef 1 = .ok (.i2b, 1) := by decide +kernel
theorem dJ1_indexOfChar_4cfef_2 : decode cJ1_indexOfChar_4cfef 2 = .ok (.istore 4, 2) := by decide +kernel
theorem dJ1_indexOfChar_4cfef_4 : decode cJ1_indexOfChar_4cfef 4 = .ok (.iload_n 2, 1) := by decide +kernel
theorem dJ1_indexOfChar_4cfef_5 : decode cJ1_indexOfChar_4cfef 5 = .ok (.istore 5, 2) := by decide +kernel
theorem dJ1_indexOfChar_4cfef_7 : decode cJ1_indexOfChar_4cfef 7 = .ok (.iload 5, 2) := by decide +kernel
theorem dJ1_indexOfChar_4cfef_9 : decode cJ1_indexOfChar_4cfef 9 = .ok (.iload_n 3, 1) := by decide +kernel
theorem dJ1_indexOfChar_4cfef_10 : decode cJ1_indexOfChar_4cfef 10 = .ok (.if_icmp .ge 21, 3) := by decide +kernel
theorem dJ1_indexOfChar_4cfef_13 : decode cJ1_indexOfChar_4cfef 13 = .ok (.aload_n 0, 1) := by decide +kernel
theorem dJ1_indexOfChar_4cfef_14 : decode cJ1_indexOfChar_4cfef 14 = .ok (.iload 5, 2) := by decide +kernel
theorem dJ1_indexOfChar_4cfef_16 : decode cJ1_indexOfChar_4cfef 16 = .ok (.baload, 1) := by decide +kernel
theorem dJ1_indexOfChar_4cfef_17 : decode cJ1_indexOfChar_4cfef 17 = .ok (.iload 4, 2) := by decide +kernel
theorem dJ1_indexOfChar_4cfef_19 : decode cJ1_indexOfChar_4cfef 19 = .ok (.if_icmp .ne 6, 3) := by decide +kernel
theorem dJ1_indexOfChar_4cfef_22 : decode cJ1_indexOfChar_4cfef 22 = .ok (.iload 5, 2) := by decide +kernel
theorem dJ1_indexOfChar_4cfef_24 : decode cJ1_indexOfChar_4cfef 24 = .ok (.ireturn, 1) := by decide +kernel
theorem dJ1_indexOfChar_4cfef_25 : decode cJ1_indexOfChar_4cfef 25 = .ok (.iinc 5 1, 3) := by decide +kernel
theorem dJ1_indexOfChar_4cfef_28 : decode cJ1_indexOfChar_4cfef 28 = .ok (.goto (-21), 3) := by decide +kernel
theorem dJ1_indexOfChar_4cfef_31 : decode cJ1_indexOfChar_4cfef 31 = .ok (.iconst (-1), 1) := by decide +kernel
theorem dJ1_indexOfChar_4cfef_32 : decode cJ1_indexOfChar_4cfef 32 = .ok (.ireturn, 1) := by decide +kernel
end
section
theorem dX11_init_0 : decode cX11_init 0 = .ok (.aload_n 0, 1) := by decide +kernel
theorem dX11_init_1 : decode cX11_init 1 = .ok (.invokespecial 1, 3) := by decide +kernel
theorem dX11_init_4 : decode cX11_init 4 = .ok (.aload_n 0, 1) := by decide +kernel
theorem dX11_init_5 : decode cX11_init 5 = .ok (.new 7, 3) := by decide +kernel
theorem dX11_init_8 : decode cX11_init 8 = .ok (.dup, 1) := by decide +kernel
theorem dX11_init_9 : decode cX11_init 9 = .ok (.invokespecial 9, 3) := by decide +kernel
theorem dX11_init_12 : decode cX11_init 12 = .ok (.putfield 10, 3) := by decide +kernel
theorem dX11_init_15 : decode cX11_init 15 = .ok (.aload_n 0, 1) := by decide +kernel
theorem dX11_init_16 : decode cX11_init 16 = .ok (.new 16, 3) := by decide +kernel
theorem dX11_init_19 : decode cX11_init 19 = .ok (.dup, 1) := by decide +kernel
theorem dX11_init_20 : decode cX11_init 20 = .ok (.invokespecial 18, 3) := by decide +kernel
theorem dX11_init_23 : decode cX11_init 23 = .ok (.putfield 19, 3) := by decide +kernel
theorem dX11_init_26 : decode cX11_init 26 = .ok (.aload_n 0, 1) := by decide +kernel
theorem dX11_init_27 : decode cX11_init 27 = .ok (.new 7, 3) := by decide +kernel
theorem dX11_init_30 : decode cX11_init 30 = .ok (.dup, 1) := by decide +kernel
theorem dX11_init_31 : decode cX11_init 31 = .ok (.invokespecial 9, 3) := by decide +kernel
theorem dX11_init_34 : decode cX11_init 34 = .ok (.putfield 23, 3) := by decide +kernel
theorem dX11_init_37 : decode cX11_init 37 = .ok (.aload_n 0, 1) := by decide +kernel
theorem dX11_init_38 : decode cX11_init 38 = .ok (.new 16, 3) := by decide +kernel
theorem dX11_init_41 : decode cX11_init 41 = .ok (.dup, 1) := by decide +kernel
theorem dX11_init_42 : decode cX11_init 42 = .ok (.invokespecial 18, 3) := by decide +kernel
theorem dX11_init_45 : decode cX11_init 45 = .ok (.putfield 26, 3) := by decide +kernel
theorem dX11_init_48 : decode cX11_init 48 = .ok (.aload_n 0, 1) := by decide +kernel
theorem dX11_init_49 : decode cX11_init 49 = .ok (.new 7, 3) := by decide +kernel
theorem dX11_init_52 : decode cX11_init 52 = .ok (.dup, 1) := by decide +kernel
theorem dX11_init_53 : decode cX11_init 53 = .ok (.invokespecial 9, 3) := by decide +kernel
theorem dX11_init_56 : decode cX11_init 56 = .ok (.putfield 29, 3) := by decide +kernel
theorem dX11_init_59 : decode cX11_init 59 = .ok (.aload_n 0, 1) := by decide +kernel
theorem dX11_init_60 : decode cX11_init 60 = .ok (.new 32, 3) := by decide +kernel
theorem dX11_init_63 : decode cX11_init 63 = .ok (.dup, 1) := by decide +kernel
theorem dX11_init_64 : decode cX11_init 64 = .ok (.invokespecial 34, 3) := by decide +kernel
theorem dX11_init_67 : decode cX11_init 67 = .ok (.putfield 35, 3) := by decide +kernel
theorem dX11_init_70 : decode cX11_init 70 = .ok (.aload_n 0, 1) := by decide +kernel
theorem dX11_init_71 : decode cX11_init 71 = .ok (.new 39, 3) := by decide +kernel
theorem dX11_init_74 : decode cX11_init 74 = .ok (.dup, 1) := by decide +kernel
theorem dX11_init_75 : decode cX11_init 75 = .ok (.invokespecial 41, 3) := by decide +kernel
theorem dX11_init_78 : decode cX11_init 78 = .ok (.putfield 42, 3) := by decide +kernel
theorem dX11_init_81 : decode cX11_init 81 = .ok (.aload_n 0, 1) := by decide +kernel
theorem dX11_init_82 : decode cX11_init 82 = .ok (.iconst 4, 1) := by decide +kernel
theorem dX11_init_83 : decode cX11_init 83 = .ok (.anewarray 46, 3) := by decide +kernel
theorem dX11_init_86 : decode cX11_init 86 = .ok (.dup, 1) := by decide +kernel
theorem dX11_init_87 : decode cX11_init 87 = .ok (.iconst 0, 1) := by decide +kernel
theorem dX11_init_88 : decode cX11_init 88 = .ok (.new 46, 3) := by decide +kernel
theorem dX11_init_91 : decode cX11_init 91 = .ok (.dup, 1) := by decide +kernel
theorem dX11_init_92 : decode cX11_init 92 = .ok (.invokespecial 48, 3) := by decide +kernel
theorem dX11_init_95 : decode cX11_init 95 = .ok (.aastore, 1) := by decide +kernel
theorem dX11_init_96 : decode cX11_init 96 = .ok (.dup, 1) := by decide +kernel
theorem dX11_init_97 : decode cX11_init 97 = .ok (.iconst 1, 1) := by decide +kernel
theorem dX11_init_98 : decode cX11_init 98 = .ok (.new 46, 3) := by decide +kernel
theorem dX11_init_101 : decode cX11_init 101 = .ok (.dup, 1) := by decide +kernel
theorem dX11_init_102 : decode cX11_init 102 = .ok (.invokespecial 48, 3) := by decide +kernel
theorem dX11_init_105 : decode cX11_init 105 = .ok (.aastore, 1) := by decide +kernel
theorem dX11_init_106 : decode cX11_init 106 = .ok (.dup, 1) := by decide +kernel
theorem dX11_init_107 : decode cX11_init 107 = .ok (.iconst 2, 1) := by decide +kernel
theorem dX11_init_108 : decode cX11_init 108 = .ok (.new 46, 3) := by decide +kernel
theorem dX11_init_111 : decode cX11_init 111 = .ok (.dup, 1) := by decide +kernel
theorem dX11_init_112 : decode cX11_init 112 = .ok (.invokespecial 48, 3) := by decide +kernel
theorem dX11_init_115 : decode cX11_init 115 = .ok (.aastore, 1) := by decide +kernel
theorem dX11_init_116 : decode cX11_init 116 = .ok (.dup, 1) := by decide +kernel
theorem dX11_init_117 : decode cX11_init 117 = .ok (.iconst 3, 1) := by decide +kernel
theorem dX11_init_118 : decode cX11_init 118 = .ok (.new 46, 3) := by decide +kernel
theorem dX11_init_121 : decode cX11_init 121 = .ok (.dup, 1) := by decide +kernel
theorem dX11_init_122 : decode cX11_init 122 = .ok (.invokespecial 48, 3) := by decide +kernel
theorem dX11_init_125 : decode cX11_init 125 = .ok (.aastore, 1) := by decide +kernel
theorem dX11_init_126 : decode cX11_init 126 = .ok (.putfield 49, 3) := by decide +kernel
theorem dX11_init_129 : decode cX11_init 129 = .ok (.return_, 1) := by decide +kernel
theorem dX11_sleeper_0 : decode cX11_sleeper 0 = .ok (.iload_n 1, 1) := by decide +kernel
theorem dX11_sleeper_1 : decode cX11_sleeper 1 = .ok (.invokestatic 53, 3) := by decide +kernel
theorem dX11_sleeper_4 : decode cX11_sleeper 4 = .ok (.ifCond .eq 13, 3) := by decide +kernel
theorem dX11_sleeper_7 : decode cX11_sleeper 7 = .ok (.iload_n 2, 1) := by decide +kernel
theorem dX11_sleeper_8 : decode cX11_sleeper 8 = .ok (.iconst 0, 1) := by decide +kernel
theorem dX11_sleeper_9 : decode cX11_sleeper 9 = .ok (.bipush 60, 2) := by decide +kernel
theorem dX11_sleeper_11 : decode cX11_sleeper 11 = .ok (.invokestatic 57, 3) := by decide +kernel
theorem dX11_sleeper_14 : decode cX11_sleeper 14 = .ok (.ifCond .ne 5, 3) := by decide +kernel
theorem dX11_sleeper_17 : decode cX11_sleeper 17 = .ok (.iconst (-1), 1) := by decide +kernel
theorem dX11_sleeper_18 : decode cX11_sleeper 18 = .ok (.ireturn, 1) := by decide +kernel
theorem dX11_sleeper_19 : decode cX11_sleeper 19 = .ok (.aload_n 0, 1) := by decide +kernel
theorem dX11_sleeper_20 : decode cX11_sleeper 20 = .ok (.getfield 10, 3) := by decide +kernel
theorem dX11_sleeper_23 : decode cX11_sleeper 23 = .ok (.getfield 61, 3) := by decide +kernel
theorem dX11_sleeper_26 : decode cX11_sleeper 26 = .ok (.iconst 5, 1) := by decide +kernel
theorem dX11_sleeper_27 : decode cX11_sleeper 27 = .ok (.if_icmp .lt 6, 3) := by decide +kernel
theorem dX11_sleeper_30 : decode cX11_sleeper 30 = .ok (.bipush (-3), 2) := by decide +kernel
theorem dX11_sleeper_32 : decode cX11_sleeper 32 = .ok (.ireturn, 1) := by decide +kernel
theorem dX11_sleeper_33 : decode cX11_sleeper 33 = .ok (.aload_n 0, 1) := by decide +kernel
theorem dX11_sleeper_34 : decode cX11_sleeper 34 = .ok (.getfield 19, 3) := by decide +kernel
theorem dX11_sleeper_37 : decode cX11_sleeper 37 = .ok (.invokevirtual 65, 3) := by decide +kernel
theorem dX11_sleeper_40 : decode cX11_sleeper 40 = .ok (.aload_n 0, 1) := by decide +kernel
theorem dX11_sleeper_41 : decode cX11_sleeper 41 = .ok (.getfield 10, 3) := by decide +kernel
theorem dX11_sleeper_44 : decode cX11_sleeper 44 = .ok (.iload_n 1, 1) := by decide +kernel
theorem dX11_sleeper_45 : decode cX11_sleeper 45 = .ok (.iload_n 2, 1) := by decide +kernel
theorem dX11_sleeper_46 : decode cX11_sleeper 46 = .ok (.invokevirtual 68, 3) := by decide +kernel
theorem dX11_sleeper_49 : decode cX11_sleeper 49 = .ok (.aload_n 0, 1) := by decide +kernel
theorem dX11_sleeper_50 : decode cX11_sleeper 50 = .ok (.getfield 10, 3) := by decide +kernel
theorem dX11_sleeper_53 : decode cX11_sleeper 53 = .ok (.getfield 61, 3) := by decide +kernel
theorem dX11_sleeper_56 : decode cX11_sleeper 56 = .ok (.iconst 1, 1) := by decide +kernel
theorem dX11_sleeper_57 : decode cX11_sleeper 57 = .ok (.isub, 1) := by decide +kernel
theorem dX11_sleeper_58 : decode cX11_sleeper 58 = .ok (.ireturn, 1) := by decide +kernel
theorem dX11_thing_0 : decode cX11_thing 0 = .ok (.iload_n 1, 1) := by decide +kernel
theorem dX11_thing_1 : decode cX11_thing 1 = .ok (.iconst 0, 1) := by decide +kernel
theorem dX11_thing_2 : decode cX11_thing 2 = .ok (.iconst 4, 1) := by decide +kernel
theorem dX11_thing_3 : decode cX11_thing 3 = .ok (.invokestatic 57, 3) := by decide +kernel
theorem dX11_thing_6 : decode cX11_thing 6 = .ok (.ifCond .eq 28, 3) := by decide +kernel
theorem dX11_thing_9 : decode cX11_thing 9 = .ok (.iload_n 2, 1) := by decide +kernel
theorem dX11_thing_10 : decode cX11_thing 10 = .ok (.invokestatic 72, 3) := by decide +kernel
theorem dX11_thing_13 : decode cX11_thing 13 = .ok (.ifCond .eq 21, 3) := by decide +kernel
theorem dX11_thing_16 : decode cX11_thing 16 = .ok (.iload_n 3, 1) := by decide +kernel
theorem dX11_thing_17 : decode cX11_thing 17 = .ok (.iconst 1, 1) := by decide +kernel
theorem dX11_thing_18 : decode cX11_thing 18 = .ok (.bipush 9, 2) := by decide +kernel
theorem dX11_thing_20 : decode cX11_thing 20 = .ok (.invokestatic 57, 3) := by decide +kernel
theorem dX11_thing_23 : decode cX11_thing 23 = .ok (.ifCond .eq 11, 3) := by decide +kernel
theorem dX11_thing_26 : decode cX11_thing 26 = .ok (.iload 4, 2) := by decide +kernel
theorem dX11_thing_28 : decode cX11_thing 28 = .ok (.invokestatic 53, 3) := by decide +kernel
theorem dX11_thing_31 : decode cX11_thing 31 = .ok (.ifCond .ne 5, 3) := by decide +kernel
theorem dX11_thing_34 : decode cX11_thing 34 = .ok (.iconst (-1), 1) := by decide +kernel
theorem dX11_thing_35 : decode cX11_thing 35 = .ok (.ireturn, 1) := by decide +kernel
theorem dX11_thing_36 : decode cX11_thing 36 = .ok (.aload_n 0, 1) := by decide +kernel
theorem dX11_thing_37 : decode cX11_thing 37 = .ok (.getfield 10, 3) := by decide +kernel
theorem dX11_thing_40 : decode cX11_thing 40 = .ok (.getfield 75, 3) := by decide +kernel
theorem dX11_thing_43 : decode cX11_thing 43 = .ok (.bipush 8, 2) := by decide +kernel
theorem dX11_thing_45 : decode cX11_thing 45 = .ok (.if_icmp .lt 6, 3) := by decide +kernel
theorem dX11_thing_48 : decode cX11_thing 48 = .ok (.bipush (-3), 2) := by decide +kernel
theorem dX11_thing_50 : decode cX11_thing 50 = .ok (.ireturn, 1) := by decide +kernel
theorem dX11_thing_51 : decode cX11_thing 51 = .ok (.aload_n 0, 1) := by decide +kernel
theorem dX11_thing_52 : decode cX11_thing 52 = .ok (.getfield 19, 3) := by decide +kernel
theorem dX11_thing_55 : decode cX11_thing 55 = .ok (.invokevirtual 65, 3) := by decide +kernel
theorem dX11_thing_58 : decode cX11_thing 58 = .ok (.aload_n 0, 1) := by decide +kernel
theorem dX11_thing_59 : decode cX11_thing 59 = .ok (.getfield 10, 3) := by decide +kernel
theorem dX11_thing_62 : decode cX11_thing 62 = .ok (.iload_n 1, 1) := by decide +kernel
theorem dX11_thing_63 : decode cX11_thing 63 = .ok (.iload_n 2, 1) := by decide +kernel
theorem dX11_thing_64 : decode cX11_thing 64 = .ok (.iload_n 3, 1) := by decide +kernel
theorem dX11_thing_65 : decode cX11_thing 65 = .ok (.iload 4, 2) := by decide +kernel
theorem dX11_thing_67 : decode cX11_thing 67 = .ok (.invokevirtual 78, 3) := by decide +kernel
theorem dX11_thing_70 : decode cX11_thing 70 = .ok (.aload_n 0, 1) := by decide +kernel
theorem dX11_thing_71 : decode cX11_thing 71 = .ok (.getfield 10, 3) := by decide +kernel
theorem dX11_thing_74 : decode cX11_thing 74 = .ok (.getfield 75, 3) := by decide +kernel
theorem dX11_thing_77 : decode cX11_thing 77 = .ok (.iconst 1, 1) := by decide +kernel
theorem dX11_thing_78 : decode cX11_thing 78 = .ok (.isub, 1) := by decide +kernel
theorem dX11_thing_79 : decode cX11_thing 79 = .ok (.ireturn, 1) := by decide +kernel
theorem dX11_of_0 : decode cX11_of 0 = .ok (.aload_n 0, 1) := by decide +kernel
theorem dX11_of_1 : decode cX11_of 1 = .ok (.getfield 10, 3) := by decide +kernel
theorem dX11_of_4 : decode cX11_of 4 = .ok (.iload_n 1, 1) := by decide +kernel
theorem dX11_of_5 : decode cX11_of 5 = .ok (.invokevirtual 82, 3) := by decide +kernel
theorem dX11_of_8 : decode cX11_of 8 = .ok (.ifCond .ne 5, 3) := by decide +kernel
theorem dX11_of_11 : decode cX11_of 11 = .ok (.iconst (-1), 1) := by decide +kernel
theorem dX11_of_12 : decode cX11_of 12 = .ok (.ireturn, 1) := by decide +kernel
theorem dX11_of_13 : decode cX11_of 13 = .ok (.iload_n 2, 1) := by decide +kernel
theorem dX11_of_14 : decode cX11_of 14 = .ok (.tableswitch 104 0 4 #[34, 44, 54, 67, 80], 34) := by decide +kernel
theorem dX11_of_48 : decode cX11_of 48 = .ok (.aload_n 0, 1) := by decide +kernel
theorem dX11_of_49 : decode cX11_of 49 = .ok (.getfield 10, 3) := by decide +kernel
theorem dX11_of_52 : decode cX11_of 52 = .ok (.getfield 85, 3) := by decide +kernel
theorem dX11_of_55 : decode cX11_of 55 = .ok (.iload_n 1, 1) := by decide +kernel
theorem dX11_of_56 : decode cX11_of 56 = .ok (.iaload, 1) := by decide +kernel
theorem dX11_of_57 : decode cX11_of 57 = .ok (.ireturn, 1) := by decide +kernel
theorem dX11_of_58 : decode cX11_of 58 = .ok (.aload_n 0, 1) := by decide +kernel
theorem dX11_of_59 : decode cX11_of 59 = .ok (.getfield 10, 3) := by decide +kernel
theorem dX11_of_62 : decode cX11_of 62 = .ok (.getfield 89, 3) := by decide +kernel
theorem dX11_of_65 : decode cX11_of 65 = .ok (.iload_n 1, 1) := by decide +kernel
theorem dX11_of_66 : decode cX11_of 66 = .ok (.iaload, 1) := by decide +kernel
theorem dX11_of_67 : decode cX11_of 67 = .ok (.ireturn, 1) := by decide +kernel
theorem dX11_of_68 : decode cX11_of 68 = .ok (.aload_n 0, 1) := by decide +kernel
theorem dX11_of_69 : decode cX11_of 69 = .ok (.getfield 10, 3) := by decide +kernel
theorem dX11_of_72 : decode cX11_of 72 = .ok (.getfield 92, 3) := by decide +kernel
theorem dX11_of_75 : decode cX11_of 75 = .ok (.getfield 96, 3) := by decide +kernel
theorem dX11_of_78 : decode cX11_of 78 = .ok (.iload_n 1, 1) := by decide +kernel
theorem dX11_of_79 : decode cX11_of 79 = .ok (.iaload, 1) := by decide +kernel
theorem dX11_of_80 : decode cX11_of 80 = .ok (.ireturn, 1) := by decide +kernel
theorem dX11_of_81 : decode cX11_of 81 = .ok (.aload_n 0, 1) := by decide +kernel
theorem dX11_of_82 : decode cX11_of 82 = .ok (.getfield 10, 3) := by decide +kernel
theorem dX11_of_85 : decode cX11_of 85 = .ok (.getfield 92, 3) := by decide +kernel
theorem dX11_of_88 : decode cX11_of 88 = .ok (.getfield 101, 3) := by decide +kernel
theorem dX11_of_91 : decode cX11_of 91 = .ok (.iload_n 1, 1) := by decide +kernel
theorem dX11_of_92 : decode cX11_of 92 = .ok (.iaload, 1) := by decide +kernel
theorem dX11_of_93 : decode cX11_of 93 = .ok (.ireturn, 1) := by decide +kernel
theorem dX11_of_94 : decode cX11_of 94 = .ok (.aload_n 0, 1) := by decide +kernel
theorem dX11_of_95 : decode cX11_of 95 = .ok (.getfield 10, 3) := by decide +kernel
theorem dX11_of_98 : decode cX11_of 98 = .ok (.invokevirtual 104, 3) := by decide +kernel
theorem dX11_of_101 : decode cX11_of 101 = .ok (.aload_n 0, 1) := by decide +kernel
theorem dX11_of_102 : decode cX11_of 102 = .ok (.getfield 10, 3) := by decide +kernel
theorem dX11_of_105 : decode cX11_of 105 = .ok (.iload_n 1, 1) := by decide +kernel
theorem dX11_of_106 : decode cX11_of 106 = .ok (.invokevirtual 107, 3) := by decide +kernel
theorem dX11_of_109 : decode cX11_of 109 = .ok (.ifCond .eq 7, 3) := by decide +kernel
theorem dX11_of_112 : decode cX11_of 112 = .ok (.iconst 1, 1) := by decide +kernel
theorem dX11_of_113 : decode cX11_of 113 = .ok (.goto 4, 3) := by decide +kernel
theorem dX11_of_116 : decode cX11_of 116 = .ok (.iconst 0, 1) := by decide +kernel
theorem dX11_of_117 : decode cX11_of 117 = .ok (.ireturn, 1) := by decide +kernel
theorem dX11_of_118 : decode cX11_of 118 = .ok (.iconst (-1), 1) := by decide +kernel
theorem dX11_of_119 : decode cX11_of 119 = .ok (.ireturn, 1) := by decide +kernel
theorem dX11_gift_0 : decode cX11_gift 0 = .ok (.aload_n 0, 1) := by decide +kernel
theorem dX11_gift_1 : decode cX11_gift 1 = .ok (.getfield 10, 3) := by decide +kernel
theorem dX11_gift_4 : decode cX11_gift 4 = .ok (.iload_n 1, 1) := by decide +kernel
theorem dX11_gift_5 : decode cX11_gift 5 = .ok (.invokevirtual 110, 3) := by decide +kernel
theorem dX11_gift_8 : decode cX11_gift 8 = .ok (.ifCond .ne 5, 3) := by decide +kernel
theorem dX11_gift_11 : decode cX11_gift 11 = .ok (.iconst (-1), 1) := by decide +kernel
theorem dX11_gift_12 : decode cX11_gift 12 = .ok (.ireturn, 1) := by decide +kernel
theorem dX11_gift_13 : decode cX11_gift 13 = .ok (.iload_n 2, 1) := by decide +kernel
theorem dX11_gift_14 : decode cX11_gift 14 = .ok (.tableswitch 119 0 5 #[38, 48, 61, 71, 84, 97], 38) := by decide +kernel
theorem dX11_gift_52 : decode cX11_gift 52 = .ok (.aload_n 0, 1) := by decide +kernel
theorem dX11_gift_53 : decode cX11_gift 53 = .ok (.getfield 10, 3) := by decide +kernel
theorem dX11_gift_56 : decode cX11_gift 56 = .ok (.getfield 113, 3) := by decide +kernel
theorem dX11_gift_59 : decode cX11_gift 59 = .ok (.iload_n 1, 1) := by decide +kernel
theorem dX11_gift_60 : decode cX11_gift 60 = .ok (.iaload, 1) := by decide +kernel
theorem dX11_gift_61 : decode cX11_gift 61 = .ok (.ireturn, 1) := by decide +kernel
theorem dX11_gift_62 : decode cX11_gift 62 = .ok (.aload_n 0, 1) := by decide +kernel
theorem dX11_gift_63 : decode cX11_gift 63 = .ok (.getfield 10, 3) := by decide +kernel
theorem dX11_gift_66 : decode cX11_gift 66 = .ok (.getfield 92, 3) := by decide +kernel
theorem dX11_gift_69 : decode cX11_gift 69 = .ok (.getfield 116, 3) := by decide +kernel
theorem dX11_gift_72 : decode cX11_gift 72 = .ok (.iload_n 1, 1) := by decide +kernel
theorem dX11_gift_73 : decode cX11_gift 73 = .ok (.iaload, 1) := by decide +kernel
theorem dX11_gift_74 : decode cX11_gift 74 = .ok (.ireturn, 1) := by decide +kernel
theorem dX11_gift_75 : decode cX11_gift 75 = .ok (.aload_n 0, 1) := by decide +kernel
theorem dX11_gift_76 : decode cX11_gift 76 = .ok (.getfield 10, 3) := by decide +kernel
theorem dX11_gift_79 : decode cX11_gift 79 = .ok (.getfield 119, 3) := by decide +kernel
theorem dX11_gift_82 : decode cX11_gift 82 = .ok (.iload_n 1, 1) := by decide +kernel
theorem dX11_gift_83 : decode cX11_gift 83 = .ok (.iaload, 1) := by decide +kernel
theorem dX11_gift_84 : decode cX11_gift 84 = .ok (.ireturn, 1) := by decide +kernel
theorem dX11_gift_85 : decode cX11_gift 85 = .ok (.aload_n 0, 1) := by decide +kernel
theorem dX11_gift_86 : decode cX11_gift 86 = .ok (.getfield 10, 3) := by decide +kernel
theorem dX11_gift_89 : decode cX11_gift 89 = .ok (.getfield 92, 3) := by decide +kernel
theorem dX11_gift_92 : decode cX11_gift 92 = .ok (.getfield 122, 3) := by decide +kernel
theorem dX11_gift_95 : decode cX11_gift 95 = .ok (.iload_n 1, 1) := by decide +kernel
theorem dX11_gift_96 : decode cX11_gift 96 = .ok (.iaload, 1) := by decide +kernel
theorem dX11_gift_97 : decode cX11_gift 97 = .ok (.ireturn, 1) := by decide +kernel
theorem dX11_gift_98 : decode cX11_gift 98 = .ok (.aload_n 0, 1) := by decide +kernel
theorem dX11_gift_99 : decode cX11_gift 99 = .ok (.getfield 10, 3) := by decide +kernel
theorem dX11_gift_102 : decode cX11_gift 102 = .ok (.getfield 92, 3) := by decide +kernel
theorem dX11_gift_105 : decode cX11_gift 105 = .ok (.getfield 125, 3) := by decide +kernel
theorem dX11_gift_108 : decode cX11_gift 108 = .ok (.iload_n 1, 1) := by decide +kernel
theorem dX11_gift_109 : decode cX11_gift 109 = .ok (.iaload, 1) := by decide +kernel
theorem dX11_gift_110 : decode cX11_gift 110 = .ok (.ireturn, 1) := by decide +kernel
theorem dX11_gift_111 : decode cX11_gift 111 = .ok (.aload_n 0, 1) := by decide +kernel
theorem dX11_gift_112 : decode cX11_gift 112 = .ok (.getfield 10, 3) := by decide +kernel
theorem dX11_gift_115 : decode cX11_gift 115 = .ok (.iload_n 1, 1) := by decide +kernel
theorem dX11_gift_116 : decode cX11_gift 116 = .ok (.aload_n 0, 1) := by decide +kernel
theorem dX11_gift_117 : decode cX11_gift 117 = .ok (.getfield 10, 3) := by decide +kernel
theorem dX11_gift_120 : decode cX11_gift 120 = .ok (.getfield 92, 3) := by decide +kernel
theorem dX11_gift_123 : decode cX11_gift 123 = .ok (.getfield 125, 3) := by decide +kernel
theorem dX11_gift_126 : decode cX11_gift 126 = .ok (.iload_n 1, 1) := by decide +kernel
theorem dX11_gift_127 : decode cX11_gift 127 = .ok (.iaload, 1) := by decide +kernel
theorem dX11_gift_128 : decode cX11_gift 128 = .ok (.iconst 0, 1) := by decide +kernel
theorem dX11_gift_129 : decode cX11_gift 129 = .ok (.invokevirtual 128, 3) := by decide +kernel
theorem dX11_gift_132 : decode cX11_gift 132 = .ok (.ireturn, 1) := by decide +kernel
theorem dX11_gift_133 : decode cX11_gift 133 = .ok (.iconst (-1), 1) := by decide +kernel
theorem dX11_gift_134 : decode cX11_gift 134 = .ok (.ireturn, 1) := by decide +kernel
theorem dX11_room_0 : decode cX11_room 0 = .ok (.iload_n 1, 1) := by decide +kernel
theorem dX11_room_1 : decode cX11_room 1 = .ok (.invokestatic 53, 3) := by decide +kernel
theorem dX11_room_4 : decode cX11_room 4 = .ok (.ifCond .ne 5, 3) := by decide +kernel
theorem dX11_room_7 : decode cX11_room 7 = .ok (.iconst (-1), 1) := by decide +kernel
theorem dX11_room_8 : decode cX11_room 8 = .ok (.ireturn, 1) := by decide +kernel
theorem dX11_room_9 : decode cX11_room 9 = .ok (.iload_n 2, 1) := by decide +kernel
theorem dX11_room_10 : decode cX11_room 10 = .ok (.tableswitch 61 0 2 #[26, 43, 52], 26) := by decide +kernel
theorem dX11_room_36 : decode cX11_room 36 = .ok (.aload_n 0, 1) := by decide +kernel
theorem dX11_room_37 : decode cX11_room 37 = .ok (.getfield 10, 3) := by decide +kernel
theorem dX11_room_40 : decode cX11_room 40 = .ok (.invokevirtual 104, 3) := by decide +kernel
theorem dX11_room_43 : decode cX11_room 43 = .ok (.aload_n 0, 1) := by decide +kernel
theorem dX11_room_44 : decode cX11_room 44 = .ok (.getfield 10, 3) := by decide +kernel
theorem dX11_room_47 : decode cX11_room 47 = .ok (.getfield 132, 3) := by decide +kernel
theorem dX11_room_50 : decode cX11_room 50 = .ok (.iload_n 1, 1) := by decide +kernel
theorem dX11_room_51 : decode cX11_room 51 = .ok (.iaload, 1) := by decide +kernel
theorem dX11_room_52 : decode cX11_room 52 = .ok (.ireturn, 1) := by decide +kernel
theorem dX11_room_53 : decode cX11_room 53 = .ok (.aload_n 0, 1) := by decide +kernel
theorem dX11_room_54 : decode cX11_room 54 = .ok (.getfield 10, 3) := by decide +kernel
theorem dX11_room_57 : decode cX11_room 57 = .ok (.iload_n 1, 1) := by decide +kernel
theorem dX11_room_58 : decode cX11_room 58 = .ok (.invokevirtual 135, 3) := by decide +kernel
theorem dX11_room_61 : decode cX11_room 61 = .ok (.ireturn, 1) := by decide +kernel
theorem dX11_room_62 : decode cX11_room 62 = .ok (.aload_n 0, 1) := by decide +kernel
theorem dX11_room_63 : decode cX11_room 63 = .ok (.getfield 10, 3) := by decide +kernel
theorem dX11_room_66 : decode cX11_room 66 = .ok (.iload_n 1, 1) := by decide +kernel
theorem dX11_room_67 : decode cX11_room 67 = .ok (.invokevirtual 139, 3) := by decide +kernel
theorem dX11_room_70 : decode cX11_room 70 = .ok (.ireturn, 1) := by decide +kernel
theorem dX11_room_71 : decode cX11_room 71 = .ok (.iconst (-1), 1) := by decide +kernel
theorem dX11_room_72 : decode cX11_room 72 = .ok (.ireturn, 1) := by decide +kernel
theorem dX11_bed_0 : decode cX11_bed 0 = .ok (.aload_n 0, 1) := by decide +kernel
theorem dX11_bed_1 : decode cX11_bed 1 = .ok (.getfield 10, 3) := by decide +kernel
theorem dX11_bed_4 : decode cX11_bed 4 = .ok (.iload_n 1, 1) := by decide +kernel
theorem dX11_bed_5 : decode cX11_bed 5 = .ok (.invokevirtual 82, 3) := by decide +kernel
theorem dX11_bed_8 : decode cX11_bed 8 = .ok (.ifCond .eq 10, 3) := by decide +kernel
theorem dX11_bed_11 : decode cX11_bed 11 = .ok (.iload_n 2, 1) := by decide +kernel
theorem dX11_bed_12 : decode cX11_bed 12 = .ok (.invokestatic 53, 3) := by decide +kernel
theorem dX11_bed_15 : decode cX11_bed 15 = .ok (.ifCond .ne 5, 3) := by decide +kernel
theorem dX11_bed_18 : decode cX11_bed 18 = .ok (.iconst (-1), 1) := by decide +kernel
theorem dX11_bed_19 : decode cX11_bed 19 = .ok (.ireturn, 1) := by decide +kernel
theorem dX11_bed_20 : decode cX11_bed 20 = .ok (.aload_n 0, 1) := by decide +kernel
theorem dX11_bed_21 : decode cX11_bed 21 = .ok (.getfield 10, 3) := by decide +kernel
theorem dX11_bed_24 : decode cX11_bed 24 = .ok (.getfield 85, 3) := by decide +kernel
theorem dX11_bed_27 : decode cX11_bed 27 = .ok (.iload_n 1, 1) := by decide +kernel
theorem dX11_bed_28 : decode cX11_bed 28 = .ok (.iaload, 1) := by decide +kernel
theorem dX11_bed_29 : decode cX11_bed 29 = .ok (.istore_n 3, 1) := by decide +kernel
theorem dX11_bed_30 : decode cX11_bed 30 = .ok (.aload_n 0, 1) := by decide +kernel
theorem dX11_bed_31 : decode cX11_bed 31 = .ok (.getfield 10, 3) := by decide +kernel
theorem dX11_bed_34 : decode cX11_bed 34 = .ok (.getfield 85, 3) := by decide +kernel
theorem dX11_bed_37 : decode cX11_bed 37 = .ok (.iload_n 1, 1) := by decide +kernel
theorem dX11_bed_38 : decode cX11_bed 38 = .ok (.iload_n 2, 1) := by decide +kernel
theorem dX11_bed_39 : decode cX11_bed 39 = .ok (.iastore, 1) := by decide +kernel
theorem dX11_bed_40 : decode cX11_bed 40 = .ok (.iload_n 3, 1) := by decide +kernel
theorem dX11_bed_41 : decode cX11_bed 41 = .ok (.ireturn, 1) := by decide +kernel
theorem dX11_type_0 : decode cX11_type 0 = .ok (.iload_n 1, 1) := by decide +kernel
theorem dX11_type_1 : decode cX11_type 1 = .ok (.bipush 32, 2) := by decide +kernel
theorem dX11_type_3 : decode cX11_type 3 = .ok (.bipush 126, 2) := by decide +kernel
theorem dX11_type_5 : decode cX11_type 5 = .ok (.invokestatic 57, 3) := by decide +kernel
theorem dX11_type_8 : decode cX11_type 8 = .ok (.ifCond .ne 5, 3) := by decide +kernel
theorem dX11_type_11 : decode cX11_type 11 = .ok (.iconst (-1), 1) := by decide +kernel
theorem dX11_type_12 : decode cX11_type 12 = .ok (.ireturn, 1) := by decide +kernel
theorem dX11_type_13 : decode cX11_type 13 = .ok (.aload_n 0, 1) := by decide +kernel
theorem dX11_type_14 : decode cX11_type 14 = .ok (.getfield 35, 3) := by decide +kernel
theorem dX11_type_17 : decode cX11_type 17 = .ok (.getfield 142, 3) := by decide +kernel
theorem dX11_type_20 : decode cX11_type 20 = .ok (.bipush 80, 2) := by decide +kernel
theorem dX11_type_22 : decode cX11_type 22 = .ok (.if_icmp .lt 6, 3) := by decide +kernel
theorem dX11_type_25 : decode cX11_type 25 = .ok (.bipush (-3), 2) := by decide +kernel
theorem dX11_type_27 : decode cX11_type 27 = .ok (.ireturn, 1) := by decide +kernel
theorem dX11_type_28 : decode cX11_type 28 = .ok (.aload_n 0, 1) := by decide +kernel
theorem dX11_type_29 : decode cX11_type 29 = .ok (.getfield 35, 3) := by decide +kernel
theorem dX11_type_32 : decode cX11_type 32 = .ok (.iload_n 1, 1) := by decide +kernel
theorem dX11_type_33 : decode cX11_type 33 = .ok (.i2c, 1) := by decide +kernel
theorem dX11_type_34 : decode cX11_type 34 = .ok (.invokevirtual 145, 3) := by decide +kernel
theorem dX11_type_37 : decode cX11_type 37 = .ok (.aload_n 0, 1) := by decide +kernel
theorem dX11_type_38 : decode cX11_type 38 = .ok (.getfield 35, 3) := by decide +kernel
theorem dX11_type_41 : decode cX11_type 41 = .ok (.getfield 142, 3) := by decide +kernel
theorem dX11_type_44 : decode cX11_type 44 = .ok (.ireturn, 1) := by decide +kernel
theorem dX11_house_0 : decode cX11_house 0 = .ok (.aload_n 0, 1) := by decide +kernel
theorem dX11_house_1 : decode cX11_house 1 = .ok (.getfield 29, 3) := by decide +kernel
theorem dX11_house_4 : decode cX11_house 4 = .ok (.aload_n 0, 1) := by decide +kernel
theorem dX11_house_5 : decode cX11_house 5 = .ok (.getfield 10, 3) := by decide +kernel
theorem dX11_house_8 : decode cX11_house 8 = .ok (.getfield 92, 3) := by decide +kernel
theorem dX11_house_11 : decode cX11_house 11 = .ok (.getfield 149, 3) := by decide +kernel
theorem dX11_house_14 : decode cX11_house 14 = .ok (.invokevirtual 152, 3) := by decide +kernel
theorem dX11_house_17 : decode cX11_house 17 = .ok (.aload_n 0, 1) := by decide +kernel
theorem dX11_house_18 : decode cX11_house 18 = .ok (.getfield 35, 3) := by decide +kernel
theorem dX11_house_21 : decode cX11_house 21 = .ok (.aload_n 0, 1) := by decide +kernel
theorem dX11_house_22 : decode cX11_house 22 = .ok (.getfield 29, 3) := by decide +kernel
theorem dX11_house_25 : decode cX11_house 25 = .ok (.invokevirtual 156, 3) := by decide +kernel
theorem dX11_house_28 : decode cX11_house 28 = .ok (.istore_n 1, 1) := by decide +kernel
theorem dX11_house_29 : decode cX11_house 29 = .ok (.aload_n 0, 1) := by decide +kernel
theorem dX11_house_30 : decode cX11_house 30 = .ok (.getfield 35, 3) := by decide +kernel
theorem dX11_house_33 : decode cX11_house 33 = .ok (.getfield 160, 3) := by decide +kernel
theorem dX11_house_36 : decode cX11_house 36 = .ok (.istore_n 2, 1) := by decide +kernel
theorem dX11_house_37 : decode cX11_house 37 = .ok (.aload_n 0, 1) := by decide +kernel
theorem dX11_house_38 : decode cX11_house 38 = .ok (.getfield 35, 3) := by decide +kernel
theorem dX11_house_41 : decode cX11_house 41 = .ok (.invokevirtual 162, 3) := by decide +kernel
theorem dX11_house_44 : decode cX11_house 44 = .ok (.iload_n 1, 1) := by decide +kernel
theorem dX11_house_45 : decode cX11_house 45 = .ok (.ifCond .ne 8, 3) := by decide +kernel
theorem dX11_house_48 : decode cX11_house 48 = .ok (.bipush (-20), 2) := by decide +kernel
theorem dX11_house_50 : decode cX11_house 50 = .ok (.iload_n 2, 1) := by decide +kernel
theorem dX11_house_51 : decode cX11_house 51 = .ok (.isub, 1) := by decide +kernel
theorem dX11_house_52 : decode cX11_house 52 = .ok (.ireturn, 1) := by decide +kernel
theorem dX11_house_53 : decode cX11_house 53 = .ok (.aload_n 0, 1) := by decide +kernel
theorem dX11_house_54 : decode cX11_house 54 = .ok (.getfield 19, 3) := by decide +kernel
theorem dX11_house_57 : decode cX11_house 57 = .ok (.invokevirtual 65, 3) := by decide +kernel
theorem dX11_house_60 : decode cX11_house 60 = .ok (.aload_n 0, 1) := by decide +kernel
theorem dX11_house_61 : decode cX11_house 61 = .ok (.getfield 10, 3) := by decide +kernel
theorem dX11_house_64 : decode cX11_house 64 = .ok (.aload_n 0, 1) := by decide +kernel
theorem dX11_house_65 : decode cX11_house 65 = .ok (.getfield 29, 3) := by decide +kernel
theorem dX11_house_68 : decode cX11_house 68 = .ok (.invokevirtual 164, 3) := by decide +kernel
theorem dX11_house_71 : decode cX11_house 71 = .ok (.aload_n 0, 1) := by decide +kernel
theorem dX11_house_72 : decode cX11_house 72 = .ok (.getfield 10, 3) := by decide +kernel
theorem dX11_house_75 : decode cX11_house 75 = .ok (.getfield 61, 3) := by decide +kernel
theorem dX11_house_78 : decode cX11_house 78 = .ok (.ireturn, 1) := by decide +kernel
theorem dX11_count_0 : decode cX11_count 0 = .ok (.iload_n 1, 1) := by decide +kernel
theorem dX11_count_1 : decode cX11_count 1 = .ok (.tableswitch 165 0 8 #[51, 59, 67, 78, 99, 107, 115, 136, 157], 51) := by decide +kernel
theorem dX11_count_52 : decode cX11_count 52 = .ok (.aload_n 0, 1) := by decide +kernel
theorem dX11_count_53 : decode cX11_count 53 = .ok (.getfield 10, 3) := by decide +kernel
theorem dX11_count_56 : decode cX11_count 56 = .ok (.getfield 61, 3) := by decide +kernel
theorem dX11_count_59 : decode cX11_count 59 = .ok (.ireturn, 1) := by decide +kernel
theorem dX11_count_60 : decode cX11_count 60 = .ok (.aload_n 0, 1) := by decide +kernel
theorem dX11_count_61 : decode cX11_count 61 = .ok (.getfield 10, 3) := by decide +kernel
theorem dX11_count_64 : decode cX11_count 64 = .ok (.getfield 75, 3) := by decide +kernel
theorem dX11_count_67 : decode cX11_count 67 = .ok (.ireturn, 1) := by decide +kernel
theorem dX11_count_68 : decode cX11_count 68 = .ok (.aload_n 0, 1) := by decide +kernel
theorem dX11_count_69 : decode cX11_count 69 = .ok (.getfield 10, 3) := by decide +kernel
theorem dX11_count_72 : decode cX11_count 72 = .ok (.getfield 92, 3) := by decide +kernel
theorem dX11_count_75 : decode cX11_count 75 = .ok (.getfield 168, 3) := by decide +kernel
theorem dX11_count_78 : decode cX11_count 78 = .ok (.ireturn, 1) := by decide +kernel
theorem dX11_count_79 : decode cX11_count 79 = .ok (.aload_n 0, 1) := by decide +kernel
theorem dX11_count_80 : decode cX11_count 80 = .ok (.getfield 10, 3) := by decide +kernel
theorem dX11_count_83 : decode cX11_count 83 = .ok (.getfield 92, 3) := by decide +kernel
theorem dX11_count_86 : decode cX11_count 86 = .ok (.getfield 125, 3) := by decide +kernel
theorem dX11_count_89 : decode cX11_count 89 = .ok (.aload_n 0, 1) := by decide +kernel
theorem dX11_count_90 : decode cX11_count 90 = .ok (.getfield 10, 3) := by decide +kernel
theorem dX11_count_93 : decode cX11_count 93 = .ok (.getfield 75, 3) := by decide +kernel
theorem dX11_count_96 : decode cX11_count 96 = .ok (.invokestatic 171, 3) := by decide +kernel
theorem dX11_count_99 : decode cX11_count 99 = .ok (.ireturn, 1) := by decide +kernel
theorem dX11_count_100 : decode cX11_count 100 = .ok (.aload_n 0, 1) := by decide +kernel
theorem dX11_count_101 : decode cX11_count 101 = .ok (.getfield 10, 3) := by decide +kernel
theorem dX11_count_104 : decode cX11_count 104 = .ok (.invokevirtual 175, 3) := by decide +kernel
theorem dX11_count_107 : decode cX11_count 107 = .ok (.ireturn, 1) := by decide +kernel
theorem dX11_count_108 : decode cX11_count 108 = .ok (.aload_n 0, 1) := by decide +kernel
theorem dX11_count_109 : decode cX11_count 109 = .ok (.getfield 10, 3) := by decide +kernel
theorem dX11_count_112 : decode cX11_count 112 = .ok (.invokevirtual 179, 3) := by decide +kernel
theorem dX11_count_115 : decode cX11_count 115 = .ok (.ireturn, 1) := by decide +kernel
theorem dX11_count_116 : decode cX11_count 116 = .ok (.aload_n 0, 1) := by decide +kernel
theorem dX11_count_117 : decode cX11_count 117 = .ok (.getfield 10, 3) := by decide +kernel
theorem dX11_count_120 : decode cX11_count 120 = .ok (.getfield 92, 3) := by decide +kernel
theorem dX11_count_123 : decode cX11_count 123 = .ok (.getfield 96, 3) := by decide +kernel
theorem dX11_count_126 : decode cX11_count 126 = .ok (.aload_n 0, 1) := by decide +kernel
theorem dX11_count_127 : decode cX11_count 127 = .ok (.getfield 10, 3) := by decide +kernel
theorem dX11_count_130 : decode cX11_count 130 = .ok (.getfield 61, 3) := by decide +kernel
theorem dX11_count_133 : decode cX11_count 133 = .ok (.invokestatic 171, 3) := by decide +kernel
theorem dX11_count_136 : decode cX11_count 136 = .ok (.ireturn, 1) := by decide +kernel
theorem dX11_count_137 : decode cX11_count 137 = .ok (.aload_n 0, 1) := by decide +kernel
theorem dX11_count_138 : decode cX11_count 138 = .ok (.getfield 10, 3) := by decide +kernel
theorem dX11_count_141 : decode cX11_count 141 = .ok (.getfield 92, 3) := by decide +kernel
theorem dX11_count_144 : decode cX11_count 144 = .ok (.getfield 101, 3) := by decide +kernel
theorem dX11_count_147 : decode cX11_count 147 = .ok (.aload_n 0, 1) := by decide +kernel
theorem dX11_count_148 : decode cX11_count 148 = .ok (.getfield 10, 3) := by decide +kernel
theorem dX11_count_151 : decode cX11_count 151 = .ok (.getfield 61, 3) := by decide +kernel
theorem dX11_count_154 : decode cX11_count 154 = .ok (.invokestatic 171, 3) := by decide +kernel
theorem dX11_count_157 : decode cX11_count 157 = .ok (.ireturn, 1) := by decide +kernel
theorem dX11_count_158 : decode cX11_count 158 = .ok (.aload_n 0, 1) := by decide +kernel
theorem dX11_count_159 : decode cX11_count 159 = .ok (.getfield 19, 3) := by decide +kernel
theorem dX11_count_162 : decode cX11_count 162 = .ok (.getfield 182, 3) := by decide +kernel
theorem dX11_count_165 : decode cX11_count 165 = .ok (.ireturn, 1) := by decide +kernel
theorem dX11_count_166 : decode cX11_count 166 = .ok (.iconst (-1), 1) := by decide +kernel
theorem dX11_count_167 : decode cX11_count 167 = .ok (.ireturn, 1) := by decide +kernel
theorem dX11_nights_0 : decode cX11_nights 0 = .ok (.aload_n 0, 1) := by decide +kernel
theorem dX11_nights_1 : decode cX11_nights 1 = .ok (.iload_n 1, 1) := by decide +kernel
theorem dX11_nights_2 : decode cX11_nights 2 = .ok (.iconst 0, 1) := by decide +kernel
theorem dX11_nights_3 : decode cX11_nights 3 = .ok (.invokevirtual 185, 3) := by decide +kernel
theorem dX11_nights_6 : decode cX11_nights 6 = .ok (.ireturn, 1) := by decide +kernel
theorem dX11_move_0 : decode cX11_move 0 = .ok (.aload_n 0, 1) := by decide +kernel
theorem dX11_move_1 : decode cX11_move 1 = .ok (.getfield 10, 3) := by decide +kernel
theorem dX11_move_4 : decode cX11_move 4 = .ok (.iload_n 1, 1) := by decide +kernel
theorem dX11_move_5 : decode cX11_move 5 = .ok (.invokevirtual 110, 3) := by decide +kernel
theorem dX11_move_8 : decode cX11_move 8 = .ok (.ifCond .eq 10, 3) := by decide +kernel
theorem dX11_move_11 : decode cX11_move 11 = .ok (.iload_n 2, 1) := by decide +kernel
theorem dX11_move_12 : decode cX11_move 12 = .ok (.invokestatic 53, 3) := by decide +kernel
theorem dX11_move_15 : decode cX11_move 15 = .ok (.ifCond .ne 5, 3) := by decide +kernel
theorem dX11_move_18 : decode cX11_move 18 = .ok (.iconst (-1), 1) := by decide +kernel
theorem dX11_move_19 : decode cX11_move 19 = .ok (.ireturn, 1) := by decide +kernel
theorem dX11_move_20 : decode cX11_move 20 = .ok (.aload_n 0, 1) := by decide +kernel
theorem dX11_move_21 : decode cX11_move 21 = .ok (.getfield 10, 3) := by decide +kernel
theorem dX11_move_24 : decode cX11_move 24 = .ok (.getfield 92, 3) := by decide +kernel
theorem dX11_move_27 : decode cX11_move 27 = .ok (.getfield 122, 3) := by decide +kernel
theorem dX11_move_30 : decode cX11_move 30 = .ok (.iload_n 1, 1) := by decide +kernel
theorem dX11_move_31 : decode cX11_move 31 = .ok (.iaload, 1) := by decide +kernel
theorem dX11_move_32 : decode cX11_move 32 = .ok (.istore_n 3, 1) := by decide +kernel
theorem dX11_move_33 : decode cX11_move 33 = .ok (.iload_n 3, 1) := by decide +kernel
theorem dX11_move_34 : decode cX11_move 34 = .ok (.iload_n 2, 1) := by decide +kernel
theorem dX11_move_35 : decode cX11_move 35 = .ok (.if_icmp .ne 6, 3) := by decide +kernel
theorem dX11_move_38 : decode cX11_move 38 = .ok (.bipush (-2), 2) := by decide +kernel
theorem dX11_move_40 : decode cX11_move 40 = .ok (.ireturn, 1) := by decide +kernel
theorem dX11_move_41 : decode cX11_move 41 = .ok (.aload_n 0, 1) := by decide +kernel
theorem dX11_move_42 : decode cX11_move 42 = .ok (.getfield 19, 3) := by decide +kernel
theorem dX11_move_45 : decode cX11_move 45 = .ok (.aload_n 0, 1) := by decide +kernel
theorem dX11_move_46 : decode cX11_move 46 = .ok (.getfield 10, 3) := by decide +kernel
theorem dX11_move_49 : decode cX11_move 49 = .ok (.getfield 92, 3) := by decide +kernel
theorem dX11_move_52 : decode cX11_move 52 = .ok (.invokevirtual 189, 3) := by decide +kernel
theorem dX11_move_55 : decode cX11_move 55 = .ok (.aload_n 0, 1) := by decide +kernel
theorem dX11_move_56 : decode cX11_move 56 = .ok (.getfield 10, 3) := by decide +kernel
theorem dX11_move_59 : decode cX11_move 59 = .ok (.getfield 92, 3) := by decide +kernel
theorem dX11_move_62 : decode cX11_move 62 = .ok (.getfield 122, 3) := by decide +kernel
theorem dX11_move_65 : decode cX11_move 65 = .ok (.iload_n 1, 1) := by decide +kernel
theorem dX11_move_66 : decode cX11_move 66 = .ok (.iload_n 2, 1) := by decide +kernel
theorem dX11_move_67 : decode cX11_move 67 = .ok (.iastore, 1) := by decide +kernel
theorem dX11_move_68 : decode cX11_move 68 = .ok (.iload_n 3, 1) := by decide +kernel
theorem dX11_move_69 : decode cX11_move 69 = .ok (.ireturn, 1) := by decide +kernel
theorem dX11_pass_0 : decode cX11_pass 0 = .ok (.aload_n 0, 1) := by decide +kernel
theorem dX11_pass_1 : decode cX11_pass 1 = .ok (.getfield 10, 3) := by decide +kernel
theorem dX11_pass_4 : decode cX11_pass 4 = .ok (.iload_n 1, 1) := by decide +kernel
theorem dX11_pass_5 : decode cX11_pass 5 = .ok (.invokevirtual 110, 3) := by decide +kernel
theorem dX11_pass_8 : decode cX11_pass 8 = .ok (.ifCond .eq 10, 3) := by decide +kernel
theorem dX11_pass_11 : decode cX11_pass 11 = .ok (.iload_n 2, 1) := by decide +kernel
theorem dX11_pass_12 : decode cX11_pass 12 = .ok (.invokestatic 72, 3) := by decide +kernel
theorem dX11_pass_15 : decode cX11_pass 15 = .ok (.ifCond .ne 5, 3) := by decide +kernel
theorem dX11_pass_18 : decode cX11_pass 18 = .ok (.iconst (-1), 1) := by decide +kernel
theorem dX11_pass_19 : decode cX11_pass 19 = .ok (.ireturn, 1) := by decide +kernel
theorem dX11_pass_20 : decode cX11_pass 20 = .ok (.aload_n 0, 1) := by decide +kernel
theorem dX11_pass_21 : decode cX11_pass 21 = .ok (.getfield 10, 3) := by decide +kernel
theorem dX11_pass_24 : decode cX11_pass 24 = .ok (.getfield 92, 3) := by decide +kernel
theorem dX11_pass_27 : decode cX11_pass 27 = .ok (.getfield 116, 3) := by decide +kernel
theorem dX11_pass_30 : decode cX11_pass 30 = .ok (.iload_n 1, 1) := by decide +kernel
theorem dX11_pass_31 : decode cX11_pass 31 = .ok (.iaload, 1) := by decide +kernel
theorem dX11_pass_32 : decode cX11_pass 32 = .ok (.iload_n 2, 1) := by decide +kernel
theorem dX11_pass_33 : decode cX11_pass 33 = .ok (.if_icmp .ne 6, 3) := by decide +kernel
theorem dX11_pass_36 : decode cX11_pass 36 = .ok (.bipush (-2), 2) := by decide +kernel
theorem dX11_pass_38 : decode cX11_pass 38 = .ok (.ireturn, 1) := by decide +kernel
theorem dX11_pass_39 : decode cX11_pass 39 = .ok (.aload_n 0, 1) := by decide +kernel
theorem dX11_pass_40 : decode cX11_pass 40 = .ok (.getfield 19, 3) := by decide +kernel
theorem dX11_pass_43 : decode cX11_pass 43 = .ok (.aload_n 0, 1) := by decide +kernel
theorem dX11_pass_44 : decode cX11_pass 44 = .ok (.getfield 10, 3) := by decide +kernel
theorem dX11_pass_47 : decode cX11_pass 47 = .ok (.getfield 92, 3) := by decide +kernel
theorem dX11_pass_50 : decode cX11_pass 50 = .ok (.invokevirtual 189, 3) := by decide +kernel
theorem dX11_pass_53 : decode cX11_pass 53 = .ok (.aload_n 0, 1) := by decide +kernel
theorem dX11_pass_54 : decode cX11_pass 54 = .ok (.getfield 10, 3) := by decide +kernel
theorem dX11_pass_57 : decode cX11_pass 57 = .ok (.getfield 92, 3) := by decide +kernel
theorem dX11_pass_60 : decode cX11_pass 60 = .ok (.getfield 125, 3) := by decide +kernel
theorem dX11_pass_63 : decode cX11_pass 63 = .ok (.iload_n 1, 1) := by decide +kernel
theorem dX11_pass_64 : decode cX11_pass 64 = .ok (.iaload, 1) := by decide +kernel
theorem dX11_pass_65 : decode cX11_pass 65 = .ok (.istore_n 3, 1) := by decide +kernel
theorem dX11_pass_66 : decode cX11_pass 66 = .ok (.aload_n 0, 1) := by decide +kernel
theorem dX11_pass_67 : decode cX11_pass 67 = .ok (.getfield 10, 3) := by decide +kernel
theorem dX11_pass_70 : decode cX11_pass 70 = .ok (.getfield 92, 3) := by decide +kernel
theorem dX11_pass_73 : decode cX11_pass 73 = .ok (.getfield 116, 3) := by decide +kernel
theorem dX11_pass_76 : decode cX11_pass 76 = .ok (.iload_n 1, 1) := by decide +kernel
theorem dX11_pass_77 : decode cX11_pass 77 = .ok (.iload_n 2, 1) := by decide +kernel
theorem dX11_pass_78 : decode cX11_pass 78 = .ok (.iastore, 1) := by decide +kernel
theorem dX11_pass_79 : decode cX11_pass 79 = .ok (.aload_n 0, 1) := by decide +kernel
theorem dX11_pass_80 : decode cX11_pass 80 = .ok (.getfield 10, 3) := by decide +kernel
theorem dX11_pass_83 : decode cX11_pass 83 = .ok (.getfield 92, 3) := by decide +kernel
theorem dX11_pass_86 : decode cX11_pass 86 = .ok (.getfield 125, 3) := by decide +kernel
theorem dX11_pass_89 : decode cX11_pass 89 = .ok (.iload_n 1, 1) := by decide +kernel
theorem dX11_pass_90 : decode cX11_pass 90 = .ok (.aload_n 0, 1) := by decide +kernel
theorem dX11_pass_91 : decode cX11_pass 91 = .ok (.getfield 10, 3) := by decide +kernel
theorem dX11_pass_94 : decode cX11_pass 94 = .ok (.getfield 119, 3) := by decide +kernel
theorem dX11_pass_97 : decode cX11_pass 97 = .ok (.iload_n 1, 1) := by decide +kernel
theorem dX11_pass_98 : decode cX11_pass 98 = .ok (.iaload, 1) := by decide +kernel
theorem dX11_pass_99 : decode cX11_pass 99 = .ok (.invokestatic 193, 3) := by decide +kernel
theorem dX11_pass_102 : decode cX11_pass 102 = .ok (.iastore, 1) := by decide +kernel
theorem dX11_pass_103 : decode cX11_pass 103 = .ok (.iload_n 3, 1) := by decide +kernel
theorem dX11_pass_104 : decode cX11_pass 104 = .ok (.ireturn, 1) := by decide +kernel
theorem dX11_back_0 : decode cX11_back 0 = .ok (.aload_n 0, 1) := by decide +kernel
theorem dX11_back_1 : decode cX11_back 1 = .ok (.getfield 10, 3) := by decide +kernel
theorem dX11_back_4 : decode cX11_back 4 = .ok (.iload_n 1, 1) := by decide +kernel
theorem dX11_back_5 : decode cX11_back 5 = .ok (.invokevirtual 110, 3) := by decide +kernel
theorem dX11_back_8 : decode cX11_back 8 = .ok (.ifCond .ne 5, 3) := by decide +kernel
theorem dX11_back_11 : decode cX11_back 11 = .ok (.iconst (-1), 1) := by decide +kernel
theorem dX11_back_12 : decode cX11_back 12 = .ok (.ireturn, 1) := by decide +kernel
theorem dX11_back_13 : decode cX11_back 13 = .ok (.aload_n 0, 1) := by decide +kernel
theorem dX11_back_14 : decode cX11_back 14 = .ok (.getfield 10, 3) := by decide +kernel
theorem dX11_back_17 : decode cX11_back 17 = .ok (.getfield 92, 3) := by decide +kernel
theorem dX11_back_20 : decode cX11_back 20 = .ok (.getfield 125, 3) := by decide +kernel
theorem dX11_back_23 : decode cX11_back 23 = .ok (.iload_n 1, 1) := by decide +kernel
theorem dX11_back_24 : decode cX11_back 24 = .ok (.iaload, 1) := by decide +kernel
theorem dX11_back_25 : decode cX11_back 25 = .ok (.istore_n 2, 1) := by decide +kernel
theorem dX11_back_26 : decode cX11_back 26 = .ok (.iload_n 2, 1) := by decide +kernel
theorem dX11_back_27 : decode cX11_back 27 = .ok (.ifCond .ne 6, 3) := by decide +kernel
theorem dX11_back_30 : decode cX11_back 30 = .ok (.bipush (-2), 2) := by decide +kernel
theorem dX11_back_32 : decode cX11_back 32 = .ok (.ireturn, 1) := by decide +kernel
theorem dX11_back_33 : decode cX11_back 33 = .ok (.aload_n 0, 1) := by decide +kernel
theorem dX11_back_34 : decode cX11_back 34 = .ok (.getfield 19, 3) := by decide +kernel
theorem dX11_back_37 : decode cX11_back 37 = .ok (.aload_n 0, 1) := by decide +kernel
theorem dX11_back_38 : decode cX11_back 38 = .ok (.getfield 10, 3) := by decide +kernel
theorem dX11_back_41 : decode cX11_back 41 = .ok (.getfield 92, 3) := by decide +kernel
theorem dX11_back_44 : decode cX11_back 44 = .ok (.invokevirtual 189, 3) := by decide +kernel
theorem dX11_back_47 : decode cX11_back 47 = .ok (.aload_n 0, 1) := by decide +kernel
theorem dX11_back_48 : decode cX11_back 48 = .ok (.getfield 10, 3) := by decide +kernel
theorem dX11_back_51 : decode cX11_back 51 = .ok (.getfield 92, 3) := by decide +kernel
theorem dX11_back_54 : decode cX11_back 54 = .ok (.getfield 125, 3) := by decide +kernel
theorem dX11_back_57 : decode cX11_back 57 = .ok (.iload_n 1, 1) := by decide +kernel
theorem dX11_back_58 : decode cX11_back 58 = .ok (.iconst 0, 1) := by decide +kernel
theorem dX11_back_59 : decode cX11_back 59 = .ok (.iastore, 1) := by decide +kernel
theorem dX11_back_60 : decode cX11_back 60 = .ok (.iload_n 2, 1) := by decide +kernel
theorem dX11_back_61 : decode cX11_back 61 = .ok (.ireturn, 1) := by decide +kernel
theorem dX11_drift_0 : decode cX11_drift 0 = .ok (.aload_n 0, 1) := by decide +kernel
theorem dX11_drift_1 : decode cX11_drift 1 = .ok (.iload_n 1, 1) := by decide +kernel
theorem dX11_drift_2 : decode cX11_drift 2 = .ok (.iconst 1, 1) := by decide +kernel
theorem dX11_drift_3 : decode cX11_drift 3 = .ok (.invokevirtual 185, 3) := by decide +kernel
theorem dX11_drift_6 : decode cX11_drift 6 = .ok (.ireturn, 1) := by decide +kernel
theorem dX11_undo_0 : decode cX11_undo 0 = .ok (.aload_n 0, 1) := by decide +kernel
theorem dX11_undo_1 : decode cX11_undo 1 = .ok (.getfield 19, 3) := by decide +kernel
theorem dX11_undo_4 : decode cX11_undo 4 = .ok (.getfield 182, 3) := by decide +kernel
theorem dX11_undo_7 : decode cX11_undo 7 = .ok (.ifCond .ne 6, 3) := by decide +kernel
theorem dX11_undo_10 : decode cX11_undo 10 = .ok (.bipush (-4), 2) := by decide +kernel
theorem dX11_undo_12 : decode cX11_undo 12 = .ok (.ireturn, 1) := by decide +kernel
theorem dX11_undo_13 : decode cX11_undo 13 = .ok (.aload_n 0, 1) := by decide +kernel
theorem dX11_undo_14 : decode cX11_undo 14 = .ok (.getfield 19, 3) := by decide +kernel
theorem dX11_undo_17 : decode cX11_undo 17 = .ok (.aload_n 0, 1) := by decide +kernel
theorem dX11_undo_18 : decode cX11_undo 18 = .ok (.getfield 10, 3) := by decide +kernel
theorem dX11_undo_21 : decode cX11_undo 21 = .ok (.getfield 92, 3) := by decide +kernel
theorem dX11_undo_24 : decode cX11_undo 24 = .ok (.invokevirtual 196, 3) := by decide +kernel
theorem dX11_undo_27 : decode cX11_undo 27 = .ok (.aload_n 0, 1) := by decide +kernel
theorem dX11_undo_28 : decode cX11_undo 28 = .ok (.getfield 19, 3) := by decide +kernel
theorem dX11_undo_31 : decode cX11_undo 31 = .ok (.getfield 182, 3) := by decide +kernel
theorem dX11_undo_34 : decode cX11_undo 34 = .ok (.ireturn, 1) := by decide +kernel
theorem dX11_seed_0 : decode cX11_seed 0 = .ok (.iload_n 1, 1) := by decide +kernel
theorem dX11_seed_1 : decode cX11_seed 1 = .ok (.ifCond .ge 5, 3) := by decide +kernel
theorem dX11_seed_4 : decode cX11_seed 4 = .ok (.iconst (-1), 1) := by decide +kernel
theorem dX11_seed_5 : decode cX11_seed 5 = .ok (.ireturn, 1) := by decide +kernel
theorem dX11_seed_6 : decode cX11_seed 6 = .ok (.aload_n 0, 1) := by decide +kernel
theorem dX11_seed_7 : decode cX11_seed 7 = .ok (.getfield 10, 3) := by decide +kernel
theorem dX11_seed_10 : decode cX11_seed 10 = .ok (.getfield 92, 3) := by decide +kernel
theorem dX11_seed_13 : decode cX11_seed 13 = .ok (.getfield 149, 3) := by decide +kernel
theorem dX11_seed_16 : decode cX11_seed 16 = .ok (.istore_n 2, 1) := by decide +kernel
theorem dX11_seed_17 : decode cX11_seed 17 = .ok (.aload_n 0, 1) := by decide +kernel
theorem dX11_seed_18 : decode cX11_seed 18 = .ok (.getfield 10, 3) := by decide +kernel
theorem dX11_seed_21 : decode cX11_seed 21 = .ok (.getfield 92, 3) := by decide +kernel
theorem dX11_seed_24 : decode cX11_seed 24 = .ok (.iload_n 1, 1) := by decide +kernel
theorem dX11_seed_25 : decode cX11_seed 25 = .ok (.putfield 149, 3) := by decide +kernel
theorem dX11_seed_28 : decode cX11_seed 28 = .ok (.iload_n 2, 1) := by decide +kernel
theorem dX11_seed_29 : decode cX11_seed 29 = .ok (.ireturn, 1) := by decide +kernel
theorem dX11_ahead_0 : decode cX11_ahead 0 = .ok (.aload_n 0, 1) := by decide +kernel
theorem dX11_ahead_1 : decode cX11_ahead 1 = .ok (.getfield 10, 3) := by decide +kernel
theorem dX11_ahead_4 : decode cX11_ahead 4 = .ok (.iload_n 1, 1) := by decide +kernel
theorem dX11_ahead_5 : decode cX11_ahead 5 = .ok (.invokevirtual 110, 3) := by decide +kernel
theorem dX11_ahead_8 : decode cX11_ahead 8 = .ok (.ifCond .eq 13, 3) := by decide +kernel
theorem dX11_ahead_11 : decode cX11_ahead 11 = .ok (.iload_n 2, 1) := by decide +kernel
theorem dX11_ahead_12 : decode cX11_ahead 12 = .ok (.iconst 0, 1) := by decide +kernel
theorem dX11_ahead_13 : decode cX11_ahead 13 = .ok (.bipush 60, 2) := by decide +kernel
theorem dX11_ahead_15 : decode cX11_ahead 15 = .ok (.invokestatic 57, 3) := by decide +kernel
theorem dX11_ahead_18 : decode cX11_ahead 18 = .ok (.ifCond .ne 5, 3) := by decide +kernel
theorem dX11_ahead_21 : decode cX11_ahead 21 = .ok (.iconst (-1), 1) := by decide +kernel
theorem dX11_ahead_22 : decode cX11_ahead 22 = .ok (.ireturn, 1) := by decide +kernel
theorem dX11_ahead_23 : decode cX11_ahead 23 = .ok (.aload_n 0, 1) := by decide +kernel
theorem dX11_ahead_24 : decode cX11_ahead 24 = .ok (.getfield 10, 3) := by decide +kernel
theorem dX11_ahead_27 : decode cX11_ahead 27 = .ok (.getfield 92, 3) := by decide +kernel
theorem dX11_ahead_30 : decode cX11_ahead 30 = .ok (.getfield 125, 3) := by decide +kernel
theorem dX11_ahead_33 : decode cX11_ahead 33 = .ok (.iload_n 1, 1) := by decide +kernel
theorem dX11_ahead_34 : decode cX11_ahead 34 = .ok (.iaload, 1) := by decide +kernel
theorem dX11_ahead_35 : decode cX11_ahead 35 = .ok (.istore_n 3, 1) := by decide +kernel
theorem dX11_ahead_36 : decode cX11_ahead 36 = .ok (.iconst 0, 1) := by decide +kernel
theorem dX11_ahead_37 : decode cX11_ahead 37 = .ok (.istore 4, 2) := by decide +kernel
theorem dX11_ahead_39 : decode cX11_ahead 39 = .ok (.iload 4, 2) := by decide +kernel
theorem dX11_ahead_41 : decode cX11_ahead 41 = .ok (.iload_n 2, 1) := by decide +kernel
theorem dX11_ahead_42 : decode cX11_ahead 42 = .ok (.if_icmp .ge 38, 3) := by decide +kernel
theorem dX11_ahead_45 : decode cX11_ahead 45 = .ok (.aload_n 0, 1) := by decide +kernel
theorem dX11_ahead_46 : decode cX11_ahead 46 = .ok (.getfield 10, 3) := by decide +kernel
theorem dX11_ahead_49 : decode cX11_ahead 49 = .ok (.aload_n 0, 1) := by decide +kernel
theorem dX11_ahead_50 : decode cX11_ahead 50 = .ok (.getfield 10, 3) := by decide +kernel
theorem dX11_ahead_53 : decode cX11_ahead 53 = .ok (.getfield 113, 3) := by decide +kernel
theorem dX11_ahead_56 : decode cX11_ahead 56 = .ok (.iload_n 1, 1) := by decide +kernel
theorem dX11_ahead_57 : decode cX11_ahead 57 = .ok (.iaload, 1) := by decide +kernel
theorem dX11_ahead_58 : decode cX11_ahead 58 = .ok (.aload_n 0, 1) := by decide +kernel
theorem dX11_ahead_59 : decode cX11_ahead 59 = .ok (.getfield 10, 3) := by decide +kernel
theorem dX11_ahead_62 : decode cX11_ahead 62 = .ok (.getfield 119, 3) := by decide +kernel
theorem dX11_ahead_65 : decode cX11_ahead 65 = .ok (.iload_n 1, 1) := by decide +kernel
theorem dX11_ahead_66 : decode cX11_ahead 66 = .ok (.iaload, 1) := by decide +kernel
theorem dX11_ahead_67 : decode cX11_ahead 67 = .ok (.iload_n 3, 1) := by decide +kernel
theorem dX11_ahead_68 : decode cX11_ahead 68 = .ok (.iload 4, 2) := by decide +kernel
theorem dX11_ahead_70 : decode cX11_ahead 70 = .ok (.invokevirtual 199, 3) := by decide +kernel
theorem dX11_ahead_73 : decode cX11_ahead 73 = .ok (.istore_n 3, 1) := by decide +kernel
theorem dX11_ahead_74 : decode cX11_ahead 74 = .ok (.iinc 4 1, 3) := by decide +kernel
theorem dX11_ahead_77 : decode cX11_ahead 77 = .ok (.goto (-38), 3) := by decide +kernel
theorem dX11_ahead_80 : decode cX11_ahead 80 = .ok (.iload_n 3, 1) := by decide +kernel
theorem dX11_ahead_81 : decode cX11_ahead 81 = .ok (.ireturn, 1) := by decide +kernel
theorem dX11_loudAhead_0 : decode cX11_loudAhead 0 = .ok (.iload_n 1, 1) := by decide +kernel
theorem dX11_loudAhead_1 : decode cX11_loudAhead 1 = .ok (.invokestatic 53, 3) := by decide +kernel
theorem dX11_loudAhead_4 : decode cX11_loudAhead 4 = .ok (.ifCond .eq 13, 3) := by decide +kernel
theorem dX11_loudAhead_7 : decode cX11_loudAhead 7 = .ok (.iload_n 2, 1) := by decide +kernel
theorem dX11_loudAhead_8 : decode cX11_loudAhead 8 = .ok (.iconst 0, 1) := by decide +kernel
theorem dX11_loudAhead_9 : decode cX11_loudAhead 9 = .ok (.bipush 60, 2) := by decide +kernel
theorem dX11_loudAhead_11 : decode cX11_loudAhead 11 = .ok (.invokestatic 57, 3) := by decide +kernel
theorem dX11_loudAhead_14 : decode cX11_loudAhead 14 = .ok (.ifCond .ne 5, 3) := by decide +kernel
theorem dX11_loudAhead_17 : decode cX11_loudAhead 17 = .ok (.iconst (-1), 1) := by decide +kernel
theorem dX11_loudAhead_18 : decode cX11_loudAhead 18 = .ok (.ireturn, 1) := by decide +kernel
theorem dX11_loudAhead_19 : decode cX11_loudAhead 19 = .ok (.aload_n 0, 1) := by decide +kernel
theorem dX11_loudAhead_20 : decode cX11_loudAhead 20 = .ok (.getfield 42, 3) := by decide +kernel
theorem dX11_loudAhead_23 : decode cX11_loudAhead 23 = .ok (.aload_n 0, 1) := by decide +kernel
theorem dX11_loudAhead_24 : decode cX11_loudAhead 24 = .ok (.getfield 10, 3) := by decide +kernel
theorem dX11_loudAhead_27 : decode cX11_loudAhead 27 = .ok (.iload_n 2, 1) := by decide +kernel
theorem dX11_loudAhead_28 : decode cX11_loudAhead 28 = .ok (.iconst 1, 1) := by decide +kernel
theorem dX11_loudAhead_29 : decode cX11_loudAhead 29 = .ok (.iadd, 1) := by decide +kernel
theorem dX11_loudAhead_30 : decode cX11_loudAhead 30 = .ok (.invokevirtual 203, 3) := by decide +kernel
theorem dX11_loudAhead_33 : decode cX11_loudAhead 33 = .ok (.aload_n 0, 1) := by decide +kernel
theorem dX11_loudAhead_34 : decode cX11_loudAhead 34 = .ok (.getfield 42, 3) := by decide +kernel
theorem dX11_loudAhead_37 : decode cX11_loudAhead 37 = .ok (.iload_n 2, 1) := by decide +kernel
theorem dX11_loudAhead_38 : decode cX11_loudAhead 38 = .ok (.iconst 0, 1) := by decide +kernel
theorem dX11_loudAhead_39 : decode cX11_loudAhead 39 = .ok (.invokevirtual 207, 3) := by decide +kernel
theorem dX11_loudAhead_42 : decode cX11_loudAhead 42 = .ok (.aload_n 0, 1) := by decide +kernel
theorem dX11_loudAhead_43 : decode cX11_loudAhead 43 = .ok (.getfield 42, 3) := by decide +kernel
theorem dX11_loudAhead_46 : decode cX11_loudAhead 46 = .ok (.getfield 209, 3) := by decide +kernel
theorem dX11_loudAhead_49 : decode cX11_loudAhead 49 = .ok (.iload_n 1, 1) := by decide +kernel
theorem dX11_loudAhead_50 : decode cX11_loudAhead 50 = .ok (.iaload, 1) := by decide +kernel
theorem dX11_loudAhead_51 : decode cX11_loudAhead 51 = .ok (.ireturn, 1) := by decide +kernel
theorem dX11_sleeps_0 : decode cX11_sleeps 0 = .ok (.aload_n 0, 1) := by decide +kernel
theorem dX11_sleeps_1 : decode cX11_sleeps 1 = .ok (.getfield 10, 3) := by decide +kernel
theorem dX11_sleeps_4 : decode cX11_sleeps 4 = .ok (.iload_n 1, 1) := by decide +kernel
theorem dX11_sleeps_5 : decode cX11_sleeps 5 = .ok (.invokevirtual 82, 3) := by decide +kernel
theorem dX11_sleeps_8 : decode cX11_sleeps 8 = .ok (.ifCond .eq 13, 3) := by decide +kernel
theorem dX11_sleeps_11 : decode cX11_sleeps 11 = .ok (.iload_n 2, 1) := by decide +kernel
theorem dX11_sleeps_12 : decode cX11_sleeps 12 = .ok (.iconst 0, 1) := by decide +kernel
theorem dX11_sleeps_13 : decode cX11_sleeps 13 = .ok (.bipush 60, 2) := by decide +kernel
theorem dX11_sleeps_15 : decode cX11_sleeps 15 = .ok (.invokestatic 57, 3) := by decide +kernel
theorem dX11_sleeps_18 : decode cX11_sleeps 18 = .ok (.ifCond .ne 5, 3) := by decide +kernel
theorem dX11_sleeps_21 : decode cX11_sleeps 21 = .ok (.iconst (-1), 1) := by decide +kernel
theorem dX11_sleeps_22 : decode cX11_sleeps 22 = .ok (.ireturn, 1) := by decide +kernel
theorem dX11_sleeps_23 : decode cX11_sleeps 23 = .ok (.aload_n 0, 1) := by decide +kernel
theorem dX11_sleeps_24 : decode cX11_sleeps 24 = .ok (.getfield 42, 3) := by decide +kernel
theorem dX11_sleeps_27 : decode cX11_sleeps 27 = .ok (.aload_n 0, 1) := by decide +kernel
theorem dX11_sleeps_28 : decode cX11_sleeps 28 = .ok (.getfield 10, 3) := by decide +kernel
theorem dX11_sleeps_31 : decode cX11_sleeps 31 = .ok (.iload_n 2, 1) := by decide +kernel
theorem dX11_sleeps_32 : decode cX11_sleeps 32 = .ok (.invokevirtual 203, 3) := by decide +kernel
theorem dX11_sleeps_35 : decode cX11_sleeps 35 = .ok (.iload_n 2, 1) := by decide +kernel
theorem dX11_sleeps_36 : decode cX11_sleeps 36 = .ok (.aload_n 0, 1) := by decide +kernel
theorem dX11_sleeps_37 : decode cX11_sleeps 37 = .ok (.getfield 42, 3) := by decide +kernel
theorem dX11_sleeps_40 : decode cX11_sleeps 40 = .ok (.aload_n 0, 1) := by decide +kernel
theorem dX11_sleeps_41 : decode cX11_sleeps 41 = .ok (.getfield 10, 3) := by decide +kernel
theorem dX11_sleeps_44 : decode cX11_sleeps 44 = .ok (.getfield 85, 3) := by decide +kernel
theorem dX11_sleeps_47 : decode cX11_sleeps 47 = .ok (.iload_n 1, 1) := by decide +kernel
theorem dX11_sleeps_48 : decode cX11_sleeps 48 = .ok (.iaload, 1) := by decide +kernel
theorem dX11_sleeps_49 : decode cX11_sleeps 49 = .ok (.aload_n 0, 1) := by decide +kernel
theorem dX11_sleeps_50 : decode cX11_sleeps 50 = .ok (.getfield 10, 3) := by decide +kernel
theorem dX11_sleeps_53 : decode cX11_sleeps 53 = .ok (.getfield 89, 3) := by decide +kernel
theorem dX11_sleeps_56 : decode cX11_sleeps 56 = .ok (.iload_n 1, 1) := by decide +kernel
theorem dX11_sleeps_57 : decode cX11_sleeps 57 = .ok (.iaload, 1) := by decide +kernel
theorem dX11_sleeps_58 : decode cX11_sleeps 58 = .ok (.invokevirtual 210, 3) := by decide +kernel
theorem dX11_sleeps_61 : decode cX11_sleeps 61 = .ok (.isub, 1) := by decide +kernel
theorem dX11_sleeps_62 : decode cX11_sleeps 62 = .ok (.ireturn, 1) := by decide +kernel
theorem dX11_peace_0 : decode cX11_peace 0 = .ok (.aload_n 0, 1) := by decide +kernel
theorem dX11_peace_1 : decode cX11_peace 1 = .ok (.getfield 42, 3) := by decide +kernel
theorem dX11_peace_4 : decode cX11_peace 4 = .ok (.aload_n 0, 1) := by decide +kernel
theorem dX11_peace_5 : decode cX11_peace 5 = .ok (.getfield 10, 3) := by decide +kernel
theorem dX11_peace_8 : decode cX11_peace 8 = .ok (.bipush 61, 2) := by decide +kernel
theorem dX11_peace_10 : decode cX11_peace 10 = .ok (.invokevirtual 203, 3) := by decide +kernel
theorem dX11_peace_13 : decode cX11_peace 13 = .ok (.iconst 0, 1) := by decide +kernel
theorem dX11_peace_14 : decode cX11_peace 14 = .ok (.istore_n 1, 1) := by decide +kernel
theorem dX11_peace_15 : decode cX11_peace 15 = .ok (.iload_n 1, 1) := by decide +kernel
theorem dX11_peace_16 : decode cX11_peace 16 = .ok (.bipush 60, 2) := by decide +kernel
theorem dX11_peace_18 : decode cX11_peace 18 = .ok (.if_icmp .gt 27, 3) := by decide +kernel
theorem dX11_peace_21 : decode cX11_peace 21 = .ok (.aload_n 0, 1) := by decide +kernel
theorem dX11_peace_22 : decode cX11_peace 22 = .ok (.getfield 42, 3) := by decide +kernel
theorem dX11_peace_25 : decode cX11_peace 25 = .ok (.aload_n 0, 1) := by decide +kernel
theorem dX11_peace_26 : decode cX11_peace 26 = .ok (.getfield 10, 3) := by decide +kernel
theorem dX11_peace_29 : decode cX11_peace 29 = .ok (.iload_n 1, 1) := by decide +kernel
theorem dX11_peace_30 : decode cX11_peace 30 = .ok (.iconst 0, 1) := by decide +kernel
theorem dX11_peace_31 : decode cX11_peace 31 = .ok (.invokevirtual 214, 3) := by decide +kernel
theorem dX11_peace_34 : decode cX11_peace 34 = .ok (.ifCond .ne 5, 3) := by decide +kernel
theorem dX11_peace_37 : decode cX11_peace 37 = .ok (.iload_n 1, 1) := by decide +kernel
theorem dX11_peace_38 : decode cX11_peace 38 = .ok (.ireturn, 1) := by decide +kernel
theorem dX11_peace_39 : decode cX11_peace 39 = .ok (.iinc 1 1, 3) := by decide +kernel
theorem dX11_peace_42 : decode cX11_peace 42 = .ok (.goto (-27), 3) := by decide +kernel
theorem dX11_peace_45 : decode cX11_peace 45 = .ok (.bipush (-4), 2) := by decide +kernel
theorem dX11_peace_47 : decode cX11_peace 47 = .ok (.ireturn, 1) := by decide +kernel
theorem dX11_best_0 : decode cX11_best 0 = .ok (.aload_n 0, 1) := by decide +kernel
theorem dX11_best_1 : decode cX11_best 1 = .ok (.getfield 10, 3) := by decide +kernel
theorem dX11_best_4 : decode cX11_best 4 = .ok (.iload_n 1, 1) := by decide +kernel
theorem dX11_best_5 : decode cX11_best 5 = .ok (.invokevirtual 110, 3) := by decide +kernel
theorem dX11_best_8 : decode cX11_best 8 = .ok (.ifCond .eq 22, 3) := by decide +kernel
theorem dX11_best_11 : decode cX11_best 11 = .ok (.iload_n 2, 1) := by decide +kernel
theorem dX11_best_12 : decode cX11_best 12 = .ok (.iconst 1, 1) := by decide +kernel
theorem dX11_best_13 : decode cX11_best 13 = .ok (.bipush 40, 2) := by decide +kernel
theorem dX11_best_15 : decode cX11_best 15 = .ok (.invokestatic 57, 3) := by decide +kernel
theorem dX11_best_18 : decode cX11_best 18 = .ok (.ifCond .eq 12, 3) := by decide +kernel
theorem dX11_best_21 : decode cX11_best 21 = .ok (.iload_n 3, 1) := by decide +kernel
theorem dX11_best_22 : decode cX11_best 22 = .ok (.iconst 0, 1) := by decide +kernel
theorem dX11_best_23 : decode cX11_best 23 = .ok (.iconst 1, 1) := by decide +kernel
theorem dX11_best_24 : decode cX11_best 24 = .ok (.invokestatic 57, 3) := by decide +kernel
theorem dX11_best_27 : decode cX11_best 27 = .ok (.ifCond .ne 5, 3) := by decide +kernel
theorem dX11_best_30 : decode cX11_best 30 = .ok (.iconst (-1), 1) := by decide +kernel
theorem dX11_best_31 : decode cX11_best 31 = .ok (.ireturn, 1) := by decide +kernel
theorem dX11_best_32 : decode cX11_best 32 = .ok (.aload_n 0, 1) := by decide +kernel
theorem dX11_best_33 : decode cX11_best 33 = .ok (.getfield 42, 3) := by decide +kernel
theorem dX11_best_36 : decode cX11_best 36 = .ok (.aload_n 0, 1) := by decide +kernel
theorem dX11_best_37 : decode cX11_best 37 = .ok (.getfield 10, 3) := by decide +kernel
theorem dX11_best_40 : decode cX11_best 40 = .ok (.iload_n 2, 1) := by decide +kernel
theorem dX11_best_41 : decode cX11_best 41 = .ok (.invokevirtual 203, 3) := by decide +kernel
theorem dX11_best_44 : decode cX11_best 44 = .ok (.iconst 0, 1) := by decide +kernel
theorem dX11_best_45 : decode cX11_best 45 = .ok (.istore 4, 2) := by decide +kernel
theorem dX11_best_47 : decode cX11_best 47 = .ok (.iconst 0, 1) := by decide +kernel
theorem dX11_best_48 : decode cX11_best 48 = .ok (.istore 5, 2) := by decide +kernel
theorem dX11_best_50 : decode cX11_best 50 = .ok (.iconst 0, 1) := by decide +kernel
theorem dX11_best_51 : decode cX11_best 51 = .ok (.istore 6, 2) := by decide +kernel
theorem dX11_best_53 : decode cX11_best 53 = .ok (.iload 6, 2) := by decide +kernel
theorem dX11_best_55 : decode cX11_best 55 = .ok (.iconst 4, 1) := by decide +kernel
theorem dX11_best_56 : decode cX11_best 56 = .ok (.if_icmp .ge 53, 3) := by decide +kernel
theorem dX11_best_59 : decode cX11_best 59 = .ok (.aload_n 0, 1) := by decide +kernel
theorem dX11_best_60 : decode cX11_best 60 = .ok (.getfield 42, 3) := by decide +kernel
theorem dX11_best_63 : decode cX11_best 63 = .ok (.getfield 218, 3) := by decide +kernel
theorem dX11_best_66 : decode cX11_best 66 = .ok (.iload_n 1, 1) := by decide +kernel
theorem dX11_best_67 : decode cX11_best 67 = .ok (.iload 6, 2) := by decide +kernel
theorem dX11_best_69 : decode cX11_best 69 = .ok (.iastore, 1) := by decide +kernel
theorem dX11_best_70 : decode cX11_best 70 = .ok (.aload_n 0, 1) := by decide +kernel
theorem dX11_best_71 : decode cX11_best 71 = .ok (.getfield 42, 3) := by decide +kernel
theorem dX11_best_74 : decode cX11_best 74 = .ok (.aload_n 0, 1) := by decide +kernel
theorem dX11_best_75 : decode cX11_best 75 = .ok (.getfield 10, 3) := by decide +kernel
theorem dX11_best_78 : decode cX11_best 78 = .ok (.invokevirtual 219, 3) := by decide +kernel
theorem dX11_best_81 : decode cX11_best 81 = .ok (.istore 7, 2) := by decide +kernel
theorem dX11_best_83 : decode cX11_best 83 = .ok (.iload 6, 2) := by decide +kernel
theorem dX11_best_85 : decode cX11_best 85 = .ok (.ifCond .eq 10, 3) := by decide +kernel
theorem dX11_best_88 : decode cX11_best 88 = .ok (.iload 7, 2) := by decide +kernel
theorem dX11_best_90 : decode cX11_best 90 = .ok (.iload 5, 2) := by decide +kernel
theorem dX11_best_92 : decode cX11_best 92 = .ok (.if_icmp .ge 11, 3) := by decide +kernel
theorem dX11_best_95 : decode cX11_best 95 = .ok (.iload 6, 2) := by decide +kernel
theorem dX11_best_97 : decode cX11_best 97 = .ok (.istore 4, 2) := by decide +kernel
theorem dX11_best_99 : decode cX11_best 99 = .ok (.iload 7, 2) := by decide +kernel
theorem dX11_best_101 : decode cX11_best 101 = .ok (.istore 5, 2) := by decide +kernel
theorem dX11_best_103 : decode cX11_best 103 = .ok (.iinc 6 1, 3) := by decide +kernel
theorem dX11_best_106 : decode cX11_best 106 = .ok (.goto (-53), 3) := by decide +kernel
theorem dX11_best_109 : decode cX11_best 109 = .ok (.iload_n 3, 1) := by decide +kernel
theorem dX11_best_110 : decode cX11_best 110 = .ok (.ifCond .ne 8, 3) := by decide +kernel
theorem dX11_best_113 : decode cX11_best 113 = .ok (.iload 4, 2) := by decide +kernel
theorem dX11_best_115 : decode cX11_best 115 = .ok (.goto 5, 3) := by decide +kernel
theorem dX11_best_118 : decode cX11_best 118 = .ok (.iload 5, 2) := by decide +kernel
theorem dX11_best_120 : decode cX11_best 120 = .ok (.ireturn, 1) := by decide +kernel
theorem dX11_bestBed_0 : decode cX11_bestBed 0 = .ok (.aload_n 0, 1) := by decide +kernel
theorem dX11_bestBed_1 : decode cX11_bestBed 1 = .ok (.getfield 10, 3) := by decide +kernel
theorem dX11_bestBed_4 : decode cX11_bestBed 4 = .ok (.iload_n 1, 1) := by decide +kernel
theorem dX11_bestBed_5 : decode cX11_bestBed 5 = .ok (.invokevirtual 82, 3) := by decide +kernel
theorem dX11_bestBed_8 : decode cX11_bestBed 8 = .ok (.ifCond .eq 22, 3) := by decide +kernel
theorem dX11_bestBed_11 : decode cX11_bestBed 11 = .ok (.iload_n 2, 1) := by decide +kernel
theorem dX11_bestBed_12 : decode cX11_bestBed 12 = .ok (.iconst 1, 1) := by decide +kernel
theorem dX11_bestBed_13 : decode cX11_bestBed 13 = .ok (.bipush 40, 2) := by decide +kernel
theorem dX11_bestBed_15 : decode cX11_bestBed 15 = .ok (.invokestatic 57, 3) := by decide +kernel
theorem dX11_bestBed_18 : decode cX11_bestBed 18 = .ok (.ifCond .eq 12, 3) := by decide +kernel
theorem dX11_bestBed_21 : decode cX11_bestBed 21 = .ok (.iload_n 3, 1) := by decide +kernel
theorem dX11_bestBed_22 : decode cX11_bestBed 22 = .ok (.iconst 0, 1) := by decide +kernel
theorem dX11_bestBed_23 : decode cX11_bestBed 23 = .ok (.iconst 1, 1) := by decide +kernel
theorem dX11_bestBed_24 : decode cX11_bestBed 24 = .ok (.invokestatic 57, 3) := by decide +kernel
theorem dX11_bestBed_27 : decode cX11_bestBed 27 = .ok (.ifCond .ne 5, 3) := by decide +kernel
theorem dX11_bestBed_30 : decode cX11_bestBed 30 = .ok (.iconst (-1), 1) := by decide +kernel
theorem dX11_bestBed_31 : decode cX11_bestBed 31 = .ok (.ireturn, 1) := by decide +kernel
theorem dX11_bestBed_32 : decode cX11_bestBed 32 = .ok (.aload_n 0, 1) := by decide +kernel
theorem dX11_bestBed_33 : decode cX11_bestBed 33 = .ok (.getfield 42, 3) := by decide +kernel
theorem dX11_bestBed_36 : decode cX11_bestBed 36 = .ok (.aload_n 0, 1) := by decide +kernel
theorem dX11_bestBed_37 : decode cX11_bestBed 37 = .ok (.getfield 10, 3) := by decide +kernel
theorem dX11_bestBed_40 : decode cX11_bestBed 40 = .ok (.iload_n 2, 1) := by decide +kernel
theorem dX11_bestBed_41 : decode cX11_bestBed 41 = .ok (.invokevirtual 203, 3) := by decide +kernel
theorem dX11_bestBed_44 : decode cX11_bestBed 44 = .ok (.iconst 0, 1) := by decide +kernel
theorem dX11_bestBed_45 : decode cX11_bestBed 45 = .ok (.istore 4, 2) := by decide +kernel
theorem dX11_bestBed_47 : decode cX11_bestBed 47 = .ok (.iconst 0, 1) := by decide +kernel
theorem dX11_bestBed_48 : decode cX11_bestBed 48 = .ok (.istore 5, 2) := by decide +kernel
theorem dX11_bestBed_50 : decode cX11_bestBed 50 = .ok (.iconst 0, 1) := by decide +kernel
theorem dX11_bestBed_51 : decode cX11_bestBed 51 = .ok (.istore 6, 2) := by decide +kernel
theorem dX11_bestBed_53 : decode cX11_bestBed 53 = .ok (.iload 6, 2) := by decide +kernel
theorem dX11_bestBed_55 : decode cX11_bestBed 55 = .ok (.iconst 4, 1) := by decide +kernel
theorem dX11_bestBed_56 : decode cX11_bestBed 56 = .ok (.if_icmp .ge 49, 3) := by decide +kernel
theorem dX11_bestBed_59 : decode cX11_bestBed 59 = .ok (.aload_n 0, 1) := by decide +kernel
theorem dX11_bestBed_60 : decode cX11_bestBed 60 = .ok (.getfield 42, 3) := by decide +kernel
theorem dX11_bestBed_63 : decode cX11_bestBed 63 = .ok (.iload 6, 2) := by decide +kernel
theorem dX11_bestBed_65 : decode cX11_bestBed 65 = .ok (.aload_n 0, 1) := by decide +kernel
theorem dX11_bestBed_66 : decode cX11_bestBed 66 = .ok (.getfield 10, 3) := by decide +kernel
theorem dX11_bestBed_69 : decode cX11_bestBed 69 = .ok (.getfield 89, 3) := by decide +kernel
theorem dX11_bestBed_72 : decode cX11_bestBed 72 = .ok (.iload_n 1, 1) := by decide +kernel
theorem dX11_bestBed_73 : decode cX11_bestBed 73 = .ok (.iaload, 1) := by decide +kernel
theorem dX11_bestBed_74 : decode cX11_bestBed 74 = .ok (.invokevirtual 210, 3) := by decide +kernel
theorem dX11_bestBed_77 : decode cX11_bestBed 77 = .ok (.istore 7, 2) := by decide +kernel
theorem dX11_bestBed_79 : decode cX11_bestBed 79 = .ok (.iload 6, 2) := by decide +kernel
theorem dX11_bestBed_81 : decode cX11_bestBed 81 = .ok (.ifCond .eq 10, 3) := by decide +kernel
theorem dX11_bestBed_84 : decode cX11_bestBed 84 = .ok (.iload 7, 2) := by decide +kernel
theorem dX11_bestBed_86 : decode cX11_bestBed 86 = .ok (.iload 5, 2) := by decide +kernel
theorem dX11_bestBed_88 : decode cX11_bestBed 88 = .ok (.if_icmp .ge 11, 3) := by decide +kernel
theorem dX11_bestBed_91 : decode cX11_bestBed 91 = .ok (.iload 6, 2) := by decide +kernel
theorem dX11_bestBed_93 : decode cX11_bestBed 93 = .ok (.istore 4, 2) := by decide +kernel
theorem dX11_bestBed_95 : decode cX11_bestBed 95 = .ok (.iload 7, 2) := by decide +kernel
theorem dX11_bestBed_97 : decode cX11_bestBed 97 = .ok (.istore 5, 2) := by decide +kernel
theorem dX11_bestBed_99 : decode cX11_bestBed 99 = .ok (.iinc 6 1, 3) := by decide +kernel
theorem dX11_bestBed_102 : decode cX11_bestBed 102 = .ok (.goto (-49), 3) := by decide +kernel
theorem dX11_bestBed_105 : decode cX11_bestBed 105 = .ok (.iload_n 3, 1) := by decide +kernel
theorem dX11_bestBed_106 : decode cX11_bestBed 106 = .ok (.ifCond .ne 8, 3) := by decide +kernel
theorem dX11_bestBed_109 : decode cX11_bestBed 109 = .ok (.iload 4, 2) := by decide +kernel
theorem dX11_bestBed_111 : decode cX11_bestBed 111 = .ok (.goto 5, 3) := by decide +kernel
theorem dX11_bestBed_114 : decode cX11_bestBed 114 = .ok (.iload 5, 2) := by decide +kernel
theorem dX11_bestBed_116 : decode cX11_bestBed 116 = .ok (.ireturn, 1) := by decide +kernel
theorem dX11_change_0 : decode cX11_change 0 = .ok (.iload_n 1, 1) := by decide +kernel
theorem dX11_change_1 : decode cX11_change 1 = .ok (.iconst 1, 1) := by decide +kernel
theorem dX11_change_2 : decode cX11_change 2 = .ok (.bipush 40, 2) := by decide +kernel
theorem dX11_change_4 : decode cX11_change 4 = .ok (.invokestatic 57, 3) := by decide +kernel
theorem dX11_change_7 : decode cX11_change 7 = .ok (.ifCond .eq 12, 3) := by decide +kernel
theorem dX11_change_10 : decode cX11_change 10 = .ok (.iload_n 2, 1) := by decide +kernel
theorem dX11_change_11 : decode cX11_change 11 = .ok (.iconst 0, 1) := by decide +kernel
theorem dX11_change_12 : decode cX11_change 12 = .ok (.iconst 1, 1) := by decide +kernel
theorem dX11_change_13 : decode cX11_change 13 = .ok (.invokestatic 57, 3) := by decide +kernel
theorem dX11_change_16 : decode cX11_change 16 = .ok (.ifCond .ne 5, 3) := by decide +kernel
theorem dX11_change_19 : decode cX11_change 19 = .ok (.iconst (-1), 1) := by decide +kernel
theorem dX11_change_20 : decode cX11_change 20 = .ok (.ireturn, 1) := by decide +kernel
theorem dX11_change_21 : decode cX11_change 21 = .ok (.aload_n 0, 1) := by decide +kernel
theorem dX11_change_22 : decode cX11_change 22 = .ok (.getfield 42, 3) := by decide +kernel
theorem dX11_change_25 : decode cX11_change 25 = .ok (.aload_n 0, 1) := by decide +kernel
theorem dX11_change_26 : decode cX11_change 26 = .ok (.getfield 10, 3) := by decide +kernel
theorem dX11_change_29 : decode cX11_change 29 = .ok (.iload_n 1, 1) := by decide +kernel
theorem dX11_change_30 : decode cX11_change 30 = .ok (.invokevirtual 203, 3) := by decide +kernel
theorem dX11_change_33 : decode cX11_change 33 = .ok (.bipush (-4), 2) := by decide +kernel
theorem dX11_change_35 : decode cX11_change 35 = .ok (.istore_n 3, 1) := by decide +kernel
theorem dX11_change_36 : decode cX11_change 36 = .ok (.aload_n 0, 1) := by decide +kernel
theorem dX11_change_37 : decode cX11_change 37 = .ok (.getfield 42, 3) := by decide +kernel
theorem dX11_change_40 : decode cX11_change 40 = .ok (.aload_n 0, 1) := by decide +kernel
theorem dX11_change_41 : decode cX11_change 41 = .ok (.getfield 10, 3) := by decide +kernel
theorem dX11_change_44 : decode cX11_change 44 = .ok (.invokevirtual 219, 3) := by decide +kernel
theorem dX11_change_47 : decode cX11_change 47 = .ok (.istore 4, 2) := by decide +kernel
theorem dX11_change_49 : decode cX11_change 49 = .ok (.iconst 0, 1) := by decide +kernel
theorem dX11_change_50 : decode cX11_change 50 = .ok (.istore 5, 2) := by decide +kernel
theorem dX11_change_52 : decode cX11_change 52 = .ok (.iload 5, 2) := by decide +kernel
theorem dX11_change_54 : decode cX11_change 54 = .ok (.iconst 4, 1) := by decide +kernel
theorem dX11_change_55 : decode cX11_change 55 = .ok (.if_icmp .ge 75, 3) := by decide +kernel
theorem dX11_change_58 : decode cX11_change 58 = .ok (.iload 5, 2) := by decide +kernel
theorem dX11_change_60 : decode cX11_change 60 = .ok (.iconst 1, 1) := by decide +kernel
theorem dX11_change_61 : decode cX11_change 61 = .ok (.iadd, 1) := by decide +kernel
theorem dX11_change_62 : decode cX11_change 62 = .ok (.istore 6, 2) := by decide +kernel
theorem dX11_change_64 : decode cX11_change 64 = .ok (.iload 6, 2) := by decide +kernel
theorem dX11_change_66 : decode cX11_change 66 = .ok (.iconst 4, 1) := by decide +kernel
theorem dX11_change_67 : decode cX11_change 67 = .ok (.if_icmp .ge 57, 3) := by decide +kernel
theorem dX11_change_70 : decode cX11_change 70 = .ok (.aload_n 0, 1) := by decide +kernel
theorem dX11_change_71 : decode cX11_change 71 = .ok (.getfield 42, 3) := by decide +kernel
theorem dX11_change_74 : decode cX11_change 74 = .ok (.aload_n 0, 1) := by decide +kernel
theorem dX11_change_75 : decode cX11_change 75 = .ok (.getfield 10, 3) := by decide +kernel
theorem dX11_change_78 : decode cX11_change 78 = .ok (.iload 5, 2) := by decide +kernel
theorem dX11_change_80 : decode cX11_change 80 = .ok (.iload 6, 2) := by decide +kernel
theorem dX11_change_82 : decode cX11_change 82 = .ok (.invokevirtual 223, 3) := by decide +kernel
theorem dX11_change_85 : decode cX11_change 85 = .ok (.aload_n 0, 1) := by decide +kernel
theorem dX11_change_86 : decode cX11_change 86 = .ok (.getfield 42, 3) := by decide +kernel
theorem dX11_change_89 : decode cX11_change 89 = .ok (.aload_n 0, 1) := by decide +kernel
theorem dX11_change_90 : decode cX11_change 90 = .ok (.getfield 10, 3) := by decide +kernel
theorem dX11_change_93 : decode cX11_change 93 = .ok (.invokevirtual 219, 3) := by decide +kernel
theorem dX11_change_96 : decode cX11_change 96 = .ok (.istore 7, 2) := by decide +kernel
theorem dX11_change_98 : decode cX11_change 98 = .ok (.iload 7, 2) := by decide +kernel
theorem dX11_change_100 : decode cX11_change 100 = .ok (.iload 4, 2) := by decide +kernel
theorem dX11_change_102 : decode cX11_change 102 = .ok (.if_icmp .ge 16, 3) := by decide +kernel
theorem dX11_change_105 : decode cX11_change 105 = .ok (.bipush 10, 2) := by decide +kernel
theorem dX11_change_107 : decode cX11_change 107 = .ok (.iload 5, 2) := by decide +kernel
theorem dX11_change_109 : decode cX11_change 109 = .ok (.imul, 1) := by decide +kernel
theorem dX11_change_110 : decode cX11_change 110 = .ok (.iload 6, 2) := by decide +kernel
theorem dX11_change_112 : decode cX11_change 112 = .ok (.iadd, 1) := by decide +kernel
theorem dX11_change_113 : decode cX11_change 113 = .ok (.istore_n 3, 1) := by decide +kernel
theorem dX11_change_114 : decode cX11_change 114 = .ok (.iload 7, 2) := by decide +kernel
theorem dX11_change_116 : decode cX11_change 116 = .ok (.istore 4, 2) := by decide +kernel
theorem dX11_change_118 : decode cX11_change 118 = .ok (.iinc 6 1, 3) := by decide +kernel
theorem dX11_change_121 : decode cX11_change 121 = .ok (.goto (-57), 3) := by decide +kernel
theorem dX11_change_124 : decode cX11_change 124 = .ok (.iinc 5 1, 3) := by decide +kernel
theorem dX11_change_127 : decode cX11_change 127 = .ok (.goto (-75), 3) := by decide +kernel
theorem dX11_change_130 : decode cX11_change 130 = .ok (.iload_n 3, 1) := by decide +kernel
theorem dX11_change_131 : decode cX11_change 131 = .ok (.bipush (-4), 2) := by decide +kernel
theorem dX11_change_133 : decode cX11_change 133 = .ok (.if_icmp .eq 7, 3) := by decide +kernel
theorem dX11_change_136 : decode cX11_change 136 = .ok (.iload_n 2, 1) := by decide +kernel
theorem dX11_change_137 : decode cX11_change 137 = .ok (.ifCond .ne 7, 3) := by decide +kernel
theorem dX11_change_140 : decode cX11_change 140 = .ok (.iload_n 3, 1) := by decide +kernel
theorem dX11_change_141 : decode cX11_change 141 = .ok (.goto 5, 3) := by decide +kernel
theorem dX11_change_144 : decode cX11_change 144 = .ok (.iload 4, 2) := by decide +kernel
theorem dX11_change_146 : decode cX11_change 146 = .ok (.ireturn, 1) := by decide +kernel
theorem dX11_backs_0 : decode cX11_backs 0 = .ok (.iload_n 1, 1) := by decide +kernel
theorem dX11_backs_1 : decode cX11_backs 1 = .ok (.iconst 1, 1) := by decide +kernel
theorem dX11_backs_2 : decode cX11_backs 2 = .ok (.bipush 40, 2) := by decide +kernel
theorem dX11_backs_4 : decode cX11_backs 4 = .ok (.invokestatic 57, 3) := by decide +kernel
theorem dX11_backs_7 : decode cX11_backs 7 = .ok (.ifCond .eq 12, 3) := by decide +kernel
theorem dX11_backs_10 : decode cX11_backs 10 = .ok (.iload_n 2, 1) := by decide +kernel
theorem dX11_backs_11 : decode cX11_backs 11 = .ok (.iconst 0, 1) := by decide +kernel
theorem dX11_backs_12 : decode cX11_backs 12 = .ok (.iconst 1, 1) := by decide +kernel
theorem dX11_backs_13 : decode cX11_backs 13 = .ok (.invokestatic 57, 3) := by decide +kernel
theorem dX11_backs_16 : decode cX11_backs 16 = .ok (.ifCond .ne 5, 3) := by decide +kernel
theorem dX11_backs_19 : decode cX11_backs 19 = .ok (.iconst (-1), 1) := by decide +kernel
theorem dX11_backs_20 : decode cX11_backs 20 = .ok (.ireturn, 1) := by decide +kernel
theorem dX11_backs_21 : decode cX11_backs 21 = .ok (.aload_n 0, 1) := by decide +kernel
theorem dX11_backs_22 : decode cX11_backs 22 = .ok (.getfield 42, 3) := by decide +kernel
theorem dX11_backs_25 : decode cX11_backs 25 = .ok (.aload_n 0, 1) := by decide +kernel
theorem dX11_backs_26 : decode cX11_backs 26 = .ok (.getfield 10, 3) := by decide +kernel
theorem dX11_backs_29 : decode cX11_backs 29 = .ok (.iload_n 1, 1) := by decide +kernel
theorem dX11_backs_30 : decode cX11_backs 30 = .ok (.invokevirtual 203, 3) := by decide +kernel
theorem dX11_backs_33 : decode cX11_backs 33 = .ok (.iconst 0, 1) := by decide +kernel
theorem dX11_backs_34 : decode cX11_backs 34 = .ok (.istore_n 3, 1) := by decide +kernel
theorem dX11_backs_35 : decode cX11_backs 35 = .ok (.iload_n 3, 1) := by decide +kernel
theorem dX11_backs_36 : decode cX11_backs 36 = .ok (.aload_n 0, 1) := by decide +kernel
theorem dX11_backs_37 : decode cX11_backs 37 = .ok (.getfield 10, 3) := by decide +kernel
theorem dX11_backs_40 : decode cX11_backs 40 = .ok (.getfield 75, 3) := by decide +kernel
theorem dX11_backs_43 : decode cX11_backs 43 = .ok (.if_icmp .gt 68, 3) := by decide +kernel
theorem dX11_backs_46 : decode cX11_backs 46 = .ok (.iconst 0, 1) := by decide +kernel
theorem dX11_backs_47 : decode cX11_backs 47 = .ok (.istore 4, 2) := by decide +kernel
theorem dX11_backs_49 : decode cX11_backs 49 = .ok (.iload 4, 2) := by decide +kernel
theorem dX11_backs_51 : decode cX11_backs 51 = .ok (.iconst 1, 1) := by decide +kernel
theorem dX11_backs_52 : decode cX11_backs 52 = .ok (.aload_n 0, 1) := by decide +kernel
theorem dX11_backs_53 : decode cX11_backs 53 = .ok (.getfield 10, 3) := by decide +kernel
theorem dX11_backs_56 : decode cX11_backs 56 = .ok (.getfield 75, 3) := by decide +kernel
theorem dX11_backs_59 : decode cX11_backs 59 = .ok (.ishl, 1) := by decide +kernel
theorem dX11_backs_60 : decode cX11_backs 60 = .ok (.if_icmp .ge 45, 3) := by decide +kernel
theorem dX11_backs_63 : decode cX11_backs 63 = .ok (.iload 4, 2) := by decide +kernel
theorem dX11_backs_65 : decode cX11_backs 65 = .ok (.invokestatic 227, 3) := by decide +kernel
theorem dX11_backs_68 : decode cX11_backs 68 = .ok (.iload_n 3, 1) := by decide +kernel
theorem dX11_backs_69 : decode cX11_backs 69 = .ok (.if_icmp .ne 30, 3) := by decide +kernel
theorem dX11_backs_72 : decode cX11_backs 72 = .ok (.aload_n 0, 1) := by decide +kernel
theorem dX11_backs_73 : decode cX11_backs 73 = .ok (.getfield 42, 3) := by decide +kernel
theorem dX11_backs_76 : decode cX11_backs 76 = .ok (.aload_n 0, 1) := by decide +kernel
theorem dX11_backs_77 : decode cX11_backs 77 = .ok (.getfield 10, 3) := by decide +kernel
theorem dX11_backs_80 : decode cX11_backs 80 = .ok (.iload 4, 2) := by decide +kernel
theorem dX11_backs_82 : decode cX11_backs 82 = .ok (.invokevirtual 232, 3) := by decide +kernel
theorem dX11_backs_85 : decode cX11_backs 85 = .ok (.ifCond .eq 14, 3) := by decide +kernel
theorem dX11_backs_88 : decode cX11_backs 88 = .ok (.iload_n 2, 1) := by decide +kernel
theorem dX11_backs_89 : decode cX11_backs 89 = .ok (.ifCond .ne 7, 3) := by decide +kernel
theorem dX11_backs_92 : decode cX11_backs 92 = .ok (.iload_n 3, 1) := by decide +kernel
theorem dX11_backs_93 : decode cX11_backs 93 = .ok (.goto 5, 3) := by decide +kernel
theorem dX11_backs_96 : decode cX11_backs 96 = .ok (.iload 4, 2) := by decide +kernel
theorem dX11_backs_98 : decode cX11_backs 98 = .ok (.ireturn, 1) := by decide +kernel
theorem dX11_backs_99 : decode cX11_backs 99 = .ok (.iinc 4 1, 3) := by decide +kernel
theorem dX11_backs_102 : decode cX11_backs 102 = .ok (.goto (-53), 3) := by decide +kernel
theorem dX11_backs_105 : decode cX11_backs 105 = .ok (.iinc 3 1, 3) := by decide +kernel
theorem dX11_backs_108 : decode cX11_backs 108 = .ok (.goto (-73), 3) := by decide +kernel
theorem dX11_backs_111 : decode cX11_backs 111 = .ok (.bipush (-4), 2) := by decide +kernel
theorem dX11_backs_113 : decode cX11_backs 113 = .ok (.ireturn, 1) := by decide +kernel
theorem dX11_luck_0 : decode cX11_luck 0 = .ok (.aload_n 0, 1) := by decide +kernel
theorem dX11_luck_1 : decode cX11_luck 1 = .ok (.getfield 10, 3) := by decide +kernel
theorem dX11_luck_4 : decode cX11_luck 4 = .ok (.iload_n 1, 1) := by decide +kernel
theorem dX11_luck_5 : decode cX11_luck 5 = .ok (.invokevirtual 82, 3) := by decide +kernel
theorem dX11_luck_8 : decode cX11_luck 8 = .ok (.ifCond .eq 22, 3) := by decide +kernel
theorem dX11_luck_11 : decode cX11_luck 11 = .ok (.iload_n 2, 1) := by decide +kernel
theorem dX11_luck_12 : decode cX11_luck 12 = .ok (.iconst 0, 1) := by decide +kernel
theorem dX11_luck_13 : decode cX11_luck 13 = .ok (.bipush 10, 2) := by decide +kernel
theorem dX11_luck_15 : decode cX11_luck 15 = .ok (.invokestatic 57, 3) := by decide +kernel
theorem dX11_luck_18 : decode cX11_luck 18 = .ok (.ifCond .eq 12, 3) := by decide +kernel
theorem dX11_luck_21 : decode cX11_luck 21 = .ok (.iload_n 3, 1) := by decide +kernel
theorem dX11_luck_22 : decode cX11_luck 22 = .ok (.iconst 0, 1) := by decide +kernel
theorem dX11_luck_23 : decode cX11_luck 23 = .ok (.iconst 1, 1) := by decide +kernel
theorem dX11_luck_24 : decode cX11_luck 24 = .ok (.invokestatic 57, 3) := by decide +kernel
theorem dX11_luck_27 : decode cX11_luck 27 = .ok (.ifCond .ne 5, 3) := by decide +kernel
theorem dX11_luck_30 : decode cX11_luck 30 = .ok (.iconst (-1), 1) := by decide +kernel
theorem dX11_luck_31 : decode cX11_luck 31 = .ok (.ireturn, 1) := by decide +kernel
theorem dX11_luck_32 : decode cX11_luck 32 = .ok (.aload_n 0, 1) := by decide +kernel
theorem dX11_luck_33 : decode cX11_luck 33 = .ok (.getfield 10, 3) := by decide +kernel
theorem dX11_luck_36 : decode cX11_luck 36 = .ok (.aload_n 0, 1) := by decide +kernel
theorem dX11_luck_37 : decode cX11_luck 37 = .ok (.getfield 10, 3) := by decide +kernel
theorem dX11_luck_40 : decode cX11_luck 40 = .ok (.getfield 85, 3) := by decide +kernel
theorem dX11_luck_43 : decode cX11_luck 43 = .ok (.iload_n 1, 1) := by decide +kernel
theorem dX11_luck_44 : decode cX11_luck 44 = .ok (.iaload, 1) := by decide +kernel
theorem dX11_luck_45 : decode cX11_luck 45 = .ok (.invokevirtual 135, 3) := by decide +kernel
theorem dX11_luck_48 : decode cX11_luck 48 = .ok (.aload_n 0, 1) := by decide +kernel
theorem dX11_luck_49 : decode cX11_luck 49 = .ok (.getfield 10, 3) := by decide +kernel
theorem dX11_luck_52 : decode cX11_luck 52 = .ok (.invokevirtual 179, 3) := by decide +kernel
theorem dX11_luck_55 : decode cX11_luck 55 = .ok (.iconst (-1), 1) := by decide +kernel
theorem dX11_luck_56 : decode cX11_luck 56 = .ok (.ixor, 1) := by decide +kernel
theorem dX11_luck_57 : decode cX11_luck 57 = .ok (.iand, 1) := by decide +kernel
theorem dX11_luck_58 : decode cX11_luck 58 = .ok (.istore 4, 2) := by decide +kernel
theorem dX11_luck_60 : decode cX11_luck 60 = .ok (.iconst 0, 1) := by decide +kernel
theorem dX11_luck_61 : decode cX11_luck 61 = .ok (.istore 5, 2) := by decide +kernel
theorem dX11_luck_63 : decode cX11_luck 63 = .ok (.iconst 1, 1) := by decide +kernel
theorem dX11_luck_64 : decode cX11_luck 64 = .ok (.istore 6, 2) := by decide +kernel
theorem dX11_luck_66 : decode cX11_luck 66 = .ok (.iconst 0, 1) := by decide +kernel
theorem dX11_luck_67 : decode cX11_luck 67 = .ok (.istore 7, 2) := by decide +kernel
theorem dX11_luck_69 : decode cX11_luck 69 = .ok (.iload 7, 2) := by decide +kernel
theorem dX11_luck_71 : decode cX11_luck 71 = .ok (.aload_n 0, 1) := by decide +kernel
theorem dX11_luck_72 : decode cX11_luck 72 = .ok (.getfield 10, 3) := by decide +kernel
theorem dX11_luck_75 : decode cX11_luck 75 = .ok (.getfield 75, 3) := by decide +kernel
theorem dX11_luck_78 : decode cX11_luck 78 = .ok (.if_icmp .ge 30, 3) := by decide +kernel
theorem dX11_luck_81 : decode cX11_luck 81 = .ok (.iload 6, 2) := by decide +kernel
theorem dX11_luck_83 : decode cX11_luck 83 = .ok (.iload 4, 2) := by decide +kernel
theorem dX11_luck_85 : decode cX11_luck 85 = .ok (.iload 7, 2) := by decide +kernel
theorem dX11_luck_87 : decode cX11_luck 87 = .ok (.invokestatic 236, 3) := by decide +kernel
theorem dX11_luck_90 : decode cX11_luck 90 = .ok (.ifCond .eq 8, 3) := by decide +kernel
theorem dX11_luck_93 : decode cX11_luck 93 = .ok (.bipush 10, 2) := by decide +kernel
theorem dX11_luck_95 : decode cX11_luck 95 = .ok (.goto 4, 3) := by decide +kernel
theorem dX11_luck_98 : decode cX11_luck 98 = .ok (.iconst 1, 1) := by decide +kernel
theorem dX11_luck_99 : decode cX11_luck 99 = .ok (.imul, 1) := by decide +kernel
theorem dX11_luck_100 : decode cX11_luck 100 = .ok (.istore 6, 2) := by decide +kernel
theorem dX11_luck_102 : decode cX11_luck 102 = .ok (.iinc 7 1, 3) := by decide +kernel
theorem dX11_luck_105 : decode cX11_luck 105 = .ok (.goto (-36), 3) := by decide +kernel
theorem dX11_luck_108 : decode cX11_luck 108 = .ok (.iconst 0, 1) := by decide +kernel
theorem dX11_luck_109 : decode cX11_luck 109 = .ok (.istore 7, 2) := by decide +kernel
theorem dX11_luck_111 : decode cX11_luck 111 = .ok (.iload 7, 2) := by decide +kernel
theorem dX11_luck_113 : decode cX11_luck 113 = .ok (.iconst 1, 1) := by decide +kernel
theorem dX11_luck_114 : decode cX11_luck 114 = .ok (.aload_n 0, 1) := by decide +kernel
theorem dX11_luck_115 : decode cX11_luck 115 = .ok (.getfield 10, 3) := by decide +kernel
theorem dX11_luck_118 : decode cX11_luck 118 = .ok (.getfield 75, 3) := by decide +kernel
theorem dX11_luck_121 : decode cX11_luck 121 = .ok (.ishl, 1) := by decide +kernel
theorem dX11_luck_122 : decode cX11_luck 122 = .ok (.if_icmp .ge 71, 3) := by decide +kernel
theorem dX11_luck_125 : decode cX11_luck 125 = .ok (.iload 7, 2) := by decide +kernel
theorem dX11_luck_127 : decode cX11_luck 127 = .ok (.iload 4, 2) := by decide +kernel
theorem dX11_luck_129 : decode cX11_luck 129 = .ok (.iconst (-1), 1) := by decide +kernel
theorem dX11_luck_130 : decode cX11_luck 130 = .ok (.ixor, 1) := by decide +kernel
theorem dX11_luck_131 : decode cX11_luck 131 = .ok (.iand, 1) := by decide +kernel
theorem dX11_luck_132 : decode cX11_luck 132 = .ok (.ifCond .ne 7, 3) := by decide +kernel
theorem dX11_luck_135 : decode cX11_luck 135 = .ok (.iconst 1, 1) := by decide +kernel
theorem dX11_luck_136 : decode cX11_luck 136 = .ok (.goto 4, 3) := by decide +kernel
theorem dX11_luck_139 : decode cX11_luck 139 = .ok (.iconst 0, 1) := by decide +kernel
theorem dX11_luck_140 : decode cX11_luck 140 = .ok (.istore 8, 2) := by decide +kernel
theorem dX11_luck_142 : decode cX11_luck 142 = .ok (.iload 8, 2) := by decide +kernel
theorem dX11_luck_144 : decode cX11_luck 144 = .ok (.ifCond .eq 43, 3) := by decide +kernel
theorem dX11_luck_147 : decode cX11_luck 147 = .ok (.aload_n 0, 1) := by decide +kernel
theorem dX11_luck_148 : decode cX11_luck 148 = .ok (.getfield 10, 3) := by decide +kernel
theorem dX11_luck_151 : decode cX11_luck 151 = .ok (.iload 4, 2) := by decide +kernel
theorem dX11_luck_153 : decode cX11_luck 153 = .ok (.iload 7, 2) := by decide +kernel
theorem dX11_luck_155 : decode cX11_luck 155 = .ok (.iconst (-1), 1) := by decide +kernel
theorem dX11_luck_156 : decode cX11_luck 156 = .ok (.ixor, 1) := by decide +kernel
theorem dX11_luck_157 : decode cX11_luck 157 = .ok (.iand, 1) := by decide +kernel
theorem dX11_luck_158 : decode cX11_luck 158 = .ok (.invokevirtual 240, 3) := by decide +kernel
theorem dX11_luck_161 : decode cX11_luck 161 = .ok (.aload_n 0, 1) := by decide +kernel
theorem dX11_luck_162 : decode cX11_luck 162 = .ok (.getfield 10, 3) := by decide +kernel
theorem dX11_luck_165 : decode cX11_luck 165 = .ok (.getfield 89, 3) := by decide +kernel
theorem dX11_luck_168 : decode cX11_luck 168 = .ok (.iload_n 1, 1) := by decide +kernel
theorem dX11_luck_169 : decode cX11_luck 169 = .ok (.iaload, 1) := by decide +kernel
theorem dX11_luck_170 : decode cX11_luck 170 = .ok (.if_icmp .gt 17, 3) := by decide +kernel
theorem dX11_luck_173 : decode cX11_luck 173 = .ok (.iload 5, 2) := by decide +kernel
theorem dX11_luck_175 : decode cX11_luck 175 = .ok (.aload_n 0, 1) := by decide +kernel
theorem dX11_luck_176 : decode cX11_luck 176 = .ok (.iload 4, 2) := by decide +kernel
theorem dX11_luck_178 : decode cX11_luck 178 = .ok (.iload 7, 2) := by decide +kernel
theorem dX11_luck_180 : decode cX11_luck 180 = .ok (.iload_n 2, 1) := by decide +kernel
theorem dX11_luck_181 : decode cX11_luck 181 = .ok (.invokevirtual 243, 3) := by decide +kernel
theorem dX11_luck_184 : decode cX11_luck 184 = .ok (.iadd, 1) := by decide +kernel
theorem dX11_luck_185 : decode cX11_luck 185 = .ok (.istore 5, 2) := by decide +kernel
theorem dX11_luck_187 : decode cX11_luck 187 = .ok (.iinc 7 1, 3) := by decide +kernel
theorem dX11_luck_190 : decode cX11_luck 190 = .ok (.goto (-79), 3) := by decide +kernel
theorem dX11_luck_193 : decode cX11_luck 193 = .ok (.iload 5, 2) := by decide +kernel
theorem dX11_luck_195 : decode cX11_luck 195 = .ok (.iload 6, 2) := by decide +kernel
theorem dX11_luck_197 : decode cX11_luck 197 = .ok (.invokestatic 246, 3) := by decide +kernel
theorem dX11_luck_200 : decode cX11_luck 200 = .ok (.istore 7, 2) := by decide +kernel
theorem dX11_luck_202 : decode cX11_luck 202 = .ok (.iload_n 3, 1) := by decide +kernel
theorem dX11_luck_203 : decode cX11_luck 203 = .ok (.ifCond .ne 8, 3) := by decide +kernel
theorem dX11_luck_206 : decode cX11_luck 206 = .ok (.iload 5, 2) := by decide +kernel
theorem dX11_luck_208 : decode cX11_luck 208 = .ok (.goto 5, 3) := by decide +kernel
theorem dX11_luck_211 : decode cX11_luck 211 = .ok (.iload 6, 2) := by decide +kernel
theorem dX11_luck_213 : decode cX11_luck 213 = .ok (.iload 7, 2) := by decide +kernel
theorem dX11_luck_215 : decode cX11_luck 215 = .ok (.idiv, 1) := by decide +kernel
theorem dX11_luck_216 : decode cX11_luck 216 = .ok (.ireturn, 1) := by decide +kernel
theorem dX11_thanked_0 : decode cX11_thanked 0 = .ok (.iload_n 1, 1) := by decide +kernel
theorem dX11_thanked_1 : decode cX11_thanked 1 = .ok (.invokestatic 72, 3) := by decide +kernel
theorem dX11_thanked_4 : decode cX11_thanked 4 = .ok (.ifCond .ne 5, 3) := by decide +kernel
theorem dX11_thanked_7 : decode cX11_thanked 7 = .ok (.iconst (-1), 1) := by decide +kernel
theorem dX11_thanked_8 : decode cX11_thanked 8 = .ok (.ireturn, 1) := by decide +kernel
theorem dX11_thanked_9 : decode cX11_thanked 9 = .ok (.aload_n 0, 1) := by decide +kernel
theorem dX11_thanked_10 : decode cX11_thanked 10 = .ok (.getfield 10, 3) := by decide +kernel
theorem dX11_thanked_13 : decode cX11_thanked 13 = .ok (.aload_n 0, 1) := by decide +kernel
theorem dX11_thanked_14 : decode cX11_thanked 14 = .ok (.getfield 10, 3) := by decide +kernel
theorem dX11_thanked_17 : decode cX11_thanked 17 = .ok (.iload_n 1, 1) := by decide +kernel
theorem dX11_thanked_18 : decode cX11_thanked 18 = .ok (.invokevirtual 249, 3) := by decide +kernel
theorem dX11_thanked_21 : decode cX11_thanked 21 = .ok (.invokevirtual 240, 3) := by decide +kernel
theorem dX11_thanked_24 : decode cX11_thanked 24 = .ok (.ireturn, 1) := by decide +kernel
theorem dX11_image_0 : decode cX11_image 0 = .ok (.aload_n 0, 1) := by decide +kernel
theorem dX11_image_1 : decode cX11_image 1 = .ok (.getfield 23, 3) := by decide +kernel
theorem dX11_image_4 : decode cX11_image 4 = .ok (.aload_n 0, 1) := by decide +kernel
theorem dX11_image_5 : decode cX11_image 5 = .ok (.getfield 10, 3) := by decide +kernel
theorem dX11_image_8 : decode cX11_image 8 = .ok (.invokevirtual 164, 3) := by decide +kernel
theorem dX11_image_11 : decode cX11_image 11 = .ok (.aload_n 0, 1) := by decide +kernel
theorem dX11_image_12 : decode cX11_image 12 = .ok (.getfield 26, 3) := by decide +kernel
theorem dX11_image_15 : decode cX11_image 15 = .ok (.aload_n 0, 1) := by decide +kernel
theorem dX11_image_16 : decode cX11_image 16 = .ok (.getfield 19, 3) := by decide +kernel
theorem dX11_image_19 : decode cX11_image 19 = .ok (.invokevirtual 252, 3) := by decide +kernel
theorem dX11_image_22 : decode cX11_image 22 = .ok (.aload_n 0, 1) := by decide +kernel
theorem dX11_image_23 : decode cX11_image 23 = .ok (.iconst 1, 1) := by decide +kernel
theorem dX11_image_24 : decode cX11_image 24 = .ok (.putfield 255, 3) := by decide +kernel
theorem dX11_image_27 : decode cX11_image 27 = .ok (.iconst 1, 1) := by decide +kernel
theorem dX11_image_28 : decode cX11_image 28 = .ok (.ireturn, 1) := by decide +kernel
theorem dX11_restore_0 : decode cX11_restore 0 = .ok (.aload_n 0, 1) := by decide +kernel
theorem dX11_restore_1 : decode cX11_restore 1 = .ok (.getfield 255, 3) := by decide +kernel
theorem dX11_restore_4 : decode cX11_restore 4 = .ok (.ifCond .ne 6, 3) := by decide +kernel
theorem dX11_restore_7 : decode cX11_restore 7 = .ok (.bipush (-4), 2) := by decide +kernel
theorem dX11_restore_9 : decode cX11_restore 9 = .ok (.ireturn, 1) := by decide +kernel
theorem dX11_restore_10 : decode cX11_restore 10 = .ok (.aload_n 0, 1) := by decide +kernel
theorem dX11_restore_11 : decode cX11_restore 11 = .ok (.getfield 10, 3) := by decide +kernel
theorem dX11_restore_14 : decode cX11_restore 14 = .ok (.aload_n 0, 1) := by decide +kernel
theorem dX11_restore_15 : decode cX11_restore 15 = .ok (.getfield 23, 3) := by decide +kernel
theorem dX11_restore_18 : decode cX11_restore 18 = .ok (.invokevirtual 164, 3) := by decide +kernel
theorem dX11_restore_21 : decode cX11_restore 21 = .ok (.aload_n 0, 1) := by decide +kernel
theorem dX11_restore_22 : decode cX11_restore 22 = .ok (.getfield 19, 3) := by decide +kernel
theorem dX11_restore_25 : decode cX11_restore 25 = .ok (.aload_n 0, 1) := by decide +kernel
theorem dX11_restore_26 : decode cX11_restore 26 = .ok (.getfield 26, 3) := by decide +kernel
theorem dX11_restore_29 : decode cX11_restore 29 = .ok (.invokevirtual 252, 3) := by decide +kernel
theorem dX11_restore_32 : decode cX11_restore 32 = .ok (.iconst 1, 1) := by decide +kernel
theorem dX11_restore_33 : decode cX11_restore 33 = .ok (.ireturn, 1) := by decide +kernel
theorem dX11_heard_0 : decode cX11_heard 0 = .ok (.aload_n 0, 1) := by decide +kernel
theorem dX11_heard_1 : decode cX11_heard 1 = .ok (.getfield 10, 3) := by decide +kernel
theorem dX11_heard_4 : decode cX11_heard 4 = .ok (.iload_n 1, 1) := by decide +kernel
theorem dX11_heard_5 : decode cX11_heard 5 = .ok (.invokevirtual 110, 3) := by decide +kernel
theorem dX11_heard_8 : decode cX11_heard 8 = .ok (.ifCond .eq 38, 3) := by decide +kernel
theorem dX11_heard_11 : decode cX11_heard 11 = .ok (.iload_n 2, 1) := by decide +kernel
theorem dX11_heard_12 : decode cX11_heard 12 = .ok (.invokestatic 259, 3) := by decide +kernel
theorem dX11_heard_15 : decode cX11_heard 15 = .ok (.ifCond .eq 31, 3) := by decide +kernel
theorem dX11_heard_18 : decode cX11_heard 18 = .ok (.iload_n 3, 1) := by decide +kernel
theorem dX11_heard_19 : decode cX11_heard 19 = .ok (.invokestatic 262, 3) := by decide +kernel
theorem dX11_heard_22 : decode cX11_heard 22 = .ok (.ifCond .eq 24, 3) := by decide +kernel
theorem dX11_heard_25 : decode cX11_heard 25 = .ok (.iload 5, 2) := by decide +kernel
theorem dX11_heard_27 : decode cX11_heard 27 = .ok (.iconst 1, 1) := by decide +kernel
theorem dX11_heard_28 : decode cX11_heard 28 = .ok (.bipush 8, 2) := by decide +kernel
theorem dX11_heard_30 : decode cX11_heard 30 = .ok (.invokestatic 57, 3) := by decide +kernel
theorem dX11_heard_33 : decode cX11_heard 33 = .ok (.ifCond .eq 13, 3) := by decide +kernel
theorem dX11_heard_36 : decode cX11_heard 36 = .ok (.iload 6, 2) := by decide +kernel
theorem dX11_heard_38 : decode cX11_heard 38 = .ok (.iconst 0, 1) := by decide +kernel
theorem dX11_heard_39 : decode cX11_heard 39 = .ok (.iconst 1, 1) := by decide +kernel
theorem dX11_heard_40 : decode cX11_heard 40 = .ok (.invokestatic 57, 3) := by decide +kernel
theorem dX11_heard_43 : decode cX11_heard 43 = .ok (.ifCond .ne 5, 3) := by decide +kernel
theorem dX11_heard_46 : decode cX11_heard 46 = .ok (.iconst (-1), 1) := by decide +kernel
theorem dX11_heard_47 : decode cX11_heard 47 = .ok (.ireturn, 1) := by decide +kernel
theorem dX11_heard_48 : decode cX11_heard 48 = .ok (.aload_n 0, 1) := by decide +kernel
theorem dX11_heard_49 : decode cX11_heard 49 = .ok (.getfield 49, 3) := by decide +kernel
theorem dX11_heard_52 : decode cX11_heard 52 = .ok (.iload_n 2, 1) := by decide +kernel
theorem dX11_heard_53 : decode cX11_heard 53 = .ok (.aaload, 1) := by decide +kernel
theorem dX11_heard_54 : decode cX11_heard 54 = .ok (.iload_n 3, 1) := by decide +kernel
theorem dX11_heard_55 : decode cX11_heard 55 = .ok (.iload 4, 2) := by decide +kernel
theorem dX11_heard_57 : decode cX11_heard 57 = .ok (.iload 5, 2) := by decide +kernel
theorem dX11_heard_59 : decode cX11_heard 59 = .ok (.invokevirtual 265, 3) := by decide +kernel
theorem dX11_heard_62 : decode cX11_heard 62 = .ok (.istore 7, 2) := by decide +kernel
theorem dX11_heard_64 : decode cX11_heard 64 = .ok (.iload 7, 2) := by decide +kernel
theorem dX11_heard_66 : decode cX11_heard 66 = .ok (.ifCond .eq 6, 3) := by decide +kernel
theorem dX11_heard_69 : decode cX11_heard 69 = .ok (.iload 7, 2) := by decide +kernel
theorem dX11_heard_71 : decode cX11_heard 71 = .ok (.ireturn, 1) := by decide +kernel
theorem dX11_heard_72 : decode cX11_heard 72 = .ok (.iload 6, 2) := by decide +kernel
theorem dX11_heard_74 : decode cX11_heard 74 = .ok (.ifCond .ne 21, 3) := by decide +kernel
theorem dX11_heard_77 : decode cX11_heard 77 = .ok (.aload_n 0, 1) := by decide +kernel
theorem dX11_heard_78 : decode cX11_heard 78 = .ok (.iload_n 1, 1) := by decide +kernel
theorem dX11_heard_79 : decode cX11_heard 79 = .ok (.aload_n 0, 1) := by decide +kernel
theorem dX11_heard_80 : decode cX11_heard 80 = .ok (.getfield 49, 3) := by decide +kernel
theorem dX11_heard_83 : decode cX11_heard 83 = .ok (.iload_n 2, 1) := by decide +kernel
theorem dX11_heard_84 : decode cX11_heard 84 = .ok (.aaload, 1) := by decide +kernel
theorem dX11_heard_85 : decode cX11_heard 85 = .ok (.iload 4, 2) := by decide +kernel
theorem dX11_heard_87 : decode cX11_heard 87 = .ok (.iload 5, 2) := by decide +kernel
theorem dX11_heard_89 : decode cX11_heard 89 = .ok (.invokevirtual 268, 3) := by decide +kernel
theorem dX11_heard_92 : decode cX11_heard 92 = .ok (.goto 18, 3) := by decide +kernel
theorem dX11_heard_95 : decode cX11_heard 95 = .ok (.aload_n 0, 1) := by decide +kernel
theorem dX11_heard_96 : decode cX11_heard 96 = .ok (.iload_n 1, 1) := by decide +kernel
theorem dX11_heard_97 : decode cX11_heard 97 = .ok (.aload_n 0, 1) := by decide +kernel
theorem dX11_heard_98 : decode cX11_heard 98 = .ok (.getfield 49, 3) := by decide +kernel
theorem dX11_heard_101 : decode cX11_heard 101 = .ok (.iload_n 2, 1) := by decide +kernel
theorem dX11_heard_102 : decode cX11_heard 102 = .ok (.aaload, 1) := by decide +kernel
theorem dX11_heard_103 : decode cX11_heard 103 = .ok (.iload 4, 2) := by decide +kernel
theorem dX11_heard_105 : decode cX11_heard 105 = .ok (.iload 5, 2) := by decide +kernel
theorem dX11_heard_107 : decode cX11_heard 107 = .ok (.invokevirtual 272, 3) := by decide +kernel
theorem dX11_heard_110 : decode cX11_heard 110 = .ok (.ireturn, 1) := by decide +kernel
theorem dX11_film_0 : decode cX11_film 0 = .ok (.aload_n 0, 1) := by decide +kernel
theorem dX11_film_1 : decode cX11_film 1 = .ok (.getfield 10, 3) := by decide +kernel
theorem dX11_film_4 : decode cX11_film 4 = .ok (.iload_n 1, 1) := by decide +kernel
theorem dX11_film_5 : decode cX11_film 5 = .ok (.invokevirtual 110, 3) := by decide +kernel
theorem dX11_film_8 : decode cX11_film 8 = .ok (.ifCond .eq 28, 3) := by decide +kernel
theorem dX11_film_11 : decode cX11_film 11 = .ok (.iload_n 2, 1) := by decide +kernel
theorem dX11_film_12 : decode cX11_film 12 = .ok (.iconst 1, 1) := by decide +kernel
theorem dX11_film_13 : decode cX11_film 13 = .ok (.bipush 24, 2) := by decide +kernel
theorem dX11_film_15 : decode cX11_film 15 = .ok (.invokestatic 57, 3) := by decide +kernel
theorem dX11_film_18 : decode cX11_film 18 = .ok (.ifCond .eq 18, 3) := by decide +kernel
theorem dX11_film_21 : decode cX11_film 21 = .ok (.iload_n 3, 1) := by decide +kernel
theorem dX11_film_22 : decode cX11_film 22 = .ok (.invokestatic 259, 3) := by decide +kernel
theorem dX11_film_25 : decode cX11_film 25 = .ok (.ifCond .eq 11, 3) := by decide +kernel
theorem dX11_film_28 : decode cX11_film 28 = .ok (.iload 4, 2) := by decide +kernel
theorem dX11_film_30 : decode cX11_film 30 = .ok (.invokestatic 262, 3) := by decide +kernel
theorem dX11_film_33 : decode cX11_film 33 = .ok (.ifCond .ne 5, 3) := by decide +kernel
theorem dX11_film_36 : decode cX11_film 36 = .ok (.iconst (-1), 1) := by decide +kernel
theorem dX11_film_37 : decode cX11_film 37 = .ok (.ireturn, 1) := by decide +kernel
theorem dX11_film_38 : decode cX11_film 38 = .ok (.aload_n 0, 1) := by decide +kernel
theorem dX11_film_39 : decode cX11_film 39 = .ok (.getfield 49, 3) := by decide +kernel
theorem dX11_film_42 : decode cX11_film 42 = .ok (.iload_n 3, 1) := by decide +kernel
theorem dX11_film_43 : decode cX11_film 43 = .ok (.aaload, 1) := by decide +kernel
theorem dX11_film_44 : decode cX11_film 44 = .ok (.iload 4, 2) := by decide +kernel
theorem dX11_film_46 : decode cX11_film 46 = .ok (.iload 5, 2) := by decide +kernel
theorem dX11_film_48 : decode cX11_film 48 = .ok (.iload_n 2, 1) := by decide +kernel
theorem dX11_film_49 : decode cX11_film 49 = .ok (.invokevirtual 265, 3) := by decide +kernel
theorem dX11_film_52 : decode cX11_film 52 = .ok (.istore 6, 2) := by decide +kernel
theorem dX11_film_54 : decode cX11_film 54 = .ok (.iload 6, 2) := by decide +kernel
theorem dX11_film_56 : decode cX11_film 56 = .ok (.ifCond .eq 6, 3) := by decide +kernel
theorem dX11_film_59 : decode cX11_film 59 = .ok (.iload 6, 2) := by decide +kernel
theorem dX11_film_61 : decode cX11_film 61 = .ok (.ireturn, 1) := by decide +kernel
theorem dX11_film_62 : decode cX11_film 62 = .ok (.aload_n 0, 1) := by decide +kernel
theorem dX11_film_63 : decode cX11_film 63 = .ok (.getfield 10, 3) := by decide +kernel
theorem dX11_film_66 : decode cX11_film 66 = .ok (.getfield 92, 3) := by decide +kernel
theorem dX11_film_69 : decode cX11_film 69 = .ok (.getfield 125, 3) := by decide +kernel
theorem dX11_film_72 : decode cX11_film 72 = .ok (.iload_n 1, 1) := by decide +kernel
theorem dX11_film_73 : decode cX11_film 73 = .ok (.iaload, 1) := by decide +kernel
theorem dX11_film_74 : decode cX11_film 74 = .ok (.istore 7, 2) := by decide +kernel
theorem dX11_film_76 : decode cX11_film 76 = .ok (.iconst 0, 1) := by decide +kernel
theorem dX11_film_77 : decode cX11_film 77 = .ok (.istore 8, 2) := by decide +kernel
theorem dX11_film_79 : decode cX11_film 79 = .ok (.iload 8, 2) := by decide +kernel
theorem dX11_film_81 : decode cX11_film 81 = .ok (.iload_n 2, 1) := by decide +kernel
theorem dX11_film_82 : decode cX11_film 82 = .ok (.if_icmp .ge 57, 3) := by decide +kernel
theorem dX11_film_85 : decode cX11_film 85 = .ok (.aload_n 0, 1) := by decide +kernel
theorem dX11_film_86 : decode cX11_film 86 = .ok (.getfield 10, 3) := by decide +kernel
theorem dX11_film_89 : decode cX11_film 89 = .ok (.aload_n 0, 1) := by decide +kernel
theorem dX11_film_90 : decode cX11_film 90 = .ok (.getfield 10, 3) := by decide +kernel
theorem dX11_film_93 : decode cX11_film 93 = .ok (.getfield 113, 3) := by decide +kernel
theorem dX11_film_96 : decode cX11_film 96 = .ok (.iload_n 1, 1) := by decide +kernel
theorem dX11_film_97 : decode cX11_film 97 = .ok (.iaload, 1) := by decide +kernel
theorem dX11_film_98 : decode cX11_film 98 = .ok (.aload_n 0, 1) := by decide +kernel
theorem dX11_film_99 : decode cX11_film 99 = .ok (.getfield 10, 3) := by decide +kernel
theorem dX11_film_102 : decode cX11_film 102 = .ok (.getfield 119, 3) := by decide +kernel
theorem dX11_film_105 : decode cX11_film 105 = .ok (.iload_n 1, 1) := by decide +kernel
theorem dX11_film_106 : decode cX11_film 106 = .ok (.iaload, 1) := by decide +kernel
theorem dX11_film_107 : decode cX11_film 107 = .ok (.iload 7, 2) := by decide +kernel
theorem dX11_film_109 : decode cX11_film 109 = .ok (.iload 8, 2) := by decide +kernel
theorem dX11_film_111 : decode cX11_film 111 = .ok (.invokevirtual 199, 3) := by decide +kernel
theorem dX11_film_114 : decode cX11_film 114 = .ok (.istore 7, 2) := by decide +kernel
theorem dX11_film_116 : decode cX11_film 116 = .ok (.aload_n 0, 1) := by decide +kernel
theorem dX11_film_117 : decode cX11_film 117 = .ok (.getfield 49, 3) := by decide +kernel
theorem dX11_film_120 : decode cX11_film 120 = .ok (.iload_n 3, 1) := by decide +kernel
theorem dX11_film_121 : decode cX11_film 121 = .ok (.aaload, 1) := by decide +kernel
theorem dX11_film_122 : decode cX11_film 122 = .ok (.iload 5, 2) := by decide +kernel
theorem dX11_film_124 : decode cX11_film 124 = .ok (.iload 8, 2) := by decide +kernel
theorem dX11_film_126 : decode cX11_film 126 = .ok (.iadd, 1) := by decide +kernel
theorem dX11_film_127 : decode cX11_film 127 = .ok (.iload 7, 2) := by decide +kernel
theorem dX11_film_129 : decode cX11_film 129 = .ok (.i2l, 1) := by decide +kernel
theorem dX11_film_130 : decode cX11_film 130 = .ok (.invokevirtual 275, 3) := by decide +kernel
theorem dX11_film_133 : decode cX11_film 133 = .ok (.iinc 8 1, 3) := by decide +kernel
theorem dX11_film_136 : decode cX11_film 136 = .ok (.goto (-57), 3) := by decide +kernel
theorem dX11_film_139 : decode cX11_film 139 = .ok (.iload_n 2, 1) := by decide +kernel
theorem dX11_film_140 : decode cX11_film 140 = .ok (.ireturn, 1) := by decide +kernel
theorem dX11_sheet_0 : decode cX11_sheet 0 = .ok (.iload_n 1, 1) := by decide +kernel
theorem dX11_sheet_1 : decode cX11_sheet 1 = .ok (.invokestatic 259, 3) := by decide +kernel
theorem dX11_sheet_4 : decode cX11_sheet 4 = .ok (.ifCond .eq 16, 3) := by decide +kernel
theorem dX11_sheet_7 : decode cX11_sheet 7 = .ok (.iload_n 2, 1) := by decide +kernel
theorem dX11_sheet_8 : decode cX11_sheet 8 = .ok (.invokestatic 262, 3) := by decide +kernel
theorem dX11_sheet_11 : decode cX11_sheet 11 = .ok (.ifCond .eq 9, 3) := by decide +kernel
theorem dX11_sheet_14 : decode cX11_sheet 14 = .ok (.iload_n 3, 1) := by decide +kernel
theorem dX11_sheet_15 : decode cX11_sheet 15 = .ok (.bipush 24, 2) := by decide +kernel
theorem dX11_sheet_17 : decode cX11_sheet 17 = .ok (.if_icmp .le 5, 3) := by decide +kernel
theorem dX11_sheet_20 : decode cX11_sheet 20 = .ok (.iconst (-1), 1) := by decide +kernel
theorem dX11_sheet_21 : decode cX11_sheet 21 = .ok (.ireturn, 1) := by decide +kernel
theorem dX11_sheet_22 : decode cX11_sheet 22 = .ok (.iload_n 3, 1) := by decide +kernel
theorem dX11_sheet_23 : decode cX11_sheet 23 = .ok (.ifCond .ge 6, 3) := by decide +kernel
theorem dX11_sheet_26 : decode cX11_sheet 26 = .ok (.bipush (-14), 2) := by decide +kernel
theorem dX11_sheet_28 : decode cX11_sheet 28 = .ok (.ireturn, 1) := by decide +kernel
theorem dX11_sheet_29 : decode cX11_sheet 29 = .ok (.aload_n 0, 1) := by decide +kernel
theorem dX11_sheet_30 : decode cX11_sheet 30 = .ok (.getfield 49, 3) := by decide +kernel
theorem dX11_sheet_33 : decode cX11_sheet 33 = .ok (.iload_n 1, 1) := by decide +kernel
theorem dX11_sheet_34 : decode cX11_sheet 34 = .ok (.aaload, 1) := by decide +kernel
theorem dX11_sheet_35 : decode cX11_sheet 35 = .ok (.iload_n 2, 1) := by decide +kernel
theorem dX11_sheet_36 : decode cX11_sheet 36 = .ok (.iload_n 3, 1) := by decide +kernel
theorem dX11_sheet_37 : decode cX11_sheet 37 = .ok (.invokevirtual 279, 3) := by decide +kernel
theorem dX11_sheet_40 : decode cX11_sheet 40 = .ok (.iload_n 3, 1) := by decide +kernel
theorem dX11_sheet_41 : decode cX11_sheet 41 = .ok (.ireturn, 1) := by decide +kernel
theorem dX11_drop_0 : decode cX11_drop 0 = .ok (.iload_n 1, 1) := by decide +kernel
theorem dX11_drop_1 : decode cX11_drop 1 = .ok (.invokestatic 259, 3) := by decide +kernel
theorem dX11_drop_4 : decode cX11_drop 4 = .ok (.ifCond .ne 5, 3) := by decide +kernel
theorem dX11_drop_7 : decode cX11_drop 7 = .ok (.iconst (-1), 1) := by decide +kernel
theorem dX11_drop_8 : decode cX11_drop 8 = .ok (.ireturn, 1) := by decide +kernel
theorem dX11_drop_9 : decode cX11_drop 9 = .ok (.aload_n 0, 1) := by decide +kernel
theorem dX11_drop_10 : decode cX11_drop 10 = .ok (.getfield 49, 3) := by decide +kernel
theorem dX11_drop_13 : decode cX11_drop 13 = .ok (.iload_n 1, 1) := by decide +kernel
theorem dX11_drop_14 : decode cX11_drop 14 = .ok (.aaload, 1) := by decide +kernel
theorem dX11_drop_15 : decode cX11_drop 15 = .ok (.getfield 282, 3) := by decide +kernel
theorem dX11_drop_18 : decode cX11_drop 18 = .ok (.ifCond .ne 6, 3) := by decide +kernel
theorem dX11_drop_21 : decode cX11_drop 21 = .ok (.bipush (-11), 2) := by decide +kernel
theorem dX11_drop_23 : decode cX11_drop 23 = .ok (.ireturn, 1) := by decide +kernel
theorem dX11_drop_24 : decode cX11_drop 24 = .ok (.aload_n 0, 1) := by decide +kernel
theorem dX11_drop_25 : decode cX11_drop 25 = .ok (.getfield 49, 3) := by decide +kernel
theorem dX11_drop_28 : decode cX11_drop 28 = .ok (.iload_n 1, 1) := by decide +kernel
theorem dX11_drop_29 : decode cX11_drop 29 = .ok (.aaload, 1) := by decide +kernel
theorem dX11_drop_30 : decode cX11_drop 30 = .ok (.iconst 0, 1) := by decide +kernel
theorem dX11_drop_31 : decode cX11_drop 31 = .ok (.putfield 282, 3) := by decide +kernel
theorem dX11_drop_34 : decode cX11_drop 34 = .ok (.aload_n 0, 1) := by decide +kernel
theorem dX11_drop_35 : decode cX11_drop 35 = .ok (.getfield 49, 3) := by decide +kernel
theorem dX11_drop_38 : decode cX11_drop 38 = .ok (.iload_n 1, 1) := by decide +kernel
theorem dX11_drop_39 : decode cX11_drop 39 = .ok (.aaload, 1) := by decide +kernel
theorem dX11_drop_40 : decode cX11_drop 40 = .ok (.getfield 285, 3) := by decide +kernel
theorem dX11_drop_43 : decode cX11_drop 43 = .ok (.ireturn, 1) := by decide +kernel
theorem dX11_item_0 : decode cX11_item 0 = .ok (.iload_n 1, 1) := by decide +kernel
theorem dX11_item_1 : decode cX11_item 1 = .ok (.invokestatic 259, 3) := by decide +kernel
theorem dX11_item_4 : decode cX11_item 4 = .ok (.ifCond .eq 10, 3) := by decide +kernel
theorem dX11_item_7 : decode cX11_item 7 = .ok (.iload_n 2, 1) := by decide +kernel
theorem dX11_item_8 : decode cX11_item 8 = .ok (.invokestatic 262, 3) := by decide +kernel
theorem dX11_item_11 : decode cX11_item 11 = .ok (.ifCond .ne 5, 3) := by decide +kernel
theorem dX11_item_14 : decode cX11_item 14 = .ok (.iconst (-1), 1) := by decide +kernel
theorem dX11_item_15 : decode cX11_item 15 = .ok (.ireturn, 1) := by decide +kernel
theorem dX11_item_16 : decode cX11_item 16 = .ok (.aload_n 0, 1) := by decide +kernel
theorem dX11_item_17 : decode cX11_item 17 = .ok (.getfield 49, 3) := by decide +kernel
theorem dX11_item_20 : decode cX11_item 20 = .ok (.iload_n 1, 1) := by decide +kernel
theorem dX11_item_21 : decode cX11_item 21 = .ok (.aaload, 1) := by decide +kernel
theorem dX11_item_22 : decode cX11_item 22 = .ok (.iload_n 2, 1) := by decide +kernel
theorem dX11_item_23 : decode cX11_item 23 = .ok (.iload_n 3, 1) := by decide +kernel
theorem dX11_item_24 : decode cX11_item 24 = .ok (.iconst 1, 1) := by decide +kernel
theorem dX11_item_25 : decode cX11_item 25 = .ok (.invokevirtual 265, 3) := by decide +kernel
theorem dX11_item_28 : decode cX11_item 28 = .ok (.istore 6, 2) := by decide +kernel
theorem dX11_item_30 : decode cX11_item 30 = .ok (.iload 6, 2) := by decide +kernel
theorem dX11_item_32 : decode cX11_item 32 = .ok (.ifCond .eq 6, 3) := by decide +kernel
theorem dX11_item_35 : decode cX11_item 35 = .ok (.iload 6, 2) := by decide +kernel
theorem dX11_item_37 : decode cX11_item 37 = .ok (.ireturn, 1) := by decide +kernel
theorem dX11_item_38 : decode cX11_item 38 = .ok (.aload_n 0, 1) := by decide +kernel
theorem dX11_item_39 : decode cX11_item 39 = .ok (.getfield 49, 3) := by decide +kernel
theorem dX11_item_42 : decode cX11_item 42 = .ok (.iload_n 1, 1) := by decide +kernel
theorem dX11_item_43 : decode cX11_item 43 = .ok (.aaload, 1) := by decide +kernel
theorem dX11_item_44 : decode cX11_item 44 = .ok (.iload_n 3, 1) := by decide +kernel
theorem dX11_item_45 : decode cX11_item 45 = .ok (.lload 4, 2) := by decide +kernel
theorem dX11_item_47 : decode cX11_item 47 = .ok (.invokevirtual 275, 3) := by decide +kernel
theorem dX11_item_50 : decode cX11_item 50 = .ok (.iconst 1, 1) := by decide +kernel
theorem dX11_item_51 : decode cX11_item 51 = .ok (.ireturn, 1) := by decide +kernel
theorem dX11_copy_0 : decode cX11_copy 0 = .ok (.iload_n 1, 1) := by decide +kernel
theorem dX11_copy_1 : decode cX11_copy 1 = .ok (.invokestatic 259, 3) := by decide +kernel
theorem dX11_copy_4 : decode cX11_copy 4 = .ok (.ifCond .eq 10, 3) := by decide +kernel
theorem dX11_copy_7 : decode cX11_copy 7 = .ok (.iload_n 3, 1) := by decide +kernel
theorem dX11_copy_8 : decode cX11_copy 8 = .ok (.invokestatic 259, 3) := by decide +kernel
theorem dX11_copy_11 : decode cX11_copy 11 = .ok (.ifCond .ne 5, 3) := by decide +kernel
theorem dX11_copy_14 : decode cX11_copy 14 = .ok (.iconst (-1), 1) := by decide +kernel
theorem dX11_copy_15 : decode cX11_copy 15 = .ok (.ireturn, 1) := by decide +kernel
theorem dX11_copy_16 : decode cX11_copy 16 = .ok (.aload_n 0, 1) := by decide +kernel
theorem dX11_copy_17 : decode cX11_copy 17 = .ok (.getfield 49, 3) := by decide +kernel
theorem dX11_copy_20 : decode cX11_copy 20 = .ok (.iload_n 1, 1) := by decide +kernel
theorem dX11_copy_21 : decode cX11_copy 21 = .ok (.aaload, 1) := by decide +kernel
theorem dX11_copy_22 : decode cX11_copy 22 = .ok (.astore 6, 2) := by decide +kernel
theorem dX11_copy_24 : decode cX11_copy 24 = .ok (.aload_n 0, 1) := by decide +kernel
theorem dX11_copy_25 : decode cX11_copy 25 = .ok (.getfield 49, 3) := by decide +kernel
theorem dX11_copy_28 : decode cX11_copy 28 = .ok (.iload_n 3, 1) := by decide +kernel
theorem dX11_copy_29 : decode cX11_copy 29 = .ok (.aaload, 1) := by decide +kernel
theorem dX11_copy_30 : decode cX11_copy 30 = .ok (.astore 7, 2) := by decide +kernel
theorem dX11_copy_32 : decode cX11_copy 32 = .ok (.aload 6, 2) := by decide +kernel
theorem dX11_copy_34 : decode cX11_copy 34 = .ok (.getfield 282, 3) := by decide +kernel
theorem dX11_copy_37 : decode cX11_copy 37 = .ok (.ifCond .eq 11, 3) := by decide +kernel
theorem dX11_copy_40 : decode cX11_copy 40 = .ok (.aload 7, 2) := by decide +kernel
theorem dX11_copy_42 : decode cX11_copy 42 = .ok (.getfield 282, 3) := by decide +kernel
theorem dX11_copy_45 : decode cX11_copy 45 = .ok (.ifCond .ne 6, 3) := by decide +kernel
theorem dX11_copy_48 : decode cX11_copy 48 = .ok (.bipush (-11), 2) := by decide +kernel
theorem dX11_copy_50 : decode cX11_copy 50 = .ok (.ireturn, 1) := by decide +kernel
theorem dX11_copy_51 : decode cX11_copy 51 = .ok (.aload 6, 2) := by decide +kernel
theorem dX11_copy_53 : decode cX11_copy 53 = .ok (.getfield 286, 3) := by decide +kernel
theorem dX11_copy_56 : decode cX11_copy 56 = .ok (.aload 7, 2) := by decide +kernel
theorem dX11_copy_58 : decode cX11_copy 58 = .ok (.getfield 286, 3) := by decide +kernel
theorem dX11_copy_61 : decode cX11_copy 61 = .ok (.if_icmp .eq 6, 3) := by decide +kernel
theorem dX11_copy_64 : decode cX11_copy 64 = .ok (.bipush (-12), 2) := by decide +kernel
theorem dX11_copy_66 : decode cX11_copy 66 = .ok (.ireturn, 1) := by decide +kernel
theorem dX11_copy_67 : decode cX11_copy 67 = .ok (.aload 6, 2) := by decide +kernel
theorem dX11_copy_69 : decode cX11_copy 69 = .ok (.iload_n 2, 1) := by decide +kernel
theorem dX11_copy_70 : decode cX11_copy 70 = .ok (.iload 5, 2) := by decide +kernel
theorem dX11_copy_72 : decode cX11_copy 72 = .ok (.invokevirtual 289, 3) := by decide +kernel
theorem dX11_copy_75 : decode cX11_copy 75 = .ok (.ifCond .eq 15, 3) := by decide +kernel
theorem dX11_copy_78 : decode cX11_copy 78 = .ok (.aload 7, 2) := by decide +kernel
theorem dX11_copy_80 : decode cX11_copy 80 = .ok (.iload 4, 2) := by decide +kernel
theorem dX11_copy_82 : decode cX11_copy 82 = .ok (.iload 5, 2) := by decide +kernel
theorem dX11_copy_84 : decode cX11_copy 84 = .ok (.invokevirtual 289, 3) := by decide +kernel
theorem dX11_copy_87 : decode cX11_copy 87 = .ok (.ifCond .ne 6, 3) := by decide +kernel
theorem dX11_copy_90 : decode cX11_copy 90 = .ok (.bipush (-13), 2) := by decide +kernel
theorem dX11_copy_92 : decode cX11_copy 92 = .ok (.ireturn, 1) := by decide +kernel
theorem dX11_copy_93 : decode cX11_copy 93 = .ok (.aload 6, 2) := by decide +kernel
theorem dX11_copy_95 : decode cX11_copy 95 = .ok (.getfield 292, 3) := by decide +kernel
theorem dX11_copy_98 : decode cX11_copy 98 = .ok (.iload_n 2, 1) := by decide +kernel
theorem dX11_copy_99 : decode cX11_copy 99 = .ok (.aload 7, 2) := by decide +kernel
theorem dX11_copy_101 : decode cX11_copy 101 = .ok (.getfield 292, 3) := by decide +kernel
theorem dX11_copy_104 : decode cX11_copy 104 = .ok (.iload 4, 2) := by decide +kernel
theorem dX11_copy_106 : decode cX11_copy 106 = .ok (.iload 5, 2) := by decide +kernel
theorem dX11_copy_108 : decode cX11_copy 108 = .ok (.invokestatic 296, 3) := by decide +kernel
theorem dX11_copy_111 : decode cX11_copy 111 = .ok (.iload 5, 2) := by decide +kernel
theorem dX11_copy_113 : decode cX11_copy 113 = .ok (.ireturn, 1) := by decide +kernel
theorem dX11_spendNights_0 : decode cX11_spendNights 0 = .ok (.iload_n 1, 1) := by decide +kernel
theorem dX11_spendNights_1 : decode cX11_spendNights 1 = .ok (.iconst 1, 1) := by decide +kernel
theorem dX11_spendNights_2 : decode cX11_spendNights 2 = .ok (.bipush 40, 2) := by decide +kernel
theorem dX11_spendNights_4 : decode cX11_spendNights 4 = .ok (.invokestatic 57, 3) := by decide +kernel
theorem dX11_spendNights_7 : decode cX11_spendNights 7 = .ok (.ifCond .ne 5, 3) := by decide +kernel
theorem dX11_spendNights_10 : decode cX11_spendNights 10 = .ok (.iconst (-1), 1) := by decide +kernel
theorem dX11_spendNights_11 : decode cX11_spendNights 11 = .ok (.ireturn, 1) := by decide +kernel
theorem dX11_spendNights_12 : decode cX11_spendNights 12 = .ok (.aload_n 0, 1) := by decide +kernel
theorem dX11_spendNights_13 : decode cX11_spendNights 13 = .ok (.getfield 10, 3) := by decide +kernel
theorem dX11_spendNights_16 : decode cX11_spendNights 16 = .ok (.getfield 92, 3) := by decide +kernel
theorem dX11_spendNights_19 : decode cX11_spendNights 19 = .ok (.getfield 168, 3) := by decide +kernel
theorem dX11_spendNights_22 : decode cX11_spendNights 22 = .ok (.iload_n 1, 1) := by decide +kernel
theorem dX11_spendNights_23 : decode cX11_spendNights 23 = .ok (.iadd, 1) := by decide +kernel
theorem dX11_spendNights_24 : decode cX11_spendNights 24 = .ok (.sipush 9999, 3) := by decide +kernel
theorem dX11_spendNights_27 : decode cX11_spendNights 27 = .ok (.if_icmp .le 6, 3) := by decide +kernel
theorem dX11_spendNights_30 : decode cX11_spendNights 30 = .ok (.bipush (-3), 2) := by decide +kernel
theorem dX11_spendNights_32 : decode cX11_spendNights 32 = .ok (.ireturn, 1) := by decide +kernel
theorem dX11_spendNights_33 : decode cX11_spendNights 33 = .ok (.iconst 0, 1) := by decide +kernel
theorem dX11_spendNights_34 : decode cX11_spendNights 34 = .ok (.istore_n 3, 1) := by decide +kernel
theorem dX11_spendNights_35 : decode cX11_spendNights 35 = .ok (.iconst 0, 1) := by decide +kernel
theorem dX11_spendNights_36 : decode cX11_spendNights 36 = .ok (.istore 4, 2) := by decide +kernel
theorem dX11_spendNights_38 : decode cX11_spendNights 38 = .ok (.iload 4, 2) := by decide +kernel
theorem dX11_spendNights_40 : decode cX11_spendNights 40 = .ok (.iload_n 1, 1) := by decide +kernel
theorem dX11_spendNights_41 : decode cX11_spendNights 41 = .ok (.if_icmp .ge 44, 3) := by decide +kernel
theorem dX11_spendNights_44 : decode cX11_spendNights 44 = .ok (.aload_n 0, 1) := by decide +kernel
theorem dX11_spendNights_45 : decode cX11_spendNights 45 = .ok (.getfield 19, 3) := by decide +kernel
theorem dX11_spendNights_48 : decode cX11_spendNights 48 = .ok (.aload_n 0, 1) := by decide +kernel
theorem dX11_spendNights_49 : decode cX11_spendNights 49 = .ok (.getfield 10, 3) := by decide +kernel
theorem dX11_spendNights_52 : decode cX11_spendNights 52 = .ok (.getfield 92, 3) := by decide +kernel
theorem dX11_spendNights_55 : decode cX11_spendNights 55 = .ok (.invokevirtual 189, 3) := by decide +kernel
theorem dX11_spendNights_58 : decode cX11_spendNights 58 = .ok (.iload_n 2, 1) := by decide +kernel
theorem dX11_spendNights_59 : decode cX11_spendNights 59 = .ok (.ifCond .eq 10, 3) := by decide +kernel
theorem dX11_spendNights_62 : decode cX11_spendNights 62 = .ok (.aload_n 0, 1) := by decide +kernel
theorem dX11_spendNights_63 : decode cX11_spendNights 63 = .ok (.getfield 10, 3) := by decide +kernel
theorem dX11_spendNights_66 : decode cX11_spendNights 66 = .ok (.invokevirtual 302, 3) := by decide +kernel
theorem dX11_spendNights_69 : decode cX11_spendNights 69 = .ok (.iload_n 3, 1) := by decide +kernel
theorem dX11_spendNights_70 : decode cX11_spendNights 70 = .ok (.aload_n 0, 1) := by decide +kernel
theorem dX11_spendNights_71 : decode cX11_spendNights 71 = .ok (.getfield 10, 3) := by decide +kernel
theorem dX11_spendNights_74 : decode cX11_spendNights 74 = .ok (.invokevirtual 305, 3) := by decide +kernel
theorem dX11_spendNights_77 : decode cX11_spendNights 77 = .ok (.iadd, 1) := by decide +kernel
theorem dX11_spendNights_78 : decode cX11_spendNights 78 = .ok (.istore_n 3, 1) := by decide +kernel
theorem dX11_spendNights_79 : decode cX11_spendNights 79 = .ok (.iinc 4 1, 3) := by decide +kernel
theorem dX11_spendNights_82 : decode cX11_spendNights 82 = .ok (.goto (-44), 3) := by decide +kernel
theorem dX11_spendNights_85 : decode cX11_spendNights 85 = .ok (.iload_n 3, 1) := by decide +kernel
theorem dX11_spendNights_86 : decode cX11_spendNights 86 = .ok (.ireturn, 1) := by decide +kernel
theorem dX11_kindsHeard_0 : decode cX11_kindsHeard 0 = .ok (.iconst 0, 1) := by decide +kernel
theorem dX11_kindsHeard_1 : decode cX11_kindsHeard 1 = .ok (.istore 5, 2) := by decide +kernel
theorem dX11_kindsHeard_3 : decode cX11_kindsHeard 3 = .ok (.iconst 0, 1) := by decide +kernel
theorem dX11_kindsHeard_4 : decode cX11_kindsHeard 4 = .ok (.istore 6, 2) := by decide +kernel
theorem dX11_kindsHeard_6 : decode cX11_kindsHeard 6 = .ok (.iload 6, 2) := by decide +kernel
theorem dX11_kindsHeard_8 : decode cX11_kindsHeard 8 = .ok (.iconst 5, 1) := by decide +kernel
theorem dX11_kindsHeard_9 : decode cX11_kindsHeard 9 = .ok (.if_icmp .ge 52, 3) := by decide +kernel
theorem dX11_kindsHeard_12 : decode cX11_kindsHeard 12 = .ok (.aload_n 0, 1) := by decide +kernel
theorem dX11_kindsHeard_13 : decode cX11_kindsHeard 13 = .ok (.iload 6, 2) := by decide +kernel
theorem dX11_kindsHeard_15 : decode cX11_kindsHeard 15 = .ok (.aload_n 0, 1) := by decide +kernel
theorem dX11_kindsHeard_16 : decode cX11_kindsHeard 16 = .ok (.getfield 10, 3) := by decide +kernel
theorem dX11_kindsHeard_19 : decode cX11_kindsHeard 19 = .ok (.getfield 119, 3) := by decide +kernel
theorem dX11_kindsHeard_22 : decode cX11_kindsHeard 22 = .ok (.iload_n 1, 1) := by decide +kernel
theorem dX11_kindsHeard_23 : decode cX11_kindsHeard 23 = .ok (.iaload, 1) := by decide +kernel
theorem dX11_kindsHeard_24 : decode cX11_kindsHeard 24 = .ok (.aload_n 0, 1) := by decide +kernel
theorem dX11_kindsHeard_25 : decode cX11_kindsHeard 25 = .ok (.getfield 10, 3) := by decide +kernel
theorem dX11_kindsHeard_28 : decode cX11_kindsHeard 28 = .ok (.getfield 92, 3) := by decide +kernel
theorem dX11_kindsHeard_31 : decode cX11_kindsHeard 31 = .ok (.getfield 125, 3) := by decide +kernel
theorem dX11_kindsHeard_34 : decode cX11_kindsHeard 34 = .ok (.iload_n 1, 1) := by decide +kernel
theorem dX11_kindsHeard_35 : decode cX11_kindsHeard 35 = .ok (.iaload, 1) := by decide +kernel
theorem dX11_kindsHeard_36 : decode cX11_kindsHeard 36 = .ok (.aload_n 2, 1) := by decide +kernel
theorem dX11_kindsHeard_37 : decode cX11_kindsHeard 37 = .ok (.iload_n 3, 1) := by decide +kernel
theorem dX11_kindsHeard_38 : decode cX11_kindsHeard 38 = .ok (.iload 4, 2) := by decide +kernel
theorem dX11_kindsHeard_40 : decode cX11_kindsHeard 40 = .ok (.invokevirtual 308, 3) := by decide +kernel
theorem dX11_kindsHeard_43 : decode cX11_kindsHeard 43 = .ok (.ifCond .eq 12, 3) := by decide +kernel
theorem dX11_kindsHeard_46 : decode cX11_kindsHeard 46 = .ok (.iload 5, 2) := by decide +kernel
theorem dX11_kindsHeard_48 : decode cX11_kindsHeard 48 = .ok (.iconst 1, 1) := by decide +kernel
theorem dX11_kindsHeard_49 : decode cX11_kindsHeard 49 = .ok (.iload 6, 2) := by decide +kernel
theorem dX11_kindsHeard_51 : decode cX11_kindsHeard 51 = .ok (.ishl, 1) := by decide +kernel
theorem dX11_kindsHeard_52 : decode cX11_kindsHeard 52 = .ok (.ior, 1) := by decide +kernel
theorem dX11_kindsHeard_53 : decode cX11_kindsHeard 53 = .ok (.istore 5, 2) := by decide +kernel
theorem dX11_kindsHeard_55 : decode cX11_kindsHeard 55 = .ok (.iinc 6 1, 3) := by decide +kernel
theorem dX11_kindsHeard_58 : decode cX11_kindsHeard 58 = .ok (.goto (-52), 3) := by decide +kernel
theorem dX11_kindsHeard_61 : decode cX11_kindsHeard 61 = .ok (.iload 5, 2) := by decide +kernel
theorem dX11_kindsHeard_63 : decode cX11_kindsHeard 63 = .ok (.ireturn, 1) := by decide +kernel
theorem dX11_dearsHeard_0 : decode cX11_dearsHeard 0 = .ok (.iconst 0, 1) := by decide +kernel
theorem dX11_dearsHeard_1 : decode cX11_dearsHeard 1 = .ok (.istore 5, 2) := by decide +kernel
theorem dX11_dearsHeard_3 : decode cX11_dearsHeard 3 = .ok (.iconst 1, 1) := by decide +kernel
theorem dX11_dearsHeard_4 : decode cX11_dearsHeard 4 = .ok (.istore 6, 2) := by decide +kernel
theorem dX11_dearsHeard_6 : decode cX11_dearsHeard 6 = .ok (.iload 6, 2) := by decide +kernel
theorem dX11_dearsHeard_8 : decode cX11_dearsHeard 8 = .ok (.bipush 9, 2) := by decide +kernel
theorem dX11_dearsHeard_10 : decode cX11_dearsHeard 10 = .ok (.if_icmp .gt 52, 3) := by decide +kernel
theorem dX11_dearsHeard_13 : decode cX11_dearsHeard 13 = .ok (.aload_n 0, 1) := by decide +kernel
theorem dX11_dearsHeard_14 : decode cX11_dearsHeard 14 = .ok (.aload_n 0, 1) := by decide +kernel
theorem dX11_dearsHeard_15 : decode cX11_dearsHeard 15 = .ok (.getfield 10, 3) := by decide +kernel
theorem dX11_dearsHeard_18 : decode cX11_dearsHeard 18 = .ok (.getfield 113, 3) := by decide +kernel
theorem dX11_dearsHeard_21 : decode cX11_dearsHeard 21 = .ok (.iload_n 1, 1) := by decide +kernel
theorem dX11_dearsHeard_22 : decode cX11_dearsHeard 22 = .ok (.iaload, 1) := by decide +kernel
theorem dX11_dearsHeard_23 : decode cX11_dearsHeard 23 = .ok (.iload 6, 2) := by decide +kernel
theorem dX11_dearsHeard_25 : decode cX11_dearsHeard 25 = .ok (.aload_n 0, 1) := by decide +kernel
theorem dX11_dearsHeard_26 : decode cX11_dearsHeard 26 = .ok (.getfield 10, 3) := by decide +kernel
theorem dX11_dearsHeard_29 : decode cX11_dearsHeard 29 = .ok (.getfield 92, 3) := by decide +kernel
theorem dX11_dearsHeard_32 : decode cX11_dearsHeard 32 = .ok (.getfield 125, 3) := by decide +kernel
theorem dX11_dearsHeard_35 : decode cX11_dearsHeard 35 = .ok (.iload_n 1, 1) := by decide +kernel
theorem dX11_dearsHeard_36 : decode cX11_dearsHeard 36 = .ok (.iaload, 1) := by decide +kernel
theorem dX11_dearsHeard_37 : decode cX11_dearsHeard 37 = .ok (.aload_n 2, 1) := by decide +kernel
theorem dX11_dearsHeard_38 : decode cX11_dearsHeard 38 = .ok (.iload_n 3, 1) := by decide +kernel
theorem dX11_dearsHeard_39 : decode cX11_dearsHeard 39 = .ok (.iload 4, 2) := by decide +kernel
theorem dX11_dearsHeard_41 : decode cX11_dearsHeard 41 = .ok (.invokevirtual 308, 3) := by decide +kernel
theorem dX11_dearsHeard_44 : decode cX11_dearsHeard 44 = .ok (.ifCond .eq 12, 3) := by decide +kernel
theorem dX11_dearsHeard_47 : decode cX11_dearsHeard 47 = .ok (.iload 5, 2) := by decide +kernel
theorem dX11_dearsHeard_49 : decode cX11_dearsHeard 49 = .ok (.iconst 1, 1) := by decide +kernel
theorem dX11_dearsHeard_50 : decode cX11_dearsHeard 50 = .ok (.iload 6, 2) := by decide +kernel
theorem dX11_dearsHeard_52 : decode cX11_dearsHeard 52 = .ok (.ishl, 1) := by decide +kernel
theorem dX11_dearsHeard_53 : decode cX11_dearsHeard 53 = .ok (.ior, 1) := by decide +kernel
theorem dX11_dearsHeard_54 : decode cX11_dearsHeard 54 = .ok (.istore 5, 2) := by decide +kernel
theorem dX11_dearsHeard_56 : decode cX11_dearsHeard 56 = .ok (.iinc 6 1, 3) := by decide +kernel
theorem dX11_dearsHeard_59 : decode cX11_dearsHeard 59 = .ok (.goto (-53), 3) := by decide +kernel
theorem dX11_dearsHeard_62 : decode cX11_dearsHeard 62 = .ok (.iload 5, 2) := by decide +kernel
theorem dX11_dearsHeard_64 : decode cX11_dearsHeard 64 = .ok (.ireturn, 1) := by decide +kernel
theorem dX11_isHeardAs_0 : decode cX11_isHeardAs 0 = .ok (.iload_n 3, 1) := by decide +kernel
theorem dX11_isHeardAs_1 : decode cX11_isHeardAs 1 = .ok (.istore 7, 2) := by decide +kernel
theorem dX11_isHeardAs_3 : decode cX11_isHeardAs 3 = .ok (.iconst 0, 1) := by decide +kernel
theorem dX11_isHeardAs_4 : decode cX11_isHeardAs 4 = .ok (.istore 8, 2) := by decide +kernel
theorem dX11_isHeardAs_6 : decode cX11_isHeardAs 6 = .ok (.iload 8, 2) := by decide +kernel
theorem dX11_isHeardAs_8 : decode cX11_isHeardAs 8 = .ok (.iload 6, 2) := by decide +kernel
theorem dX11_isHeardAs_10 : decode cX11_isHeardAs 10 = .ok (.if_icmp .ge 44, 3) := by decide +kernel
theorem dX11_isHeardAs_13 : decode cX11_isHeardAs 13 = .ok (.aload_n 0, 1) := by decide +kernel
theorem dX11_isHeardAs_14 : decode cX11_isHeardAs 14 = .ok (.getfield 10, 3) := by decide +kernel
theorem dX11_isHeardAs_17 : decode cX11_isHeardAs 17 = .ok (.iload_n 1, 1) := by decide +kernel
theorem dX11_isHeardAs_18 : decode cX11_isHeardAs 18 = .ok (.iload_n 2, 1) := by decide +kernel
theorem dX11_isHeardAs_19 : decode cX11_isHeardAs 19 = .ok (.iload 7, 2) := by decide +kernel
theorem dX11_isHeardAs_21 : decode cX11_isHeardAs 21 = .ok (.iload 8, 2) := by decide +kernel
theorem dX11_isHeardAs_23 : decode cX11_isHeardAs 23 = .ok (.invokevirtual 199, 3) := by decide +kernel
theorem dX11_isHeardAs_26 : decode cX11_isHeardAs 26 = .ok (.istore 7, 2) := by decide +kernel
theorem dX11_isHeardAs_28 : decode cX11_isHeardAs 28 = .ok (.aload 4, 2) := by decide +kernel
theorem dX11_isHeardAs_30 : decode cX11_isHeardAs 30 = .ok (.getfield 292, 3) := by decide +kernel
theorem dX11_isHeardAs_33 : decode cX11_isHeardAs 33 = .ok (.iload 5, 2) := by decide +kernel
theorem dX11_isHeardAs_35 : decode cX11_isHeardAs 35 = .ok (.iload 8, 2) := by decide +kernel
theorem dX11_isHeardAs_37 : decode cX11_isHeardAs 37 = .ok (.iadd, 1) := by decide +kernel
theorem dX11_isHeardAs_38 : decode cX11_isHeardAs 38 = .ok (.laload, 1) := by decide +kernel
theorem dX11_isHeardAs_39 : decode cX11_isHeardAs 39 = .ok (.iload 7, 2) := by decide +kernel
theorem dX11_isHeardAs_41 : decode cX11_isHeardAs 41 = .ok (.i2l, 1) := by decide +kernel
theorem dX11_isHeardAs_42 : decode cX11_isHeardAs 42 = .ok (.lcmp, 1) := by decide +kernel
theorem dX11_isHeardAs_43 : decode cX11_isHeardAs 43 = .ok (.ifCond .eq 5, 3) := by decide +kernel
theorem dX11_isHeardAs_46 : decode cX11_isHeardAs 46 = .ok (.iconst 0, 1) := by decide +kernel
theorem dX11_isHeardAs_47 : decode cX11_isHeardAs 47 = .ok (.ireturn, 1) := by decide +kernel
theorem dX11_isHeardAs_48 : decode cX11_isHeardAs 48 = .ok (.iinc 8 1, 3) := by decide +kernel
theorem dX11_isHeardAs_51 : decode cX11_isHeardAs 51 = .ok (.goto (-45), 3) := by decide +kernel
theorem dX11_isHeardAs_54 : decode cX11_isHeardAs 54 = .ok (.iconst 1, 1) := by decide +kernel
theorem dX11_isHeardAs_55 : decode cX11_isHeardAs 55 = .ok (.ireturn, 1) := by decide +kernel
theorem dX11_ways_0 : decode cX11_ways 0 = .ok (.iconst 1, 1) := by decide +kernel
theorem dX11_ways_1 : decode cX11_ways 1 = .ok (.istore 4, 2) := by decide +kernel
theorem dX11_ways_3 : decode cX11_ways 3 = .ok (.iconst 0, 1) := by decide +kernel
theorem dX11_ways_4 : decode cX11_ways 4 = .ok (.istore 5, 2) := by decide +kernel
theorem dX11_ways_6 : decode cX11_ways 6 = .ok (.iload 5, 2) := by decide +kernel
theorem dX11_ways_8 : decode cX11_ways 8 = .ok (.bipush 8, 2) := by decide +kernel
theorem dX11_ways_10 : decode cX11_ways 10 = .ok (.if_icmp .ge 40, 3) := by decide +kernel
theorem dX11_ways_13 : decode cX11_ways 13 = .ok (.iload_n 1, 1) := by decide +kernel
theorem dX11_ways_14 : decode cX11_ways 14 = .ok (.iload 5, 2) := by decide +kernel
theorem dX11_ways_16 : decode cX11_ways 16 = .ok (.invokestatic 236, 3) := by decide +kernel
theorem dX11_ways_19 : decode cX11_ways 19 = .ok (.ifCond .eq 25, 3) := by decide +kernel
theorem dX11_ways_22 : decode cX11_ways 22 = .ok (.iload 4, 2) := by decide +kernel
theorem dX11_ways_24 : decode cX11_ways 24 = .ok (.iload_n 2, 1) := by decide +kernel
theorem dX11_ways_25 : decode cX11_ways 25 = .ok (.iload 5, 2) := by decide +kernel
theorem dX11_ways_27 : decode cX11_ways 27 = .ok (.invokestatic 236, 3) := by decide +kernel
theorem dX11_ways_30 : decode cX11_ways 30 = .ok (.ifCond .eq 7, 3) := by decide +kernel
theorem dX11_ways_33 : decode cX11_ways 33 = .ok (.iload_n 3, 1) := by decide +kernel
theorem dX11_ways_34 : decode cX11_ways 34 = .ok (.goto 7, 3) := by decide +kernel
theorem dX11_ways_37 : decode cX11_ways 37 = .ok (.bipush 10, 2) := by decide +kernel
theorem dX11_ways_39 : decode cX11_ways 39 = .ok (.iload_n 3, 1) := by decide +kernel
theorem dX11_ways_40 : decode cX11_ways 40 = .ok (.isub, 1) := by decide +kernel
theorem dX11_ways_41 : decode cX11_ways 41 = .ok (.imul, 1) := by decide +kernel
theorem dX11_ways_42 : decode cX11_ways 42 = .ok (.istore 4, 2) := by decide +kernel
theorem dX11_ways_44 : decode cX11_ways 44 = .ok (.iinc 5 1, 3) := by decide +kernel
theorem dX11_ways_47 : decode cX11_ways 47 = .ok (.goto (-41), 3) := by decide +kernel
theorem dX11_ways_50 : decode cX11_ways 50 = .ok (.iload 4, 2) := by decide +kernel
theorem dX11_ways_52 : decode cX11_ways 52 = .ok (.ireturn, 1) := by decide +kernel
theorem dX11_greatestCommon_0 : decode cX11_greatestCommon 0 = .ok (.iload_n 1, 1) := by decide +kernel
theorem dX11_greatestCommon_1 : decode cX11_greatestCommon 1 = .ok (.istore_n 2, 1) := by decide +kernel
theorem dX11_greatestCommon_2 : decode cX11_greatestCommon 2 = .ok (.iload_n 0, 1) := by decide +kernel
theorem dX11_greatestCommon_3 : decode cX11_greatestCommon 3 = .ok (.istore_n 3, 1) := by decide +kernel
theorem dX11_greatestCommon_4 : decode cX11_greatestCommon 4 = .ok (.iconst 0, 1) := by decide +kernel
theorem dX11_greatestCommon_5 : decode cX11_greatestCommon 5 = .ok (.istore 4, 2) := by decide +kernel
theorem dX11_greatestCommon_7 : decode cX11_greatestCommon 7 = .ok (.iload 4, 2) := by decide +kernel
theorem dX11_greatestCommon_9 : decode cX11_greatestCommon 9 = .ok (.bipush 100, 2) := by decide +kernel
theorem dX11_greatestCommon_11 : decode cX11_greatestCommon 11 = .ok (.if_icmp .ge 23, 3) := by decide +kernel
theorem dX11_greatestCommon_14 : decode cX11_greatestCommon 14 = .ok (.iload_n 3, 1) := by decide +kernel
theorem dX11_greatestCommon_15 : decode cX11_greatestCommon 15 = .ok (.ifCond .eq 19, 3) := by decide +kernel
theorem dX11_greatestCommon_18 : decode cX11_greatestCommon 18 = .ok (.iload_n 2, 1) := by decide +kernel
theorem dX11_greatestCommon_19 : decode cX11_greatestCommon 19 = .ok (.iload_n 3, 1) := by decide +kernel
theorem dX11_greatestCommon_20 : decode cX11_greatestCommon 20 = .ok (.irem, 1) := by decide +kernel
theorem dX11_greatestCommon_21 : decode cX11_greatestCommon 21 = .ok (.istore 5, 2) := by decide +kernel
theorem dX11_greatestCommon_23 : decode cX11_greatestCommon 23 = .ok (.iload_n 3, 1) := by decide +kernel
theorem dX11_greatestCommon_24 : decode cX11_greatestCommon 24 = .ok (.istore_n 2, 1) := by decide +kernel
theorem dX11_greatestCommon_25 : decode cX11_greatestCommon 25 = .ok (.iload 5, 2) := by decide +kernel
theorem dX11_greatestCommon_27 : decode cX11_greatestCommon 27 = .ok (.istore_n 3, 1) := by decide +kernel
theorem dX11_greatestCommon_28 : decode cX11_greatestCommon 28 = .ok (.iinc 4 1, 3) := by decide +kernel
theorem dX11_greatestCommon_31 : decode cX11_greatestCommon 31 = .ok (.goto (-24), 3) := by decide +kernel
theorem dX11_greatestCommon_34 : decode cX11_greatestCommon 34 = .ok (.iload_n 2, 1) := by decide +kernel
theorem dX11_greatestCommon_35 : decode cX11_greatestCommon 35 = .ok (.ifCond .ne 7, 3) := by decide +kernel
theorem dX11_greatestCommon_38 : decode cX11_greatestCommon 38 = .ok (.iconst 1, 1) := by decide +kernel
theorem dX11_greatestCommon_39 : decode cX11_greatestCommon 39 = .ok (.goto 4, 3) := by decide +kernel
theorem dX11_greatestCommon_42 : decode cX11_greatestCommon 42 = .ok (.iload_n 2, 1) := by decide +kernel
theorem dX11_greatestCommon_43 : decode cX11_greatestCommon 43 = .ok (.ireturn, 1) := by decide +kernel
theorem dX11_within_0 : decode cX11_within 0 = .ok (.iload_n 0, 1) := by decide +kernel
theorem dX11_within_1 : decode cX11_within 1 = .ok (.iload_n 1, 1) := by decide +kernel
theorem dX11_within_2 : decode cX11_within 2 = .ok (.if_icmp .lt 12, 3) := by decide +kernel
theorem dX11_within_5 : decode cX11_within 5 = .ok (.iload_n 0, 1) := by decide +kernel
theorem dX11_within_6 : decode cX11_within 6 = .ok (.iload_n 2, 1) := by decide +kernel
theorem dX11_within_7 : decode cX11_within 7 = .ok (.if_icmp .gt 7, 3) := by decide +kernel
theorem dX11_within_10 : decode cX11_within 10 = .ok (.iconst 1, 1) := by decide +kernel
theorem dX11_within_11 : decode cX11_within 11 = .ok (.goto 4, 3) := by decide +kernel
theorem dX11_within_14 : decode cX11_within 14 = .ok (.iconst 0, 1) := by decide +kernel
theorem dX11_within_15 : decode cX11_within 15 = .ok (.ireturn, 1) := by decide +kernel
theorem dX11_isRoom_0 : decode cX11_isRoom 0 = .ok (.iload_n 0, 1) := by decide +kernel
theorem dX11_isRoom_1 : decode cX11_isRoom 1 = .ok (.iconst 0, 1) := by decide +kernel
theorem dX11_isRoom_2 : decode cX11_isRoom 2 = .ok (.iconst 3, 1) := by decide +kernel
theorem dX11_isRoom_3 : decode cX11_isRoom 3 = .ok (.invokestatic 57, 3) := by decide +kernel
theorem dX11_isRoom_6 : decode cX11_isRoom 6 = .ok (.ireturn, 1) := by decide +kernel
theorem dX11_isGiver_0 : decode cX11_isGiver 0 = .ok (.iload_n 0, 1) := by decide +kernel
theorem dX11_isGiver_1 : decode cX11_isGiver 1 = .ok (.iconst 0, 1) := by decide +kernel
theorem dX11_isGiver_2 : decode cX11_isGiver 2 = .ok (.bipush 9, 2) := by decide +kernel
theorem dX11_isGiver_4 : decode cX11_isGiver 4 = .ok (.invokestatic 57, 3) := by decide +kernel
theorem dX11_isGiver_7 : decode cX11_isGiver 7 = .ok (.ireturn, 1) := by decide +kernel
theorem dX11_isSheet_0 : decode cX11_isSheet 0 = .ok (.iload_n 0, 1) := by decide +kernel
theorem dX11_isSheet_1 : decode cX11_isSheet 1 = .ok (.iconst 0, 1) := by decide +kernel
theorem dX11_isSheet_2 : decode cX11_isSheet 2 = .ok (.iconst 3, 1) := by decide +kernel
theorem dX11_isSheet_3 : decode cX11_isSheet 3 = .ok (.invokestatic 57, 3) := by decide +kernel
theorem dX11_isSheet_6 : decode cX11_isSheet 6 = .ok (.ireturn, 1) := by decide +kernel
theorem dX11_isLane_0 : decode cX11_isLane 0 = .ok (.iload_n 0, 1) := by decide +kernel
theorem dX11_isLane_1 : decode cX11_isLane 1 = .ok (.iconst 0, 1) := by decide +kernel
theorem dX11_isLane_2 : decode cX11_isLane 2 = .ok (.iconst 3, 1) := by decide +kernel
theorem dX11_isLane_3 : decode cX11_isLane 3 = .ok (.invokestatic 57, 3) := by decide +kernel
theorem dX11_isLane_6 : decode cX11_isLane 6 = .ok (.ireturn, 1) := by decide +kernel
theorem dX11_isIn_0 : decode cX11_isIn 0 = .ok (.iload_n 0, 1) := by decide +kernel
theorem dX11_isIn_1 : decode cX11_isIn 1 = .ok (.iload_n 1, 1) := by decide +kernel
theorem dX11_isIn_2 : decode cX11_isIn 2 = .ok (.ishr, 1) := by decide +kernel
theorem dX11_isIn_3 : decode cX11_isIn 3 = .ok (.iconst 1, 1) := by decide +kernel
theorem dX11_isIn_4 : decode cX11_isIn 4 = .ok (.iand, 1) := by decide +kernel
theorem dX11_isIn_5 : decode cX11_isIn 5 = .ok (.iconst 1, 1) := by decide +kernel
theorem dX11_isIn_6 : decode cX11_isIn 6 = .ok (.if_icmp .ne 7, 3) := by decide +kernel
theorem dX11_isIn_9 : decode cX11_isIn 9 = .ok (.iconst 1, 1) := by decide +kernel
theorem dX11_isIn_10 : decode cX11_isIn 10 = .ok (.goto 4, 3) := by decide +kernel
theorem dX11_isIn_13 : decode cX11_isIn 13 = .ok (.iconst 0, 1) := by decide +kernel
theorem dX11_isIn_14 : decode cX11_isIn 14 = .ok (.ireturn, 1) := by decide +kernel
theorem dX11_leftAtFirst_0 : decode cX11_leftAtFirst 0 = .ok (.bipush 10, 2) := by decide +kernel
theorem dX11_leftAtFirst_2 : decode cX11_leftAtFirst 2 = .ok (.iload_n 0, 1) := by decide +kernel
theorem dX11_leftAtFirst_3 : decode cX11_leftAtFirst 3 = .ok (.imul, 1) := by decide +kernel
theorem dX11_leftAtFirst_4 : decode cX11_leftAtFirst 4 = .ok (.bipush 99, 2) := by decide +kernel
theorem dX11_leftAtFirst_6 : decode cX11_leftAtFirst 6 = .ok (.invokestatic 312, 3) := by decide +kernel
theorem dX11_leftAtFirst_9 : decode cX11_leftAtFirst 9 = .ok (.ireturn, 1) := by decide +kernel
theorem dX11_sum_0 : decode cX11_sum 0 = .ok (.iconst 0, 1) := by decide +kernel
theorem dX11_sum_1 : decode cX11_sum 1 = .ok (.istore_n 2, 1) := by decide +kernel
theorem dX11_sum_2 : decode cX11_sum 2 = .ok (.iconst 0, 1) := by decide +kernel
theorem dX11_sum_3 : decode cX11_sum 3 = .ok (.istore_n 3, 1) := by decide +kernel
theorem dX11_sum_4 : decode cX11_sum 4 = .ok (.iload_n 3, 1) := by decide +kernel
theorem dX11_sum_5 : decode cX11_sum 5 = .ok (.iload_n 1, 1) := by decide +kernel
theorem dX11_sum_6 : decode cX11_sum 6 = .ok (.if_icmp .ge 21, 3) := by decide +kernel
theorem dX11_sum_9 : decode cX11_sum 9 = .ok (.iload_n 3, 1) := by decide +kernel
theorem dX11_sum_10 : decode cX11_sum 10 = .ok (.aload_n 0, 1) := by decide +kernel
theorem dX11_sum_11 : decode cX11_sum 11 = .ok (.arraylength, 1) := by decide +kernel
theorem dX11_sum_12 : decode cX11_sum 12 = .ok (.if_icmp .ge 15, 3) := by decide +kernel
theorem dX11_sum_15 : decode cX11_sum 15 = .ok (.iload_n 2, 1) := by decide +kernel
theorem dX11_sum_16 : decode cX11_sum 16 = .ok (.aload_n 0, 1) := by decide +kernel
theorem dX11_sum_17 : decode cX11_sum 17 = .ok (.iload_n 3, 1) := by decide +kernel
theorem dX11_sum_18 : decode cX11_sum 18 = .ok (.iaload, 1) := by decide +kernel
theorem dX11_sum_19 : decode cX11_sum 19 = .ok (.iadd, 1) := by decide +kernel
theorem dX11_sum_20 : decode cX11_sum 20 = .ok (.istore_n 2, 1) := by decide +kernel
theorem dX11_sum_21 : decode cX11_sum 21 = .ok (.iinc 3 1, 3) := by decide +kernel
theorem dX11_sum_24 : decode cX11_sum 24 = .ok (.goto (-20), 3) := by decide +kernel
theorem dX11_sum_27 : decode cX11_sum 27 = .ok (.iload_n 2, 1) := by decide +kernel
theorem dX11_sum_28 : decode cX11_sum 28 = .ok (.ireturn, 1) := by decide +kernel
end
section
theorem dX12_init_0 : decode cX12_init 0 = .ok (.aload_n 0, 1) := by decide +kernel
theorem dX12_init_1 : decode cX12_init 1 = .ok (.invokespecial 1, 3) := by decide +kernel
theorem dX12_init_4 : decode cX12_init 4 = .ok (.aload_n 0, 1) := by decide +kernel
theorem dX12_init_5 : decode cX12_init 5 = .ok (.iconst 4, 1) := by decide +kernel
theorem dX12_init_6 : decode cX12_init 6 = .ok (.newarray .int, 2) := by decide +kernel
theorem dX12_init_8 : decode cX12_init 8 = .ok (.putfield 7, 3) := by decide +kernel
theorem dX12_init_11 : decode cX12_init 11 = .ok (.aload_n 0, 1) := by decide +kernel
theorem dX12_init_12 : decode cX12_init 12 = .ok (.iconst 4, 1) := by decide +kernel
theorem dX12_init_13 : decode cX12_init 13 = .ok (.newarray .int, 2) := by decide +kernel
theorem dX12_init_15 : decode cX12_init 15 = .ok (.putfield 13, 3) := by decide +kernel
theorem dX12_init_18 : decode cX12_init 18 = .ok (.aload_n 0, 1) := by decide +kernel
theorem dX12_init_19 : decode cX12_init 19 = .ok (.bipush 96, 2) := by decide +kernel
theorem dX12_init_21 : decode cX12_init 21 = .ok (.newarray .long, 2) := by decide +kernel
theorem dX12_init_23 : decode cX12_init 23 = .ok (.putfield 16, 3) := by decide +kernel
theorem dX12_init_26 : decode cX12_init 26 = .ok (.aload_n 0, 1) := by decide +kernel
theorem dX12_init_27 : decode cX12_init 27 = .ok (.bipush 80, 2) := by decide +kernel
theorem dX12_init_29 : decode cX12_init 29 = .ok (.newarray .int, 2) := by decide +kernel
theorem dX12_init_31 : decode cX12_init 31 = .ok (.putfield 20, 3) := by decide +kernel
theorem dX12_init_34 : decode cX12_init 34 = .ok (.aload_n 0, 1) := by decide +kernel
theorem dX12_init_35 : decode cX12_init 35 = .ok (.sipush 353, 3) := by decide +kernel
theorem dX12_init_38 : decode cX12_init 38 = .ok (.newarray .int, 2) := by decide +kernel
theorem dX12_init_40 : decode cX12_init 40 = .ok (.putfield 23, 3) := by decide +kernel
theorem dX12_init_43 : decode cX12_init 43 = .ok (.aload_n 0, 1) := by decide +kernel
theorem dX12_init_44 : decode cX12_init 44 = .ok (.sipush 353, 3) := by decide +kernel
theorem dX12_init_47 : decode cX12_init 47 = .ok (.newarray .int, 2) := by decide +kernel
theorem dX12_init_49 : decode cX12_init 49 = .ok (.putfield 26, 3) := by decide +kernel
theorem dX12_init_52 : decode cX12_init 52 = .ok (.aload_n 0, 1) := by decide +kernel
theorem dX12_init_53 : decode cX12_init 53 = .ok (.sipush 353, 3) := by decide +kernel
theorem dX12_init_56 : decode cX12_init 56 = .ok (.newarray .int, 2) := by decide +kernel
theorem dX12_init_58 : decode cX12_init 58 = .ok (.putfield 29, 3) := by decide +kernel
theorem dX12_init_61 : decode cX12_init 61 = .ok (.aload_n 0, 1) := by decide +kernel
theorem dX12_init_62 : decode cX12_init 62 = .ok (.sipush 353, 3) := by decide +kernel
theorem dX12_init_65 : decode cX12_init 65 = .ok (.newarray .int, 2) := by decide +kernel
theorem dX12_init_67 : decode cX12_init 67 = .ok (.putfield 32, 3) := by decide +kernel
theorem dX12_init_70 : decode cX12_init 70 = .ok (.iconst 0, 1) := by decide +kernel
theorem dX12_init_71 : decode cX12_init 71 = .ok (.istore_n 1, 1) := by decide +kernel
theorem dX12_init_72 : decode cX12_init 72 = .ok (.iload_n 1, 1) := by decide +kernel
theorem dX12_init_73 : decode cX12_init 73 = .ok (.iconst 4, 1) := by decide +kernel
theorem dX12_init_74 : decode cX12_init 74 = .ok (.if_icmp .ge 16, 3) := by decide +kernel
theorem dX12_init_77 : decode cX12_init 77 = .ok (.aload_n 0, 1) := by decide +kernel
theorem dX12_init_78 : decode cX12_init 78 = .ok (.getfield 7, 3) := by decide +kernel
theorem dX12_init_81 : decode cX12_init 81 = .ok (.iload_n 1, 1) := by decide +kernel
theorem dX12_init_82 : decode cX12_init 82 = .ok (.iconst (-1), 1) := by decide +kernel
theorem dX12_init_83 : decode cX12_init 83 = .ok (.iastore, 1) := by decide +kernel
theorem dX12_init_84 : decode cX12_init 84 = .ok (.iinc 1 1, 3) := by decide +kernel
theorem dX12_init_87 : decode cX12_init 87 = .ok (.goto (-15), 3) := by decide +kernel
theorem dX12_init_90 : decode cX12_init 90 = .ok (.aload_n 0, 1) := by decide +kernel
theorem dX12_init_91 : decode cX12_init 91 = .ok (.getfield 23, 3) := by decide +kernel
theorem dX12_init_94 : decode cX12_init 94 = .ok (.iconst 1, 1) := by decide +kernel
theorem dX12_init_95 : decode cX12_init 95 = .ok (.iconst 1, 1) := by decide +kernel
theorem dX12_init_96 : decode cX12_init 96 = .ok (.iastore, 1) := by decide +kernel
theorem dX12_init_97 : decode cX12_init 97 = .ok (.return_, 1) := by decide +kernel
theorem dX12_in_0 : decode cX12_in 0 = .ok (.iload_n 0, 1) := by decide +kernel
theorem dX12_in_1 : decode cX12_in 1 = .ok (.iload_n 1, 1) := by decide +kernel
theorem dX12_in_2 : decode cX12_in 2 = .ok (.if_icmp .lt 12, 3) := by decide +kernel
theorem dX12_in_5 : decode cX12_in 5 = .ok (.iload_n 0, 1) := by decide +kernel
theorem dX12_in_6 : decode cX12_in 6 = .ok (.iload_n 2, 1) := by decide +kernel
theorem dX12_in_7 : decode cX12_in 7 = .ok (.if_icmp .gt 7, 3) := by decide +kernel
theorem dX12_in_10 : decode cX12_in 10 = .ok (.iconst 1, 1) := by decide +kernel
theorem dX12_in_11 : decode cX12_in 11 = .ok (.goto 4, 3) := by decide +kernel
theorem dX12_in_14 : decode cX12_in 14 = .ok (.iconst 0, 1) := by decide +kernel
theorem dX12_in_15 : decode cX12_in 15 = .ok (.ireturn, 1) := by decide +kernel
theorem dX12_has_0 : decode cX12_has 0 = .ok (.iload_n 0, 1) := by decide +kernel
theorem dX12_has_1 : decode cX12_has 1 = .ok (.iload_n 1, 1) := by decide +kernel
theorem dX12_has_2 : decode cX12_has 2 = .ok (.ishr, 1) := by decide +kernel
theorem dX12_has_3 : decode cX12_has 3 = .ok (.iconst 1, 1) := by decide +kernel
theorem dX12_has_4 : decode cX12_has 4 = .ok (.iand, 1) := by decide +kernel
theorem dX12_has_5 : decode cX12_has 5 = .ok (.iconst 1, 1) := by decide +kernel
theorem dX12_has_6 : decode cX12_has 6 = .ok (.if_icmp .ne 7, 3) := by decide +kernel
theorem dX12_has_9 : decode cX12_has 9 = .ok (.iconst 1, 1) := by decide +kernel
theorem dX12_has_10 : decode cX12_has 10 = .ok (.goto 4, 3) := by decide +kernel
theorem dX12_has_13 : decode cX12_has 13 = .ok (.iconst 0, 1) := by decide +kernel
theorem dX12_has_14 : decode cX12_has 14 = .ok (.ireturn, 1) := by decide +kernel
theorem dX12_bits_0 : decode cX12_bits 0 = .ok (.iconst 0, 1) := by decide +kernel
theorem dX12_bits_1 : decode cX12_bits 1 = .ok (.istore_n 1, 1) := by decide +kernel
theorem dX12_bits_2 : decode cX12_bits 2 = .ok (.iconst 0, 1) := by decide +kernel
theorem dX12_bits_3 : decode cX12_bits 3 = .ok (.istore_n 2, 1) := by decide +kernel
theorem dX12_bits_4 : decode cX12_bits 4 = .ok (.iload_n 2, 1) := by decide +kernel
theorem dX12_bits_5 : decode cX12_bits 5 = .ok (.bipush 10, 2) := by decide +kernel
theorem dX12_bits_7 : decode cX12_bits 7 = .ok (.if_icmp .ge 17, 3) := by decide +kernel
theorem dX12_bits_10 : decode cX12_bits 10 = .ok (.iload_n 1, 1) := by decide +kernel
theorem dX12_bits_11 : decode cX12_bits 11 = .ok (.iload_n 0, 1) := by decide +kernel
theorem dX12_bits_12 : decode cX12_bits 12 = .ok (.iload_n 2, 1) := by decide +kernel
theorem dX12_bits_13 : decode cX12_bits 13 = .ok (.ishr, 1) := by decide +kernel
theorem dX12_bits_14 : decode cX12_bits 14 = .ok (.iconst 1, 1) := by decide +kernel
theorem dX12_bits_15 : decode cX12_bits 15 = .ok (.iand, 1) := by decide +kernel
theorem dX12_bits_16 : decode cX12_bits 16 = .ok (.iadd, 1) := by decide +kernel
theorem dX12_bits_17 : decode cX12_bits 17 = .ok (.istore_n 1, 1) := by decide +kernel
theorem dX12_bits_18 : decode cX12_bits 18 = .ok (.iinc 2 1, 3) := by decide +kernel
theorem dX12_bits_21 : decode cX12_bits 21 = .ok (.goto (-17), 3) := by decide +kernel
theorem dX12_bits_24 : decode cX12_bits 24 = .ok (.iload_n 1, 1) := by decide +kernel
theorem dX12_bits_25 : decode cX12_bits 25 = .ok (.ireturn, 1) := by decide +kernel
theorem dX12_bring_0 : decode cX12_bring 0 = .ok (.iconst 0, 1) := by decide +kernel
theorem dX12_bring_1 : decode cX12_bring 1 = .ok (.istore 5, 2) := by decide +kernel
theorem dX12_bring_3 : decode cX12_bring 3 = .ok (.iload 5, 2) := by decide +kernel
theorem dX12_bring_5 : decode cX12_bring 5 = .ok (.iload 4, 2) := by decide +kernel
theorem dX12_bring_7 : decode cX12_bring 7 = .ok (.if_icmp .ge 21, 3) := by decide +kernel
theorem dX12_bring_10 : decode cX12_bring 10 = .ok (.aload_n 2, 1) := by decide +kernel
theorem dX12_bring_11 : decode cX12_bring 11 = .ok (.iload_n 3, 1) := by decide +kernel
theorem dX12_bring_12 : decode cX12_bring 12 = .ok (.iload 5, 2) := by decide +kernel
theorem dX12_bring_14 : decode cX12_bring 14 = .ok (.iadd, 1) := by decide +kernel
theorem dX12_bring_15 : decode cX12_bring 15 = .ok (.aload_n 0, 1) := by decide +kernel
theorem dX12_bring_16 : decode cX12_bring 16 = .ok (.iload_n 1, 1) := by decide +kernel
theorem dX12_bring_17 : decode cX12_bring 17 = .ok (.iload 5, 2) := by decide +kernel
theorem dX12_bring_19 : decode cX12_bring 19 = .ok (.iadd, 1) := by decide +kernel
theorem dX12_bring_20 : decode cX12_bring 20 = .ok (.iaload, 1) := by decide +kernel
theorem dX12_bring_21 : decode cX12_bring 21 = .ok (.iastore, 1) := by decide +kernel
theorem dX12_bring_22 : decode cX12_bring 22 = .ok (.iinc 5 1, 3) := by decide +kernel
theorem dX12_bring_25 : decode cX12_bring 25 = .ok (.goto (-22), 3) := by decide +kernel
theorem dX12_bring_28 : decode cX12_bring 28 = .ok (.return_, 1) := by decide +kernel
theorem dX12_isSleeper_0 : decode cX12_isSleeper 0 = .ok (.iload_n 1, 1) := by decide +kernel
theorem dX12_isSleeper_1 : decode cX12_isSleeper 1 = .ok (.iconst 0, 1) := by decide +kernel
theorem dX12_isSleeper_2 : decode cX12_isSleeper 2 = .ok (.aload_n 0, 1) := by decide +kernel
theorem dX12_isSleeper_3 : decode cX12_isSleeper 3 = .ok (.getfield 23, 3) := by decide +kernel
theorem dX12_isSleeper_6 : decode cX12_isSleeper 6 = .ok (.bipush 36, 2) := by decide +kernel
theorem dX12_isSleeper_8 : decode cX12_isSleeper 8 = .ok (.iaload, 1) := by decide +kernel
theorem dX12_isSleeper_9 : decode cX12_isSleeper 9 = .ok (.iconst 1, 1) := by decide +kernel
theorem dX12_isSleeper_10 : decode cX12_isSleeper 10 = .ok (.isub, 1) := by decide +kernel
theorem dX12_isSleeper_11 : decode cX12_isSleeper 11 = .ok (.invokestatic 35, 3) := by decide +kernel
theorem dX12_isSleeper_14 : decode cX12_isSleeper 14 = .ok (.ireturn, 1) := by decide +kernel
theorem dX12_isThing_0 : decode cX12_isThing 0 = .ok (.iload_n 1, 1) := by decide +kernel
theorem dX12_isThing_1 : decode cX12_isThing 1 = .ok (.iconst 0, 1) := by decide +kernel
theorem dX12_isThing_2 : decode cX12_isThing 2 = .ok (.aload_n 0, 1) := by decide +kernel
theorem dX12_isThing_3 : decode cX12_isThing 3 = .ok (.getfield 23, 3) := by decide +kernel
theorem dX12_isThing_6 : decode cX12_isThing 6 = .ok (.bipush 47, 2) := by decide +kernel
theorem dX12_isThing_8 : decode cX12_isThing 8 = .ok (.iaload, 1) := by decide +kernel
theorem dX12_isThing_9 : decode cX12_isThing 9 = .ok (.iconst 1, 1) := by decide +kernel
theorem dX12_isThing_10 : decode cX12_isThing 10 = .ok (.isub, 1) := by decide +kernel
theorem dX12_isThing_11 : decode cX12_isThing 11 = .ok (.invokestatic 35, 3) := by decide +kernel
theorem dX12_isThing_14 : decode cX12_isThing 14 = .ok (.ireturn, 1) := by decide +kernel
theorem dX12_isRoom_0 : decode cX12_isRoom 0 = .ok (.iload_n 0, 1) := by decide +kernel
theorem dX12_isRoom_1 : decode cX12_isRoom 1 = .ok (.iconst 0, 1) := by decide +kernel
theorem dX12_isRoom_2 : decode cX12_isRoom 2 = .ok (.iconst 3, 1) := by decide +kernel
theorem dX12_isRoom_3 : decode cX12_isRoom 3 = .ok (.invokestatic 35, 3) := by decide +kernel
theorem dX12_isRoom_6 : decode cX12_isRoom 6 = .ok (.ireturn, 1) := by decide +kernel
theorem dX12_addSleeper_0 : decode cX12_addSleeper 0 = .ok (.aload_n 0, 1) := by decide +kernel
theorem dX12_addSleeper_1 : decode cX12_addSleeper 1 = .ok (.bipush 36, 2) := by decide +kernel
theorem dX12_addSleeper_3 : decode cX12_addSleeper 3 = .ok (.iaload, 1) := by decide +kernel
theorem dX12_addSleeper_4 : decode cX12_addSleeper 4 = .ok (.istore_n 3, 1) := by decide +kernel
theorem dX12_addSleeper_5 : decode cX12_addSleeper 5 = .ok (.aload_n 0, 1) := by decide +kernel
theorem dX12_addSleeper_6 : decode cX12_addSleeper 6 = .ok (.bipush 37, 2) := by decide +kernel
theorem dX12_addSleeper_8 : decode cX12_addSleeper 8 = .ok (.iload_n 3, 1) := by decide +kernel
theorem dX12_addSleeper_9 : decode cX12_addSleeper 9 = .ok (.iadd, 1) := by decide +kernel
theorem dX12_addSleeper_10 : decode cX12_addSleeper 10 = .ok (.iload_n 1, 1) := by decide +kernel
theorem dX12_addSleeper_11 : decode cX12_addSleeper 11 = .ok (.iastore, 1) := by decide +kernel
theorem dX12_addSleeper_12 : decode cX12_addSleeper 12 = .ok (.aload_n 0, 1) := by decide +kernel
theorem dX12_addSleeper_13 : decode cX12_addSleeper 13 = .ok (.bipush 42, 2) := by decide +kernel
theorem dX12_addSleeper_15 : decode cX12_addSleeper 15 = .ok (.iload_n 3, 1) := by decide +kernel
theorem dX12_addSleeper_16 : decode cX12_addSleeper 16 = .ok (.iadd, 1) := by decide +kernel
theorem dX12_addSleeper_17 : decode cX12_addSleeper 17 = .ok (.iload_n 2, 1) := by decide +kernel
theorem dX12_addSleeper_18 : decode cX12_addSleeper 18 = .ok (.iastore, 1) := by decide +kernel
theorem dX12_addSleeper_19 : decode cX12_addSleeper 19 = .ok (.aload_n 0, 1) := by decide +kernel
theorem dX12_addSleeper_20 : decode cX12_addSleeper 20 = .ok (.bipush 26, 2) := by decide +kernel
theorem dX12_addSleeper_22 : decode cX12_addSleeper 22 = .ok (.iload_n 3, 1) := by decide +kernel
theorem dX12_addSleeper_23 : decode cX12_addSleeper 23 = .ok (.iadd, 1) := by decide +kernel
theorem dX12_addSleeper_24 : decode cX12_addSleeper 24 = .ok (.iconst 0, 1) := by decide +kernel
theorem dX12_addSleeper_25 : decode cX12_addSleeper 25 = .ok (.iastore, 1) := by decide +kernel
theorem dX12_addSleeper_26 : decode cX12_addSleeper 26 = .ok (.aload_n 0, 1) := by decide +kernel
theorem dX12_addSleeper_27 : decode cX12_addSleeper 27 = .ok (.bipush 31, 2) := by decide +kernel
theorem dX12_addSleeper_29 : decode cX12_addSleeper 29 = .ok (.iload_n 3, 1) := by decide +kernel
theorem dX12_addSleeper_30 : decode cX12_addSleeper 30 = .ok (.iadd, 1) := by decide +kernel
theorem dX12_addSleeper_31 : decode cX12_addSleeper 31 = .ok (.iconst 0, 1) := by decide +kernel
theorem dX12_addSleeper_32 : decode cX12_addSleeper 32 = .ok (.iastore, 1) := by decide +kernel
theorem dX12_addSleeper_33 : decode cX12_addSleeper 33 = .ok (.aload_n 0, 1) := by decide +kernel
theorem dX12_addSleeper_34 : decode cX12_addSleeper 34 = .ok (.bipush 36, 2) := by decide +kernel
theorem dX12_addSleeper_36 : decode cX12_addSleeper 36 = .ok (.dup2, 1) := by decide +kernel
theorem dX12_addSleeper_37 : decode cX12_addSleeper 37 = .ok (.iaload, 1) := by decide +kernel
theorem dX12_addSleeper_38 : decode cX12_addSleeper 38 = .ok (.iconst 1, 1) := by decide +kernel
theorem dX12_addSleeper_39 : decode cX12_addSleeper 39 = .ok (.iadd, 1) := by decide +kernel
theorem dX12_addSleeper_40 : decode cX12_addSleeper 40 = .ok (.iastore, 1) := by decide +kernel
theorem dX12_addSleeper_41 : decode cX12_addSleeper 41 = .ok (.iload_n 3, 1) := by decide +kernel
theorem dX12_addSleeper_42 : decode cX12_addSleeper 42 = .ok (.ireturn, 1) := by decide +kernel
theorem dX12_firstLeft_0 : decode cX12_firstLeft 0 = .ok (.iload_n 0, 1) := by decide +kernel
theorem dX12_firstLeft_1 : decode cX12_firstLeft 1 = .ok (.bipush 10, 2) := by decide +kernel
theorem dX12_firstLeft_3 : decode cX12_firstLeft 3 = .ok (.imul, 1) := by decide +kernel
theorem dX12_firstLeft_4 : decode cX12_firstLeft 4 = .ok (.bipush 99, 2) := by decide +kernel
theorem dX12_firstLeft_6 : decode cX12_firstLeft 6 = .ok (.if_icmp .le 8, 3) := by decide +kernel
theorem dX12_firstLeft_9 : decode cX12_firstLeft 9 = .ok (.bipush 99, 2) := by decide +kernel
theorem dX12_firstLeft_11 : decode cX12_firstLeft 11 = .ok (.goto 7, 3) := by decide +kernel
theorem dX12_firstLeft_14 : decode cX12_firstLeft 14 = .ok (.iload_n 0, 1) := by decide +kernel
theorem dX12_firstLeft_15 : decode cX12_firstLeft 15 = .ok (.bipush 10, 2) := by decide +kernel
theorem dX12_firstLeft_17 : decode cX12_firstLeft 17 = .ok (.imul, 1) := by decide +kernel
theorem dX12_firstLeft_18 : decode cX12_firstLeft 18 = .ok (.ireturn, 1) := by decide +kernel
theorem dX12_addThing_0 : decode cX12_addThing 0 = .ok (.aload_n 0, 1) := by decide +kernel
theorem dX12_addThing_1 : decode cX12_addThing 1 = .ok (.bipush 47, 2) := by decide +kernel
theorem dX12_addThing_3 : decode cX12_addThing 3 = .ok (.iaload, 1) := by decide +kernel
theorem dX12_addThing_4 : decode cX12_addThing 4 = .ok (.istore 5, 2) := by decide +kernel
theorem dX12_addThing_6 : decode cX12_addThing 6 = .ok (.aload_n 0, 1) := by decide +kernel
theorem dX12_addThing_7 : decode cX12_addThing 7 = .ok (.bipush 48, 2) := by decide +kernel
theorem dX12_addThing_9 : decode cX12_addThing 9 = .ok (.iload 5, 2) := by decide +kernel
theorem dX12_addThing_11 : decode cX12_addThing 11 = .ok (.iadd, 1) := by decide +kernel
theorem dX12_addThing_12 : decode cX12_addThing 12 = .ok (.iload_n 1, 1) := by decide +kernel
theorem dX12_addThing_13 : decode cX12_addThing 13 = .ok (.iastore, 1) := by decide +kernel
theorem dX12_addThing_14 : decode cX12_addThing 14 = .ok (.aload_n 0, 1) := by decide +kernel
theorem dX12_addThing_15 : decode cX12_addThing 15 = .ok (.bipush 10, 2) := by decide +kernel
theorem dX12_addThing_17 : decode cX12_addThing 17 = .ok (.iload 5, 2) := by decide +kernel
theorem dX12_addThing_19 : decode cX12_addThing 19 = .ok (.iadd, 1) := by decide +kernel
theorem dX12_addThing_20 : decode cX12_addThing 20 = .ok (.iload_n 2, 1) := by decide +kernel
theorem dX12_addThing_21 : decode cX12_addThing 21 = .ok (.iastore, 1) := by decide +kernel
theorem dX12_addThing_22 : decode cX12_addThing 22 = .ok (.aload_n 0, 1) := by decide +kernel
theorem dX12_addThing_23 : decode cX12_addThing 23 = .ok (.bipush 56, 2) := by decide +kernel
theorem dX12_addThing_25 : decode cX12_addThing 25 = .ok (.iload 5, 2) := by decide +kernel
theorem dX12_addThing_27 : decode cX12_addThing 27 = .ok (.iadd, 1) := by decide +kernel
theorem dX12_addThing_28 : decode cX12_addThing 28 = .ok (.iload_n 3, 1) := by decide +kernel
theorem dX12_addThing_29 : decode cX12_addThing 29 = .ok (.iastore, 1) := by decide +kernel
theorem dX12_addThing_30 : decode cX12_addThing 30 = .ok (.aload_n 0, 1) := by decide +kernel
theorem dX12_addThing_31 : decode cX12_addThing 31 = .ok (.iconst 2, 1) := by decide +kernel
theorem dX12_addThing_32 : decode cX12_addThing 32 = .ok (.iload 5, 2) := by decide +kernel
theorem dX12_addThing_34 : decode cX12_addThing 34 = .ok (.iadd, 1) := by decide +kernel
theorem dX12_addThing_35 : decode cX12_addThing 35 = .ok (.iload 4, 2) := by decide +kernel
theorem dX12_addThing_37 : decode cX12_addThing 37 = .ok (.iastore, 1) := by decide +kernel
theorem dX12_addThing_38 : decode cX12_addThing 38 = .ok (.aload_n 0, 1) := by decide +kernel
theorem dX12_addThing_39 : decode cX12_addThing 39 = .ok (.bipush 18, 2) := by decide +kernel
theorem dX12_addThing_41 : decode cX12_addThing 41 = .ok (.iload 5, 2) := by decide +kernel
theorem dX12_addThing_43 : decode cX12_addThing 43 = .ok (.iadd, 1) := by decide +kernel
theorem dX12_addThing_44 : decode cX12_addThing 44 = .ok (.iload_n 3, 1) := by decide +kernel
theorem dX12_addThing_45 : decode cX12_addThing 45 = .ok (.invokestatic 39, 3) := by decide +kernel
theorem dX12_addThing_48 : decode cX12_addThing 48 = .ok (.iastore, 1) := by decide +kernel
theorem dX12_addThing_49 : decode cX12_addThing 49 = .ok (.aload_n 0, 1) := by decide +kernel
theorem dX12_addThing_50 : decode cX12_addThing 50 = .ok (.bipush 47, 2) := by decide +kernel
theorem dX12_addThing_52 : decode cX12_addThing 52 = .ok (.dup2, 1) := by decide +kernel
theorem dX12_addThing_53 : decode cX12_addThing 53 = .ok (.iaload, 1) := by decide +kernel
theorem dX12_addThing_54 : decode cX12_addThing 54 = .ok (.iconst 1, 1) := by decide +kernel
theorem dX12_addThing_55 : decode cX12_addThing 55 = .ok (.iadd, 1) := by decide +kernel
theorem dX12_addThing_56 : decode cX12_addThing 56 = .ok (.iastore, 1) := by decide +kernel
theorem dX12_addThing_57 : decode cX12_addThing 57 = .ok (.iload 5, 2) := by decide +kernel
theorem dX12_addThing_59 : decode cX12_addThing 59 = .ok (.ireturn, 1) := by decide +kernel
theorem dX12_sleeper_0 : decode cX12_sleeper 0 = .ok (.iload_n 1, 1) := by decide +kernel
theorem dX12_sleeper_1 : decode cX12_sleeper 1 = .ok (.invokestatic 43, 3) := by decide +kernel
theorem dX12_sleeper_4 : decode cX12_sleeper 4 = .ok (.ifCond .eq 13, 3) := by decide +kernel
theorem dX12_sleeper_7 : decode cX12_sleeper 7 = .ok (.iload_n 2, 1) := by decide +kernel
theorem dX12_sleeper_8 : decode cX12_sleeper 8 = .ok (.iconst 0, 1) := by decide +kernel
theorem dX12_sleeper_9 : decode cX12_sleeper 9 = .ok (.bipush 60, 2) := by decide +kernel
theorem dX12_sleeper_11 : decode cX12_sleeper 11 = .ok (.invokestatic 35, 3) := by decide +kernel
theorem dX12_sleeper_14 : decode cX12_sleeper 14 = .ok (.ifCond .ne 5, 3) := by decide +kernel
theorem dX12_sleeper_17 : decode cX12_sleeper 17 = .ok (.iconst (-1), 1) := by decide +kernel
theorem dX12_sleeper_18 : decode cX12_sleeper 18 = .ok (.ireturn, 1) := by decide +kernel
theorem dX12_sleeper_19 : decode cX12_sleeper 19 = .ok (.aload_n 0, 1) := by decide +kernel
theorem dX12_sleeper_20 : decode cX12_sleeper 20 = .ok (.getfield 23, 3) := by decide +kernel
theorem dX12_sleeper_23 : decode cX12_sleeper 23 = .ok (.bipush 36, 2) := by decide +kernel
theorem dX12_sleeper_25 : decode cX12_sleeper 25 = .ok (.iaload, 1) := by decide +kernel
theorem dX12_sleeper_26 : decode cX12_sleeper 26 = .ok (.iconst 5, 1) := by decide +kernel
theorem dX12_sleeper_27 : decode cX12_sleeper 27 = .ok (.if_icmp .ne 6, 3) := by decide +kernel
theorem dX12_sleeper_30 : decode cX12_sleeper 30 = .ok (.bipush (-3), 2) := by decide +kernel
theorem dX12_sleeper_32 : decode cX12_sleeper 32 = .ok (.ireturn, 1) := by decide +kernel
theorem dX12_sleeper_33 : decode cX12_sleeper 33 = .ok (.aload_n 0, 1) := by decide +kernel
theorem dX12_sleeper_34 : decode cX12_sleeper 34 = .ok (.getfield 23, 3) := by decide +kernel
theorem dX12_sleeper_37 : decode cX12_sleeper 37 = .ok (.bipush 64, 2) := by decide +kernel
theorem dX12_sleeper_39 : decode cX12_sleeper 39 = .ok (.iconst 0, 1) := by decide +kernel
theorem dX12_sleeper_40 : decode cX12_sleeper 40 = .ok (.iastore, 1) := by decide +kernel
theorem dX12_sleeper_41 : decode cX12_sleeper 41 = .ok (.aload_n 0, 1) := by decide +kernel
theorem dX12_sleeper_42 : decode cX12_sleeper 42 = .ok (.getfield 23, 3) := by decide +kernel
theorem dX12_sleeper_45 : decode cX12_sleeper 45 = .ok (.iload_n 1, 1) := by decide +kernel
theorem dX12_sleeper_46 : decode cX12_sleeper 46 = .ok (.iload_n 2, 1) := by decide +kernel
theorem dX12_sleeper_47 : decode cX12_sleeper 47 = .ok (.invokestatic 47, 3) := by decide +kernel
theorem dX12_sleeper_50 : decode cX12_sleeper 50 = .ok (.ireturn, 1) := by decide +kernel
theorem dX12_thing_0 : decode cX12_thing 0 = .ok (.iload_n 1, 1) := by decide +kernel
theorem dX12_thing_1 : decode cX12_thing 1 = .ok (.iconst 0, 1) := by decide +kernel
theorem dX12_thing_2 : decode cX12_thing 2 = .ok (.iconst 4, 1) := by decide +kernel
theorem dX12_thing_3 : decode cX12_thing 3 = .ok (.invokestatic 35, 3) := by decide +kernel
theorem dX12_thing_6 : decode cX12_thing 6 = .ok (.ifCond .eq 31, 3) := by decide +kernel
theorem dX12_thing_9 : decode cX12_thing 9 = .ok (.iload_n 2, 1) := by decide +kernel
theorem dX12_thing_10 : decode cX12_thing 10 = .ok (.iconst 0, 1) := by decide +kernel
theorem dX12_thing_11 : decode cX12_thing 11 = .ok (.bipush 9, 2) := by decide +kernel
theorem dX12_thing_13 : decode cX12_thing 13 = .ok (.invokestatic 35, 3) := by decide +kernel
theorem dX12_thing_16 : decode cX12_thing 16 = .ok (.ifCond .eq 21, 3) := by decide +kernel
theorem dX12_thing_19 : decode cX12_thing 19 = .ok (.iload_n 3, 1) := by decide +kernel
theorem dX12_thing_20 : decode cX12_thing 20 = .ok (.iconst 1, 1) := by decide +kernel
theorem dX12_thing_21 : decode cX12_thing 21 = .ok (.bipush 9, 2) := by decide +kernel
theorem dX12_thing_23 : decode cX12_thing 23 = .ok (.invokestatic 35, 3) := by decide +kernel
theorem dX12_thing_26 : decode cX12_thing 26 = .ok (.ifCond .eq 11, 3) := by decide +kernel
theorem dX12_thing_29 : decode cX12_thing 29 = .ok (.iload 4, 2) := by decide +kernel
theorem dX12_thing_31 : decode cX12_thing 31 = .ok (.invokestatic 43, 3) := by decide +kernel
theorem dX12_thing_34 : decode cX12_thing 34 = .ok (.ifCond .ne 5, 3) := by decide +kernel
theorem dX12_thing_37 : decode cX12_thing 37 = .ok (.iconst (-1), 1) := by decide +kernel
theorem dX12_thing_38 : decode cX12_thing 38 = .ok (.ireturn, 1) := by decide +kernel
theorem dX12_thing_39 : decode cX12_thing 39 = .ok (.aload_n 0, 1) := by decide +kernel
theorem dX12_thing_40 : decode cX12_thing 40 = .ok (.getfield 23, 3) := by decide +kernel
theorem dX12_thing_43 : decode cX12_thing 43 = .ok (.bipush 47, 2) := by decide +kernel
theorem dX12_thing_45 : decode cX12_thing 45 = .ok (.iaload, 1) := by decide +kernel
theorem dX12_thing_46 : decode cX12_thing 46 = .ok (.bipush 8, 2) := by decide +kernel
theorem dX12_thing_48 : decode cX12_thing 48 = .ok (.if_icmp .ne 6, 3) := by decide +kernel
theorem dX12_thing_51 : decode cX12_thing 51 = .ok (.bipush (-3), 2) := by decide +kernel
theorem dX12_thing_53 : decode cX12_thing 53 = .ok (.ireturn, 1) := by decide +kernel
theorem dX12_thing_54 : decode cX12_thing 54 = .ok (.aload_n 0, 1) := by decide +kernel
theorem dX12_thing_55 : decode cX12_thing 55 = .ok (.getfield 23, 3) := by decide +kernel
theorem dX12_thing_58 : decode cX12_thing 58 = .ok (.bipush 64, 2) := by decide +kernel
theorem dX12_thing_60 : decode cX12_thing 60 = .ok (.iconst 0, 1) := by decide +kernel
theorem dX12_thing_61 : decode cX12_thing 61 = .ok (.iastore, 1) := by decide +kernel
theorem dX12_thing_62 : decode cX12_thing 62 = .ok (.aload_n 0, 1) := by decide +kernel
theorem dX12_thing_63 : decode cX12_thing 63 = .ok (.getfield 23, 3) := by decide +kernel
theorem dX12_thing_66 : decode cX12_thing 66 = .ok (.iload_n 1, 1) := by decide +kernel
theorem dX12_thing_67 : decode cX12_thing 67 = .ok (.iload_n 2, 1) := by decide +kernel
theorem dX12_thing_68 : decode cX12_thing 68 = .ok (.iload_n 3, 1) := by decide +kernel
theorem dX12_thing_69 : decode cX12_thing 69 = .ok (.iload 4, 2) := by decide +kernel
theorem dX12_thing_71 : decode cX12_thing 71 = .ok (.invokestatic 51, 3) := by decide +kernel
theorem dX12_thing_74 : decode cX12_thing 74 = .ok (.ireturn, 1) := by decide +kernel
theorem dX12_loudBy_0 : decode cX12_loudBy 0 = .ok (.iload_n 2, 1) := by decide +kernel
theorem dX12_loudBy_1 : decode cX12_loudBy 1 = .ok (.ifCond .ne 5, 3) := by decide +kernel
theorem dX12_loudBy_4 : decode cX12_loudBy 4 = .ok (.iconst 0, 1) := by decide +kernel
theorem dX12_loudBy_5 : decode cX12_loudBy 5 = .ok (.ireturn, 1) := by decide +kernel
theorem dX12_loudBy_6 : decode cX12_loudBy 6 = .ok (.iload_n 0, 1) := by decide +kernel
theorem dX12_loudBy_7 : decode cX12_loudBy 7 = .ok (.tableswitch 49 1 4 #[29, 49, 33, 47], 29) := by decide +kernel
theorem dX12_loudBy_36 : decode cX12_loudBy 36 = .ok (.iconst 2, 1) := by decide +kernel
theorem dX12_loudBy_37 : decode cX12_loudBy 37 = .ok (.iload_n 1, 1) := by decide +kernel
theorem dX12_loudBy_38 : decode cX12_loudBy 38 = .ok (.imul, 1) := by decide +kernel
theorem dX12_loudBy_39 : decode cX12_loudBy 39 = .ok (.ireturn, 1) := by decide +kernel
theorem dX12_loudBy_40 : decode cX12_loudBy 40 = .ok (.iload_n 3, 1) := by decide +kernel
theorem dX12_loudBy_41 : decode cX12_loudBy 41 = .ok (.iconst 2, 1) := by decide +kernel
theorem dX12_loudBy_42 : decode cX12_loudBy 42 = .ok (.irem, 1) := by decide +kernel
theorem dX12_loudBy_43 : decode cX12_loudBy 43 = .ok (.ifCond .ne 7, 3) := by decide +kernel
theorem dX12_loudBy_46 : decode cX12_loudBy 46 = .ok (.iconst 0, 1) := by decide +kernel
theorem dX12_loudBy_47 : decode cX12_loudBy 47 = .ok (.goto 6, 3) := by decide +kernel
theorem dX12_loudBy_50 : decode cX12_loudBy 50 = .ok (.iconst 2, 1) := by decide +kernel
theorem dX12_loudBy_51 : decode cX12_loudBy 51 = .ok (.iload_n 1, 1) := by decide +kernel
theorem dX12_loudBy_52 : decode cX12_loudBy 52 = .ok (.imul, 1) := by decide +kernel
theorem dX12_loudBy_53 : decode cX12_loudBy 53 = .ok (.ireturn, 1) := by decide +kernel
theorem dX12_loudBy_54 : decode cX12_loudBy 54 = .ok (.iconst 1, 1) := by decide +kernel
theorem dX12_loudBy_55 : decode cX12_loudBy 55 = .ok (.ireturn, 1) := by decide +kernel
theorem dX12_loudBy_56 : decode cX12_loudBy 56 = .ok (.iload_n 1, 1) := by decide +kernel
theorem dX12_loudBy_57 : decode cX12_loudBy 57 = .ok (.ireturn, 1) := by decide +kernel
theorem dX12_leftBy_0 : decode cX12_leftBy 0 = .ok (.iload_n 2, 1) := by decide +kernel
theorem dX12_leftBy_1 : decode cX12_leftBy 1 = .ok (.ifCond .le 9, 3) := by decide +kernel
theorem dX12_leftBy_4 : decode cX12_leftBy 4 = .ok (.iload_n 2, 1) := by decide +kernel
theorem dX12_leftBy_5 : decode cX12_leftBy 5 = .ok (.iconst 1, 1) := by decide +kernel
theorem dX12_leftBy_6 : decode cX12_leftBy 6 = .ok (.isub, 1) := by decide +kernel
theorem dX12_leftBy_7 : decode cX12_leftBy 7 = .ok (.goto 4, 3) := by decide +kernel
theorem dX12_leftBy_10 : decode cX12_leftBy 10 = .ok (.iconst 0, 1) := by decide +kernel
theorem dX12_leftBy_11 : decode cX12_leftBy 11 = .ok (.istore 4, 2) := by decide +kernel
theorem dX12_leftBy_13 : decode cX12_leftBy 13 = .ok (.iload_n 0, 1) := by decide +kernel
theorem dX12_leftBy_14 : decode cX12_leftBy 14 = .ok (.tableswitch 63 0 3 #[30, 43, 46, 50], 30) := by decide +kernel
theorem dX12_leftBy_44 : decode cX12_leftBy 44 = .ok (.iload_n 2, 1) := by decide +kernel
theorem dX12_leftBy_45 : decode cX12_leftBy 45 = .ok (.iload_n 1, 1) := by decide +kernel
theorem dX12_leftBy_46 : decode cX12_leftBy 46 = .ok (.if_icmp .le 9, 3) := by decide +kernel
theorem dX12_leftBy_49 : decode cX12_leftBy 49 = .ok (.iload_n 2, 1) := by decide +kernel
theorem dX12_leftBy_50 : decode cX12_leftBy 50 = .ok (.iload_n 1, 1) := by decide +kernel
theorem dX12_leftBy_51 : decode cX12_leftBy 51 = .ok (.isub, 1) := by decide +kernel
theorem dX12_leftBy_52 : decode cX12_leftBy 52 = .ok (.goto 4, 3) := by decide +kernel
theorem dX12_leftBy_55 : decode cX12_leftBy 55 = .ok (.iconst 0, 1) := by decide +kernel
theorem dX12_leftBy_56 : decode cX12_leftBy 56 = .ok (.ireturn, 1) := by decide +kernel
theorem dX12_leftBy_57 : decode cX12_leftBy 57 = .ok (.iload 4, 2) := by decide +kernel
theorem dX12_leftBy_59 : decode cX12_leftBy 59 = .ok (.ireturn, 1) := by decide +kernel
theorem dX12_leftBy_60 : decode cX12_leftBy 60 = .ok (.iload_n 2, 1) := by decide +kernel
theorem dX12_leftBy_61 : decode cX12_leftBy 61 = .ok (.iconst 2, 1) := by decide +kernel
theorem dX12_leftBy_62 : decode cX12_leftBy 62 = .ok (.idiv, 1) := by decide +kernel
theorem dX12_leftBy_63 : decode cX12_leftBy 63 = .ok (.ireturn, 1) := by decide +kernel
theorem dX12_leftBy_64 : decode cX12_leftBy 64 = .ok (.iload_n 3, 1) := by decide +kernel
theorem dX12_leftBy_65 : decode cX12_leftBy 65 = .ok (.iconst 2, 1) := by decide +kernel
theorem dX12_leftBy_66 : decode cX12_leftBy 66 = .ok (.irem, 1) := by decide +kernel
theorem dX12_leftBy_67 : decode cX12_leftBy 67 = .ok (.ifCond .ne 7, 3) := by decide +kernel
theorem dX12_leftBy_70 : decode cX12_leftBy 70 = .ok (.iload_n 2, 1) := by decide +kernel
theorem dX12_leftBy_71 : decode cX12_leftBy 71 = .ok (.goto 5, 3) := by decide +kernel
theorem dX12_leftBy_74 : decode cX12_leftBy 74 = .ok (.iload 4, 2) := by decide +kernel
theorem dX12_leftBy_76 : decode cX12_leftBy 76 = .ok (.ireturn, 1) := by decide +kernel
theorem dX12_leftBy_77 : decode cX12_leftBy 77 = .ok (.iload_n 3, 1) := by decide +kernel
theorem dX12_leftBy_78 : decode cX12_leftBy 78 = .ok (.iconst 3, 1) := by decide +kernel
theorem dX12_leftBy_79 : decode cX12_leftBy 79 = .ok (.irem, 1) := by decide +kernel
theorem dX12_leftBy_80 : decode cX12_leftBy 80 = .ok (.ifCond .ne 9, 3) := by decide +kernel
theorem dX12_leftBy_83 : decode cX12_leftBy 83 = .ok (.iload_n 2, 1) := by decide +kernel
theorem dX12_leftBy_84 : decode cX12_leftBy 84 = .ok (.iconst 2, 1) := by decide +kernel
theorem dX12_leftBy_85 : decode cX12_leftBy 85 = .ok (.idiv, 1) := by decide +kernel
theorem dX12_leftBy_86 : decode cX12_leftBy 86 = .ok (.goto 4, 3) := by decide +kernel
theorem dX12_leftBy_89 : decode cX12_leftBy 89 = .ok (.iload_n 2, 1) := by decide +kernel
theorem dX12_leftBy_90 : decode cX12_leftBy 90 = .ok (.ireturn, 1) := by decide +kernel
theorem dX12_loudOf_0 : decode cX12_loudOf 0 = .ok (.aload_n 0, 1) := by decide +kernel
theorem dX12_loudOf_1 : decode cX12_loudOf 1 = .ok (.bipush 48, 2) := by decide +kernel
theorem dX12_loudOf_3 : decode cX12_loudOf 3 = .ok (.iload_n 1, 1) := by decide +kernel
theorem dX12_loudOf_4 : decode cX12_loudOf 4 = .ok (.iadd, 1) := by decide +kernel
theorem dX12_loudOf_5 : decode cX12_loudOf 5 = .ok (.iaload, 1) := by decide +kernel
theorem dX12_loudOf_6 : decode cX12_loudOf 6 = .ok (.aload_n 0, 1) := by decide +kernel
theorem dX12_loudOf_7 : decode cX12_loudOf 7 = .ok (.bipush 56, 2) := by decide +kernel
theorem dX12_loudOf_9 : decode cX12_loudOf 9 = .ok (.iload_n 1, 1) := by decide +kernel
theorem dX12_loudOf_10 : decode cX12_loudOf 10 = .ok (.iadd, 1) := by decide +kernel
theorem dX12_loudOf_11 : decode cX12_loudOf 11 = .ok (.iaload, 1) := by decide +kernel
theorem dX12_loudOf_12 : decode cX12_loudOf 12 = .ok (.aload_n 0, 1) := by decide +kernel
theorem dX12_loudOf_13 : decode cX12_loudOf 13 = .ok (.bipush 18, 2) := by decide +kernel
theorem dX12_loudOf_15 : decode cX12_loudOf 15 = .ok (.iload_n 1, 1) := by decide +kernel
theorem dX12_loudOf_16 : decode cX12_loudOf 16 = .ok (.iadd, 1) := by decide +kernel
theorem dX12_loudOf_17 : decode cX12_loudOf 17 = .ok (.iaload, 1) := by decide +kernel
theorem dX12_loudOf_18 : decode cX12_loudOf 18 = .ok (.aload_n 0, 1) := by decide +kernel
theorem dX12_loudOf_19 : decode cX12_loudOf 19 = .ok (.iconst 0, 1) := by decide +kernel
theorem dX12_loudOf_20 : decode cX12_loudOf 20 = .ok (.iaload, 1) := by decide +kernel
theorem dX12_loudOf_21 : decode cX12_loudOf 21 = .ok (.invokestatic 55, 3) := by decide +kernel
theorem dX12_loudOf_24 : decode cX12_loudOf 24 = .ok (.ireturn, 1) := by decide +kernel
theorem dX12_loudIn_0 : decode cX12_loudIn 0 = .ok (.iconst 0, 1) := by decide +kernel
theorem dX12_loudIn_1 : decode cX12_loudIn 1 = .ok (.istore_n 2, 1) := by decide +kernel
theorem dX12_loudIn_2 : decode cX12_loudIn 2 = .ok (.iconst 0, 1) := by decide +kernel
theorem dX12_loudIn_3 : decode cX12_loudIn 3 = .ok (.istore_n 3, 1) := by decide +kernel
theorem dX12_loudIn_4 : decode cX12_loudIn 4 = .ok (.iload_n 3, 1) := by decide +kernel
theorem dX12_loudIn_5 : decode cX12_loudIn 5 = .ok (.aload_n 0, 1) := by decide +kernel
theorem dX12_loudIn_6 : decode cX12_loudIn 6 = .ok (.bipush 47, 2) := by decide +kernel
theorem dX12_loudIn_8 : decode cX12_loudIn 8 = .ok (.iaload, 1) := by decide +kernel
theorem dX12_loudIn_9 : decode cX12_loudIn 9 = .ok (.if_icmp .ge 30, 3) := by decide +kernel
theorem dX12_loudIn_12 : decode cX12_loudIn 12 = .ok (.iload_n 2, 1) := by decide +kernel
theorem dX12_loudIn_13 : decode cX12_loudIn 13 = .ok (.aload_n 0, 1) := by decide +kernel
theorem dX12_loudIn_14 : decode cX12_loudIn 14 = .ok (.iconst 2, 1) := by decide +kernel
theorem dX12_loudIn_15 : decode cX12_loudIn 15 = .ok (.iload_n 3, 1) := by decide +kernel
theorem dX12_loudIn_16 : decode cX12_loudIn 16 = .ok (.iadd, 1) := by decide +kernel
theorem dX12_loudIn_17 : decode cX12_loudIn 17 = .ok (.iaload, 1) := by decide +kernel
theorem dX12_loudIn_18 : decode cX12_loudIn 18 = .ok (.iload_n 1, 1) := by decide +kernel
theorem dX12_loudIn_19 : decode cX12_loudIn 19 = .ok (.if_icmp .ne 11, 3) := by decide +kernel
theorem dX12_loudIn_22 : decode cX12_loudIn 22 = .ok (.aload_n 0, 1) := by decide +kernel
theorem dX12_loudIn_23 : decode cX12_loudIn 23 = .ok (.iload_n 3, 1) := by decide +kernel
theorem dX12_loudIn_24 : decode cX12_loudIn 24 = .ok (.invokestatic 59, 3) := by decide +kernel
theorem dX12_loudIn_27 : decode cX12_loudIn 27 = .ok (.goto 4, 3) := by decide +kernel
theorem dX12_loudIn_30 : decode cX12_loudIn 30 = .ok (.iconst 0, 1) := by decide +kernel
theorem dX12_loudIn_31 : decode cX12_loudIn 31 = .ok (.iadd, 1) := by decide +kernel
theorem dX12_loudIn_32 : decode cX12_loudIn 32 = .ok (.istore_n 2, 1) := by decide +kernel
theorem dX12_loudIn_33 : decode cX12_loudIn 33 = .ok (.iinc 3 1, 3) := by decide +kernel
theorem dX12_loudIn_36 : decode cX12_loudIn 36 = .ok (.goto (-32), 3) := by decide +kernel
theorem dX12_loudIn_39 : decode cX12_loudIn 39 = .ok (.iload_n 2, 1) := by decide +kernel
theorem dX12_loudIn_40 : decode cX12_loudIn 40 = .ok (.ireturn, 1) := by decide +kernel
theorem dX12_isAsleep_0 : decode cX12_isAsleep 0 = .ok (.aload_n 0, 1) := by decide +kernel
theorem dX12_isAsleep_1 : decode cX12_isAsleep 1 = .ok (.aload_n 0, 1) := by decide +kernel
theorem dX12_isAsleep_2 : decode cX12_isAsleep 2 = .ok (.bipush 37, 2) := by decide +kernel
theorem dX12_isAsleep_4 : decode cX12_isAsleep 4 = .ok (.iload_n 1, 1) := by decide +kernel
theorem dX12_isAsleep_5 : decode cX12_isAsleep 5 = .ok (.iadd, 1) := by decide +kernel
theorem dX12_isAsleep_6 : decode cX12_isAsleep 6 = .ok (.iaload, 1) := by decide +kernel
theorem dX12_isAsleep_7 : decode cX12_isAsleep 7 = .ok (.invokestatic 63, 3) := by decide +kernel
theorem dX12_isAsleep_10 : decode cX12_isAsleep 10 = .ok (.aload_n 0, 1) := by decide +kernel
theorem dX12_isAsleep_11 : decode cX12_isAsleep 11 = .ok (.bipush 42, 2) := by decide +kernel
theorem dX12_isAsleep_13 : decode cX12_isAsleep 13 = .ok (.iload_n 1, 1) := by decide +kernel
theorem dX12_isAsleep_14 : decode cX12_isAsleep 14 = .ok (.iadd, 1) := by decide +kernel
theorem dX12_isAsleep_15 : decode cX12_isAsleep 15 = .ok (.iaload, 1) := by decide +kernel
theorem dX12_isAsleep_16 : decode cX12_isAsleep 16 = .ok (.if_icmp .gt 7, 3) := by decide +kernel
theorem dX12_isAsleep_19 : decode cX12_isAsleep 19 = .ok (.iconst 1, 1) := by decide +kernel
theorem dX12_isAsleep_20 : decode cX12_isAsleep 20 = .ok (.goto 4, 3) := by decide +kernel
theorem dX12_isAsleep_23 : decode cX12_isAsleep 23 = .ok (.iconst 0, 1) := by decide +kernel
theorem dX12_isAsleep_24 : decode cX12_isAsleep 24 = .ok (.ireturn, 1) := by decide +kernel
theorem dX12_of_0 : decode cX12_of 0 = .ok (.aload_n 0, 1) := by decide +kernel
theorem dX12_of_1 : decode cX12_of 1 = .ok (.iload_n 1, 1) := by decide +kernel
theorem dX12_of_2 : decode cX12_of 2 = .ok (.invokevirtual 66, 3) := by decide +kernel
theorem dX12_of_5 : decode cX12_of 5 = .ok (.ifCond .ne 5, 3) := by decide +kernel
theorem dX12_of_8 : decode cX12_of 8 = .ok (.iconst (-1), 1) := by decide +kernel
theorem dX12_of_9 : decode cX12_of 9 = .ok (.ireturn, 1) := by decide +kernel
theorem dX12_of_10 : decode cX12_of 10 = .ok (.iload_n 2, 1) := by decide +kernel
theorem dX12_of_11 : decode cX12_of 11 = .ok (.tableswitch 90 0 4 #[33, 43, 53, 63, 73], 33) := by decide +kernel
theorem dX12_of_44 : decode cX12_of 44 = .ok (.aload_n 0, 1) := by decide +kernel
theorem dX12_of_45 : decode cX12_of 45 = .ok (.getfield 23, 3) := by decide +kernel
theorem dX12_of_48 : decode cX12_of 48 = .ok (.bipush 37, 2) := by decide +kernel
theorem dX12_of_50 : decode cX12_of 50 = .ok (.iload_n 1, 1) := by decide +kernel
theorem dX12_of_51 : decode cX12_of 51 = .ok (.iadd, 1) := by decide +kernel
theorem dX12_of_52 : decode cX12_of 52 = .ok (.iaload, 1) := by decide +kernel
theorem dX12_of_53 : decode cX12_of 53 = .ok (.ireturn, 1) := by decide +kernel
theorem dX12_of_54 : decode cX12_of 54 = .ok (.aload_n 0, 1) := by decide +kernel
theorem dX12_of_55 : decode cX12_of 55 = .ok (.getfield 23, 3) := by decide +kernel
theorem dX12_of_58 : decode cX12_of 58 = .ok (.bipush 42, 2) := by decide +kernel
theorem dX12_of_60 : decode cX12_of 60 = .ok (.iload_n 1, 1) := by decide +kernel
theorem dX12_of_61 : decode cX12_of 61 = .ok (.iadd, 1) := by decide +kernel
theorem dX12_of_62 : decode cX12_of 62 = .ok (.iaload, 1) := by decide +kernel
theorem dX12_of_63 : decode cX12_of 63 = .ok (.ireturn, 1) := by decide +kernel
theorem dX12_of_64 : decode cX12_of 64 = .ok (.aload_n 0, 1) := by decide +kernel
theorem dX12_of_65 : decode cX12_of 65 = .ok (.getfield 23, 3) := by decide +kernel
theorem dX12_of_68 : decode cX12_of 68 = .ok (.bipush 26, 2) := by decide +kernel
theorem dX12_of_70 : decode cX12_of 70 = .ok (.iload_n 1, 1) := by decide +kernel
theorem dX12_of_71 : decode cX12_of 71 = .ok (.iadd, 1) := by decide +kernel
theorem dX12_of_72 : decode cX12_of 72 = .ok (.iaload, 1) := by decide +kernel
theorem dX12_of_73 : decode cX12_of 73 = .ok (.ireturn, 1) := by decide +kernel
theorem dX12_of_74 : decode cX12_of 74 = .ok (.aload_n 0, 1) := by decide +kernel
theorem dX12_of_75 : decode cX12_of 75 = .ok (.getfield 23, 3) := by decide +kernel
theorem dX12_of_78 : decode cX12_of 78 = .ok (.bipush 31, 2) := by decide +kernel
theorem dX12_of_80 : decode cX12_of 80 = .ok (.iload_n 1, 1) := by decide +kernel
theorem dX12_of_81 : decode cX12_of 81 = .ok (.iadd, 1) := by decide +kernel
theorem dX12_of_82 : decode cX12_of 82 = .ok (.iaload, 1) := by decide +kernel
theorem dX12_of_83 : decode cX12_of 83 = .ok (.ireturn, 1) := by decide +kernel
theorem dX12_of_84 : decode cX12_of 84 = .ok (.aload_n 0, 1) := by decide +kernel
theorem dX12_of_85 : decode cX12_of 85 = .ok (.getfield 23, 3) := by decide +kernel
theorem dX12_of_88 : decode cX12_of 88 = .ok (.iload_n 1, 1) := by decide +kernel
theorem dX12_of_89 : decode cX12_of 89 = .ok (.invokestatic 69, 3) := by decide +kernel
theorem dX12_of_92 : decode cX12_of 92 = .ok (.ifCond .eq 7, 3) := by decide +kernel
theorem dX12_of_95 : decode cX12_of 95 = .ok (.iconst 1, 1) := by decide +kernel
theorem dX12_of_96 : decode cX12_of 96 = .ok (.goto 4, 3) := by decide +kernel
theorem dX12_of_99 : decode cX12_of 99 = .ok (.iconst 0, 1) := by decide +kernel
theorem dX12_of_100 : decode cX12_of 100 = .ok (.ireturn, 1) := by decide +kernel
theorem dX12_of_101 : decode cX12_of 101 = .ok (.iconst (-1), 1) := by decide +kernel
theorem dX12_of_102 : decode cX12_of 102 = .ok (.ireturn, 1) := by decide +kernel
theorem dX12_gift_0 : decode cX12_gift 0 = .ok (.aload_n 0, 1) := by decide +kernel
theorem dX12_gift_1 : decode cX12_gift 1 = .ok (.iload_n 1, 1) := by decide +kernel
theorem dX12_gift_2 : decode cX12_gift 2 = .ok (.invokevirtual 73, 3) := by decide +kernel
theorem dX12_gift_5 : decode cX12_gift 5 = .ok (.ifCond .ne 5, 3) := by decide +kernel
theorem dX12_gift_8 : decode cX12_gift 8 = .ok (.iconst (-1), 1) := by decide +kernel
theorem dX12_gift_9 : decode cX12_gift 9 = .ok (.ireturn, 1) := by decide +kernel
theorem dX12_gift_10 : decode cX12_gift 10 = .ok (.iload_n 2, 1) := by decide +kernel
theorem dX12_gift_11 : decode cX12_gift 11 = .ok (.tableswitch 95 0 5 #[37, 47, 57, 67, 76, 86], 37) := by decide +kernel
theorem dX12_gift_48 : decode cX12_gift 48 = .ok (.aload_n 0, 1) := by decide +kernel
theorem dX12_gift_49 : decode cX12_gift 49 = .ok (.getfield 23, 3) := by decide +kernel
theorem dX12_gift_52 : decode cX12_gift 52 = .ok (.bipush 48, 2) := by decide +kernel
theorem dX12_gift_54 : decode cX12_gift 54 = .ok (.iload_n 1, 1) := by decide +kernel
theorem dX12_gift_55 : decode cX12_gift 55 = .ok (.iadd, 1) := by decide +kernel
theorem dX12_gift_56 : decode cX12_gift 56 = .ok (.iaload, 1) := by decide +kernel
theorem dX12_gift_57 : decode cX12_gift 57 = .ok (.ireturn, 1) := by decide +kernel
theorem dX12_gift_58 : decode cX12_gift 58 = .ok (.aload_n 0, 1) := by decide +kernel
theorem dX12_gift_59 : decode cX12_gift 59 = .ok (.getfield 23, 3) := by decide +kernel
theorem dX12_gift_62 : decode cX12_gift 62 = .ok (.bipush 10, 2) := by decide +kernel
theorem dX12_gift_64 : decode cX12_gift 64 = .ok (.iload_n 1, 1) := by decide +kernel
theorem dX12_gift_65 : decode cX12_gift 65 = .ok (.iadd, 1) := by decide +kernel
theorem dX12_gift_66 : decode cX12_gift 66 = .ok (.iaload, 1) := by decide +kernel
theorem dX12_gift_67 : decode cX12_gift 67 = .ok (.ireturn, 1) := by decide +kernel
theorem dX12_gift_68 : decode cX12_gift 68 = .ok (.aload_n 0, 1) := by decide +kernel
theorem dX12_gift_69 : decode cX12_gift 69 = .ok (.getfield 23, 3) := by decide +kernel
theorem dX12_gift_72 : decode cX12_gift 72 = .ok (.bipush 56, 2) := by decide +kernel
theorem dX12_gift_74 : decode cX12_gift 74 = .ok (.iload_n 1, 1) := by decide +kernel
theorem dX12_gift_75 : decode cX12_gift 75 = .ok (.iadd, 1) := by decide +kernel
theorem dX12_gift_76 : decode cX12_gift 76 = .ok (.iaload, 1) := by decide +kernel
theorem dX12_gift_77 : decode cX12_gift 77 = .ok (.ireturn, 1) := by decide +kernel
theorem dX12_gift_78 : decode cX12_gift 78 = .ok (.aload_n 0, 1) := by decide +kernel
theorem dX12_gift_79 : decode cX12_gift 79 = .ok (.getfield 23, 3) := by decide +kernel
theorem dX12_gift_82 : decode cX12_gift 82 = .ok (.iconst 2, 1) := by decide +kernel
theorem dX12_gift_83 : decode cX12_gift 83 = .ok (.iload_n 1, 1) := by decide +kernel
theorem dX12_gift_84 : decode cX12_gift 84 = .ok (.iadd, 1) := by decide +kernel
theorem dX12_gift_85 : decode cX12_gift 85 = .ok (.iaload, 1) := by decide +kernel
theorem dX12_gift_86 : decode cX12_gift 86 = .ok (.ireturn, 1) := by decide +kernel
theorem dX12_gift_87 : decode cX12_gift 87 = .ok (.aload_n 0, 1) := by decide +kernel
theorem dX12_gift_88 : decode cX12_gift 88 = .ok (.getfield 23, 3) := by decide +kernel
theorem dX12_gift_91 : decode cX12_gift 91 = .ok (.bipush 18, 2) := by decide +kernel
theorem dX12_gift_93 : decode cX12_gift 93 = .ok (.iload_n 1, 1) := by decide +kernel
theorem dX12_gift_94 : decode cX12_gift 94 = .ok (.iadd, 1) := by decide +kernel
theorem dX12_gift_95 : decode cX12_gift 95 = .ok (.iaload, 1) := by decide +kernel
theorem dX12_gift_96 : decode cX12_gift 96 = .ok (.ireturn, 1) := by decide +kernel
theorem dX12_gift_97 : decode cX12_gift 97 = .ok (.aload_n 0, 1) := by decide +kernel
theorem dX12_gift_98 : decode cX12_gift 98 = .ok (.getfield 23, 3) := by decide +kernel
theorem dX12_gift_101 : decode cX12_gift 101 = .ok (.iload_n 1, 1) := by decide +kernel
theorem dX12_gift_102 : decode cX12_gift 102 = .ok (.invokestatic 59, 3) := by decide +kernel
theorem dX12_gift_105 : decode cX12_gift 105 = .ok (.ireturn, 1) := by decide +kernel
theorem dX12_gift_106 : decode cX12_gift 106 = .ok (.iconst (-1), 1) := by decide +kernel
theorem dX12_gift_107 : decode cX12_gift 107 = .ok (.ireturn, 1) := by decide +kernel
theorem dX12_room_0 : decode cX12_room 0 = .ok (.iload_n 1, 1) := by decide +kernel
theorem dX12_room_1 : decode cX12_room 1 = .ok (.invokestatic 43, 3) := by decide +kernel
theorem dX12_room_4 : decode cX12_room 4 = .ok (.ifCond .eq 12, 3) := by decide +kernel
theorem dX12_room_7 : decode cX12_room 7 = .ok (.iload_n 2, 1) := by decide +kernel
theorem dX12_room_8 : decode cX12_room 8 = .ok (.iconst 0, 1) := by decide +kernel
theorem dX12_room_9 : decode cX12_room 9 = .ok (.iconst 2, 1) := by decide +kernel
theorem dX12_room_10 : decode cX12_room 10 = .ok (.invokestatic 35, 3) := by decide +kernel
theorem dX12_room_13 : decode cX12_room 13 = .ok (.ifCond .ne 5, 3) := by decide +kernel
theorem dX12_room_16 : decode cX12_room 16 = .ok (.iconst (-1), 1) := by decide +kernel
theorem dX12_room_17 : decode cX12_room 17 = .ok (.ireturn, 1) := by decide +kernel
theorem dX12_room_18 : decode cX12_room 18 = .ok (.iload_n 2, 1) := by decide +kernel
theorem dX12_room_19 : decode cX12_room 19 = .ok (.ifCond .ne 12, 3) := by decide +kernel
theorem dX12_room_22 : decode cX12_room 22 = .ok (.aload_n 0, 1) := by decide +kernel
theorem dX12_room_23 : decode cX12_room 23 = .ok (.getfield 23, 3) := by decide +kernel
theorem dX12_room_26 : decode cX12_room 26 = .ok (.iload_n 1, 1) := by decide +kernel
theorem dX12_room_27 : decode cX12_room 27 = .ok (.invokestatic 63, 3) := by decide +kernel
theorem dX12_room_30 : decode cX12_room 30 = .ok (.ireturn, 1) := by decide +kernel
theorem dX12_room_31 : decode cX12_room 31 = .ok (.iconst 0, 1) := by decide +kernel
theorem dX12_room_32 : decode cX12_room 32 = .ok (.istore_n 3, 1) := by decide +kernel
theorem dX12_room_33 : decode cX12_room 33 = .ok (.iload_n 2, 1) := by decide +kernel
theorem dX12_room_34 : decode cX12_room 34 = .ok (.iconst 1, 1) := by decide +kernel
theorem dX12_room_35 : decode cX12_room 35 = .ok (.if_icmp .ne 7, 3) := by decide +kernel
theorem dX12_room_38 : decode cX12_room 38 = .ok (.iconst 2, 1) := by decide +kernel
theorem dX12_room_39 : decode cX12_room 39 = .ok (.goto 5, 3) := by decide +kernel
theorem dX12_room_42 : decode cX12_room 42 = .ok (.bipush 37, 2) := by decide +kernel
theorem dX12_room_44 : decode cX12_room 44 = .ok (.istore 4, 2) := by decide +kernel
theorem dX12_room_46 : decode cX12_room 46 = .ok (.iconst 0, 1) := by decide +kernel
theorem dX12_room_47 : decode cX12_room 47 = .ok (.istore 5, 2) := by decide +kernel
theorem dX12_room_49 : decode cX12_room 49 = .ok (.iload 5, 2) := by decide +kernel
theorem dX12_room_51 : decode cX12_room 51 = .ok (.aload_n 0, 1) := by decide +kernel
theorem dX12_room_52 : decode cX12_room 52 = .ok (.getfield 23, 3) := by decide +kernel
theorem dX12_room_55 : decode cX12_room 55 = .ok (.iload_n 2, 1) := by decide +kernel
theorem dX12_room_56 : decode cX12_room 56 = .ok (.iconst 1, 1) := by decide +kernel
theorem dX12_room_57 : decode cX12_room 57 = .ok (.if_icmp .ne 8, 3) := by decide +kernel
theorem dX12_room_60 : decode cX12_room 60 = .ok (.bipush 47, 2) := by decide +kernel
theorem dX12_room_62 : decode cX12_room 62 = .ok (.goto 5, 3) := by decide +kernel
theorem dX12_room_65 : decode cX12_room 65 = .ok (.bipush 36, 2) := by decide +kernel
theorem dX12_room_67 : decode cX12_room 67 = .ok (.iaload, 1) := by decide +kernel
theorem dX12_room_68 : decode cX12_room 68 = .ok (.if_icmp .ge 34, 3) := by decide +kernel
theorem dX12_room_71 : decode cX12_room 71 = .ok (.iload_n 3, 1) := by decide +kernel
theorem dX12_room_72 : decode cX12_room 72 = .ok (.aload_n 0, 1) := by decide +kernel
theorem dX12_room_73 : decode cX12_room 73 = .ok (.getfield 23, 3) := by decide +kernel
theorem dX12_room_76 : decode cX12_room 76 = .ok (.iload 4, 2) := by decide +kernel
theorem dX12_room_78 : decode cX12_room 78 = .ok (.iload 5, 2) := by decide +kernel
theorem dX12_room_80 : decode cX12_room 80 = .ok (.iadd, 1) := by decide +kernel
theorem dX12_room_81 : decode cX12_room 81 = .ok (.iaload, 1) := by decide +kernel
theorem dX12_room_82 : decode cX12_room 82 = .ok (.iload_n 1, 1) := by decide +kernel
theorem dX12_room_83 : decode cX12_room 83 = .ok (.if_icmp .ne 10, 3) := by decide +kernel
theorem dX12_room_86 : decode cX12_room 86 = .ok (.iconst 1, 1) := by decide +kernel
theorem dX12_room_87 : decode cX12_room 87 = .ok (.iload 5, 2) := by decide +kernel
theorem dX12_room_89 : decode cX12_room 89 = .ok (.ishl, 1) := by decide +kernel
theorem dX12_room_90 : decode cX12_room 90 = .ok (.goto 4, 3) := by decide +kernel
theorem dX12_room_93 : decode cX12_room 93 = .ok (.iconst 0, 1) := by decide +kernel
theorem dX12_room_94 : decode cX12_room 94 = .ok (.ior, 1) := by decide +kernel
theorem dX12_room_95 : decode cX12_room 95 = .ok (.istore_n 3, 1) := by decide +kernel
theorem dX12_room_96 : decode cX12_room 96 = .ok (.iinc 5 1, 3) := by decide +kernel
theorem dX12_room_99 : decode cX12_room 99 = .ok (.goto (-50), 3) := by decide +kernel
theorem dX12_room_102 : decode cX12_room 102 = .ok (.iload_n 3, 1) := by decide +kernel
theorem dX12_room_103 : decode cX12_room 103 = .ok (.ireturn, 1) := by decide +kernel
theorem dX12_bed_0 : decode cX12_bed 0 = .ok (.aload_n 0, 1) := by decide +kernel
theorem dX12_bed_1 : decode cX12_bed 1 = .ok (.iload_n 1, 1) := by decide +kernel
theorem dX12_bed_2 : decode cX12_bed 2 = .ok (.invokevirtual 66, 3) := by decide +kernel
theorem dX12_bed_5 : decode cX12_bed 5 = .ok (.ifCond .eq 10, 3) := by decide +kernel
theorem dX12_bed_8 : decode cX12_bed 8 = .ok (.iload_n 2, 1) := by decide +kernel
theorem dX12_bed_9 : decode cX12_bed 9 = .ok (.invokestatic 43, 3) := by decide +kernel
theorem dX12_bed_12 : decode cX12_bed 12 = .ok (.ifCond .ne 5, 3) := by decide +kernel
theorem dX12_bed_15 : decode cX12_bed 15 = .ok (.iconst (-1), 1) := by decide +kernel
theorem dX12_bed_16 : decode cX12_bed 16 = .ok (.ireturn, 1) := by decide +kernel
theorem dX12_bed_17 : decode cX12_bed 17 = .ok (.aload_n 0, 1) := by decide +kernel
theorem dX12_bed_18 : decode cX12_bed 18 = .ok (.getfield 23, 3) := by decide +kernel
theorem dX12_bed_21 : decode cX12_bed 21 = .ok (.bipush 37, 2) := by decide +kernel
theorem dX12_bed_23 : decode cX12_bed 23 = .ok (.iload_n 1, 1) := by decide +kernel
theorem dX12_bed_24 : decode cX12_bed 24 = .ok (.iadd, 1) := by decide +kernel
theorem dX12_bed_25 : decode cX12_bed 25 = .ok (.iaload, 1) := by decide +kernel
theorem dX12_bed_26 : decode cX12_bed 26 = .ok (.istore_n 3, 1) := by decide +kernel
theorem dX12_bed_27 : decode cX12_bed 27 = .ok (.aload_n 0, 1) := by decide +kernel
theorem dX12_bed_28 : decode cX12_bed 28 = .ok (.getfield 23, 3) := by decide +kernel
theorem dX12_bed_31 : decode cX12_bed 31 = .ok (.bipush 37, 2) := by decide +kernel
theorem dX12_bed_33 : decode cX12_bed 33 = .ok (.iload_n 1, 1) := by decide +kernel
theorem dX12_bed_34 : decode cX12_bed 34 = .ok (.iadd, 1) := by decide +kernel
theorem dX12_bed_35 : decode cX12_bed 35 = .ok (.iload_n 2, 1) := by decide +kernel
theorem dX12_bed_36 : decode cX12_bed 36 = .ok (.iastore, 1) := by decide +kernel
theorem dX12_bed_37 : decode cX12_bed 37 = .ok (.iload_n 3, 1) := by decide +kernel
theorem dX12_bed_38 : decode cX12_bed 38 = .ok (.ireturn, 1) := by decide +kernel
theorem dX12_type_0 : decode cX12_type 0 = .ok (.iload_n 1, 1) := by decide +kernel
theorem dX12_type_1 : decode cX12_type 1 = .ok (.bipush 32, 2) := by decide +kernel
theorem dX12_type_3 : decode cX12_type 3 = .ok (.bipush 126, 2) := by decide +kernel
theorem dX12_type_5 : decode cX12_type 5 = .ok (.invokestatic 35, 3) := by decide +kernel
theorem dX12_type_8 : decode cX12_type 8 = .ok (.ifCond .ne 5, 3) := by decide +kernel
theorem dX12_type_11 : decode cX12_type 11 = .ok (.iconst (-1), 1) := by decide +kernel
theorem dX12_type_12 : decode cX12_type 12 = .ok (.ireturn, 1) := by decide +kernel
theorem dX12_type_13 : decode cX12_type 13 = .ok (.aload_n 0, 1) := by decide +kernel
theorem dX12_type_14 : decode cX12_type 14 = .ok (.getfield 76, 3) := by decide +kernel
theorem dX12_type_17 : decode cX12_type 17 = .ok (.bipush 80, 2) := by decide +kernel
theorem dX12_type_19 : decode cX12_type 19 = .ok (.if_icmp .ne 6, 3) := by decide +kernel
theorem dX12_type_22 : decode cX12_type 22 = .ok (.bipush (-3), 2) := by decide +kernel
theorem dX12_type_24 : decode cX12_type 24 = .ok (.ireturn, 1) := by decide +kernel
theorem dX12_type_25 : decode cX12_type 25 = .ok (.aload_n 0, 1) := by decide +kernel
theorem dX12_type_26 : decode cX12_type 26 = .ok (.getfield 20, 3) := by decide +kernel
theorem dX12_type_29 : decode cX12_type 29 = .ok (.aload_n 0, 1) := by decide +kernel
theorem dX12_type_30 : decode cX12_type 30 = .ok (.getfield 76, 3) := by decide +kernel
theorem dX12_type_33 : decode cX12_type 33 = .ok (.iload_n 1, 1) := by decide +kernel
theorem dX12_type_34 : decode cX12_type 34 = .ok (.iastore, 1) := by decide +kernel
theorem dX12_type_35 : decode cX12_type 35 = .ok (.aload_n 0, 1) := by decide +kernel
theorem dX12_type_36 : decode cX12_type 36 = .ok (.dup, 1) := by decide +kernel
theorem dX12_type_37 : decode cX12_type 37 = .ok (.getfield 76, 3) := by decide +kernel
theorem dX12_type_40 : decode cX12_type 40 = .ok (.iconst 1, 1) := by decide +kernel
theorem dX12_type_41 : decode cX12_type 41 = .ok (.iadd, 1) := by decide +kernel
theorem dX12_type_42 : decode cX12_type 42 = .ok (.putfield 76, 3) := by decide +kernel
theorem dX12_type_45 : decode cX12_type 45 = .ok (.aload_n 0, 1) := by decide +kernel
theorem dX12_type_46 : decode cX12_type 46 = .ok (.getfield 76, 3) := by decide +kernel
theorem dX12_type_49 : decode cX12_type 49 = .ok (.ireturn, 1) := by decide +kernel
theorem dX12_peek_0 : decode cX12_peek 0 = .ok (.aload_n 0, 1) := by decide +kernel
theorem dX12_peek_1 : decode cX12_peek 1 = .ok (.getfield 80, 3) := by decide +kernel
theorem dX12_peek_4 : decode cX12_peek 4 = .ok (.aload_n 0, 1) := by decide +kernel
theorem dX12_peek_5 : decode cX12_peek 5 = .ok (.getfield 76, 3) := by decide +kernel
theorem dX12_peek_8 : decode cX12_peek 8 = .ok (.if_icmp .ge 30, 3) := by decide +kernel
theorem dX12_peek_11 : decode cX12_peek 11 = .ok (.aload_n 0, 1) := by decide +kernel
theorem dX12_peek_12 : decode cX12_peek 12 = .ok (.getfield 20, 3) := by decide +kernel
theorem dX12_peek_15 : decode cX12_peek 15 = .ok (.aload_n 0, 1) := by decide +kernel
theorem dX12_peek_16 : decode cX12_peek 16 = .ok (.getfield 80, 3) := by decide +kernel
theorem dX12_peek_19 : decode cX12_peek 19 = .ok (.iaload, 1) := by decide +kernel
theorem dX12_peek_20 : decode cX12_peek 20 = .ok (.bipush 32, 2) := by decide +kernel
theorem dX12_peek_22 : decode cX12_peek 22 = .ok (.if_icmp .ne 16, 3) := by decide +kernel
theorem dX12_peek_25 : decode cX12_peek 25 = .ok (.aload_n 0, 1) := by decide +kernel
theorem dX12_peek_26 : decode cX12_peek 26 = .ok (.dup, 1) := by decide +kernel
theorem dX12_peek_27 : decode cX12_peek 27 = .ok (.getfield 80, 3) := by decide +kernel
theorem dX12_peek_30 : decode cX12_peek 30 = .ok (.iconst 1, 1) := by decide +kernel
theorem dX12_peek_31 : decode cX12_peek 31 = .ok (.iadd, 1) := by decide +kernel
theorem dX12_peek_32 : decode cX12_peek 32 = .ok (.putfield 80, 3) := by decide +kernel
theorem dX12_peek_35 : decode cX12_peek 35 = .ok (.goto (-35), 3) := by decide +kernel
theorem dX12_peek_38 : decode cX12_peek 38 = .ok (.aload_n 0, 1) := by decide +kernel
theorem dX12_peek_39 : decode cX12_peek 39 = .ok (.getfield 80, 3) := by decide +kernel
theorem dX12_peek_42 : decode cX12_peek 42 = .ok (.aload_n 0, 1) := by decide +kernel
theorem dX12_peek_43 : decode cX12_peek 43 = .ok (.getfield 76, 3) := by decide +kernel
theorem dX12_peek_46 : decode cX12_peek 46 = .ok (.if_icmp .ge 15, 3) := by decide +kernel
theorem dX12_peek_49 : decode cX12_peek 49 = .ok (.aload_n 0, 1) := by decide +kernel
theorem dX12_peek_50 : decode cX12_peek 50 = .ok (.getfield 20, 3) := by decide +kernel
theorem dX12_peek_53 : decode cX12_peek 53 = .ok (.aload_n 0, 1) := by decide +kernel
theorem dX12_peek_54 : decode cX12_peek 54 = .ok (.getfield 80, 3) := by decide +kernel
theorem dX12_peek_57 : decode cX12_peek 57 = .ok (.iaload, 1) := by decide +kernel
theorem dX12_peek_58 : decode cX12_peek 58 = .ok (.goto 4, 3) := by decide +kernel
theorem dX12_peek_61 : decode cX12_peek 61 = .ok (.iconst 0, 1) := by decide +kernel
theorem dX12_peek_62 : decode cX12_peek 62 = .ok (.ireturn, 1) := by decide +kernel
theorem dX12_isSign_0 : decode cX12_isSign 0 = .ok (.aload_n 0, 1) := by decide +kernel
theorem dX12_isSign_1 : decode cX12_isSign 1 = .ok (.invokevirtual 83, 3) := by decide +kernel
theorem dX12_isSign_4 : decode cX12_isSign 4 = .ok (.iload_n 1, 1) := by decide +kernel
theorem dX12_isSign_5 : decode cX12_isSign 5 = .ok (.if_icmp .eq 5, 3) := by decide +kernel
theorem dX12_isSign_8 : decode cX12_isSign 8 = .ok (.iconst 0, 1) := by decide +kernel
theorem dX12_isSign_9 : decode cX12_isSign 9 = .ok (.ireturn, 1) := by decide +kernel
theorem dX12_isSign_10 : decode cX12_isSign 10 = .ok (.aload_n 0, 1) := by decide +kernel
theorem dX12_isSign_11 : decode cX12_isSign 11 = .ok (.dup, 1) := by decide +kernel
theorem dX12_isSign_12 : decode cX12_isSign 12 = .ok (.getfield 80, 3) := by decide +kernel
theorem dX12_isSign_15 : decode cX12_isSign 15 = .ok (.iconst 1, 1) := by decide +kernel
theorem dX12_isSign_16 : decode cX12_isSign 16 = .ok (.iadd, 1) := by decide +kernel
theorem dX12_isSign_17 : decode cX12_isSign 17 = .ok (.putfield 80, 3) := by decide +kernel
theorem dX12_isSign_20 : decode cX12_isSign 20 = .ok (.iconst 1, 1) := by decide +kernel
theorem dX12_isSign_21 : decode cX12_isSign 21 = .ok (.ireturn, 1) := by decide +kernel
theorem dX12_isDigit_0 : decode cX12_isDigit 0 = .ok (.aload_n 0, 1) := by decide +kernel
theorem dX12_isDigit_1 : decode cX12_isDigit 1 = .ok (.aload_n 0, 1) := by decide +kernel
theorem dX12_isDigit_2 : decode cX12_isDigit 2 = .ok (.invokevirtual 83, 3) := by decide +kernel
theorem dX12_isDigit_5 : decode cX12_isDigit 5 = .ok (.bipush 48, 2) := by decide +kernel
theorem dX12_isDigit_7 : decode cX12_isDigit 7 = .ok (.isub, 1) := by decide +kernel
theorem dX12_isDigit_8 : decode cX12_isDigit 8 = .ok (.putfield 87, 3) := by decide +kernel
theorem dX12_isDigit_11 : decode cX12_isDigit 11 = .ok (.aload_n 0, 1) := by decide +kernel
theorem dX12_isDigit_12 : decode cX12_isDigit 12 = .ok (.getfield 87, 3) := by decide +kernel
theorem dX12_isDigit_15 : decode cX12_isDigit 15 = .ok (.iload_n 1, 1) := by decide +kernel
theorem dX12_isDigit_16 : decode cX12_isDigit 16 = .ok (.iload_n 2, 1) := by decide +kernel
theorem dX12_isDigit_17 : decode cX12_isDigit 17 = .ok (.invokestatic 35, 3) := by decide +kernel
theorem dX12_isDigit_20 : decode cX12_isDigit 20 = .ok (.ifCond .ne 5, 3) := by decide +kernel
theorem dX12_isDigit_23 : decode cX12_isDigit 23 = .ok (.iconst 0, 1) := by decide +kernel
theorem dX12_isDigit_24 : decode cX12_isDigit 24 = .ok (.ireturn, 1) := by decide +kernel
theorem dX12_isDigit_25 : decode cX12_isDigit 25 = .ok (.aload_n 0, 1) := by decide +kernel
theorem dX12_isDigit_26 : decode cX12_isDigit 26 = .ok (.dup, 1) := by decide +kernel
theorem dX12_isDigit_27 : decode cX12_isDigit 27 = .ok (.getfield 80, 3) := by decide +kernel
theorem dX12_isDigit_30 : decode cX12_isDigit 30 = .ok (.iconst 1, 1) := by decide +kernel
theorem dX12_isDigit_31 : decode cX12_isDigit 31 = .ok (.iadd, 1) := by decide +kernel
theorem dX12_isDigit_32 : decode cX12_isDigit 32 = .ok (.putfield 80, 3) := by decide +kernel
theorem dX12_isDigit_35 : decode cX12_isDigit 35 = .ok (.iconst 1, 1) := by decide +kernel
theorem dX12_isDigit_36 : decode cX12_isDigit 36 = .ok (.ireturn, 1) := by decide +kernel
theorem dX12_isNumber_0 : decode cX12_isNumber 0 = .ok (.aload_n 0, 1) := by decide +kernel
theorem dX12_isNumber_1 : decode cX12_isNumber 1 = .ok (.iconst 0, 1) := by decide +kernel
theorem dX12_isNumber_2 : decode cX12_isNumber 2 = .ok (.bipush 9, 2) := by decide +kernel
theorem dX12_isNumber_4 : decode cX12_isNumber 4 = .ok (.invokevirtual 90, 3) := by decide +kernel
theorem dX12_isNumber_7 : decode cX12_isNumber 7 = .ok (.ifCond .ne 5, 3) := by decide +kernel
theorem dX12_isNumber_10 : decode cX12_isNumber 10 = .ok (.iconst 0, 1) := by decide +kernel
theorem dX12_isNumber_11 : decode cX12_isNumber 11 = .ok (.ireturn, 1) := by decide +kernel
theorem dX12_isNumber_12 : decode cX12_isNumber 12 = .ok (.aload_n 0, 1) := by decide +kernel
theorem dX12_isNumber_13 : decode cX12_isNumber 13 = .ok (.getfield 80, 3) := by decide +kernel
theorem dX12_isNumber_16 : decode cX12_isNumber 16 = .ok (.iconst 1, 1) := by decide +kernel
theorem dX12_isNumber_17 : decode cX12_isNumber 17 = .ok (.isub, 1) := by decide +kernel
theorem dX12_isNumber_18 : decode cX12_isNumber 18 = .ok (.istore_n 1, 1) := by decide +kernel
theorem dX12_isNumber_19 : decode cX12_isNumber 19 = .ok (.aload_n 0, 1) := by decide +kernel
theorem dX12_isNumber_20 : decode cX12_isNumber 20 = .ok (.getfield 87, 3) := by decide +kernel
theorem dX12_isNumber_23 : decode cX12_isNumber 23 = .ok (.istore_n 2, 1) := by decide +kernel
theorem dX12_isNumber_24 : decode cX12_isNumber 24 = .ok (.aload_n 0, 1) := by decide +kernel
theorem dX12_isNumber_25 : decode cX12_isNumber 25 = .ok (.getfield 80, 3) := by decide +kernel
theorem dX12_isNumber_28 : decode cX12_isNumber 28 = .ok (.aload_n 0, 1) := by decide +kernel
theorem dX12_isNumber_29 : decode cX12_isNumber 29 = .ok (.getfield 76, 3) := by decide +kernel
theorem dX12_isNumber_32 : decode cX12_isNumber 32 = .ok (.if_icmp .ge 50, 3) := by decide +kernel
theorem dX12_isNumber_35 : decode cX12_isNumber 35 = .ok (.aload_n 0, 1) := by decide +kernel
theorem dX12_isNumber_36 : decode cX12_isNumber 36 = .ok (.getfield 20, 3) := by decide +kernel
theorem dX12_isNumber_39 : decode cX12_isNumber 39 = .ok (.aload_n 0, 1) := by decide +kernel
theorem dX12_isNumber_40 : decode cX12_isNumber 40 = .ok (.getfield 80, 3) := by decide +kernel
theorem dX12_isNumber_43 : decode cX12_isNumber 43 = .ok (.iaload, 1) := by decide +kernel
theorem dX12_isNumber_44 : decode cX12_isNumber 44 = .ok (.bipush 48, 2) := by decide +kernel
theorem dX12_isNumber_46 : decode cX12_isNumber 46 = .ok (.bipush 57, 2) := by decide +kernel
theorem dX12_isNumber_48 : decode cX12_isNumber 48 = .ok (.invokestatic 35, 3) := by decide +kernel
theorem dX12_isNumber_51 : decode cX12_isNumber 51 = .ok (.ifCond .eq 31, 3) := by decide +kernel
theorem dX12_isNumber_54 : decode cX12_isNumber 54 = .ok (.bipush 10, 2) := by decide +kernel
theorem dX12_isNumber_56 : decode cX12_isNumber 56 = .ok (.iload_n 2, 1) := by decide +kernel
theorem dX12_isNumber_57 : decode cX12_isNumber 57 = .ok (.imul, 1) := by decide +kernel
theorem dX12_isNumber_58 : decode cX12_isNumber 58 = .ok (.aload_n 0, 1) := by decide +kernel
theorem dX12_isNumber_59 : decode cX12_isNumber 59 = .ok (.getfield 20, 3) := by decide +kernel
theorem dX12_isNumber_62 : decode cX12_isNumber 62 = .ok (.aload_n 0, 1) := by decide +kernel
theorem dX12_isNumber_63 : decode cX12_isNumber 63 = .ok (.getfield 80, 3) := by decide +kernel
theorem dX12_isNumber_66 : decode cX12_isNumber 66 = .ok (.iaload, 1) := by decide +kernel
theorem dX12_isNumber_67 : decode cX12_isNumber 67 = .ok (.iadd, 1) := by decide +kernel
theorem dX12_isNumber_68 : decode cX12_isNumber 68 = .ok (.bipush 48, 2) := by decide +kernel
theorem dX12_isNumber_70 : decode cX12_isNumber 70 = .ok (.isub, 1) := by decide +kernel
theorem dX12_isNumber_71 : decode cX12_isNumber 71 = .ok (.istore_n 2, 1) := by decide +kernel
theorem dX12_isNumber_72 : decode cX12_isNumber 72 = .ok (.aload_n 0, 1) := by decide +kernel
theorem dX12_isNumber_73 : decode cX12_isNumber 73 = .ok (.dup, 1) := by decide +kernel
theorem dX12_isNumber_74 : decode cX12_isNumber 74 = .ok (.getfield 80, 3) := by decide +kernel
theorem dX12_isNumber_77 : decode cX12_isNumber 77 = .ok (.iconst 1, 1) := by decide +kernel
theorem dX12_isNumber_78 : decode cX12_isNumber 78 = .ok (.iadd, 1) := by decide +kernel
theorem dX12_isNumber_79 : decode cX12_isNumber 79 = .ok (.putfield 80, 3) := by decide +kernel
theorem dX12_isNumber_82 : decode cX12_isNumber 82 = .ok (.aload_n 0, 1) := by decide +kernel
theorem dX12_isNumber_83 : decode cX12_isNumber 83 = .ok (.iload_n 2, 1) := by decide +kernel
theorem dX12_isNumber_84 : decode cX12_isNumber 84 = .ok (.putfield 87, 3) := by decide +kernel
theorem dX12_isNumber_87 : decode cX12_isNumber 87 = .ok (.aload_n 0, 1) := by decide +kernel
theorem dX12_isNumber_88 : decode cX12_isNumber 88 = .ok (.iload_n 2, 1) := by decide +kernel
theorem dX12_isNumber_89 : decode cX12_isNumber 89 = .ok (.bipush 60, 2) := by decide +kernel
theorem dX12_isNumber_91 : decode cX12_isNumber 91 = .ok (.if_icmp .le 7, 3) := by decide +kernel
theorem dX12_isNumber_94 : decode cX12_isNumber 94 = .ok (.iload_n 1, 1) := by decide +kernel
theorem dX12_isNumber_95 : decode cX12_isNumber 95 = .ok (.goto 7, 3) := by decide +kernel
theorem dX12_isNumber_98 : decode cX12_isNumber 98 = .ok (.aload_n 0, 1) := by decide +kernel
theorem dX12_isNumber_99 : decode cX12_isNumber 99 = .ok (.getfield 80, 3) := by decide +kernel
theorem dX12_isNumber_102 : decode cX12_isNumber 102 = .ok (.putfield 80, 3) := by decide +kernel
theorem dX12_isNumber_105 : decode cX12_isNumber 105 = .ok (.iload_n 2, 1) := by decide +kernel
theorem dX12_isNumber_106 : decode cX12_isNumber 106 = .ok (.bipush 60, 2) := by decide +kernel
theorem dX12_isNumber_108 : decode cX12_isNumber 108 = .ok (.if_icmp .gt 7, 3) := by decide +kernel
theorem dX12_isNumber_111 : decode cX12_isNumber 111 = .ok (.iconst 1, 1) := by decide +kernel
theorem dX12_isNumber_112 : decode cX12_isNumber 112 = .ok (.goto 4, 3) := by decide +kernel
theorem dX12_isNumber_115 : decode cX12_isNumber 115 = .ok (.iconst 0, 1) := by decide +kernel
theorem dX12_isNumber_116 : decode cX12_isNumber 116 = .ok (.ireturn, 1) := by decide +kernel
theorem dX12_isSleeperItem_0 : decode cX12_isSleeperItem 0 = .ok (.aload_n 0, 1) := by decide +kernel
theorem dX12_isSleeperItem_1 : decode cX12_isSleeperItem 1 = .ok (.iconst 0, 1) := by decide +kernel
theorem dX12_isSleeperItem_2 : decode cX12_isSleeperItem 2 = .ok (.iconst 3, 1) := by decide +kernel
theorem dX12_isSleeperItem_3 : decode cX12_isSleeperItem 3 = .ok (.invokevirtual 90, 3) := by decide +kernel
theorem dX12_isSleeperItem_6 : decode cX12_isSleeperItem 6 = .ok (.ifCond .ne 5, 3) := by decide +kernel
theorem dX12_isSleeperItem_9 : decode cX12_isSleeperItem 9 = .ok (.iconst 0, 1) := by decide +kernel
theorem dX12_isSleeperItem_10 : decode cX12_isSleeperItem 10 = .ok (.ireturn, 1) := by decide +kernel
theorem dX12_isSleeperItem_11 : decode cX12_isSleeperItem 11 = .ok (.aload_n 0, 1) := by decide +kernel
theorem dX12_isSleeperItem_12 : decode cX12_isSleeperItem 12 = .ok (.getfield 87, 3) := by decide +kernel
theorem dX12_isSleeperItem_15 : decode cX12_isSleeperItem 15 = .ok (.istore_n 1, 1) := by decide +kernel
theorem dX12_isSleeperItem_16 : decode cX12_isSleeperItem 16 = .ok (.aload_n 0, 1) := by decide +kernel
theorem dX12_isSleeperItem_17 : decode cX12_isSleeperItem 17 = .ok (.bipush 58, 2) := by decide +kernel
theorem dX12_isSleeperItem_19 : decode cX12_isSleeperItem 19 = .ok (.invokevirtual 94, 3) := by decide +kernel
theorem dX12_isSleeperItem_22 : decode cX12_isSleeperItem 22 = .ok (.ifCond .eq 10, 3) := by decide +kernel
theorem dX12_isSleeperItem_25 : decode cX12_isSleeperItem 25 = .ok (.aload_n 0, 1) := by decide +kernel
theorem dX12_isSleeperItem_26 : decode cX12_isSleeperItem 26 = .ok (.invokevirtual 97, 3) := by decide +kernel
theorem dX12_isSleeperItem_29 : decode cX12_isSleeperItem 29 = .ok (.ifCond .ne 5, 3) := by decide +kernel
theorem dX12_isSleeperItem_32 : decode cX12_isSleeperItem 32 = .ok (.iconst 0, 1) := by decide +kernel
theorem dX12_isSleeperItem_33 : decode cX12_isSleeperItem 33 = .ok (.ireturn, 1) := by decide +kernel
theorem dX12_isSleeperItem_34 : decode cX12_isSleeperItem 34 = .ok (.aload_n 0, 1) := by decide +kernel
theorem dX12_isSleeperItem_35 : decode cX12_isSleeperItem 35 = .ok (.getfield 29, 3) := by decide +kernel
theorem dX12_isSleeperItem_38 : decode cX12_isSleeperItem 38 = .ok (.iload_n 1, 1) := by decide +kernel
theorem dX12_isSleeperItem_39 : decode cX12_isSleeperItem 39 = .ok (.aload_n 0, 1) := by decide +kernel
theorem dX12_isSleeperItem_40 : decode cX12_isSleeperItem 40 = .ok (.getfield 87, 3) := by decide +kernel
theorem dX12_isSleeperItem_43 : decode cX12_isSleeperItem 43 = .ok (.invokestatic 47, 3) := by decide +kernel
theorem dX12_isSleeperItem_46 : decode cX12_isSleeperItem 46 = .ok (.pop, 1) := by decide +kernel
theorem dX12_isSleeperItem_47 : decode cX12_isSleeperItem 47 = .ok (.iconst 1, 1) := by decide +kernel
theorem dX12_isSleeperItem_48 : decode cX12_isSleeperItem 48 = .ok (.ireturn, 1) := by decide +kernel
theorem dX12_kindBy_0 : decode cX12_kindBy 0 = .ok (.iload_n 0, 1) := by decide +kernel
theorem dX12_kindBy_1 : decode cX12_kindBy 1 = .ok (.bipush 112, 2) := by decide +kernel
theorem dX12_kindBy_3 : decode cX12_kindBy 3 = .ok (.if_icmp .ne 7, 3) := by decide +kernel
theorem dX12_kindBy_6 : decode cX12_kindBy 6 = .ok (.iconst 0, 1) := by decide +kernel
theorem dX12_kindBy_7 : decode cX12_kindBy 7 = .ok (.goto 44, 3) := by decide +kernel
theorem dX12_kindBy_10 : decode cX12_kindBy 10 = .ok (.iload_n 0, 1) := by decide +kernel
theorem dX12_kindBy_11 : decode cX12_kindBy 11 = .ok (.bipush 102, 2) := by decide +kernel
theorem dX12_kindBy_13 : decode cX12_kindBy 13 = .ok (.if_icmp .ne 7, 3) := by decide +kernel
theorem dX12_kindBy_16 : decode cX12_kindBy 16 = .ok (.iconst 1, 1) := by decide +kernel
theorem dX12_kindBy_17 : decode cX12_kindBy 17 = .ok (.goto 34, 3) := by decide +kernel
theorem dX12_kindBy_20 : decode cX12_kindBy 20 = .ok (.iload_n 0, 1) := by decide +kernel
theorem dX12_kindBy_21 : decode cX12_kindBy 21 = .ok (.bipush 99, 2) := by decide +kernel
theorem dX12_kindBy_23 : decode cX12_kindBy 23 = .ok (.if_icmp .ne 7, 3) := by decide +kernel
theorem dX12_kindBy_26 : decode cX12_kindBy 26 = .ok (.iconst 2, 1) := by decide +kernel
theorem dX12_kindBy_27 : decode cX12_kindBy 27 = .ok (.goto 24, 3) := by decide +kernel
theorem dX12_kindBy_30 : decode cX12_kindBy 30 = .ok (.iload_n 0, 1) := by decide +kernel
theorem dX12_kindBy_31 : decode cX12_kindBy 31 = .ok (.bipush 116, 2) := by decide +kernel
theorem dX12_kindBy_33 : decode cX12_kindBy 33 = .ok (.if_icmp .ne 7, 3) := by decide +kernel
theorem dX12_kindBy_36 : decode cX12_kindBy 36 = .ok (.iconst 3, 1) := by decide +kernel
theorem dX12_kindBy_37 : decode cX12_kindBy 37 = .ok (.goto 14, 3) := by decide +kernel
theorem dX12_kindBy_40 : decode cX12_kindBy 40 = .ok (.iload_n 0, 1) := by decide +kernel
theorem dX12_kindBy_41 : decode cX12_kindBy 41 = .ok (.bipush 104, 2) := by decide +kernel
theorem dX12_kindBy_43 : decode cX12_kindBy 43 = .ok (.if_icmp .ne 7, 3) := by decide +kernel
theorem dX12_kindBy_46 : decode cX12_kindBy 46 = .ok (.iconst 4, 1) := by decide +kernel
theorem dX12_kindBy_47 : decode cX12_kindBy 47 = .ok (.goto 4, 3) := by decide +kernel
theorem dX12_kindBy_50 : decode cX12_kindBy 50 = .ok (.iconst (-1), 1) := by decide +kernel
theorem dX12_kindBy_51 : decode cX12_kindBy 51 = .ok (.ireturn, 1) := by decide +kernel
theorem dX12_isThingItem_0 : decode cX12_isThingItem 0 = .ok (.aload_n 0, 1) := by decide +kernel
theorem dX12_isThingItem_1 : decode cX12_isThingItem 1 = .ok (.invokevirtual 83, 3) := by decide +kernel
theorem dX12_isThingItem_4 : decode cX12_isThingItem 4 = .ok (.invokestatic 101, 3) := by decide +kernel
theorem dX12_isThingItem_7 : decode cX12_isThingItem 7 = .ok (.istore_n 1, 1) := by decide +kernel
theorem dX12_isThingItem_8 : decode cX12_isThingItem 8 = .ok (.iload_n 1, 1) := by decide +kernel
theorem dX12_isThingItem_9 : decode cX12_isThingItem 9 = .ok (.ifCond .ge 5, 3) := by decide +kernel
theorem dX12_isThingItem_12 : decode cX12_isThingItem 12 = .ok (.iconst 0, 1) := by decide +kernel
theorem dX12_isThingItem_13 : decode cX12_isThingItem 13 = .ok (.ireturn, 1) := by decide +kernel
theorem dX12_isThingItem_14 : decode cX12_isThingItem 14 = .ok (.aload_n 0, 1) := by decide +kernel
theorem dX12_isThingItem_15 : decode cX12_isThingItem 15 = .ok (.dup, 1) := by decide +kernel
theorem dX12_isThingItem_16 : decode cX12_isThingItem 16 = .ok (.getfield 80, 3) := by decide +kernel
theorem dX12_isThingItem_19 : decode cX12_isThingItem 19 = .ok (.iconst 1, 1) := by decide +kernel
theorem dX12_isThingItem_20 : decode cX12_isThingItem 20 = .ok (.iadd, 1) := by decide +kernel
theorem dX12_isThingItem_21 : decode cX12_isThingItem 21 = .ok (.putfield 80, 3) := by decide +kernel
theorem dX12_isThingItem_24 : decode cX12_isThingItem 24 = .ok (.aload_n 0, 1) := by decide +kernel
theorem dX12_isThingItem_25 : decode cX12_isThingItem 25 = .ok (.iconst 0, 1) := by decide +kernel
theorem dX12_isThingItem_26 : decode cX12_isThingItem 26 = .ok (.bipush 9, 2) := by decide +kernel
theorem dX12_isThingItem_28 : decode cX12_isThingItem 28 = .ok (.invokevirtual 90, 3) := by decide +kernel
theorem dX12_isThingItem_31 : decode cX12_isThingItem 31 = .ok (.ifCond .ne 5, 3) := by decide +kernel
theorem dX12_isThingItem_34 : decode cX12_isThingItem 34 = .ok (.iconst 0, 1) := by decide +kernel
theorem dX12_isThingItem_35 : decode cX12_isThingItem 35 = .ok (.ireturn, 1) := by decide +kernel
theorem dX12_isThingItem_36 : decode cX12_isThingItem 36 = .ok (.aload_n 0, 1) := by decide +kernel
theorem dX12_isThingItem_37 : decode cX12_isThingItem 37 = .ok (.getfield 87, 3) := by decide +kernel
theorem dX12_isThingItem_40 : decode cX12_isThingItem 40 = .ok (.istore_n 2, 1) := by decide +kernel
theorem dX12_isThingItem_41 : decode cX12_isThingItem 41 = .ok (.aload_n 0, 1) := by decide +kernel
theorem dX12_isThingItem_42 : decode cX12_isThingItem 42 = .ok (.iconst 1, 1) := by decide +kernel
theorem dX12_isThingItem_43 : decode cX12_isThingItem 43 = .ok (.bipush 9, 2) := by decide +kernel
theorem dX12_isThingItem_45 : decode cX12_isThingItem 45 = .ok (.invokevirtual 90, 3) := by decide +kernel
theorem dX12_isThingItem_48 : decode cX12_isThingItem 48 = .ok (.ifCond .ne 5, 3) := by decide +kernel
theorem dX12_isThingItem_51 : decode cX12_isThingItem 51 = .ok (.iconst 0, 1) := by decide +kernel
theorem dX12_isThingItem_52 : decode cX12_isThingItem 52 = .ok (.ireturn, 1) := by decide +kernel
theorem dX12_isThingItem_53 : decode cX12_isThingItem 53 = .ok (.aload_n 0, 1) := by decide +kernel
theorem dX12_isThingItem_54 : decode cX12_isThingItem 54 = .ok (.getfield 87, 3) := by decide +kernel
theorem dX12_isThingItem_57 : decode cX12_isThingItem 57 = .ok (.istore_n 3, 1) := by decide +kernel
theorem dX12_isThingItem_58 : decode cX12_isThingItem 58 = .ok (.aload_n 0, 1) := by decide +kernel
theorem dX12_isThingItem_59 : decode cX12_isThingItem 59 = .ok (.iconst 0, 1) := by decide +kernel
theorem dX12_isThingItem_60 : decode cX12_isThingItem 60 = .ok (.iconst 3, 1) := by decide +kernel
theorem dX12_isThingItem_61 : decode cX12_isThingItem 61 = .ok (.invokevirtual 90, 3) := by decide +kernel
theorem dX12_isThingItem_64 : decode cX12_isThingItem 64 = .ok (.ifCond .ne 5, 3) := by decide +kernel
theorem dX12_isThingItem_67 : decode cX12_isThingItem 67 = .ok (.iconst 0, 1) := by decide +kernel
theorem dX12_isThingItem_68 : decode cX12_isThingItem 68 = .ok (.ireturn, 1) := by decide +kernel
theorem dX12_isThingItem_69 : decode cX12_isThingItem 69 = .ok (.aload_n 0, 1) := by decide +kernel
theorem dX12_isThingItem_70 : decode cX12_isThingItem 70 = .ok (.getfield 29, 3) := by decide +kernel
theorem dX12_isThingItem_73 : decode cX12_isThingItem 73 = .ok (.iload_n 1, 1) := by decide +kernel
theorem dX12_isThingItem_74 : decode cX12_isThingItem 74 = .ok (.iload_n 2, 1) := by decide +kernel
theorem dX12_isThingItem_75 : decode cX12_isThingItem 75 = .ok (.iload_n 3, 1) := by decide +kernel
theorem dX12_isThingItem_76 : decode cX12_isThingItem 76 = .ok (.aload_n 0, 1) := by decide +kernel
theorem dX12_isThingItem_77 : decode cX12_isThingItem 77 = .ok (.getfield 87, 3) := by decide +kernel
theorem dX12_isThingItem_80 : decode cX12_isThingItem 80 = .ok (.invokestatic 51, 3) := by decide +kernel
theorem dX12_isThingItem_83 : decode cX12_isThingItem 83 = .ok (.pop, 1) := by decide +kernel
theorem dX12_isThingItem_84 : decode cX12_isThingItem 84 = .ok (.iconst 1, 1) := by decide +kernel
theorem dX12_isThingItem_85 : decode cX12_isThingItem 85 = .ok (.ireturn, 1) := by decide +kernel
theorem dX12_isHouse_0 : decode cX12_isHouse 0 = .ok (.iconst 1, 1) := by decide +kernel
theorem dX12_isHouse_1 : decode cX12_isHouse 1 = .ok (.istore_n 1, 1) := by decide +kernel
theorem dX12_isHouse_2 : decode cX12_isHouse 2 = .ok (.iload_n 1, 1) := by decide +kernel
theorem dX12_isHouse_3 : decode cX12_isHouse 3 = .ok (.ifCond .eq 41, 3) := by decide +kernel
theorem dX12_isHouse_6 : decode cX12_isHouse 6 = .ok (.aload_n 0, 1) := by decide +kernel
theorem dX12_isHouse_7 : decode cX12_isHouse 7 = .ok (.invokevirtual 104, 3) := by decide +kernel
theorem dX12_isHouse_10 : decode cX12_isHouse 10 = .ok (.ifCond .ne 5, 3) := by decide +kernel
theorem dX12_isHouse_13 : decode cX12_isHouse 13 = .ok (.iconst 0, 1) := by decide +kernel
theorem dX12_isHouse_14 : decode cX12_isHouse 14 = .ok (.ireturn, 1) := by decide +kernel
theorem dX12_isHouse_15 : decode cX12_isHouse 15 = .ok (.aload_n 0, 1) := by decide +kernel
theorem dX12_isHouse_16 : decode cX12_isHouse 16 = .ok (.getfield 29, 3) := by decide +kernel
theorem dX12_isHouse_19 : decode cX12_isHouse 19 = .ok (.bipush 36, 2) := by decide +kernel
theorem dX12_isHouse_21 : decode cX12_isHouse 21 = .ok (.iaload, 1) := by decide +kernel
theorem dX12_isHouse_22 : decode cX12_isHouse 22 = .ok (.iconst 5, 1) := by decide +kernel
theorem dX12_isHouse_23 : decode cX12_isHouse 23 = .ok (.if_icmp .ge 16, 3) := by decide +kernel
theorem dX12_isHouse_26 : decode cX12_isHouse 26 = .ok (.aload_n 0, 1) := by decide +kernel
theorem dX12_isHouse_27 : decode cX12_isHouse 27 = .ok (.bipush 44, 2) := by decide +kernel
theorem dX12_isHouse_29 : decode cX12_isHouse 29 = .ok (.invokevirtual 94, 3) := by decide +kernel
theorem dX12_isHouse_32 : decode cX12_isHouse 32 = .ok (.ifCond .eq 7, 3) := by decide +kernel
theorem dX12_isHouse_35 : decode cX12_isHouse 35 = .ok (.iconst 1, 1) := by decide +kernel
theorem dX12_isHouse_36 : decode cX12_isHouse 36 = .ok (.goto 4, 3) := by decide +kernel
theorem dX12_isHouse_39 : decode cX12_isHouse 39 = .ok (.iconst 0, 1) := by decide +kernel
theorem dX12_isHouse_40 : decode cX12_isHouse 40 = .ok (.istore_n 1, 1) := by decide +kernel
theorem dX12_isHouse_41 : decode cX12_isHouse 41 = .ok (.goto (-39), 3) := by decide +kernel
theorem dX12_isHouse_44 : decode cX12_isHouse 44 = .ok (.aload_n 0, 1) := by decide +kernel
theorem dX12_isHouse_45 : decode cX12_isHouse 45 = .ok (.bipush 59, 2) := by decide +kernel
theorem dX12_isHouse_47 : decode cX12_isHouse 47 = .ok (.invokevirtual 94, 3) := by decide +kernel
theorem dX12_isHouse_50 : decode cX12_isHouse 50 = .ok (.istore_n 1, 1) := by decide +kernel
theorem dX12_isHouse_51 : decode cX12_isHouse 51 = .ok (.iload_n 1, 1) := by decide +kernel
theorem dX12_isHouse_52 : decode cX12_isHouse 52 = .ok (.ifCond .eq 42, 3) := by decide +kernel
theorem dX12_isHouse_55 : decode cX12_isHouse 55 = .ok (.aload_n 0, 1) := by decide +kernel
theorem dX12_isHouse_56 : decode cX12_isHouse 56 = .ok (.invokevirtual 107, 3) := by decide +kernel
theorem dX12_isHouse_59 : decode cX12_isHouse 59 = .ok (.ifCond .ne 5, 3) := by decide +kernel
theorem dX12_isHouse_62 : decode cX12_isHouse 62 = .ok (.iconst 0, 1) := by decide +kernel
theorem dX12_isHouse_63 : decode cX12_isHouse 63 = .ok (.ireturn, 1) := by decide +kernel
theorem dX12_isHouse_64 : decode cX12_isHouse 64 = .ok (.aload_n 0, 1) := by decide +kernel
theorem dX12_isHouse_65 : decode cX12_isHouse 65 = .ok (.getfield 29, 3) := by decide +kernel
theorem dX12_isHouse_68 : decode cX12_isHouse 68 = .ok (.bipush 47, 2) := by decide +kernel
theorem dX12_isHouse_70 : decode cX12_isHouse 70 = .ok (.iaload, 1) := by decide +kernel
theorem dX12_isHouse_71 : decode cX12_isHouse 71 = .ok (.bipush 8, 2) := by decide +kernel
theorem dX12_isHouse_73 : decode cX12_isHouse 73 = .ok (.if_icmp .ge 16, 3) := by decide +kernel
theorem dX12_isHouse_76 : decode cX12_isHouse 76 = .ok (.aload_n 0, 1) := by decide +kernel
theorem dX12_isHouse_77 : decode cX12_isHouse 77 = .ok (.bipush 44, 2) := by decide +kernel
theorem dX12_isHouse_79 : decode cX12_isHouse 79 = .ok (.invokevirtual 94, 3) := by decide +kernel
theorem dX12_isHouse_82 : decode cX12_isHouse 82 = .ok (.ifCond .eq 7, 3) := by decide +kernel
theorem dX12_isHouse_85 : decode cX12_isHouse 85 = .ok (.iconst 1, 1) := by decide +kernel
theorem dX12_isHouse_86 : decode cX12_isHouse 86 = .ok (.goto 4, 3) := by decide +kernel
theorem dX12_isHouse_89 : decode cX12_isHouse 89 = .ok (.iconst 0, 1) := by decide +kernel
theorem dX12_isHouse_90 : decode cX12_isHouse 90 = .ok (.istore_n 1, 1) := by decide +kernel
theorem dX12_isHouse_91 : decode cX12_isHouse 91 = .ok (.goto (-40), 3) := by decide +kernel
theorem dX12_isHouse_94 : decode cX12_isHouse 94 = .ok (.aload_n 0, 1) := by decide +kernel
theorem dX12_isHouse_95 : decode cX12_isHouse 95 = .ok (.invokevirtual 83, 3) := by decide +kernel
theorem dX12_isHouse_98 : decode cX12_isHouse 98 = .ok (.ifCond .ne 7, 3) := by decide +kernel
theorem dX12_isHouse_101 : decode cX12_isHouse 101 = .ok (.iconst 1, 1) := by decide +kernel
theorem dX12_isHouse_102 : decode cX12_isHouse 102 = .ok (.goto 4, 3) := by decide +kernel
theorem dX12_isHouse_105 : decode cX12_isHouse 105 = .ok (.iconst 0, 1) := by decide +kernel
theorem dX12_isHouse_106 : decode cX12_isHouse 106 = .ok (.ireturn, 1) := by decide +kernel
theorem dX12_house_0 : decode cX12_house 0 = .ok (.iconst 0, 1) := by decide +kernel
theorem dX12_house_1 : decode cX12_house 1 = .ok (.istore_n 1, 1) := by decide +kernel
theorem dX12_house_2 : decode cX12_house 2 = .ok (.iload_n 1, 1) := by decide +kernel
theorem dX12_house_3 : decode cX12_house 3 = .ok (.sipush 353, 3) := by decide +kernel
theorem dX12_house_6 : decode cX12_house 6 = .ok (.if_icmp .ge 16, 3) := by decide +kernel
theorem dX12_house_9 : decode cX12_house 9 = .ok (.aload_n 0, 1) := by decide +kernel
theorem dX12_house_10 : decode cX12_house 10 = .ok (.getfield 29, 3) := by decide +kernel
theorem dX12_house_13 : decode cX12_house 13 = .ok (.iload_n 1, 1) := by decide +kernel
theorem dX12_house_14 : decode cX12_house 14 = .ok (.iconst 0, 1) := by decide +kernel
theorem dX12_house_15 : decode cX12_house 15 = .ok (.iastore, 1) := by decide +kernel
theorem dX12_house_16 : decode cX12_house 16 = .ok (.iinc 1 1, 3) := by decide +kernel
theorem dX12_house_19 : decode cX12_house 19 = .ok (.goto (-17), 3) := by decide +kernel
theorem dX12_house_22 : decode cX12_house 22 = .ok (.aload_n 0, 1) := by decide +kernel
theorem dX12_house_23 : decode cX12_house 23 = .ok (.getfield 29, 3) := by decide +kernel
theorem dX12_house_26 : decode cX12_house 26 = .ok (.iconst 1, 1) := by decide +kernel
theorem dX12_house_27 : decode cX12_house 27 = .ok (.aload_n 0, 1) := by decide +kernel
theorem dX12_house_28 : decode cX12_house 28 = .ok (.getfield 23, 3) := by decide +kernel
theorem dX12_house_31 : decode cX12_house 31 = .ok (.iconst 1, 1) := by decide +kernel
theorem dX12_house_32 : decode cX12_house 32 = .ok (.iaload, 1) := by decide +kernel
theorem dX12_house_33 : decode cX12_house 33 = .ok (.iastore, 1) := by decide +kernel
theorem dX12_house_34 : decode cX12_house 34 = .ok (.aload_n 0, 1) := by decide +kernel
theorem dX12_house_35 : decode cX12_house 35 = .ok (.iconst 0, 1) := by decide +kernel
theorem dX12_house_36 : decode cX12_house 36 = .ok (.putfield 80, 3) := by decide +kernel
theorem dX12_house_39 : decode cX12_house 39 = .ok (.aload_n 0, 1) := by decide +kernel
theorem dX12_house_40 : decode cX12_house 40 = .ok (.invokevirtual 110, 3) := by decide +kernel
theorem dX12_house_43 : decode cX12_house 43 = .ok (.istore_n 1, 1) := by decide +kernel
theorem dX12_house_44 : decode cX12_house 44 = .ok (.aload_n 0, 1) := by decide +kernel
theorem dX12_house_45 : decode cX12_house 45 = .ok (.iconst 0, 1) := by decide +kernel
theorem dX12_house_46 : decode cX12_house 46 = .ok (.putfield 76, 3) := by decide +kernel
theorem dX12_house_49 : decode cX12_house 49 = .ok (.iload_n 1, 1) := by decide +kernel
theorem dX12_house_50 : decode cX12_house 50 = .ok (.ifCond .ne 11, 3) := by decide +kernel
theorem dX12_house_53 : decode cX12_house 53 = .ok (.bipush (-20), 2) := by decide +kernel
theorem dX12_house_55 : decode cX12_house 55 = .ok (.aload_n 0, 1) := by decide +kernel
theorem dX12_house_56 : decode cX12_house 56 = .ok (.getfield 80, 3) := by decide +kernel
theorem dX12_house_59 : decode cX12_house 59 = .ok (.isub, 1) := by decide +kernel
theorem dX12_house_60 : decode cX12_house 60 = .ok (.ireturn, 1) := by decide +kernel
theorem dX12_house_61 : decode cX12_house 61 = .ok (.aload_n 0, 1) := by decide +kernel
theorem dX12_house_62 : decode cX12_house 62 = .ok (.getfield 29, 3) := by decide +kernel
theorem dX12_house_65 : decode cX12_house 65 = .ok (.iconst 0, 1) := by decide +kernel
theorem dX12_house_66 : decode cX12_house 66 = .ok (.aload_n 0, 1) := by decide +kernel
theorem dX12_house_67 : decode cX12_house 67 = .ok (.getfield 23, 3) := by decide +kernel
theorem dX12_house_70 : decode cX12_house 70 = .ok (.iconst 0, 1) := by decide +kernel
theorem dX12_house_71 : decode cX12_house 71 = .ok (.sipush 353, 3) := by decide +kernel
theorem dX12_house_74 : decode cX12_house 74 = .ok (.invokestatic 113, 3) := by decide +kernel
theorem dX12_house_77 : decode cX12_house 77 = .ok (.aload_n 0, 1) := by decide +kernel
theorem dX12_house_78 : decode cX12_house 78 = .ok (.getfield 23, 3) := by decide +kernel
theorem dX12_house_81 : decode cX12_house 81 = .ok (.bipush 36, 2) := by decide +kernel
theorem dX12_house_83 : decode cX12_house 83 = .ok (.iaload, 1) := by decide +kernel
theorem dX12_house_84 : decode cX12_house 84 = .ok (.ireturn, 1) := by decide +kernel
theorem dX12_count_0 : decode cX12_count 0 = .ok (.iconst 0, 1) := by decide +kernel
theorem dX12_count_1 : decode cX12_count 1 = .ok (.istore_n 2, 1) := by decide +kernel
theorem dX12_count_2 : decode cX12_count 2 = .ok (.iload_n 1, 1) := by decide +kernel
theorem dX12_count_3 : decode cX12_count 3 = .ok (.tableswitch 229 0 8 #[49, 57, 65, 72, 105, 137, 180, 213, 221], 49) := by decide +kernel
theorem dX12_count_52 : decode cX12_count 52 = .ok (.aload_n 0, 1) := by decide +kernel
theorem dX12_count_53 : decode cX12_count 53 = .ok (.getfield 23, 3) := by decide +kernel
theorem dX12_count_56 : decode cX12_count 56 = .ok (.bipush 36, 2) := by decide +kernel
theorem dX12_count_58 : decode cX12_count 58 = .ok (.iaload, 1) := by decide +kernel
theorem dX12_count_59 : decode cX12_count 59 = .ok (.ireturn, 1) := by decide +kernel
theorem dX12_count_60 : decode cX12_count 60 = .ok (.aload_n 0, 1) := by decide +kernel
theorem dX12_count_61 : decode cX12_count 61 = .ok (.getfield 23, 3) := by decide +kernel
theorem dX12_count_64 : decode cX12_count 64 = .ok (.bipush 47, 2) := by decide +kernel
theorem dX12_count_66 : decode cX12_count 66 = .ok (.iaload, 1) := by decide +kernel
theorem dX12_count_67 : decode cX12_count 67 = .ok (.ireturn, 1) := by decide +kernel
theorem dX12_count_68 : decode cX12_count 68 = .ok (.aload_n 0, 1) := by decide +kernel
theorem dX12_count_69 : decode cX12_count 69 = .ok (.getfield 23, 3) := by decide +kernel
theorem dX12_count_72 : decode cX12_count 72 = .ok (.iconst 0, 1) := by decide +kernel
theorem dX12_count_73 : decode cX12_count 73 = .ok (.iaload, 1) := by decide +kernel
theorem dX12_count_74 : decode cX12_count 74 = .ok (.ireturn, 1) := by decide +kernel
theorem dX12_count_75 : decode cX12_count 75 = .ok (.iconst 0, 1) := by decide +kernel
theorem dX12_count_76 : decode cX12_count 76 = .ok (.istore_n 3, 1) := by decide +kernel
theorem dX12_count_77 : decode cX12_count 77 = .ok (.iload_n 3, 1) := by decide +kernel
theorem dX12_count_78 : decode cX12_count 78 = .ok (.aload_n 0, 1) := by decide +kernel
theorem dX12_count_79 : decode cX12_count 79 = .ok (.getfield 23, 3) := by decide +kernel
theorem dX12_count_82 : decode cX12_count 82 = .ok (.bipush 47, 2) := by decide +kernel
theorem dX12_count_84 : decode cX12_count 84 = .ok (.iaload, 1) := by decide +kernel
theorem dX12_count_85 : decode cX12_count 85 = .ok (.if_icmp .ge 21, 3) := by decide +kernel
theorem dX12_count_88 : decode cX12_count 88 = .ok (.iload_n 2, 1) := by decide +kernel
theorem dX12_count_89 : decode cX12_count 89 = .ok (.aload_n 0, 1) := by decide +kernel
theorem dX12_count_90 : decode cX12_count 90 = .ok (.getfield 23, 3) := by decide +kernel
theorem dX12_count_93 : decode cX12_count 93 = .ok (.bipush 18, 2) := by decide +kernel
theorem dX12_count_95 : decode cX12_count 95 = .ok (.iload_n 3, 1) := by decide +kernel
theorem dX12_count_96 : decode cX12_count 96 = .ok (.iadd, 1) := by decide +kernel
theorem dX12_count_97 : decode cX12_count 97 = .ok (.iaload, 1) := by decide +kernel
theorem dX12_count_98 : decode cX12_count 98 = .ok (.iadd, 1) := by decide +kernel
theorem dX12_count_99 : decode cX12_count 99 = .ok (.istore_n 2, 1) := by decide +kernel
theorem dX12_count_100 : decode cX12_count 100 = .ok (.iinc 3 1, 3) := by decide +kernel
theorem dX12_count_103 : decode cX12_count 103 = .ok (.goto (-26), 3) := by decide +kernel
theorem dX12_count_106 : decode cX12_count 106 = .ok (.iload_n 2, 1) := by decide +kernel
theorem dX12_count_107 : decode cX12_count 107 = .ok (.ireturn, 1) := by decide +kernel
theorem dX12_count_108 : decode cX12_count 108 = .ok (.iconst 0, 1) := by decide +kernel
theorem dX12_count_109 : decode cX12_count 109 = .ok (.istore_n 3, 1) := by decide +kernel
theorem dX12_count_110 : decode cX12_count 110 = .ok (.iload_n 3, 1) := by decide +kernel
theorem dX12_count_111 : decode cX12_count 111 = .ok (.aload_n 0, 1) := by decide +kernel
theorem dX12_count_112 : decode cX12_count 112 = .ok (.getfield 23, 3) := by decide +kernel
theorem dX12_count_115 : decode cX12_count 115 = .ok (.bipush 47, 2) := by decide +kernel
theorem dX12_count_117 : decode cX12_count 117 = .ok (.iaload, 1) := by decide +kernel
theorem dX12_count_118 : decode cX12_count 118 = .ok (.if_icmp .ge 20, 3) := by decide +kernel
theorem dX12_count_121 : decode cX12_count 121 = .ok (.iload_n 2, 1) := by decide +kernel
theorem dX12_count_122 : decode cX12_count 122 = .ok (.aload_n 0, 1) := by decide +kernel
theorem dX12_count_123 : decode cX12_count 123 = .ok (.getfield 23, 3) := by decide +kernel
theorem dX12_count_126 : decode cX12_count 126 = .ok (.iload_n 3, 1) := by decide +kernel
theorem dX12_count_127 : decode cX12_count 127 = .ok (.invokestatic 59, 3) := by decide +kernel
theorem dX12_count_130 : decode cX12_count 130 = .ok (.iadd, 1) := by decide +kernel
theorem dX12_count_131 : decode cX12_count 131 = .ok (.istore_n 2, 1) := by decide +kernel
theorem dX12_count_132 : decode cX12_count 132 = .ok (.iinc 3 1, 3) := by decide +kernel
theorem dX12_count_135 : decode cX12_count 135 = .ok (.goto (-25), 3) := by decide +kernel
theorem dX12_count_138 : decode cX12_count 138 = .ok (.iload_n 2, 1) := by decide +kernel
theorem dX12_count_139 : decode cX12_count 139 = .ok (.ireturn, 1) := by decide +kernel
theorem dX12_count_140 : decode cX12_count 140 = .ok (.iconst 0, 1) := by decide +kernel
theorem dX12_count_141 : decode cX12_count 141 = .ok (.istore_n 3, 1) := by decide +kernel
theorem dX12_count_142 : decode cX12_count 142 = .ok (.iload_n 3, 1) := by decide +kernel
theorem dX12_count_143 : decode cX12_count 143 = .ok (.aload_n 0, 1) := by decide +kernel
theorem dX12_count_144 : decode cX12_count 144 = .ok (.getfield 23, 3) := by decide +kernel
theorem dX12_count_147 : decode cX12_count 147 = .ok (.bipush 47, 2) := by decide +kernel
theorem dX12_count_149 : decode cX12_count 149 = .ok (.iaload, 1) := by decide +kernel
theorem dX12_count_150 : decode cX12_count 150 = .ok (.if_icmp .ge 31, 3) := by decide +kernel
theorem dX12_count_153 : decode cX12_count 153 = .ok (.iload_n 2, 1) := by decide +kernel
theorem dX12_count_154 : decode cX12_count 154 = .ok (.aload_n 0, 1) := by decide +kernel
theorem dX12_count_155 : decode cX12_count 155 = .ok (.getfield 23, 3) := by decide +kernel
theorem dX12_count_158 : decode cX12_count 158 = .ok (.bipush 18, 2) := by decide +kernel
theorem dX12_count_160 : decode cX12_count 160 = .ok (.iload_n 3, 1) := by decide +kernel
theorem dX12_count_161 : decode cX12_count 161 = .ok (.iadd, 1) := by decide +kernel
theorem dX12_count_162 : decode cX12_count 162 = .ok (.iaload, 1) := by decide +kernel
theorem dX12_count_163 : decode cX12_count 163 = .ok (.ifCond .ne 9, 3) := by decide +kernel
theorem dX12_count_166 : decode cX12_count 166 = .ok (.iconst 1, 1) := by decide +kernel
theorem dX12_count_167 : decode cX12_count 167 = .ok (.iload_n 3, 1) := by decide +kernel
theorem dX12_count_168 : decode cX12_count 168 = .ok (.ishl, 1) := by decide +kernel
theorem dX12_count_169 : decode cX12_count 169 = .ok (.goto 4, 3) := by decide +kernel
theorem dX12_count_172 : decode cX12_count 172 = .ok (.iconst 0, 1) := by decide +kernel
theorem dX12_count_173 : decode cX12_count 173 = .ok (.iadd, 1) := by decide +kernel
theorem dX12_count_174 : decode cX12_count 174 = .ok (.istore_n 2, 1) := by decide +kernel
theorem dX12_count_175 : decode cX12_count 175 = .ok (.iinc 3 1, 3) := by decide +kernel
theorem dX12_count_178 : decode cX12_count 178 = .ok (.goto (-36), 3) := by decide +kernel
theorem dX12_count_181 : decode cX12_count 181 = .ok (.iload_n 2, 1) := by decide +kernel
theorem dX12_count_182 : decode cX12_count 182 = .ok (.ireturn, 1) := by decide +kernel
theorem dX12_count_183 : decode cX12_count 183 = .ok (.iconst 0, 1) := by decide +kernel
theorem dX12_count_184 : decode cX12_count 184 = .ok (.istore_n 3, 1) := by decide +kernel
theorem dX12_count_185 : decode cX12_count 185 = .ok (.iload_n 3, 1) := by decide +kernel
theorem dX12_count_186 : decode cX12_count 186 = .ok (.aload_n 0, 1) := by decide +kernel
theorem dX12_count_187 : decode cX12_count 187 = .ok (.getfield 23, 3) := by decide +kernel
theorem dX12_count_190 : decode cX12_count 190 = .ok (.bipush 36, 2) := by decide +kernel
theorem dX12_count_192 : decode cX12_count 192 = .ok (.iaload, 1) := by decide +kernel
theorem dX12_count_193 : decode cX12_count 193 = .ok (.if_icmp .ge 21, 3) := by decide +kernel
theorem dX12_count_196 : decode cX12_count 196 = .ok (.iload_n 2, 1) := by decide +kernel
theorem dX12_count_197 : decode cX12_count 197 = .ok (.aload_n 0, 1) := by decide +kernel
theorem dX12_count_198 : decode cX12_count 198 = .ok (.getfield 23, 3) := by decide +kernel
theorem dX12_count_201 : decode cX12_count 201 = .ok (.bipush 26, 2) := by decide +kernel
theorem dX12_count_203 : decode cX12_count 203 = .ok (.iload_n 3, 1) := by decide +kernel
theorem dX12_count_204 : decode cX12_count 204 = .ok (.iadd, 1) := by decide +kernel
theorem dX12_count_205 : decode cX12_count 205 = .ok (.iaload, 1) := by decide +kernel
theorem dX12_count_206 : decode cX12_count 206 = .ok (.iadd, 1) := by decide +kernel
theorem dX12_count_207 : decode cX12_count 207 = .ok (.istore_n 2, 1) := by decide +kernel
theorem dX12_count_208 : decode cX12_count 208 = .ok (.iinc 3 1, 3) := by decide +kernel
theorem dX12_count_211 : decode cX12_count 211 = .ok (.goto (-26), 3) := by decide +kernel
theorem dX12_count_214 : decode cX12_count 214 = .ok (.iload_n 2, 1) := by decide +kernel
theorem dX12_count_215 : decode cX12_count 215 = .ok (.ireturn, 1) := by decide +kernel
theorem dX12_count_216 : decode cX12_count 216 = .ok (.aload_n 0, 1) := by decide +kernel
theorem dX12_count_217 : decode cX12_count 217 = .ok (.getfield 23, 3) := by decide +kernel
theorem dX12_count_220 : decode cX12_count 220 = .ok (.invokestatic 117, 3) := by decide +kernel
theorem dX12_count_223 : decode cX12_count 223 = .ok (.ireturn, 1) := by decide +kernel
theorem dX12_count_224 : decode cX12_count 224 = .ok (.aload_n 0, 1) := by decide +kernel
theorem dX12_count_225 : decode cX12_count 225 = .ok (.getfield 23, 3) := by decide +kernel
theorem dX12_count_228 : decode cX12_count 228 = .ok (.bipush 64, 2) := by decide +kernel
theorem dX12_count_230 : decode cX12_count 230 = .ok (.iaload, 1) := by decide +kernel
theorem dX12_count_231 : decode cX12_count 231 = .ok (.ireturn, 1) := by decide +kernel
theorem dX12_count_232 : decode cX12_count 232 = .ok (.iconst (-1), 1) := by decide +kernel
theorem dX12_count_233 : decode cX12_count 233 = .ok (.ireturn, 1) := by decide +kernel
theorem dX12_wokenIn_0 : decode cX12_wokenIn 0 = .ok (.iconst 0, 1) := by decide +kernel
theorem dX12_wokenIn_1 : decode cX12_wokenIn 1 = .ok (.istore_n 1, 1) := by decide +kernel
theorem dX12_wokenIn_2 : decode cX12_wokenIn 2 = .ok (.iconst 0, 1) := by decide +kernel
theorem dX12_wokenIn_3 : decode cX12_wokenIn 3 = .ok (.istore_n 2, 1) := by decide +kernel
theorem dX12_wokenIn_4 : decode cX12_wokenIn 4 = .ok (.iload_n 2, 1) := by decide +kernel
theorem dX12_wokenIn_5 : decode cX12_wokenIn 5 = .ok (.aload_n 0, 1) := by decide +kernel
theorem dX12_wokenIn_6 : decode cX12_wokenIn 6 = .ok (.bipush 36, 2) := by decide +kernel
theorem dX12_wokenIn_8 : decode cX12_wokenIn 8 = .ok (.iaload, 1) := by decide +kernel
theorem dX12_wokenIn_9 : decode cX12_wokenIn 9 = .ok (.if_icmp .ge 18, 3) := by decide +kernel
theorem dX12_wokenIn_12 : decode cX12_wokenIn 12 = .ok (.iload_n 1, 1) := by decide +kernel
theorem dX12_wokenIn_13 : decode cX12_wokenIn 13 = .ok (.aload_n 0, 1) := by decide +kernel
theorem dX12_wokenIn_14 : decode cX12_wokenIn 14 = .ok (.bipush 31, 2) := by decide +kernel
theorem dX12_wokenIn_16 : decode cX12_wokenIn 16 = .ok (.iload_n 2, 1) := by decide +kernel
theorem dX12_wokenIn_17 : decode cX12_wokenIn 17 = .ok (.iadd, 1) := by decide +kernel
theorem dX12_wokenIn_18 : decode cX12_wokenIn 18 = .ok (.iaload, 1) := by decide +kernel
theorem dX12_wokenIn_19 : decode cX12_wokenIn 19 = .ok (.iadd, 1) := by decide +kernel
theorem dX12_wokenIn_20 : decode cX12_wokenIn 20 = .ok (.istore_n 1, 1) := by decide +kernel
theorem dX12_wokenIn_21 : decode cX12_wokenIn 21 = .ok (.iinc 2 1, 3) := by decide +kernel
theorem dX12_wokenIn_24 : decode cX12_wokenIn 24 = .ok (.goto (-20), 3) := by decide +kernel
theorem dX12_wokenIn_27 : decode cX12_wokenIn 27 = .ok (.iload_n 1, 1) := by decide +kernel
theorem dX12_wokenIn_28 : decode cX12_wokenIn 28 = .ok (.ireturn, 1) := by decide +kernel
theorem dX12_note_0 : decode cX12_note 0 = .ok (.aload_n 0, 1) := by decide +kernel
theorem dX12_note_1 : decode cX12_note 1 = .ok (.getfield 23, 3) := by decide +kernel
theorem dX12_note_4 : decode cX12_note 4 = .ok (.bipush 64, 2) := by decide +kernel
theorem dX12_note_6 : decode cX12_note 6 = .ok (.iaload, 1) := by decide +kernel
theorem dX12_note_7 : decode cX12_note 7 = .ok (.bipush 8, 2) := by decide +kernel
theorem dX12_note_9 : decode cX12_note 9 = .ok (.if_icmp .ne 32, 3) := by decide +kernel
theorem dX12_note_12 : decode cX12_note 12 = .ok (.aload_n 0, 1) := by decide +kernel
theorem dX12_note_13 : decode cX12_note 13 = .ok (.getfield 23, 3) := by decide +kernel
theorem dX12_note_16 : decode cX12_note 16 = .ok (.bipush 101, 2) := by decide +kernel
theorem dX12_note_18 : decode cX12_note 18 = .ok (.aload_n 0, 1) := by decide +kernel
theorem dX12_note_19 : decode cX12_note 19 = .ok (.getfield 23, 3) := by decide +kernel
theorem dX12_note_22 : decode cX12_note 22 = .ok (.bipush 65, 2) := by decide +kernel
theorem dX12_note_24 : decode cX12_note 24 = .ok (.sipush 252, 3) := by decide +kernel
theorem dX12_note_27 : decode cX12_note 27 = .ok (.invokestatic 113, 3) := by decide +kernel
theorem dX12_note_30 : decode cX12_note 30 = .ok (.aload_n 0, 1) := by decide +kernel
theorem dX12_note_31 : decode cX12_note 31 = .ok (.getfield 23, 3) := by decide +kernel
theorem dX12_note_34 : decode cX12_note 34 = .ok (.bipush 64, 2) := by decide +kernel
theorem dX12_note_36 : decode cX12_note 36 = .ok (.dup2, 1) := by decide +kernel
theorem dX12_note_37 : decode cX12_note 37 = .ok (.iaload, 1) := by decide +kernel
theorem dX12_note_38 : decode cX12_note 38 = .ok (.iconst 1, 1) := by decide +kernel
theorem dX12_note_39 : decode cX12_note 39 = .ok (.isub, 1) := by decide +kernel
theorem dX12_note_40 : decode cX12_note 40 = .ok (.iastore, 1) := by decide +kernel
theorem dX12_note_41 : decode cX12_note 41 = .ok (.aload_n 0, 1) := by decide +kernel
theorem dX12_note_42 : decode cX12_note 42 = .ok (.getfield 23, 3) := by decide +kernel
theorem dX12_note_45 : decode cX12_note 45 = .ok (.iconst 0, 1) := by decide +kernel
theorem dX12_note_46 : decode cX12_note 46 = .ok (.aload_n 0, 1) := by decide +kernel
theorem dX12_note_47 : decode cX12_note 47 = .ok (.getfield 23, 3) := by decide +kernel
theorem dX12_note_50 : decode cX12_note 50 = .ok (.bipush 65, 2) := by decide +kernel
theorem dX12_note_52 : decode cX12_note 52 = .ok (.bipush 36, 2) := by decide +kernel
theorem dX12_note_54 : decode cX12_note 54 = .ok (.aload_n 0, 1) := by decide +kernel
theorem dX12_note_55 : decode cX12_note 55 = .ok (.getfield 23, 3) := by decide +kernel
theorem dX12_note_58 : decode cX12_note 58 = .ok (.bipush 64, 2) := by decide +kernel
theorem dX12_note_60 : decode cX12_note 60 = .ok (.iaload, 1) := by decide +kernel
theorem dX12_note_61 : decode cX12_note 61 = .ok (.imul, 1) := by decide +kernel
theorem dX12_note_62 : decode cX12_note 62 = .ok (.iadd, 1) := by decide +kernel
theorem dX12_note_63 : decode cX12_note 63 = .ok (.bipush 36, 2) := by decide +kernel
theorem dX12_note_65 : decode cX12_note 65 = .ok (.invokestatic 113, 3) := by decide +kernel
theorem dX12_note_68 : decode cX12_note 68 = .ok (.aload_n 0, 1) := by decide +kernel
theorem dX12_note_69 : decode cX12_note 69 = .ok (.getfield 23, 3) := by decide +kernel
theorem dX12_note_72 : decode cX12_note 72 = .ok (.bipush 64, 2) := by decide +kernel
theorem dX12_note_74 : decode cX12_note 74 = .ok (.dup2, 1) := by decide +kernel
theorem dX12_note_75 : decode cX12_note 75 = .ok (.iaload, 1) := by decide +kernel
theorem dX12_note_76 : decode cX12_note 76 = .ok (.iconst 1, 1) := by decide +kernel
theorem dX12_note_77 : decode cX12_note 77 = .ok (.iadd, 1) := by decide +kernel
theorem dX12_note_78 : decode cX12_note 78 = .ok (.iastore, 1) := by decide +kernel
theorem dX12_note_79 : decode cX12_note 79 = .ok (.return_, 1) := by decide +kernel
theorem dX12_goBy_0 : decode cX12_goBy 0 = .ok (.iconst 0, 1) := by decide +kernel
theorem dX12_goBy_1 : decode cX12_goBy 1 = .ok (.istore_n 1, 1) := by decide +kernel
theorem dX12_goBy_2 : decode cX12_goBy 2 = .ok (.iload_n 1, 1) := by decide +kernel
theorem dX12_goBy_3 : decode cX12_goBy 3 = .ok (.aload_n 0, 1) := by decide +kernel
theorem dX12_goBy_4 : decode cX12_goBy 4 = .ok (.bipush 36, 2) := by decide +kernel
theorem dX12_goBy_6 : decode cX12_goBy 6 = .ok (.iaload, 1) := by decide +kernel
theorem dX12_goBy_7 : decode cX12_goBy 7 = .ok (.if_icmp .ge 32, 3) := by decide +kernel
theorem dX12_goBy_10 : decode cX12_goBy 10 = .ok (.aload_n 0, 1) := by decide +kernel
theorem dX12_goBy_11 : decode cX12_goBy 11 = .ok (.aload_n 0, 1) := by decide +kernel
theorem dX12_goBy_12 : decode cX12_goBy 12 = .ok (.iload_n 1, 1) := by decide +kernel
theorem dX12_goBy_13 : decode cX12_goBy 13 = .ok (.invokestatic 69, 3) := by decide +kernel
theorem dX12_goBy_16 : decode cX12_goBy 16 = .ok (.ifCond .eq 8, 3) := by decide +kernel
theorem dX12_goBy_19 : decode cX12_goBy 19 = .ok (.bipush 26, 2) := by decide +kernel
theorem dX12_goBy_21 : decode cX12_goBy 21 = .ok (.goto 5, 3) := by decide +kernel
theorem dX12_goBy_24 : decode cX12_goBy 24 = .ok (.bipush 31, 2) := by decide +kernel
theorem dX12_goBy_26 : decode cX12_goBy 26 = .ok (.iload_n 1, 1) := by decide +kernel
theorem dX12_goBy_27 : decode cX12_goBy 27 = .ok (.iadd, 1) := by decide +kernel
theorem dX12_goBy_28 : decode cX12_goBy 28 = .ok (.dup2, 1) := by decide +kernel
theorem dX12_goBy_29 : decode cX12_goBy 29 = .ok (.iaload, 1) := by decide +kernel
theorem dX12_goBy_30 : decode cX12_goBy 30 = .ok (.iconst 1, 1) := by decide +kernel
theorem dX12_goBy_31 : decode cX12_goBy 31 = .ok (.iadd, 1) := by decide +kernel
theorem dX12_goBy_32 : decode cX12_goBy 32 = .ok (.iastore, 1) := by decide +kernel
theorem dX12_goBy_33 : decode cX12_goBy 33 = .ok (.iinc 1 1, 3) := by decide +kernel
theorem dX12_goBy_36 : decode cX12_goBy 36 = .ok (.goto (-34), 3) := by decide +kernel
theorem dX12_goBy_39 : decode cX12_goBy 39 = .ok (.iconst 0, 1) := by decide +kernel
theorem dX12_goBy_40 : decode cX12_goBy 40 = .ok (.istore_n 1, 1) := by decide +kernel
theorem dX12_goBy_41 : decode cX12_goBy 41 = .ok (.iload_n 1, 1) := by decide +kernel
theorem dX12_goBy_42 : decode cX12_goBy 42 = .ok (.aload_n 0, 1) := by decide +kernel
theorem dX12_goBy_43 : decode cX12_goBy 43 = .ok (.bipush 47, 2) := by decide +kernel
theorem dX12_goBy_45 : decode cX12_goBy 45 = .ok (.iaload, 1) := by decide +kernel
theorem dX12_goBy_46 : decode cX12_goBy 46 = .ok (.if_icmp .ge 39, 3) := by decide +kernel
theorem dX12_goBy_49 : decode cX12_goBy 49 = .ok (.aload_n 0, 1) := by decide +kernel
theorem dX12_goBy_50 : decode cX12_goBy 50 = .ok (.bipush 18, 2) := by decide +kernel
theorem dX12_goBy_52 : decode cX12_goBy 52 = .ok (.iload_n 1, 1) := by decide +kernel
theorem dX12_goBy_53 : decode cX12_goBy 53 = .ok (.iadd, 1) := by decide +kernel
theorem dX12_goBy_54 : decode cX12_goBy 54 = .ok (.aload_n 0, 1) := by decide +kernel
theorem dX12_goBy_55 : decode cX12_goBy 55 = .ok (.bipush 48, 2) := by decide +kernel
theorem dX12_goBy_57 : decode cX12_goBy 57 = .ok (.iload_n 1, 1) := by decide +kernel
theorem dX12_goBy_58 : decode cX12_goBy 58 = .ok (.iadd, 1) := by decide +kernel
theorem dX12_goBy_59 : decode cX12_goBy 59 = .ok (.iaload, 1) := by decide +kernel
theorem dX12_goBy_60 : decode cX12_goBy 60 = .ok (.aload_n 0, 1) := by decide +kernel
theorem dX12_goBy_61 : decode cX12_goBy 61 = .ok (.bipush 56, 2) := by decide +kernel
theorem dX12_goBy_63 : decode cX12_goBy 63 = .ok (.iload_n 1, 1) := by decide +kernel
theorem dX12_goBy_64 : decode cX12_goBy 64 = .ok (.iadd, 1) := by decide +kernel
theorem dX12_goBy_65 : decode cX12_goBy 65 = .ok (.iaload, 1) := by decide +kernel
theorem dX12_goBy_66 : decode cX12_goBy 66 = .ok (.aload_n 0, 1) := by decide +kernel
theorem dX12_goBy_67 : decode cX12_goBy 67 = .ok (.bipush 18, 2) := by decide +kernel
theorem dX12_goBy_69 : decode cX12_goBy 69 = .ok (.iload_n 1, 1) := by decide +kernel
theorem dX12_goBy_70 : decode cX12_goBy 70 = .ok (.iadd, 1) := by decide +kernel
theorem dX12_goBy_71 : decode cX12_goBy 71 = .ok (.iaload, 1) := by decide +kernel
theorem dX12_goBy_72 : decode cX12_goBy 72 = .ok (.aload_n 0, 1) := by decide +kernel
theorem dX12_goBy_73 : decode cX12_goBy 73 = .ok (.iconst 0, 1) := by decide +kernel
theorem dX12_goBy_74 : decode cX12_goBy 74 = .ok (.iaload, 1) := by decide +kernel
theorem dX12_goBy_75 : decode cX12_goBy 75 = .ok (.invokestatic 121, 3) := by decide +kernel
theorem dX12_goBy_78 : decode cX12_goBy 78 = .ok (.iastore, 1) := by decide +kernel
theorem dX12_goBy_79 : decode cX12_goBy 79 = .ok (.iinc 1 1, 3) := by decide +kernel
theorem dX12_goBy_82 : decode cX12_goBy 82 = .ok (.goto (-41), 3) := by decide +kernel
theorem dX12_goBy_85 : decode cX12_goBy 85 = .ok (.aload_n 0, 1) := by decide +kernel
theorem dX12_goBy_86 : decode cX12_goBy 86 = .ok (.iconst 0, 1) := by decide +kernel
theorem dX12_goBy_87 : decode cX12_goBy 87 = .ok (.dup2, 1) := by decide +kernel
theorem dX12_goBy_88 : decode cX12_goBy 88 = .ok (.iaload, 1) := by decide +kernel
theorem dX12_goBy_89 : decode cX12_goBy 89 = .ok (.iconst 1, 1) := by decide +kernel
theorem dX12_goBy_90 : decode cX12_goBy 90 = .ok (.iadd, 1) := by decide +kernel
theorem dX12_goBy_91 : decode cX12_goBy 91 = .ok (.iastore, 1) := by decide +kernel
theorem dX12_goBy_92 : decode cX12_goBy 92 = .ok (.return_, 1) := by decide +kernel
theorem dX12_nights_0 : decode cX12_nights 0 = .ok (.iload_n 1, 1) := by decide +kernel
theorem dX12_nights_1 : decode cX12_nights 1 = .ok (.iconst 1, 1) := by decide +kernel
theorem dX12_nights_2 : decode cX12_nights 2 = .ok (.bipush 40, 2) := by decide +kernel
theorem dX12_nights_4 : decode cX12_nights 4 = .ok (.invokestatic 35, 3) := by decide +kernel
theorem dX12_nights_7 : decode cX12_nights 7 = .ok (.ifCond .ne 5, 3) := by decide +kernel
theorem dX12_nights_10 : decode cX12_nights 10 = .ok (.iconst (-1), 1) := by decide +kernel
theorem dX12_nights_11 : decode cX12_nights 11 = .ok (.ireturn, 1) := by decide +kernel
theorem dX12_nights_12 : decode cX12_nights 12 = .ok (.aload_n 0, 1) := by decide +kernel
theorem dX12_nights_13 : decode cX12_nights 13 = .ok (.getfield 23, 3) := by decide +kernel
theorem dX12_nights_16 : decode cX12_nights 16 = .ok (.iconst 0, 1) := by decide +kernel
theorem dX12_nights_17 : decode cX12_nights 17 = .ok (.iaload, 1) := by decide +kernel
theorem dX12_nights_18 : decode cX12_nights 18 = .ok (.iload_n 1, 1) := by decide +kernel
theorem dX12_nights_19 : decode cX12_nights 19 = .ok (.iadd, 1) := by decide +kernel
theorem dX12_nights_20 : decode cX12_nights 20 = .ok (.sipush 9999, 3) := by decide +kernel
theorem dX12_nights_23 : decode cX12_nights 23 = .ok (.if_icmp .le 6, 3) := by decide +kernel
theorem dX12_nights_26 : decode cX12_nights 26 = .ok (.bipush (-3), 2) := by decide +kernel
theorem dX12_nights_28 : decode cX12_nights 28 = .ok (.ireturn, 1) := by decide +kernel
theorem dX12_nights_29 : decode cX12_nights 29 = .ok (.aload_n 0, 1) := by decide +kernel
theorem dX12_nights_30 : decode cX12_nights 30 = .ok (.getfield 23, 3) := by decide +kernel
theorem dX12_nights_33 : decode cX12_nights 33 = .ok (.invokestatic 117, 3) := by decide +kernel
theorem dX12_nights_36 : decode cX12_nights 36 = .ok (.istore_n 2, 1) := by decide +kernel
theorem dX12_nights_37 : decode cX12_nights 37 = .ok (.iconst 0, 1) := by decide +kernel
theorem dX12_nights_38 : decode cX12_nights 38 = .ok (.istore_n 3, 1) := by decide +kernel
theorem dX12_nights_39 : decode cX12_nights 39 = .ok (.iload_n 3, 1) := by decide +kernel
theorem dX12_nights_40 : decode cX12_nights 40 = .ok (.iload_n 1, 1) := by decide +kernel
theorem dX12_nights_41 : decode cX12_nights 41 = .ok (.if_icmp .ge 20, 3) := by decide +kernel
theorem dX12_nights_44 : decode cX12_nights 44 = .ok (.aload_n 0, 1) := by decide +kernel
theorem dX12_nights_45 : decode cX12_nights 45 = .ok (.invokevirtual 124, 3) := by decide +kernel
theorem dX12_nights_48 : decode cX12_nights 48 = .ok (.aload_n 0, 1) := by decide +kernel
theorem dX12_nights_49 : decode cX12_nights 49 = .ok (.getfield 23, 3) := by decide +kernel
theorem dX12_nights_52 : decode cX12_nights 52 = .ok (.invokestatic 127, 3) := by decide +kernel
theorem dX12_nights_55 : decode cX12_nights 55 = .ok (.iinc 3 1, 3) := by decide +kernel
theorem dX12_nights_58 : decode cX12_nights 58 = .ok (.goto (-19), 3) := by decide +kernel
theorem dX12_nights_61 : decode cX12_nights 61 = .ok (.aload_n 0, 1) := by decide +kernel
theorem dX12_nights_62 : decode cX12_nights 62 = .ok (.getfield 23, 3) := by decide +kernel
theorem dX12_nights_65 : decode cX12_nights 65 = .ok (.invokestatic 117, 3) := by decide +kernel
theorem dX12_nights_68 : decode cX12_nights 68 = .ok (.iload_n 2, 1) := by decide +kernel
theorem dX12_nights_69 : decode cX12_nights 69 = .ok (.isub, 1) := by decide +kernel
theorem dX12_nights_70 : decode cX12_nights 70 = .ok (.ireturn, 1) := by decide +kernel
theorem dX12_move_0 : decode cX12_move 0 = .ok (.aload_n 0, 1) := by decide +kernel
theorem dX12_move_1 : decode cX12_move 1 = .ok (.iload_n 1, 1) := by decide +kernel
theorem dX12_move_2 : decode cX12_move 2 = .ok (.invokevirtual 73, 3) := by decide +kernel
theorem dX12_move_5 : decode cX12_move 5 = .ok (.ifCond .eq 10, 3) := by decide +kernel
theorem dX12_move_8 : decode cX12_move 8 = .ok (.iload_n 2, 1) := by decide +kernel
theorem dX12_move_9 : decode cX12_move 9 = .ok (.invokestatic 43, 3) := by decide +kernel
theorem dX12_move_12 : decode cX12_move 12 = .ok (.ifCond .ne 5, 3) := by decide +kernel
theorem dX12_move_15 : decode cX12_move 15 = .ok (.iconst (-1), 1) := by decide +kernel
theorem dX12_move_16 : decode cX12_move 16 = .ok (.ireturn, 1) := by decide +kernel
theorem dX12_move_17 : decode cX12_move 17 = .ok (.aload_n 0, 1) := by decide +kernel
theorem dX12_move_18 : decode cX12_move 18 = .ok (.getfield 23, 3) := by decide +kernel
theorem dX12_move_21 : decode cX12_move 21 = .ok (.iconst 2, 1) := by decide +kernel
theorem dX12_move_22 : decode cX12_move 22 = .ok (.iload_n 1, 1) := by decide +kernel
theorem dX12_move_23 : decode cX12_move 23 = .ok (.iadd, 1) := by decide +kernel
theorem dX12_move_24 : decode cX12_move 24 = .ok (.iaload, 1) := by decide +kernel
theorem dX12_move_25 : decode cX12_move 25 = .ok (.iload_n 2, 1) := by decide +kernel
theorem dX12_move_26 : decode cX12_move 26 = .ok (.if_icmp .ne 6, 3) := by decide +kernel
theorem dX12_move_29 : decode cX12_move 29 = .ok (.bipush (-2), 2) := by decide +kernel
theorem dX12_move_31 : decode cX12_move 31 = .ok (.ireturn, 1) := by decide +kernel
theorem dX12_move_32 : decode cX12_move 32 = .ok (.aload_n 0, 1) := by decide +kernel
theorem dX12_move_33 : decode cX12_move 33 = .ok (.invokevirtual 124, 3) := by decide +kernel
theorem dX12_move_36 : decode cX12_move 36 = .ok (.aload_n 0, 1) := by decide +kernel
theorem dX12_move_37 : decode cX12_move 37 = .ok (.getfield 23, 3) := by decide +kernel
theorem dX12_move_40 : decode cX12_move 40 = .ok (.iconst 2, 1) := by decide +kernel
theorem dX12_move_41 : decode cX12_move 41 = .ok (.iload_n 1, 1) := by decide +kernel
theorem dX12_move_42 : decode cX12_move 42 = .ok (.iadd, 1) := by decide +kernel
theorem dX12_move_43 : decode cX12_move 43 = .ok (.iaload, 1) := by decide +kernel
theorem dX12_move_44 : decode cX12_move 44 = .ok (.istore_n 3, 1) := by decide +kernel
theorem dX12_move_45 : decode cX12_move 45 = .ok (.aload_n 0, 1) := by decide +kernel
theorem dX12_move_46 : decode cX12_move 46 = .ok (.getfield 23, 3) := by decide +kernel
theorem dX12_move_49 : decode cX12_move 49 = .ok (.iconst 2, 1) := by decide +kernel
theorem dX12_move_50 : decode cX12_move 50 = .ok (.iload_n 1, 1) := by decide +kernel
theorem dX12_move_51 : decode cX12_move 51 = .ok (.iadd, 1) := by decide +kernel
theorem dX12_move_52 : decode cX12_move 52 = .ok (.iload_n 2, 1) := by decide +kernel
theorem dX12_move_53 : decode cX12_move 53 = .ok (.iastore, 1) := by decide +kernel
theorem dX12_move_54 : decode cX12_move 54 = .ok (.iload_n 3, 1) := by decide +kernel
theorem dX12_move_55 : decode cX12_move 55 = .ok (.ireturn, 1) := by decide +kernel
theorem dX12_pass_0 : decode cX12_pass 0 = .ok (.aload_n 0, 1) := by decide +kernel
theorem dX12_pass_1 : decode cX12_pass 1 = .ok (.iload_n 1, 1) := by decide +kernel
theorem dX12_pass_2 : decode cX12_pass 2 = .ok (.invokevirtual 73, 3) := by decide +kernel
theorem dX12_pass_5 : decode cX12_pass 5 = .ok (.ifCond .eq 13, 3) := by decide +kernel
theorem dX12_pass_8 : decode cX12_pass 8 = .ok (.iload_n 2, 1) := by decide +kernel
theorem dX12_pass_9 : decode cX12_pass 9 = .ok (.iconst 0, 1) := by decide +kernel
theorem dX12_pass_10 : decode cX12_pass 10 = .ok (.bipush 9, 2) := by decide +kernel
theorem dX12_pass_12 : decode cX12_pass 12 = .ok (.invokestatic 35, 3) := by decide +kernel
theorem dX12_pass_15 : decode cX12_pass 15 = .ok (.ifCond .ne 5, 3) := by decide +kernel
theorem dX12_pass_18 : decode cX12_pass 18 = .ok (.iconst (-1), 1) := by decide +kernel
theorem dX12_pass_19 : decode cX12_pass 19 = .ok (.ireturn, 1) := by decide +kernel
theorem dX12_pass_20 : decode cX12_pass 20 = .ok (.aload_n 0, 1) := by decide +kernel
theorem dX12_pass_21 : decode cX12_pass 21 = .ok (.getfield 23, 3) := by decide +kernel
theorem dX12_pass_24 : decode cX12_pass 24 = .ok (.bipush 10, 2) := by decide +kernel
theorem dX12_pass_26 : decode cX12_pass 26 = .ok (.iload_n 1, 1) := by decide +kernel
theorem dX12_pass_27 : decode cX12_pass 27 = .ok (.iadd, 1) := by decide +kernel
theorem dX12_pass_28 : decode cX12_pass 28 = .ok (.iaload, 1) := by decide +kernel
theorem dX12_pass_29 : decode cX12_pass 29 = .ok (.iload_n 2, 1) := by decide +kernel
theorem dX12_pass_30 : decode cX12_pass 30 = .ok (.if_icmp .ne 6, 3) := by decide +kernel
theorem dX12_pass_33 : decode cX12_pass 33 = .ok (.bipush (-2), 2) := by decide +kernel
theorem dX12_pass_35 : decode cX12_pass 35 = .ok (.ireturn, 1) := by decide +kernel
theorem dX12_pass_36 : decode cX12_pass 36 = .ok (.aload_n 0, 1) := by decide +kernel
theorem dX12_pass_37 : decode cX12_pass 37 = .ok (.invokevirtual 124, 3) := by decide +kernel
theorem dX12_pass_40 : decode cX12_pass 40 = .ok (.aload_n 0, 1) := by decide +kernel
theorem dX12_pass_41 : decode cX12_pass 41 = .ok (.getfield 23, 3) := by decide +kernel
theorem dX12_pass_44 : decode cX12_pass 44 = .ok (.bipush 18, 2) := by decide +kernel
theorem dX12_pass_46 : decode cX12_pass 46 = .ok (.iload_n 1, 1) := by decide +kernel
theorem dX12_pass_47 : decode cX12_pass 47 = .ok (.iadd, 1) := by decide +kernel
theorem dX12_pass_48 : decode cX12_pass 48 = .ok (.iaload, 1) := by decide +kernel
theorem dX12_pass_49 : decode cX12_pass 49 = .ok (.istore_n 3, 1) := by decide +kernel
theorem dX12_pass_50 : decode cX12_pass 50 = .ok (.aload_n 0, 1) := by decide +kernel
theorem dX12_pass_51 : decode cX12_pass 51 = .ok (.getfield 23, 3) := by decide +kernel
theorem dX12_pass_54 : decode cX12_pass 54 = .ok (.bipush 10, 2) := by decide +kernel
theorem dX12_pass_56 : decode cX12_pass 56 = .ok (.iload_n 1, 1) := by decide +kernel
theorem dX12_pass_57 : decode cX12_pass 57 = .ok (.iadd, 1) := by decide +kernel
theorem dX12_pass_58 : decode cX12_pass 58 = .ok (.iload_n 2, 1) := by decide +kernel
theorem dX12_pass_59 : decode cX12_pass 59 = .ok (.iastore, 1) := by decide +kernel
theorem dX12_pass_60 : decode cX12_pass 60 = .ok (.aload_n 0, 1) := by decide +kernel
theorem dX12_pass_61 : decode cX12_pass 61 = .ok (.getfield 23, 3) := by decide +kernel
theorem dX12_pass_64 : decode cX12_pass 64 = .ok (.bipush 18, 2) := by decide +kernel
theorem dX12_pass_66 : decode cX12_pass 66 = .ok (.iload_n 1, 1) := by decide +kernel
theorem dX12_pass_67 : decode cX12_pass 67 = .ok (.iadd, 1) := by decide +kernel
theorem dX12_pass_68 : decode cX12_pass 68 = .ok (.aload_n 0, 1) := by decide +kernel
theorem dX12_pass_69 : decode cX12_pass 69 = .ok (.getfield 23, 3) := by decide +kernel
theorem dX12_pass_72 : decode cX12_pass 72 = .ok (.bipush 56, 2) := by decide +kernel
theorem dX12_pass_74 : decode cX12_pass 74 = .ok (.iload_n 1, 1) := by decide +kernel
theorem dX12_pass_75 : decode cX12_pass 75 = .ok (.iadd, 1) := by decide +kernel
theorem dX12_pass_76 : decode cX12_pass 76 = .ok (.iaload, 1) := by decide +kernel
theorem dX12_pass_77 : decode cX12_pass 77 = .ok (.invokestatic 39, 3) := by decide +kernel
theorem dX12_pass_80 : decode cX12_pass 80 = .ok (.iastore, 1) := by decide +kernel
theorem dX12_pass_81 : decode cX12_pass 81 = .ok (.iload_n 3, 1) := by decide +kernel
theorem dX12_pass_82 : decode cX12_pass 82 = .ok (.ireturn, 1) := by decide +kernel
theorem dX12_back_0 : decode cX12_back 0 = .ok (.aload_n 0, 1) := by decide +kernel
theorem dX12_back_1 : decode cX12_back 1 = .ok (.iload_n 1, 1) := by decide +kernel
theorem dX12_back_2 : decode cX12_back 2 = .ok (.invokevirtual 73, 3) := by decide +kernel
theorem dX12_back_5 : decode cX12_back 5 = .ok (.ifCond .ne 5, 3) := by decide +kernel
theorem dX12_back_8 : decode cX12_back 8 = .ok (.iconst (-1), 1) := by decide +kernel
theorem dX12_back_9 : decode cX12_back 9 = .ok (.ireturn, 1) := by decide +kernel
theorem dX12_back_10 : decode cX12_back 10 = .ok (.aload_n 0, 1) := by decide +kernel
theorem dX12_back_11 : decode cX12_back 11 = .ok (.getfield 23, 3) := by decide +kernel
theorem dX12_back_14 : decode cX12_back 14 = .ok (.bipush 18, 2) := by decide +kernel
theorem dX12_back_16 : decode cX12_back 16 = .ok (.iload_n 1, 1) := by decide +kernel
theorem dX12_back_17 : decode cX12_back 17 = .ok (.iadd, 1) := by decide +kernel
theorem dX12_back_18 : decode cX12_back 18 = .ok (.iaload, 1) := by decide +kernel
theorem dX12_back_19 : decode cX12_back 19 = .ok (.ifCond .ne 6, 3) := by decide +kernel
theorem dX12_back_22 : decode cX12_back 22 = .ok (.bipush (-2), 2) := by decide +kernel
theorem dX12_back_24 : decode cX12_back 24 = .ok (.ireturn, 1) := by decide +kernel
theorem dX12_back_25 : decode cX12_back 25 = .ok (.aload_n 0, 1) := by decide +kernel
theorem dX12_back_26 : decode cX12_back 26 = .ok (.invokevirtual 124, 3) := by decide +kernel
theorem dX12_back_29 : decode cX12_back 29 = .ok (.aload_n 0, 1) := by decide +kernel
theorem dX12_back_30 : decode cX12_back 30 = .ok (.getfield 23, 3) := by decide +kernel
theorem dX12_back_33 : decode cX12_back 33 = .ok (.bipush 18, 2) := by decide +kernel
theorem dX12_back_35 : decode cX12_back 35 = .ok (.iload_n 1, 1) := by decide +kernel
theorem dX12_back_36 : decode cX12_back 36 = .ok (.iadd, 1) := by decide +kernel
theorem dX12_back_37 : decode cX12_back 37 = .ok (.iaload, 1) := by decide +kernel
theorem dX12_back_38 : decode cX12_back 38 = .ok (.istore_n 2, 1) := by decide +kernel
theorem dX12_back_39 : decode cX12_back 39 = .ok (.aload_n 0, 1) := by decide +kernel
theorem dX12_back_40 : decode cX12_back 40 = .ok (.getfield 23, 3) := by decide +kernel
theorem dX12_back_43 : decode cX12_back 43 = .ok (.bipush 18, 2) := by decide +kernel
theorem dX12_back_45 : decode cX12_back 45 = .ok (.iload_n 1, 1) := by decide +kernel
theorem dX12_back_46 : decode cX12_back 46 = .ok (.iadd, 1) := by decide +kernel
theorem dX12_back_47 : decode cX12_back 47 = .ok (.iconst 0, 1) := by decide +kernel
theorem dX12_back_48 : decode cX12_back 48 = .ok (.iastore, 1) := by decide +kernel
theorem dX12_back_49 : decode cX12_back 49 = .ok (.iload_n 2, 1) := by decide +kernel
theorem dX12_back_50 : decode cX12_back 50 = .ok (.ireturn, 1) := by decide +kernel
theorem dX12_drift_0 : decode cX12_drift 0 = .ok (.iload_n 1, 1) := by decide +kernel
theorem dX12_drift_1 : decode cX12_drift 1 = .ok (.iconst 1, 1) := by decide +kernel
theorem dX12_drift_2 : decode cX12_drift 2 = .ok (.bipush 40, 2) := by decide +kernel
theorem dX12_drift_4 : decode cX12_drift 4 = .ok (.invokestatic 35, 3) := by decide +kernel
theorem dX12_drift_7 : decode cX12_drift 7 = .ok (.ifCond .ne 5, 3) := by decide +kernel
theorem dX12_drift_10 : decode cX12_drift 10 = .ok (.iconst (-1), 1) := by decide +kernel
theorem dX12_drift_11 : decode cX12_drift 11 = .ok (.ireturn, 1) := by decide +kernel
theorem dX12_drift_12 : decode cX12_drift 12 = .ok (.aload_n 0, 1) := by decide +kernel
theorem dX12_drift_13 : decode cX12_drift 13 = .ok (.getfield 23, 3) := by decide +kernel
theorem dX12_drift_16 : decode cX12_drift 16 = .ok (.iconst 0, 1) := by decide +kernel
theorem dX12_drift_17 : decode cX12_drift 17 = .ok (.iaload, 1) := by decide +kernel
theorem dX12_drift_18 : decode cX12_drift 18 = .ok (.iload_n 1, 1) := by decide +kernel
theorem dX12_drift_19 : decode cX12_drift 19 = .ok (.iadd, 1) := by decide +kernel
theorem dX12_drift_20 : decode cX12_drift 20 = .ok (.sipush 9999, 3) := by decide +kernel
theorem dX12_drift_23 : decode cX12_drift 23 = .ok (.if_icmp .le 6, 3) := by decide +kernel
theorem dX12_drift_26 : decode cX12_drift 26 = .ok (.bipush (-3), 2) := by decide +kernel
theorem dX12_drift_28 : decode cX12_drift 28 = .ok (.ireturn, 1) := by decide +kernel
theorem dX12_drift_29 : decode cX12_drift 29 = .ok (.aload_n 0, 1) := by decide +kernel
theorem dX12_drift_30 : decode cX12_drift 30 = .ok (.getfield 23, 3) := by decide +kernel
theorem dX12_drift_33 : decode cX12_drift 33 = .ok (.invokestatic 117, 3) := by decide +kernel
theorem dX12_drift_36 : decode cX12_drift 36 = .ok (.istore_n 2, 1) := by decide +kernel
theorem dX12_drift_37 : decode cX12_drift 37 = .ok (.iconst 0, 1) := by decide +kernel
theorem dX12_drift_38 : decode cX12_drift 38 = .ok (.istore_n 3, 1) := by decide +kernel
theorem dX12_drift_39 : decode cX12_drift 39 = .ok (.iload_n 3, 1) := by decide +kernel
theorem dX12_drift_40 : decode cX12_drift 40 = .ok (.iload_n 1, 1) := by decide +kernel
theorem dX12_drift_41 : decode cX12_drift 41 = .ok (.if_icmp .ge 103, 3) := by decide +kernel
theorem dX12_drift_44 : decode cX12_drift 44 = .ok (.aload_n 0, 1) := by decide +kernel
theorem dX12_drift_45 : decode cX12_drift 45 = .ok (.invokevirtual 124, 3) := by decide +kernel
theorem dX12_drift_48 : decode cX12_drift 48 = .ok (.aload_n 0, 1) := by decide +kernel
theorem dX12_drift_49 : decode cX12_drift 49 = .ok (.getfield 23, 3) := by decide +kernel
theorem dX12_drift_52 : decode cX12_drift 52 = .ok (.iconst 1, 1) := by decide +kernel
theorem dX12_drift_53 : decode cX12_drift 53 = .ok (.aload_n 0, 1) := by decide +kernel
theorem dX12_drift_54 : decode cX12_drift 54 = .ok (.getfield 23, 3) := by decide +kernel
theorem dX12_drift_57 : decode cX12_drift 57 = .ok (.iconst 1, 1) := by decide +kernel
theorem dX12_drift_58 : decode cX12_drift 58 = .ok (.iaload, 1) := by decide +kernel
theorem dX12_drift_59 : decode cX12_drift 59 = .ok (.i2l, 1) := by decide +kernel
theorem dX12_drift_60 : decode cX12_drift 60 = .ok (.ldc2_w 131, 3) := by decide +kernel
theorem dX12_drift_63 : decode cX12_drift 63 = .ok (.lmul, 1) := by decide +kernel
theorem dX12_drift_64 : decode cX12_drift 64 = .ok (.ldc2_w 133, 3) := by decide +kernel
theorem dX12_drift_67 : decode cX12_drift 67 = .ok (.ladd, 1) := by decide +kernel
theorem dX12_drift_68 : decode cX12_drift 68 = .ok (.ldc2_w 135, 3) := by decide +kernel
theorem dX12_drift_71 : decode cX12_drift 71 = .ok (.lrem, 1) := by decide +kernel
theorem dX12_drift_72 : decode cX12_drift 72 = .ok (.l2i, 1) := by decide +kernel
theorem dX12_drift_73 : decode cX12_drift 73 = .ok (.iastore, 1) := by decide +kernel
theorem dX12_drift_74 : decode cX12_drift 74 = .ok (.aload_n 0, 1) := by decide +kernel
theorem dX12_drift_75 : decode cX12_drift 75 = .ok (.getfield 23, 3) := by decide +kernel
theorem dX12_drift_78 : decode cX12_drift 78 = .ok (.iconst 1, 1) := by decide +kernel
theorem dX12_drift_79 : decode cX12_drift 79 = .ok (.iaload, 1) := by decide +kernel
theorem dX12_drift_80 : decode cX12_drift 80 = .ok (.ldc 137, 2) := by decide +kernel
theorem dX12_drift_82 : decode cX12_drift 82 = .ok (.idiv, 1) := by decide +kernel
theorem dX12_drift_83 : decode cX12_drift 83 = .ok (.istore 4, 2) := by decide +kernel
theorem dX12_drift_85 : decode cX12_drift 85 = .ok (.iload 4, 2) := by decide +kernel
theorem dX12_drift_87 : decode cX12_drift 87 = .ok (.iconst 3, 1) := by decide +kernel
theorem dX12_drift_88 : decode cX12_drift 88 = .ok (.irem, 1) := by decide +kernel
theorem dX12_drift_89 : decode cX12_drift 89 = .ok (.ifCond .ne 42, 3) := by decide +kernel
theorem dX12_drift_92 : decode cX12_drift 92 = .ok (.aload_n 0, 1) := by decide +kernel
theorem dX12_drift_93 : decode cX12_drift 93 = .ok (.getfield 23, 3) := by decide +kernel
theorem dX12_drift_96 : decode cX12_drift 96 = .ok (.bipush 47, 2) := by decide +kernel
theorem dX12_drift_98 : decode cX12_drift 98 = .ok (.iaload, 1) := by decide +kernel
theorem dX12_drift_99 : decode cX12_drift 99 = .ok (.ifCond .le 32, 3) := by decide +kernel
theorem dX12_drift_102 : decode cX12_drift 102 = .ok (.aload_n 0, 1) := by decide +kernel
theorem dX12_drift_103 : decode cX12_drift 103 = .ok (.getfield 23, 3) := by decide +kernel
theorem dX12_drift_106 : decode cX12_drift 106 = .ok (.iconst 2, 1) := by decide +kernel
theorem dX12_drift_107 : decode cX12_drift 107 = .ok (.iload 4, 2) := by decide +kernel
theorem dX12_drift_109 : decode cX12_drift 109 = .ok (.aload_n 0, 1) := by decide +kernel
theorem dX12_drift_110 : decode cX12_drift 110 = .ok (.getfield 23, 3) := by decide +kernel
theorem dX12_drift_113 : decode cX12_drift 113 = .ok (.bipush 47, 2) := by decide +kernel
theorem dX12_drift_115 : decode cX12_drift 115 = .ok (.iaload, 1) := by decide +kernel
theorem dX12_drift_116 : decode cX12_drift 116 = .ok (.irem, 1) := by decide +kernel
theorem dX12_drift_117 : decode cX12_drift 117 = .ok (.iadd, 1) := by decide +kernel
theorem dX12_drift_118 : decode cX12_drift 118 = .ok (.aload_n 0, 1) := by decide +kernel
theorem dX12_drift_119 : decode cX12_drift 119 = .ok (.getfield 23, 3) := by decide +kernel
theorem dX12_drift_122 : decode cX12_drift 122 = .ok (.iconst 1, 1) := by decide +kernel
theorem dX12_drift_123 : decode cX12_drift 123 = .ok (.iaload, 1) := by decide +kernel
theorem dX12_drift_124 : decode cX12_drift 124 = .ok (.sipush 128, 3) := by decide +kernel
theorem dX12_drift_127 : decode cX12_drift 127 = .ok (.idiv, 1) := by decide +kernel
theorem dX12_drift_128 : decode cX12_drift 128 = .ok (.iconst 4, 1) := by decide +kernel
theorem dX12_drift_129 : decode cX12_drift 129 = .ok (.irem, 1) := by decide +kernel
theorem dX12_drift_130 : decode cX12_drift 130 = .ok (.iastore, 1) := by decide +kernel
theorem dX12_drift_131 : decode cX12_drift 131 = .ok (.aload_n 0, 1) := by decide +kernel
theorem dX12_drift_132 : decode cX12_drift 132 = .ok (.getfield 23, 3) := by decide +kernel
theorem dX12_drift_135 : decode cX12_drift 135 = .ok (.invokestatic 127, 3) := by decide +kernel
theorem dX12_drift_138 : decode cX12_drift 138 = .ok (.iinc 3 1, 3) := by decide +kernel
theorem dX12_drift_141 : decode cX12_drift 141 = .ok (.goto (-102), 3) := by decide +kernel
theorem dX12_drift_144 : decode cX12_drift 144 = .ok (.aload_n 0, 1) := by decide +kernel
theorem dX12_drift_145 : decode cX12_drift 145 = .ok (.getfield 23, 3) := by decide +kernel
theorem dX12_drift_148 : decode cX12_drift 148 = .ok (.invokestatic 117, 3) := by decide +kernel
theorem dX12_drift_151 : decode cX12_drift 151 = .ok (.iload_n 2, 1) := by decide +kernel
theorem dX12_drift_152 : decode cX12_drift 152 = .ok (.isub, 1) := by decide +kernel
theorem dX12_drift_153 : decode cX12_drift 153 = .ok (.ireturn, 1) := by decide +kernel
theorem dX12_undo_0 : decode cX12_undo 0 = .ok (.aload_n 0, 1) := by decide +kernel
theorem dX12_undo_1 : decode cX12_undo 1 = .ok (.getfield 23, 3) := by decide +kernel
theorem dX12_undo_4 : decode cX12_undo 4 = .ok (.bipush 64, 2) := by decide +kernel
theorem dX12_undo_6 : decode cX12_undo 6 = .ok (.iaload, 1) := by decide +kernel
theorem dX12_undo_7 : decode cX12_undo 7 = .ok (.ifCond .ne 6, 3) := by decide +kernel
theorem dX12_undo_10 : decode cX12_undo 10 = .ok (.bipush (-4), 2) := by decide +kernel
theorem dX12_undo_12 : decode cX12_undo 12 = .ok (.ireturn, 1) := by decide +kernel
theorem dX12_undo_13 : decode cX12_undo 13 = .ok (.aload_n 0, 1) := by decide +kernel
theorem dX12_undo_14 : decode cX12_undo 14 = .ok (.getfield 23, 3) := by decide +kernel
theorem dX12_undo_17 : decode cX12_undo 17 = .ok (.bipush 64, 2) := by decide +kernel
theorem dX12_undo_19 : decode cX12_undo 19 = .ok (.dup2, 1) := by decide +kernel
theorem dX12_undo_20 : decode cX12_undo 20 = .ok (.iaload, 1) := by decide +kernel
theorem dX12_undo_21 : decode cX12_undo 21 = .ok (.iconst 1, 1) := by decide +kernel
theorem dX12_undo_22 : decode cX12_undo 22 = .ok (.isub, 1) := by decide +kernel
theorem dX12_undo_23 : decode cX12_undo 23 = .ok (.iastore, 1) := by decide +kernel
theorem dX12_undo_24 : decode cX12_undo 24 = .ok (.aload_n 0, 1) := by decide +kernel
theorem dX12_undo_25 : decode cX12_undo 25 = .ok (.getfield 23, 3) := by decide +kernel
theorem dX12_undo_28 : decode cX12_undo 28 = .ok (.bipush 65, 2) := by decide +kernel
theorem dX12_undo_30 : decode cX12_undo 30 = .ok (.bipush 36, 2) := by decide +kernel
theorem dX12_undo_32 : decode cX12_undo 32 = .ok (.aload_n 0, 1) := by decide +kernel
theorem dX12_undo_33 : decode cX12_undo 33 = .ok (.getfield 23, 3) := by decide +kernel
theorem dX12_undo_36 : decode cX12_undo 36 = .ok (.bipush 64, 2) := by decide +kernel
theorem dX12_undo_38 : decode cX12_undo 38 = .ok (.iaload, 1) := by decide +kernel
theorem dX12_undo_39 : decode cX12_undo 39 = .ok (.imul, 1) := by decide +kernel
theorem dX12_undo_40 : decode cX12_undo 40 = .ok (.iadd, 1) := by decide +kernel
theorem dX12_undo_41 : decode cX12_undo 41 = .ok (.aload_n 0, 1) := by decide +kernel
theorem dX12_undo_42 : decode cX12_undo 42 = .ok (.getfield 23, 3) := by decide +kernel
theorem dX12_undo_45 : decode cX12_undo 45 = .ok (.iconst 0, 1) := by decide +kernel
theorem dX12_undo_46 : decode cX12_undo 46 = .ok (.bipush 36, 2) := by decide +kernel
theorem dX12_undo_48 : decode cX12_undo 48 = .ok (.invokestatic 113, 3) := by decide +kernel
theorem dX12_undo_51 : decode cX12_undo 51 = .ok (.aload_n 0, 1) := by decide +kernel
theorem dX12_undo_52 : decode cX12_undo 52 = .ok (.getfield 23, 3) := by decide +kernel
theorem dX12_undo_55 : decode cX12_undo 55 = .ok (.bipush 64, 2) := by decide +kernel
theorem dX12_undo_57 : decode cX12_undo 57 = .ok (.iaload, 1) := by decide +kernel
theorem dX12_undo_58 : decode cX12_undo 58 = .ok (.ireturn, 1) := by decide +kernel
theorem dX12_seed_0 : decode cX12_seed 0 = .ok (.iload_n 1, 1) := by decide +kernel
theorem dX12_seed_1 : decode cX12_seed 1 = .ok (.ifCond .ge 5, 3) := by decide +kernel
theorem dX12_seed_4 : decode cX12_seed 4 = .ok (.iconst (-1), 1) := by decide +kernel
theorem dX12_seed_5 : decode cX12_seed 5 = .ok (.ireturn, 1) := by decide +kernel
theorem dX12_seed_6 : decode cX12_seed 6 = .ok (.aload_n 0, 1) := by decide +kernel
theorem dX12_seed_7 : decode cX12_seed 7 = .ok (.getfield 23, 3) := by decide +kernel
theorem dX12_seed_10 : decode cX12_seed 10 = .ok (.iconst 1, 1) := by decide +kernel
theorem dX12_seed_11 : decode cX12_seed 11 = .ok (.iaload, 1) := by decide +kernel
theorem dX12_seed_12 : decode cX12_seed 12 = .ok (.istore_n 2, 1) := by decide +kernel
theorem dX12_seed_13 : decode cX12_seed 13 = .ok (.aload_n 0, 1) := by decide +kernel
theorem dX12_seed_14 : decode cX12_seed 14 = .ok (.getfield 23, 3) := by decide +kernel
theorem dX12_seed_17 : decode cX12_seed 17 = .ok (.iconst 1, 1) := by decide +kernel
theorem dX12_seed_18 : decode cX12_seed 18 = .ok (.iload_n 1, 1) := by decide +kernel
theorem dX12_seed_19 : decode cX12_seed 19 = .ok (.iastore, 1) := by decide +kernel
theorem dX12_seed_20 : decode cX12_seed 20 = .ok (.iload_n 2, 1) := by decide +kernel
theorem dX12_seed_21 : decode cX12_seed 21 = .ok (.ireturn, 1) := by decide +kernel
theorem dX12_begin_0 : decode cX12_begin 0 = .ok (.aload_n 0, 1) := by decide +kernel
theorem dX12_begin_1 : decode cX12_begin 1 = .ok (.getfield 23, 3) := by decide +kernel
theorem dX12_begin_4 : decode cX12_begin 4 = .ok (.iconst 0, 1) := by decide +kernel
theorem dX12_begin_5 : decode cX12_begin 5 = .ok (.aload_n 0, 1) := by decide +kernel
theorem dX12_begin_6 : decode cX12_begin 6 = .ok (.getfield 26, 3) := by decide +kernel
theorem dX12_begin_9 : decode cX12_begin 9 = .ok (.iconst 0, 1) := by decide +kernel
theorem dX12_begin_10 : decode cX12_begin 10 = .ok (.bipush 64, 2) := by decide +kernel
theorem dX12_begin_12 : decode cX12_begin 12 = .ok (.invokestatic 113, 3) := by decide +kernel
theorem dX12_begin_15 : decode cX12_begin 15 = .ok (.return_, 1) := by decide +kernel
theorem dX12_goOn_0 : decode cX12_goOn 0 = .ok (.aload_n 0, 1) := by decide +kernel
theorem dX12_goOn_1 : decode cX12_goOn 1 = .ok (.invokevirtual 138, 3) := by decide +kernel
theorem dX12_goOn_4 : decode cX12_goOn 4 = .ok (.iconst 0, 1) := by decide +kernel
theorem dX12_goOn_5 : decode cX12_goOn 5 = .ok (.istore_n 2, 1) := by decide +kernel
theorem dX12_goOn_6 : decode cX12_goOn 6 = .ok (.iload_n 2, 1) := by decide +kernel
theorem dX12_goOn_7 : decode cX12_goOn 7 = .ok (.iload_n 1, 1) := by decide +kernel
theorem dX12_goOn_8 : decode cX12_goOn 8 = .ok (.if_icmp .ge 16, 3) := by decide +kernel
theorem dX12_goOn_11 : decode cX12_goOn 11 = .ok (.aload_n 0, 1) := by decide +kernel
theorem dX12_goOn_12 : decode cX12_goOn 12 = .ok (.getfield 26, 3) := by decide +kernel
theorem dX12_goOn_15 : decode cX12_goOn 15 = .ok (.invokestatic 127, 3) := by decide +kernel
theorem dX12_goOn_18 : decode cX12_goOn 18 = .ok (.iinc 2 1, 3) := by decide +kernel
theorem dX12_goOn_21 : decode cX12_goOn 21 = .ok (.goto (-15), 3) := by decide +kernel
theorem dX12_goOn_24 : decode cX12_goOn 24 = .ok (.return_, 1) := by decide +kernel
theorem dX12_ahead_0 : decode cX12_ahead 0 = .ok (.aload_n 0, 1) := by decide +kernel
theorem dX12_ahead_1 : decode cX12_ahead 1 = .ok (.iload_n 1, 1) := by decide +kernel
theorem dX12_ahead_2 : decode cX12_ahead 2 = .ok (.invokevirtual 73, 3) := by decide +kernel
theorem dX12_ahead_5 : decode cX12_ahead 5 = .ok (.ifCond .eq 13, 3) := by decide +kernel
theorem dX12_ahead_8 : decode cX12_ahead 8 = .ok (.iload_n 2, 1) := by decide +kernel
theorem dX12_ahead_9 : decode cX12_ahead 9 = .ok (.iconst 0, 1) := by decide +kernel
theorem dX12_ahead_10 : decode cX12_ahead 10 = .ok (.bipush 60, 2) := by decide +kernel
theorem dX12_ahead_12 : decode cX12_ahead 12 = .ok (.invokestatic 35, 3) := by decide +kernel
theorem dX12_ahead_15 : decode cX12_ahead 15 = .ok (.ifCond .ne 5, 3) := by decide +kernel
theorem dX12_ahead_18 : decode cX12_ahead 18 = .ok (.iconst (-1), 1) := by decide +kernel
theorem dX12_ahead_19 : decode cX12_ahead 19 = .ok (.ireturn, 1) := by decide +kernel
theorem dX12_ahead_20 : decode cX12_ahead 20 = .ok (.aload_n 0, 1) := by decide +kernel
theorem dX12_ahead_21 : decode cX12_ahead 21 = .ok (.iload_n 2, 1) := by decide +kernel
theorem dX12_ahead_22 : decode cX12_ahead 22 = .ok (.invokevirtual 141, 3) := by decide +kernel
theorem dX12_ahead_25 : decode cX12_ahead 25 = .ok (.aload_n 0, 1) := by decide +kernel
theorem dX12_ahead_26 : decode cX12_ahead 26 = .ok (.getfield 26, 3) := by decide +kernel
theorem dX12_ahead_29 : decode cX12_ahead 29 = .ok (.bipush 18, 2) := by decide +kernel
theorem dX12_ahead_31 : decode cX12_ahead 31 = .ok (.iload_n 1, 1) := by decide +kernel
theorem dX12_ahead_32 : decode cX12_ahead 32 = .ok (.iadd, 1) := by decide +kernel
theorem dX12_ahead_33 : decode cX12_ahead 33 = .ok (.iaload, 1) := by decide +kernel
theorem dX12_ahead_34 : decode cX12_ahead 34 = .ok (.ireturn, 1) := by decide +kernel
theorem dX12_loudAhead_0 : decode cX12_loudAhead 0 = .ok (.iload_n 1, 1) := by decide +kernel
theorem dX12_loudAhead_1 : decode cX12_loudAhead 1 = .ok (.invokestatic 43, 3) := by decide +kernel
theorem dX12_loudAhead_4 : decode cX12_loudAhead 4 = .ok (.ifCond .eq 13, 3) := by decide +kernel
theorem dX12_loudAhead_7 : decode cX12_loudAhead 7 = .ok (.iload_n 2, 1) := by decide +kernel
theorem dX12_loudAhead_8 : decode cX12_loudAhead 8 = .ok (.iconst 0, 1) := by decide +kernel
theorem dX12_loudAhead_9 : decode cX12_loudAhead 9 = .ok (.bipush 60, 2) := by decide +kernel
theorem dX12_loudAhead_11 : decode cX12_loudAhead 11 = .ok (.invokestatic 35, 3) := by decide +kernel
theorem dX12_loudAhead_14 : decode cX12_loudAhead 14 = .ok (.ifCond .ne 5, 3) := by decide +kernel
theorem dX12_loudAhead_17 : decode cX12_loudAhead 17 = .ok (.iconst (-1), 1) := by decide +kernel
theorem dX12_loudAhead_18 : decode cX12_loudAhead 18 = .ok (.ireturn, 1) := by decide +kernel
theorem dX12_loudAhead_19 : decode cX12_loudAhead 19 = .ok (.aload_n 0, 1) := by decide +kernel
theorem dX12_loudAhead_20 : decode cX12_loudAhead 20 = .ok (.iload_n 2, 1) := by decide +kernel
theorem dX12_loudAhead_21 : decode cX12_loudAhead 21 = .ok (.invokevirtual 141, 3) := by decide +kernel
theorem dX12_loudAhead_24 : decode cX12_loudAhead 24 = .ok (.aload_n 0, 1) := by decide +kernel
theorem dX12_loudAhead_25 : decode cX12_loudAhead 25 = .ok (.getfield 26, 3) := by decide +kernel
theorem dX12_loudAhead_28 : decode cX12_loudAhead 28 = .ok (.iload_n 1, 1) := by decide +kernel
theorem dX12_loudAhead_29 : decode cX12_loudAhead 29 = .ok (.invokestatic 63, 3) := by decide +kernel
theorem dX12_loudAhead_32 : decode cX12_loudAhead 32 = .ok (.ireturn, 1) := by decide +kernel
theorem dX12_sleeps_0 : decode cX12_sleeps 0 = .ok (.aload_n 0, 1) := by decide +kernel
theorem dX12_sleeps_1 : decode cX12_sleeps 1 = .ok (.iload_n 1, 1) := by decide +kernel
theorem dX12_sleeps_2 : decode cX12_sleeps 2 = .ok (.invokevirtual 66, 3) := by decide +kernel
theorem dX12_sleeps_5 : decode cX12_sleeps 5 = .ok (.ifCond .eq 13, 3) := by decide +kernel
theorem dX12_sleeps_8 : decode cX12_sleeps 8 = .ok (.iload_n 2, 1) := by decide +kernel
theorem dX12_sleeps_9 : decode cX12_sleeps 9 = .ok (.iconst 0, 1) := by decide +kernel
theorem dX12_sleeps_10 : decode cX12_sleeps 10 = .ok (.bipush 60, 2) := by decide +kernel
theorem dX12_sleeps_12 : decode cX12_sleeps 12 = .ok (.invokestatic 35, 3) := by decide +kernel
theorem dX12_sleeps_15 : decode cX12_sleeps 15 = .ok (.ifCond .ne 5, 3) := by decide +kernel
theorem dX12_sleeps_18 : decode cX12_sleeps 18 = .ok (.iconst (-1), 1) := by decide +kernel
theorem dX12_sleeps_19 : decode cX12_sleeps 19 = .ok (.ireturn, 1) := by decide +kernel
theorem dX12_sleeps_20 : decode cX12_sleeps 20 = .ok (.aload_n 0, 1) := by decide +kernel
theorem dX12_sleeps_21 : decode cX12_sleeps 21 = .ok (.iload_n 2, 1) := by decide +kernel
theorem dX12_sleeps_22 : decode cX12_sleeps 22 = .ok (.invokevirtual 141, 3) := by decide +kernel
theorem dX12_sleeps_25 : decode cX12_sleeps 25 = .ok (.aload_n 0, 1) := by decide +kernel
theorem dX12_sleeps_26 : decode cX12_sleeps 26 = .ok (.getfield 26, 3) := by decide +kernel
theorem dX12_sleeps_29 : decode cX12_sleeps 29 = .ok (.bipush 26, 2) := by decide +kernel
theorem dX12_sleeps_31 : decode cX12_sleeps 31 = .ok (.iload_n 1, 1) := by decide +kernel
theorem dX12_sleeps_32 : decode cX12_sleeps 32 = .ok (.iadd, 1) := by decide +kernel
theorem dX12_sleeps_33 : decode cX12_sleeps 33 = .ok (.iaload, 1) := by decide +kernel
theorem dX12_sleeps_34 : decode cX12_sleeps 34 = .ok (.aload_n 0, 1) := by decide +kernel
theorem dX12_sleeps_35 : decode cX12_sleeps 35 = .ok (.getfield 23, 3) := by decide +kernel
theorem dX12_sleeps_38 : decode cX12_sleeps 38 = .ok (.bipush 26, 2) := by decide +kernel
theorem dX12_sleeps_40 : decode cX12_sleeps 40 = .ok (.iload_n 1, 1) := by decide +kernel
theorem dX12_sleeps_41 : decode cX12_sleeps 41 = .ok (.iadd, 1) := by decide +kernel
theorem dX12_sleeps_42 : decode cX12_sleeps 42 = .ok (.iaload, 1) := by decide +kernel
theorem dX12_sleeps_43 : decode cX12_sleeps 43 = .ok (.isub, 1) := by decide +kernel
theorem dX12_sleeps_44 : decode cX12_sleeps 44 = .ok (.ireturn, 1) := by decide +kernel
theorem dX12_peace_0 : decode cX12_peace 0 = .ok (.aload_n 0, 1) := by decide +kernel
theorem dX12_peace_1 : decode cX12_peace 1 = .ok (.invokevirtual 138, 3) := by decide +kernel
theorem dX12_peace_4 : decode cX12_peace 4 = .ok (.iconst 0, 1) := by decide +kernel
theorem dX12_peace_5 : decode cX12_peace 5 = .ok (.istore_n 1, 1) := by decide +kernel
theorem dX12_peace_6 : decode cX12_peace 6 = .ok (.iload_n 1, 1) := by decide +kernel
theorem dX12_peace_7 : decode cX12_peace 7 = .ok (.bipush 61, 2) := by decide +kernel
theorem dX12_peace_9 : decode cX12_peace 9 = .ok (.if_icmp .ge 37, 3) := by decide +kernel
theorem dX12_peace_12 : decode cX12_peace 12 = .ok (.aload_n 0, 1) := by decide +kernel
theorem dX12_peace_13 : decode cX12_peace 13 = .ok (.getfield 26, 3) := by decide +kernel
theorem dX12_peace_16 : decode cX12_peace 16 = .ok (.invokestatic 117, 3) := by decide +kernel
theorem dX12_peace_19 : decode cX12_peace 19 = .ok (.istore_n 2, 1) := by decide +kernel
theorem dX12_peace_20 : decode cX12_peace 20 = .ok (.aload_n 0, 1) := by decide +kernel
theorem dX12_peace_21 : decode cX12_peace 21 = .ok (.getfield 26, 3) := by decide +kernel
theorem dX12_peace_24 : decode cX12_peace 24 = .ok (.invokestatic 127, 3) := by decide +kernel
theorem dX12_peace_27 : decode cX12_peace 27 = .ok (.aload_n 0, 1) := by decide +kernel
theorem dX12_peace_28 : decode cX12_peace 28 = .ok (.getfield 26, 3) := by decide +kernel
theorem dX12_peace_31 : decode cX12_peace 31 = .ok (.invokestatic 117, 3) := by decide +kernel
theorem dX12_peace_34 : decode cX12_peace 34 = .ok (.iload_n 2, 1) := by decide +kernel
theorem dX12_peace_35 : decode cX12_peace 35 = .ok (.if_icmp .ne 5, 3) := by decide +kernel
theorem dX12_peace_38 : decode cX12_peace 38 = .ok (.iload_n 1, 1) := by decide +kernel
theorem dX12_peace_39 : decode cX12_peace 39 = .ok (.ireturn, 1) := by decide +kernel
theorem dX12_peace_40 : decode cX12_peace 40 = .ok (.iinc 1 1, 3) := by decide +kernel
theorem dX12_peace_43 : decode cX12_peace 43 = .ok (.goto (-37), 3) := by decide +kernel
theorem dX12_peace_46 : decode cX12_peace 46 = .ok (.bipush (-4), 2) := by decide +kernel
theorem dX12_peace_48 : decode cX12_peace 48 = .ok (.ireturn, 1) := by decide +kernel
theorem dX12_wokenOn_0 : decode cX12_wokenOn 0 = .ok (.aload_n 0, 1) := by decide +kernel
theorem dX12_wokenOn_1 : decode cX12_wokenOn 1 = .ok (.getfield 26, 3) := by decide +kernel
theorem dX12_wokenOn_4 : decode cX12_wokenOn 4 = .ok (.invokestatic 117, 3) := by decide +kernel
theorem dX12_wokenOn_7 : decode cX12_wokenOn 7 = .ok (.istore_n 2, 1) := by decide +kernel
theorem dX12_wokenOn_8 : decode cX12_wokenOn 8 = .ok (.iconst 0, 1) := by decide +kernel
theorem dX12_wokenOn_9 : decode cX12_wokenOn 9 = .ok (.istore_n 3, 1) := by decide +kernel
theorem dX12_wokenOn_10 : decode cX12_wokenOn 10 = .ok (.iload_n 3, 1) := by decide +kernel
theorem dX12_wokenOn_11 : decode cX12_wokenOn 11 = .ok (.iload_n 1, 1) := by decide +kernel
theorem dX12_wokenOn_12 : decode cX12_wokenOn 12 = .ok (.if_icmp .ge 16, 3) := by decide +kernel
theorem dX12_wokenOn_15 : decode cX12_wokenOn 15 = .ok (.aload_n 0, 1) := by decide +kernel
theorem dX12_wokenOn_16 : decode cX12_wokenOn 16 = .ok (.getfield 26, 3) := by decide +kernel
theorem dX12_wokenOn_19 : decode cX12_wokenOn 19 = .ok (.invokestatic 127, 3) := by decide +kernel
theorem dX12_wokenOn_22 : decode cX12_wokenOn 22 = .ok (.iinc 3 1, 3) := by decide +kernel
theorem dX12_wokenOn_25 : decode cX12_wokenOn 25 = .ok (.goto (-15), 3) := by decide +kernel
theorem dX12_wokenOn_28 : decode cX12_wokenOn 28 = .ok (.aload_n 0, 1) := by decide +kernel
theorem dX12_wokenOn_29 : decode cX12_wokenOn 29 = .ok (.getfield 26, 3) := by decide +kernel
theorem dX12_wokenOn_32 : decode cX12_wokenOn 32 = .ok (.invokestatic 117, 3) := by decide +kernel
theorem dX12_wokenOn_35 : decode cX12_wokenOn 35 = .ok (.iload_n 2, 1) := by decide +kernel
theorem dX12_wokenOn_36 : decode cX12_wokenOn 36 = .ok (.isub, 1) := by decide +kernel
theorem dX12_wokenOn_37 : decode cX12_wokenOn 37 = .ok (.ireturn, 1) := by decide +kernel
theorem dX12_best_0 : decode cX12_best 0 = .ok (.aload_n 0, 1) := by decide +kernel
theorem dX12_best_1 : decode cX12_best 1 = .ok (.iload_n 1, 1) := by decide +kernel
theorem dX12_best_2 : decode cX12_best 2 = .ok (.invokevirtual 73, 3) := by decide +kernel
theorem dX12_best_5 : decode cX12_best 5 = .ok (.ifCond .eq 22, 3) := by decide +kernel
theorem dX12_best_8 : decode cX12_best 8 = .ok (.iload_n 2, 1) := by decide +kernel
theorem dX12_best_9 : decode cX12_best 9 = .ok (.iconst 1, 1) := by decide +kernel
theorem dX12_best_10 : decode cX12_best 10 = .ok (.bipush 40, 2) := by decide +kernel
theorem dX12_best_12 : decode cX12_best 12 = .ok (.invokestatic 35, 3) := by decide +kernel
theorem dX12_best_15 : decode cX12_best 15 = .ok (.ifCond .eq 12, 3) := by decide +kernel
theorem dX12_best_18 : decode cX12_best 18 = .ok (.iload_n 3, 1) := by decide +kernel
theorem dX12_best_19 : decode cX12_best 19 = .ok (.iconst 0, 1) := by decide +kernel
theorem dX12_best_20 : decode cX12_best 20 = .ok (.iconst 1, 1) := by decide +kernel
theorem dX12_best_21 : decode cX12_best 21 = .ok (.invokestatic 35, 3) := by decide +kernel
theorem dX12_best_24 : decode cX12_best 24 = .ok (.ifCond .ne 5, 3) := by decide +kernel
theorem dX12_best_27 : decode cX12_best 27 = .ok (.iconst (-1), 1) := by decide +kernel
theorem dX12_best_28 : decode cX12_best 28 = .ok (.ireturn, 1) := by decide +kernel
theorem dX12_best_29 : decode cX12_best 29 = .ok (.iconst 0, 1) := by decide +kernel
theorem dX12_best_30 : decode cX12_best 30 = .ok (.istore 4, 2) := by decide +kernel
theorem dX12_best_32 : decode cX12_best 32 = .ok (.sipush 9999, 3) := by decide +kernel
theorem dX12_best_35 : decode cX12_best 35 = .ok (.istore 5, 2) := by decide +kernel
theorem dX12_best_37 : decode cX12_best 37 = .ok (.iconst 0, 1) := by decide +kernel
theorem dX12_best_38 : decode cX12_best 38 = .ok (.istore 6, 2) := by decide +kernel
theorem dX12_best_40 : decode cX12_best 40 = .ok (.iload 6, 2) := by decide +kernel
theorem dX12_best_42 : decode cX12_best 42 = .ok (.iconst 4, 1) := by decide +kernel
theorem dX12_best_43 : decode cX12_best 43 = .ok (.if_icmp .ge 62, 3) := by decide +kernel
theorem dX12_best_46 : decode cX12_best 46 = .ok (.aload_n 0, 1) := by decide +kernel
theorem dX12_best_47 : decode cX12_best 47 = .ok (.invokevirtual 138, 3) := by decide +kernel
theorem dX12_best_50 : decode cX12_best 50 = .ok (.aload_n 0, 1) := by decide +kernel
theorem dX12_best_51 : decode cX12_best 51 = .ok (.getfield 26, 3) := by decide +kernel
theorem dX12_best_54 : decode cX12_best 54 = .ok (.iconst 2, 1) := by decide +kernel
theorem dX12_best_55 : decode cX12_best 55 = .ok (.iload_n 1, 1) := by decide +kernel
theorem dX12_best_56 : decode cX12_best 56 = .ok (.iadd, 1) := by decide +kernel
theorem dX12_best_57 : decode cX12_best 57 = .ok (.iload 6, 2) := by decide +kernel
theorem dX12_best_59 : decode cX12_best 59 = .ok (.iastore, 1) := by decide +kernel
theorem dX12_best_60 : decode cX12_best 60 = .ok (.aload_n 0, 1) := by decide +kernel
theorem dX12_best_61 : decode cX12_best 61 = .ok (.iload_n 2, 1) := by decide +kernel
theorem dX12_best_62 : decode cX12_best 62 = .ok (.invokevirtual 145, 3) := by decide +kernel
theorem dX12_best_65 : decode cX12_best 65 = .ok (.istore 7, 2) := by decide +kernel
theorem dX12_best_67 : decode cX12_best 67 = .ok (.iload 7, 2) := by decide +kernel
theorem dX12_best_69 : decode cX12_best 69 = .ok (.iload 5, 2) := by decide +kernel
theorem dX12_best_71 : decode cX12_best 71 = .ok (.if_icmp .ge 8, 3) := by decide +kernel
theorem dX12_best_74 : decode cX12_best 74 = .ok (.iload 6, 2) := by decide +kernel
theorem dX12_best_76 : decode cX12_best 76 = .ok (.goto 5, 3) := by decide +kernel
theorem dX12_best_79 : decode cX12_best 79 = .ok (.iload 4, 2) := by decide +kernel
theorem dX12_best_81 : decode cX12_best 81 = .ok (.istore 4, 2) := by decide +kernel
theorem dX12_best_83 : decode cX12_best 83 = .ok (.iload 7, 2) := by decide +kernel
theorem dX12_best_85 : decode cX12_best 85 = .ok (.iload 5, 2) := by decide +kernel
theorem dX12_best_87 : decode cX12_best 87 = .ok (.if_icmp .ge 8, 3) := by decide +kernel
theorem dX12_best_90 : decode cX12_best 90 = .ok (.iload 7, 2) := by decide +kernel
theorem dX12_best_92 : decode cX12_best 92 = .ok (.goto 5, 3) := by decide +kernel
theorem dX12_best_95 : decode cX12_best 95 = .ok (.iload 5, 2) := by decide +kernel
theorem dX12_best_97 : decode cX12_best 97 = .ok (.istore 5, 2) := by decide +kernel
theorem dX12_best_99 : decode cX12_best 99 = .ok (.iinc 6 1, 3) := by decide +kernel
theorem dX12_best_102 : decode cX12_best 102 = .ok (.goto (-62), 3) := by decide +kernel
theorem dX12_best_105 : decode cX12_best 105 = .ok (.iload_n 3, 1) := by decide +kernel
theorem dX12_best_106 : decode cX12_best 106 = .ok (.ifCond .ne 8, 3) := by decide +kernel
theorem dX12_best_109 : decode cX12_best 109 = .ok (.iload 4, 2) := by decide +kernel
theorem dX12_best_111 : decode cX12_best 111 = .ok (.goto 5, 3) := by decide +kernel
theorem dX12_best_114 : decode cX12_best 114 = .ok (.iload 5, 2) := by decide +kernel
theorem dX12_best_116 : decode cX12_best 116 = .ok (.ireturn, 1) := by decide +kernel
theorem dX12_bestBed_0 : decode cX12_bestBed 0 = .ok (.aload_n 0, 1) := by decide +kernel
theorem dX12_bestBed_1 : decode cX12_bestBed 1 = .ok (.iload_n 1, 1) := by decide +kernel
theorem dX12_bestBed_2 : decode cX12_bestBed 2 = .ok (.invokevirtual 66, 3) := by decide +kernel
theorem dX12_bestBed_5 : decode cX12_bestBed 5 = .ok (.ifCond .eq 22, 3) := by decide +kernel
theorem dX12_bestBed_8 : decode cX12_bestBed 8 = .ok (.iload_n 2, 1) := by decide +kernel
theorem dX12_bestBed_9 : decode cX12_bestBed 9 = .ok (.iconst 1, 1) := by decide +kernel
theorem dX12_bestBed_10 : decode cX12_bestBed 10 = .ok (.bipush 40, 2) := by decide +kernel
theorem dX12_bestBed_12 : decode cX12_bestBed 12 = .ok (.invokestatic 35, 3) := by decide +kernel
theorem dX12_bestBed_15 : decode cX12_bestBed 15 = .ok (.ifCond .eq 12, 3) := by decide +kernel
theorem dX12_bestBed_18 : decode cX12_bestBed 18 = .ok (.iload_n 3, 1) := by decide +kernel
theorem dX12_bestBed_19 : decode cX12_bestBed 19 = .ok (.iconst 0, 1) := by decide +kernel
theorem dX12_bestBed_20 : decode cX12_bestBed 20 = .ok (.iconst 1, 1) := by decide +kernel
theorem dX12_bestBed_21 : decode cX12_bestBed 21 = .ok (.invokestatic 35, 3) := by decide +kernel
theorem dX12_bestBed_24 : decode cX12_bestBed 24 = .ok (.ifCond .ne 5, 3) := by decide +kernel
theorem dX12_bestBed_27 : decode cX12_bestBed 27 = .ok (.iconst (-1), 1) := by decide +kernel
theorem dX12_bestBed_28 : decode cX12_bestBed 28 = .ok (.ireturn, 1) := by decide +kernel
theorem dX12_bestBed_29 : decode cX12_bestBed 29 = .ok (.iconst 0, 1) := by decide +kernel
theorem dX12_bestBed_30 : decode cX12_bestBed 30 = .ok (.istore 4, 2) := by decide +kernel
theorem dX12_bestBed_32 : decode cX12_bestBed 32 = .ok (.sipush 9999, 3) := by decide +kernel
theorem dX12_bestBed_35 : decode cX12_bestBed 35 = .ok (.istore 5, 2) := by decide +kernel
theorem dX12_bestBed_37 : decode cX12_bestBed 37 = .ok (.iconst 0, 1) := by decide +kernel
theorem dX12_bestBed_38 : decode cX12_bestBed 38 = .ok (.istore 6, 2) := by decide +kernel
theorem dX12_bestBed_40 : decode cX12_bestBed 40 = .ok (.iload 6, 2) := by decide +kernel
theorem dX12_bestBed_42 : decode cX12_bestBed 42 = .ok (.iconst 4, 1) := by decide +kernel
theorem dX12_bestBed_43 : decode cX12_bestBed 43 = .ok (.if_icmp .ge 83, 3) := by decide +kernel
theorem dX12_bestBed_46 : decode cX12_bestBed 46 = .ok (.aload_n 0, 1) := by decide +kernel
theorem dX12_bestBed_47 : decode cX12_bestBed 47 = .ok (.invokevirtual 138, 3) := by decide +kernel
theorem dX12_bestBed_50 : decode cX12_bestBed 50 = .ok (.aload_n 0, 1) := by decide +kernel
theorem dX12_bestBed_51 : decode cX12_bestBed 51 = .ok (.getfield 26, 3) := by decide +kernel
theorem dX12_bestBed_54 : decode cX12_bestBed 54 = .ok (.bipush 37, 2) := by decide +kernel
theorem dX12_bestBed_56 : decode cX12_bestBed 56 = .ok (.iload_n 1, 1) := by decide +kernel
theorem dX12_bestBed_57 : decode cX12_bestBed 57 = .ok (.iadd, 1) := by decide +kernel
theorem dX12_bestBed_58 : decode cX12_bestBed 58 = .ok (.iload 6, 2) := by decide +kernel
theorem dX12_bestBed_60 : decode cX12_bestBed 60 = .ok (.iastore, 1) := by decide +kernel
theorem dX12_bestBed_61 : decode cX12_bestBed 61 = .ok (.aload_n 0, 1) := by decide +kernel
theorem dX12_bestBed_62 : decode cX12_bestBed 62 = .ok (.iload_n 2, 1) := by decide +kernel
theorem dX12_bestBed_63 : decode cX12_bestBed 63 = .ok (.invokevirtual 145, 3) := by decide +kernel
theorem dX12_bestBed_66 : decode cX12_bestBed 66 = .ok (.pop, 1) := by decide +kernel
theorem dX12_bestBed_67 : decode cX12_bestBed 67 = .ok (.aload_n 0, 1) := by decide +kernel
theorem dX12_bestBed_68 : decode cX12_bestBed 68 = .ok (.getfield 26, 3) := by decide +kernel
theorem dX12_bestBed_71 : decode cX12_bestBed 71 = .ok (.bipush 31, 2) := by decide +kernel
theorem dX12_bestBed_73 : decode cX12_bestBed 73 = .ok (.iload_n 1, 1) := by decide +kernel
theorem dX12_bestBed_74 : decode cX12_bestBed 74 = .ok (.iadd, 1) := by decide +kernel
theorem dX12_bestBed_75 : decode cX12_bestBed 75 = .ok (.iaload, 1) := by decide +kernel
theorem dX12_bestBed_76 : decode cX12_bestBed 76 = .ok (.aload_n 0, 1) := by decide +kernel
theorem dX12_bestBed_77 : decode cX12_bestBed 77 = .ok (.getfield 23, 3) := by decide +kernel
theorem dX12_bestBed_80 : decode cX12_bestBed 80 = .ok (.bipush 31, 2) := by decide +kernel
theorem dX12_bestBed_82 : decode cX12_bestBed 82 = .ok (.iload_n 1, 1) := by decide +kernel
theorem dX12_bestBed_83 : decode cX12_bestBed 83 = .ok (.iadd, 1) := by decide +kernel
theorem dX12_bestBed_84 : decode cX12_bestBed 84 = .ok (.iaload, 1) := by decide +kernel
theorem dX12_bestBed_85 : decode cX12_bestBed 85 = .ok (.isub, 1) := by decide +kernel
theorem dX12_bestBed_86 : decode cX12_bestBed 86 = .ok (.istore 7, 2) := by decide +kernel
theorem dX12_bestBed_88 : decode cX12_bestBed 88 = .ok (.iload 7, 2) := by decide +kernel
theorem dX12_bestBed_90 : decode cX12_bestBed 90 = .ok (.iload 5, 2) := by decide +kernel
theorem dX12_bestBed_92 : decode cX12_bestBed 92 = .ok (.if_icmp .ge 8, 3) := by decide +kernel
theorem dX12_bestBed_95 : decode cX12_bestBed 95 = .ok (.iload 6, 2) := by decide +kernel
theorem dX12_bestBed_97 : decode cX12_bestBed 97 = .ok (.goto 5, 3) := by decide +kernel
theorem dX12_bestBed_100 : decode cX12_bestBed 100 = .ok (.iload 4, 2) := by decide +kernel
theorem dX12_bestBed_102 : decode cX12_bestBed 102 = .ok (.istore 4, 2) := by decide +kernel
theorem dX12_bestBed_104 : decode cX12_bestBed 104 = .ok (.iload 7, 2) := by decide +kernel
theorem dX12_bestBed_106 : decode cX12_bestBed 106 = .ok (.iload 5, 2) := by decide +kernel
theorem dX12_bestBed_108 : decode cX12_bestBed 108 = .ok (.if_icmp .ge 8, 3) := by decide +kernel
theorem dX12_bestBed_111 : decode cX12_bestBed 111 = .ok (.iload 7, 2) := by decide +kernel
theorem dX12_bestBed_113 : decode cX12_bestBed 113 = .ok (.goto 5, 3) := by decide +kernel
theorem dX12_bestBed_116 : decode cX12_bestBed 116 = .ok (.iload 5, 2) := by decide +kernel
theorem dX12_bestBed_118 : decode cX12_bestBed 118 = .ok (.istore 5, 2) := by decide +kernel
theorem dX12_bestBed_120 : decode cX12_bestBed 120 = .ok (.iinc 6 1, 3) := by decide +kernel
theorem dX12_bestBed_123 : decode cX12_bestBed 123 = .ok (.goto (-83), 3) := by decide +kernel
theorem dX12_bestBed_126 : decode cX12_bestBed 126 = .ok (.iload_n 3, 1) := by decide +kernel
theorem dX12_bestBed_127 : decode cX12_bestBed 127 = .ok (.ifCond .ne 8, 3) := by decide +kernel
theorem dX12_bestBed_130 : decode cX12_bestBed 130 = .ok (.iload 4, 2) := by decide +kernel
theorem dX12_bestBed_132 : decode cX12_bestBed 132 = .ok (.goto 5, 3) := by decide +kernel
theorem dX12_bestBed_135 : decode cX12_bestBed 135 = .ok (.iload 5, 2) := by decide +kernel
theorem dX12_bestBed_137 : decode cX12_bestBed 137 = .ok (.ireturn, 1) := by decide +kernel
theorem dX12_change_0 : decode cX12_change 0 = .ok (.iload_n 1, 1) := by decide +kernel
theorem dX12_change_1 : decode cX12_change 1 = .ok (.iconst 1, 1) := by decide +kernel
theorem dX12_change_2 : decode cX12_change 2 = .ok (.bipush 40, 2) := by decide +kernel
theorem dX12_change_4 : decode cX12_change 4 = .ok (.invokestatic 35, 3) := by decide +kernel
theorem dX12_change_7 : decode cX12_change 7 = .ok (.ifCond .eq 12, 3) := by decide +kernel
theorem dX12_change_10 : decode cX12_change 10 = .ok (.iload_n 2, 1) := by decide +kernel
theorem dX12_change_11 : decode cX12_change 11 = .ok (.iconst 0, 1) := by decide +kernel
theorem dX12_change_12 : decode cX12_change 12 = .ok (.iconst 1, 1) := by decide +kernel
theorem dX12_change_13 : decode cX12_change 13 = .ok (.invokestatic 35, 3) := by decide +kernel
theorem dX12_change_16 : decode cX12_change 16 = .ok (.ifCond .ne 5, 3) := by decide +kernel
theorem dX12_change_19 : decode cX12_change 19 = .ok (.iconst (-1), 1) := by decide +kernel
theorem dX12_change_20 : decode cX12_change 20 = .ok (.ireturn, 1) := by decide +kernel
theorem dX12_change_21 : decode cX12_change 21 = .ok (.aload_n 0, 1) := by decide +kernel
theorem dX12_change_22 : decode cX12_change 22 = .ok (.invokevirtual 138, 3) := by decide +kernel
theorem dX12_change_25 : decode cX12_change 25 = .ok (.aload_n 0, 1) := by decide +kernel
theorem dX12_change_26 : decode cX12_change 26 = .ok (.iload_n 1, 1) := by decide +kernel
theorem dX12_change_27 : decode cX12_change 27 = .ok (.invokevirtual 145, 3) := by decide +kernel
theorem dX12_change_30 : decode cX12_change 30 = .ok (.istore_n 3, 1) := by decide +kernel
theorem dX12_change_31 : decode cX12_change 31 = .ok (.bipush (-4), 2) := by decide +kernel
theorem dX12_change_33 : decode cX12_change 33 = .ok (.istore 4, 2) := by decide +kernel
theorem dX12_change_35 : decode cX12_change 35 = .ok (.iconst 0, 1) := by decide +kernel
theorem dX12_change_36 : decode cX12_change 36 = .ok (.istore 5, 2) := by decide +kernel
theorem dX12_change_38 : decode cX12_change 38 = .ok (.iload 5, 2) := by decide +kernel
theorem dX12_change_40 : decode cX12_change 40 = .ok (.iconst 4, 1) := by decide +kernel
theorem dX12_change_41 : decode cX12_change 41 = .ok (.if_icmp .ge 139, 3) := by decide +kernel
theorem dX12_change_44 : decode cX12_change 44 = .ok (.iload 5, 2) := by decide +kernel
theorem dX12_change_46 : decode cX12_change 46 = .ok (.iconst 1, 1) := by decide +kernel
theorem dX12_change_47 : decode cX12_change 47 = .ok (.iadd, 1) := by decide +kernel
theorem dX12_change_48 : decode cX12_change 48 = .ok (.istore 6, 2) := by decide +kernel
theorem dX12_change_50 : decode cX12_change 50 = .ok (.iload 6, 2) := by decide +kernel
theorem dX12_change_52 : decode cX12_change 52 = .ok (.iconst 4, 1) := by decide +kernel
theorem dX12_change_53 : decode cX12_change 53 = .ok (.if_icmp .ge 121, 3) := by decide +kernel
theorem dX12_change_56 : decode cX12_change 56 = .ok (.aload_n 0, 1) := by decide +kernel
theorem dX12_change_57 : decode cX12_change 57 = .ok (.invokevirtual 138, 3) := by decide +kernel
theorem dX12_change_60 : decode cX12_change 60 = .ok (.iconst 0, 1) := by decide +kernel
theorem dX12_change_61 : decode cX12_change 61 = .ok (.istore 7, 2) := by decide +kernel
theorem dX12_change_63 : decode cX12_change 63 = .ok (.iload 7, 2) := by decide +kernel
theorem dX12_change_65 : decode cX12_change 65 = .ok (.aload_n 0, 1) := by decide +kernel
theorem dX12_change_66 : decode cX12_change 66 = .ok (.getfield 23, 3) := by decide +kernel
theorem dX12_change_69 : decode cX12_change 69 = .ok (.bipush 47, 2) := by decide +kernel
theorem dX12_change_71 : decode cX12_change 71 = .ok (.iaload, 1) := by decide +kernel
theorem dX12_change_72 : decode cX12_change 72 = .ok (.if_icmp .ge 55, 3) := by decide +kernel
theorem dX12_change_75 : decode cX12_change 75 = .ok (.aload_n 0, 1) := by decide +kernel
theorem dX12_change_76 : decode cX12_change 76 = .ok (.getfield 23, 3) := by decide +kernel
theorem dX12_change_79 : decode cX12_change 79 = .ok (.iconst 2, 1) := by decide +kernel
theorem dX12_change_80 : decode cX12_change 80 = .ok (.iload 7, 2) := by decide +kernel
theorem dX12_change_82 : decode cX12_change 82 = .ok (.iadd, 1) := by decide +kernel
theorem dX12_change_83 : decode cX12_change 83 = .ok (.iaload, 1) := by decide +kernel
theorem dX12_change_84 : decode cX12_change 84 = .ok (.istore 8, 2) := by decide +kernel
theorem dX12_change_86 : decode cX12_change 86 = .ok (.aload_n 0, 1) := by decide +kernel
theorem dX12_change_87 : decode cX12_change 87 = .ok (.getfield 26, 3) := by decide +kernel
theorem dX12_change_90 : decode cX12_change 90 = .ok (.iconst 2, 1) := by decide +kernel
theorem dX12_change_91 : decode cX12_change 91 = .ok (.iload 7, 2) := by decide +kernel
theorem dX12_change_93 : decode cX12_change 93 = .ok (.iadd, 1) := by decide +kernel
theorem dX12_change_94 : decode cX12_change 94 = .ok (.iload 8, 2) := by decide +kernel
theorem dX12_change_96 : decode cX12_change 96 = .ok (.iload 5, 2) := by decide +kernel
theorem dX12_change_98 : decode cX12_change 98 = .ok (.if_icmp .ne 8, 3) := by decide +kernel
theorem dX12_change_101 : decode cX12_change 101 = .ok (.iload 6, 2) := by decide +kernel
theorem dX12_change_103 : decode cX12_change 103 = .ok (.goto 17, 3) := by decide +kernel
theorem dX12_change_106 : decode cX12_change 106 = .ok (.iload 8, 2) := by decide +kernel
theorem dX12_change_108 : decode cX12_change 108 = .ok (.iload 6, 2) := by decide +kernel
theorem dX12_change_110 : decode cX12_change 110 = .ok (.if_icmp .ne 8, 3) := by decide +kernel
theorem dX12_change_113 : decode cX12_change 113 = .ok (.iload 5, 2) := by decide +kernel
theorem dX12_change_115 : decode cX12_change 115 = .ok (.goto 5, 3) := by decide +kernel
theorem dX12_change_118 : decode cX12_change 118 = .ok (.iload 8, 2) := by decide +kernel
theorem dX12_change_120 : decode cX12_change 120 = .ok (.iastore, 1) := by decide +kernel
theorem dX12_change_121 : decode cX12_change 121 = .ok (.iinc 7 1, 3) := by decide +kernel
theorem dX12_change_124 : decode cX12_change 124 = .ok (.goto (-61), 3) := by decide +kernel
theorem dX12_change_127 : decode cX12_change 127 = .ok (.aload_n 0, 1) := by decide +kernel
theorem dX12_change_128 : decode cX12_change 128 = .ok (.iload_n 1, 1) := by decide +kernel
theorem dX12_change_129 : decode cX12_change 129 = .ok (.invokevirtual 145, 3) := by decide +kernel
theorem dX12_change_132 : decode cX12_change 132 = .ok (.istore 7, 2) := by decide +kernel
theorem dX12_change_134 : decode cX12_change 134 = .ok (.iload 7, 2) := by decide +kernel
theorem dX12_change_136 : decode cX12_change 136 = .ok (.iload_n 3, 1) := by decide +kernel
theorem dX12_change_137 : decode cX12_change 137 = .ok (.if_icmp .ge 14, 3) := by decide +kernel
theorem dX12_change_140 : decode cX12_change 140 = .ok (.bipush 10, 2) := by decide +kernel
theorem dX12_change_142 : decode cX12_change 142 = .ok (.iload 5, 2) := by decide +kernel
theorem dX12_change_144 : decode cX12_change 144 = .ok (.imul, 1) := by decide +kernel
theorem dX12_change_145 : decode cX12_change 145 = .ok (.iload 6, 2) := by decide +kernel
theorem dX12_change_147 : decode cX12_change 147 = .ok (.iadd, 1) := by decide +kernel
theorem dX12_change_148 : decode cX12_change 148 = .ok (.goto 5, 3) := by decide +kernel
theorem dX12_change_151 : decode cX12_change 151 = .ok (.iload 4, 2) := by decide +kernel
theorem dX12_change_153 : decode cX12_change 153 = .ok (.istore 4, 2) := by decide +kernel
theorem dX12_change_155 : decode cX12_change 155 = .ok (.iload 7, 2) := by decide +kernel
theorem dX12_change_157 : decode cX12_change 157 = .ok (.iload_n 3, 1) := by decide +kernel
theorem dX12_change_158 : decode cX12_change 158 = .ok (.if_icmp .ge 8, 3) := by decide +kernel
theorem dX12_change_161 : decode cX12_change 161 = .ok (.iload 7, 2) := by decide +kernel
theorem dX12_change_163 : decode cX12_change 163 = .ok (.goto 4, 3) := by decide +kernel
theorem dX12_change_166 : decode cX12_change 166 = .ok (.iload_n 3, 1) := by decide +kernel
theorem dX12_change_167 : decode cX12_change 167 = .ok (.istore_n 3, 1) := by decide +kernel
theorem dX12_change_168 : decode cX12_change 168 = .ok (.iinc 6 1, 3) := by decide +kernel
theorem dX12_change_171 : decode cX12_change 171 = .ok (.goto (-121), 3) := by decide +kernel
theorem dX12_change_174 : decode cX12_change 174 = .ok (.iinc 5 1, 3) := by decide +kernel
theorem dX12_change_177 : decode cX12_change 177 = .ok (.goto (-139), 3) := by decide +kernel
theorem dX12_change_180 : decode cX12_change 180 = .ok (.iload 4, 2) := by decide +kernel
theorem dX12_change_182 : decode cX12_change 182 = .ok (.bipush (-4), 2) := by decide +kernel
theorem dX12_change_184 : decode cX12_change 184 = .ok (.if_icmp .eq 7, 3) := by decide +kernel
theorem dX12_change_187 : decode cX12_change 187 = .ok (.iload_n 2, 1) := by decide +kernel
theorem dX12_change_188 : decode cX12_change 188 = .ok (.ifCond .ne 8, 3) := by decide +kernel
theorem dX12_change_191 : decode cX12_change 191 = .ok (.iload 4, 2) := by decide +kernel
theorem dX12_change_193 : decode cX12_change 193 = .ok (.goto 4, 3) := by decide +kernel
theorem dX12_change_196 : decode cX12_change 196 = .ok (.iload_n 3, 1) := by decide +kernel
theorem dX12_change_197 : decode cX12_change 197 = .ok (.ireturn, 1) := by decide +kernel
theorem dX12_backs_0 : decode cX12_backs 0 = .ok (.iload_n 1, 1) := by decide +kernel
theorem dX12_backs_1 : decode cX12_backs 1 = .ok (.iconst 1, 1) := by decide +kernel
theorem dX12_backs_2 : decode cX12_backs 2 = .ok (.bipush 40, 2) := by decide +kernel
theorem dX12_backs_4 : decode cX12_backs 4 = .ok (.invokestatic 35, 3) := by decide +kernel
theorem dX12_backs_7 : decode cX12_backs 7 = .ok (.ifCond .eq 12, 3) := by decide +kernel
theorem dX12_backs_10 : decode cX12_backs 10 = .ok (.iload_n 2, 1) := by decide +kernel
theorem dX12_backs_11 : decode cX12_backs 11 = .ok (.iconst 0, 1) := by decide +kernel
theorem dX12_backs_12 : decode cX12_backs 12 = .ok (.iconst 1, 1) := by decide +kernel
theorem dX12_backs_13 : decode cX12_backs 13 = .ok (.invokestatic 35, 3) := by decide +kernel
theorem dX12_backs_16 : decode cX12_backs 16 = .ok (.ifCond .ne 5, 3) := by decide +kernel
theorem dX12_backs_19 : decode cX12_backs 19 = .ok (.iconst (-1), 1) := by decide +kernel
theorem dX12_backs_20 : decode cX12_backs 20 = .ok (.ireturn, 1) := by decide +kernel
theorem dX12_backs_21 : decode cX12_backs 21 = .ok (.bipush (-4), 2) := by decide +kernel
theorem dX12_backs_23 : decode cX12_backs 23 = .ok (.istore_n 3, 1) := by decide +kernel
theorem dX12_backs_24 : decode cX12_backs 24 = .ok (.iconst 0, 1) := by decide +kernel
theorem dX12_backs_25 : decode cX12_backs 25 = .ok (.istore 4, 2) := by decide +kernel
theorem dX12_backs_27 : decode cX12_backs 27 = .ok (.iload 4, 2) := by decide +kernel
theorem dX12_backs_29 : decode cX12_backs 29 = .ok (.iconst 1, 1) := by decide +kernel
theorem dX12_backs_30 : decode cX12_backs 30 = .ok (.aload_n 0, 1) := by decide +kernel
theorem dX12_backs_31 : decode cX12_backs 31 = .ok (.getfield 23, 3) := by decide +kernel
theorem dX12_backs_34 : decode cX12_backs 34 = .ok (.bipush 47, 2) := by decide +kernel
theorem dX12_backs_36 : decode cX12_backs 36 = .ok (.iaload, 1) := by decide +kernel
theorem dX12_backs_37 : decode cX12_backs 37 = .ok (.ishl, 1) := by decide +kernel
theorem dX12_backs_38 : decode cX12_backs 38 = .ok (.if_icmp .ge 101, 3) := by decide +kernel
theorem dX12_backs_41 : decode cX12_backs 41 = .ok (.iload_n 3, 1) := by decide +kernel
theorem dX12_backs_42 : decode cX12_backs 42 = .ok (.bipush (-4), 2) := by decide +kernel
theorem dX12_backs_44 : decode cX12_backs 44 = .ok (.if_icmp .eq 15, 3) := by decide +kernel
theorem dX12_backs_47 : decode cX12_backs 47 = .ok (.iload 4, 2) := by decide +kernel
theorem dX12_backs_49 : decode cX12_backs 49 = .ok (.invokestatic 148, 3) := by decide +kernel
theorem dX12_backs_52 : decode cX12_backs 52 = .ok (.iload_n 3, 1) := by decide +kernel
theorem dX12_backs_53 : decode cX12_backs 53 = .ok (.invokestatic 148, 3) := by decide +kernel
theorem dX12_backs_56 : decode cX12_backs 56 = .ok (.if_icmp .ge 77, 3) := by decide +kernel
theorem dX12_backs_59 : decode cX12_backs 59 = .ok (.aload_n 0, 1) := by decide +kernel
theorem dX12_backs_60 : decode cX12_backs 60 = .ok (.invokevirtual 138, 3) := by decide +kernel
theorem dX12_backs_63 : decode cX12_backs 63 = .ok (.iconst 0, 1) := by decide +kernel
theorem dX12_backs_64 : decode cX12_backs 64 = .ok (.istore 5, 2) := by decide +kernel
theorem dX12_backs_66 : decode cX12_backs 66 = .ok (.iload 5, 2) := by decide +kernel
theorem dX12_backs_68 : decode cX12_backs 68 = .ok (.aload_n 0, 1) := by decide +kernel
theorem dX12_backs_69 : decode cX12_backs 69 = .ok (.getfield 23, 3) := by decide +kernel
theorem dX12_backs_72 : decode cX12_backs 72 = .ok (.bipush 47, 2) := by decide +kernel
theorem dX12_backs_74 : decode cX12_backs 74 = .ok (.iaload, 1) := by decide +kernel
theorem dX12_backs_75 : decode cX12_backs 75 = .ok (.if_icmp .ge 43, 3) := by decide +kernel
theorem dX12_backs_78 : decode cX12_backs 78 = .ok (.aload_n 0, 1) := by decide +kernel
theorem dX12_backs_79 : decode cX12_backs 79 = .ok (.getfield 26, 3) := by decide +kernel
theorem dX12_backs_82 : decode cX12_backs 82 = .ok (.bipush 18, 2) := by decide +kernel
theorem dX12_backs_84 : decode cX12_backs 84 = .ok (.iload 5, 2) := by decide +kernel
theorem dX12_backs_86 : decode cX12_backs 86 = .ok (.iadd, 1) := by decide +kernel
theorem dX12_backs_87 : decode cX12_backs 87 = .ok (.iload 4, 2) := by decide +kernel
theorem dX12_backs_89 : decode cX12_backs 89 = .ok (.iload 5, 2) := by decide +kernel
theorem dX12_backs_91 : decode cX12_backs 91 = .ok (.invokestatic 151, 3) := by decide +kernel
theorem dX12_backs_94 : decode cX12_backs 94 = .ok (.ifCond .eq 7, 3) := by decide +kernel
theorem dX12_backs_97 : decode cX12_backs 97 = .ok (.iconst 0, 1) := by decide +kernel
theorem dX12_backs_98 : decode cX12_backs 98 = .ok (.goto 13, 3) := by decide +kernel
theorem dX12_backs_101 : decode cX12_backs 101 = .ok (.aload_n 0, 1) := by decide +kernel
theorem dX12_backs_102 : decode cX12_backs 102 = .ok (.getfield 26, 3) := by decide +kernel
theorem dX12_backs_105 : decode cX12_backs 105 = .ok (.bipush 18, 2) := by decide +kernel
theorem dX12_backs_107 : decode cX12_backs 107 = .ok (.iload 5, 2) := by decide +kernel
theorem dX12_backs_109 : decode cX12_backs 109 = .ok (.iadd, 1) := by decide +kernel
theorem dX12_backs_110 : decode cX12_backs 110 = .ok (.iaload, 1) := by decide +kernel
theorem dX12_backs_111 : decode cX12_backs 111 = .ok (.iastore, 1) := by decide +kernel
theorem dX12_backs_112 : decode cX12_backs 112 = .ok (.iinc 5 1, 3) := by decide +kernel
theorem dX12_backs_115 : decode cX12_backs 115 = .ok (.goto (-49), 3) := by decide +kernel
theorem dX12_backs_118 : decode cX12_backs 118 = .ok (.aload_n 0, 1) := by decide +kernel
theorem dX12_backs_119 : decode cX12_backs 119 = .ok (.iload_n 1, 1) := by decide +kernel
theorem dX12_backs_120 : decode cX12_backs 120 = .ok (.invokevirtual 145, 3) := by decide +kernel
theorem dX12_backs_123 : decode cX12_backs 123 = .ok (.ifCond .ne 8, 3) := by decide +kernel
theorem dX12_backs_126 : decode cX12_backs 126 = .ok (.iload 4, 2) := by decide +kernel
theorem dX12_backs_128 : decode cX12_backs 128 = .ok (.goto 4, 3) := by decide +kernel
theorem dX12_backs_131 : decode cX12_backs 131 = .ok (.iload_n 3, 1) := by decide +kernel
theorem dX12_backs_132 : decode cX12_backs 132 = .ok (.istore_n 3, 1) := by decide +kernel
theorem dX12_backs_133 : decode cX12_backs 133 = .ok (.iinc 4 1, 3) := by decide +kernel
theorem dX12_backs_136 : decode cX12_backs 136 = .ok (.goto (-109), 3) := by decide +kernel
theorem dX12_backs_139 : decode cX12_backs 139 = .ok (.iload_n 3, 1) := by decide +kernel
theorem dX12_backs_140 : decode cX12_backs 140 = .ok (.bipush (-4), 2) := by decide +kernel
theorem dX12_backs_142 : decode cX12_backs 142 = .ok (.if_icmp .eq 8, 3) := by decide +kernel
theorem dX12_backs_145 : decode cX12_backs 145 = .ok (.iload_n 2, 1) := by decide +kernel
theorem dX12_backs_146 : decode cX12_backs 146 = .ok (.iconst 1, 1) := by decide +kernel
theorem dX12_backs_147 : decode cX12_backs 147 = .ok (.if_icmp .ne 7, 3) := by decide +kernel
theorem dX12_backs_150 : decode cX12_backs 150 = .ok (.iload_n 3, 1) := by decide +kernel
theorem dX12_backs_151 : decode cX12_backs 151 = .ok (.goto 7, 3) := by decide +kernel
theorem dX12_backs_154 : decode cX12_backs 154 = .ok (.iload_n 3, 1) := by decide +kernel
theorem dX12_backs_155 : decode cX12_backs 155 = .ok (.invokestatic 148, 3) := by decide +kernel
theorem dX12_backs_158 : decode cX12_backs 158 = .ok (.ireturn, 1) := by decide +kernel
theorem dX12_luck_0 : decode cX12_luck 0 = .ok (.aload_n 0, 1) := by decide +kernel
theorem dX12_luck_1 : decode cX12_luck 1 = .ok (.iload_n 1, 1) := by decide +kernel
theorem dX12_luck_2 : decode cX12_luck 2 = .ok (.invokevirtual 66, 3) := by decide +kernel
theorem dX12_luck_5 : decode cX12_luck 5 = .ok (.ifCond .eq 22, 3) := by decide +kernel
theorem dX12_luck_8 : decode cX12_luck 8 = .ok (.iload_n 2, 1) := by decide +kernel
theorem dX12_luck_9 : decode cX12_luck 9 = .ok (.iconst 0, 1) := by decide +kernel
theorem dX12_luck_10 : decode cX12_luck 10 = .ok (.bipush 10, 2) := by decide +kernel
theorem dX12_luck_12 : decode cX12_luck 12 = .ok (.invokestatic 35, 3) := by decide +kernel
theorem dX12_luck_15 : decode cX12_luck 15 = .ok (.ifCond .eq 12, 3) := by decide +kernel
theorem dX12_luck_18 : decode cX12_luck 18 = .ok (.iload_n 3, 1) := by decide +kernel
theorem dX12_luck_19 : decode cX12_luck 19 = .ok (.iconst 0, 1) := by decide +kernel
theorem dX12_luck_20 : decode cX12_luck 20 = .ok (.iconst 1, 1) := by decide +kernel
theorem dX12_luck_21 : decode cX12_luck 21 = .ok (.invokestatic 35, 3) := by decide +kernel
theorem dX12_luck_24 : decode cX12_luck 24 = .ok (.ifCond .ne 5, 3) := by decide +kernel
theorem dX12_luck_27 : decode cX12_luck 27 = .ok (.iconst (-1), 1) := by decide +kernel
theorem dX12_luck_28 : decode cX12_luck 28 = .ok (.ireturn, 1) := by decide +kernel
theorem dX12_luck_29 : decode cX12_luck 29 = .ok (.iconst 0, 1) := by decide +kernel
theorem dX12_luck_30 : decode cX12_luck 30 = .ok (.istore 4, 2) := by decide +kernel
theorem dX12_luck_32 : decode cX12_luck 32 = .ok (.iconst 1, 1) := by decide +kernel
theorem dX12_luck_33 : decode cX12_luck 33 = .ok (.istore 5, 2) := by decide +kernel
theorem dX12_luck_35 : decode cX12_luck 35 = .ok (.iconst 0, 1) := by decide +kernel
theorem dX12_luck_36 : decode cX12_luck 36 = .ok (.istore 6, 2) := by decide +kernel
theorem dX12_luck_38 : decode cX12_luck 38 = .ok (.iload 6, 2) := by decide +kernel
theorem dX12_luck_40 : decode cX12_luck 40 = .ok (.aload_n 0, 1) := by decide +kernel
theorem dX12_luck_41 : decode cX12_luck 41 = .ok (.getfield 23, 3) := by decide +kernel
theorem dX12_luck_44 : decode cX12_luck 44 = .ok (.bipush 47, 2) := by decide +kernel
theorem dX12_luck_46 : decode cX12_luck 46 = .ok (.iaload, 1) := by decide +kernel
theorem dX12_luck_47 : decode cX12_luck 47 = .ok (.if_icmp .ge 16, 3) := by decide +kernel
theorem dX12_luck_50 : decode cX12_luck 50 = .ok (.iload 5, 2) := by decide +kernel
theorem dX12_luck_52 : decode cX12_luck 52 = .ok (.bipush 10, 2) := by decide +kernel
theorem dX12_luck_54 : decode cX12_luck 54 = .ok (.imul, 1) := by decide +kernel
theorem dX12_luck_55 : decode cX12_luck 55 = .ok (.istore 5, 2) := by decide +kernel
theorem dX12_luck_57 : decode cX12_luck 57 = .ok (.iinc 6 1, 3) := by decide +kernel
theorem dX12_luck_60 : decode cX12_luck 60 = .ok (.goto (-22), 3) := by decide +kernel
theorem dX12_luck_63 : decode cX12_luck 63 = .ok (.iconst 0, 1) := by decide +kernel
theorem dX12_luck_64 : decode cX12_luck 64 = .ok (.istore 6, 2) := by decide +kernel
theorem dX12_luck_66 : decode cX12_luck 66 = .ok (.iload 6, 2) := by decide +kernel
theorem dX12_luck_68 : decode cX12_luck 68 = .ok (.iconst 1, 1) := by decide +kernel
theorem dX12_luck_69 : decode cX12_luck 69 = .ok (.aload_n 0, 1) := by decide +kernel
theorem dX12_luck_70 : decode cX12_luck 70 = .ok (.getfield 23, 3) := by decide +kernel
theorem dX12_luck_73 : decode cX12_luck 73 = .ok (.bipush 47, 2) := by decide +kernel
theorem dX12_luck_75 : decode cX12_luck 75 = .ok (.iaload, 1) := by decide +kernel
theorem dX12_luck_76 : decode cX12_luck 76 = .ok (.ishl, 1) := by decide +kernel
theorem dX12_luck_77 : decode cX12_luck 77 = .ok (.if_icmp .ge 133, 3) := by decide +kernel
theorem dX12_luck_80 : decode cX12_luck 80 = .ok (.iconst 1, 1) := by decide +kernel
theorem dX12_luck_81 : decode cX12_luck 81 = .ok (.istore 7, 2) := by decide +kernel
theorem dX12_luck_83 : decode cX12_luck 83 = .ok (.iconst 0, 1) := by decide +kernel
theorem dX12_luck_84 : decode cX12_luck 84 = .ok (.istore 8, 2) := by decide +kernel
theorem dX12_luck_86 : decode cX12_luck 86 = .ok (.iconst 0, 1) := by decide +kernel
theorem dX12_luck_87 : decode cX12_luck 87 = .ok (.istore 9, 2) := by decide +kernel
theorem dX12_luck_89 : decode cX12_luck 89 = .ok (.iload 9, 2) := by decide +kernel
theorem dX12_luck_91 : decode cX12_luck 91 = .ok (.aload_n 0, 1) := by decide +kernel
theorem dX12_luck_92 : decode cX12_luck 92 = .ok (.getfield 23, 3) := by decide +kernel
theorem dX12_luck_95 : decode cX12_luck 95 = .ok (.bipush 47, 2) := by decide +kernel
theorem dX12_luck_97 : decode cX12_luck 97 = .ok (.iaload, 1) := by decide +kernel
theorem dX12_luck_98 : decode cX12_luck 98 = .ok (.if_icmp .ge 81, 3) := by decide +kernel
theorem dX12_luck_101 : decode cX12_luck 101 = .ok (.iload 7, 2) := by decide +kernel
theorem dX12_luck_103 : decode cX12_luck 103 = .ok (.iload 6, 2) := by decide +kernel
theorem dX12_luck_105 : decode cX12_luck 105 = .ok (.iload 9, 2) := by decide +kernel
theorem dX12_luck_107 : decode cX12_luck 107 = .ok (.invokestatic 151, 3) := by decide +kernel
theorem dX12_luck_110 : decode cX12_luck 110 = .ok (.ifCond .eq 7, 3) := by decide +kernel
theorem dX12_luck_113 : decode cX12_luck 113 = .ok (.iload_n 2, 1) := by decide +kernel
theorem dX12_luck_114 : decode cX12_luck 114 = .ok (.goto 7, 3) := by decide +kernel
theorem dX12_luck_117 : decode cX12_luck 117 = .ok (.bipush 10, 2) := by decide +kernel
theorem dX12_luck_119 : decode cX12_luck 119 = .ok (.iload_n 2, 1) := by decide +kernel
theorem dX12_luck_120 : decode cX12_luck 120 = .ok (.isub, 1) := by decide +kernel
theorem dX12_luck_121 : decode cX12_luck 121 = .ok (.imul, 1) := by decide +kernel
theorem dX12_luck_122 : decode cX12_luck 122 = .ok (.istore 7, 2) := by decide +kernel
theorem dX12_luck_124 : decode cX12_luck 124 = .ok (.iload 8, 2) := by decide +kernel
theorem dX12_luck_126 : decode cX12_luck 126 = .ok (.iload 6, 2) := by decide +kernel
theorem dX12_luck_128 : decode cX12_luck 128 = .ok (.iload 9, 2) := by decide +kernel
theorem dX12_luck_130 : decode cX12_luck 130 = .ok (.invokestatic 151, 3) := by decide +kernel
theorem dX12_luck_133 : decode cX12_luck 133 = .ok (.ifCond .ne 36, 3) := by decide +kernel
theorem dX12_luck_136 : decode cX12_luck 136 = .ok (.aload_n 0, 1) := by decide +kernel
theorem dX12_luck_137 : decode cX12_luck 137 = .ok (.getfield 23, 3) := by decide +kernel
theorem dX12_luck_140 : decode cX12_luck 140 = .ok (.iconst 2, 1) := by decide +kernel
theorem dX12_luck_141 : decode cX12_luck 141 = .ok (.iload 9, 2) := by decide +kernel
theorem dX12_luck_143 : decode cX12_luck 143 = .ok (.iadd, 1) := by decide +kernel
theorem dX12_luck_144 : decode cX12_luck 144 = .ok (.iaload, 1) := by decide +kernel
theorem dX12_luck_145 : decode cX12_luck 145 = .ok (.aload_n 0, 1) := by decide +kernel
theorem dX12_luck_146 : decode cX12_luck 146 = .ok (.getfield 23, 3) := by decide +kernel
theorem dX12_luck_149 : decode cX12_luck 149 = .ok (.bipush 37, 2) := by decide +kernel
theorem dX12_luck_151 : decode cX12_luck 151 = .ok (.iload_n 1, 1) := by decide +kernel
theorem dX12_luck_152 : decode cX12_luck 152 = .ok (.iadd, 1) := by decide +kernel
theorem dX12_luck_153 : decode cX12_luck 153 = .ok (.iaload, 1) := by decide +kernel
theorem dX12_luck_154 : decode cX12_luck 154 = .ok (.if_icmp .ne 15, 3) := by decide +kernel
theorem dX12_luck_157 : decode cX12_luck 157 = .ok (.aload_n 0, 1) := by decide +kernel
theorem dX12_luck_158 : decode cX12_luck 158 = .ok (.getfield 23, 3) := by decide +kernel
theorem dX12_luck_161 : decode cX12_luck 161 = .ok (.iload 9, 2) := by decide +kernel
theorem dX12_luck_163 : decode cX12_luck 163 = .ok (.invokestatic 59, 3) := by decide +kernel
theorem dX12_luck_166 : decode cX12_luck 166 = .ok (.goto 4, 3) := by decide +kernel
theorem dX12_luck_169 : decode cX12_luck 169 = .ok (.iconst 0, 1) := by decide +kernel
theorem dX12_luck_170 : decode cX12_luck 170 = .ok (.iadd, 1) := by decide +kernel
theorem dX12_luck_171 : decode cX12_luck 171 = .ok (.istore 8, 2) := by decide +kernel
theorem dX12_luck_173 : decode cX12_luck 173 = .ok (.iinc 9 1, 3) := by decide +kernel
theorem dX12_luck_176 : decode cX12_luck 176 = .ok (.goto (-87), 3) := by decide +kernel
theorem dX12_luck_179 : decode cX12_luck 179 = .ok (.iload 4, 2) := by decide +kernel
theorem dX12_luck_181 : decode cX12_luck 181 = .ok (.iload 8, 2) := by decide +kernel
theorem dX12_luck_183 : decode cX12_luck 183 = .ok (.aload_n 0, 1) := by decide +kernel
theorem dX12_luck_184 : decode cX12_luck 184 = .ok (.getfield 23, 3) := by decide +kernel
theorem dX12_luck_187 : decode cX12_luck 187 = .ok (.bipush 42, 2) := by decide +kernel
theorem dX12_luck_189 : decode cX12_luck 189 = .ok (.iload_n 1, 1) := by decide +kernel
theorem dX12_luck_190 : decode cX12_luck 190 = .ok (.iadd, 1) := by decide +kernel
theorem dX12_luck_191 : decode cX12_luck 191 = .ok (.iaload, 1) := by decide +kernel
theorem dX12_luck_192 : decode cX12_luck 192 = .ok (.if_icmp .gt 8, 3) := by decide +kernel
theorem dX12_luck_195 : decode cX12_luck 195 = .ok (.iload 7, 2) := by decide +kernel
theorem dX12_luck_197 : decode cX12_luck 197 = .ok (.goto 4, 3) := by decide +kernel
theorem dX12_luck_200 : decode cX12_luck 200 = .ok (.iconst 0, 1) := by decide +kernel
theorem dX12_luck_201 : decode cX12_luck 201 = .ok (.iadd, 1) := by decide +kernel
theorem dX12_luck_202 : decode cX12_luck 202 = .ok (.istore 4, 2) := by decide +kernel
theorem dX12_luck_204 : decode cX12_luck 204 = .ok (.iinc 6 1, 3) := by decide +kernel
theorem dX12_luck_207 : decode cX12_luck 207 = .ok (.goto (-141), 3) := by decide +kernel
theorem dX12_luck_210 : decode cX12_luck 210 = .ok (.iload 4, 2) := by decide +kernel
theorem dX12_luck_212 : decode cX12_luck 212 = .ok (.istore 6, 2) := by decide +kernel
theorem dX12_luck_214 : decode cX12_luck 214 = .ok (.iload 5, 2) := by decide +kernel
theorem dX12_luck_216 : decode cX12_luck 216 = .ok (.istore 7, 2) := by decide +kernel
theorem dX12_luck_218 : decode cX12_luck 218 = .ok (.iload 7, 2) := by decide +kernel
theorem dX12_luck_220 : decode cX12_luck 220 = .ok (.ifCond .le 21, 3) := by decide +kernel
theorem dX12_luck_223 : decode cX12_luck 223 = .ok (.iload 6, 2) := by decide +kernel
theorem dX12_luck_225 : decode cX12_luck 225 = .ok (.iload 7, 2) := by decide +kernel
theorem dX12_luck_227 : decode cX12_luck 227 = .ok (.irem, 1) := by decide +kernel
theorem dX12_luck_228 : decode cX12_luck 228 = .ok (.istore 8, 2) := by decide +kernel
theorem dX12_luck_230 : decode cX12_luck 230 = .ok (.iload 7, 2) := by decide +kernel
theorem dX12_luck_232 : decode cX12_luck 232 = .ok (.istore 6, 2) := by decide +kernel
theorem dX12_luck_234 : decode cX12_luck 234 = .ok (.iload 8, 2) := by decide +kernel
theorem dX12_luck_236 : decode cX12_luck 236 = .ok (.istore 7, 2) := by decide +kernel
theorem dX12_luck_238 : decode cX12_luck 238 = .ok (.goto (-20), 3) := by decide +kernel
theorem dX12_luck_241 : decode cX12_luck 241 = .ok (.iload_n 3, 1) := by decide +kernel
theorem dX12_luck_242 : decode cX12_luck 242 = .ok (.ifCond .ne 8, 3) := by decide +kernel
theorem dX12_luck_245 : decode cX12_luck 245 = .ok (.iload 4, 2) := by decide +kernel
theorem dX12_luck_247 : decode cX12_luck 247 = .ok (.goto 5, 3) := by decide +kernel
theorem dX12_luck_250 : decode cX12_luck 250 = .ok (.iload 5, 2) := by decide +kernel
theorem dX12_luck_252 : decode cX12_luck 252 = .ok (.iload 6, 2) := by decide +kernel
theorem dX12_luck_254 : decode cX12_luck 254 = .ok (.idiv, 1) := by decide +kernel
theorem dX12_luck_255 : decode cX12_luck 255 = .ok (.ireturn, 1) := by decide +kernel
theorem dX12_thanked_0 : decode cX12_thanked 0 = .ok (.iload_n 1, 1) := by decide +kernel
theorem dX12_thanked_1 : decode cX12_thanked 1 = .ok (.iconst 0, 1) := by decide +kernel
theorem dX12_thanked_2 : decode cX12_thanked 2 = .ok (.bipush 9, 2) := by decide +kernel
theorem dX12_thanked_4 : decode cX12_thanked 4 = .ok (.invokestatic 35, 3) := by decide +kernel
theorem dX12_thanked_7 : decode cX12_thanked 7 = .ok (.ifCond .ne 5, 3) := by decide +kernel
theorem dX12_thanked_10 : decode cX12_thanked 10 = .ok (.iconst (-1), 1) := by decide +kernel
theorem dX12_thanked_11 : decode cX12_thanked 11 = .ok (.ireturn, 1) := by decide +kernel
theorem dX12_thanked_12 : decode cX12_thanked 12 = .ok (.iconst 0, 1) := by decide +kernel
theorem dX12_thanked_13 : decode cX12_thanked 13 = .ok (.istore_n 2, 1) := by decide +kernel
theorem dX12_thanked_14 : decode cX12_thanked 14 = .ok (.iconst 0, 1) := by decide +kernel
theorem dX12_thanked_15 : decode cX12_thanked 15 = .ok (.istore_n 3, 1) := by decide +kernel
theorem dX12_thanked_16 : decode cX12_thanked 16 = .ok (.iload_n 3, 1) := by decide +kernel
theorem dX12_thanked_17 : decode cX12_thanked 17 = .ok (.aload_n 0, 1) := by decide +kernel
theorem dX12_thanked_18 : decode cX12_thanked 18 = .ok (.getfield 23, 3) := by decide +kernel
theorem dX12_thanked_21 : decode cX12_thanked 21 = .ok (.bipush 47, 2) := by decide +kernel
theorem dX12_thanked_23 : decode cX12_thanked 23 = .ok (.iaload, 1) := by decide +kernel
theorem dX12_thanked_24 : decode cX12_thanked 24 = .ok (.if_icmp .ge 37, 3) := by decide +kernel
theorem dX12_thanked_27 : decode cX12_thanked 27 = .ok (.iload_n 2, 1) := by decide +kernel
theorem dX12_thanked_28 : decode cX12_thanked 28 = .ok (.aload_n 0, 1) := by decide +kernel
theorem dX12_thanked_29 : decode cX12_thanked 29 = .ok (.getfield 23, 3) := by decide +kernel
theorem dX12_thanked_32 : decode cX12_thanked 32 = .ok (.bipush 10, 2) := by decide +kernel
theorem dX12_thanked_34 : decode cX12_thanked 34 = .ok (.iload_n 3, 1) := by decide +kernel
theorem dX12_thanked_35 : decode cX12_thanked 35 = .ok (.iadd, 1) := by decide +kernel
theorem dX12_thanked_36 : decode cX12_thanked 36 = .ok (.iaload, 1) := by decide +kernel
theorem dX12_thanked_37 : decode cX12_thanked 37 = .ok (.iload_n 1, 1) := by decide +kernel
theorem dX12_thanked_38 : decode cX12_thanked 38 = .ok (.if_icmp .ne 14, 3) := by decide +kernel
theorem dX12_thanked_41 : decode cX12_thanked 41 = .ok (.aload_n 0, 1) := by decide +kernel
theorem dX12_thanked_42 : decode cX12_thanked 42 = .ok (.getfield 23, 3) := by decide +kernel
theorem dX12_thanked_45 : decode cX12_thanked 45 = .ok (.iload_n 3, 1) := by decide +kernel
theorem dX12_thanked_46 : decode cX12_thanked 46 = .ok (.invokestatic 59, 3) := by decide +kernel
theorem dX12_thanked_49 : decode cX12_thanked 49 = .ok (.goto 4, 3) := by decide +kernel
theorem dX12_thanked_52 : decode cX12_thanked 52 = .ok (.iconst 0, 1) := by decide +kernel
theorem dX12_thanked_53 : decode cX12_thanked 53 = .ok (.iadd, 1) := by decide +kernel
theorem dX12_thanked_54 : decode cX12_thanked 54 = .ok (.istore_n 2, 1) := by decide +kernel
theorem dX12_thanked_55 : decode cX12_thanked 55 = .ok (.iinc 3 1, 3) := by decide +kernel
theorem dX12_thanked_58 : decode cX12_thanked 58 = .ok (.goto (-42), 3) := by decide +kernel
theorem dX12_thanked_61 : decode cX12_thanked 61 = .ok (.iload_n 2, 1) := by decide +kernel
theorem dX12_thanked_62 : decode cX12_thanked 62 = .ok (.ireturn, 1) := by decide +kernel
theorem dX12_image_0 : decode cX12_image 0 = .ok (.aload_n 0, 1) := by decide +kernel
theorem dX12_image_1 : decode cX12_image 1 = .ok (.getfield 23, 3) := by decide +kernel
theorem dX12_image_4 : decode cX12_image 4 = .ok (.iconst 0, 1) := by decide +kernel
theorem dX12_image_5 : decode cX12_image 5 = .ok (.aload_n 0, 1) := by decide +kernel
theorem dX12_image_6 : decode cX12_image 6 = .ok (.getfield 32, 3) := by decide +kernel
theorem dX12_image_9 : decode cX12_image 9 = .ok (.iconst 0, 1) := by decide +kernel
theorem dX12_image_10 : decode cX12_image 10 = .ok (.sipush 353, 3) := by decide +kernel
theorem dX12_image_13 : decode cX12_image 13 = .ok (.invokestatic 113, 3) := by decide +kernel
theorem dX12_image_16 : decode cX12_image 16 = .ok (.aload_n 0, 1) := by decide +kernel
theorem dX12_image_17 : decode cX12_image 17 = .ok (.iconst 1, 1) := by decide +kernel
theorem dX12_image_18 : decode cX12_image 18 = .ok (.putfield 154, 3) := by decide +kernel
theorem dX12_image_21 : decode cX12_image 21 = .ok (.iconst 1, 1) := by decide +kernel
theorem dX12_image_22 : decode cX12_image 22 = .ok (.ireturn, 1) := by decide +kernel
theorem dX12_restore_0 : decode cX12_restore 0 = .ok (.aload_n 0, 1) := by decide +kernel
theorem dX12_restore_1 : decode cX12_restore 1 = .ok (.getfield 154, 3) := by decide +kernel
theorem dX12_restore_4 : decode cX12_restore 4 = .ok (.ifCond .ne 6, 3) := by decide +kernel
theorem dX12_restore_7 : decode cX12_restore 7 = .ok (.bipush (-4), 2) := by decide +kernel
theorem dX12_restore_9 : decode cX12_restore 9 = .ok (.ireturn, 1) := by decide +kernel
theorem dX12_restore_10 : decode cX12_restore 10 = .ok (.aload_n 0, 1) := by decide +kernel
theorem dX12_restore_11 : decode cX12_restore 11 = .ok (.getfield 32, 3) := by decide +kernel
theorem dX12_restore_14 : decode cX12_restore 14 = .ok (.iconst 0, 1) := by decide +kernel
theorem dX12_restore_15 : decode cX12_restore 15 = .ok (.aload_n 0, 1) := by decide +kernel
theorem dX12_restore_16 : decode cX12_restore 16 = .ok (.getfield 23, 3) := by decide +kernel
theorem dX12_restore_19 : decode cX12_restore 19 = .ok (.iconst 0, 1) := by decide +kernel
theorem dX12_restore_20 : decode cX12_restore 20 = .ok (.sipush 353, 3) := by decide +kernel
theorem dX12_restore_23 : decode cX12_restore 23 = .ok (.invokestatic 113, 3) := by decide +kernel
theorem dX12_restore_26 : decode cX12_restore 26 = .ok (.iconst 1, 1) := by decide +kernel
theorem dX12_restore_27 : decode cX12_restore 27 = .ok (.ireturn, 1) := by decide +kernel
theorem dX12_isSheet_0 : decode cX12_isSheet 0 = .ok (.iload_n 0, 1) := by decide +kernel
theorem dX12_isSheet_1 : decode cX12_isSheet 1 = .ok (.iconst 0, 1) := by decide +kernel
theorem dX12_isSheet_2 : decode cX12_isSheet 2 = .ok (.iconst 3, 1) := by decide +kernel
theorem dX12_isSheet_3 : decode cX12_isSheet 3 = .ok (.invokestatic 35, 3) := by decide +kernel
theorem dX12_isSheet_6 : decode cX12_isSheet 6 = .ok (.ireturn, 1) := by decide +kernel
theorem dX12_isPart_0 : decode cX12_isPart 0 = .ok (.iload_n 1, 1) := by decide +kernel
theorem dX12_isPart_1 : decode cX12_isPart 1 = .ok (.ifCond .lt 23, 3) := by decide +kernel
theorem dX12_isPart_4 : decode cX12_isPart 4 = .ok (.iload_n 0, 1) := by decide +kernel
theorem dX12_isPart_5 : decode cX12_isPart 5 = .ok (.ifCond .lt 19, 3) := by decide +kernel
theorem dX12_isPart_8 : decode cX12_isPart 8 = .ok (.iload_n 1, 1) := by decide +kernel
theorem dX12_isPart_9 : decode cX12_isPart 9 = .ok (.iload_n 2, 1) := by decide +kernel
theorem dX12_isPart_10 : decode cX12_isPart 10 = .ok (.if_icmp .gt 14, 3) := by decide +kernel
theorem dX12_isPart_13 : decode cX12_isPart 13 = .ok (.iload_n 0, 1) := by decide +kernel
theorem dX12_isPart_14 : decode cX12_isPart 14 = .ok (.iload_n 2, 1) := by decide +kernel
theorem dX12_isPart_15 : decode cX12_isPart 15 = .ok (.iload_n 1, 1) := by decide +kernel
theorem dX12_isPart_16 : decode cX12_isPart 16 = .ok (.isub, 1) := by decide +kernel
theorem dX12_isPart_17 : decode cX12_isPart 17 = .ok (.if_icmp .gt 7, 3) := by decide +kernel
theorem dX12_isPart_20 : decode cX12_isPart 20 = .ok (.iconst 1, 1) := by decide +kernel
theorem dX12_isPart_21 : decode cX12_isPart 21 = .ok (.goto 4, 3) := by decide +kernel
theorem dX12_isPart_24 : decode cX12_isPart 24 = .ok (.iconst 0, 1) := by decide +kernel
theorem dX12_isPart_25 : decode cX12_isPart 25 = .ok (.ireturn, 1) := by decide +kernel
theorem dX12_wrong_0 : decode cX12_wrong 0 = .ok (.aload_n 0, 1) := by decide +kernel
theorem dX12_wrong_1 : decode cX12_wrong 1 = .ok (.getfield 7, 3) := by decide +kernel
theorem dX12_wrong_4 : decode cX12_wrong 4 = .ok (.iload_n 1, 1) := by decide +kernel
theorem dX12_wrong_5 : decode cX12_wrong 5 = .ok (.iaload, 1) := by decide +kernel
theorem dX12_wrong_6 : decode cX12_wrong 6 = .ok (.ifCond .ge 8, 3) := by decide +kernel
theorem dX12_wrong_9 : decode cX12_wrong 9 = .ok (.bipush (-11), 2) := by decide +kernel
theorem dX12_wrong_11 : decode cX12_wrong 11 = .ok (.goto 39, 3) := by decide +kernel
theorem dX12_wrong_14 : decode cX12_wrong 14 = .ok (.aload_n 0, 1) := by decide +kernel
theorem dX12_wrong_15 : decode cX12_wrong 15 = .ok (.getfield 7, 3) := by decide +kernel
theorem dX12_wrong_18 : decode cX12_wrong 18 = .ok (.iload_n 1, 1) := by decide +kernel
theorem dX12_wrong_19 : decode cX12_wrong 19 = .ok (.iaload, 1) := by decide +kernel
theorem dX12_wrong_20 : decode cX12_wrong 20 = .ok (.iload_n 2, 1) := by decide +kernel
theorem dX12_wrong_21 : decode cX12_wrong 21 = .ok (.if_icmp .eq 8, 3) := by decide +kernel
theorem dX12_wrong_24 : decode cX12_wrong 24 = .ok (.bipush (-12), 2) := by decide +kernel
theorem dX12_wrong_26 : decode cX12_wrong 26 = .ok (.goto 24, 3) := by decide +kernel
theorem dX12_wrong_29 : decode cX12_wrong 29 = .ok (.iload_n 3, 1) := by decide +kernel
theorem dX12_wrong_30 : decode cX12_wrong 30 = .ok (.iload 4, 2) := by decide +kernel
theorem dX12_wrong_32 : decode cX12_wrong 32 = .ok (.aload_n 0, 1) := by decide +kernel
theorem dX12_wrong_33 : decode cX12_wrong 33 = .ok (.getfield 13, 3) := by decide +kernel
theorem dX12_wrong_36 : decode cX12_wrong 36 = .ok (.iload_n 1, 1) := by decide +kernel
theorem dX12_wrong_37 : decode cX12_wrong 37 = .ok (.iaload, 1) := by decide +kernel
theorem dX12_wrong_38 : decode cX12_wrong 38 = .ok (.invokestatic 158, 3) := by decide +kernel
theorem dX12_wrong_41 : decode cX12_wrong 41 = .ok (.ifCond .eq 7, 3) := by decide +kernel
theorem dX12_wrong_44 : decode cX12_wrong 44 = .ok (.iconst 0, 1) := by decide +kernel
theorem dX12_wrong_45 : decode cX12_wrong 45 = .ok (.goto 5, 3) := by decide +kernel
theorem dX12_wrong_48 : decode cX12_wrong 48 = .ok (.bipush (-13), 2) := by decide +kernel
theorem dX12_wrong_50 : decode cX12_wrong 50 = .ok (.ireturn, 1) := by decide +kernel
theorem dX12_heard_0 : decode cX12_heard 0 = .ok (.aload_n 0, 1) := by decide +kernel
theorem dX12_heard_1 : decode cX12_heard 1 = .ok (.iload_n 1, 1) := by decide +kernel
theorem dX12_heard_2 : decode cX12_heard 2 = .ok (.invokevirtual 73, 3) := by decide +kernel
theorem dX12_heard_5 : decode cX12_heard 5 = .ok (.ifCond .eq 40, 3) := by decide +kernel
theorem dX12_heard_8 : decode cX12_heard 8 = .ok (.iload_n 2, 1) := by decide +kernel
theorem dX12_heard_9 : decode cX12_heard 9 = .ok (.invokestatic 161, 3) := by decide +kernel
theorem dX12_heard_12 : decode cX12_heard 12 = .ok (.ifCond .eq 33, 3) := by decide +kernel
theorem dX12_heard_15 : decode cX12_heard 15 = .ok (.iload_n 3, 1) := by decide +kernel
theorem dX12_heard_16 : decode cX12_heard 16 = .ok (.iconst 0, 1) := by decide +kernel
theorem dX12_heard_17 : decode cX12_heard 17 = .ok (.iconst 3, 1) := by decide +kernel
theorem dX12_heard_18 : decode cX12_heard 18 = .ok (.invokestatic 35, 3) := by decide +kernel
theorem dX12_heard_21 : decode cX12_heard 21 = .ok (.ifCond .eq 24, 3) := by decide +kernel
theorem dX12_heard_24 : decode cX12_heard 24 = .ok (.iload 5, 2) := by decide +kernel
theorem dX12_heard_26 : decode cX12_heard 26 = .ok (.iconst 1, 1) := by decide +kernel
theorem dX12_heard_27 : decode cX12_heard 27 = .ok (.bipush 8, 2) := by decide +kernel
theorem dX12_heard_29 : decode cX12_heard 29 = .ok (.invokestatic 35, 3) := by decide +kernel
theorem dX12_heard_32 : decode cX12_heard 32 = .ok (.ifCond .eq 13, 3) := by decide +kernel
theorem dX12_heard_35 : decode cX12_heard 35 = .ok (.iload 6, 2) := by decide +kernel
theorem dX12_heard_37 : decode cX12_heard 37 = .ok (.iconst 0, 1) := by decide +kernel
theorem dX12_heard_38 : decode cX12_heard 38 = .ok (.iconst 1, 1) := by decide +kernel
theorem dX12_heard_39 : decode cX12_heard 39 = .ok (.invokestatic 35, 3) := by decide +kernel
theorem dX12_heard_42 : decode cX12_heard 42 = .ok (.ifCond .ne 5, 3) := by decide +kernel
theorem dX12_heard_45 : decode cX12_heard 45 = .ok (.iconst (-1), 1) := by decide +kernel
theorem dX12_heard_46 : decode cX12_heard 46 = .ok (.ireturn, 1) := by decide +kernel
theorem dX12_heard_47 : decode cX12_heard 47 = .ok (.aload_n 0, 1) := by decide +kernel
theorem dX12_heard_48 : decode cX12_heard 48 = .ok (.iload_n 2, 1) := by decide +kernel
theorem dX12_heard_49 : decode cX12_heard 49 = .ok (.iload_n 3, 1) := by decide +kernel
theorem dX12_heard_50 : decode cX12_heard 50 = .ok (.iload 4, 2) := by decide +kernel
theorem dX12_heard_52 : decode cX12_heard 52 = .ok (.iload 5, 2) := by decide +kernel
theorem dX12_heard_54 : decode cX12_heard 54 = .ok (.invokevirtual 164, 3) := by decide +kernel
theorem dX12_heard_57 : decode cX12_heard 57 = .ok (.istore 7, 2) := by decide +kernel
theorem dX12_heard_59 : decode cX12_heard 59 = .ok (.iload 7, 2) := by decide +kernel
theorem dX12_heard_61 : decode cX12_heard 61 = .ok (.ifCond .eq 6, 3) := by decide +kernel
theorem dX12_heard_64 : decode cX12_heard 64 = .ok (.iload 7, 2) := by decide +kernel
theorem dX12_heard_66 : decode cX12_heard 66 = .ok (.ireturn, 1) := by decide +kernel
theorem dX12_heard_67 : decode cX12_heard 67 = .ok (.iconst 0, 1) := by decide +kernel
theorem dX12_heard_68 : decode cX12_heard 68 = .ok (.istore 8, 2) := by decide +kernel
theorem dX12_heard_70 : decode cX12_heard 70 = .ok (.iload 6, 2) := by decide +kernel
theorem dX12_heard_72 : decode cX12_heard 72 = .ok (.istore 9, 2) := by decide +kernel
theorem dX12_heard_74 : decode cX12_heard 74 = .ok (.iload 9, 2) := by decide +kernel
theorem dX12_heard_76 : decode cX12_heard 76 = .ok (.iload 6, 2) := by decide +kernel
theorem dX12_heard_78 : decode cX12_heard 78 = .ok (.ifCond .ne 7, 3) := by decide +kernel
theorem dX12_heard_81 : decode cX12_heard 81 = .ok (.iconst 5, 1) := by decide +kernel
theorem dX12_heard_82 : decode cX12_heard 82 = .ok (.goto 5, 3) := by decide +kernel
theorem dX12_heard_85 : decode cX12_heard 85 = .ok (.bipush 10, 2) := by decide +kernel
theorem dX12_heard_87 : decode cX12_heard 87 = .ok (.if_icmp .ge 146, 3) := by decide +kernel
theorem dX12_heard_90 : decode cX12_heard 90 = .ok (.aload_n 0, 1) := by decide +kernel
theorem dX12_heard_91 : decode cX12_heard 91 = .ok (.getfield 23, 3) := by decide +kernel
theorem dX12_heard_94 : decode cX12_heard 94 = .ok (.bipush 18, 2) := by decide +kernel
theorem dX12_heard_96 : decode cX12_heard 96 = .ok (.iload_n 1, 1) := by decide +kernel
theorem dX12_heard_97 : decode cX12_heard 97 = .ok (.iadd, 1) := by decide +kernel
theorem dX12_heard_98 : decode cX12_heard 98 = .ok (.iaload, 1) := by decide +kernel
theorem dX12_heard_99 : decode cX12_heard 99 = .ok (.istore 10, 2) := by decide +kernel
theorem dX12_heard_101 : decode cX12_heard 101 = .ok (.iconst 1, 1) := by decide +kernel
theorem dX12_heard_102 : decode cX12_heard 102 = .ok (.istore 11, 2) := by decide +kernel
theorem dX12_heard_104 : decode cX12_heard 104 = .ok (.iconst 0, 1) := by decide +kernel
theorem dX12_heard_105 : decode cX12_heard 105 = .ok (.istore 12, 2) := by decide +kernel
theorem dX12_heard_107 : decode cX12_heard 107 = .ok (.iload 12, 2) := by decide +kernel
theorem dX12_heard_109 : decode cX12_heard 109 = .ok (.iload 5, 2) := by decide +kernel
theorem dX12_heard_111 : decode cX12_heard 111 = .ok (.if_icmp .ge 98, 3) := by decide +kernel
theorem dX12_heard_114 : decode cX12_heard 114 = .ok (.iload 6, 2) := by decide +kernel
theorem dX12_heard_116 : decode cX12_heard 116 = .ok (.ifCond .ne 8, 3) := by decide +kernel
theorem dX12_heard_119 : decode cX12_heard 119 = .ok (.iload 9, 2) := by decide +kernel
theorem dX12_heard_121 : decode cX12_heard 121 = .ok (.goto 12, 3) := by decide +kernel
theorem dX12_heard_124 : decode cX12_heard 124 = .ok (.aload_n 0, 1) := by decide +kernel
theorem dX12_heard_125 : decode cX12_heard 125 = .ok (.getfield 23, 3) := by decide +kernel
theorem dX12_heard_128 : decode cX12_heard 128 = .ok (.bipush 48, 2) := by decide +kernel
theorem dX12_heard_130 : decode cX12_heard 130 = .ok (.iload_n 1, 1) := by decide +kernel
theorem dX12_heard_131 : decode cX12_heard 131 = .ok (.iadd, 1) := by decide +kernel
theorem dX12_heard_132 : decode cX12_heard 132 = .ok (.iaload, 1) := by decide +kernel
theorem dX12_heard_133 : decode cX12_heard 133 = .ok (.iload 6, 2) := by decide +kernel
theorem dX12_heard_135 : decode cX12_heard 135 = .ok (.iconst 1, 1) := by decide +kernel
theorem dX12_heard_136 : decode cX12_heard 136 = .ok (.if_icmp .ne 8, 3) := by decide +kernel
theorem dX12_heard_139 : decode cX12_heard 139 = .ok (.iload 9, 2) := by decide +kernel
theorem dX12_heard_141 : decode cX12_heard 141 = .ok (.goto 12, 3) := by decide +kernel
theorem dX12_heard_144 : decode cX12_heard 144 = .ok (.aload_n 0, 1) := by decide +kernel
theorem dX12_heard_145 : decode cX12_heard 145 = .ok (.getfield 23, 3) := by decide +kernel
theorem dX12_heard_148 : decode cX12_heard 148 = .ok (.bipush 56, 2) := by decide +kernel
theorem dX12_heard_150 : decode cX12_heard 150 = .ok (.iload_n 1, 1) := by decide +kernel
theorem dX12_heard_151 : decode cX12_heard 151 = .ok (.iadd, 1) := by decide +kernel
theorem dX12_heard_152 : decode cX12_heard 152 = .ok (.iaload, 1) := by decide +kernel
theorem dX12_heard_153 : decode cX12_heard 153 = .ok (.iload 10, 2) := by decide +kernel
theorem dX12_heard_155 : decode cX12_heard 155 = .ok (.aload_n 0, 1) := by decide +kernel
theorem dX12_heard_156 : decode cX12_heard 156 = .ok (.getfield 23, 3) := by decide +kernel
theorem dX12_heard_159 : decode cX12_heard 159 = .ok (.iconst 0, 1) := by decide +kernel
theorem dX12_heard_160 : decode cX12_heard 160 = .ok (.iaload, 1) := by decide +kernel
theorem dX12_heard_161 : decode cX12_heard 161 = .ok (.iload 12, 2) := by decide +kernel
theorem dX12_heard_163 : decode cX12_heard 163 = .ok (.iadd, 1) := by decide +kernel
theorem dX12_heard_164 : decode cX12_heard 164 = .ok (.invokestatic 121, 3) := by decide +kernel
theorem dX12_heard_167 : decode cX12_heard 167 = .ok (.istore 10, 2) := by decide +kernel
theorem dX12_heard_169 : decode cX12_heard 169 = .ok (.iload 11, 2) := by decide +kernel
theorem dX12_heard_171 : decode cX12_heard 171 = .ok (.ifCond .eq 29, 3) := by decide +kernel
theorem dX12_heard_174 : decode cX12_heard 174 = .ok (.aload_n 0, 1) := by decide +kernel
theorem dX12_heard_175 : decode cX12_heard 175 = .ok (.getfield 16, 3) := by decide +kernel
theorem dX12_heard_178 : decode cX12_heard 178 = .ok (.bipush 24, 2) := by decide +kernel
theorem dX12_heard_180 : decode cX12_heard 180 = .ok (.iload_n 2, 1) := by decide +kernel
theorem dX12_heard_181 : decode cX12_heard 181 = .ok (.imul, 1) := by decide +kernel
theorem dX12_heard_182 : decode cX12_heard 182 = .ok (.iload 4, 2) := by decide +kernel
theorem dX12_heard_184 : decode cX12_heard 184 = .ok (.iadd, 1) := by decide +kernel
theorem dX12_heard_185 : decode cX12_heard 185 = .ok (.iload 12, 2) := by decide +kernel
theorem dX12_heard_187 : decode cX12_heard 187 = .ok (.iadd, 1) := by decide +kernel
theorem dX12_heard_188 : decode cX12_heard 188 = .ok (.laload, 1) := by decide +kernel
theorem dX12_heard_189 : decode cX12_heard 189 = .ok (.iload 10, 2) := by decide +kernel
theorem dX12_heard_191 : decode cX12_heard 191 = .ok (.i2l, 1) := by decide +kernel
theorem dX12_heard_192 : decode cX12_heard 192 = .ok (.lcmp, 1) := by decide +kernel
theorem dX12_heard_193 : decode cX12_heard 193 = .ok (.ifCond .ne 7, 3) := by decide +kernel
theorem dX12_heard_196 : decode cX12_heard 196 = .ok (.iconst 1, 1) := by decide +kernel
theorem dX12_heard_197 : decode cX12_heard 197 = .ok (.goto 4, 3) := by decide +kernel
theorem dX12_heard_200 : decode cX12_heard 200 = .ok (.iconst 0, 1) := by decide +kernel
theorem dX12_heard_201 : decode cX12_heard 201 = .ok (.istore 11, 2) := by decide +kernel
theorem dX12_heard_203 : decode cX12_heard 203 = .ok (.iinc 12 1, 3) := by decide +kernel
theorem dX12_heard_206 : decode cX12_heard 206 = .ok (.goto (-99), 3) := by decide +kernel
theorem dX12_heard_209 : decode cX12_heard 209 = .ok (.iload 8, 2) := by decide +kernel
theorem dX12_heard_211 : decode cX12_heard 211 = .ok (.iload 11, 2) := by decide +kernel
theorem dX12_heard_213 : decode cX12_heard 213 = .ok (.ifCond .eq 10, 3) := by decide +kernel
theorem dX12_heard_216 : decode cX12_heard 216 = .ok (.iconst 1, 1) := by decide +kernel
theorem dX12_heard_217 : decode cX12_heard 217 = .ok (.iload 9, 2) := by decide +kernel
theorem dX12_heard_219 : decode cX12_heard 219 = .ok (.ishl, 1) := by decide +kernel
theorem dX12_heard_220 : decode cX12_heard 220 = .ok (.goto 4, 3) := by decide +kernel
theorem dX12_heard_223 : decode cX12_heard 223 = .ok (.iconst 0, 1) := by decide +kernel
theorem dX12_heard_224 : decode cX12_heard 224 = .ok (.ior, 1) := by decide +kernel
theorem dX12_heard_225 : decode cX12_heard 225 = .ok (.istore 8, 2) := by decide +kernel
theorem dX12_heard_227 : decode cX12_heard 227 = .ok (.iinc 9 1, 3) := by decide +kernel
theorem dX12_heard_230 : decode cX12_heard 230 = .ok (.goto (-156), 3) := by decide +kernel
theorem dX12_heard_233 : decode cX12_heard 233 = .ok (.iload 8, 2) := by decide +kernel
theorem dX12_heard_235 : decode cX12_heard 235 = .ok (.ireturn, 1) := by decide +kernel
theorem dX12_film_0 : decode cX12_film 0 = .ok (.aload_n 0, 1) := by decide +kernel
theorem dX12_film_1 : decode cX12_film 1 = .ok (.iload_n 1, 1) := by decide +kernel
theorem dX12_film_2 : decode cX12_film 2 = .ok (.invokevirtual 73, 3) := by decide +kernel
theorem dX12_film_5 : decode cX12_film 5 = .ok (.ifCond .eq 30, 3) := by decide +kernel
theorem dX12_film_8 : decode cX12_film 8 = .ok (.iload_n 2, 1) := by decide +kernel
theorem dX12_film_9 : decode cX12_film 9 = .ok (.iconst 1, 1) := by decide +kernel
theorem dX12_film_10 : decode cX12_film 10 = .ok (.bipush 24, 2) := by decide +kernel
theorem dX12_film_12 : decode cX12_film 12 = .ok (.invokestatic 35, 3) := by decide +kernel
theorem dX12_film_15 : decode cX12_film 15 = .ok (.ifCond .eq 20, 3) := by decide +kernel
theorem dX12_film_18 : decode cX12_film 18 = .ok (.iload_n 3, 1) := by decide +kernel
theorem dX12_film_19 : decode cX12_film 19 = .ok (.invokestatic 161, 3) := by decide +kernel
theorem dX12_film_22 : decode cX12_film 22 = .ok (.ifCond .eq 13, 3) := by decide +kernel
theorem dX12_film_25 : decode cX12_film 25 = .ok (.iload 4, 2) := by decide +kernel
theorem dX12_film_27 : decode cX12_film 27 = .ok (.iconst 0, 1) := by decide +kernel
theorem dX12_film_28 : decode cX12_film 28 = .ok (.iconst 3, 1) := by decide +kernel
theorem dX12_film_29 : decode cX12_film 29 = .ok (.invokestatic 35, 3) := by decide +kernel
theorem dX12_film_32 : decode cX12_film 32 = .ok (.ifCond .ne 5, 3) := by decide +kernel
theorem dX12_film_35 : decode cX12_film 35 = .ok (.iconst (-1), 1) := by decide +kernel
theorem dX12_film_36 : decode cX12_film 36 = .ok (.ireturn, 1) := by decide +kernel
theorem dX12_film_37 : decode cX12_film 37 = .ok (.aload_n 0, 1) := by decide +kernel
theorem dX12_film_38 : decode cX12_film 38 = .ok (.iload_n 3, 1) := by decide +kernel
theorem dX12_film_39 : decode cX12_film 39 = .ok (.iload 4, 2) := by decide +kernel
theorem dX12_film_41 : decode cX12_film 41 = .ok (.iload 5, 2) := by decide +kernel
theorem dX12_film_43 : decode cX12_film 43 = .ok (.iload_n 2, 1) := by decide +kernel
theorem dX12_film_44 : decode cX12_film 44 = .ok (.invokevirtual 164, 3) := by decide +kernel
theorem dX12_film_47 : decode cX12_film 47 = .ok (.istore 6, 2) := by decide +kernel
theorem dX12_film_49 : decode cX12_film 49 = .ok (.iload 6, 2) := by decide +kernel
theorem dX12_film_51 : decode cX12_film 51 = .ok (.ifCond .eq 6, 3) := by decide +kernel
theorem dX12_film_54 : decode cX12_film 54 = .ok (.iload 6, 2) := by decide +kernel
theorem dX12_film_56 : decode cX12_film 56 = .ok (.ireturn, 1) := by decide +kernel
theorem dX12_film_57 : decode cX12_film 57 = .ok (.aload_n 0, 1) := by decide +kernel
theorem dX12_film_58 : decode cX12_film 58 = .ok (.invokevirtual 138, 3) := by decide +kernel
theorem dX12_film_61 : decode cX12_film 61 = .ok (.iconst 0, 1) := by decide +kernel
theorem dX12_film_62 : decode cX12_film 62 = .ok (.istore 7, 2) := by decide +kernel
theorem dX12_film_64 : decode cX12_film 64 = .ok (.iload 7, 2) := by decide +kernel
theorem dX12_film_66 : decode cX12_film 66 = .ok (.iload_n 2, 1) := by decide +kernel
theorem dX12_film_67 : decode cX12_film 67 = .ok (.if_icmp .ge 41, 3) := by decide +kernel
theorem dX12_film_70 : decode cX12_film 70 = .ok (.aload_n 0, 1) := by decide +kernel
theorem dX12_film_71 : decode cX12_film 71 = .ok (.getfield 26, 3) := by decide +kernel
theorem dX12_film_74 : decode cX12_film 74 = .ok (.invokestatic 127, 3) := by decide +kernel
theorem dX12_film_77 : decode cX12_film 77 = .ok (.aload_n 0, 1) := by decide +kernel
theorem dX12_film_78 : decode cX12_film 78 = .ok (.getfield 16, 3) := by decide +kernel
theorem dX12_film_81 : decode cX12_film 81 = .ok (.bipush 24, 2) := by decide +kernel
theorem dX12_film_83 : decode cX12_film 83 = .ok (.iload_n 3, 1) := by decide +kernel
theorem dX12_film_84 : decode cX12_film 84 = .ok (.imul, 1) := by decide +kernel
theorem dX12_film_85 : decode cX12_film 85 = .ok (.iload 5, 2) := by decide +kernel
theorem dX12_film_87 : decode cX12_film 87 = .ok (.iadd, 1) := by decide +kernel
theorem dX12_film_88 : decode cX12_film 88 = .ok (.iload 7, 2) := by decide +kernel
theorem dX12_film_90 : decode cX12_film 90 = .ok (.iadd, 1) := by decide +kernel
theorem dX12_film_91 : decode cX12_film 91 = .ok (.aload_n 0, 1) := by decide +kernel
theorem dX12_film_92 : decode cX12_film 92 = .ok (.getfield 26, 3) := by decide +kernel
theorem dX12_film_95 : decode cX12_film 95 = .ok (.bipush 18, 2) := by decide +kernel
theorem dX12_film_97 : decode cX12_film 97 = .ok (.iload_n 1, 1) := by decide +kernel
theorem dX12_film_98 : decode cX12_film 98 = .ok (.iadd, 1) := by decide +kernel
theorem dX12_film_99 : decode cX12_film 99 = .ok (.iaload, 1) := by decide +kernel
theorem dX12_film_100 : decode cX12_film 100 = .ok (.i2l, 1) := by decide +kernel
theorem dX12_film_101 : decode cX12_film 101 = .ok (.lastore, 1) := by decide +kernel
theorem dX12_film_102 : decode cX12_film 102 = .ok (.iinc 7 1, 3) := by decide +kernel
theorem dX12_film_105 : decode cX12_film 105 = .ok (.goto (-41), 3) := by decide +kernel
theorem dX12_film_108 : decode cX12_film 108 = .ok (.iload_n 2, 1) := by decide +kernel
theorem dX12_film_109 : decode cX12_film 109 = .ok (.ireturn, 1) := by decide +kernel
theorem dX12_sheet_0 : decode cX12_sheet 0 = .ok (.iload_n 1, 1) := by decide +kernel
theorem dX12_sheet_1 : decode cX12_sheet 1 = .ok (.invokestatic 161, 3) := by decide +kernel
theorem dX12_sheet_4 : decode cX12_sheet 4 = .ok (.ifCond .eq 18, 3) := by decide +kernel
theorem dX12_sheet_7 : decode cX12_sheet 7 = .ok (.iload_n 2, 1) := by decide +kernel
theorem dX12_sheet_8 : decode cX12_sheet 8 = .ok (.iconst 0, 1) := by decide +kernel
theorem dX12_sheet_9 : decode cX12_sheet 9 = .ok (.iconst 3, 1) := by decide +kernel
theorem dX12_sheet_10 : decode cX12_sheet 10 = .ok (.invokestatic 35, 3) := by decide +kernel
theorem dX12_sheet_13 : decode cX12_sheet 13 = .ok (.ifCond .eq 9, 3) := by decide +kernel
theorem dX12_sheet_16 : decode cX12_sheet 16 = .ok (.iload_n 3, 1) := by decide +kernel
theorem dX12_sheet_17 : decode cX12_sheet 17 = .ok (.bipush 24, 2) := by decide +kernel
theorem dX12_sheet_19 : decode cX12_sheet 19 = .ok (.if_icmp .le 5, 3) := by decide +kernel
theorem dX12_sheet_22 : decode cX12_sheet 22 = .ok (.iconst (-1), 1) := by decide +kernel
theorem dX12_sheet_23 : decode cX12_sheet 23 = .ok (.ireturn, 1) := by decide +kernel
theorem dX12_sheet_24 : decode cX12_sheet 24 = .ok (.iload_n 3, 1) := by decide +kernel
theorem dX12_sheet_25 : decode cX12_sheet 25 = .ok (.ifCond .ge 6, 3) := by decide +kernel
theorem dX12_sheet_28 : decode cX12_sheet 28 = .ok (.bipush (-14), 2) := by decide +kernel
theorem dX12_sheet_30 : decode cX12_sheet 30 = .ok (.ireturn, 1) := by decide +kernel
theorem dX12_sheet_31 : decode cX12_sheet 31 = .ok (.aload_n 0, 1) := by decide +kernel
theorem dX12_sheet_32 : decode cX12_sheet 32 = .ok (.getfield 7, 3) := by decide +kernel
theorem dX12_sheet_35 : decode cX12_sheet 35 = .ok (.iload_n 1, 1) := by decide +kernel
theorem dX12_sheet_36 : decode cX12_sheet 36 = .ok (.iload_n 2, 1) := by decide +kernel
theorem dX12_sheet_37 : decode cX12_sheet 37 = .ok (.iastore, 1) := by decide +kernel
theorem dX12_sheet_38 : decode cX12_sheet 38 = .ok (.aload_n 0, 1) := by decide +kernel
theorem dX12_sheet_39 : decode cX12_sheet 39 = .ok (.getfield 13, 3) := by decide +kernel
theorem dX12_sheet_42 : decode cX12_sheet 42 = .ok (.iload_n 1, 1) := by decide +kernel
theorem dX12_sheet_43 : decode cX12_sheet 43 = .ok (.iload_n 3, 1) := by decide +kernel
theorem dX12_sheet_44 : decode cX12_sheet 44 = .ok (.iastore, 1) := by decide +kernel
theorem dX12_sheet_45 : decode cX12_sheet 45 = .ok (.iconst 0, 1) := by decide +kernel
theorem dX12_sheet_46 : decode cX12_sheet 46 = .ok (.istore 4, 2) := by decide +kernel
theorem dX12_sheet_48 : decode cX12_sheet 48 = .ok (.iload 4, 2) := by decide +kernel
theorem dX12_sheet_50 : decode cX12_sheet 50 = .ok (.bipush 24, 2) := by decide +kernel
theorem dX12_sheet_52 : decode cX12_sheet 52 = .ok (.if_icmp .ge 22, 3) := by decide +kernel
theorem dX12_sheet_55 : decode cX12_sheet 55 = .ok (.aload_n 0, 1) := by decide +kernel
theorem dX12_sheet_56 : decode cX12_sheet 56 = .ok (.getfield 16, 3) := by decide +kernel
theorem dX12_sheet_59 : decode cX12_sheet 59 = .ok (.bipush 24, 2) := by decide +kernel
theorem dX12_sheet_61 : decode cX12_sheet 61 = .ok (.iload_n 1, 1) := by decide +kernel
theorem dX12_sheet_62 : decode cX12_sheet 62 = .ok (.imul, 1) := by decide +kernel
theorem dX12_sheet_63 : decode cX12_sheet 63 = .ok (.iload 4, 2) := by decide +kernel
theorem dX12_sheet_65 : decode cX12_sheet 65 = .ok (.iadd, 1) := by decide +kernel
theorem dX12_sheet_66 : decode cX12_sheet 66 = .ok (.lconst 0, 1) := by decide +kernel
theorem dX12_sheet_67 : decode cX12_sheet 67 = .ok (.lastore, 1) := by decide +kernel
theorem dX12_sheet_68 : decode cX12_sheet 68 = .ok (.iinc 4 1, 3) := by decide +kernel
theorem dX12_sheet_71 : decode cX12_sheet 71 = .ok (.goto (-23), 3) := by decide +kernel
theorem dX12_sheet_74 : decode cX12_sheet 74 = .ok (.iload_n 3, 1) := by decide +kernel
theorem dX12_sheet_75 : decode cX12_sheet 75 = .ok (.ireturn, 1) := by decide +kernel
theorem dX12_drop_0 : decode cX12_drop 0 = .ok (.iload_n 1, 1) := by decide +kernel
theorem dX12_drop_1 : decode cX12_drop 1 = .ok (.invokestatic 161, 3) := by decide +kernel
theorem dX12_drop_4 : decode cX12_drop 4 = .ok (.ifCond .ne 5, 3) := by decide +kernel
theorem dX12_drop_7 : decode cX12_drop 7 = .ok (.iconst (-1), 1) := by decide +kernel
theorem dX12_drop_8 : decode cX12_drop 8 = .ok (.ireturn, 1) := by decide +kernel
theorem dX12_drop_9 : decode cX12_drop 9 = .ok (.aload_n 0, 1) := by decide +kernel
theorem dX12_drop_10 : decode cX12_drop 10 = .ok (.getfield 7, 3) := by decide +kernel
theorem dX12_drop_13 : decode cX12_drop 13 = .ok (.iload_n 1, 1) := by decide +kernel
theorem dX12_drop_14 : decode cX12_drop 14 = .ok (.iaload, 1) := by decide +kernel
theorem dX12_drop_15 : decode cX12_drop 15 = .ok (.ifCond .ge 6, 3) := by decide +kernel
theorem dX12_drop_18 : decode cX12_drop 18 = .ok (.bipush (-11), 2) := by decide +kernel
theorem dX12_drop_20 : decode cX12_drop 20 = .ok (.ireturn, 1) := by decide +kernel
theorem dX12_drop_21 : decode cX12_drop 21 = .ok (.aload_n 0, 1) := by decide +kernel
theorem dX12_drop_22 : decode cX12_drop 22 = .ok (.getfield 7, 3) := by decide +kernel
theorem dX12_drop_25 : decode cX12_drop 25 = .ok (.iload_n 1, 1) := by decide +kernel
theorem dX12_drop_26 : decode cX12_drop 26 = .ok (.iconst (-1), 1) := by decide +kernel
theorem dX12_drop_27 : decode cX12_drop 27 = .ok (.iastore, 1) := by decide +kernel
theorem dX12_drop_28 : decode cX12_drop 28 = .ok (.aload_n 0, 1) := by decide +kernel
theorem dX12_drop_29 : decode cX12_drop 29 = .ok (.getfield 13, 3) := by decide +kernel
theorem dX12_drop_32 : decode cX12_drop 32 = .ok (.iload_n 1, 1) := by decide +kernel
theorem dX12_drop_33 : decode cX12_drop 33 = .ok (.iaload, 1) := by decide +kernel
theorem dX12_drop_34 : decode cX12_drop 34 = .ok (.ireturn, 1) := by decide +kernel
theorem dX12_item_0 : decode cX12_item 0 = .ok (.iload_n 1, 1) := by decide +kernel
theorem dX12_item_1 : decode cX12_item 1 = .ok (.invokestatic 161, 3) := by decide +kernel
theorem dX12_item_4 : decode cX12_item 4 = .ok (.ifCond .eq 12, 3) := by decide +kernel
theorem dX12_item_7 : decode cX12_item 7 = .ok (.iload_n 2, 1) := by decide +kernel
theorem dX12_item_8 : decode cX12_item 8 = .ok (.iconst 0, 1) := by decide +kernel
theorem dX12_item_9 : decode cX12_item 9 = .ok (.iconst 3, 1) := by decide +kernel
theorem dX12_item_10 : decode cX12_item 10 = .ok (.invokestatic 35, 3) := by decide +kernel
theorem dX12_item_13 : decode cX12_item 13 = .ok (.ifCond .ne 5, 3) := by decide +kernel
theorem dX12_item_16 : decode cX12_item 16 = .ok (.iconst (-1), 1) := by decide +kernel
theorem dX12_item_17 : decode cX12_item 17 = .ok (.ireturn, 1) := by decide +kernel
theorem dX12_item_18 : decode cX12_item 18 = .ok (.aload_n 0, 1) := by decide +kernel
theorem dX12_item_19 : decode cX12_item 19 = .ok (.iload_n 1, 1) := by decide +kernel
theorem dX12_item_20 : decode cX12_item 20 = .ok (.iload_n 2, 1) := by decide +kernel
theorem dX12_item_21 : decode cX12_item 21 = .ok (.iload_n 3, 1) := by decide +kernel
theorem dX12_item_22 : decode cX12_item 22 = .ok (.iconst 1, 1) := by decide +kernel
theorem dX12_item_23 : decode cX12_item 23 = .ok (.invokevirtual 164, 3) := by decide +kernel
theorem dX12_item_26 : decode cX12_item 26 = .ok (.istore 6, 2) := by decide +kernel
theorem dX12_item_28 : decode cX12_item 28 = .ok (.iload 6, 2) := by decide +kernel
theorem dX12_item_30 : decode cX12_item 30 = .ok (.ifCond .eq 6, 3) := by decide +kernel
theorem dX12_item_33 : decode cX12_item 33 = .ok (.iload 6, 2) := by decide +kernel
theorem dX12_item_35 : decode cX12_item 35 = .ok (.ireturn, 1) := by decide +kernel
theorem dX12_item_36 : decode cX12_item 36 = .ok (.aload_n 0, 1) := by decide +kernel
theorem dX12_item_37 : decode cX12_item 37 = .ok (.getfield 16, 3) := by decide +kernel
theorem dX12_item_40 : decode cX12_item 40 = .ok (.bipush 24, 2) := by decide +kernel
theorem dX12_item_42 : decode cX12_item 42 = .ok (.iload_n 1, 1) := by decide +kernel
theorem dX12_item_43 : decode cX12_item 43 = .ok (.imul, 1) := by decide +kernel
theorem dX12_item_44 : decode cX12_item 44 = .ok (.iload_n 3, 1) := by decide +kernel
theorem dX12_item_45 : decode cX12_item 45 = .ok (.iadd, 1) := by decide +kernel
theorem dX12_item_46 : decode cX12_item 46 = .ok (.iload_n 2, 1) := by decide +kernel
theorem dX12_item_47 : decode cX12_item 47 = .ok (.ifCond .ne 11, 3) := by decide +kernel
theorem dX12_item_50 : decode cX12_item 50 = .ok (.lload 4, 2) := by decide +kernel
theorem dX12_item_52 : decode cX12_item 52 = .ok (.l2i, 1) := by decide +kernel
theorem dX12_item_53 : decode cX12_item 53 = .ok (.i2b, 1) := by decide +kernel
theorem dX12_item_54 : decode cX12_item 54 = .ok (.i2l, 1) := by decide +kernel
theorem dX12_item_55 : decode cX12_item 55 = .ok (.goto 30, 3) := by decide +kernel
theorem dX12_item_58 : decode cX12_item 58 = .ok (.iload_n 2, 1) := by decide +kernel
theorem dX12_item_59 : decode cX12_item 59 = .ok (.iconst 1, 1) := by decide +kernel
theorem dX12_item_60 : decode cX12_item 60 = .ok (.if_icmp .ne 11, 3) := by decide +kernel
theorem dX12_item_63 : decode cX12_item 63 = .ok (.lload 4, 2) := by decide +kernel
theorem dX12_item_65 : decode cX12_item 65 = .ok (.l2i, 1) := by decide +kernel
theorem dX12_item_66 : decode cX12_item 66 = .ok (.i2s, 1) := by decide +kernel
theorem dX12_item_67 : decode cX12_item 67 = .ok (.i2l, 1) := by decide +kernel
theorem dX12_item_68 : decode cX12_item 68 = .ok (.goto 17, 3) := by decide +kernel
theorem dX12_item_71 : decode cX12_item 71 = .ok (.iload_n 2, 1) := by decide +kernel
theorem dX12_item_72 : decode cX12_item 72 = .ok (.iconst 2, 1) := by decide +kernel
theorem dX12_item_73 : decode cX12_item 73 = .ok (.if_icmp .ne 10, 3) := by decide +kernel
theorem dX12_item_76 : decode cX12_item 76 = .ok (.lload 4, 2) := by decide +kernel
theorem dX12_item_78 : decode cX12_item 78 = .ok (.l2i, 1) := by decide +kernel
theorem dX12_item_79 : decode cX12_item 79 = .ok (.i2l, 1) := by decide +kernel
theorem dX12_item_80 : decode cX12_item 80 = .ok (.goto 5, 3) := by decide +kernel
theorem dX12_item_83 : decode cX12_item 83 = .ok (.lload 4, 2) := by decide +kernel
theorem dX12_item_85 : decode cX12_item 85 = .ok (.lastore, 1) := by decide +kernel
theorem dX12_item_86 : decode cX12_item 86 = .ok (.iconst 1, 1) := by decide +kernel
theorem dX12_item_87 : decode cX12_item 87 = .ok (.ireturn, 1) := by decide +kernel
theorem dX12_copy_0 : decode cX12_copy 0 = .ok (.iload_n 1, 1) := by decide +kernel
theorem dX12_copy_1 : decode cX12_copy 1 = .ok (.invokestatic 161, 3) := by decide +kernel
theorem dX12_copy_4 : decode cX12_copy 4 = .ok (.ifCond .eq 10, 3) := by decide +kernel
theorem dX12_copy_7 : decode cX12_copy 7 = .ok (.iload_n 3, 1) := by decide +kernel
theorem dX12_copy_8 : decode cX12_copy 8 = .ok (.invokestatic 161, 3) := by decide +kernel
theorem dX12_copy_11 : decode cX12_copy 11 = .ok (.ifCond .ne 5, 3) := by decide +kernel
theorem dX12_copy_14 : decode cX12_copy 14 = .ok (.iconst (-1), 1) := by decide +kernel
theorem dX12_copy_15 : decode cX12_copy 15 = .ok (.ireturn, 1) := by decide +kernel
theorem dX12_copy_16 : decode cX12_copy 16 = .ok (.aload_n 0, 1) := by decide +kernel
theorem dX12_copy_17 : decode cX12_copy 17 = .ok (.getfield 7, 3) := by decide +kernel
theorem dX12_copy_20 : decode cX12_copy 20 = .ok (.iload_n 1, 1) := by decide +kernel
theorem dX12_copy_21 : decode cX12_copy 21 = .ok (.iaload, 1) := by decide +kernel
theorem dX12_copy_22 : decode cX12_copy 22 = .ok (.ifCond .lt 12, 3) := by decide +kernel
theorem dX12_copy_25 : decode cX12_copy 25 = .ok (.aload_n 0, 1) := by decide +kernel
theorem dX12_copy_26 : decode cX12_copy 26 = .ok (.getfield 7, 3) := by decide +kernel
theorem dX12_copy_29 : decode cX12_copy 29 = .ok (.iload_n 3, 1) := by decide +kernel
theorem dX12_copy_30 : decode cX12_copy 30 = .ok (.iaload, 1) := by decide +kernel
theorem dX12_copy_31 : decode cX12_copy 31 = .ok (.ifCond .ge 6, 3) := by decide +kernel
theorem dX12_copy_34 : decode cX12_copy 34 = .ok (.bipush (-11), 2) := by decide +kernel
theorem dX12_copy_36 : decode cX12_copy 36 = .ok (.ireturn, 1) := by decide +kernel
theorem dX12_copy_37 : decode cX12_copy 37 = .ok (.aload_n 0, 1) := by decide +kernel
theorem dX12_copy_38 : decode cX12_copy 38 = .ok (.getfield 7, 3) := by decide +kernel
theorem dX12_copy_41 : decode cX12_copy 41 = .ok (.iload_n 1, 1) := by decide +kernel
theorem dX12_copy_42 : decode cX12_copy 42 = .ok (.iaload, 1) := by decide +kernel
theorem dX12_copy_43 : decode cX12_copy 43 = .ok (.aload_n 0, 1) := by decide +kernel
theorem dX12_copy_44 : decode cX12_copy 44 = .ok (.getfield 7, 3) := by decide +kernel
theorem dX12_copy_47 : decode cX12_copy 47 = .ok (.iload_n 3, 1) := by decide +kernel
theorem dX12_copy_48 : decode cX12_copy 48 = .ok (.iaload, 1) := by decide +kernel
theorem dX12_copy_49 : decode cX12_copy 49 = .ok (.if_icmp .eq 6, 3) := by decide +kernel
theorem dX12_copy_52 : decode cX12_copy 52 = .ok (.bipush (-12), 2) := by decide +kernel
theorem dX12_copy_54 : decode cX12_copy 54 = .ok (.ireturn, 1) := by decide +kernel
theorem dX12_copy_55 : decode cX12_copy 55 = .ok (.iload_n 2, 1) := by decide +kernel
theorem dX12_copy_56 : decode cX12_copy 56 = .ok (.iload 5, 2) := by decide +kernel
theorem dX12_copy_58 : decode cX12_copy 58 = .ok (.aload_n 0, 1) := by decide +kernel
theorem dX12_copy_59 : decode cX12_copy 59 = .ok (.getfield 13, 3) := by decide +kernel
theorem dX12_copy_62 : decode cX12_copy 62 = .ok (.iload_n 1, 1) := by decide +kernel
theorem dX12_copy_63 : decode cX12_copy 63 = .ok (.iaload, 1) := by decide +kernel
theorem dX12_copy_64 : decode cX12_copy 64 = .ok (.invokestatic 158, 3) := by decide +kernel
theorem dX12_copy_67 : decode cX12_copy 67 = .ok (.ifCond .eq 19, 3) := by decide +kernel
theorem dX12_copy_70 : decode cX12_copy 70 = .ok (.iload 4, 2) := by decide +kernel
theorem dX12_copy_72 : decode cX12_copy 72 = .ok (.iload 5, 2) := by decide +kernel
theorem dX12_copy_74 : decode cX12_copy 74 = .ok (.aload_n 0, 1) := by decide +kernel
theorem dX12_copy_75 : decode cX12_copy 75 = .ok (.getfield 13, 3) := by decide +kernel
theorem dX12_copy_78 : decode cX12_copy 78 = .ok (.iload_n 3, 1) := by decide +kernel
theorem dX12_copy_79 : decode cX12_copy 79 = .ok (.iaload, 1) := by decide +kernel
theorem dX12_copy_80 : decode cX12_copy 80 = .ok (.invokestatic 158, 3) := by decide +kernel
theorem dX12_copy_83 : decode cX12_copy 83 = .ok (.ifCond .ne 6, 3) := by decide +kernel
theorem dX12_copy_86 : decode cX12_copy 86 = .ok (.bipush (-13), 2) := by decide +kernel
theorem dX12_copy_88 : decode cX12_copy 88 = .ok (.ireturn, 1) := by decide +kernel
theorem dX12_copy_89 : decode cX12_copy 89 = .ok (.iload_n 1, 1) := by decide +kernel
theorem dX12_copy_90 : decode cX12_copy 90 = .ok (.iload_n 3, 1) := by decide +kernel
theorem dX12_copy_91 : decode cX12_copy 91 = .ok (.if_icmp .ne 13, 3) := by decide +kernel
theorem dX12_copy_94 : decode cX12_copy 94 = .ok (.iload 4, 2) := by decide +kernel
theorem dX12_copy_96 : decode cX12_copy 96 = .ok (.iload_n 2, 1) := by decide +kernel
theorem dX12_copy_97 : decode cX12_copy 97 = .ok (.if_icmp .le 7, 3) := by decide +kernel
theorem dX12_copy_100 : decode cX12_copy 100 = .ok (.iconst 1, 1) := by decide +kernel
theorem dX12_copy_101 : decode cX12_copy 101 = .ok (.goto 4, 3) := by decide +kernel
theorem dX12_copy_104 : decode cX12_copy 104 = .ok (.iconst 0, 1) := by decide +kernel
theorem dX12_copy_105 : decode cX12_copy 105 = .ok (.istore 6, 2) := by decide +kernel
theorem dX12_copy_107 : decode cX12_copy 107 = .ok (.iconst 0, 1) := by decide +kernel
theorem dX12_copy_108 : decode cX12_copy 108 = .ok (.istore 7, 2) := by decide +kernel
theorem dX12_copy_110 : decode cX12_copy 110 = .ok (.iload 7, 2) := by decide +kernel
theorem dX12_copy_112 : decode cX12_copy 112 = .ok (.iload 5, 2) := by decide +kernel
theorem dX12_copy_114 : decode cX12_copy 114 = .ok (.if_icmp .ge 57, 3) := by decide +kernel
theorem dX12_copy_117 : decode cX12_copy 117 = .ok (.iload 6, 2) := by decide +kernel
theorem dX12_copy_119 : decode cX12_copy 119 = .ok (.ifCond .eq 13, 3) := by decide +kernel
theorem dX12_copy_122 : decode cX12_copy 122 = .ok (.iload 5, 2) := by decide +kernel
theorem dX12_copy_124 : decode cX12_copy 124 = .ok (.iconst 1, 1) := by decide +kernel
theorem dX12_copy_125 : decode cX12_copy 125 = .ok (.isub, 1) := by decide +kernel
theorem dX12_copy_126 : decode cX12_copy 126 = .ok (.iload 7, 2) := by decide +kernel
theorem dX12_copy_128 : decode cX12_copy 128 = .ok (.isub, 1) := by decide +kernel
theorem dX12_copy_129 : decode cX12_copy 129 = .ok (.goto 5, 3) := by decide +kernel
theorem dX12_copy_132 : decode cX12_copy 132 = .ok (.iload 7, 2) := by decide +kernel
theorem dX12_copy_134 : decode cX12_copy 134 = .ok (.istore 8, 2) := by decide +kernel
theorem dX12_copy_136 : decode cX12_copy 136 = .ok (.aload_n 0, 1) := by decide +kernel
theorem dX12_copy_137 : decode cX12_copy 137 = .ok (.getfield 16, 3) := by decide +kernel
theorem dX12_copy_140 : decode cX12_copy 140 = .ok (.bipush 24, 2) := by decide +kernel
theorem dX12_copy_142 : decode cX12_copy 142 = .ok (.iload_n 3, 1) := by decide +kernel
theorem dX12_copy_143 : decode cX12_copy 143 = .ok (.imul, 1) := by decide +kernel
theorem dX12_copy_144 : decode cX12_copy 144 = .ok (.iload 4, 2) := by decide +kernel
theorem dX12_copy_146 : decode cX12_copy 146 = .ok (.iadd, 1) := by decide +kernel
theorem dX12_copy_147 : decode cX12_copy 147 = .ok (.iload 8, 2) := by decide +kernel
theorem dX12_copy_149 : decode cX12_copy 149 = .ok (.iadd, 1) := by decide +kernel
theorem dX12_copy_150 : decode cX12_copy 150 = .ok (.aload_n 0, 1) := by decide +kernel
theorem dX12_copy_151 : decode cX12_copy 151 = .ok (.getfield 16, 3) := by decide +kernel
theorem dX12_copy_154 : decode cX12_copy 154 = .ok (.bipush 24, 2) := by decide +kernel
theorem dX12_copy_156 : decode cX12_copy 156 = .ok (.iload_n 1, 1) := by decide +kernel
theorem dX12_copy_157 : decode cX12_copy 157 = .ok (.imul, 1) := by decide +kernel
theorem dX12_copy_158 : decode cX12_copy 158 = .ok (.iload_n 2, 1) := by decide +kernel
theorem dX12_copy_159 : decode cX12_copy 159 = .ok (.iadd, 1) := by decide +kernel
theorem dX12_copy_160 : decode cX12_copy 160 = .ok (.iload 8, 2) := by decide +kernel
theorem dX12_copy_162 : decode cX12_copy 162 = .ok (.iadd, 1) := by decide +kernel
theorem dX12_copy_163 : decode cX12_copy 163 = .ok (.laload, 1) := by decide +kernel
theorem dX12_copy_164 : decode cX12_copy 164 = .ok (.lastore, 1) := by decide +kernel
theorem dX12_copy_165 : decode cX12_copy 165 = .ok (.iinc 7 1, 3) := by decide +kernel
theorem dX12_copy_168 : decode cX12_copy 168 = .ok (.goto (-58), 3) := by decide +kernel
theorem dX12_copy_171 : decode cX12_copy 171 = .ok (.iload 5, 2) := by decide +kernel
theorem dX12_copy_173 : decode cX12_copy 173 = .ok (.ireturn, 1) := by decide +kernel
end
section
theorem dL_law_0 : decode code 0 = .ok (.new 7, 3) := by decide +kernel
theorem dL_law_3 : decode code 3 = .ok (.dup, 1) := by decide +kernel
theorem dL_law_4 : decode code 4 = .ok (.invokespecial 9, 3) := by decide +kernel
theorem dL_law_7 : decode code 7 = .ok (.astore_n 1, 1) := by decide +kernel
theorem dL_law_8 : decode code 8 = .ok (.new 10, 3) := by decide +kernel
theorem dL_law_11 : decode code 11 = .ok (.dup, 1) := by decide +kernel
theorem dL_law_12 : decode code 12 = .ok (.invokespecial 12, 3) := by decide +kernel
theorem dL_law_15 : decode code 15 = .ok (.astore_n 2, 1) := by decide +kernel
theorem dL_law_16 : decode code 16 = .ok (.iconst 0, 1) := by decide +kernel
theorem dL_law_17 : decode code 17 = .ok (.istore_n 3, 1) := by decide +kernel
theorem dL_law_18 : decode code 18 = .ok (.iload_n 3, 1) := by decide +kernel
theorem dL_law_19 : decode code 19 = .ok (.aload_n 0, 1) := by decide +kernel
theorem dL_law_20 : decode code 20 = .ok (.arraylength, 1) := by decide +kernel
theorem dL_law_21 : decode code 21 = .ok (.bipush 7, 2) := by decide +kernel
theorem dL_law_23 : decode code 23 = .ok (.isub, 1) := by decide +kernel
theorem dL_law_24 : decode code 24 = .ok (.if_icmp .gt 1320, 3) := by decide +kernel
theorem dL_law_27 : decode code 27 = .ok (.aload_n 0, 1) := by decide +kernel
theorem dL_law_28 : decode code 28 = .ok (.iload_n 3, 1) := by decide +kernel
theorem dL_law_29 : decode code 29 = .ok (.iaload, 1) := by decide +kernel
theorem dL_law_30 : decode code 30 = .ok (.bipush 63, 2) := by decide +kernel
theorem dL_law_32 : decode code 32 = .ok (.iand, 1) := by decide +kernel
theorem dL_law_33 : decode code 33 = .ok (.tableswitch 1305 0 33 #[151, 184, 237, 270, 303, 336, 369, 392, 405, 428, 451, 484, 517, 540, 563, 576, 599, 632, 665, 698, 711, 754, 797, 830, 863, 906, 929, 942, 955, 1030, 1093, 1136, 1159, 1242], 151) := by decide +kernel
theorem dL_law_184 : decode code 184 = .ok (.aload_n 1, 1) := by decide +kernel
theorem dL_law_185 : decode code 185 = .ok (.aload_n 0, 1) := by decide +kernel
theorem dL_law_186 : decode code 186 = .ok (.iload_n 3, 1) := by decide +kernel
theorem dL_law_187 : decode code 187 = .ok (.iconst 1, 1) := by decide +kernel
theorem dL_law_188 : decode code 188 = .ok (.iadd, 1) := by decide +kernel
theorem dL_law_189 : decode code 189 = .ok (.iaload, 1) := by decide +kernel
theorem dL_law_190 : decode code 190 = .ok (.aload_n 0, 1) := by decide +kernel
theorem dL_law_191 : decode code 191 = .ok (.iload_n 3, 1) := by decide +kernel
theorem dL_law_192 : decode code 192 = .ok (.iconst 2, 1) := by decide +kernel
theorem dL_law_193 : decode code 193 = .ok (.iadd, 1) := by decide +kernel
theorem dL_law_194 : decode code 194 = .ok (.iaload, 1) := by decide +kernel
theorem dL_law_195 : decode code 195 = .ok (.invokevirtual 13, 3) := by decide +kernel
theorem dL_law_198 : decode code 198 = .ok (.aload_n 2, 1) := by decide +kernel
theorem dL_law_199 : decode code 199 = .ok (.aload_n 0, 1) := by decide +kernel
theorem dL_law_200 : decode code 200 = .ok (.iload_n 3, 1) := by decide +kernel
theorem dL_law_201 : decode code 201 = .ok (.iconst 1, 1) := by decide +kernel
theorem dL_law_202 : decode code 202 = .ok (.iadd, 1) := by decide +kernel
theorem dL_law_203 : decode code 203 = .ok (.iaload, 1) := by decide +kernel
theorem dL_law_204 : decode code 204 = .ok (.aload_n 0, 1) := by decide +kernel
theorem dL_law_205 : decode code 205 = .ok (.iload_n 3, 1) := by decide +kernel
theorem dL_law_206 : decode code 206 = .ok (.iconst 2, 1) := by decide +kernel
theorem dL_law_207 : decode code 207 = .ok (.iadd, 1) := by decide +kernel
theorem dL_law_208 : decode code 208 = .ok (.iaload, 1) := by decide +kernel
theorem dL_law_209 : decode code 209 = .ok (.invokevirtual 17, 3) := by decide +kernel
theorem dL_law_212 : decode code 212 = .ok (.if_icmp .eq 1126, 3) := by decide +kernel
theorem dL_law_215 : decode code 215 = .ok (.iconst 0, 1) := by decide +kernel
theorem dL_law_216 : decode code 216 = .ok (.ireturn, 1) := by decide +kernel
theorem dL_law_217 : decode code 217 = .ok (.aload_n 1, 1) := by decide +kernel
theorem dL_law_218 : decode code 218 = .ok (.aload_n 0, 1) := by decide +kernel
theorem dL_law_219 : decode code 219 = .ok (.iload_n 3, 1) := by decide +kernel
theorem dL_law_220 : decode code 220 = .ok (.iconst 1, 1) := by decide +kernel
theorem dL_law_221 : decode code 221 = .ok (.iadd, 1) := by decide +kernel
theorem dL_law_222 : decode code 222 = .ok (.iaload, 1) := by decide +kernel
theorem dL_law_223 : decode code 223 = .ok (.aload_n 0, 1) := by decide +kernel
theorem dL_law_224 : decode code 224 = .ok (.iload_n 3, 1) := by decide +kernel
theorem dL_law_225 : decode code 225 = .ok (.iconst 2, 1) := by decide +kernel
theorem dL_law_226 : decode code 226 = .ok (.iadd, 1) := by decide +kernel
theorem dL_law_227 : decode code 227 = .ok (.iaload, 1) := by decide +kernel
theorem dL_law_228 : decode code 228 = .ok (.aload_n 0, 1) := by decide +kernel
theorem dL_law_229 : decode code 229 = .ok (.iload_n 3, 1) := by decide +kernel
theorem dL_law_230 : decode code 230 = .ok (.iconst 3, 1) := by decide +kernel
theorem dL_law_231 : decode code 231 = .ok (.iadd, 1) := by decide +kernel
theorem dL_law_232 : decode code 232 = .ok (.iaload, 1) := by decide +kernel
theorem dL_law_233 : decode code 233 = .ok (.aload_n 0, 1) := by decide +kernel
theorem dL_law_234 : decode code 234 = .ok (.iload_n 3, 1) := by decide +kernel
theorem dL_law_235 : decode code 235 = .ok (.iconst 4, 1) := by decide +kernel
theorem dL_law_236 : decode code 236 = .ok (.iadd, 1) := by decide +kernel
theorem dL_law_237 : decode code 237 = .ok (.iaload, 1) := by decide +kernel
theorem dL_law_238 : decode code 238 = .ok (.invokevirtual 18, 3) := by decide +kernel
theorem dL_law_241 : decode code 241 = .ok (.aload_n 2, 1) := by decide +kernel
theorem dL_law_242 : decode code 242 = .ok (.aload_n 0, 1) := by decide +kernel
theorem dL_law_243 : decode code 243 = .ok (.iload_n 3, 1) := by decide +kernel
theorem dL_law_244 : decode code 244 = .ok (.iconst 1, 1) := by decide +kernel
theorem dL_law_245 : decode code 245 = .ok (.iadd, 1) := by decide +kernel
theorem dL_law_246 : decode code 246 = .ok (.iaload, 1) := by decide +kernel
theorem dL_law_247 : decode code 247 = .ok (.aload_n 0, 1) := by decide +kernel
theorem dL_law_248 : decode code 248 = .ok (.iload_n 3, 1) := by decide +kernel
theorem dL_law_249 : decode code 249 = .ok (.iconst 2, 1) := by decide +kernel
theorem dL_law_250 : decode code 250 = .ok (.iadd, 1) := by decide +kernel
theorem dL_law_251 : decode code 251 = .ok (.iaload, 1) := by decide +kernel
theorem dL_law_252 : decode code 252 = .ok (.aload_n 0, 1) := by decide +kernel
theorem dL_law_253 : decode code 253 = .ok (.iload_n 3, 1) := by decide +kernel
theorem dL_law_254 : decode code 254 = .ok (.iconst 3, 1) := by decide +kernel
theorem dL_law_255 : decode code 255 = .ok (.iadd, 1) := by decide +kernel
theorem dL_law_256 : decode code 256 = .ok (.iaload, 1) := by decide +kernel
theorem dL_law_257 : decode code 257 = .ok (.aload_n 0, 1) := by decide +kernel
theorem dL_law_258 : decode code 258 = .ok (.iload_n 3, 1) := by decide +kernel
theorem dL_law_259 : decode code 259 = .ok (.iconst 4, 1) := by decide +kernel
theorem dL_law_260 : decode code 260 = .ok (.iadd, 1) := by decide +kernel
theorem dL_law_261 : decode code 261 = .ok (.iaload, 1) := by decide +kernel
theorem dL_law_262 : decode code 262 = .ok (.invokevirtual 22, 3) := by decide +kernel
theorem dL_law_265 : decode code 265 = .ok (.if_icmp .eq 1073, 3) := by decide +kernel
theorem dL_law_268 : decode code 268 = .ok (.iconst 0, 1) := by decide +kernel
theorem dL_law_269 : decode code 269 = .ok (.ireturn, 1) := by decide +kernel
theorem dL_law_270 : decode code 270 = .ok (.aload_n 1, 1) := by decide +kernel
theorem dL_law_271 : decode code 271 = .ok (.aload_n 0, 1) := by decide +kernel
theorem dL_law_272 : decode code 272 = .ok (.iload_n 3, 1) := by decide +kernel
theorem dL_law_273 : decode code 273 = .ok (.iconst 1, 1) := by decide +kernel
theorem dL_law_274 : decode code 274 = .ok (.iadd, 1) := by decide +kernel
theorem dL_law_275 : decode code 275 = .ok (.iaload, 1) := by decide +kernel
theorem dL_law_276 : decode code 276 = .ok (.aload_n 0, 1) := by decide +kernel
theorem dL_law_277 : decode code 277 = .ok (.iload_n 3, 1) := by decide +kernel
theorem dL_law_278 : decode code 278 = .ok (.iconst 2, 1) := by decide +kernel
theorem dL_law_279 : decode code 279 = .ok (.iadd, 1) := by decide +kernel
theorem dL_law_280 : decode code 280 = .ok (.iaload, 1) := by decide +kernel
theorem dL_law_281 : decode code 281 = .ok (.invokevirtual 23, 3) := by decide +kernel
theorem dL_law_284 : decode code 284 = .ok (.aload_n 2, 1) := by decide +kernel
theorem dL_law_285 : decode code 285 = .ok (.aload_n 0, 1) := by decide +kernel
theorem dL_law_286 : decode code 286 = .ok (.iload_n 3, 1) := by decide +kernel
theorem dL_law_287 : decode code 287 = .ok (.iconst 1, 1) := by decide +kernel
theorem dL_law_288 : decode code 288 = .ok (.iadd, 1) := by decide +kernel
theorem dL_law_289 : decode code 289 = .ok (.iaload, 1) := by decide +kernel
theorem dL_law_290 : decode code 290 = .ok (.aload_n 0, 1) := by decide +kernel
theorem dL_law_291 : decode code 291 = .ok (.iload_n 3, 1) := by decide +kernel
theorem dL_law_292 : decode code 292 = .ok (.iconst 2, 1) := by decide +kernel
theorem dL_law_293 : decode code 293 = .ok (.iadd, 1) := by decide +kernel
theorem dL_law_294 : decode code 294 = .ok (.iaload, 1) := by decide +kernel
theorem dL_law_295 : decode code 295 = .ok (.invokevirtual 26, 3) := by decide +kernel
theorem dL_law_298 : decode code 298 = .ok (.if_icmp .eq 1040, 3) := by decide +kernel
theorem dL_law_301 : decode code 301 = .ok (.iconst 0, 1) := by decide +kernel
theorem dL_law_302 : decode code 302 = .ok (.ireturn, 1) := by decide +kernel
theorem dL_law_303 : decode code 303 = .ok (.aload_n 1, 1) := by decide +kernel
theorem dL_law_304 : decode code 304 = .ok (.aload_n 0, 1) := by decide +kernel
theorem dL_law_305 : decode code 305 = .ok (.iload_n 3, 1) := by decide +kernel
theorem dL_law_306 : decode code 306 = .ok (.iconst 1, 1) := by decide +kernel
theorem dL_law_307 : decode code 307 = .ok (.iadd, 1) := by decide +kernel
theorem dL_law_308 : decode code 308 = .ok (.iaload, 1) := by decide +kernel
theorem dL_law_309 : decode code 309 = .ok (.aload_n 0, 1) := by decide +kernel
theorem dL_law_310 : decode code 310 = .ok (.iload_n 3, 1) := by decide +kernel
theorem dL_law_311 : decode code 311 = .ok (.iconst 2, 1) := by decide +kernel
theorem dL_law_312 : decode code 312 = .ok (.iadd, 1) := by decide +kernel
theorem dL_law_313 : decode code 313 = .ok (.iaload, 1) := by decide +kernel
theorem dL_law_314 : decode code 314 = .ok (.invokevirtual 27, 3) := by decide +kernel
theorem dL_law_317 : decode code 317 = .ok (.aload_n 2, 1) := by decide +kernel
theorem dL_law_318 : decode code 318 = .ok (.aload_n 0, 1) := by decide +kernel
theorem dL_law_319 : decode code 319 = .ok (.iload_n 3, 1) := by decide +kernel
theorem dL_law_320 : decode code 320 = .ok (.iconst 1, 1) := by decide +kernel
theorem dL_law_321 : decode code 321 = .ok (.iadd, 1) := by decide +kernel
theorem dL_law_322 : decode code 322 = .ok (.iaload, 1) := by decide +kernel
theorem dL_law_323 : decode code 323 = .ok (.aload_n 0, 1) := by decide +kernel
theorem dL_law_324 : decode code 324 = .ok (.iload_n 3, 1) := by decide +kernel
theorem dL_law_325 : decode code 325 = .ok (.iconst 2, 1) := by decide +kernel
theorem dL_law_326 : decode code 326 = .ok (.iadd, 1) := by decide +kernel
theorem dL_law_327 : decode code 327 = .ok (.iaload, 1) := by decide +kernel
theorem dL_law_328 : decode code 328 = .ok (.invokevirtual 30, 3) := by decide +kernel
theorem dL_law_331 : decode code 331 = .ok (.if_icmp .eq 1007, 3) := by decide +kernel
theorem dL_law_334 : decode code 334 = .ok (.iconst 0, 1) := by decide +kernel
theorem dL_law_335 : decode code 335 = .ok (.ireturn, 1) := by decide +kernel
theorem dL_law_336 : decode code 336 = .ok (.aload_n 1, 1) := by decide +kernel
theorem dL_law_337 : decode code 337 = .ok (.aload_n 0, 1) := by decide +kernel
theorem dL_law_338 : decode code 338 = .ok (.iload_n 3, 1) := by decide +kernel
theorem dL_law_339 : decode code 339 = .ok (.iconst 1, 1) := by decide +kernel
theorem dL_law_340 : decode code 340 = .ok (.iadd, 1) := by decide +kernel
theorem dL_law_341 : decode code 341 = .ok (.iaload, 1) := by decide +kernel
theorem dL_law_342 : decode code 342 = .ok (.aload_n 0, 1) := by decide +kernel
theorem dL_law_343 : decode code 343 = .ok (.iload_n 3, 1) := by decide +kernel
theorem dL_law_344 : decode code 344 = .ok (.iconst 2, 1) := by decide +kernel
theorem dL_law_345 : decode code 345 = .ok (.iadd, 1) := by decide +kernel
theorem dL_law_346 : decode code 346 = .ok (.iaload, 1) := by decide +kernel
theorem dL_law_347 : decode code 347 = .ok (.invokevirtual 31, 3) := by decide +kernel
theorem dL_law_350 : decode code 350 = .ok (.aload_n 2, 1) := by decide +kernel
theorem dL_law_351 : decode code 351 = .ok (.aload_n 0, 1) := by decide +kernel
theorem dL_law_352 : decode code 352 = .ok (.iload_n 3, 1) := by decide +kernel
theorem dL_law_353 : decode code 353 = .ok (.iconst 1, 1) := by decide +kernel
theorem dL_law_354 : decode code 354 = .ok (.iadd, 1) := by decide +kernel
theorem dL_law_355 : decode code 355 = .ok (.iaload, 1) := by decide +kernel
theorem dL_law_356 : decode code 356 = .ok (.aload_n 0, 1) := by decide +kernel
theorem dL_law_357 : decode code 357 = .ok (.iload_n 3, 1) := by decide +kernel
theorem dL_law_358 : decode code 358 = .ok (.iconst 2, 1) := by decide +kernel
theorem dL_law_359 : decode code 359 = .ok (.iadd, 1) := by decide +kernel
theorem dL_law_360 : decode code 360 = .ok (.iaload, 1) := by decide +kernel
theorem dL_law_361 : decode code 361 = .ok (.invokevirtual 34, 3) := by decide +kernel
theorem dL_law_364 : decode code 364 = .ok (.if_icmp .eq 974, 3) := by decide +kernel
theorem dL_law_367 : decode code 367 = .ok (.iconst 0, 1) := by decide +kernel
theorem dL_law_368 : decode code 368 = .ok (.ireturn, 1) := by decide +kernel
theorem dL_law_369 : decode code 369 = .ok (.aload_n 1, 1) := by decide +kernel
theorem dL_law_370 : decode code 370 = .ok (.aload_n 0, 1) := by decide +kernel
theorem dL_law_371 : decode code 371 = .ok (.iload_n 3, 1) := by decide +kernel
theorem dL_law_372 : decode code 372 = .ok (.iconst 1, 1) := by decide +kernel
theorem dL_law_373 : decode code 373 = .ok (.iadd, 1) := by decide +kernel
theorem dL_law_374 : decode code 374 = .ok (.iaload, 1) := by decide +kernel
theorem dL_law_375 : decode code 375 = .ok (.aload_n 0, 1) := by decide +kernel
theorem dL_law_376 : decode code 376 = .ok (.iload_n 3, 1) := by decide +kernel
theorem dL_law_377 : decode code 377 = .ok (.iconst 2, 1) := by decide +kernel
theorem dL_law_378 : decode code 378 = .ok (.iadd, 1) := by decide +kernel
theorem dL_law_379 : decode code 379 = .ok (.iaload, 1) := by decide +kernel
theorem dL_law_380 : decode code 380 = .ok (.invokevirtual 35, 3) := by decide +kernel
theorem dL_law_383 : decode code 383 = .ok (.aload_n 2, 1) := by decide +kernel
theorem dL_law_384 : decode code 384 = .ok (.aload_n 0, 1) := by decide +kernel
theorem dL_law_385 : decode code 385 = .ok (.iload_n 3, 1) := by decide +kernel
theorem dL_law_386 : decode code 386 = .ok (.iconst 1, 1) := by decide +kernel
theorem dL_law_387 : decode code 387 = .ok (.iadd, 1) := by decide +kernel
theorem dL_law_388 : decode code 388 = .ok (.iaload, 1) := by decide +kernel
theorem dL_law_389 : decode code 389 = .ok (.aload_n 0, 1) := by decide +kernel
theorem dL_law_390 : decode code 390 = .ok (.iload_n 3, 1) := by decide +kernel
theorem dL_law_391 : decode code 391 = .ok (.iconst 2, 1) := by decide +kernel
theorem dL_law_392 : decode code 392 = .ok (.iadd, 1) := by decide +kernel
theorem dL_law_393 : decode code 393 = .ok (.iaload, 1) := by decide +kernel
theorem dL_law_394 : decode code 394 = .ok (.invokevirtual 38, 3) := by decide +kernel
theorem dL_law_397 : decode code 397 = .ok (.if_icmp .eq 941, 3) := by decide +kernel
theorem dL_law_400 : decode code 400 = .ok (.iconst 0, 1) := by decide +kernel
theorem dL_law_401 : decode code 401 = .ok (.ireturn, 1) := by decide +kernel
theorem dL_law_402 : decode code 402 = .ok (.aload_n 1, 1) := by decide +kernel
theorem dL_law_403 : decode code 403 = .ok (.aload_n 0, 1) := by decide +kernel
theorem dL_law_404 : decode code 404 = .ok (.iload_n 3, 1) := by decide +kernel
theorem dL_law_405 : decode code 405 = .ok (.iconst 1, 1) := by decide +kernel
theorem dL_law_406 : decode code 406 = .ok (.iadd, 1) := by decide +kernel
theorem dL_law_407 : decode code 407 = .ok (.iaload, 1) := by decide +kernel
theorem dL_law_408 : decode code 408 = .ok (.invokevirtual 39, 3) := by decide +kernel
theorem dL_law_411 : decode code 411 = .ok (.aload_n 2, 1) := by decide +kernel
theorem dL_law_412 : decode code 412 = .ok (.aload_n 0, 1) := by decide +kernel
theorem dL_law_413 : decode code 413 = .ok (.iload_n 3, 1) := by decide +kernel
theorem dL_law_414 : decode code 414 = .ok (.iconst 1, 1) := by decide +kernel
theorem dL_law_415 : decode code 415 = .ok (.iadd, 1) := by decide +kernel
theorem dL_law_416 : decode code 416 = .ok (.iaload, 1) := by decide +kernel
theorem dL_law_417 : decode code 417 = .ok (.invokevirtual 43, 3) := by decide +kernel
theorem dL_law_420 : decode code 420 = .ok (.if_icmp .eq 918, 3) := by decide +kernel
theorem dL_law_423 : decode code 423 = .ok (.iconst 0, 1) := by decide +kernel
theorem dL_law_424 : decode code 424 = .ok (.ireturn, 1) := by decide +kernel
theorem dL_law_425 : decode code 425 = .ok (.aload_n 1, 1) := by decide +kernel
theorem dL_law_426 : decode code 426 = .ok (.invokevirtual 44, 3) := by decide +kernel
theorem dL_law_429 : decode code 429 = .ok (.aload_n 2, 1) := by decide +kernel
theorem dL_law_430 : decode code 430 = .ok (.invokevirtual 48, 3) := by decide +kernel
theorem dL_law_433 : decode code 433 = .ok (.if_icmp .eq 905, 3) := by decide +kernel
theorem dL_law_436 : decode code 436 = .ok (.iconst 0, 1) := by decide +kernel
theorem dL_law_437 : decode code 437 = .ok (.ireturn, 1) := by decide +kernel
theorem dL_law_438 : decode code 438 = .ok (.aload_n 1, 1) := by decide +kernel
theorem dL_law_439 : decode code 439 = .ok (.aload_n 0, 1) := by decide +kernel
theorem dL_law_440 : decode code 440 = .ok (.iload_n 3, 1) := by decide +kernel
theorem dL_law_441 : decode code 441 = .ok (.iconst 1, 1) := by decide +kernel
theorem dL_law_442 : decode code 442 = .ok (.iadd, 1) := by decide +kernel
theorem dL_law_443 : decode code 443 = .ok (.iaload, 1) := by decide +kernel
theorem dL_law_444 : decode code 444 = .ok (.invokevirtual 49, 3) := by decide +kernel
theorem dL_law_447 : decode code 447 = .ok (.aload_n 2, 1) := by decide +kernel
theorem dL_law_448 : decode code 448 = .ok (.aload_n 0, 1) := by decide +kernel
theorem dL_law_449 : decode code 449 = .ok (.iload_n 3, 1) := by decide +kernel
theorem dL_law_450 : decode code 450 = .ok (.iconst 1, 1) := by decide +kernel
theorem dL_law_451 : decode code 451 = .ok (.iadd, 1) := by decide +kernel
theorem dL_law_452 : decode code 452 = .ok (.iaload, 1) := by decide +kernel
theorem dL_law_453 : decode code 453 = .ok (.invokevirtual 52, 3) := by decide +kernel
theorem dL_law_456 : decode code 456 = .ok (.if_icmp .eq 882, 3) := by decide +kernel
theorem dL_law_459 : decode code 459 = .ok (.iconst 0, 1) := by decide +kernel
theorem dL_law_460 : decode code 460 = .ok (.ireturn, 1) := by decide +kernel
theorem dL_law_461 : decode code 461 = .ok (.aload_n 1, 1) := by decide +kernel
theorem dL_law_462 : decode code 462 = .ok (.aload_n 0, 1) := by decide +kernel
theorem dL_law_463 : decode code 463 = .ok (.iload_n 3, 1) := by decide +kernel
theorem dL_law_464 : decode code 464 = .ok (.iconst 1, 1) := by decide +kernel
theorem dL_law_465 : decode code 465 = .ok (.iadd, 1) := by decide +kernel
theorem dL_law_466 : decode code 466 = .ok (.iaload, 1) := by decide +kernel
theorem dL_law_467 : decode code 467 = .ok (.invokevirtual 53, 3) := by decide +kernel
theorem dL_law_470 : decode code 470 = .ok (.aload_n 2, 1) := by decide +kernel
theorem dL_law_471 : decode code 471 = .ok (.aload_n 0, 1) := by decide +kernel
theorem dL_law_472 : decode code 472 = .ok (.iload_n 3, 1) := by decide +kernel
theorem dL_law_473 : decode code 473 = .ok (.iconst 1, 1) := by decide +kernel
theorem dL_law_474 : decode code 474 = .ok (.iadd, 1) := by decide +kernel
theorem dL_law_475 : decode code 475 = .ok (.iaload, 1) := by decide +kernel
theorem dL_law_476 : decode code 476 = .ok (.invokevirtual 56, 3) := by decide +kernel
theorem dL_law_479 : decode code 479 = .ok (.if_icmp .eq 859, 3) := by decide +kernel
theorem dL_law_482 : decode code 482 = .ok (.iconst 0, 1) := by decide +kernel
theorem dL_law_483 : decode code 483 = .ok (.ireturn, 1) := by decide +kernel
theorem dL_law_484 : decode code 484 = .ok (.aload_n 1, 1) := by decide +kernel
theorem dL_law_485 : decode code 485 = .ok (.aload_n 0, 1) := by decide +kernel
theorem dL_law_486 : decode code 486 = .ok (.iload_n 3, 1) := by decide +kernel
theorem dL_law_487 : decode code 487 = .ok (.iconst 1, 1) := by decide +kernel
theorem dL_law_488 : decode code 488 = .ok (.iadd, 1) := by decide +kernel
theorem dL_law_489 : decode code 489 = .ok (.iaload, 1) := by decide +kernel
theorem dL_law_490 : decode code 490 = .ok (.aload_n 0, 1) := by decide +kernel
theorem dL_law_491 : decode code 491 = .ok (.iload_n 3, 1) := by decide +kernel
theorem dL_law_492 : decode code 492 = .ok (.iconst 2, 1) := by decide +kernel
theorem dL_law_493 : decode code 493 = .ok (.iadd, 1) := by decide +kernel
theorem dL_law_494 : decode code 494 = .ok (.iaload, 1) := by decide +kernel
theorem dL_law_495 : decode code 495 = .ok (.invokevirtual 57, 3) := by decide +kernel
theorem dL_law_498 : decode code 498 = .ok (.aload_n 2, 1) := by decide +kernel
theorem dL_law_499 : decode code 499 = .ok (.aload_n 0, 1) := by decide +kernel
theorem dL_law_500 : decode code 500 = .ok (.iload_n 3, 1) := by decide +kernel
theorem dL_law_501 : decode code 501 = .ok (.iconst 1, 1) := by decide +kernel
theorem dL_law_502 : decode code 502 = .ok (.iadd, 1) := by decide +kernel
theorem dL_law_503 : decode code 503 = .ok (.iaload, 1) := by decide +kernel
theorem dL_law_504 : decode code 504 = .ok (.aload_n 0, 1) := by decide +kernel
theorem dL_law_505 : decode code 505 = .ok (.iload_n 3, 1) := by decide +kernel
theorem dL_law_506 : decode code 506 = .ok (.iconst 2, 1) := by decide +kernel
theorem dL_law_507 : decode code 507 = .ok (.iadd, 1) := by decide +kernel
theorem dL_law_508 : decode code 508 = .ok (.iaload, 1) := by decide +kernel
theorem dL_law_509 : decode code 509 = .ok (.invokevirtual 60, 3) := by decide +kernel
theorem dL_law_512 : decode code 512 = .ok (.if_icmp .eq 826, 3) := by decide +kernel
theorem dL_law_515 : decode code 515 = .ok (.iconst 0, 1) := by decide +kernel
theorem dL_law_516 : decode code 516 = .ok (.ireturn, 1) := by decide +kernel
theorem dL_law_517 : decode code 517 = .ok (.aload_n 1, 1) := by decide +kernel
theorem dL_law_518 : decode code 518 = .ok (.aload_n 0, 1) := by decide +kernel
theorem dL_law_519 : decode code 519 = .ok (.iload_n 3, 1) := by decide +kernel
theorem dL_law_520 : decode code 520 = .ok (.iconst 1, 1) := by decide +kernel
theorem dL_law_521 : decode code 521 = .ok (.iadd, 1) := by decide +kernel
theorem dL_law_522 : decode code 522 = .ok (.iaload, 1) := by decide +kernel
theorem dL_law_523 : decode code 523 = .ok (.aload_n 0, 1) := by decide +kernel
theorem dL_law_524 : decode code 524 = .ok (.iload_n 3, 1) := by decide +kernel
theorem dL_law_525 : decode code 525 = .ok (.iconst 2, 1) := by decide +kernel
theorem dL_law_526 : decode code 526 = .ok (.iadd, 1) := by decide +kernel
theorem dL_law_527 : decode code 527 = .ok (.iaload, 1) := by decide +kernel
theorem dL_law_528 : decode code 528 = .ok (.invokevirtual 61, 3) := by decide +kernel
theorem dL_law_531 : decode code 531 = .ok (.aload_n 2, 1) := by decide +kernel
theorem dL_law_532 : decode code 532 = .ok (.aload_n 0, 1) := by decide +kernel
theorem dL_law_533 : decode code 533 = .ok (.iload_n 3, 1) := by decide +kernel
theorem dL_law_534 : decode code 534 = .ok (.iconst 1, 1) := by decide +kernel
theorem dL_law_535 : decode code 535 = .ok (.iadd, 1) := by decide +kernel
theorem dL_law_536 : decode code 536 = .ok (.iaload, 1) := by decide +kernel
theorem dL_law_537 : decode code 537 = .ok (.aload_n 0, 1) := by decide +kernel
theorem dL_law_538 : decode code 538 = .ok (.iload_n 3, 1) := by decide +kernel
theorem dL_law_539 : decode code 539 = .ok (.iconst 2, 1) := by decide +kernel
theorem dL_law_540 : decode code 540 = .ok (.iadd, 1) := by decide +kernel
theorem dL_law_541 : decode code 541 = .ok (.iaload, 1) := by decide +kernel
theorem dL_law_542 : decode code 542 = .ok (.invokevirtual 64, 3) := by decide +kernel
theorem dL_law_545 : decode code 545 = .ok (.if_icmp .eq 793, 3) := by decide +kernel
theorem dL_law_548 : decode code 548 = .ok (.iconst 0, 1) := by decide +kernel
theorem dL_law_549 : decode code 549 = .ok (.ireturn, 1) := by decide +kernel
theorem dL_law_550 : decode code 550 = .ok (.aload_n 1, 1) := by decide +kernel
theorem dL_law_551 : decode code 551 = .ok (.aload_n 0, 1) := by decide +kernel
theorem dL_law_552 : decode code 552 = .ok (.iload_n 3, 1) := by decide +kernel
theorem dL_law_553 : decode code 553 = .ok (.iconst 1, 1) := by decide +kernel
theorem dL_law_554 : decode code 554 = .ok (.iadd, 1) := by decide +kernel
theorem dL_law_555 : decode code 555 = .ok (.iaload, 1) := by decide +kernel
theorem dL_law_556 : decode code 556 = .ok (.invokevirtual 65, 3) := by decide +kernel
theorem dL_law_559 : decode code 559 = .ok (.aload_n 2, 1) := by decide +kernel
theorem dL_law_560 : decode code 560 = .ok (.aload_n 0, 1) := by decide +kernel
theorem dL_law_561 : decode code 561 = .ok (.iload_n 3, 1) := by decide +kernel
theorem dL_law_562 : decode code 562 = .ok (.iconst 1, 1) := by decide +kernel
theorem dL_law_563 : decode code 563 = .ok (.iadd, 1) := by decide +kernel
theorem dL_law_564 : decode code 564 = .ok (.iaload, 1) := by decide +kernel
theorem dL_law_565 : decode code 565 = .ok (.invokevirtual 68, 3) := by decide +kernel
theorem dL_law_568 : decode code 568 = .ok (.if_icmp .eq 770, 3) := by decide +kernel
theorem dL_law_571 : decode code 571 = .ok (.iconst 0, 1) := by decide +kernel
theorem dL_law_572 : decode code 572 = .ok (.ireturn, 1) := by decide +kernel
theorem dL_law_573 : decode code 573 = .ok (.aload_n 1, 1) := by decide +kernel
theorem dL_law_574 : decode code 574 = .ok (.aload_n 0, 1) := by decide +kernel
theorem dL_law_575 : decode code 575 = .ok (.iload_n 3, 1) := by decide +kernel
theorem dL_law_576 : decode code 576 = .ok (.iconst 1, 1) := by decide +kernel
theorem dL_law_577 : decode code 577 = .ok (.iadd, 1) := by decide +kernel
theorem dL_law_578 : decode code 578 = .ok (.iaload, 1) := by decide +kernel
theorem dL_law_579 : decode code 579 = .ok (.invokevirtual 69, 3) := by decide +kernel
theorem dL_law_582 : decode code 582 = .ok (.aload_n 2, 1) := by decide +kernel
theorem dL_law_583 : decode code 583 = .ok (.aload_n 0, 1) := by decide +kernel
theorem dL_law_584 : decode code 584 = .ok (.iload_n 3, 1) := by decide +kernel
theorem dL_law_585 : decode code 585 = .ok (.iconst 1, 1) := by decide +kernel
theorem dL_law_586 : decode code 586 = .ok (.iadd, 1) := by decide +kernel
theorem dL_law_587 : decode code 587 = .ok (.iaload, 1) := by decide +kernel
theorem dL_law_588 : decode code 588 = .ok (.invokevirtual 72, 3) := by decide +kernel
theorem dL_law_591 : decode code 591 = .ok (.if_icmp .eq 747, 3) := by decide +kernel
theorem dL_law_594 : decode code 594 = .ok (.iconst 0, 1) := by decide +kernel
theorem dL_law_595 : decode code 595 = .ok (.ireturn, 1) := by decide +kernel
theorem dL_law_596 : decode code 596 = .ok (.aload_n 1, 1) := by decide +kernel
theorem dL_law_597 : decode code 597 = .ok (.invokevirtual 73, 3) := by decide +kernel
theorem dL_law_600 : decode code 600 = .ok (.aload_n 2, 1) := by decide +kernel
theorem dL_law_601 : decode code 601 = .ok (.invokevirtual 76, 3) := by decide +kernel
theorem dL_law_604 : decode code 604 = .ok (.if_icmp .eq 734, 3) := by decide +kernel
theorem dL_law_607 : decode code 607 = .ok (.iconst 0, 1) := by decide +kernel
theorem dL_law_608 : decode code 608 = .ok (.ireturn, 1) := by decide +kernel
theorem dL_law_609 : decode code 609 = .ok (.aload_n 1, 1) := by decide +kernel
theorem dL_law_610 : decode code 610 = .ok (.aload_n 0, 1) := by decide +kernel
theorem dL_law_611 : decode code 611 = .ok (.iload_n 3, 1) := by decide +kernel
theorem dL_law_612 : decode code 612 = .ok (.iconst 1, 1) := by decide +kernel
theorem dL_law_613 : decode code 613 = .ok (.iadd, 1) := by decide +kernel
theorem dL_law_614 : decode code 614 = .ok (.iaload, 1) := by decide +kernel
theorem dL_law_615 : decode code 615 = .ok (.invokevirtual 77, 3) := by decide +kernel
theorem dL_law_618 : decode code 618 = .ok (.aload_n 2, 1) := by decide +kernel
theorem dL_law_619 : decode code 619 = .ok (.aload_n 0, 1) := by decide +kernel
theorem dL_law_620 : decode code 620 = .ok (.iload_n 3, 1) := by decide +kernel
theorem dL_law_621 : decode code 621 = .ok (.iconst 1, 1) := by decide +kernel
theorem dL_law_622 : decode code 622 = .ok (.iadd, 1) := by decide +kernel
theorem dL_law_623 : decode code 623 = .ok (.iaload, 1) := by decide +kernel
theorem dL_law_624 : decode code 624 = .ok (.invokevirtual 80, 3) := by decide +kernel
theorem dL_law_627 : decode code 627 = .ok (.if_icmp .eq 711, 3) := by decide +kernel
theorem dL_law_630 : decode code 630 = .ok (.iconst 0, 1) := by decide +kernel
theorem dL_law_631 : decode code 631 = .ok (.ireturn, 1) := by decide +kernel
theorem dL_law_632 : decode code 632 = .ok (.aload_n 1, 1) := by decide +kernel
theorem dL_law_633 : decode code 633 = .ok (.aload_n 0, 1) := by decide +kernel
theorem dL_law_634 : decode code 634 = .ok (.iload_n 3, 1) := by decide +kernel
theorem dL_law_635 : decode code 635 = .ok (.iconst 1, 1) := by decide +kernel
theorem dL_law_636 : decode code 636 = .ok (.iadd, 1) := by decide +kernel
theorem dL_law_637 : decode code 637 = .ok (.iaload, 1) := by decide +kernel
theorem dL_law_638 : decode code 638 = .ok (.aload_n 0, 1) := by decide +kernel
theorem dL_law_639 : decode code 639 = .ok (.iload_n 3, 1) := by decide +kernel
theorem dL_law_640 : decode code 640 = .ok (.iconst 2, 1) := by decide +kernel
theorem dL_law_641 : decode code 641 = .ok (.iadd, 1) := by decide +kernel
theorem dL_law_642 : decode code 642 = .ok (.iaload, 1) := by decide +kernel
theorem dL_law_643 : decode code 643 = .ok (.invokevirtual 81, 3) := by decide +kernel
theorem dL_law_646 : decode code 646 = .ok (.aload_n 2, 1) := by decide +kernel
theorem dL_law_647 : decode code 647 = .ok (.aload_n 0, 1) := by decide +kernel
theorem dL_law_648 : decode code 648 = .ok (.iload_n 3, 1) := by decide +kernel
theorem dL_law_649 : decode code 649 = .ok (.iconst 1, 1) := by decide +kernel
theorem dL_law_650 : decode code 650 = .ok (.iadd, 1) := by decide +kernel
theorem dL_law_651 : decode code 651 = .ok (.iaload, 1) := by decide +kernel
theorem dL_law_652 : decode code 652 = .ok (.aload_n 0, 1) := by decide +kernel
theorem dL_law_653 : decode code 653 = .ok (.iload_n 3, 1) := by decide +kernel
theorem dL_law_654 : decode code 654 = .ok (.iconst 2, 1) := by decide +kernel
theorem dL_law_655 : decode code 655 = .ok (.iadd, 1) := by decide +kernel
theorem dL_law_656 : decode code 656 = .ok (.iaload, 1) := by decide +kernel
theorem dL_law_657 : decode code 657 = .ok (.invokevirtual 84, 3) := by decide +kernel
theorem dL_law_660 : decode code 660 = .ok (.if_icmp .eq 678, 3) := by decide +kernel
theorem dL_law_663 : decode code 663 = .ok (.iconst 0, 1) := by decide +kernel
theorem dL_law_664 : decode code 664 = .ok (.ireturn, 1) := by decide +kernel
theorem dL_law_665 : decode code 665 = .ok (.aload_n 1, 1) := by decide +kernel
theorem dL_law_666 : decode code 666 = .ok (.aload_n 0, 1) := by decide +kernel
theorem dL_law_667 : decode code 667 = .ok (.iload_n 3, 1) := by decide +kernel
theorem dL_law_668 : decode code 668 = .ok (.iconst 1, 1) := by decide +kernel
theorem dL_law_669 : decode code 669 = .ok (.iadd, 1) := by decide +kernel
theorem dL_law_670 : decode code 670 = .ok (.iaload, 1) := by decide +kernel
theorem dL_law_671 : decode code 671 = .ok (.aload_n 0, 1) := by decide +kernel
theorem dL_law_672 : decode code 672 = .ok (.iload_n 3, 1) := by decide +kernel
theorem dL_law_673 : decode code 673 = .ok (.iconst 2, 1) := by decide +kernel
theorem dL_law_674 : decode code 674 = .ok (.iadd, 1) := by decide +kernel
theorem dL_law_675 : decode code 675 = .ok (.iaload, 1) := by decide +kernel
theorem dL_law_676 : decode code 676 = .ok (.invokevirtual 85, 3) := by decide +kernel
theorem dL_law_679 : decode code 679 = .ok (.aload_n 2, 1) := by decide +kernel
theorem dL_law_680 : decode code 680 = .ok (.aload_n 0, 1) := by decide +kernel
theorem dL_law_681 : decode code 681 = .ok (.iload_n 3, 1) := by decide +kernel
theorem dL_law_682 : decode code 682 = .ok (.iconst 1, 1) := by decide +kernel
theorem dL_law_683 : decode code 683 = .ok (.iadd, 1) := by decide +kernel
theorem dL_law_684 : decode code 684 = .ok (.iaload, 1) := by decide +kernel
theorem dL_law_685 : decode code 685 = .ok (.aload_n 0, 1) := by decide +kernel
theorem dL_law_686 : decode code 686 = .ok (.iload_n 3, 1) := by decide +kernel
theorem dL_law_687 : decode code 687 = .ok (.iconst 2, 1) := by decide +kernel
theorem dL_law_688 : decode code 688 = .ok (.iadd, 1) := by decide +kernel
theorem dL_law_689 : decode code 689 = .ok (.iaload, 1) := by decide +kernel
theorem dL_law_690 : decode code 690 = .ok (.invokevirtual 88, 3) := by decide +kernel
theorem dL_law_693 : decode code 693 = .ok (.if_icmp .eq 645, 3) := by decide +kernel
theorem dL_law_696 : decode code 696 = .ok (.iconst 0, 1) := by decide +kernel
theorem dL_law_697 : decode code 697 = .ok (.ireturn, 1) := by decide +kernel
theorem dL_law_698 : decode code 698 = .ok (.aload_n 1, 1) := by decide +kernel
theorem dL_law_699 : decode code 699 = .ok (.aload_n 0, 1) := by decide +kernel
theorem dL_law_700 : decode code 700 = .ok (.iload_n 3, 1) := by decide +kernel
theorem dL_law_701 : decode code 701 = .ok (.iconst 1, 1) := by decide +kernel
theorem dL_law_702 : decode code 702 = .ok (.iadd, 1) := by decide +kernel
theorem dL_law_703 : decode code 703 = .ok (.iaload, 1) := by decide +kernel
theorem dL_law_704 : decode code 704 = .ok (.aload_n 0, 1) := by decide +kernel
theorem dL_law_705 : decode code 705 = .ok (.iload_n 3, 1) := by decide +kernel
theorem dL_law_706 : decode code 706 = .ok (.iconst 2, 1) := by decide +kernel
theorem dL_law_707 : decode code 707 = .ok (.iadd, 1) := by decide +kernel
theorem dL_law_708 : decode code 708 = .ok (.iaload, 1) := by decide +kernel
theorem dL_law_709 : decode code 709 = .ok (.invokevirtual 89, 3) := by decide +kernel
theorem dL_law_712 : decode code 712 = .ok (.aload_n 2, 1) := by decide +kernel
theorem dL_law_713 : decode code 713 = .ok (.aload_n 0, 1) := by decide +kernel
theorem dL_law_714 : decode code 714 = .ok (.iload_n 3, 1) := by decide +kernel
theorem dL_law_715 : decode code 715 = .ok (.iconst 1, 1) := by decide +kernel
theorem dL_law_716 : decode code 716 = .ok (.iadd, 1) := by decide +kernel
theorem dL_law_717 : decode code 717 = .ok (.iaload, 1) := by decide +kernel
theorem dL_law_718 : decode code 718 = .ok (.aload_n 0, 1) := by decide +kernel
theorem dL_law_719 : decode code 719 = .ok (.iload_n 3, 1) := by decide +kernel
theorem dL_law_720 : decode code 720 = .ok (.iconst 2, 1) := by decide +kernel
theorem dL_law_721 : decode code 721 = .ok (.iadd, 1) := by decide +kernel
theorem dL_law_722 : decode code 722 = .ok (.iaload, 1) := by decide +kernel
theorem dL_law_723 : decode code 723 = .ok (.invokevirtual 92, 3) := by decide +kernel
theorem dL_law_726 : decode code 726 = .ok (.if_icmp .eq 612, 3) := by decide +kernel
theorem dL_law_729 : decode code 729 = .ok (.iconst 0, 1) := by decide +kernel
theorem dL_law_730 : decode code 730 = .ok (.ireturn, 1) := by decide +kernel
theorem dL_law_731 : decode code 731 = .ok (.aload_n 1, 1) := by decide +kernel
theorem dL_law_732 : decode code 732 = .ok (.invokevirtual 93, 3) := by decide +kernel
theorem dL_law_735 : decode code 735 = .ok (.aload_n 2, 1) := by decide +kernel
theorem dL_law_736 : decode code 736 = .ok (.invokevirtual 96, 3) := by decide +kernel
theorem dL_law_739 : decode code 739 = .ok (.if_icmp .eq 599, 3) := by decide +kernel
theorem dL_law_742 : decode code 742 = .ok (.iconst 0, 1) := by decide +kernel
theorem dL_law_743 : decode code 743 = .ok (.ireturn, 1) := by decide +kernel
theorem dL_law_744 : decode code 744 = .ok (.aload_n 1, 1) := by decide +kernel
theorem dL_law_745 : decode code 745 = .ok (.aload_n 0, 1) := by decide +kernel
theorem dL_law_746 : decode code 746 = .ok (.iload_n 3, 1) := by decide +kernel
theorem dL_law_747 : decode code 747 = .ok (.iconst 1, 1) := by decide +kernel
theorem dL_law_748 : decode code 748 = .ok (.iadd, 1) := by decide +kernel
theorem dL_law_749 : decode code 749 = .ok (.iaload, 1) := by decide +kernel
theorem dL_law_750 : decode code 750 = .ok (.aload_n 0, 1) := by decide +kernel
theorem dL_law_751 : decode code 751 = .ok (.iload_n 3, 1) := by decide +kernel
theorem dL_law_752 : decode code 752 = .ok (.iconst 2, 1) := by decide +kernel
theorem dL_law_753 : decode code 753 = .ok (.iadd, 1) := by decide +kernel
theorem dL_law_754 : decode code 754 = .ok (.iaload, 1) := by decide +kernel
theorem dL_law_755 : decode code 755 = .ok (.aload_n 0, 1) := by decide +kernel
theorem dL_law_756 : decode code 756 = .ok (.iload_n 3, 1) := by decide +kernel
theorem dL_law_757 : decode code 757 = .ok (.iconst 3, 1) := by decide +kernel
theorem dL_law_758 : decode code 758 = .ok (.iadd, 1) := by decide +kernel
theorem dL_law_759 : decode code 759 = .ok (.iaload, 1) := by decide +kernel
theorem dL_law_760 : decode code 760 = .ok (.invokevirtual 97, 3) := by decide +kernel
theorem dL_law_763 : decode code 763 = .ok (.aload_n 2, 1) := by decide +kernel
theorem dL_law_764 : decode code 764 = .ok (.aload_n 0, 1) := by decide +kernel
theorem dL_law_765 : decode code 765 = .ok (.iload_n 3, 1) := by decide +kernel
theorem dL_law_766 : decode code 766 = .ok (.iconst 1, 1) := by decide +kernel
theorem dL_law_767 : decode code 767 = .ok (.iadd, 1) := by decide +kernel
theorem dL_law_768 : decode code 768 = .ok (.iaload, 1) := by decide +kernel
theorem dL_law_769 : decode code 769 = .ok (.aload_n 0, 1) := by decide +kernel
theorem dL_law_770 : decode code 770 = .ok (.iload_n 3, 1) := by decide +kernel
theorem dL_law_771 : decode code 771 = .ok (.iconst 2, 1) := by decide +kernel
theorem dL_law_772 : decode code 772 = .ok (.iadd, 1) := by decide +kernel
theorem dL_law_773 : decode code 773 = .ok (.iaload, 1) := by decide +kernel
theorem dL_law_774 : decode code 774 = .ok (.aload_n 0, 1) := by decide +kernel
theorem dL_law_775 : decode code 775 = .ok (.iload_n 3, 1) := by decide +kernel
theorem dL_law_776 : decode code 776 = .ok (.iconst 3, 1) := by decide +kernel
theorem dL_law_777 : decode code 777 = .ok (.iadd, 1) := by decide +kernel
theorem dL_law_778 : decode code 778 = .ok (.iaload, 1) := by decide +kernel
theorem dL_law_779 : decode code 779 = .ok (.invokevirtual 101, 3) := by decide +kernel
theorem dL_law_782 : decode code 782 = .ok (.if_icmp .eq 556, 3) := by decide +kernel
theorem dL_law_785 : decode code 785 = .ok (.iconst 0, 1) := by decide +kernel
theorem dL_law_786 : decode code 786 = .ok (.ireturn, 1) := by decide +kernel
theorem dL_law_787 : decode code 787 = .ok (.aload_n 1, 1) := by decide +kernel
theorem dL_law_788 : decode code 788 = .ok (.aload_n 0, 1) := by decide +kernel
theorem dL_law_789 : decode code 789 = .ok (.iload_n 3, 1) := by decide +kernel
theorem dL_law_790 : decode code 790 = .ok (.iconst 1, 1) := by decide +kernel
theorem dL_law_791 : decode code 791 = .ok (.iadd, 1) := by decide +kernel
theorem dL_law_792 : decode code 792 = .ok (.iaload, 1) := by decide +kernel
theorem dL_law_793 : decode code 793 = .ok (.aload_n 0, 1) := by decide +kernel
theorem dL_law_794 : decode code 794 = .ok (.iload_n 3, 1) := by decide +kernel
theorem dL_law_795 : decode code 795 = .ok (.iconst 2, 1) := by decide +kernel
theorem dL_law_796 : decode code 796 = .ok (.iadd, 1) := by decide +kernel
theorem dL_law_797 : decode code 797 = .ok (.iaload, 1) := by decide +kernel
theorem dL_law_798 : decode code 798 = .ok (.aload_n 0, 1) := by decide +kernel
theorem dL_law_799 : decode code 799 = .ok (.iload_n 3, 1) := by decide +kernel
theorem dL_law_800 : decode code 800 = .ok (.iconst 3, 1) := by decide +kernel
theorem dL_law_801 : decode code 801 = .ok (.iadd, 1) := by decide +kernel
theorem dL_law_802 : decode code 802 = .ok (.iaload, 1) := by decide +kernel
theorem dL_law_803 : decode code 803 = .ok (.invokevirtual 102, 3) := by decide +kernel
theorem dL_law_806 : decode code 806 = .ok (.aload_n 2, 1) := by decide +kernel
theorem dL_law_807 : decode code 807 = .ok (.aload_n 0, 1) := by decide +kernel
theorem dL_law_808 : decode code 808 = .ok (.iload_n 3, 1) := by decide +kernel
theorem dL_law_809 : decode code 809 = .ok (.iconst 1, 1) := by decide +kernel
theorem dL_law_810 : decode code 810 = .ok (.iadd, 1) := by decide +kernel
theorem dL_law_811 : decode code 811 = .ok (.iaload, 1) := by decide +kernel
theorem dL_law_812 : decode code 812 = .ok (.aload_n 0, 1) := by decide +kernel
theorem dL_law_813 : decode code 813 = .ok (.iload_n 3, 1) := by decide +kernel
theorem dL_law_814 : decode code 814 = .ok (.iconst 2, 1) := by decide +kernel
theorem dL_law_815 : decode code 815 = .ok (.iadd, 1) := by decide +kernel
theorem dL_law_816 : decode code 816 = .ok (.iaload, 1) := by decide +kernel
theorem dL_law_817 : decode code 817 = .ok (.aload_n 0, 1) := by decide +kernel
theorem dL_law_818 : decode code 818 = .ok (.iload_n 3, 1) := by decide +kernel
theorem dL_law_819 : decode code 819 = .ok (.iconst 3, 1) := by decide +kernel
theorem dL_law_820 : decode code 820 = .ok (.iadd, 1) := by decide +kernel
theorem dL_law_821 : decode code 821 = .ok (.iaload, 1) := by decide +kernel
theorem dL_law_822 : decode code 822 = .ok (.invokevirtual 105, 3) := by decide +kernel
theorem dL_law_825 : decode code 825 = .ok (.if_icmp .eq 513, 3) := by decide +kernel
theorem dL_law_828 : decode code 828 = .ok (.iconst 0, 1) := by decide +kernel
theorem dL_law_829 : decode code 829 = .ok (.ireturn, 1) := by decide +kernel
theorem dL_law_830 : decode code 830 = .ok (.aload_n 1, 1) := by decide +kernel
theorem dL_law_831 : decode code 831 = .ok (.aload_n 0, 1) := by decide +kernel
theorem dL_law_832 : decode code 832 = .ok (.iload_n 3, 1) := by decide +kernel
theorem dL_law_833 : decode code 833 = .ok (.iconst 1, 1) := by decide +kernel
theorem dL_law_834 : decode code 834 = .ok (.iadd, 1) := by decide +kernel
theorem dL_law_835 : decode code 835 = .ok (.iaload, 1) := by decide +kernel
theorem dL_law_836 : decode code 836 = .ok (.aload_n 0, 1) := by decide +kernel
theorem dL_law_837 : decode code 837 = .ok (.iload_n 3, 1) := by decide +kernel
theorem dL_law_838 : decode code 838 = .ok (.iconst 2, 1) := by decide +kernel
theorem dL_law_839 : decode code 839 = .ok (.iadd, 1) := by decide +kernel
theorem dL_law_840 : decode code 840 = .ok (.iaload, 1) := by decide +kernel
theorem dL_law_841 : decode code 841 = .ok (.invokevirtual 106, 3) := by decide +kernel
theorem dL_law_844 : decode code 844 = .ok (.aload_n 2, 1) := by decide +kernel
theorem dL_law_845 : decode code 845 = .ok (.aload_n 0, 1) := by decide +kernel
theorem dL_law_846 : decode code 846 = .ok (.iload_n 3, 1) := by decide +kernel
theorem dL_law_847 : decode code 847 = .ok (.iconst 1, 1) := by decide +kernel
theorem dL_law_848 : decode code 848 = .ok (.iadd, 1) := by decide +kernel
theorem dL_law_849 : decode code 849 = .ok (.iaload, 1) := by decide +kernel
theorem dL_law_850 : decode code 850 = .ok (.aload_n 0, 1) := by decide +kernel
theorem dL_law_851 : decode code 851 = .ok (.iload_n 3, 1) := by decide +kernel
theorem dL_law_852 : decode code 852 = .ok (.iconst 2, 1) := by decide +kernel
theorem dL_law_853 : decode code 853 = .ok (.iadd, 1) := by decide +kernel
theorem dL_law_854 : decode code 854 = .ok (.iaload, 1) := by decide +kernel
theorem dL_law_855 : decode code 855 = .ok (.invokevirtual 109, 3) := by decide +kernel
theorem dL_law_858 : decode code 858 = .ok (.if_icmp .eq 480, 3) := by decide +kernel
theorem dL_law_861 : decode code 861 = .ok (.iconst 0, 1) := by decide +kernel
theorem dL_law_862 : decode code 862 = .ok (.ireturn, 1) := by decide +kernel
theorem dL_law_863 : decode code 863 = .ok (.aload_n 1, 1) := by decide +kernel
theorem dL_law_864 : decode code 864 = .ok (.aload_n 0, 1) := by decide +kernel
theorem dL_law_865 : decode code 865 = .ok (.iload_n 3, 1) := by decide +kernel
theorem dL_law_866 : decode code 866 = .ok (.iconst 1, 1) := by decide +kernel
theorem dL_law_867 : decode code 867 = .ok (.iadd, 1) := by decide +kernel
theorem dL_law_868 : decode code 868 = .ok (.iaload, 1) := by decide +kernel
theorem dL_law_869 : decode code 869 = .ok (.aload_n 0, 1) := by decide +kernel
theorem dL_law_870 : decode code 870 = .ok (.iload_n 3, 1) := by decide +kernel
theorem dL_law_871 : decode code 871 = .ok (.iconst 2, 1) := by decide +kernel
theorem dL_law_872 : decode code 872 = .ok (.iadd, 1) := by decide +kernel
theorem dL_law_873 : decode code 873 = .ok (.iaload, 1) := by decide +kernel
theorem dL_law_874 : decode code 874 = .ok (.invokevirtual 110, 3) := by decide +kernel
theorem dL_law_877 : decode code 877 = .ok (.aload_n 2, 1) := by decide +kernel
theorem dL_law_878 : decode code 878 = .ok (.aload_n 0, 1) := by decide +kernel
theorem dL_law_879 : decode code 879 = .ok (.iload_n 3, 1) := by decide +kernel
theorem dL_law_880 : decode code 880 = .ok (.iconst 1, 1) := by decide +kernel
theorem dL_law_881 : decode code 881 = .ok (.iadd, 1) := by decide +kernel
theorem dL_law_882 : decode code 882 = .ok (.iaload, 1) := by decide +kernel
theorem dL_law_883 : decode code 883 = .ok (.aload_n 0, 1) := by decide +kernel
theorem dL_law_884 : decode code 884 = .ok (.iload_n 3, 1) := by decide +kernel
theorem dL_law_885 : decode code 885 = .ok (.iconst 2, 1) := by decide +kernel
theorem dL_law_886 : decode code 886 = .ok (.iadd, 1) := by decide +kernel
theorem dL_law_887 : decode code 887 = .ok (.iaload, 1) := by decide +kernel
theorem dL_law_888 : decode code 888 = .ok (.invokevirtual 113, 3) := by decide +kernel
theorem dL_law_891 : decode code 891 = .ok (.if_icmp .eq 447, 3) := by decide +kernel
theorem dL_law_894 : decode code 894 = .ok (.iconst 0, 1) := by decide +kernel
theorem dL_law_895 : decode code 895 = .ok (.ireturn, 1) := by decide +kernel
theorem dL_law_896 : decode code 896 = .ok (.aload_n 1, 1) := by decide +kernel
theorem dL_law_897 : decode code 897 = .ok (.aload_n 0, 1) := by decide +kernel
theorem dL_law_898 : decode code 898 = .ok (.iload_n 3, 1) := by decide +kernel
theorem dL_law_899 : decode code 899 = .ok (.iconst 1, 1) := by decide +kernel
theorem dL_law_900 : decode code 900 = .ok (.iadd, 1) := by decide +kernel
theorem dL_law_901 : decode code 901 = .ok (.iaload, 1) := by decide +kernel
theorem dL_law_902 : decode code 902 = .ok (.aload_n 0, 1) := by decide +kernel
theorem dL_law_903 : decode code 903 = .ok (.iload_n 3, 1) := by decide +kernel
theorem dL_law_904 : decode code 904 = .ok (.iconst 2, 1) := by decide +kernel
theorem dL_law_905 : decode code 905 = .ok (.iadd, 1) := by decide +kernel
theorem dL_law_906 : decode code 906 = .ok (.iaload, 1) := by decide +kernel
theorem dL_law_907 : decode code 907 = .ok (.aload_n 0, 1) := by decide +kernel
theorem dL_law_908 : decode code 908 = .ok (.iload_n 3, 1) := by decide +kernel
theorem dL_law_909 : decode code 909 = .ok (.iconst 3, 1) := by decide +kernel
theorem dL_law_910 : decode code 910 = .ok (.iadd, 1) := by decide +kernel
theorem dL_law_911 : decode code 911 = .ok (.iaload, 1) := by decide +kernel
theorem dL_law_912 : decode code 912 = .ok (.invokevirtual 114, 3) := by decide +kernel
theorem dL_law_915 : decode code 915 = .ok (.aload_n 2, 1) := by decide +kernel
theorem dL_law_916 : decode code 916 = .ok (.aload_n 0, 1) := by decide +kernel
theorem dL_law_917 : decode code 917 = .ok (.iload_n 3, 1) := by decide +kernel
theorem dL_law_918 : decode code 918 = .ok (.iconst 1, 1) := by decide +kernel
theorem dL_law_919 : decode code 919 = .ok (.iadd, 1) := by decide +kernel
theorem dL_law_920 : decode code 920 = .ok (.iaload, 1) := by decide +kernel
theorem dL_law_921 : decode code 921 = .ok (.aload_n 0, 1) := by decide +kernel
theorem dL_law_922 : decode code 922 = .ok (.iload_n 3, 1) := by decide +kernel
theorem dL_law_923 : decode code 923 = .ok (.iconst 2, 1) := by decide +kernel
theorem dL_law_924 : decode code 924 = .ok (.iadd, 1) := by decide +kernel
theorem dL_law_925 : decode code 925 = .ok (.iaload, 1) := by decide +kernel
theorem dL_law_926 : decode code 926 = .ok (.aload_n 0, 1) := by decide +kernel
theorem dL_law_927 : decode code 927 = .ok (.iload_n 3, 1) := by decide +kernel
theorem dL_law_928 : decode code 928 = .ok (.iconst 3, 1) := by decide +kernel
theorem dL_law_929 : decode code 929 = .ok (.iadd, 1) := by decide +kernel
theorem dL_law_930 : decode code 930 = .ok (.iaload, 1) := by decide +kernel
theorem dL_law_931 : decode code 931 = .ok (.invokevirtual 117, 3) := by decide +kernel
theorem dL_law_934 : decode code 934 = .ok (.if_icmp .eq 404, 3) := by decide +kernel
theorem dL_law_937 : decode code 937 = .ok (.iconst 0, 1) := by decide +kernel
theorem dL_law_938 : decode code 938 = .ok (.ireturn, 1) := by decide +kernel
theorem dL_law_939 : decode code 939 = .ok (.aload_n 1, 1) := by decide +kernel
theorem dL_law_940 : decode code 940 = .ok (.aload_n 0, 1) := by decide +kernel
theorem dL_law_941 : decode code 941 = .ok (.iload_n 3, 1) := by decide +kernel
theorem dL_law_942 : decode code 942 = .ok (.iconst 1, 1) := by decide +kernel
theorem dL_law_943 : decode code 943 = .ok (.iadd, 1) := by decide +kernel
theorem dL_law_944 : decode code 944 = .ok (.iaload, 1) := by decide +kernel
theorem dL_law_945 : decode code 945 = .ok (.invokevirtual 118, 3) := by decide +kernel
theorem dL_law_948 : decode code 948 = .ok (.aload_n 2, 1) := by decide +kernel
theorem dL_law_949 : decode code 949 = .ok (.aload_n 0, 1) := by decide +kernel
theorem dL_law_950 : decode code 950 = .ok (.iload_n 3, 1) := by decide +kernel
theorem dL_law_951 : decode code 951 = .ok (.iconst 1, 1) := by decide +kernel
theorem dL_law_952 : decode code 952 = .ok (.iadd, 1) := by decide +kernel
theorem dL_law_953 : decode code 953 = .ok (.iaload, 1) := by decide +kernel
theorem dL_law_954 : decode code 954 = .ok (.invokevirtual 121, 3) := by decide +kernel
theorem dL_law_957 : decode code 957 = .ok (.if_icmp .eq 381, 3) := by decide +kernel
theorem dL_law_960 : decode code 960 = .ok (.iconst 0, 1) := by decide +kernel
theorem dL_law_961 : decode code 961 = .ok (.ireturn, 1) := by decide +kernel
theorem dL_law_962 : decode code 962 = .ok (.aload_n 1, 1) := by decide +kernel
theorem dL_law_963 : decode code 963 = .ok (.invokevirtual 122, 3) := by decide +kernel
theorem dL_law_966 : decode code 966 = .ok (.aload_n 2, 1) := by decide +kernel
theorem dL_law_967 : decode code 967 = .ok (.invokevirtual 125, 3) := by decide +kernel
theorem dL_law_970 : decode code 970 = .ok (.if_icmp .eq 368, 3) := by decide +kernel
theorem dL_law_973 : decode code 973 = .ok (.iconst 0, 1) := by decide +kernel
theorem dL_law_974 : decode code 974 = .ok (.ireturn, 1) := by decide +kernel
theorem dL_law_975 : decode code 975 = .ok (.aload_n 1, 1) := by decide +kernel
theorem dL_law_976 : decode code 976 = .ok (.invokevirtual 126, 3) := by decide +kernel
theorem dL_law_979 : decode code 979 = .ok (.aload_n 2, 1) := by decide +kernel
theorem dL_law_980 : decode code 980 = .ok (.invokevirtual 129, 3) := by decide +kernel
theorem dL_law_983 : decode code 983 = .ok (.if_icmp .eq 355, 3) := by decide +kernel
theorem dL_law_986 : decode code 986 = .ok (.iconst 0, 1) := by decide +kernel
theorem dL_law_987 : decode code 987 = .ok (.ireturn, 1) := by decide +kernel
theorem dL_law_988 : decode code 988 = .ok (.aload_n 1, 1) := by decide +kernel
theorem dL_law_989 : decode code 989 = .ok (.aload_n 0, 1) := by decide +kernel
theorem dL_law_990 : decode code 990 = .ok (.iload_n 3, 1) := by decide +kernel
theorem dL_law_991 : decode code 991 = .ok (.iconst 1, 1) := by decide +kernel
theorem dL_law_992 : decode code 992 = .ok (.iadd, 1) := by decide +kernel
theorem dL_law_993 : decode code 993 = .ok (.iaload, 1) := by decide +kernel
theorem dL_law_994 : decode code 994 = .ok (.aload_n 0, 1) := by decide +kernel
theorem dL_law_995 : decode code 995 = .ok (.iload_n 3, 1) := by decide +kernel
theorem dL_law_996 : decode code 996 = .ok (.iconst 2, 1) := by decide +kernel
theorem dL_law_997 : decode code 997 = .ok (.iadd, 1) := by decide +kernel
theorem dL_law_998 : decode code 998 = .ok (.iaload, 1) := by decide +kernel
theorem dL_law_999 : decode code 999 = .ok (.aload_n 0, 1) := by decide +kernel
theorem dL_law_1000 : decode code 1000 = .ok (.iload_n 3, 1) := by decide +kernel
theorem dL_law_1001 : decode code 1001 = .ok (.iconst 3, 1) := by decide +kernel
theorem dL_law_1002 : decode code 1002 = .ok (.iadd, 1) := by decide +kernel
theorem dL_law_1003 : decode code 1003 = .ok (.iaload, 1) := by decide +kernel
theorem dL_law_1004 : decode code 1004 = .ok (.aload_n 0, 1) := by decide +kernel
theorem dL_law_1005 : decode code 1005 = .ok (.iload_n 3, 1) := by decide +kernel
theorem dL_law_1006 : decode code 1006 = .ok (.iconst 4, 1) := by decide +kernel
theorem dL_law_1007 : decode code 1007 = .ok (.iadd, 1) := by decide +kernel
theorem dL_law_1008 : decode code 1008 = .ok (.iaload, 1) := by decide +kernel
theorem dL_law_1009 : decode code 1009 = .ok (.aload_n 0, 1) := by decide +kernel
theorem dL_law_1010 : decode code 1010 = .ok (.iload_n 3, 1) := by decide +kernel
theorem dL_law_1011 : decode code 1011 = .ok (.iconst 5, 1) := by decide +kernel
theorem dL_law_1012 : decode code 1012 = .ok (.iadd, 1) := by decide +kernel
theorem dL_law_1013 : decode code 1013 = .ok (.iaload, 1) := by decide +kernel
theorem dL_law_1014 : decode code 1014 = .ok (.aload_n 0, 1) := by decide +kernel
theorem dL_law_1015 : decode code 1015 = .ok (.iload_n 3, 1) := by decide +kernel
theorem dL_law_1016 : decode code 1016 = .ok (.bipush 6, 2) := by decide +kernel
theorem dL_law_1018 : decode code 1018 = .ok (.iadd, 1) := by decide +kernel
theorem dL_law_1019 : decode code 1019 = .ok (.iaload, 1) := by decide +kernel
theorem dL_law_1020 : decode code 1020 = .ok (.invokevirtual 130, 3) := by decide +kernel
theorem dL_law_1023 : decode code 1023 = .ok (.aload_n 2, 1) := by decide +kernel
theorem dL_law_1024 : decode code 1024 = .ok (.aload_n 0, 1) := by decide +kernel
theorem dL_law_1025 : decode code 1025 = .ok (.iload_n 3, 1) := by decide +kernel
theorem dL_law_1026 : decode code 1026 = .ok (.iconst 1, 1) := by decide +kernel
theorem dL_law_1027 : decode code 1027 = .ok (.iadd, 1) := by decide +kernel
theorem dL_law_1028 : decode code 1028 = .ok (.iaload, 1) := by decide +kernel
theorem dL_law_1029 : decode code 1029 = .ok (.aload_n 0, 1) := by decide +kernel
theorem dL_law_1030 : decode code 1030 = .ok (.iload_n 3, 1) := by decide +kernel
theorem dL_law_1031 : decode code 1031 = .ok (.iconst 2, 1) := by decide +kernel
theorem dL_law_1032 : decode code 1032 = .ok (.iadd, 1) := by decide +kernel
theorem dL_law_1033 : decode code 1033 = .ok (.iaload, 1) := by decide +kernel
theorem dL_law_1034 : decode code 1034 = .ok (.aload_n 0, 1) := by decide +kernel
theorem dL_law_1035 : decode code 1035 = .ok (.iload_n 3, 1) := by decide +kernel
theorem dL_law_1036 : decode code 1036 = .ok (.iconst 3, 1) := by decide +kernel
theorem dL_law_1037 : decode code 1037 = .ok (.iadd, 1) := by decide +kernel
theorem dL_law_1038 : decode code 1038 = .ok (.iaload, 1) := by decide +kernel
theorem dL_law_1039 : decode code 1039 = .ok (.aload_n 0, 1) := by decide +kernel
theorem dL_law_1040 : decode code 1040 = .ok (.iload_n 3, 1) := by decide +kernel
theorem dL_law_1041 : decode code 1041 = .ok (.iconst 4, 1) := by decide +kernel
theorem dL_law_1042 : decode code 1042 = .ok (.iadd, 1) := by decide +kernel
theorem dL_law_1043 : decode code 1043 = .ok (.iaload, 1) := by decide +kernel
theorem dL_law_1044 : decode code 1044 = .ok (.aload_n 0, 1) := by decide +kernel
theorem dL_law_1045 : decode code 1045 = .ok (.iload_n 3, 1) := by decide +kernel
theorem dL_law_1046 : decode code 1046 = .ok (.iconst 5, 1) := by decide +kernel
theorem dL_law_1047 : decode code 1047 = .ok (.iadd, 1) := by decide +kernel
theorem dL_law_1048 : decode code 1048 = .ok (.iaload, 1) := by decide +kernel
theorem dL_law_1049 : decode code 1049 = .ok (.aload_n 0, 1) := by decide +kernel
theorem dL_law_1050 : decode code 1050 = .ok (.iload_n 3, 1) := by decide +kernel
theorem dL_law_1051 : decode code 1051 = .ok (.bipush 6, 2) := by decide +kernel
theorem dL_law_1053 : decode code 1053 = .ok (.iadd, 1) := by decide +kernel
theorem dL_law_1054 : decode code 1054 = .ok (.iaload, 1) := by decide +kernel
theorem dL_law_1055 : decode code 1055 = .ok (.invokevirtual 134, 3) := by decide +kernel
theorem dL_law_1058 : decode code 1058 = .ok (.if_icmp .eq 280, 3) := by decide +kernel
theorem dL_law_1061 : decode code 1061 = .ok (.iconst 0, 1) := by decide +kernel
theorem dL_law_1062 : decode code 1062 = .ok (.ireturn, 1) := by decide +kernel
theorem dL_law_1063 : decode code 1063 = .ok (.aload_n 1, 1) := by decide +kernel
theorem dL_law_1064 : decode code 1064 = .ok (.aload_n 0, 1) := by decide +kernel
theorem dL_law_1065 : decode code 1065 = .ok (.iload_n 3, 1) := by decide +kernel
theorem dL_law_1066 : decode code 1066 = .ok (.iconst 1, 1) := by decide +kernel
theorem dL_law_1067 : decode code 1067 = .ok (.iadd, 1) := by decide +kernel
theorem dL_law_1068 : decode code 1068 = .ok (.iaload, 1) := by decide +kernel
theorem dL_law_1069 : decode code 1069 = .ok (.aload_n 0, 1) := by decide +kernel
theorem dL_law_1070 : decode code 1070 = .ok (.iload_n 3, 1) := by decide +kernel
theorem dL_law_1071 : decode code 1071 = .ok (.iconst 2, 1) := by decide +kernel
theorem dL_law_1072 : decode code 1072 = .ok (.iadd, 1) := by decide +kernel
theorem dL_law_1073 : decode code 1073 = .ok (.iaload, 1) := by decide +kernel
theorem dL_law_1074 : decode code 1074 = .ok (.aload_n 0, 1) := by decide +kernel
theorem dL_law_1075 : decode code 1075 = .ok (.iload_n 3, 1) := by decide +kernel
theorem dL_law_1076 : decode code 1076 = .ok (.iconst 3, 1) := by decide +kernel
theorem dL_law_1077 : decode code 1077 = .ok (.iadd, 1) := by decide +kernel
theorem dL_law_1078 : decode code 1078 = .ok (.iaload, 1) := by decide +kernel
theorem dL_law_1079 : decode code 1079 = .ok (.aload_n 0, 1) := by decide +kernel
theorem dL_law_1080 : decode code 1080 = .ok (.iload_n 3, 1) := by decide +kernel
theorem dL_law_1081 : decode code 1081 = .ok (.iconst 4, 1) := by decide +kernel
theorem dL_law_1082 : decode code 1082 = .ok (.iadd, 1) := by decide +kernel
theorem dL_law_1083 : decode code 1083 = .ok (.iaload, 1) := by decide +kernel
theorem dL_law_1084 : decode code 1084 = .ok (.aload_n 0, 1) := by decide +kernel
theorem dL_law_1085 : decode code 1085 = .ok (.iload_n 3, 1) := by decide +kernel
theorem dL_law_1086 : decode code 1086 = .ok (.iconst 5, 1) := by decide +kernel
theorem dL_law_1087 : decode code 1087 = .ok (.iadd, 1) := by decide +kernel
theorem dL_law_1088 : decode code 1088 = .ok (.iaload, 1) := by decide +kernel
theorem dL_law_1089 : decode code 1089 = .ok (.invokevirtual 135, 3) := by decide +kernel
theorem dL_law_1092 : decode code 1092 = .ok (.aload_n 2, 1) := by decide +kernel
theorem dL_law_1093 : decode code 1093 = .ok (.aload_n 0, 1) := by decide +kernel
theorem dL_law_1094 : decode code 1094 = .ok (.iload_n 3, 1) := by decide +kernel
theorem dL_law_1095 : decode code 1095 = .ok (.iconst 1, 1) := by decide +kernel
theorem dL_law_1096 : decode code 1096 = .ok (.iadd, 1) := by decide +kernel
theorem dL_law_1097 : decode code 1097 = .ok (.iaload, 1) := by decide +kernel
theorem dL_law_1098 : decode code 1098 = .ok (.aload_n 0, 1) := by decide +kernel
theorem dL_law_1099 : decode code 1099 = .ok (.iload_n 3, 1) := by decide +kernel
theorem dL_law_1100 : decode code 1100 = .ok (.iconst 2, 1) := by decide +kernel
theorem dL_law_1101 : decode code 1101 = .ok (.iadd, 1) := by decide +kernel
theorem dL_law_1102 : decode code 1102 = .ok (.iaload, 1) := by decide +kernel
theorem dL_law_1103 : decode code 1103 = .ok (.aload_n 0, 1) := by decide +kernel
theorem dL_law_1104 : decode code 1104 = .ok (.iload_n 3, 1) := by decide +kernel
theorem dL_law_1105 : decode code 1105 = .ok (.iconst 3, 1) := by decide +kernel
theorem dL_law_1106 : decode code 1106 = .ok (.iadd, 1) := by decide +kernel
theorem dL_law_1107 : decode code 1107 = .ok (.iaload, 1) := by decide +kernel
theorem dL_law_1108 : decode code 1108 = .ok (.aload_n 0, 1) := by decide +kernel
theorem dL_law_1109 : decode code 1109 = .ok (.iload_n 3, 1) := by decide +kernel
theorem dL_law_1110 : decode code 1110 = .ok (.iconst 4, 1) := by decide +kernel
theorem dL_law_1111 : decode code 1111 = .ok (.iadd, 1) := by decide +kernel
theorem dL_law_1112 : decode code 1112 = .ok (.iaload, 1) := by decide +kernel
theorem dL_law_1113 : decode code 1113 = .ok (.aload_n 0, 1) := by decide +kernel
theorem dL_law_1114 : decode code 1114 = .ok (.iload_n 3, 1) := by decide +kernel
theorem dL_law_1115 : decode code 1115 = .ok (.iconst 5, 1) := by decide +kernel
theorem dL_law_1116 : decode code 1116 = .ok (.iadd, 1) := by decide +kernel
theorem dL_law_1117 : decode code 1117 = .ok (.iaload, 1) := by decide +kernel
theorem dL_law_1118 : decode code 1118 = .ok (.invokevirtual 139, 3) := by decide +kernel
theorem dL_law_1121 : decode code 1121 = .ok (.if_icmp .eq 217, 3) := by decide +kernel
theorem dL_law_1124 : decode code 1124 = .ok (.iconst 0, 1) := by decide +kernel
theorem dL_law_1125 : decode code 1125 = .ok (.ireturn, 1) := by decide +kernel
theorem dL_law_1126 : decode code 1126 = .ok (.aload_n 1, 1) := by decide +kernel
theorem dL_law_1127 : decode code 1127 = .ok (.aload_n 0, 1) := by decide +kernel
theorem dL_law_1128 : decode code 1128 = .ok (.iload_n 3, 1) := by decide +kernel
theorem dL_law_1129 : decode code 1129 = .ok (.iconst 1, 1) := by decide +kernel
theorem dL_law_1130 : decode code 1130 = .ok (.iadd, 1) := by decide +kernel
theorem dL_law_1131 : decode code 1131 = .ok (.iaload, 1) := by decide +kernel
theorem dL_law_1132 : decode code 1132 = .ok (.aload_n 0, 1) := by decide +kernel
theorem dL_law_1133 : decode code 1133 = .ok (.iload_n 3, 1) := by decide +kernel
theorem dL_law_1134 : decode code 1134 = .ok (.iconst 2, 1) := by decide +kernel
theorem dL_law_1135 : decode code 1135 = .ok (.iadd, 1) := by decide +kernel
theorem dL_law_1136 : decode code 1136 = .ok (.iaload, 1) := by decide +kernel
theorem dL_law_1137 : decode code 1137 = .ok (.aload_n 0, 1) := by decide +kernel
theorem dL_law_1138 : decode code 1138 = .ok (.iload_n 3, 1) := by decide +kernel
theorem dL_law_1139 : decode code 1139 = .ok (.iconst 3, 1) := by decide +kernel
theorem dL_law_1140 : decode code 1140 = .ok (.iadd, 1) := by decide +kernel
theorem dL_law_1141 : decode code 1141 = .ok (.iaload, 1) := by decide +kernel
theorem dL_law_1142 : decode code 1142 = .ok (.invokevirtual 140, 3) := by decide +kernel
theorem dL_law_1145 : decode code 1145 = .ok (.aload_n 2, 1) := by decide +kernel
theorem dL_law_1146 : decode code 1146 = .ok (.aload_n 0, 1) := by decide +kernel
theorem dL_law_1147 : decode code 1147 = .ok (.iload_n 3, 1) := by decide +kernel
theorem dL_law_1148 : decode code 1148 = .ok (.iconst 1, 1) := by decide +kernel
theorem dL_law_1149 : decode code 1149 = .ok (.iadd, 1) := by decide +kernel
theorem dL_law_1150 : decode code 1150 = .ok (.iaload, 1) := by decide +kernel
theorem dL_law_1151 : decode code 1151 = .ok (.aload_n 0, 1) := by decide +kernel
theorem dL_law_1152 : decode code 1152 = .ok (.iload_n 3, 1) := by decide +kernel
theorem dL_law_1153 : decode code 1153 = .ok (.iconst 2, 1) := by decide +kernel
theorem dL_law_1154 : decode code 1154 = .ok (.iadd, 1) := by decide +kernel
theorem dL_law_1155 : decode code 1155 = .ok (.iaload, 1) := by decide +kernel
theorem dL_law_1156 : decode code 1156 = .ok (.aload_n 0, 1) := by decide +kernel
theorem dL_law_1157 : decode code 1157 = .ok (.iload_n 3, 1) := by decide +kernel
theorem dL_law_1158 : decode code 1158 = .ok (.iconst 3, 1) := by decide +kernel
theorem dL_law_1159 : decode code 1159 = .ok (.iadd, 1) := by decide +kernel
theorem dL_law_1160 : decode code 1160 = .ok (.iaload, 1) := by decide +kernel
theorem dL_law_1161 : decode code 1161 = .ok (.invokevirtual 143, 3) := by decide +kernel
theorem dL_law_1164 : decode code 1164 = .ok (.if_icmp .eq 174, 3) := by decide +kernel
theorem dL_law_1167 : decode code 1167 = .ok (.iconst 0, 1) := by decide +kernel
theorem dL_law_1168 : decode code 1168 = .ok (.ireturn, 1) := by decide +kernel
theorem dL_law_1169 : decode code 1169 = .ok (.aload_n 1, 1) := by decide +kernel
theorem dL_law_1170 : decode code 1170 = .ok (.aload_n 0, 1) := by decide +kernel
theorem dL_law_1171 : decode code 1171 = .ok (.iload_n 3, 1) := by decide +kernel
theorem dL_law_1172 : decode code 1172 = .ok (.iconst 1, 1) := by decide +kernel
theorem dL_law_1173 : decode code 1173 = .ok (.iadd, 1) := by decide +kernel
theorem dL_law_1174 : decode code 1174 = .ok (.iaload, 1) := by decide +kernel
theorem dL_law_1175 : decode code 1175 = .ok (.invokevirtual 144, 3) := by decide +kernel
theorem dL_law_1178 : decode code 1178 = .ok (.aload_n 2, 1) := by decide +kernel
theorem dL_law_1179 : decode code 1179 = .ok (.aload_n 0, 1) := by decide +kernel
theorem dL_law_1180 : decode code 1180 = .ok (.iload_n 3, 1) := by decide +kernel
theorem dL_law_1181 : decode code 1181 = .ok (.iconst 1, 1) := by decide +kernel
theorem dL_law_1182 : decode code 1182 = .ok (.iadd, 1) := by decide +kernel
theorem dL_law_1183 : decode code 1183 = .ok (.iaload, 1) := by decide +kernel
theorem dL_law_1184 : decode code 1184 = .ok (.invokevirtual 147, 3) := by decide +kernel
theorem dL_law_1187 : decode code 1187 = .ok (.if_icmp .eq 151, 3) := by decide +kernel
theorem dL_law_1190 : decode code 1190 = .ok (.iconst 0, 1) := by decide +kernel
theorem dL_law_1191 : decode code 1191 = .ok (.ireturn, 1) := by decide +kernel
theorem dL_law_1192 : decode code 1192 = .ok (.aload_n 1, 1) := by decide +kernel
theorem dL_law_1193 : decode code 1193 = .ok (.aload_n 0, 1) := by decide +kernel
theorem dL_law_1194 : decode code 1194 = .ok (.iload_n 3, 1) := by decide +kernel
theorem dL_law_1195 : decode code 1195 = .ok (.iconst 1, 1) := by decide +kernel
theorem dL_law_1196 : decode code 1196 = .ok (.iadd, 1) := by decide +kernel
theorem dL_law_1197 : decode code 1197 = .ok (.iaload, 1) := by decide +kernel
theorem dL_law_1198 : decode code 1198 = .ok (.aload_n 0, 1) := by decide +kernel
theorem dL_law_1199 : decode code 1199 = .ok (.iload_n 3, 1) := by decide +kernel
theorem dL_law_1200 : decode code 1200 = .ok (.iconst 2, 1) := by decide +kernel
theorem dL_law_1201 : decode code 1201 = .ok (.iadd, 1) := by decide +kernel
theorem dL_law_1202 : decode code 1202 = .ok (.iaload, 1) := by decide +kernel
theorem dL_law_1203 : decode code 1203 = .ok (.aload_n 0, 1) := by decide +kernel
theorem dL_law_1204 : decode code 1204 = .ok (.iload_n 3, 1) := by decide +kernel
theorem dL_law_1205 : decode code 1205 = .ok (.iconst 3, 1) := by decide +kernel
theorem dL_law_1206 : decode code 1206 = .ok (.iadd, 1) := by decide +kernel
theorem dL_law_1207 : decode code 1207 = .ok (.iaload, 1) := by decide +kernel
theorem dL_law_1208 : decode code 1208 = .ok (.aload_n 0, 1) := by decide +kernel
theorem dL_law_1209 : decode code 1209 = .ok (.iload_n 3, 1) := by decide +kernel
theorem dL_law_1210 : decode code 1210 = .ok (.iconst 4, 1) := by decide +kernel
theorem dL_law_1211 : decode code 1211 = .ok (.iadd, 1) := by decide +kernel
theorem dL_law_1212 : decode code 1212 = .ok (.iaload, 1) := by decide +kernel
theorem dL_law_1213 : decode code 1213 = .ok (.i2l, 1) := by decide +kernel
theorem dL_law_1214 : decode code 1214 = .ok (.bipush 32, 2) := by decide +kernel
theorem dL_law_1216 : decode code 1216 = .ok (.lshl, 1) := by decide +kernel
theorem dL_law_1217 : decode code 1217 = .ok (.aload_n 0, 1) := by decide +kernel
theorem dL_law_1218 : decode code 1218 = .ok (.iload_n 3, 1) := by decide +kernel
theorem dL_law_1219 : decode code 1219 = .ok (.iconst 5, 1) := by decide +kernel
theorem dL_law_1220 : decode code 1220 = .ok (.iadd, 1) := by decide +kernel
theorem dL_law_1221 : decode code 1221 = .ok (.iaload, 1) := by decide +kernel
theorem dL_law_1222 : decode code 1222 = .ok (.i2l, 1) := by decide +kernel
theorem dL_law_1223 : decode code 1223 = .ok (.ldc2_w 148, 3) := by decide +kernel
theorem dL_law_1226 : decode code 1226 = .ok (.land, 1) := by decide +kernel
theorem dL_law_1227 : decode code 1227 = .ok (.lor, 1) := by decide +kernel
theorem dL_law_1228 : decode code 1228 = .ok (.invokevirtual 150, 3) := by decide +kernel
theorem dL_law_1231 : decode code 1231 = .ok (.aload_n 2, 1) := by decide +kernel
theorem dL_law_1232 : decode code 1232 = .ok (.aload_n 0, 1) := by decide +kernel
theorem dL_law_1233 : decode code 1233 = .ok (.iload_n 3, 1) := by decide +kernel
theorem dL_law_1234 : decode code 1234 = .ok (.iconst 1, 1) := by decide +kernel
theorem dL_law_1235 : decode code 1235 = .ok (.iadd, 1) := by decide +kernel
theorem dL_law_1236 : decode code 1236 = .ok (.iaload, 1) := by decide +kernel
theorem dL_law_1237 : decode code 1237 = .ok (.aload_n 0, 1) := by decide +kernel
theorem dL_law_1238 : decode code 1238 = .ok (.iload_n 3, 1) := by decide +kernel
theorem dL_law_1239 : decode code 1239 = .ok (.iconst 2, 1) := by decide +kernel
theorem dL_law_1240 : decode code 1240 = .ok (.iadd, 1) := by decide +kernel
theorem dL_law_1241 : decode code 1241 = .ok (.iaload, 1) := by decide +kernel
theorem dL_law_1242 : decode code 1242 = .ok (.aload_n 0, 1) := by decide +kernel
theorem dL_law_1243 : decode code 1243 = .ok (.iload_n 3, 1) := by decide +kernel
theorem dL_law_1244 : decode code 1244 = .ok (.iconst 3, 1) := by decide +kernel
theorem dL_law_1245 : decode code 1245 = .ok (.iadd, 1) := by decide +kernel
theorem dL_law_1246 : decode code 1246 = .ok (.iaload, 1) := by decide +kernel
theorem dL_law_1247 : decode code 1247 = .ok (.aload_n 0, 1) := by decide +kernel
theorem dL_law_1248 : decode code 1248 = .ok (.iload_n 3, 1) := by decide +kernel
theorem dL_law_1249 : decode code 1249 = .ok (.iconst 4, 1) := by decide +kernel
theorem dL_law_1250 : decode code 1250 = .ok (.iadd, 1) := by decide +kernel
theorem dL_law_1251 : decode code 1251 = .ok (.iaload, 1) := by decide +kernel
theorem dL_law_1252 : decode code 1252 = .ok (.i2l, 1) := by decide +kernel
theorem dL_law_1253 : decode code 1253 = .ok (.bipush 32, 2) := by decide +kernel
theorem dL_law_1255 : decode code 1255 = .ok (.lshl, 1) := by decide +kernel
theorem dL_law_1256 : decode code 1256 = .ok (.aload_n 0, 1) := by decide +kernel
theorem dL_law_1257 : decode code 1257 = .ok (.iload_n 3, 1) := by decide +kernel
theorem dL_law_1258 : decode code 1258 = .ok (.iconst 5, 1) := by decide +kernel
theorem dL_law_1259 : decode code 1259 = .ok (.iadd, 1) := by decide +kernel
theorem dL_law_1260 : decode code 1260 = .ok (.iaload, 1) := by decide +kernel
theorem dL_law_1261 : decode code 1261 = .ok (.i2l, 1) := by decide +kernel
theorem dL_law_1262 : decode code 1262 = .ok (.ldc2_w 148, 3) := by decide +kernel
theorem dL_law_1265 : decode code 1265 = .ok (.land, 1) := by decide +kernel
theorem dL_law_1266 : decode code 1266 = .ok (.lor, 1) := by decide +kernel
theorem dL_law_1267 : decode code 1267 = .ok (.invokevirtual 154, 3) := by decide +kernel
theorem dL_law_1270 : decode code 1270 = .ok (.if_icmp .eq 68, 3) := by decide +kernel
theorem dL_law_1273 : decode code 1273 = .ok (.iconst 0, 1) := by decide +kernel
theorem dL_law_1274 : decode code 1274 = .ok (.ireturn, 1) := by decide +kernel
theorem dL_law_1275 : decode code 1275 = .ok (.aload_n 1, 1) := by decide +kernel
theorem dL_law_1276 : decode code 1276 = .ok (.aload_n 0, 1) := by decide +kernel
theorem dL_law_1277 : decode code 1277 = .ok (.iload_n 3, 1) := by decide +kernel
theorem dL_law_1278 : decode code 1278 = .ok (.iconst 1, 1) := by decide +kernel
theorem dL_law_1279 : decode code 1279 = .ok (.iadd, 1) := by decide +kernel
theorem dL_law_1280 : decode code 1280 = .ok (.iaload, 1) := by decide +kernel
theorem dL_law_1281 : decode code 1281 = .ok (.aload_n 0, 1) := by decide +kernel
theorem dL_law_1282 : decode code 1282 = .ok (.iload_n 3, 1) := by decide +kernel
theorem dL_law_1283 : decode code 1283 = .ok (.iconst 2, 1) := by decide +kernel
theorem dL_law_1284 : decode code 1284 = .ok (.iadd, 1) := by decide +kernel
theorem dL_law_1285 : decode code 1285 = .ok (.iaload, 1) := by decide +kernel
theorem dL_law_1286 : decode code 1286 = .ok (.aload_n 0, 1) := by decide +kernel
theorem dL_law_1287 : decode code 1287 = .ok (.iload_n 3, 1) := by decide +kernel
theorem dL_law_1288 : decode code 1288 = .ok (.iconst 3, 1) := by decide +kernel
theorem dL_law_1289 : decode code 1289 = .ok (.iadd, 1) := by decide +kernel
theorem dL_law_1290 : decode code 1290 = .ok (.iaload, 1) := by decide +kernel
theorem dL_law_1291 : decode code 1291 = .ok (.aload_n 0, 1) := by decide +kernel
theorem dL_law_1292 : decode code 1292 = .ok (.iload_n 3, 1) := by decide +kernel
theorem dL_law_1293 : decode code 1293 = .ok (.iconst 4, 1) := by decide +kernel
theorem dL_law_1294 : decode code 1294 = .ok (.iadd, 1) := by decide +kernel
theorem dL_law_1295 : decode code 1295 = .ok (.iaload, 1) := by decide +kernel
theorem dL_law_1296 : decode code 1296 = .ok (.aload_n 0, 1) := by decide +kernel
theorem dL_law_1297 : decode code 1297 = .ok (.iload_n 3, 1) := by decide +kernel
theorem dL_law_1298 : decode code 1298 = .ok (.iconst 5, 1) := by decide +kernel
theorem dL_law_1299 : decode code 1299 = .ok (.iadd, 1) := by decide +kernel
theorem dL_law_1300 : decode code 1300 = .ok (.iaload, 1) := by decide +kernel
theorem dL_law_1301 : decode code 1301 = .ok (.invokevirtual 155, 3) := by decide +kernel
theorem dL_law_1304 : decode code 1304 = .ok (.aload_n 2, 1) := by decide +kernel
theorem dL_law_1305 : decode code 1305 = .ok (.aload_n 0, 1) := by decide +kernel
theorem dL_law_1306 : decode code 1306 = .ok (.iload_n 3, 1) := by decide +kernel
theorem dL_law_1307 : decode code 1307 = .ok (.iconst 1, 1) := by decide +kernel
theorem dL_law_1308 : decode code 1308 = .ok (.iadd, 1) := by decide +kernel
theorem dL_law_1309 : decode code 1309 = .ok (.iaload, 1) := by decide +kernel
theorem dL_law_1310 : decode code 1310 = .ok (.aload_n 0, 1) := by decide +kernel
theorem dL_law_1311 : decode code 1311 = .ok (.iload_n 3, 1) := by decide +kernel
theorem dL_law_1312 : decode code 1312 = .ok (.iconst 2, 1) := by decide +kernel
theorem dL_law_1313 : decode code 1313 = .ok (.iadd, 1) := by decide +kernel
theorem dL_law_1314 : decode code 1314 = .ok (.iaload, 1) := by decide +kernel
theorem dL_law_1315 : decode code 1315 = .ok (.aload_n 0, 1) := by decide +kernel
theorem dL_law_1316 : decode code 1316 = .ok (.iload_n 3, 1) := by decide +kernel
theorem dL_law_1317 : decode code 1317 = .ok (.iconst 3, 1) := by decide +kernel
theorem dL_law_1318 : decode code 1318 = .ok (.iadd, 1) := by decide +kernel
theorem dL_law_1319 : decode code 1319 = .ok (.iaload, 1) := by decide +kernel
theorem dL_law_1320 : decode code 1320 = .ok (.aload_n 0, 1) := by decide +kernel
theorem dL_law_1321 : decode code 1321 = .ok (.iload_n 3, 1) := by decide +kernel
theorem dL_law_1322 : decode code 1322 = .ok (.iconst 4, 1) := by decide +kernel
theorem dL_law_1323 : decode code 1323 = .ok (.iadd, 1) := by decide +kernel
theorem dL_law_1324 : decode code 1324 = .ok (.iaload, 1) := by decide +kernel
theorem dL_law_1325 : decode code 1325 = .ok (.aload_n 0, 1) := by decide +kernel
theorem dL_law_1326 : decode code 1326 = .ok (.iload_n 3, 1) := by decide +kernel
theorem dL_law_1327 : decode code 1327 = .ok (.iconst 5, 1) := by decide +kernel
theorem dL_law_1328 : decode code 1328 = .ok (.iadd, 1) := by decide +kernel
theorem dL_law_1329 : decode code 1329 = .ok (.iaload, 1) := by decide +kernel
theorem dL_law_1330 : decode code 1330 = .ok (.invokevirtual 158, 3) := by decide +kernel
theorem dL_law_1333 : decode code 1333 = .ok (.if_icmp .eq 5, 3) := by decide +kernel
theorem dL_law_1336 : decode code 1336 = .ok (.iconst 0, 1) := by decide +kernel
theorem dL_law_1337 : decode code 1337 = .ok (.ireturn, 1) := by decide +kernel
theorem dL_law_1338 : decode code 1338 = .ok (.iinc 3 7, 3) := by decide +kernel
theorem dL_law_1341 : decode code 1341 = .ok (.goto (-1323), 3) := by decide +kernel
theorem dL_law_1344 : decode code 1344 = .ok (.iconst 1, 1) := by decide +kernel
theorem dL_law_1345 : decode code 1345 = .ok (.ireturn, 1) := by decide +kernel
end
