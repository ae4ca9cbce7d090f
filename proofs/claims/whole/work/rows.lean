section
-- ===== PART A: goes FIRST, ahead of the names: the tables' words, and 'selects' of the private methods out of them =====
/-- a private method of a class that the tables say can be made, by its rows of tables_1 -/
def lw_okq (q : MethodName × Nat) : Prop := (q.1.cls ≠ "java/lang/invoke/MethodHandle" ∧ q.1.cls ≠ "java/lang/invoke/VarHandle") ∧ Cond.instantiable q.1.cls q.2 ∈ tables_1 ∧ Cond.privateMethod q.1 ∈ tables_1 ∧ Cond.instanceMethod q.1 ∈ tables_1
theorem lw_p0 : lw_okq (⟨"StageYard$SplitSearch", "tankFor", "(I)I"⟩, 7) := ⟨⟨by decide +kernel, by decide +kernel⟩, List.mem_of_getElem? (i := 122) (by decide +kernel), List.mem_of_getElem? (i := 459) (by decide +kernel), List.mem_of_getElem? (i := 460) (by decide +kernel)⟩
theorem lw_p1 : lw_okq (⟨"StageYard$SplitSearch", "fill", "(III)V"⟩, 7) := ⟨⟨by decide +kernel, by decide +kernel⟩, List.mem_of_getElem? (i := 122) (by decide +kernel), List.mem_of_getElem? (i := 474) (by decide +kernel), List.mem_of_getElem? (i := 475) (by decide +kernel)⟩
theorem lw_p2 : lw_okq (⟨"StageYard$SplitSearch", "offer", "(III)V"⟩, 7) := ⟨⟨by decide +kernel, by decide +kernel⟩, List.mem_of_getElem? (i := 122) (by decide +kernel), List.mem_of_getElem? (i := 485) (by decide +kernel), List.mem_of_getElem? (i := 486) (by decide +kernel)⟩
theorem lw_p3 : lw_okq (⟨"StageYard$SplitSearch", "tellBest", "(I)I"⟩, 7) := ⟨⟨by decide +kernel, by decide +kernel⟩, List.mem_of_getElem? (i := 122) (by decide +kernel), List.mem_of_getElem? (i := 489) (by decide +kernel), List.mem_of_getElem? (i := 490) (by decide +kernel)⟩
theorem lw_p4 : lw_okq (⟨"StageYard$CheapestSearch", "keep", "(IIII)V"⟩, 14) := ⟨⟨by decide +kernel, by decide +kernel⟩, List.mem_of_getElem? (i := 152) (by decide +kernel), List.mem_of_getElem? (i := 510) (by decide +kernel), List.mem_of_getElem? (i := 511) (by decide +kernel)⟩
theorem lw_p5 : lw_okq (⟨"StageYard$CheapestSearch", "chooseFor", "(III)V"⟩, 14) := ⟨⟨by decide +kernel, by decide +kernel⟩, List.mem_of_getElem? (i := 152) (by decide +kernel), List.mem_of_getElem? (i := 514) (by decide +kernel), List.mem_of_getElem? (i := 515) (by decide +kernel)⟩
theorem lw_p6 : lw_okq (⟨"StageYard$CheapestSearch", "chooseEngine", "(IIII)V"⟩, 14) := ⟨⟨by decide +kernel, by decide +kernel⟩, List.mem_of_getElem? (i := 152) (by decide +kernel), List.mem_of_getElem? (i := 523) (by decide +kernel), List.mem_of_getElem? (i := 524) (by decide +kernel)⟩
theorem lw_p7 : lw_okq (⟨"StageYard$CheapestSearch", "lifts", "(III)Z"⟩, 14) := ⟨⟨by decide +kernel, by decide +kernel⟩, List.mem_of_getElem? (i := 152) (by decide +kernel), List.mem_of_getElem? (i := 527) (by decide +kernel), List.mem_of_getElem? (i := 528) (by decide +kernel)⟩
theorem lw_p8 : lw_okq (⟨"StageYard$CheapestSearch", "offer", "(III)V"⟩, 14) := ⟨⟨by decide +kernel, by decide +kernel⟩, List.mem_of_getElem? (i := 152) (by decide +kernel), List.mem_of_getElem? (i := 536) (by decide +kernel), List.mem_of_getElem? (i := 537) (by decide +kernel)⟩
theorem lw_p9 : lw_okq (⟨"StageYard$Flight", "readyLowest", "()V"⟩, 14) := ⟨⟨by decide +kernel, by decide +kernel⟩, List.mem_of_getElem? (i := 221) (by decide +kernel), List.mem_of_getElem? (i := 572) (by decide +kernel), List.mem_of_getElem? (i := 573) (by decide +kernel)⟩
theorem lw_p10 : lw_okq (⟨"StageYard$Flight", "burnLowest", "(IZ)V"⟩, 14) := ⟨⟨by decide +kernel, by decide +kernel⟩, List.mem_of_getElem? (i := 221) (by decide +kernel), List.mem_of_getElem? (i := 585) (by decide +kernel), List.mem_of_getElem? (i := 586) (by decide +kernel)⟩
theorem lw_p11 : lw_okq (⟨"StageYard$Flight", "noteLoading", "(II)V"⟩, 14) := ⟨⟨by decide +kernel, by decide +kernel⟩, List.mem_of_getElem? (i := 221) (by decide +kernel), List.mem_of_getElem? (i := 595) (by decide +kernel), List.mem_of_getElem? (i := 596) (by decide +kernel)⟩
theorem lw_p12 : lw_okq (⟨"StageYard$Flight", "dropLowest", "()V"⟩, 14) := ⟨⟨by decide +kernel, by decide +kernel⟩, List.mem_of_getElem? (i := 221) (by decide +kernel), List.mem_of_getElem? (i := 602) (by decide +kernel), List.mem_of_getElem? (i := 603) (by decide +kernel)⟩
theorem lw_p13 : lw_okq (⟨"StageYard$Year", "choose", "(IIIIII)V"⟩, 9) := ⟨⟨by decide +kernel, by decide +kernel⟩, List.mem_of_getElem? (i := 277) (by decide +kernel), List.mem_of_getElem? (i := 710) (by decide +kernel), List.mem_of_getElem? (i := 711) (by decide +kernel)⟩
theorem lw_p14 : lw_okq (⟨"StageYard$Year", "offer", "(II)V"⟩, 9) := ⟨⟨by decide +kernel, by decide +kernel⟩, List.mem_of_getElem? (i := 277) (by decide +kernel), List.mem_of_getElem? (i := 714) (by decide +kernel), List.mem_of_getElem? (i := 715) (by decide +kernel)⟩
theorem lw_p15 : lw_okq (⟨"StageYardModel", "isEngine", "(I)Z"⟩, 47) := ⟨⟨by decide +kernel, by decide +kernel⟩, List.mem_of_getElem? (i := 729) (by decide +kernel), List.mem_of_getElem? (i := 894) (by decide +kernel), List.mem_of_getElem? (i := 895) (by decide +kernel)⟩
def lw_privs_1 : List (MethodName × Nat) := [(⟨"StageYard$SplitSearch", "tankFor", "(I)I"⟩, 7), (⟨"StageYard$SplitSearch", "fill", "(III)V"⟩, 7), (⟨"StageYard$SplitSearch", "offer", "(III)V"⟩, 7), (⟨"StageYard$SplitSearch", "tellBest", "(I)I"⟩, 7), (⟨"StageYard$CheapestSearch", "keep", "(IIII)V"⟩, 14), (⟨"StageYard$CheapestSearch", "chooseFor", "(III)V"⟩, 14), (⟨"StageYard$CheapestSearch", "chooseEngine", "(IIII)V"⟩, 14), (⟨"StageYard$CheapestSearch", "lifts", "(III)Z"⟩, 14), (⟨"StageYard$CheapestSearch", "offer", "(III)V"⟩, 14), (⟨"StageYard$Flight", "readyLowest", "()V"⟩, 14), (⟨"StageYard$Flight", "burnLowest", "(IZ)V"⟩, 14), (⟨"StageYard$Flight", "noteLoading", "(II)V"⟩, 14), (⟨"StageYard$Flight", "dropLowest", "()V"⟩, 14), (⟨"StageYard$Year", "choose", "(IIIIII)V"⟩, 9), (⟨"StageYard$Year", "offer", "(II)V"⟩, 9), (⟨"StageYardModel", "isEngine", "(I)Z"⟩, 47)]
theorem lw_r1 : ∀ q ∈ lw_privs_1, lw_okq q := List.forall_mem_cons.mpr ⟨lw_p0, List.forall_mem_cons.mpr ⟨lw_p1, List.forall_mem_cons.mpr ⟨lw_p2, List.forall_mem_cons.mpr ⟨lw_p3, List.forall_mem_cons.mpr ⟨lw_p4, List.forall_mem_cons.mpr ⟨lw_p5, List.forall_mem_cons.mpr ⟨lw_p6, List.forall_mem_cons.mpr ⟨lw_p7, List.forall_mem_cons.mpr ⟨lw_p8, List.forall_mem_cons.mpr ⟨lw_p9, List.forall_mem_cons.mpr ⟨lw_p10, List.forall_mem_cons.mpr ⟨lw_p11, List.forall_mem_cons.mpr ⟨lw_p12, List.forall_mem_cons.mpr ⟨lw_p13, List.forall_mem_cons.mpr ⟨lw_p14, List.forall_mem_cons.mpr ⟨lw_p15, fun _ h => absurd h List.not_mem_nil⟩⟩⟩⟩⟩⟩⟩⟩⟩⟩⟩⟩⟩⟩⟩⟩
theorem lw_p16 : lw_okq (⟨"StageYardModel", "isStage", "(I)Z"⟩, 47) := ⟨⟨by decide +kernel, by decide +kernel⟩, List.mem_of_getElem? (i := 729) (by decide +kernel), List.mem_of_getElem? (i := 912) (by decide +kernel), List.mem_of_getElem? (i := 913) (by decide +kernel)⟩
theorem lw_p17 : lw_okq (⟨"StageYardModel", "dry", "(I)I"⟩, 47) := ⟨⟨by decide +kernel, by decide +kernel⟩, List.mem_of_getElem? (i := 729) (by decide +kernel), List.mem_of_getElem? (i := 927) (by decide +kernel), List.mem_of_getElem? (i := 928) (by decide +kernel)⟩
theorem lw_p18 : lw_okq (⟨"StageYardModel", "tank", "(I)I"⟩, 47) := ⟨⟨by decide +kernel, by decide +kernel⟩, List.mem_of_getElem? (i := 729) (by decide +kernel), List.mem_of_getElem? (i := 931) (by decide +kernel), List.mem_of_getElem? (i := 932) (by decide +kernel)⟩
theorem lw_p19 : lw_okq (⟨"StageYardModel", "ahead", "(I)I"⟩, 47) := ⟨⟨by decide +kernel, by decide +kernel⟩, List.mem_of_getElem? (i := 729) (by decide +kernel), List.mem_of_getElem? (i := 935) (by decide +kernel), List.mem_of_getElem? (i := 936) (by decide +kernel)⟩
theorem lw_p20 : lw_okq (⟨"StageYardModel", "above", "(I)I"⟩, 47) := ⟨⟨by decide +kernel, by decide +kernel⟩, List.mem_of_getElem? (i := 729) (by decide +kernel), List.mem_of_getElem? (i := 939) (by decide +kernel), List.mem_of_getElem? (i := 940) (by decide +kernel)⟩
theorem lw_p21 : lw_okq (⟨"StageYardModel", "speedOf", "(II)J"⟩, 47) := ⟨⟨by decide +kernel, by decide +kernel⟩, List.mem_of_getElem? (i := 729) (by decide +kernel), List.mem_of_getElem? (i := 943) (by decide +kernel), List.mem_of_getElem? (i := 944) (by decide +kernel)⟩
theorem lw_p22 : lw_okq (⟨"StageYardModel", "speedOfAll", "(I)J"⟩, 47) := ⟨⟨by decide +kernel, by decide +kernel⟩, List.mem_of_getElem? (i := 729) (by decide +kernel), List.mem_of_getElem? (i := 957) (by decide +kernel), List.mem_of_getElem? (i := 958) (by decide +kernel)⟩
theorem lw_p23 : lw_okq (⟨"StageYardModel", "next", "(I)Z"⟩, 47) := ⟨⟨by decide +kernel, by decide +kernel⟩, List.mem_of_getElem? (i := 729) (by decide +kernel), List.mem_of_getElem? (i := 968) (by decide +kernel), List.mem_of_getElem? (i := 969) (by decide +kernel)⟩
theorem lw_p24 : lw_okq (⟨"StageYardModel", "puts", "(II)V"⟩, 47) := ⟨⟨by decide +kernel, by decide +kernel⟩, List.mem_of_getElem? (i := 729) (by decide +kernel), List.mem_of_getElem? (i := 982) (by decide +kernel), List.mem_of_getElem? (i := 983) (by decide +kernel)⟩
theorem lw_p25 : lw_okq (⟨"StageYardModel", "hasStuff", "()Z"⟩, 47) := ⟨⟨by decide +kernel, by decide +kernel⟩, List.mem_of_getElem? (i := 729) (by decide +kernel), List.mem_of_getElem? (i := 1002) (by decide +kernel), List.mem_of_getElem? (i := 1003) (by decide +kernel)⟩
theorem lw_p26 : lw_okq (⟨"StageYardModel", "flies", "(I)I"⟩, 47) := ⟨⟨by decide +kernel, by decide +kernel⟩, List.mem_of_getElem? (i := 729) (by decide +kernel), List.mem_of_getElem? (i := 1006) (by decide +kernel), List.mem_of_getElem? (i := 1007) (by decide +kernel)⟩
theorem lw_p27 : lw_okq (⟨"StageYardModel", "finds", "()Z"⟩, 47) := ⟨⟨by decide +kernel, by decide +kernel⟩, List.mem_of_getElem? (i := 729) (by decide +kernel), List.mem_of_getElem? (i := 1010) (by decide +kernel), List.mem_of_getElem? (i := 1011) (by decide +kernel)⟩
theorem lw_p28 : lw_okq (⟨"StageYardModel", "ticksOnce", "()V"⟩, 47) := ⟨⟨by decide +kernel, by decide +kernel⟩, List.mem_of_getElem? (i := 729) (by decide +kernel), List.mem_of_getElem? (i := 1014) (by decide +kernel), List.mem_of_getElem? (i := 1015) (by decide +kernel)⟩
theorem lw_p29 : lw_okq (⟨"StageYardModel", "massNow", "()I"⟩, 47) := ⟨⟨by decide +kernel, by decide +kernel⟩, List.mem_of_getElem? (i := 729) (by decide +kernel), List.mem_of_getElem? (i := 1018) (by decide +kernel), List.mem_of_getElem? (i := 1019) (by decide +kernel)⟩
theorem lw_p30 : lw_okq (⟨"StageYardModel", "costOf", "(II)I"⟩, 47) := ⟨⟨by decide +kernel, by decide +kernel⟩, List.mem_of_getElem? (i := 729) (by decide +kernel), List.mem_of_getElem? (i := 1042) (by decide +kernel), List.mem_of_getElem? (i := 1043) (by decide +kernel)⟩
theorem lw_p31 : lw_okq (⟨"StageYardModel", "costs", "()I"⟩, 47) := ⟨⟨by decide +kernel, by decide +kernel⟩, List.mem_of_getElem? (i := 729) (by decide +kernel), List.mem_of_getElem? (i := 1050) (by decide +kernel), List.mem_of_getElem? (i := 1051) (by decide +kernel)⟩
def lw_privs_2 : List (MethodName × Nat) := [(⟨"StageYardModel", "isStage", "(I)Z"⟩, 47), (⟨"StageYardModel", "dry", "(I)I"⟩, 47), (⟨"StageYardModel", "tank", "(I)I"⟩, 47), (⟨"StageYardModel", "ahead", "(I)I"⟩, 47), (⟨"StageYardModel", "above", "(I)I"⟩, 47), (⟨"StageYardModel", "speedOf", "(II)J"⟩, 47), (⟨"StageYardModel", "speedOfAll", "(I)J"⟩, 47), (⟨"StageYardModel", "next", "(I)Z"⟩, 47), (⟨"StageYardModel", "puts", "(II)V"⟩, 47), (⟨"StageYardModel", "hasStuff", "()Z"⟩, 47), (⟨"StageYardModel", "flies", "(I)I"⟩, 47), (⟨"StageYardModel", "finds", "()Z"⟩, 47), (⟨"StageYardModel", "ticksOnce", "()V"⟩, 47), (⟨"StageYardModel", "massNow", "()I"⟩, 47), (⟨"StageYardModel", "costOf", "(II)I"⟩, 47), (⟨"StageYardModel", "costs", "()I"⟩, 47)]
theorem lw_r2 : ∀ q ∈ lw_privs_2, lw_okq q := List.forall_mem_cons.mpr ⟨lw_p16, List.forall_mem_cons.mpr ⟨lw_p17, List.forall_mem_cons.mpr ⟨lw_p18, List.forall_mem_cons.mpr ⟨lw_p19, List.forall_mem_cons.mpr ⟨lw_p20, List.forall_mem_cons.mpr ⟨lw_p21, List.forall_mem_cons.mpr ⟨lw_p22, List.forall_mem_cons.mpr ⟨lw_p23, List.forall_mem_cons.mpr ⟨lw_p24, List.forall_mem_cons.mpr ⟨lw_p25, List.forall_mem_cons.mpr ⟨lw_p26, List.forall_mem_cons.mpr ⟨lw_p27, List.forall_mem_cons.mpr ⟨lw_p28, List.forall_mem_cons.mpr ⟨lw_p29, List.forall_mem_cons.mpr ⟨lw_p30, List.forall_mem_cons.mpr ⟨lw_p31, fun _ h => absurd h List.not_mem_nil⟩⟩⟩⟩⟩⟩⟩⟩⟩⟩⟩⟩⟩⟩⟩⟩
theorem lw_p32 : lw_okq (⟨"StageYardModel", "findYear", "()I"⟩, 47) := ⟨⟨by decide +kernel, by decide +kernel⟩, List.mem_of_getElem? (i := 729) (by decide +kernel), List.mem_of_getElem? (i := 1081) (by decide +kernel), List.mem_of_getElem? (i := 1082) (by decide +kernel)⟩
theorem lw_p33 : lw_okq (⟨"StageYardModel", "canFly", "(I)Z"⟩, 47) := ⟨⟨by decide +kernel, by decide +kernel⟩, List.mem_of_getElem? (i := 729) (by decide +kernel), List.mem_of_getElem? (i := 1085) (by decide +kernel), List.mem_of_getElem? (i := 1086) (by decide +kernel)⟩
def lw_privs_3 : List (MethodName × Nat) := [(⟨"StageYardModel", "findYear", "()I"⟩, 47), (⟨"StageYardModel", "canFly", "(I)Z"⟩, 47)]
theorem lw_r3 : ∀ q ∈ lw_privs_3, lw_okq q := List.forall_mem_cons.mpr ⟨lw_p32, List.forall_mem_cons.mpr ⟨lw_p33, fun _ h => absurd h List.not_mem_nil⟩⟩
def lw_privs : List (MethodName × Nat) := lw_privs_1 ++ (lw_privs_2 ++ (lw_privs_3))
def lw_tbl : List Cond := k2_sels lw_privs ++ tables_1
theorem lw_privs_ok : ∀ q ∈ lw_privs, lw_okq q := by
  show ∀ q ∈ lw_privs_1 ++ (lw_privs_2 ++ (lw_privs_3)), lw_okq q
  exact List.forall_mem_append.mpr ⟨lw_r1, List.forall_mem_append.mpr ⟨lw_r2, lw_r3⟩⟩
end
section
def RX0 : String := "StageYard$CheapestSearch"
def TX0 : u_T := fun k => match k with
  | 0 => ("StageYard$CheapestSearch", "rocket", "LStageYard$Rocket;", true)
  | 1 => ("StageYard$CheapestSearch", "kinds", "LStageYard$Engines;", true)
  | 2 => ("StageYard$CheapestSearch", "sums", "LStageYard$LowSums;", true)
  | 3 => ("StageYard$CheapestSearch", "massOf", "[I", true)
  | 4 => ("StageYard$CheapestSearch", "lowOf", "[I", true)
  | 5 => ("StageYard$CheapestSearch", "costOf", "[I", true)
  | 6 => ("StageYard$CheapestSearch", "keyOf", "[I", true)
  | 7 => ("StageYard$CheapestSearch", "kept", "I", false)
  | 8 => ("StageYard$CheapestSearch", "wantedSpeed", "I", false)
  | 9 => ("StageYard$CheapestSearch", "wantedLift", "I", false)
  | 10 => ("StageYard$CheapestSearch", "bestCost", "I", false)
  | 11 => ("StageYard$CheapestSearch", "bestKey", "I", false)
  | 12 => ("StageYard$CheapestSearch", "chosenKey", "I", false)
  | _ => ("StageYard$CheapestSearch", "stages", "I", false)
def tyX0 : Nat → FieldType := fun k => match k with
  | 0 => .object "StageYard$Rocket"
  | 1 => .object "StageYard$Engines"
  | 2 => .object "StageYard$LowSums"
  | 3 => .array .int
  | 4 => .array .int
  | 5 => .array .int
  | 6 => .array .int
  | 7 => .int
  | 8 => .int
  | 9 => .int
  | 10 => .int
  | 11 => .int
  | 12 => .int
  | _ => .int
theorem nmX0 : ∀ a, a < 14 → ∀ b, b < 14 → a ≠ b → (TX0 a).2.1 ≠ (TX0 b).2.1 := by decide +kernel
theorem tyX0_ok : ∀ k, k < 14 → parseFieldDescriptor (TX0 k).2.2.1 = some (tyX0 k) := by decide +kernel
abbrev cX0_init : ByteArray := prog_2_method_1_code
def yX0_init : MethodName := ⟨RX0, "<init>", "(LStageYard$Rocket;LStageYard$LowSums;)V"⟩
abbrev cX0_optionOf : ByteArray := prog_2_method_2_code
def yX0_optionOf : MethodName := ⟨RX0, "optionOf", "(II)I"⟩
abbrev cX0_engineIn : ByteArray := prog_2_method_3_code
def yX0_engineIn : MethodName := ⟨RX0, "engineIn", "(I)I"⟩
abbrev cX0_manyIn : ByteArray := prog_2_method_4_code
def yX0_manyIn : MethodName := ⟨RX0, "manyIn", "(I)I"⟩
abbrev cX0_search : ByteArray := prog_2_method_5_code
def yX0_search : MethodName := ⟨RX0, "search", "(II)I"⟩
abbrev cX0_chooseFor : ByteArray := prog_2_method_6_code
def yX0_chooseFor : MethodName := ⟨RX0, "chooseFor", "(III)V"⟩
abbrev cX0_chooseEngine : ByteArray := prog_2_method_7_code
def yX0_chooseEngine : MethodName := ⟨RX0, "chooseEngine", "(IIII)V"⟩
abbrev cX0_lifts : ByteArray := prog_2_method_8_code
def yX0_lifts : MethodName := ⟨RX0, "lifts", "(III)Z"⟩
abbrev cX0_keep : ByteArray := prog_2_method_9_code
def yX0_keep : MethodName := ⟨RX0, "keep", "(IIII)V"⟩
abbrev cX0_offer : ByteArray := prog_2_method_10_code
def yX0_offer : MethodName := ⟨RX0, "offer", "(III)V"⟩
def RX1 : String := "StageYard$Engines"
def TX1 : u_T := fun k => match k with
  | 0 => ("StageYard$Engines", "thrust", "[I", true)
  | 1 => ("StageYard$Engines", "exhaust", "[I", true)
  | 2 => ("StageYard$Engines", "mass", "[I", true)
  | 3 => ("StageYard$Engines", "firstCost", "[I", true)
  | 4 => ("StageYard$Engines", "stored", "[I", true)
  | 5 => ("StageYard$Engines", "bought", "[I", true)
  | _ => ("StageYard$Engines", "size", "I", false)
def tyX1 : Nat → FieldType := fun k => match k with
  | 0 => .array .int
  | 1 => .array .int
  | 2 => .array .int
  | 3 => .array .int
  | 4 => .array .int
  | 5 => .array .int
  | _ => .int
theorem nmX1 : ∀ a, a < 7 → ∀ b, b < 7 → a ≠ b → (TX1 a).2.1 ≠ (TX1 b).2.1 := by decide +kernel
theorem tyX1_ok : ∀ k, k < 7 → parseFieldDescriptor (TX1 k).2.2.1 = some (tyX1 k) := by decide +kernel
abbrev cX1_init : ByteArray := prog_3_method_1_code
def yX1_init : MethodName := ⟨RX1, "<init>", "()V"⟩
abbrev cX1_has : ByteArray := prog_3_method_2_code
def yX1_has : MethodName := ⟨RX1, "has", "(I)Z"⟩
abbrev cX1_add : ByteArray := prog_3_method_3_code
def yX1_add : MethodName := ⟨RX1, "add", "(IIII)I"⟩
abbrev cX1_costAt : ByteArray := prog_3_method_4_code
def yX1_costAt : MethodName := ⟨RX1, "costAt", "(III)I"⟩
abbrev cX1_nextCost : ByteArray := prog_3_method_5_code
def yX1_nextCost : MethodName := ⟨RX1, "nextCost", "(II)I"⟩
abbrev cX1_missing : ByteArray := prog_3_method_6_code
def yX1_missing : MethodName := ⟨RX1, "missing", "(II)I"⟩
abbrev cX1_costOfMissing : ByteArray := prog_3_method_7_code
def yX1_costOfMissing : MethodName := ⟨RX1, "costOfMissing", "(III)I"⟩
abbrev cX1_take : ByteArray := prog_3_method_8_code
def yX1_take : MethodName := ⟨RX1, "take", "(II)V"⟩
def RX2 : String := "StageYard$Flight"
def TX2 : u_T := fun k => match k with
  | 0 => ("StageYard$Flight", "rocket", "LStageYard$Rocket;", true)
  | 1 => ("StageYard$Flight", "sky", "LStageYard$Sky;", true)
  | 2 => ("StageYard$Flight", "lowest", "I", false)
  | 3 => ("StageYard$Flight", "left", "I", false)
  | 4 => ("StageYard$Flight", "working", "I", false)
  | 5 => ("StageYard$Flight", "thrust", "I", false)
  | 6 => ("StageYard$Flight", "mass", "I", false)
  | 7 => ("StageYard$Flight", "stuffLeft", "I", false)
  | 8 => ("StageYard$Flight", "ticks", "I", false)
  | 9 => ("StageYard$Flight", "height", "I", false)
  | 10 => ("StageYard$Flight", "pace", "I", false)
  | 11 => ("StageYard$Flight", "greatest", "I", false)
  | 12 => ("StageYard$Flight", "greatestTick", "I", false)
  | _ => ("StageYard$Flight", "brokenTick", "I", false)
def tyX2 : Nat → FieldType := fun k => match k with
  | 0 => .object "StageYard$Rocket"
  | 1 => .object "StageYard$Sky"
  | 2 => .int
  | 3 => .int
  | 4 => .int
  | 5 => .int
  | 6 => .int
  | 7 => .int
  | 8 => .int
  | 9 => .int
  | 10 => .int
  | 11 => .int
  | 12 => .int
  | _ => .int
theorem nmX2 : ∀ a, a < 14 → ∀ b, b < 14 → a ≠ b → (TX2 a).2.1 ≠ (TX2 b).2.1 := by decide +kernel
theorem tyX2_ok : ∀ k, k < 14 → parseFieldDescriptor (TX2 k).2.2.1 = some (tyX2 k) := by decide +kernel
abbrev cX2_init : ByteArray := prog_4_method_1_code
def yX2_init : MethodName := ⟨RX2, "<init>", "(LStageYard$Rocket;LStageYard$Sky;)V"⟩
abbrev cX2_begin : ByteArray := prog_4_method_2_code
def yX2_begin : MethodName := ⟨RX2, "begin", "()V"⟩
abbrev cX2_copyOf : ByteArray := prog_4_method_3_code
def yX2_copyOf : MethodName := ⟨RX2, "copyOf", "(LStageYard$Flight;)V"⟩
abbrev cX2_goesOn : ByteArray := prog_4_method_4_code
def yX2_goesOn : MethodName := ⟨RX2, "goesOn", "()Z"⟩
abbrev cX2_readyLowest : ByteArray := prog_4_method_5_code
def yX2_readyLowest : MethodName := ⟨RX2, "readyLowest", "()V"⟩
abbrev cX2_dropLowest : ByteArray := prog_4_method_6_code
def yX2_dropLowest : MethodName := ⟨RX2, "dropLowest", "()V"⟩
abbrev cX2_loseEngine : ByteArray := prog_4_method_7_code
def yX2_loseEngine : MethodName := ⟨RX2, "loseEngine", "()V"⟩
abbrev cX2_goOn : ByteArray := prog_4_method_8_code
def yX2_goOn : MethodName := ⟨RX2, "goOn", "(IZ)V"⟩
abbrev cX2_burnLowest : ByteArray := prog_4_method_9_code
def yX2_burnLowest : MethodName := ⟨RX2, "burnLowest", "(IZ)V"⟩
abbrev cX2_noteLoading : ByteArray := prog_4_method_10_code
def yX2_noteLoading : MethodName := ⟨RX2, "noteLoading", "(II)V"⟩
abbrev cX2_breakNow : ByteArray := prog_4_method_11_code
def yX2_breakNow : MethodName := ⟨RX2, "breakNow", "()I"⟩
def RX3 : String := "StageYard$LowSums"
def TX3 : u_T := fun k => match k with
  | 0 => ("StageYard$LowSums", "row", "[I", true)
  | 1 => ("StageYard$LowSums", "from", "I", false)
  | _ => ("StageYard$LowSums", "to", "I", false)
def tyX3 : Nat → FieldType := fun k => match k with
  | 0 => .array .int
  | 1 => .int
  | _ => .int
theorem nmX3 : ∀ a, a < 3 → ∀ b, b < 3 → a ≠ b → (TX3 a).2.1 ≠ (TX3 b).2.1 := by decide +kernel
theorem tyX3_ok : ∀ k, k < 3 → parseFieldDescriptor (TX3 k).2.2.1 = some (tyX3 k) := by decide +kernel
abbrev cX3_init : ByteArray := prog_5_method_1_code
def yX3_init : MethodName := ⟨RX3, "<init>", "()V"⟩
abbrev cX3_ready : ByteArray := prog_5_method_2_code
def yX3_ready : MethodName := ⟨RX3, "ready", "(III)V"⟩
abbrev cX3_between : ByteArray := prog_5_method_3_code
def yX3_between : MethodName := ⟨RX3, "between", "(II)I"⟩
def RX4 : String := "StageYard$Rocket"
def TX4 : u_T := fun k => match k with
  | 0 => ("StageYard$Rocket", "kinds", "LStageYard$Engines;", true)
  | 1 => ("StageYard$Rocket", "settings", "[I", true)
  | 2 => ("StageYard$Rocket", "engineOf", "[I", true)
  | 3 => ("StageYard$Rocket", "manyOf", "[I", true)
  | 4 => ("StageYard$Rocket", "stuffOf", "[I", true)
  | 5 => ("StageYard$Rocket", "frameOf", "[I", true)
  | _ => ("StageYard$Rocket", "size", "I", false)
def tyX4 : Nat → FieldType := fun k => match k with
  | 0 => .object "StageYard$Engines"
  | 1 => .array .int
  | 2 => .array .int
  | 3 => .array .int
  | 4 => .array .int
  | 5 => .array .int
  | _ => .int
theorem nmX4 : ∀ a, a < 7 → ∀ b, b < 7 → a ≠ b → (TX4 a).2.1 ≠ (TX4 b).2.1 := by decide +kernel
theorem tyX4_ok : ∀ k, k < 7 → parseFieldDescriptor (TX4 k).2.2.1 = some (tyX4 k) := by decide +kernel
abbrev cX4_init : ByteArray := prog_6_method_1_code
def yX4_init : MethodName := ⟨RX4, "<init>", "(LStageYard$Engines;[I)V"⟩
abbrev cX4_has : ByteArray := prog_6_method_2_code
def yX4_has : MethodName := ⟨RX4, "has", "(I)Z"⟩
abbrev cX4_addOnTop : ByteArray := prog_6_method_3_code
def yX4_addOnTop : MethodName := ⟨RX4, "addOnTop", "(IIII)I"⟩
abbrev cX4_load : ByteArray := prog_6_method_4_code
def yX4_load : MethodName := ⟨RX4, "load", "()I"⟩
abbrev cX4_tankFor : ByteArray := prog_6_method_5_code
def yX4_tankFor : MethodName := ⟨RX4, "tankFor", "(I)I"⟩
abbrev cX4_dryOf : ByteArray := prog_6_method_6_code
def yX4_dryOf : MethodName := ⟨RX4, "dryOf", "(I)I"⟩
abbrev cX4_bareOf : ByteArray := prog_6_method_7_code
def yX4_bareOf : MethodName := ⟨RX4, "bareOf", "(I)I"⟩
abbrev cX4_exhaustOf : ByteArray := prog_6_method_8_code
def yX4_exhaustOf : MethodName := ⟨RX4, "exhaustOf", "(I)I"⟩
abbrev cX4_massFrom : ByteArray := prog_6_method_9_code
def yX4_massFrom : MethodName := ⟨RX4, "massFrom", "(I)I"⟩
abbrev cX4_allStuff : ByteArray := prog_6_method_10_code
def yX4_allStuff : MethodName := ⟨RX4, "allStuff", "()I"⟩
abbrev cX4_lowOf : ByteArray := prog_6_method_11_code
def yX4_lowOf : MethodName := ⟨RX4, "lowOf", "(II)I"⟩
abbrev cX4_highOf : ByteArray := prog_6_method_12_code
def yX4_highOf : MethodName := ⟨RX4, "highOf", "(I)I"⟩
abbrev cX4_liftOf : ByteArray := prog_6_method_13_code
def yX4_liftOf : MethodName := ⟨RX4, "liftOf", "(I)I"⟩
abbrev cX4_enginesCost : ByteArray := prog_6_method_14_code
def yX4_enginesCost : MethodName := ⟨RX4, "enginesCost", "(I)I"⟩
abbrev cX4_neededOf : ByteArray := prog_6_method_15_code
def yX4_neededOf : MethodName := ⟨RX4, "neededOf", "(I)I"⟩
abbrev cX4_priceNow : ByteArray := prog_6_method_16_code
def yX4_priceNow : MethodName := ⟨RX4, "priceNow", "()I"⟩
def RX5 : String := "StageYard$Sky"
def TX5 : u_T := fun k => match k with
  | 0 => ("StageYard$Sky", "airOf", "[I", true)
  | _ => ("StageYard$Sky", "limits", "[I", true)
def tyX5 : Nat → FieldType := fun k => match k with
  | 0 => .array .int
  | _ => .array .int
theorem nmX5 : ∀ a, a < 2 → ∀ b, b < 2 → a ≠ b → (TX5 a).2.1 ≠ (TX5 b).2.1 := by decide +kernel
theorem tyX5_ok : ∀ k, k < 2 → parseFieldDescriptor (TX5 k).2.2.1 = some (tyX5 k) := by decide +kernel
abbrev cX5_init : ByteArray := prog_7_method_1_code
def yX5_init : MethodName := ⟨RX5, "<init>", "()V"⟩
abbrev cX5_dragOf : ByteArray := prog_7_method_2_code
def yX5_dragOf : MethodName := ⟨RX5, "dragOf", "(II)I"⟩
def RX6 : String := "StageYard$SplitSearch"
def TX6 : u_T := fun k => match k with
  | 0 => ("StageYard$SplitSearch", "rocket", "LStageYard$Rocket;", true)
  | 1 => ("StageYard$SplitSearch", "sums", "LStageYard$LowSums;", true)
  | 2 => ("StageYard$SplitSearch", "lowAt", "[I", true)
  | 3 => ("StageYard$SplitSearch", "keyAt", "[I", true)
  | 4 => ("StageYard$SplitSearch", "lotSize", "I", false)
  | 5 => ("StageYard$SplitSearch", "bestKey", "I", false)
  | _ => ("StageYard$SplitSearch", "stages", "I", false)
def tyX6 : Nat → FieldType := fun k => match k with
  | 0 => .object "StageYard$Rocket"
  | 1 => .object "StageYard$LowSums"
  | 2 => .array .int
  | 3 => .array .int
  | 4 => .int
  | 5 => .int
  | _ => .int
theorem nmX6 : ∀ a, a < 7 → ∀ b, b < 7 → a ≠ b → (TX6 a).2.1 ≠ (TX6 b).2.1 := by decide +kernel
theorem tyX6_ok : ∀ k, k < 7 → parseFieldDescriptor (TX6 k).2.2.1 = some (tyX6 k) := by decide +kernel
abbrev cX6_init : ByteArray := prog_8_method_1_code
def yX6_init : MethodName := ⟨RX6, "<init>", "(LStageYard$Rocket;LStageYard$LowSums;)V"⟩
abbrev cX6_search : ByteArray := prog_8_method_2_code
def yX6_search : MethodName := ⟨RX6, "search", "(II)I"⟩
abbrev cX6_tankFor : ByteArray := prog_8_method_3_code
def yX6_tankFor : MethodName := ⟨RX6, "tankFor", "(I)I"⟩
abbrev cX6_fill : ByteArray := prog_8_method_4_code
def yX6_fill : MethodName := ⟨RX6, "fill", "(III)V"⟩
abbrev cX6_offer : ByteArray := prog_8_method_5_code
def yX6_offer : MethodName := ⟨RX6, "offer", "(III)V"⟩
abbrev cX6_tellBest : ByteArray := prog_8_method_6_code
def yX6_tellBest : MethodName := ⟨RX6, "tellBest", "(I)I"⟩
def RX7 : String := "StageYard$Year"
def TX7 : u_T := fun k => match k with
  | 0 => ("StageYard$Year", "needs", "[I", true)
  | 1 => ("StageYard$Year", "endOf", "[I", true)
  | 2 => ("StageYard$Year", "worthOf", "[I", true)
  | 3 => ("StageYard$Year", "byEnd", "[I", true)
  | 4 => ("StageYard$Year", "delivered", "[I", true)
  | 5 => ("StageYard$Year", "upTo", "[I", true)
  | 6 => ("StageYard$Year", "size", "I", false)
  | 7 => ("StageYard$Year", "bestWorth", "I", false)
  | _ => ("StageYard$Year", "bestSet", "I", false)
def tyX7 : Nat → FieldType := fun k => match k with
  | 0 => .array .int
  | 1 => .array .int
  | 2 => .array .int
  | 3 => .array .int
  | 4 => .array .int
  | 5 => .array .int
  | 6 => .int
  | 7 => .int
  | _ => .int
theorem nmX7 : ∀ a, a < 9 → ∀ b, b < 9 → a ≠ b → (TX7 a).2.1 ≠ (TX7 b).2.1 := by decide +kernel
theorem tyX7_ok : ∀ k, k < 9 → parseFieldDescriptor (TX7 k).2.2.1 = some (tyX7 k) := by decide +kernel
abbrev cX7_init : ByteArray := prog_9_method_1_code
def yX7_init : MethodName := ⟨RX7, "<init>", "()V"⟩
abbrev cX7_add : ByteArray := prog_9_method_2_code
def yX7_add : MethodName := ⟨RX7, "add", "(IIIII)I"⟩
abbrev cX7_search : ByteArray := prog_9_method_3_code
def yX7_search : MethodName := ⟨RX7, "search", "()V"⟩
abbrev cX7_choose : ByteArray := prog_9_method_4_code
def yX7_choose : MethodName := ⟨RX7, "choose", "(IIIIII)V"⟩
abbrev cX7_offer : ByteArray := prog_9_method_5_code
def yX7_offer : MethodName := ⟨RX7, "offer", "(II)V"⟩
def RX8 : String := "StageYard"
def TX8 : u_T := fun k => match k with
  | 0 => ("StageYard", "settings", "[I", true)
  | 1 => ("StageYard", "kinds", "LStageYard$Engines;", true)
  | 2 => ("StageYard", "rocket", "LStageYard$Rocket;", true)
  | 3 => ("StageYard", "splitSearch", "LStageYard$SplitSearch;", true)
  | 4 => ("StageYard", "cheapestSearch", "LStageYard$CheapestSearch;", true)
  | 5 => ("StageYard", "sky", "LStageYard$Sky;", true)
  | 6 => ("StageYard", "latest", "LStageYard$Flight;", true)
  | 7 => ("StageYard", "base", "LStageYard$Flight;", true)
  | 8 => ("StageYard", "trial", "LStageYard$Flight;", true)
  | 9 => ("StageYard", "anyFlown", "Z", false)
  | _ => ("StageYard", "plan", "LStageYard$Year;", true)
def tyX8 : Nat → FieldType := fun k => match k with
  | 0 => .array .int
  | 1 => .object "StageYard$Engines"
  | 2 => .object "StageYard$Rocket"
  | 3 => .object "StageYard$SplitSearch"
  | 4 => .object "StageYard$CheapestSearch"
  | 5 => .object "StageYard$Sky"
  | 6 => .object "StageYard$Flight"
  | 7 => .object "StageYard$Flight"
  | 8 => .object "StageYard$Flight"
  | 9 => .boolean
  | _ => .object "StageYard$Year"
theorem nmX8 : ∀ a, a < 11 → ∀ b, b < 11 → a ≠ b → (TX8 a).2.1 ≠ (TX8 b).2.1 := by decide +kernel
theorem tyX8_ok : ∀ k, k < 11 → parseFieldDescriptor (TX8 k).2.2.1 = some (tyX8 k) := by decide +kernel
abbrev cX8_init : ByteArray := prog_1_method_1_code
def yX8_init : MethodName := ⟨RX8, "<init>", "()V"⟩
abbrev cX8_engine : ByteArray := prog_1_method_2_code
def yX8_engine : MethodName := ⟨RX8, "engine", "(IIII)I"⟩
abbrev cX8_store : ByteArray := prog_1_method_3_code
def yX8_store : MethodName := ⟨RX8, "store", "(II)I"⟩
abbrev cX8_stage : ByteArray := prog_1_method_4_code
def yX8_stage : MethodName := ⟨RX8, "stage", "(IIII)I"⟩
abbrev cX8_undo : ByteArray := prog_1_method_5_code
def yX8_undo : MethodName := ⟨RX8, "undo", "()I"⟩
abbrev cX8_stuff : ByteArray := prog_1_method_6_code
def yX8_stuff : MethodName := ⟨RX8, "stuff", "(II)I"⟩
abbrev cX8_set : ByteArray := prog_1_method_7_code
def yX8_set : MethodName := ⟨RX8, "set", "(II)I"⟩
abbrev cX8_about : ByteArray := prog_1_method_8_code
def yX8_about : MethodName := ⟨RX8, "about", "(II)I"⟩
abbrev cX8_speed : ByteArray := prog_1_method_9_code
def yX8_speed : MethodName := ⟨RX8, "speed", "(I)I"⟩
abbrev cX8_split : ByteArray := prog_1_method_10_code
def yX8_split : MethodName := ⟨RX8, "split", "(II)I"⟩
abbrev cX8_lots : ByteArray := prog_1_method_11_code
def yX8_lots : MethodName := ⟨RX8, "lots", "(I)I"⟩
abbrev cX8_cheapest : ByteArray := prog_1_method_12_code
def yX8_cheapest : MethodName := ⟨RX8, "cheapest", "(II)I"⟩
abbrev cX8_chosen : ByteArray := prog_1_method_13_code
def yX8_chosen : MethodName := ⟨RX8, "chosen", "(II)I"⟩
abbrev cX8_air : ByteArray := prog_1_method_14_code
def yX8_air : MethodName := ⟨RX8, "air", "(II)I"⟩
abbrev cX8_limit : ByteArray := prog_1_method_15_code
def yX8_limit : MethodName := ⟨RX8, "limit", "(II)I"⟩
abbrev cX8_fly : ByteArray := prog_1_method_16_code
def yX8_fly : MethodName := ⟨RX8, "fly", "()I"⟩
abbrev cX8_flown : ByteArray := prog_1_method_17_code
def yX8_flown : MethodName := ⟨RX8, "flown", "(I)I"⟩
abbrev cX8_out : ByteArray := prog_1_method_18_code
def yX8_out : MethodName := ⟨RX8, "out", "(I)I"⟩
abbrev cX8_safe : ByteArray := prog_1_method_19_code
def yX8_safe : MethodName := ⟨RX8, "safe", "()I"⟩
abbrev cX8_cost : ByteArray := prog_1_method_20_code
def yX8_cost : MethodName := ⟨RX8, "cost", "(II)I"⟩
abbrev cX8_price : ByteArray := prog_1_method_21_code
def yX8_price : MethodName := ⟨RX8, "price", "()I"⟩
abbrev cX8_buy : ByteArray := prog_1_method_22_code
def yX8_buy : MethodName := ⟨RX8, "buy", "()I"⟩
abbrev cX8_keeping : ByteArray := prog_1_method_23_code
def yX8_keeping : MethodName := ⟨RX8, "keeping", "(II)I"⟩
abbrev cX8_even : ByteArray := prog_1_method_24_code
def yX8_even : MethodName := ⟨RX8, "even", "(III)I"⟩
abbrev cX8_flight : ByteArray := prog_1_method_25_code
def yX8_flight : MethodName := ⟨RX8, "flight", "(IIIII)I"⟩
abbrev cX8_deliver : ByteArray := prog_1_method_26_code
def yX8_deliver : MethodName := ⟨RX8, "deliver", "(III)I"⟩
abbrev cX8_year : ByteArray := prog_1_method_27_code
def yX8_year : MethodName := ⟨RX8, "year", "()I"⟩
abbrev cX8_flights : ByteArray := prog_1_method_28_code
def yX8_flights : MethodName := ⟨RX8, "flights", "()I"⟩
abbrev cX8_count : ByteArray := prog_1_method_29_code
def yX8_count : MethodName := ⟨RX8, "count", "(I)I"⟩
abbrev cX8_within : ByteArray := prog_1_method_30_code
def yX8_within : MethodName := ⟨RX8, "within", "(III)Z"⟩
abbrev cX8_put : ByteArray := prog_1_method_31_code
def yX8_put : MethodName := ⟨RX8, "put", "([III)I"⟩
abbrev cX8_sumOf : ByteArray := prog_1_method_32_code
def yX8_sumOf : MethodName := ⟨RX8, "sumOf", "([I)I"⟩
abbrev cX8_digitFor : ByteArray := prog_1_method_33_code
def yX8_digitFor : MethodName := ⟨RX8, "digitFor", "(II)I"⟩
abbrev cX8_digitIn : ByteArray := prog_1_method_34_code
def yX8_digitIn : MethodName := ⟨RX8, "digitIn", "(II)I"⟩
def RX9 : String := "StageYardModel"
def TX9 : u_T := fun k => match k with
  | 0 => ("StageYardModel", "thrust", "[I", true)
  | 1 => ("StageYardModel", "exhaust", "[I", true)
  | 2 => ("StageYardModel", "weight", "[I", true)
  | 3 => ("StageYardModel", "price", "[I", true)
  | 4 => ("StageYardModel", "inStore", "[I", true)
  | 5 => ("StageYardModel", "bought", "[I", true)
  | 6 => ("StageYardModel", "kind", "[I", true)
  | 7 => ("StageYardModel", "many", "[I", true)
  | 8 => ("StageYardModel", "stuff", "[I", true)
  | 9 => ("StageYardModel", "frame", "[I", true)
  | 10 => ("StageYardModel", "air", "[I", true)
  | 11 => ("StageYardModel", "limit", "[I", true)
  | 12 => ("StageYardModel", "engines", "I", false)
  | 13 => ("StageYardModel", "stages", "I", false)
  | 14 => ("StageYardModel", "load", "I", false)
  | 15 => ("StageYardModel", "share", "I", false)
  | 16 => ("StageYardModel", "learn", "I", false)
  | 17 => ("StageYardModel", "kept", "[I", true)
  | 18 => ("StageYardModel", "lots", "[I", true)
  | 19 => ("StageYardModel", "bestLots", "[I", true)
  | 20 => ("StageYardModel", "splitStages", "I", false)
  | 21 => ("StageYardModel", "chosen", "[I", true)
  | 22 => ("StageYardModel", "digit", "[I", true)
  | 23 => ("StageYardModel", "lowFrom", "[J", true)
  | 24 => ("StageYardModel", "massFrom", "[J", true)
  | 25 => ("StageYardModel", "costFrom", "[J", true)
  | 26 => ("StageYardModel", "lifts", "[Z", true)
  | 27 => ("StageYardModel", "chosenStages", "I", false)
  | 28 => ("StageYardModel", "left", "[I", true)
  | 29 => ("StageYardModel", "burner", "I", false)
  | 30 => ("StageYardModel", "works", "I", false)
  | 31 => ("StageYardModel", "ticks", "I", false)
  | 32 => ("StageYardModel", "greatest", "I", false)
  | 33 => ("StageYardModel", "greatestAt", "I", false)
  | 34 => ("StageYardModel", "brokeAt", "I", false)
  | 35 => ("StageYardModel", "fell", "I", false)
  | 36 => ("StageYardModel", "height", "J", false)
  | 37 => ("StageYardModel", "pace", "J", false)
  | 38 => ("StageYardModel", "flown", "[I", true)
  | 39 => ("StageYardModel", "wasFlown", "Z", false)
  | 40 => ("StageYardModel", "needs", "[I", true)
  | 41 => ("StageYardModel", "flightNeeds", "[I", true)
  | 42 => ("StageYardModel", "end", "[I", true)
  | 43 => ("StageYardModel", "worth", "[I", true)
  | 44 => ("StageYardModel", "delivered", "[I", true)
  | 45 => ("StageYardModel", "flights", "I", false)
  | _ => ("StageYardModel", "bestSet", "I", false)
def tyX9 : Nat → FieldType := fun k => match k with
  | 0 => .array .int
  | 1 => .array .int
  | 2 => .array .int
  | 3 => .array .int
  | 4 => .array .int
  | 5 => .array .int
  | 6 => .array .int
  | 7 => .array .int
  | 8 => .array .int
  | 9 => .array .int
  | 10 => .array .int
  | 11 => .array .int
  | 12 => .int
  | 13 => .int
  | 14 => .int
  | 15 => .int
  | 16 => .int
  | 17 => .array .int
  | 18 => .array .int
  | 19 => .array .int
  | 20 => .int
  | 21 => .array .int
  | 22 => .array .int
  | 23 => .array .long
  | 24 => .array .long
  | 25 => .array .long
  | 26 => .array .boolean
  | 27 => .int
  | 28 => .array .int
  | 29 => .int
  | 30 => .int
  | 31 => .int
  | 32 => .int
  | 33 => .int
  | 34 => .int
  | 35 => .int
  | 36 => .long
  | 37 => .long
  | 38 => .array .int
  | 39 => .boolean
  | 40 => .array .int
  | 41 => .array .int
  | 42 => .array .int
  | 43 => .array .int
  | 44 => .array .int
  | 45 => .int
  | _ => .int
theorem nmX9 : ∀ a, a < 47 → ∀ b, b < 47 → a ≠ b → (TX9 a).2.1 ≠ (TX9 b).2.1 := by decide +kernel
theorem tyX9_ok : ∀ k, k < 47 → parseFieldDescriptor (TX9 k).2.2.1 = some (tyX9 k) := by decide +kernel
abbrev cX9_init : ByteArray := prog_11_method_1_code
def yX9_init : MethodName := ⟨RX9, "<init>", "()V"⟩
abbrev cX9_isIn : ByteArray := prog_11_method_2_code
def yX9_isIn : MethodName := ⟨RX9, "isIn", "(JJJ)Z"⟩
abbrev cX9_isEngine : ByteArray := prog_11_method_3_code
def yX9_isEngine : MethodName := ⟨RX9, "isEngine", "(I)Z"⟩
abbrev cX9_isStage : ByteArray := prog_11_method_4_code
def yX9_isStage : MethodName := ⟨RX9, "isStage", "(I)Z"⟩
abbrev cX9_engine : ByteArray := prog_11_method_5_code
def yX9_engine : MethodName := ⟨RX9, "engine", "(IIII)I"⟩
abbrev cX9_store : ByteArray := prog_11_method_6_code
def yX9_store : MethodName := ⟨RX9, "store", "(II)I"⟩
abbrev cX9_stage : ByteArray := prog_11_method_7_code
def yX9_stage : MethodName := ⟨RX9, "stage", "(IIII)I"⟩
abbrev cX9_undo : ByteArray := prog_11_method_8_code
def yX9_undo : MethodName := ⟨RX9, "undo", "()I"⟩
abbrev cX9_stuff : ByteArray := prog_11_method_9_code
def yX9_stuff : MethodName := ⟨RX9, "stuff", "(II)I"⟩
abbrev cX9_set : ByteArray := prog_11_method_10_code
def yX9_set : MethodName := ⟨RX9, "set", "(II)I"⟩
abbrev cX9_tank : ByteArray := prog_11_method_11_code
def yX9_tank : MethodName := ⟨RX9, "tank", "(I)I"⟩
abbrev cX9_dry : ByteArray := prog_11_method_12_code
def yX9_dry : MethodName := ⟨RX9, "dry", "(I)I"⟩
abbrev cX9_above : ByteArray := prog_11_method_13_code
def yX9_above : MethodName := ⟨RX9, "above", "(I)I"⟩
abbrev cX9_low : ByteArray := prog_11_method_14_code
def yX9_low : MethodName := ⟨RX9, "low", "(III)J"⟩
abbrev cX9_high : ByteArray := prog_11_method_15_code
def yX9_high : MethodName := ⟨RX9, "high", "(III)J"⟩
abbrev cX9_ahead : ByteArray := prog_11_method_16_code
def yX9_ahead : MethodName := ⟨RX9, "ahead", "(I)I"⟩
abbrev cX9_speedOf : ByteArray := prog_11_method_17_code
def yX9_speedOf : MethodName := ⟨RX9, "speedOf", "(II)J"⟩
abbrev cX9_about : ByteArray := prog_11_method_18_code
def yX9_about : MethodName := ⟨RX9, "about", "(II)I"⟩
abbrev cX9_speedOfAll : ByteArray := prog_11_method_19_code
def yX9_speedOfAll : MethodName := ⟨RX9, "speedOfAll", "(I)J"⟩
abbrev cX9_speed : ByteArray := prog_11_method_20_code
def yX9_speed : MethodName := ⟨RX9, "speed", "(I)I"⟩
abbrev cX9_next : ByteArray := prog_11_method_21_code
def yX9_next : MethodName := ⟨RX9, "next", "(I)Z"⟩
abbrev cX9_split : ByteArray := prog_11_method_22_code
def yX9_split : MethodName := ⟨RX9, "split", "(II)I"⟩
abbrev cX9_lots : ByteArray := prog_11_method_23_code
def yX9_lots : MethodName := ⟨RX9, "lots", "(I)I"⟩
abbrev cX9_puts : ByteArray := prog_11_method_24_code
def yX9_puts : MethodName := ⟨RX9, "puts", "(II)V"⟩
abbrev cX9_cheapest : ByteArray := prog_11_method_25_code
def yX9_cheapest : MethodName := ⟨RX9, "cheapest", "(II)I"⟩
abbrev cX9_chosen : ByteArray := prog_11_method_26_code
def yX9_chosen : MethodName := ⟨RX9, "chosen", "(II)I"⟩
abbrev cX9_air : ByteArray := prog_11_method_27_code
def yX9_air : MethodName := ⟨RX9, "air", "(II)I"⟩
abbrev cX9_limit : ByteArray := prog_11_method_28_code
def yX9_limit : MethodName := ⟨RX9, "limit", "(II)I"⟩
abbrev cX9_hasStuff : ByteArray := prog_11_method_29_code
def yX9_hasStuff : MethodName := ⟨RX9, "hasStuff", "()Z"⟩
abbrev cX9_finds : ByteArray := prog_11_method_30_code
def yX9_finds : MethodName := ⟨RX9, "finds", "()Z"⟩
abbrev cX9_massNow : ByteArray := prog_11_method_31_code
def yX9_massNow : MethodName := ⟨RX9, "massNow", "()I"⟩
abbrev cX9_ticksOnce : ByteArray := prog_11_method_32_code
def yX9_ticksOnce : MethodName := ⟨RX9, "ticksOnce", "()V"⟩
abbrev cX9_flies : ByteArray := prog_11_method_33_code
def yX9_flies : MethodName := ⟨RX9, "flies", "(I)I"⟩
abbrev cX9_fly : ByteArray := prog_11_method_34_code
def yX9_fly : MethodName := ⟨RX9, "fly", "()I"⟩
abbrev cX9_flown : ByteArray := prog_11_method_35_code
def yX9_flown : MethodName := ⟨RX9, "flown", "(I)I"⟩
abbrev cX9_out : ByteArray := prog_11_method_36_code
def yX9_out : MethodName := ⟨RX9, "out", "(I)I"⟩
abbrev cX9_safe : ByteArray := prog_11_method_37_code
def yX9_safe : MethodName := ⟨RX9, "safe", "()I"⟩
abbrev cX9_costOf : ByteArray := prog_11_method_38_code
def yX9_costOf : MethodName := ⟨RX9, "costOf", "(II)I"⟩
abbrev cX9_cost : ByteArray := prog_11_method_39_code
def yX9_cost : MethodName := ⟨RX9, "cost", "(II)I"⟩
abbrev cX9_costs : ByteArray := prog_11_method_40_code
def yX9_costs : MethodName := ⟨RX9, "costs", "()I"⟩
abbrev cX9_price : ByteArray := prog_11_method_41_code
def yX9_price : MethodName := ⟨RX9, "price", "()I"⟩
abbrev cX9_buy : ByteArray := prog_11_method_42_code
def yX9_buy : MethodName := ⟨RX9, "buy", "()I"⟩
abbrev cX9_keeping : ByteArray := prog_11_method_43_code
def yX9_keeping : MethodName := ⟨RX9, "keeping", "(II)I"⟩
abbrev cX9_even : ByteArray := prog_11_method_44_code
def yX9_even : MethodName := ⟨RX9, "even", "(III)I"⟩
abbrev cX9_flight : ByteArray := prog_11_method_45_code
def yX9_flight : MethodName := ⟨RX9, "flight", "(IIIII)I"⟩
abbrev cX9_deliver : ByteArray := prog_11_method_46_code
def yX9_deliver : MethodName := ⟨RX9, "deliver", "(III)I"⟩
abbrev cX9_canFly : ByteArray := prog_11_method_47_code
def yX9_canFly : MethodName := ⟨RX9, "canFly", "(I)Z"⟩
abbrev cX9_findYear : ByteArray := prog_11_method_48_code
def yX9_findYear : MethodName := ⟨RX9, "findYear", "()I"⟩
abbrev cX9_year : ByteArray := prog_11_method_49_code
def yX9_year : MethodName := ⟨RX9, "year", "()I"⟩
abbrev cX9_flights : ByteArray := prog_11_method_50_code
def yX9_flights : MethodName := ⟨RX9, "flights", "()I"⟩
abbrev cX9_count : ByteArray := prog_11_method_51_code
def yX9_count : MethodName := ⟨RX9, "count", "(I)I"⟩
def RL : String := "StageYardLaw"
abbrev cL_law : ByteArray := code
def yL_law : MethodName := ⟨RL, "law", "([I)Z"⟩
abbrev vwCl : List vw_C := [(RX0, TX0, 14), (RX1, TX1, 7), (RX2, TX2, 14), (RX3, TX3, 3), (RX4, TX4, 7), (RX5, TX5, 2), (RX6, TX6, 7), (RX7, TX7, 9), (RX8, TX8, 11), (RX9, TX9, 47)]
set_option maxRecDepth 100000 in
theorem inX0 : ∀ w ∈ u_ws RX0 TX0 14, w ∈ lw_tbl := by decide +kernel
set_option maxRecDepth 100000 in
theorem inX1 : ∀ w ∈ u_ws RX1 TX1 7, w ∈ lw_tbl := by decide +kernel
set_option maxRecDepth 100000 in
theorem inX2 : ∀ w ∈ u_ws RX2 TX2 14, w ∈ lw_tbl := by decide +kernel
set_option maxRecDepth 100000 in
theorem inX3 : ∀ w ∈ u_ws RX3 TX3 3, w ∈ lw_tbl := by decide +kernel
set_option maxRecDepth 100000 in
theorem inX4 : ∀ w ∈ u_ws RX4 TX4 7, w ∈ lw_tbl := by decide +kernel
set_option maxRecDepth 100000 in
theorem inX5 : ∀ w ∈ u_ws RX5 TX5 2, w ∈ lw_tbl := by decide +kernel
set_option maxRecDepth 100000 in
theorem inX6 : ∀ w ∈ u_ws RX6 TX6 7, w ∈ lw_tbl := by decide +kernel
set_option maxRecDepth 100000 in
theorem inX7 : ∀ w ∈ u_ws RX7 TX7 9, w ∈ lw_tbl := by decide +kernel
set_option maxRecDepth 100000 in
theorem inX8 : ∀ w ∈ u_ws RX8 TX8 11, w ∈ lw_tbl := by decide +kernel
set_option maxRecDepth 100000 in
theorem inX9 : ∀ w ∈ u_ws RX9 TX9 47, w ∈ lw_tbl := by decide +kernel
end
section
theorem dX0_init_0 : decode cX0_init 0 = .ok (.aload_n 0, 1) := by decide +kernel
theorem dX0_init_1 : decode cX0_init 1 = .ok (.invokespecial 5, 3) := by decide +kernel
theorem dX0_init_4 : decode cX0_init 4 = .ok (.aload_n 0, 1) := by decide +kernel
theorem dX0_init_5 : decode cX0_init 5 = .ok (.sipush 343, 3) := by decide +kernel
theorem dX0_init_8 : decode cX0_init 8 = .ok (.newarray .int, 2) := by decide +kernel
theorem dX0_init_10 : decode cX0_init 10 = .ok (.putfield 11, 3) := by decide +kernel
theorem dX0_init_13 : decode cX0_init 13 = .ok (.aload_n 0, 1) := by decide +kernel
theorem dX0_init_14 : decode cX0_init 14 = .ok (.sipush 343, 3) := by decide +kernel
theorem dX0_init_17 : decode cX0_init 17 = .ok (.newarray .int, 2) := by decide +kernel
theorem dX0_init_19 : decode cX0_init 19 = .ok (.putfield 15, 3) := by decide +kernel
theorem dX0_init_22 : decode cX0_init 22 = .ok (.aload_n 0, 1) := by decide +kernel
theorem dX0_init_23 : decode cX0_init 23 = .ok (.sipush 343, 3) := by decide +kernel
theorem dX0_init_26 : decode cX0_init 26 = .ok (.newarray .int, 2) := by decide +kernel
theorem dX0_init_28 : decode cX0_init 28 = .ok (.putfield 18, 3) := by decide +kernel
theorem dX0_init_31 : decode cX0_init 31 = .ok (.aload_n 0, 1) := by decide +kernel
theorem dX0_init_32 : decode cX0_init 32 = .ok (.sipush 343, 3) := by decide +kernel
theorem dX0_init_35 : decode cX0_init 35 = .ok (.newarray .int, 2) := by decide +kernel
theorem dX0_init_37 : decode cX0_init 37 = .ok (.putfield 21, 3) := by decide +kernel
theorem dX0_init_40 : decode cX0_init 40 = .ok (.aload_n 0, 1) := by decide +kernel
theorem dX0_init_41 : decode cX0_init 41 = .ok (.iconst 0, 1) := by decide +kernel
theorem dX0_init_42 : decode cX0_init 42 = .ok (.putfield 24, 3) := by decide +kernel
theorem dX0_init_45 : decode cX0_init 45 = .ok (.aload_n 0, 1) := by decide +kernel
theorem dX0_init_46 : decode cX0_init 46 = .ok (.iconst 0, 1) := by decide +kernel
theorem dX0_init_47 : decode cX0_init 47 = .ok (.putfield 28, 3) := by decide +kernel
theorem dX0_init_50 : decode cX0_init 50 = .ok (.aload_n 0, 1) := by decide +kernel
theorem dX0_init_51 : decode cX0_init 51 = .ok (.iconst 0, 1) := by decide +kernel
theorem dX0_init_52 : decode cX0_init 52 = .ok (.putfield 31, 3) := by decide +kernel
theorem dX0_init_55 : decode cX0_init 55 = .ok (.aload_n 0, 1) := by decide +kernel
theorem dX0_init_56 : decode cX0_init 56 = .ok (.ldc 34, 2) := by decide +kernel
theorem dX0_init_58 : decode cX0_init 58 = .ok (.putfield 35, 3) := by decide +kernel
theorem dX0_init_61 : decode cX0_init 61 = .ok (.aload_n 0, 1) := by decide +kernel
theorem dX0_init_62 : decode cX0_init 62 = .ok (.iconst 0, 1) := by decide +kernel
theorem dX0_init_63 : decode cX0_init 63 = .ok (.putfield 38, 3) := by decide +kernel
theorem dX0_init_66 : decode cX0_init 66 = .ok (.aload_n 0, 1) := by decide +kernel
theorem dX0_init_67 : decode cX0_init 67 = .ok (.iconst 0, 1) := by decide +kernel
theorem dX0_init_68 : decode cX0_init 68 = .ok (.putfield 41, 3) := by decide +kernel
theorem dX0_init_71 : decode cX0_init 71 = .ok (.aload_n 0, 1) := by decide +kernel
theorem dX0_init_72 : decode cX0_init 72 = .ok (.iconst 0, 1) := by decide +kernel
theorem dX0_init_73 : decode cX0_init 73 = .ok (.putfield 44, 3) := by decide +kernel
theorem dX0_init_76 : decode cX0_init 76 = .ok (.aload_n 0, 1) := by decide +kernel
theorem dX0_init_77 : decode cX0_init 77 = .ok (.aload_n 1, 1) := by decide +kernel
theorem dX0_init_78 : decode cX0_init 78 = .ok (.putfield 47, 3) := by decide +kernel
theorem dX0_init_81 : decode cX0_init 81 = .ok (.aload_n 0, 1) := by decide +kernel
theorem dX0_init_82 : decode cX0_init 82 = .ok (.aload_n 1, 1) := by decide +kernel
theorem dX0_init_83 : decode cX0_init 83 = .ok (.getfield 51, 3) := by decide +kernel
theorem dX0_init_86 : decode cX0_init 86 = .ok (.putfield 57, 3) := by decide +kernel
theorem dX0_init_89 : decode cX0_init 89 = .ok (.aload_n 0, 1) := by decide +kernel
theorem dX0_init_90 : decode cX0_init 90 = .ok (.aload_n 2, 1) := by decide +kernel
theorem dX0_init_91 : decode cX0_init 91 = .ok (.putfield 58, 3) := by decide +kernel
theorem dX0_init_94 : decode cX0_init 94 = .ok (.return_, 1) := by decide +kernel
theorem dX0_optionOf_0 : decode cX0_optionOf 0 = .ok (.iload_n 0, 1) := by decide +kernel
theorem dX0_optionOf_1 : decode cX0_optionOf 1 = .ok (.iconst 3, 1) := by decide +kernel
theorem dX0_optionOf_2 : decode cX0_optionOf 2 = .ok (.imul, 1) := by decide +kernel
theorem dX0_optionOf_3 : decode cX0_optionOf 3 = .ok (.iload_n 1, 1) := by decide +kernel
theorem dX0_optionOf_4 : decode cX0_optionOf 4 = .ok (.iadd, 1) := by decide +kernel
theorem dX0_optionOf_5 : decode cX0_optionOf 5 = .ok (.iconst 1, 1) := by decide +kernel
theorem dX0_optionOf_6 : decode cX0_optionOf 6 = .ok (.isub, 1) := by decide +kernel
theorem dX0_optionOf_7 : decode cX0_optionOf 7 = .ok (.ireturn, 1) := by decide +kernel
theorem dX0_engineIn_0 : decode cX0_engineIn 0 = .ok (.iload_n 0, 1) := by decide +kernel
theorem dX0_engineIn_1 : decode cX0_engineIn 1 = .ok (.iconst 3, 1) := by decide +kernel
theorem dX0_engineIn_2 : decode cX0_engineIn 2 = .ok (.idiv, 1) := by decide +kernel
theorem dX0_engineIn_3 : decode cX0_engineIn 3 = .ok (.ireturn, 1) := by decide +kernel
theorem dX0_manyIn_0 : decode cX0_manyIn 0 = .ok (.iload_n 0, 1) := by decide +kernel
theorem dX0_manyIn_1 : decode cX0_manyIn 1 = .ok (.iconst 3, 1) := by decide +kernel
theorem dX0_manyIn_2 : decode cX0_manyIn 2 = .ok (.irem, 1) := by decide +kernel
theorem dX0_manyIn_3 : decode cX0_manyIn 3 = .ok (.iconst 1, 1) := by decide +kernel
theorem dX0_manyIn_4 : decode cX0_manyIn 4 = .ok (.iadd, 1) := by decide +kernel
theorem dX0_manyIn_5 : decode cX0_manyIn 5 = .ok (.ireturn, 1) := by decide +kernel
theorem dX0_search_0 : decode cX0_search 0 = .ok (.aload_n 0, 1) := by decide +kernel
theorem dX0_search_1 : decode cX0_search 1 = .ok (.iload_n 1, 1) := by decide +kernel
theorem dX0_search_2 : decode cX0_search 2 = .ok (.putfield 28, 3) := by decide +kernel
theorem dX0_search_5 : decode cX0_search 5 = .ok (.aload_n 0, 1) := by decide +kernel
theorem dX0_search_6 : decode cX0_search 6 = .ok (.iload_n 2, 1) := by decide +kernel
theorem dX0_search_7 : decode cX0_search 7 = .ok (.putfield 31, 3) := by decide +kernel
theorem dX0_search_10 : decode cX0_search 10 = .ok (.aload_n 0, 1) := by decide +kernel
theorem dX0_search_11 : decode cX0_search 11 = .ok (.ldc 34, 2) := by decide +kernel
theorem dX0_search_13 : decode cX0_search 13 = .ok (.putfield 35, 3) := by decide +kernel
theorem dX0_search_16 : decode cX0_search 16 = .ok (.aload_n 0, 1) := by decide +kernel
theorem dX0_search_17 : decode cX0_search 17 = .ok (.iconst 0, 1) := by decide +kernel
theorem dX0_search_18 : decode cX0_search 18 = .ok (.putfield 24, 3) := by decide +kernel
theorem dX0_search_21 : decode cX0_search 21 = .ok (.aload_n 0, 1) := by decide +kernel
theorem dX0_search_22 : decode cX0_search 22 = .ok (.aload_n 0, 1) := by decide +kernel
theorem dX0_search_23 : decode cX0_search 23 = .ok (.getfield 47, 3) := by decide +kernel
theorem dX0_search_26 : decode cX0_search 26 = .ok (.invokevirtual 62, 3) := by decide +kernel
theorem dX0_search_29 : decode cX0_search 29 = .ok (.iconst 0, 1) := by decide +kernel
theorem dX0_search_30 : decode cX0_search 30 = .ok (.iconst 0, 1) := by decide +kernel
theorem dX0_search_31 : decode cX0_search 31 = .ok (.iconst 0, 1) := by decide +kernel
theorem dX0_search_32 : decode cX0_search 32 = .ok (.invokevirtual 66, 3) := by decide +kernel
theorem dX0_search_35 : decode cX0_search 35 = .ok (.iconst 0, 1) := by decide +kernel
theorem dX0_search_36 : decode cX0_search 36 = .ok (.istore_n 3, 1) := by decide +kernel
theorem dX0_search_37 : decode cX0_search 37 = .ok (.aload_n 0, 1) := by decide +kernel
theorem dX0_search_38 : decode cX0_search 38 = .ok (.getfield 47, 3) := by decide +kernel
theorem dX0_search_41 : decode cX0_search 41 = .ok (.getfield 70, 3) := by decide +kernel
theorem dX0_search_44 : decode cX0_search 44 = .ok (.iconst 1, 1) := by decide +kernel
theorem dX0_search_45 : decode cX0_search 45 = .ok (.isub, 1) := by decide +kernel
theorem dX0_search_46 : decode cX0_search 46 = .ok (.istore 4, 2) := by decide +kernel
theorem dX0_search_48 : decode cX0_search 48 = .ok (.iload 4, 2) := by decide +kernel
theorem dX0_search_50 : decode cX0_search 50 = .ok (.ifCond .lt 27, 3) := by decide +kernel
theorem dX0_search_53 : decode cX0_search 53 = .ok (.aload_n 0, 1) := by decide +kernel
theorem dX0_search_54 : decode cX0_search 54 = .ok (.getfield 24, 3) := by decide +kernel
theorem dX0_search_57 : decode cX0_search 57 = .ok (.istore 5, 2) := by decide +kernel
theorem dX0_search_59 : decode cX0_search 59 = .ok (.aload_n 0, 1) := by decide +kernel
theorem dX0_search_60 : decode cX0_search 60 = .ok (.iload 4, 2) := by decide +kernel
theorem dX0_search_62 : decode cX0_search 62 = .ok (.iload_n 3, 1) := by decide +kernel
theorem dX0_search_63 : decode cX0_search 63 = .ok (.iload 5, 2) := by decide +kernel
theorem dX0_search_65 : decode cX0_search 65 = .ok (.invokevirtual 73, 3) := by decide +kernel
theorem dX0_search_68 : decode cX0_search 68 = .ok (.iload 5, 2) := by decide +kernel
theorem dX0_search_70 : decode cX0_search 70 = .ok (.istore_n 3, 1) := by decide +kernel
theorem dX0_search_71 : decode cX0_search 71 = .ok (.iinc 4 (-1), 3) := by decide +kernel
theorem dX0_search_74 : decode cX0_search 74 = .ok (.goto (-26), 3) := by decide +kernel
theorem dX0_search_77 : decode cX0_search 77 = .ok (.aload_n 0, 1) := by decide +kernel
theorem dX0_search_78 : decode cX0_search 78 = .ok (.getfield 35, 3) := by decide +kernel
theorem dX0_search_81 : decode cX0_search 81 = .ok (.ldc 34, 2) := by decide +kernel
theorem dX0_search_83 : decode cX0_search 83 = .ok (.if_icmp .ne 6, 3) := by decide +kernel
theorem dX0_search_86 : decode cX0_search 86 = .ok (.bipush (-5), 2) := by decide +kernel
theorem dX0_search_88 : decode cX0_search 88 = .ok (.ireturn, 1) := by decide +kernel
theorem dX0_search_89 : decode cX0_search 89 = .ok (.aload_n 0, 1) := by decide +kernel
theorem dX0_search_90 : decode cX0_search 90 = .ok (.aload_n 0, 1) := by decide +kernel
theorem dX0_search_91 : decode cX0_search 91 = .ok (.getfield 38, 3) := by decide +kernel
theorem dX0_search_94 : decode cX0_search 94 = .ok (.putfield 41, 3) := by decide +kernel
theorem dX0_search_97 : decode cX0_search 97 = .ok (.aload_n 0, 1) := by decide +kernel
theorem dX0_search_98 : decode cX0_search 98 = .ok (.aload_n 0, 1) := by decide +kernel
theorem dX0_search_99 : decode cX0_search 99 = .ok (.getfield 47, 3) := by decide +kernel
theorem dX0_search_102 : decode cX0_search 102 = .ok (.getfield 70, 3) := by decide +kernel
theorem dX0_search_105 : decode cX0_search 105 = .ok (.putfield 44, 3) := by decide +kernel
theorem dX0_search_108 : decode cX0_search 108 = .ok (.aload_n 0, 1) := by decide +kernel
theorem dX0_search_109 : decode cX0_search 109 = .ok (.getfield 35, 3) := by decide +kernel
theorem dX0_search_112 : decode cX0_search 112 = .ok (.ireturn, 1) := by decide +kernel
theorem dX0_chooseFor_0 : decode cX0_chooseFor 0 = .ok (.aload_n 0, 1) := by decide +kernel
theorem dX0_chooseFor_1 : decode cX0_chooseFor 1 = .ok (.getfield 47, 3) := by decide +kernel
theorem dX0_chooseFor_4 : decode cX0_chooseFor 4 = .ok (.iload_n 1, 1) := by decide +kernel
theorem dX0_chooseFor_5 : decode cX0_chooseFor 5 = .ok (.invokevirtual 77, 3) := by decide +kernel
theorem dX0_chooseFor_8 : decode cX0_chooseFor 8 = .ok (.ifCond .eq 19, 3) := by decide +kernel
theorem dX0_chooseFor_11 : decode cX0_chooseFor 11 = .ok (.iload_n 2, 1) := by decide +kernel
theorem dX0_chooseFor_12 : decode cX0_chooseFor 12 = .ok (.ifCond .lt 15, 3) := by decide +kernel
theorem dX0_chooseFor_15 : decode cX0_chooseFor 15 = .ok (.iload_n 2, 1) := by decide +kernel
theorem dX0_chooseFor_16 : decode cX0_chooseFor 16 = .ok (.iload_n 3, 1) := by decide +kernel
theorem dX0_chooseFor_17 : decode cX0_chooseFor 17 = .ok (.if_icmp .ge 10, 3) := by decide +kernel
theorem dX0_chooseFor_20 : decode cX0_chooseFor 20 = .ok (.iload_n 3, 1) := by decide +kernel
theorem dX0_chooseFor_21 : decode cX0_chooseFor 21 = .ok (.sipush 343, 3) := by decide +kernel
theorem dX0_chooseFor_24 : decode cX0_chooseFor 24 = .ok (.if_icmp .le 4, 3) := by decide +kernel
theorem dX0_chooseFor_27 : decode cX0_chooseFor 27 = .ok (.return_, 1) := by decide +kernel
theorem dX0_chooseFor_28 : decode cX0_chooseFor 28 = .ok (.aload_n 0, 1) := by decide +kernel
theorem dX0_chooseFor_29 : decode cX0_chooseFor 29 = .ok (.getfield 47, 3) := by decide +kernel
theorem dX0_chooseFor_32 : decode cX0_chooseFor 32 = .ok (.getfield 81, 3) := by decide +kernel
theorem dX0_chooseFor_35 : decode cX0_chooseFor 35 = .ok (.iload_n 1, 1) := by decide +kernel
theorem dX0_chooseFor_36 : decode cX0_chooseFor 36 = .ok (.iaload, 1) := by decide +kernel
theorem dX0_chooseFor_37 : decode cX0_chooseFor 37 = .ok (.aload_n 0, 1) := by decide +kernel
theorem dX0_chooseFor_38 : decode cX0_chooseFor 38 = .ok (.getfield 47, 3) := by decide +kernel
theorem dX0_chooseFor_41 : decode cX0_chooseFor 41 = .ok (.aload_n 0, 1) := by decide +kernel
theorem dX0_chooseFor_42 : decode cX0_chooseFor 42 = .ok (.getfield 47, 3) := by decide +kernel
theorem dX0_chooseFor_45 : decode cX0_chooseFor 45 = .ok (.getfield 84, 3) := by decide +kernel
theorem dX0_chooseFor_48 : decode cX0_chooseFor 48 = .ok (.iload_n 1, 1) := by decide +kernel
theorem dX0_chooseFor_49 : decode cX0_chooseFor 49 = .ok (.iaload, 1) := by decide +kernel
theorem dX0_chooseFor_50 : decode cX0_chooseFor 50 = .ok (.invokevirtual 87, 3) := by decide +kernel
theorem dX0_chooseFor_53 : decode cX0_chooseFor 53 = .ok (.iadd, 1) := by decide +kernel
theorem dX0_chooseFor_54 : decode cX0_chooseFor 54 = .ok (.istore 4, 2) := by decide +kernel
theorem dX0_chooseFor_56 : decode cX0_chooseFor 56 = .ok (.aload_n 0, 1) := by decide +kernel
theorem dX0_chooseFor_57 : decode cX0_chooseFor 57 = .ok (.getfield 11, 3) := by decide +kernel
theorem dX0_chooseFor_60 : decode cX0_chooseFor 60 = .ok (.iload_n 2, 1) := by decide +kernel
theorem dX0_chooseFor_61 : decode cX0_chooseFor 61 = .ok (.iaload, 1) := by decide +kernel
theorem dX0_chooseFor_62 : decode cX0_chooseFor 62 = .ok (.istore 5, 2) := by decide +kernel
theorem dX0_chooseFor_64 : decode cX0_chooseFor 64 = .ok (.iload 5, 2) := by decide +kernel
theorem dX0_chooseFor_66 : decode cX0_chooseFor 66 = .ok (.istore 6, 2) := by decide +kernel
theorem dX0_chooseFor_68 : decode cX0_chooseFor 68 = .ok (.iload_n 2, 1) := by decide +kernel
theorem dX0_chooseFor_69 : decode cX0_chooseFor 69 = .ok (.istore 7, 2) := by decide +kernel
theorem dX0_chooseFor_71 : decode cX0_chooseFor 71 = .ok (.iload 7, 2) := by decide +kernel
theorem dX0_chooseFor_73 : decode cX0_chooseFor 73 = .ok (.iload_n 3, 1) := by decide +kernel
theorem dX0_chooseFor_74 : decode cX0_chooseFor 74 = .ok (.if_icmp .ge 37, 3) := by decide +kernel
theorem dX0_chooseFor_77 : decode cX0_chooseFor 77 = .ok (.iload 5, 2) := by decide +kernel
theorem dX0_chooseFor_79 : decode cX0_chooseFor 79 = .ok (.aload_n 0, 1) := by decide +kernel
theorem dX0_chooseFor_80 : decode cX0_chooseFor 80 = .ok (.getfield 11, 3) := by decide +kernel
theorem dX0_chooseFor_83 : decode cX0_chooseFor 83 = .ok (.iload 7, 2) := by decide +kernel
theorem dX0_chooseFor_85 : decode cX0_chooseFor 85 = .ok (.iaload, 1) := by decide +kernel
theorem dX0_chooseFor_86 : decode cX0_chooseFor 86 = .ok (.invokestatic 91, 3) := by decide +kernel
theorem dX0_chooseFor_89 : decode cX0_chooseFor 89 = .ok (.istore 5, 2) := by decide +kernel
theorem dX0_chooseFor_91 : decode cX0_chooseFor 91 = .ok (.iload 6, 2) := by decide +kernel
theorem dX0_chooseFor_93 : decode cX0_chooseFor 93 = .ok (.aload_n 0, 1) := by decide +kernel
theorem dX0_chooseFor_94 : decode cX0_chooseFor 94 = .ok (.getfield 11, 3) := by decide +kernel
theorem dX0_chooseFor_97 : decode cX0_chooseFor 97 = .ok (.iload 7, 2) := by decide +kernel
theorem dX0_chooseFor_99 : decode cX0_chooseFor 99 = .ok (.iaload, 1) := by decide +kernel
theorem dX0_chooseFor_100 : decode cX0_chooseFor 100 = .ok (.invokestatic 97, 3) := by decide +kernel
theorem dX0_chooseFor_103 : decode cX0_chooseFor 103 = .ok (.istore 6, 2) := by decide +kernel
theorem dX0_chooseFor_105 : decode cX0_chooseFor 105 = .ok (.iinc 7 1, 3) := by decide +kernel
theorem dX0_chooseFor_108 : decode cX0_chooseFor 108 = .ok (.goto (-37), 3) := by decide +kernel
theorem dX0_chooseFor_111 : decode cX0_chooseFor 111 = .ok (.iconst 0, 1) := by decide +kernel
theorem dX0_chooseFor_112 : decode cX0_chooseFor 112 = .ok (.istore 7, 2) := by decide +kernel
theorem dX0_chooseFor_114 : decode cX0_chooseFor 114 = .ok (.iload 7, 2) := by decide +kernel
theorem dX0_chooseFor_116 : decode cX0_chooseFor 116 = .ok (.aload_n 0, 1) := by decide +kernel
theorem dX0_chooseFor_117 : decode cX0_chooseFor 117 = .ok (.getfield 57, 3) := by decide +kernel
theorem dX0_chooseFor_120 : decode cX0_chooseFor 120 = .ok (.getfield 100, 3) := by decide +kernel
theorem dX0_chooseFor_123 : decode cX0_chooseFor 123 = .ok (.if_icmp .ge 97, 3) := by decide +kernel
theorem dX0_chooseFor_126 : decode cX0_chooseFor 126 = .ok (.iload 6, 2) := by decide +kernel
theorem dX0_chooseFor_128 : decode cX0_chooseFor 128 = .ok (.iload 4, 2) := by decide +kernel
theorem dX0_chooseFor_130 : decode cX0_chooseFor 130 = .ok (.iadd, 1) := by decide +kernel
theorem dX0_chooseFor_131 : decode cX0_chooseFor 131 = .ok (.iconst 3, 1) := by decide +kernel
theorem dX0_chooseFor_132 : decode cX0_chooseFor 132 = .ok (.aload_n 0, 1) := by decide +kernel
theorem dX0_chooseFor_133 : decode cX0_chooseFor 133 = .ok (.getfield 57, 3) := by decide +kernel
theorem dX0_chooseFor_136 : decode cX0_chooseFor 136 = .ok (.getfield 103, 3) := by decide +kernel
theorem dX0_chooseFor_139 : decode cX0_chooseFor 139 = .ok (.iload 7, 2) := by decide +kernel
theorem dX0_chooseFor_141 : decode cX0_chooseFor 141 = .ok (.iaload, 1) := by decide +kernel
theorem dX0_chooseFor_142 : decode cX0_chooseFor 142 = .ok (.imul, 1) := by decide +kernel
theorem dX0_chooseFor_143 : decode cX0_chooseFor 143 = .ok (.iadd, 1) := by decide +kernel
theorem dX0_chooseFor_144 : decode cX0_chooseFor 144 = .ok (.aload_n 0, 1) := by decide +kernel
theorem dX0_chooseFor_145 : decode cX0_chooseFor 145 = .ok (.getfield 47, 3) := by decide +kernel
theorem dX0_chooseFor_148 : decode cX0_chooseFor 148 = .ok (.getfield 84, 3) := by decide +kernel
theorem dX0_chooseFor_151 : decode cX0_chooseFor 151 = .ok (.iload_n 1, 1) := by decide +kernel
theorem dX0_chooseFor_152 : decode cX0_chooseFor 152 = .ok (.iaload, 1) := by decide +kernel
theorem dX0_chooseFor_153 : decode cX0_chooseFor 153 = .ok (.iadd, 1) := by decide +kernel
theorem dX0_chooseFor_154 : decode cX0_chooseFor 154 = .ok (.istore 8, 2) := by decide +kernel
theorem dX0_chooseFor_156 : decode cX0_chooseFor 156 = .ok (.aload_n 0, 1) := by decide +kernel
theorem dX0_chooseFor_157 : decode cX0_chooseFor 157 = .ok (.getfield 58, 3) := by decide +kernel
theorem dX0_chooseFor_160 : decode cX0_chooseFor 160 = .ok (.aload_n 0, 1) := by decide +kernel
theorem dX0_chooseFor_161 : decode cX0_chooseFor 161 = .ok (.getfield 57, 3) := by decide +kernel
theorem dX0_chooseFor_164 : decode cX0_chooseFor 164 = .ok (.getfield 106, 3) := by decide +kernel
theorem dX0_chooseFor_167 : decode cX0_chooseFor 167 = .ok (.iload 7, 2) := by decide +kernel
theorem dX0_chooseFor_169 : decode cX0_chooseFor 169 = .ok (.iaload, 1) := by decide +kernel
theorem dX0_chooseFor_170 : decode cX0_chooseFor 170 = .ok (.iload 5, 2) := by decide +kernel
theorem dX0_chooseFor_172 : decode cX0_chooseFor 172 = .ok (.iload 4, 2) := by decide +kernel
theorem dX0_chooseFor_174 : decode cX0_chooseFor 174 = .ok (.iadd, 1) := by decide +kernel
theorem dX0_chooseFor_175 : decode cX0_chooseFor 175 = .ok (.iload 8, 2) := by decide +kernel
theorem dX0_chooseFor_177 : decode cX0_chooseFor 177 = .ok (.invokevirtual 109, 3) := by decide +kernel
theorem dX0_chooseFor_180 : decode cX0_chooseFor 180 = .ok (.iload_n 2, 1) := by decide +kernel
theorem dX0_chooseFor_181 : decode cX0_chooseFor 181 = .ok (.istore 9, 2) := by decide +kernel
theorem dX0_chooseFor_183 : decode cX0_chooseFor 183 = .ok (.iload 9, 2) := by decide +kernel
theorem dX0_chooseFor_185 : decode cX0_chooseFor 185 = .ok (.iload_n 3, 1) := by decide +kernel
theorem dX0_chooseFor_186 : decode cX0_chooseFor 186 = .ok (.if_icmp .ge 28, 3) := by decide +kernel
theorem dX0_chooseFor_189 : decode cX0_chooseFor 189 = .ok (.aload_n 0, 1) := by decide +kernel
theorem dX0_chooseFor_190 : decode cX0_chooseFor 190 = .ok (.iload_n 1, 1) := by decide +kernel
theorem dX0_chooseFor_191 : decode cX0_chooseFor 191 = .ok (.iload 7, 2) := by decide +kernel
theorem dX0_chooseFor_193 : decode cX0_chooseFor 193 = .ok (.iload 9, 2) := by decide +kernel
theorem dX0_chooseFor_195 : decode cX0_chooseFor 195 = .ok (.aload_n 0, 1) := by decide +kernel
theorem dX0_chooseFor_196 : decode cX0_chooseFor 196 = .ok (.getfield 11, 3) := by decide +kernel
theorem dX0_chooseFor_199 : decode cX0_chooseFor 199 = .ok (.iload 9, 2) := by decide +kernel
theorem dX0_chooseFor_201 : decode cX0_chooseFor 201 = .ok (.iaload, 1) := by decide +kernel
theorem dX0_chooseFor_202 : decode cX0_chooseFor 202 = .ok (.iload 4, 2) := by decide +kernel
theorem dX0_chooseFor_204 : decode cX0_chooseFor 204 = .ok (.iadd, 1) := by decide +kernel
theorem dX0_chooseFor_205 : decode cX0_chooseFor 205 = .ok (.invokevirtual 114, 3) := by decide +kernel
theorem dX0_chooseFor_208 : decode cX0_chooseFor 208 = .ok (.iinc 9 1, 3) := by decide +kernel
theorem dX0_chooseFor_211 : decode cX0_chooseFor 211 = .ok (.goto (-28), 3) := by decide +kernel
theorem dX0_chooseFor_214 : decode cX0_chooseFor 214 = .ok (.iinc 7 1, 3) := by decide +kernel
theorem dX0_chooseFor_217 : decode cX0_chooseFor 217 = .ok (.goto (-103), 3) := by decide +kernel
theorem dX0_chooseFor_220 : decode cX0_chooseFor 220 = .ok (.return_, 1) := by decide +kernel
theorem dX0_chooseEngine_0 : decode cX0_chooseEngine 0 = .ok (.iconst 1, 1) := by decide +kernel
theorem dX0_chooseEngine_1 : decode cX0_chooseEngine 1 = .ok (.istore 5, 2) := by decide +kernel
theorem dX0_chooseEngine_3 : decode cX0_chooseEngine 3 = .ok (.iload 5, 2) := by decide +kernel
theorem dX0_chooseEngine_5 : decode cX0_chooseEngine 5 = .ok (.iconst 3, 1) := by decide +kernel
theorem dX0_chooseEngine_6 : decode cX0_chooseEngine 6 = .ok (.if_icmp .gt 154, 3) := by decide +kernel
theorem dX0_chooseEngine_9 : decode cX0_chooseEngine 9 = .ok (.aload_n 0, 1) := by decide +kernel
theorem dX0_chooseEngine_10 : decode cX0_chooseEngine 10 = .ok (.getfield 18, 3) := by decide +kernel
theorem dX0_chooseEngine_13 : decode cX0_chooseEngine 13 = .ok (.iload_n 3, 1) := by decide +kernel
theorem dX0_chooseEngine_14 : decode cX0_chooseEngine 14 = .ok (.iaload, 1) := by decide +kernel
theorem dX0_chooseEngine_15 : decode cX0_chooseEngine 15 = .ok (.iload 5, 2) := by decide +kernel
theorem dX0_chooseEngine_17 : decode cX0_chooseEngine 17 = .ok (.aload_n 0, 1) := by decide +kernel
theorem dX0_chooseEngine_18 : decode cX0_chooseEngine 18 = .ok (.getfield 57, 3) := by decide +kernel
theorem dX0_chooseEngine_21 : decode cX0_chooseEngine 21 = .ok (.getfield 117, 3) := by decide +kernel
theorem dX0_chooseEngine_24 : decode cX0_chooseEngine 24 = .ok (.iload_n 2, 1) := by decide +kernel
theorem dX0_chooseEngine_25 : decode cX0_chooseEngine 25 = .ok (.iaload, 1) := by decide +kernel
theorem dX0_chooseEngine_26 : decode cX0_chooseEngine 26 = .ok (.imul, 1) := by decide +kernel
theorem dX0_chooseEngine_27 : decode cX0_chooseEngine 27 = .ok (.iadd, 1) := by decide +kernel
theorem dX0_chooseEngine_28 : decode cX0_chooseEngine 28 = .ok (.istore 6, 2) := by decide +kernel
theorem dX0_chooseEngine_30 : decode cX0_chooseEngine 30 = .ok (.iload 6, 2) := by decide +kernel
theorem dX0_chooseEngine_32 : decode cX0_chooseEngine 32 = .ok (.aload_n 0, 1) := by decide +kernel
theorem dX0_chooseEngine_33 : decode cX0_chooseEngine 33 = .ok (.getfield 35, 3) := by decide +kernel
theorem dX0_chooseEngine_36 : decode cX0_chooseEngine 36 = .ok (.if_icmp .le 4, 3) := by decide +kernel
theorem dX0_chooseEngine_39 : decode cX0_chooseEngine 39 = .ok (.return_, 1) := by decide +kernel
theorem dX0_chooseEngine_40 : decode cX0_chooseEngine 40 = .ok (.iload 4, 2) := by decide +kernel
theorem dX0_chooseEngine_42 : decode cX0_chooseEngine 42 = .ok (.iload 5, 2) := by decide +kernel
theorem dX0_chooseEngine_44 : decode cX0_chooseEngine 44 = .ok (.aload_n 0, 1) := by decide +kernel
theorem dX0_chooseEngine_45 : decode cX0_chooseEngine 45 = .ok (.getfield 57, 3) := by decide +kernel
theorem dX0_chooseEngine_48 : decode cX0_chooseEngine 48 = .ok (.getfield 103, 3) := by decide +kernel
theorem dX0_chooseEngine_51 : decode cX0_chooseEngine 51 = .ok (.iload_n 2, 1) := by decide +kernel
theorem dX0_chooseEngine_52 : decode cX0_chooseEngine 52 = .ok (.iaload, 1) := by decide +kernel
theorem dX0_chooseEngine_53 : decode cX0_chooseEngine 53 = .ok (.imul, 1) := by decide +kernel
theorem dX0_chooseEngine_54 : decode cX0_chooseEngine 54 = .ok (.iadd, 1) := by decide +kernel
theorem dX0_chooseEngine_55 : decode cX0_chooseEngine 55 = .ok (.istore 7, 2) := by decide +kernel
theorem dX0_chooseEngine_57 : decode cX0_chooseEngine 57 = .ok (.iload 7, 2) := by decide +kernel
theorem dX0_chooseEngine_59 : decode cX0_chooseEngine 59 = .ok (.aload_n 0, 1) := by decide +kernel
theorem dX0_chooseEngine_60 : decode cX0_chooseEngine 60 = .ok (.getfield 47, 3) := by decide +kernel
theorem dX0_chooseEngine_63 : decode cX0_chooseEngine 63 = .ok (.getfield 84, 3) := by decide +kernel
theorem dX0_chooseEngine_66 : decode cX0_chooseEngine 66 = .ok (.iload_n 1, 1) := by decide +kernel
theorem dX0_chooseEngine_67 : decode cX0_chooseEngine 67 = .ok (.iaload, 1) := by decide +kernel
theorem dX0_chooseEngine_68 : decode cX0_chooseEngine 68 = .ok (.iadd, 1) := by decide +kernel
theorem dX0_chooseEngine_69 : decode cX0_chooseEngine 69 = .ok (.istore 8, 2) := by decide +kernel
theorem dX0_chooseEngine_71 : decode cX0_chooseEngine 71 = .ok (.aload_n 0, 1) := by decide +kernel
theorem dX0_chooseEngine_72 : decode cX0_chooseEngine 72 = .ok (.iload_n 2, 1) := by decide +kernel
theorem dX0_chooseEngine_73 : decode cX0_chooseEngine 73 = .ok (.iload 5, 2) := by decide +kernel
theorem dX0_chooseEngine_75 : decode cX0_chooseEngine 75 = .ok (.iload 8, 2) := by decide +kernel
theorem dX0_chooseEngine_77 : decode cX0_chooseEngine 77 = .ok (.invokevirtual 120, 3) := by decide +kernel
theorem dX0_chooseEngine_80 : decode cX0_chooseEngine 80 = .ok (.ifCond .ne 6, 3) := by decide +kernel
theorem dX0_chooseEngine_83 : decode cX0_chooseEngine 83 = .ok (.goto 71, 3) := by decide +kernel
theorem dX0_chooseEngine_86 : decode cX0_chooseEngine 86 = .ok (.aload_n 0, 1) := by decide +kernel
theorem dX0_chooseEngine_87 : decode cX0_chooseEngine 87 = .ok (.getfield 15, 3) := by decide +kernel
theorem dX0_chooseEngine_90 : decode cX0_chooseEngine 90 = .ok (.iload_n 3, 1) := by decide +kernel
theorem dX0_chooseEngine_91 : decode cX0_chooseEngine 91 = .ok (.iaload, 1) := by decide +kernel
theorem dX0_chooseEngine_92 : decode cX0_chooseEngine 92 = .ok (.aload_n 0, 1) := by decide +kernel
theorem dX0_chooseEngine_93 : decode cX0_chooseEngine 93 = .ok (.getfield 58, 3) := by decide +kernel
theorem dX0_chooseEngine_96 : decode cX0_chooseEngine 96 = .ok (.iload 7, 2) := by decide +kernel
theorem dX0_chooseEngine_98 : decode cX0_chooseEngine 98 = .ok (.iload 8, 2) := by decide +kernel
theorem dX0_chooseEngine_100 : decode cX0_chooseEngine 100 = .ok (.invokevirtual 124, 3) := by decide +kernel
theorem dX0_chooseEngine_103 : decode cX0_chooseEngine 103 = .ok (.iadd, 1) := by decide +kernel
theorem dX0_chooseEngine_104 : decode cX0_chooseEngine 104 = .ok (.istore 9, 2) := by decide +kernel
theorem dX0_chooseEngine_106 : decode cX0_chooseEngine 106 = .ok (.aload_n 0, 1) := by decide +kernel
theorem dX0_chooseEngine_107 : decode cX0_chooseEngine 107 = .ok (.getfield 21, 3) := by decide +kernel
theorem dX0_chooseEngine_110 : decode cX0_chooseEngine 110 = .ok (.iload_n 3, 1) := by decide +kernel
theorem dX0_chooseEngine_111 : decode cX0_chooseEngine 111 = .ok (.iaload, 1) := by decide +kernel
theorem dX0_chooseEngine_112 : decode cX0_chooseEngine 112 = .ok (.iload_n 1, 1) := by decide +kernel
theorem dX0_chooseEngine_113 : decode cX0_chooseEngine 113 = .ok (.iload_n 2, 1) := by decide +kernel
theorem dX0_chooseEngine_114 : decode cX0_chooseEngine 114 = .ok (.iload 5, 2) := by decide +kernel
theorem dX0_chooseEngine_116 : decode cX0_chooseEngine 116 = .ok (.invokestatic 127, 3) := by decide +kernel
theorem dX0_chooseEngine_119 : decode cX0_chooseEngine 119 = .ok (.invokestatic 130, 3) := by decide +kernel
theorem dX0_chooseEngine_122 : decode cX0_chooseEngine 122 = .ok (.iadd, 1) := by decide +kernel
theorem dX0_chooseEngine_123 : decode cX0_chooseEngine 123 = .ok (.istore 10, 2) := by decide +kernel
theorem dX0_chooseEngine_125 : decode cX0_chooseEngine 125 = .ok (.iload_n 1, 1) := by decide +kernel
theorem dX0_chooseEngine_126 : decode cX0_chooseEngine 126 = .ok (.ifCond .ne 16, 3) := by decide +kernel
theorem dX0_chooseEngine_129 : decode cX0_chooseEngine 129 = .ok (.aload_n 0, 1) := by decide +kernel
theorem dX0_chooseEngine_130 : decode cX0_chooseEngine 130 = .ok (.iload 9, 2) := by decide +kernel
theorem dX0_chooseEngine_132 : decode cX0_chooseEngine 132 = .ok (.iload 6, 2) := by decide +kernel
theorem dX0_chooseEngine_134 : decode cX0_chooseEngine 134 = .ok (.iload 10, 2) := by decide +kernel
theorem dX0_chooseEngine_136 : decode cX0_chooseEngine 136 = .ok (.invokevirtual 133, 3) := by decide +kernel
theorem dX0_chooseEngine_139 : decode cX0_chooseEngine 139 = .ok (.goto 15, 3) := by decide +kernel
theorem dX0_chooseEngine_142 : decode cX0_chooseEngine 142 = .ok (.aload_n 0, 1) := by decide +kernel
theorem dX0_chooseEngine_143 : decode cX0_chooseEngine 143 = .ok (.iload 8, 2) := by decide +kernel
theorem dX0_chooseEngine_145 : decode cX0_chooseEngine 145 = .ok (.iload 9, 2) := by decide +kernel
theorem dX0_chooseEngine_147 : decode cX0_chooseEngine 147 = .ok (.iload 6, 2) := by decide +kernel
theorem dX0_chooseEngine_149 : decode cX0_chooseEngine 149 = .ok (.iload 10, 2) := by decide +kernel
theorem dX0_chooseEngine_151 : decode cX0_chooseEngine 151 = .ok (.invokevirtual 66, 3) := by decide +kernel
theorem dX0_chooseEngine_154 : decode cX0_chooseEngine 154 = .ok (.iinc 5 1, 3) := by decide +kernel
theorem dX0_chooseEngine_157 : decode cX0_chooseEngine 157 = .ok (.goto (-154), 3) := by decide +kernel
theorem dX0_chooseEngine_160 : decode cX0_chooseEngine 160 = .ok (.return_, 1) := by decide +kernel
theorem dX0_lifts_0 : decode cX0_lifts 0 = .ok (.iload_n 3, 1) := by decide +kernel
theorem dX0_lifts_1 : decode cX0_lifts 1 = .ok (.ifCond .le 30, 3) := by decide +kernel
theorem dX0_lifts_4 : decode cX0_lifts 4 = .ok (.bipush 100, 2) := by decide +kernel
theorem dX0_lifts_6 : decode cX0_lifts 6 = .ok (.iload_n 2, 1) := by decide +kernel
theorem dX0_lifts_7 : decode cX0_lifts 7 = .ok (.imul, 1) := by decide +kernel
theorem dX0_lifts_8 : decode cX0_lifts 8 = .ok (.aload_n 0, 1) := by decide +kernel
theorem dX0_lifts_9 : decode cX0_lifts 9 = .ok (.getfield 57, 3) := by decide +kernel
theorem dX0_lifts_12 : decode cX0_lifts 12 = .ok (.getfield 136, 3) := by decide +kernel
theorem dX0_lifts_15 : decode cX0_lifts 15 = .ok (.iload_n 1, 1) := by decide +kernel
theorem dX0_lifts_16 : decode cX0_lifts 16 = .ok (.iaload, 1) := by decide +kernel
theorem dX0_lifts_17 : decode cX0_lifts 17 = .ok (.imul, 1) := by decide +kernel
theorem dX0_lifts_18 : decode cX0_lifts 18 = .ok (.iload_n 3, 1) := by decide +kernel
theorem dX0_lifts_19 : decode cX0_lifts 19 = .ok (.idiv, 1) := by decide +kernel
theorem dX0_lifts_20 : decode cX0_lifts 20 = .ok (.aload_n 0, 1) := by decide +kernel
theorem dX0_lifts_21 : decode cX0_lifts 21 = .ok (.getfield 31, 3) := by decide +kernel
theorem dX0_lifts_24 : decode cX0_lifts 24 = .ok (.if_icmp .lt 7, 3) := by decide +kernel
theorem dX0_lifts_27 : decode cX0_lifts 27 = .ok (.iconst 1, 1) := by decide +kernel
theorem dX0_lifts_28 : decode cX0_lifts 28 = .ok (.goto 4, 3) := by decide +kernel
theorem dX0_lifts_31 : decode cX0_lifts 31 = .ok (.iconst 0, 1) := by decide +kernel
theorem dX0_lifts_32 : decode cX0_lifts 32 = .ok (.ireturn, 1) := by decide +kernel
theorem dX0_keep_0 : decode cX0_keep 0 = .ok (.aload_n 0, 1) := by decide +kernel
theorem dX0_keep_1 : decode cX0_keep 1 = .ok (.getfield 24, 3) := by decide +kernel
theorem dX0_keep_4 : decode cX0_keep 4 = .ok (.sipush 343, 3) := by decide +kernel
theorem dX0_keep_7 : decode cX0_keep 7 = .ok (.if_icmp .lt 4, 3) := by decide +kernel
theorem dX0_keep_10 : decode cX0_keep 10 = .ok (.return_, 1) := by decide +kernel
theorem dX0_keep_11 : decode cX0_keep 11 = .ok (.aload_n 0, 1) := by decide +kernel
theorem dX0_keep_12 : decode cX0_keep 12 = .ok (.getfield 11, 3) := by decide +kernel
theorem dX0_keep_15 : decode cX0_keep 15 = .ok (.aload_n 0, 1) := by decide +kernel
theorem dX0_keep_16 : decode cX0_keep 16 = .ok (.getfield 24, 3) := by decide +kernel
theorem dX0_keep_19 : decode cX0_keep 19 = .ok (.iload_n 1, 1) := by decide +kernel
theorem dX0_keep_20 : decode cX0_keep 20 = .ok (.iastore, 1) := by decide +kernel
theorem dX0_keep_21 : decode cX0_keep 21 = .ok (.aload_n 0, 1) := by decide +kernel
theorem dX0_keep_22 : decode cX0_keep 22 = .ok (.getfield 15, 3) := by decide +kernel
theorem dX0_keep_25 : decode cX0_keep 25 = .ok (.aload_n 0, 1) := by decide +kernel
theorem dX0_keep_26 : decode cX0_keep 26 = .ok (.getfield 24, 3) := by decide +kernel
theorem dX0_keep_29 : decode cX0_keep 29 = .ok (.iload_n 2, 1) := by decide +kernel
theorem dX0_keep_30 : decode cX0_keep 30 = .ok (.iastore, 1) := by decide +kernel
theorem dX0_keep_31 : decode cX0_keep 31 = .ok (.aload_n 0, 1) := by decide +kernel
theorem dX0_keep_32 : decode cX0_keep 32 = .ok (.getfield 18, 3) := by decide +kernel
theorem dX0_keep_35 : decode cX0_keep 35 = .ok (.aload_n 0, 1) := by decide +kernel
theorem dX0_keep_36 : decode cX0_keep 36 = .ok (.getfield 24, 3) := by decide +kernel
theorem dX0_keep_39 : decode cX0_keep 39 = .ok (.iload_n 3, 1) := by decide +kernel
theorem dX0_keep_40 : decode cX0_keep 40 = .ok (.iastore, 1) := by decide +kernel
theorem dX0_keep_41 : decode cX0_keep 41 = .ok (.aload_n 0, 1) := by decide +kernel
theorem dX0_keep_42 : decode cX0_keep 42 = .ok (.getfield 21, 3) := by decide +kernel
theorem dX0_keep_45 : decode cX0_keep 45 = .ok (.aload_n 0, 1) := by decide +kernel
theorem dX0_keep_46 : decode cX0_keep 46 = .ok (.getfield 24, 3) := by decide +kernel
theorem dX0_keep_49 : decode cX0_keep 49 = .ok (.iload 4, 2) := by decide +kernel
theorem dX0_keep_51 : decode cX0_keep 51 = .ok (.iastore, 1) := by decide +kernel
theorem dX0_keep_52 : decode cX0_keep 52 = .ok (.aload_n 0, 1) := by decide +kernel
theorem dX0_keep_53 : decode cX0_keep 53 = .ok (.dup, 1) := by decide +kernel
theorem dX0_keep_54 : decode cX0_keep 54 = .ok (.getfield 24, 3) := by decide +kernel
theorem dX0_keep_57 : decode cX0_keep 57 = .ok (.iconst 1, 1) := by decide +kernel
theorem dX0_keep_58 : decode cX0_keep 58 = .ok (.iadd, 1) := by decide +kernel
theorem dX0_keep_59 : decode cX0_keep 59 = .ok (.putfield 24, 3) := by decide +kernel
theorem dX0_keep_62 : decode cX0_keep 62 = .ok (.return_, 1) := by decide +kernel
theorem dX0_offer_0 : decode cX0_offer 0 = .ok (.iload_n 1, 1) := by decide +kernel
theorem dX0_offer_1 : decode cX0_offer 1 = .ok (.aload_n 0, 1) := by decide +kernel
theorem dX0_offer_2 : decode cX0_offer 2 = .ok (.getfield 28, 3) := by decide +kernel
theorem dX0_offer_5 : decode cX0_offer 5 = .ok (.if_icmp .ge 4, 3) := by decide +kernel
theorem dX0_offer_8 : decode cX0_offer 8 = .ok (.return_, 1) := by decide +kernel
theorem dX0_offer_9 : decode cX0_offer 9 = .ok (.iload_n 2, 1) := by decide +kernel
theorem dX0_offer_10 : decode cX0_offer 10 = .ok (.aload_n 0, 1) := by decide +kernel
theorem dX0_offer_11 : decode cX0_offer 11 = .ok (.getfield 35, 3) := by decide +kernel
theorem dX0_offer_14 : decode cX0_offer 14 = .ok (.if_icmp .lt 19, 3) := by decide +kernel
theorem dX0_offer_17 : decode cX0_offer 17 = .ok (.iload_n 2, 1) := by decide +kernel
theorem dX0_offer_18 : decode cX0_offer 18 = .ok (.aload_n 0, 1) := by decide +kernel
theorem dX0_offer_19 : decode cX0_offer 19 = .ok (.getfield 35, 3) := by decide +kernel
theorem dX0_offer_22 : decode cX0_offer 22 = .ok (.if_icmp .ne 21, 3) := by decide +kernel
theorem dX0_offer_25 : decode cX0_offer 25 = .ok (.iload_n 3, 1) := by decide +kernel
theorem dX0_offer_26 : decode cX0_offer 26 = .ok (.aload_n 0, 1) := by decide +kernel
theorem dX0_offer_27 : decode cX0_offer 27 = .ok (.getfield 38, 3) := by decide +kernel
theorem dX0_offer_30 : decode cX0_offer 30 = .ok (.if_icmp .ge 13, 3) := by decide +kernel
theorem dX0_offer_33 : decode cX0_offer 33 = .ok (.aload_n 0, 1) := by decide +kernel
theorem dX0_offer_34 : decode cX0_offer 34 = .ok (.iload_n 2, 1) := by decide +kernel
theorem dX0_offer_35 : decode cX0_offer 35 = .ok (.putfield 35, 3) := by decide +kernel
theorem dX0_offer_38 : decode cX0_offer 38 = .ok (.aload_n 0, 1) := by decide +kernel
theorem dX0_offer_39 : decode cX0_offer 39 = .ok (.iload_n 3, 1) := by decide +kernel
theorem dX0_offer_40 : decode cX0_offer 40 = .ok (.putfield 38, 3) := by decide +kernel
theorem dX0_offer_43 : decode cX0_offer 43 = .ok (.return_, 1) := by decide +kernel
theorem dX1_init_0 : decode cX1_init 0 = .ok (.aload_n 0, 1) := by decide +kernel
theorem dX1_init_1 : decode cX1_init 1 = .ok (.invokespecial 3, 3) := by decide +kernel
theorem dX1_init_4 : decode cX1_init 4 = .ok (.aload_n 0, 1) := by decide +kernel
theorem dX1_init_5 : decode cX1_init 5 = .ok (.bipush 6, 2) := by decide +kernel
theorem dX1_init_7 : decode cX1_init 7 = .ok (.newarray .int, 2) := by decide +kernel
theorem dX1_init_9 : decode cX1_init 9 = .ok (.putfield 9, 3) := by decide +kernel
theorem dX1_init_12 : decode cX1_init 12 = .ok (.aload_n 0, 1) := by decide +kernel
theorem dX1_init_13 : decode cX1_init 13 = .ok (.bipush 6, 2) := by decide +kernel
theorem dX1_init_15 : decode cX1_init 15 = .ok (.newarray .int, 2) := by decide +kernel
theorem dX1_init_17 : decode cX1_init 17 = .ok (.putfield 15, 3) := by decide +kernel
theorem dX1_init_20 : decode cX1_init 20 = .ok (.aload_n 0, 1) := by decide +kernel
theorem dX1_init_21 : decode cX1_init 21 = .ok (.bipush 6, 2) := by decide +kernel
theorem dX1_init_23 : decode cX1_init 23 = .ok (.newarray .int, 2) := by decide +kernel
theorem dX1_init_25 : decode cX1_init 25 = .ok (.putfield 18, 3) := by decide +kernel
theorem dX1_init_28 : decode cX1_init 28 = .ok (.aload_n 0, 1) := by decide +kernel
theorem dX1_init_29 : decode cX1_init 29 = .ok (.bipush 6, 2) := by decide +kernel
theorem dX1_init_31 : decode cX1_init 31 = .ok (.newarray .int, 2) := by decide +kernel
theorem dX1_init_33 : decode cX1_init 33 = .ok (.putfield 21, 3) := by decide +kernel
theorem dX1_init_36 : decode cX1_init 36 = .ok (.aload_n 0, 1) := by decide +kernel
theorem dX1_init_37 : decode cX1_init 37 = .ok (.bipush 6, 2) := by decide +kernel
theorem dX1_init_39 : decode cX1_init 39 = .ok (.newarray .int, 2) := by decide +kernel
theorem dX1_init_41 : decode cX1_init 41 = .ok (.putfield 24, 3) := by decide +kernel
theorem dX1_init_44 : decode cX1_init 44 = .ok (.aload_n 0, 1) := by decide +kernel
theorem dX1_init_45 : decode cX1_init 45 = .ok (.bipush 6, 2) := by decide +kernel
theorem dX1_init_47 : decode cX1_init 47 = .ok (.newarray .int, 2) := by decide +kernel
theorem dX1_init_49 : decode cX1_init 49 = .ok (.putfield 27, 3) := by decide +kernel
theorem dX1_init_52 : decode cX1_init 52 = .ok (.aload_n 0, 1) := by decide +kernel
theorem dX1_init_53 : decode cX1_init 53 = .ok (.iconst 0, 1) := by decide +kernel
theorem dX1_init_54 : decode cX1_init 54 = .ok (.putfield 30, 3) := by decide +kernel
theorem dX1_init_57 : decode cX1_init 57 = .ok (.return_, 1) := by decide +kernel
theorem dX1_has_0 : decode cX1_has 0 = .ok (.iload_n 1, 1) := by decide +kernel
theorem dX1_has_1 : decode cX1_has 1 = .ok (.ifCond .lt 15, 3) := by decide +kernel
theorem dX1_has_4 : decode cX1_has 4 = .ok (.iload_n 1, 1) := by decide +kernel
theorem dX1_has_5 : decode cX1_has 5 = .ok (.aload_n 0, 1) := by decide +kernel
theorem dX1_has_6 : decode cX1_has 6 = .ok (.getfield 30, 3) := by decide +kernel
theorem dX1_has_9 : decode cX1_has 9 = .ok (.if_icmp .ge 7, 3) := by decide +kernel
theorem dX1_has_12 : decode cX1_has 12 = .ok (.iconst 1, 1) := by decide +kernel
theorem dX1_has_13 : decode cX1_has 13 = .ok (.goto 4, 3) := by decide +kernel
theorem dX1_has_16 : decode cX1_has 16 = .ok (.iconst 0, 1) := by decide +kernel
theorem dX1_has_17 : decode cX1_has 17 = .ok (.ireturn, 1) := by decide +kernel
theorem dX1_add_0 : decode cX1_add 0 = .ok (.aload_n 0, 1) := by decide +kernel
theorem dX1_add_1 : decode cX1_add 1 = .ok (.getfield 30, 3) := by decide +kernel
theorem dX1_add_4 : decode cX1_add 4 = .ok (.bipush 6, 2) := by decide +kernel
theorem dX1_add_6 : decode cX1_add 6 = .ok (.if_icmp .lt 6, 3) := by decide +kernel
theorem dX1_add_9 : decode cX1_add 9 = .ok (.bipush (-4), 2) := by decide +kernel
theorem dX1_add_11 : decode cX1_add 11 = .ok (.ireturn, 1) := by decide +kernel
theorem dX1_add_12 : decode cX1_add 12 = .ok (.aload_n 0, 1) := by decide +kernel
theorem dX1_add_13 : decode cX1_add 13 = .ok (.getfield 9, 3) := by decide +kernel
theorem dX1_add_16 : decode cX1_add 16 = .ok (.aload_n 0, 1) := by decide +kernel
theorem dX1_add_17 : decode cX1_add 17 = .ok (.getfield 30, 3) := by decide +kernel
theorem dX1_add_20 : decode cX1_add 20 = .ok (.iload_n 1, 1) := by decide +kernel
theorem dX1_add_21 : decode cX1_add 21 = .ok (.iastore, 1) := by decide +kernel
theorem dX1_add_22 : decode cX1_add 22 = .ok (.aload_n 0, 1) := by decide +kernel
theorem dX1_add_23 : decode cX1_add 23 = .ok (.getfield 15, 3) := by decide +kernel
theorem dX1_add_26 : decode cX1_add 26 = .ok (.aload_n 0, 1) := by decide +kernel
theorem dX1_add_27 : decode cX1_add 27 = .ok (.getfield 30, 3) := by decide +kernel
theorem dX1_add_30 : decode cX1_add 30 = .ok (.iload_n 2, 1) := by decide +kernel
theorem dX1_add_31 : decode cX1_add 31 = .ok (.iastore, 1) := by decide +kernel
theorem dX1_add_32 : decode cX1_add 32 = .ok (.aload_n 0, 1) := by decide +kernel
theorem dX1_add_33 : decode cX1_add 33 = .ok (.getfield 18, 3) := by decide +kernel
theorem dX1_add_36 : decode cX1_add 36 = .ok (.aload_n 0, 1) := by decide +kernel
theorem dX1_add_37 : decode cX1_add 37 = .ok (.getfield 30, 3) := by decide +kernel
theorem dX1_add_40 : decode cX1_add 40 = .ok (.iload_n 3, 1) := by decide +kernel
theorem dX1_add_41 : decode cX1_add 41 = .ok (.iastore, 1) := by decide +kernel
theorem dX1_add_42 : decode cX1_add 42 = .ok (.aload_n 0, 1) := by decide +kernel
theorem dX1_add_43 : decode cX1_add 43 = .ok (.getfield 21, 3) := by decide +kernel
theorem dX1_add_46 : decode cX1_add 46 = .ok (.aload_n 0, 1) := by decide +kernel
theorem dX1_add_47 : decode cX1_add 47 = .ok (.getfield 30, 3) := by decide +kernel
theorem dX1_add_50 : decode cX1_add 50 = .ok (.iload 4, 2) := by decide +kernel
theorem dX1_add_52 : decode cX1_add 52 = .ok (.iastore, 1) := by decide +kernel
theorem dX1_add_53 : decode cX1_add 53 = .ok (.aload_n 0, 1) := by decide +kernel
theorem dX1_add_54 : decode cX1_add 54 = .ok (.dup, 1) := by decide +kernel
theorem dX1_add_55 : decode cX1_add 55 = .ok (.getfield 30, 3) := by decide +kernel
theorem dX1_add_58 : decode cX1_add 58 = .ok (.iconst 1, 1) := by decide +kernel
theorem dX1_add_59 : decode cX1_add 59 = .ok (.iadd, 1) := by decide +kernel
theorem dX1_add_60 : decode cX1_add 60 = .ok (.putfield 30, 3) := by decide +kernel
theorem dX1_add_63 : decode cX1_add 63 = .ok (.aload_n 0, 1) := by decide +kernel
theorem dX1_add_64 : decode cX1_add 64 = .ok (.getfield 30, 3) := by decide +kernel
theorem dX1_add_67 : decode cX1_add 67 = .ok (.iconst 1, 1) := by decide +kernel
theorem dX1_add_68 : decode cX1_add 68 = .ok (.isub, 1) := by decide +kernel
theorem dX1_add_69 : decode cX1_add 69 = .ok (.ireturn, 1) := by decide +kernel
theorem dX1_costAt_0 : decode cX1_costAt 0 = .ok (.aload_n 0, 1) := by decide +kernel
theorem dX1_costAt_1 : decode cX1_costAt 1 = .ok (.iload_n 1, 1) := by decide +kernel
theorem dX1_costAt_2 : decode cX1_costAt 2 = .ok (.invokevirtual 34, 3) := by decide +kernel
theorem dX1_costAt_5 : decode cX1_costAt 5 = .ok (.ifCond .ne 5, 3) := by decide +kernel
theorem dX1_costAt_8 : decode cX1_costAt 8 = .ok (.iconst 0, 1) := by decide +kernel
theorem dX1_costAt_9 : decode cX1_costAt 9 = .ok (.ireturn, 1) := by decide +kernel
theorem dX1_costAt_10 : decode cX1_costAt 10 = .ok (.aload_n 0, 1) := by decide +kernel
theorem dX1_costAt_11 : decode cX1_costAt 11 = .ok (.getfield 21, 3) := by decide +kernel
theorem dX1_costAt_14 : decode cX1_costAt 14 = .ok (.iload_n 1, 1) := by decide +kernel
theorem dX1_costAt_15 : decode cX1_costAt 15 = .ok (.iaload, 1) := by decide +kernel
theorem dX1_costAt_16 : decode cX1_costAt 16 = .ok (.istore 4, 2) := by decide +kernel
theorem dX1_costAt_18 : decode cX1_costAt 18 = .ok (.iconst 0, 1) := by decide +kernel
theorem dX1_costAt_19 : decode cX1_costAt 19 = .ok (.istore 5, 2) := by decide +kernel
theorem dX1_costAt_21 : decode cX1_costAt 21 = .ok (.iload 5, 2) := by decide +kernel
theorem dX1_costAt_23 : decode cX1_costAt 23 = .ok (.iload_n 2, 1) := by decide +kernel
theorem dX1_costAt_24 : decode cX1_costAt 24 = .ok (.if_icmp .ge 23, 3) := by decide +kernel
theorem dX1_costAt_27 : decode cX1_costAt 27 = .ok (.iload 4, 2) := by decide +kernel
theorem dX1_costAt_29 : decode cX1_costAt 29 = .ok (.iconst 1, 1) := by decide +kernel
theorem dX1_costAt_30 : decode cX1_costAt 30 = .ok (.if_icmp .le 17, 3) := by decide +kernel
theorem dX1_costAt_33 : decode cX1_costAt 33 = .ok (.iload 4, 2) := by decide +kernel
theorem dX1_costAt_35 : decode cX1_costAt 35 = .ok (.iload_n 3, 1) := by decide +kernel
theorem dX1_costAt_36 : decode cX1_costAt 36 = .ok (.invokestatic 38, 3) := by decide +kernel
theorem dX1_costAt_39 : decode cX1_costAt 39 = .ok (.istore 4, 2) := by decide +kernel
theorem dX1_costAt_41 : decode cX1_costAt 41 = .ok (.iinc 5 1, 3) := by decide +kernel
theorem dX1_costAt_44 : decode cX1_costAt 44 = .ok (.goto (-23), 3) := by decide +kernel
theorem dX1_costAt_47 : decode cX1_costAt 47 = .ok (.iload 4, 2) := by decide +kernel
theorem dX1_costAt_49 : decode cX1_costAt 49 = .ok (.ireturn, 1) := by decide +kernel
theorem dX1_nextCost_0 : decode cX1_nextCost 0 = .ok (.iload_n 0, 1) := by decide +kernel
theorem dX1_nextCost_1 : decode cX1_nextCost 1 = .ok (.iload_n 1, 1) := by decide +kernel
theorem dX1_nextCost_2 : decode cX1_nextCost 2 = .ok (.imul, 1) := by decide +kernel
theorem dX1_nextCost_3 : decode cX1_nextCost 3 = .ok (.bipush 100, 2) := by decide +kernel
theorem dX1_nextCost_5 : decode cX1_nextCost 5 = .ok (.idiv, 1) := by decide +kernel
theorem dX1_nextCost_6 : decode cX1_nextCost 6 = .ok (.iconst 1, 1) := by decide +kernel
theorem dX1_nextCost_7 : decode cX1_nextCost 7 = .ok (.invokestatic 42, 3) := by decide +kernel
theorem dX1_nextCost_10 : decode cX1_nextCost 10 = .ok (.ireturn, 1) := by decide +kernel
theorem dX1_missing_0 : decode cX1_missing 0 = .ok (.aload_n 0, 1) := by decide +kernel
theorem dX1_missing_1 : decode cX1_missing 1 = .ok (.iload_n 1, 1) := by decide +kernel
theorem dX1_missing_2 : decode cX1_missing 2 = .ok (.invokevirtual 34, 3) := by decide +kernel
theorem dX1_missing_5 : decode cX1_missing 5 = .ok (.ifCond .eq 18, 3) := by decide +kernel
theorem dX1_missing_8 : decode cX1_missing 8 = .ok (.iload_n 2, 1) := by decide +kernel
theorem dX1_missing_9 : decode cX1_missing 9 = .ok (.aload_n 0, 1) := by decide +kernel
theorem dX1_missing_10 : decode cX1_missing 10 = .ok (.getfield 24, 3) := by decide +kernel
theorem dX1_missing_13 : decode cX1_missing 13 = .ok (.iload_n 1, 1) := by decide +kernel
theorem dX1_missing_14 : decode cX1_missing 14 = .ok (.iaload, 1) := by decide +kernel
theorem dX1_missing_15 : decode cX1_missing 15 = .ok (.isub, 1) := by decide +kernel
theorem dX1_missing_16 : decode cX1_missing 16 = .ok (.iconst 0, 1) := by decide +kernel
theorem dX1_missing_17 : decode cX1_missing 17 = .ok (.invokestatic 42, 3) := by decide +kernel
theorem dX1_missing_20 : decode cX1_missing 20 = .ok (.goto 4, 3) := by decide +kernel
theorem dX1_missing_23 : decode cX1_missing 23 = .ok (.iconst 0, 1) := by decide +kernel
theorem dX1_missing_24 : decode cX1_missing 24 = .ok (.ireturn, 1) := by decide +kernel
theorem dX1_costOfMissing_0 : decode cX1_costOfMissing 0 = .ok (.aload_n 0, 1) := by decide +kernel
theorem dX1_costOfMissing_1 : decode cX1_costOfMissing 1 = .ok (.iload_n 1, 1) := by decide +kernel
theorem dX1_costOfMissing_2 : decode cX1_costOfMissing 2 = .ok (.iload_n 2, 1) := by decide +kernel
theorem dX1_costOfMissing_3 : decode cX1_costOfMissing 3 = .ok (.invokevirtual 47, 3) := by decide +kernel
theorem dX1_costOfMissing_6 : decode cX1_costOfMissing 6 = .ok (.istore 4, 2) := by decide +kernel
theorem dX1_costOfMissing_8 : decode cX1_costOfMissing 8 = .ok (.iload 4, 2) := by decide +kernel
theorem dX1_costOfMissing_10 : decode cX1_costOfMissing 10 = .ok (.ifCond .ne 5, 3) := by decide +kernel
theorem dX1_costOfMissing_13 : decode cX1_costOfMissing 13 = .ok (.iconst 0, 1) := by decide +kernel
theorem dX1_costOfMissing_14 : decode cX1_costOfMissing 14 = .ok (.ireturn, 1) := by decide +kernel
theorem dX1_costOfMissing_15 : decode cX1_costOfMissing 15 = .ok (.aload_n 0, 1) := by decide +kernel
theorem dX1_costOfMissing_16 : decode cX1_costOfMissing 16 = .ok (.iload_n 1, 1) := by decide +kernel
theorem dX1_costOfMissing_17 : decode cX1_costOfMissing 17 = .ok (.aload_n 0, 1) := by decide +kernel
theorem dX1_costOfMissing_18 : decode cX1_costOfMissing 18 = .ok (.getfield 27, 3) := by decide +kernel
theorem dX1_costOfMissing_21 : decode cX1_costOfMissing 21 = .ok (.iload_n 1, 1) := by decide +kernel
theorem dX1_costOfMissing_22 : decode cX1_costOfMissing 22 = .ok (.iaload, 1) := by decide +kernel
theorem dX1_costOfMissing_23 : decode cX1_costOfMissing 23 = .ok (.iload_n 3, 1) := by decide +kernel
theorem dX1_costOfMissing_24 : decode cX1_costOfMissing 24 = .ok (.invokevirtual 50, 3) := by decide +kernel
theorem dX1_costOfMissing_27 : decode cX1_costOfMissing 27 = .ok (.istore 5, 2) := by decide +kernel
theorem dX1_costOfMissing_29 : decode cX1_costOfMissing 29 = .ok (.iconst 0, 1) := by decide +kernel
theorem dX1_costOfMissing_30 : decode cX1_costOfMissing 30 = .ok (.istore 6, 2) := by decide +kernel
theorem dX1_costOfMissing_32 : decode cX1_costOfMissing 32 = .ok (.iconst 0, 1) := by decide +kernel
theorem dX1_costOfMissing_33 : decode cX1_costOfMissing 33 = .ok (.istore 7, 2) := by decide +kernel
theorem dX1_costOfMissing_35 : decode cX1_costOfMissing 35 = .ok (.iload 7, 2) := by decide +kernel
theorem dX1_costOfMissing_37 : decode cX1_costOfMissing 37 = .ok (.iload 4, 2) := by decide +kernel
theorem dX1_costOfMissing_39 : decode cX1_costOfMissing 39 = .ok (.if_icmp .ge 24, 3) := by decide +kernel
theorem dX1_costOfMissing_42 : decode cX1_costOfMissing 42 = .ok (.iload 6, 2) := by decide +kernel
theorem dX1_costOfMissing_44 : decode cX1_costOfMissing 44 = .ok (.iload 5, 2) := by decide +kernel
theorem dX1_costOfMissing_46 : decode cX1_costOfMissing 46 = .ok (.iadd, 1) := by decide +kernel
theorem dX1_costOfMissing_47 : decode cX1_costOfMissing 47 = .ok (.istore 6, 2) := by decide +kernel
theorem dX1_costOfMissing_49 : decode cX1_costOfMissing 49 = .ok (.iload 5, 2) := by decide +kernel
theorem dX1_costOfMissing_51 : decode cX1_costOfMissing 51 = .ok (.iload_n 3, 1) := by decide +kernel
theorem dX1_costOfMissing_52 : decode cX1_costOfMissing 52 = .ok (.invokestatic 38, 3) := by decide +kernel
theorem dX1_costOfMissing_55 : decode cX1_costOfMissing 55 = .ok (.istore 5, 2) := by decide +kernel
theorem dX1_costOfMissing_57 : decode cX1_costOfMissing 57 = .ok (.iinc 7 1, 3) := by decide +kernel
theorem dX1_costOfMissing_60 : decode cX1_costOfMissing 60 = .ok (.goto (-25), 3) := by decide +kernel
theorem dX1_costOfMissing_63 : decode cX1_costOfMissing 63 = .ok (.iload 6, 2) := by decide +kernel
theorem dX1_costOfMissing_65 : decode cX1_costOfMissing 65 = .ok (.ireturn, 1) := by decide +kernel
theorem dX1_take_0 : decode cX1_take 0 = .ok (.aload_n 0, 1) := by decide +kernel
theorem dX1_take_1 : decode cX1_take 1 = .ok (.iload_n 1, 1) := by decide +kernel
theorem dX1_take_2 : decode cX1_take 2 = .ok (.invokevirtual 34, 3) := by decide +kernel
theorem dX1_take_5 : decode cX1_take 5 = .ok (.ifCond .ne 4, 3) := by decide +kernel
theorem dX1_take_8 : decode cX1_take 8 = .ok (.return_, 1) := by decide +kernel
theorem dX1_take_9 : decode cX1_take 9 = .ok (.aload_n 0, 1) := by decide +kernel
theorem dX1_take_10 : decode cX1_take 10 = .ok (.iload_n 1, 1) := by decide +kernel
theorem dX1_take_11 : decode cX1_take 11 = .ok (.iload_n 2, 1) := by decide +kernel
theorem dX1_take_12 : decode cX1_take 12 = .ok (.invokevirtual 47, 3) := by decide +kernel
theorem dX1_take_15 : decode cX1_take 15 = .ok (.istore_n 3, 1) := by decide +kernel
theorem dX1_take_16 : decode cX1_take 16 = .ok (.aload_n 0, 1) := by decide +kernel
theorem dX1_take_17 : decode cX1_take 17 = .ok (.getfield 24, 3) := by decide +kernel
theorem dX1_take_20 : decode cX1_take 20 = .ok (.iload_n 1, 1) := by decide +kernel
theorem dX1_take_21 : decode cX1_take 21 = .ok (.dup2, 1) := by decide +kernel
theorem dX1_take_22 : decode cX1_take 22 = .ok (.iaload, 1) := by decide +kernel
theorem dX1_take_23 : decode cX1_take 23 = .ok (.iload_n 2, 1) := by decide +kernel
theorem dX1_take_24 : decode cX1_take 24 = .ok (.iload_n 3, 1) := by decide +kernel
theorem dX1_take_25 : decode cX1_take 25 = .ok (.isub, 1) := by decide +kernel
theorem dX1_take_26 : decode cX1_take 26 = .ok (.isub, 1) := by decide +kernel
theorem dX1_take_27 : decode cX1_take 27 = .ok (.iastore, 1) := by decide +kernel
theorem dX1_take_28 : decode cX1_take 28 = .ok (.aload_n 0, 1) := by decide +kernel
theorem dX1_take_29 : decode cX1_take 29 = .ok (.getfield 27, 3) := by decide +kernel
theorem dX1_take_32 : decode cX1_take 32 = .ok (.iload_n 1, 1) := by decide +kernel
theorem dX1_take_33 : decode cX1_take 33 = .ok (.dup2, 1) := by decide +kernel
theorem dX1_take_34 : decode cX1_take 34 = .ok (.iaload, 1) := by decide +kernel
theorem dX1_take_35 : decode cX1_take 35 = .ok (.iload_n 3, 1) := by decide +kernel
theorem dX1_take_36 : decode cX1_take 36 = .ok (.iadd, 1) := by decide +kernel
theorem dX1_take_37 : decode cX1_take 37 = .ok (.iastore, 1) := by decide +kernel
theorem dX1_take_38 : decode cX1_take 38 = .ok (.return_, 1) := by decide +kernel
theorem dX2_init_0 : decode cX2_init 0 = .ok (.aload_n 0, 1) := by decide +kernel
theorem dX2_init_1 : decode cX2_init 1 = .ok (.invokespecial 3, 3) := by decide +kernel
theorem dX2_init_4 : decode cX2_init 4 = .ok (.aload_n 0, 1) := by decide +kernel
theorem dX2_init_5 : decode cX2_init 5 = .ok (.iconst 0, 1) := by decide +kernel
theorem dX2_init_6 : decode cX2_init 6 = .ok (.putfield 9, 3) := by decide +kernel
theorem dX2_init_9 : decode cX2_init 9 = .ok (.aload_n 0, 1) := by decide +kernel
theorem dX2_init_10 : decode cX2_init 10 = .ok (.iconst 0, 1) := by decide +kernel
theorem dX2_init_11 : decode cX2_init 11 = .ok (.putfield 15, 3) := by decide +kernel
theorem dX2_init_14 : decode cX2_init 14 = .ok (.aload_n 0, 1) := by decide +kernel
theorem dX2_init_15 : decode cX2_init 15 = .ok (.iconst 0, 1) := by decide +kernel
theorem dX2_init_16 : decode cX2_init 16 = .ok (.putfield 18, 3) := by decide +kernel
theorem dX2_init_19 : decode cX2_init 19 = .ok (.aload_n 0, 1) := by decide +kernel
theorem dX2_init_20 : decode cX2_init 20 = .ok (.iconst 0, 1) := by decide +kernel
theorem dX2_init_21 : decode cX2_init 21 = .ok (.putfield 21, 3) := by decide +kernel
theorem dX2_init_24 : decode cX2_init 24 = .ok (.aload_n 0, 1) := by decide +kernel
theorem dX2_init_25 : decode cX2_init 25 = .ok (.iconst 0, 1) := by decide +kernel
theorem dX2_init_26 : decode cX2_init 26 = .ok (.putfield 24, 3) := by decide +kernel
theorem dX2_init_29 : decode cX2_init 29 = .ok (.aload_n 0, 1) := by decide +kernel
theorem dX2_init_30 : decode cX2_init 30 = .ok (.iconst 0, 1) := by decide +kernel
theorem dX2_init_31 : decode cX2_init 31 = .ok (.putfield 27, 3) := by decide +kernel
theorem dX2_init_34 : decode cX2_init 34 = .ok (.aload_n 0, 1) := by decide +kernel
theorem dX2_init_35 : decode cX2_init 35 = .ok (.iconst 0, 1) := by decide +kernel
theorem dX2_init_36 : decode cX2_init 36 = .ok (.putfield 30, 3) := by decide +kernel
theorem dX2_init_39 : decode cX2_init 39 = .ok (.aload_n 0, 1) := by decide +kernel
theorem dX2_init_40 : decode cX2_init 40 = .ok (.iconst 0, 1) := by decide +kernel
theorem dX2_init_41 : decode cX2_init 41 = .ok (.putfield 33, 3) := by decide +kernel
theorem dX2_init_44 : decode cX2_init 44 = .ok (.aload_n 0, 1) := by decide +kernel
theorem dX2_init_45 : decode cX2_init 45 = .ok (.iconst 0, 1) := by decide +kernel
theorem dX2_init_46 : decode cX2_init 46 = .ok (.putfield 36, 3) := by decide +kernel
theorem dX2_init_49 : decode cX2_init 49 = .ok (.aload_n 0, 1) := by decide +kernel
theorem dX2_init_50 : decode cX2_init 50 = .ok (.iconst 0, 1) := by decide +kernel
theorem dX2_init_51 : decode cX2_init 51 = .ok (.putfield 39, 3) := by decide +kernel
theorem dX2_init_54 : decode cX2_init 54 = .ok (.aload_n 0, 1) := by decide +kernel
theorem dX2_init_55 : decode cX2_init 55 = .ok (.iconst 0, 1) := by decide +kernel
theorem dX2_init_56 : decode cX2_init 56 = .ok (.putfield 42, 3) := by decide +kernel
theorem dX2_init_59 : decode cX2_init 59 = .ok (.aload_n 0, 1) := by decide +kernel
theorem dX2_init_60 : decode cX2_init 60 = .ok (.iconst (-1), 1) := by decide +kernel
theorem dX2_init_61 : decode cX2_init 61 = .ok (.putfield 45, 3) := by decide +kernel
theorem dX2_init_64 : decode cX2_init 64 = .ok (.aload_n 0, 1) := by decide +kernel
theorem dX2_init_65 : decode cX2_init 65 = .ok (.aload_n 1, 1) := by decide +kernel
theorem dX2_init_66 : decode cX2_init 66 = .ok (.putfield 48, 3) := by decide +kernel
theorem dX2_init_69 : decode cX2_init 69 = .ok (.aload_n 0, 1) := by decide +kernel
theorem dX2_init_70 : decode cX2_init 70 = .ok (.aload_n 2, 1) := by decide +kernel
theorem dX2_init_71 : decode cX2_init 71 = .ok (.putfield 52, 3) := by decide +kernel
theorem dX2_init_74 : decode cX2_init 74 = .ok (.return_, 1) := by decide +kernel
theorem dX2_begin_0 : decode cX2_begin 0 = .ok (.aload_n 0, 1) := by decide +kernel
theorem dX2_begin_1 : decode cX2_begin 1 = .ok (.iconst 0, 1) := by decide +kernel
theorem dX2_begin_2 : decode cX2_begin 2 = .ok (.putfield 9, 3) := by decide +kernel
theorem dX2_begin_5 : decode cX2_begin 5 = .ok (.aload_n 0, 1) := by decide +kernel
theorem dX2_begin_6 : decode cX2_begin 6 = .ok (.aload_n 0, 1) := by decide +kernel
theorem dX2_begin_7 : decode cX2_begin 7 = .ok (.getfield 48, 3) := by decide +kernel
theorem dX2_begin_10 : decode cX2_begin 10 = .ok (.iconst 0, 1) := by decide +kernel
theorem dX2_begin_11 : decode cX2_begin 11 = .ok (.invokevirtual 56, 3) := by decide +kernel
theorem dX2_begin_14 : decode cX2_begin 14 = .ok (.putfield 24, 3) := by decide +kernel
theorem dX2_begin_17 : decode cX2_begin 17 = .ok (.aload_n 0, 1) := by decide +kernel
theorem dX2_begin_18 : decode cX2_begin 18 = .ok (.aload_n 0, 1) := by decide +kernel
theorem dX2_begin_19 : decode cX2_begin 19 = .ok (.getfield 48, 3) := by decide +kernel
theorem dX2_begin_22 : decode cX2_begin 22 = .ok (.invokevirtual 62, 3) := by decide +kernel
theorem dX2_begin_25 : decode cX2_begin 25 = .ok (.putfield 27, 3) := by decide +kernel
theorem dX2_begin_28 : decode cX2_begin 28 = .ok (.aload_n 0, 1) := by decide +kernel
theorem dX2_begin_29 : decode cX2_begin 29 = .ok (.iconst 0, 1) := by decide +kernel
theorem dX2_begin_30 : decode cX2_begin 30 = .ok (.putfield 30, 3) := by decide +kernel
theorem dX2_begin_33 : decode cX2_begin 33 = .ok (.aload_n 0, 1) := by decide +kernel
theorem dX2_begin_34 : decode cX2_begin 34 = .ok (.iconst 0, 1) := by decide +kernel
theorem dX2_begin_35 : decode cX2_begin 35 = .ok (.putfield 33, 3) := by decide +kernel
theorem dX2_begin_38 : decode cX2_begin 38 = .ok (.aload_n 0, 1) := by decide +kernel
theorem dX2_begin_39 : decode cX2_begin 39 = .ok (.iconst 0, 1) := by decide +kernel
theorem dX2_begin_40 : decode cX2_begin 40 = .ok (.putfield 36, 3) := by decide +kernel
theorem dX2_begin_43 : decode cX2_begin 43 = .ok (.aload_n 0, 1) := by decide +kernel
theorem dX2_begin_44 : decode cX2_begin 44 = .ok (.iconst 0, 1) := by decide +kernel
theorem dX2_begin_45 : decode cX2_begin 45 = .ok (.putfield 39, 3) := by decide +kernel
theorem dX2_begin_48 : decode cX2_begin 48 = .ok (.aload_n 0, 1) := by decide +kernel
theorem dX2_begin_49 : decode cX2_begin 49 = .ok (.iconst 0, 1) := by decide +kernel
theorem dX2_begin_50 : decode cX2_begin 50 = .ok (.putfield 42, 3) := by decide +kernel
theorem dX2_begin_53 : decode cX2_begin 53 = .ok (.aload_n 0, 1) := by decide +kernel
theorem dX2_begin_54 : decode cX2_begin 54 = .ok (.iconst (-1), 1) := by decide +kernel
theorem dX2_begin_55 : decode cX2_begin 55 = .ok (.putfield 45, 3) := by decide +kernel
theorem dX2_begin_58 : decode cX2_begin 58 = .ok (.aload_n 0, 1) := by decide +kernel
theorem dX2_begin_59 : decode cX2_begin 59 = .ok (.invokevirtual 66, 3) := by decide +kernel
theorem dX2_begin_62 : decode cX2_begin 62 = .ok (.return_, 1) := by decide +kernel
theorem dX2_copyOf_0 : decode cX2_copyOf 0 = .ok (.aload_n 0, 1) := by decide +kernel
theorem dX2_copyOf_1 : decode cX2_copyOf 1 = .ok (.aload_n 1, 1) := by decide +kernel
theorem dX2_copyOf_2 : decode cX2_copyOf 2 = .ok (.getfield 9, 3) := by decide +kernel
theorem dX2_copyOf_5 : decode cX2_copyOf 5 = .ok (.putfield 9, 3) := by decide +kernel
theorem dX2_copyOf_8 : decode cX2_copyOf 8 = .ok (.aload_n 0, 1) := by decide +kernel
theorem dX2_copyOf_9 : decode cX2_copyOf 9 = .ok (.aload_n 1, 1) := by decide +kernel
theorem dX2_copyOf_10 : decode cX2_copyOf 10 = .ok (.getfield 15, 3) := by decide +kernel
theorem dX2_copyOf_13 : decode cX2_copyOf 13 = .ok (.putfield 15, 3) := by decide +kernel
theorem dX2_copyOf_16 : decode cX2_copyOf 16 = .ok (.aload_n 0, 1) := by decide +kernel
theorem dX2_copyOf_17 : decode cX2_copyOf 17 = .ok (.aload_n 1, 1) := by decide +kernel
theorem dX2_copyOf_18 : decode cX2_copyOf 18 = .ok (.getfield 18, 3) := by decide +kernel
theorem dX2_copyOf_21 : decode cX2_copyOf 21 = .ok (.putfield 18, 3) := by decide +kernel
theorem dX2_copyOf_24 : decode cX2_copyOf 24 = .ok (.aload_n 0, 1) := by decide +kernel
theorem dX2_copyOf_25 : decode cX2_copyOf 25 = .ok (.aload_n 1, 1) := by decide +kernel
theorem dX2_copyOf_26 : decode cX2_copyOf 26 = .ok (.getfield 21, 3) := by decide +kernel
theorem dX2_copyOf_29 : decode cX2_copyOf 29 = .ok (.putfield 21, 3) := by decide +kernel
theorem dX2_copyOf_32 : decode cX2_copyOf 32 = .ok (.aload_n 0, 1) := by decide +kernel
theorem dX2_copyOf_33 : decode cX2_copyOf 33 = .ok (.aload_n 1, 1) := by decide +kernel
theorem dX2_copyOf_34 : decode cX2_copyOf 34 = .ok (.getfield 24, 3) := by decide +kernel
theorem dX2_copyOf_37 : decode cX2_copyOf 37 = .ok (.putfield 24, 3) := by decide +kernel
theorem dX2_copyOf_40 : decode cX2_copyOf 40 = .ok (.aload_n 0, 1) := by decide +kernel
theorem dX2_copyOf_41 : decode cX2_copyOf 41 = .ok (.aload_n 1, 1) := by decide +kernel
theorem dX2_copyOf_42 : decode cX2_copyOf 42 = .ok (.getfield 27, 3) := by decide +kernel
theorem dX2_copyOf_45 : decode cX2_copyOf 45 = .ok (.putfield 27, 3) := by decide +kernel
theorem dX2_copyOf_48 : decode cX2_copyOf 48 = .ok (.aload_n 0, 1) := by decide +kernel
theorem dX2_copyOf_49 : decode cX2_copyOf 49 = .ok (.aload_n 1, 1) := by decide +kernel
theorem dX2_copyOf_50 : decode cX2_copyOf 50 = .ok (.getfield 30, 3) := by decide +kernel
theorem dX2_copyOf_53 : decode cX2_copyOf 53 = .ok (.putfield 30, 3) := by decide +kernel
theorem dX2_copyOf_56 : decode cX2_copyOf 56 = .ok (.aload_n 0, 1) := by decide +kernel
theorem dX2_copyOf_57 : decode cX2_copyOf 57 = .ok (.aload_n 1, 1) := by decide +kernel
theorem dX2_copyOf_58 : decode cX2_copyOf 58 = .ok (.getfield 33, 3) := by decide +kernel
theorem dX2_copyOf_61 : decode cX2_copyOf 61 = .ok (.putfield 33, 3) := by decide +kernel
theorem dX2_copyOf_64 : decode cX2_copyOf 64 = .ok (.aload_n 0, 1) := by decide +kernel
theorem dX2_copyOf_65 : decode cX2_copyOf 65 = .ok (.aload_n 1, 1) := by decide +kernel
theorem dX2_copyOf_66 : decode cX2_copyOf 66 = .ok (.getfield 36, 3) := by decide +kernel
theorem dX2_copyOf_69 : decode cX2_copyOf 69 = .ok (.putfield 36, 3) := by decide +kernel
theorem dX2_copyOf_72 : decode cX2_copyOf 72 = .ok (.aload_n 0, 1) := by decide +kernel
theorem dX2_copyOf_73 : decode cX2_copyOf 73 = .ok (.aload_n 1, 1) := by decide +kernel
theorem dX2_copyOf_74 : decode cX2_copyOf 74 = .ok (.getfield 39, 3) := by decide +kernel
theorem dX2_copyOf_77 : decode cX2_copyOf 77 = .ok (.putfield 39, 3) := by decide +kernel
theorem dX2_copyOf_80 : decode cX2_copyOf 80 = .ok (.aload_n 0, 1) := by decide +kernel
theorem dX2_copyOf_81 : decode cX2_copyOf 81 = .ok (.aload_n 1, 1) := by decide +kernel
theorem dX2_copyOf_82 : decode cX2_copyOf 82 = .ok (.getfield 42, 3) := by decide +kernel
theorem dX2_copyOf_85 : decode cX2_copyOf 85 = .ok (.putfield 42, 3) := by decide +kernel
theorem dX2_copyOf_88 : decode cX2_copyOf 88 = .ok (.aload_n 0, 1) := by decide +kernel
theorem dX2_copyOf_89 : decode cX2_copyOf 89 = .ok (.aload_n 1, 1) := by decide +kernel
theorem dX2_copyOf_90 : decode cX2_copyOf 90 = .ok (.getfield 45, 3) := by decide +kernel
theorem dX2_copyOf_93 : decode cX2_copyOf 93 = .ok (.putfield 45, 3) := by decide +kernel
theorem dX2_copyOf_96 : decode cX2_copyOf 96 = .ok (.return_, 1) := by decide +kernel
theorem dX2_goesOn_0 : decode cX2_goesOn 0 = .ok (.aload_n 0, 1) := by decide +kernel
theorem dX2_goesOn_1 : decode cX2_goesOn 1 = .ok (.getfield 27, 3) := by decide +kernel
theorem dX2_goesOn_4 : decode cX2_goesOn 4 = .ok (.ifCond .le 17, 3) := by decide +kernel
theorem dX2_goesOn_7 : decode cX2_goesOn 7 = .ok (.aload_n 0, 1) := by decide +kernel
theorem dX2_goesOn_8 : decode cX2_goesOn 8 = .ok (.getfield 30, 3) := by decide +kernel
theorem dX2_goesOn_11 : decode cX2_goesOn 11 = .ok (.sipush 2000, 3) := by decide +kernel
theorem dX2_goesOn_14 : decode cX2_goesOn 14 = .ok (.if_icmp .ge 7, 3) := by decide +kernel
theorem dX2_goesOn_17 : decode cX2_goesOn 17 = .ok (.iconst 1, 1) := by decide +kernel
theorem dX2_goesOn_18 : decode cX2_goesOn 18 = .ok (.goto 4, 3) := by decide +kernel
theorem dX2_goesOn_21 : decode cX2_goesOn 21 = .ok (.iconst 0, 1) := by decide +kernel
theorem dX2_goesOn_22 : decode cX2_goesOn 22 = .ok (.ireturn, 1) := by decide +kernel
theorem dX2_readyLowest_0 : decode cX2_readyLowest 0 = .ok (.aload_n 0, 1) := by decide +kernel
theorem dX2_readyLowest_1 : decode cX2_readyLowest 1 = .ok (.getfield 48, 3) := by decide +kernel
theorem dX2_readyLowest_4 : decode cX2_readyLowest 4 = .ok (.aload_n 0, 1) := by decide +kernel
theorem dX2_readyLowest_5 : decode cX2_readyLowest 5 = .ok (.getfield 9, 3) := by decide +kernel
theorem dX2_readyLowest_8 : decode cX2_readyLowest 8 = .ok (.invokevirtual 69, 3) := by decide +kernel
theorem dX2_readyLowest_11 : decode cX2_readyLowest 11 = .ok (.istore_n 1, 1) := by decide +kernel
theorem dX2_readyLowest_12 : decode cX2_readyLowest 12 = .ok (.aload_n 0, 1) := by decide +kernel
theorem dX2_readyLowest_13 : decode cX2_readyLowest 13 = .ok (.iload_n 1, 1) := by decide +kernel
theorem dX2_readyLowest_14 : decode cX2_readyLowest 14 = .ok (.ifCond .eq 18, 3) := by decide +kernel
theorem dX2_readyLowest_17 : decode cX2_readyLowest 17 = .ok (.aload_n 0, 1) := by decide +kernel
theorem dX2_readyLowest_18 : decode cX2_readyLowest 18 = .ok (.getfield 48, 3) := by decide +kernel
theorem dX2_readyLowest_21 : decode cX2_readyLowest 21 = .ok (.getfield 73, 3) := by decide +kernel
theorem dX2_readyLowest_24 : decode cX2_readyLowest 24 = .ok (.aload_n 0, 1) := by decide +kernel
theorem dX2_readyLowest_25 : decode cX2_readyLowest 25 = .ok (.getfield 9, 3) := by decide +kernel
theorem dX2_readyLowest_28 : decode cX2_readyLowest 28 = .ok (.iaload, 1) := by decide +kernel
theorem dX2_readyLowest_29 : decode cX2_readyLowest 29 = .ok (.goto 4, 3) := by decide +kernel
theorem dX2_readyLowest_32 : decode cX2_readyLowest 32 = .ok (.iconst 0, 1) := by decide +kernel
theorem dX2_readyLowest_33 : decode cX2_readyLowest 33 = .ok (.putfield 15, 3) := by decide +kernel
theorem dX2_readyLowest_36 : decode cX2_readyLowest 36 = .ok (.aload_n 0, 1) := by decide +kernel
theorem dX2_readyLowest_37 : decode cX2_readyLowest 37 = .ok (.iload_n 1, 1) := by decide +kernel
theorem dX2_readyLowest_38 : decode cX2_readyLowest 38 = .ok (.ifCond .eq 18, 3) := by decide +kernel
theorem dX2_readyLowest_41 : decode cX2_readyLowest 41 = .ok (.aload_n 0, 1) := by decide +kernel
theorem dX2_readyLowest_42 : decode cX2_readyLowest 42 = .ok (.getfield 48, 3) := by decide +kernel
theorem dX2_readyLowest_45 : decode cX2_readyLowest 45 = .ok (.getfield 77, 3) := by decide +kernel
theorem dX2_readyLowest_48 : decode cX2_readyLowest 48 = .ok (.aload_n 0, 1) := by decide +kernel
theorem dX2_readyLowest_49 : decode cX2_readyLowest 49 = .ok (.getfield 9, 3) := by decide +kernel
theorem dX2_readyLowest_52 : decode cX2_readyLowest 52 = .ok (.iaload, 1) := by decide +kernel
theorem dX2_readyLowest_53 : decode cX2_readyLowest 53 = .ok (.goto 4, 3) := by decide +kernel
theorem dX2_readyLowest_56 : decode cX2_readyLowest 56 = .ok (.iconst 0, 1) := by decide +kernel
theorem dX2_readyLowest_57 : decode cX2_readyLowest 57 = .ok (.putfield 18, 3) := by decide +kernel
theorem dX2_readyLowest_60 : decode cX2_readyLowest 60 = .ok (.aload_n 0, 1) := by decide +kernel
theorem dX2_readyLowest_61 : decode cX2_readyLowest 61 = .ok (.iload_n 1, 1) := by decide +kernel
theorem dX2_readyLowest_62 : decode cX2_readyLowest 62 = .ok (.ifCond .eq 29, 3) := by decide +kernel
theorem dX2_readyLowest_65 : decode cX2_readyLowest 65 = .ok (.aload_n 0, 1) := by decide +kernel
theorem dX2_readyLowest_66 : decode cX2_readyLowest 66 = .ok (.getfield 48, 3) := by decide +kernel
theorem dX2_readyLowest_69 : decode cX2_readyLowest 69 = .ok (.getfield 80, 3) := by decide +kernel
theorem dX2_readyLowest_72 : decode cX2_readyLowest 72 = .ok (.getfield 84, 3) := by decide +kernel
theorem dX2_readyLowest_75 : decode cX2_readyLowest 75 = .ok (.aload_n 0, 1) := by decide +kernel
theorem dX2_readyLowest_76 : decode cX2_readyLowest 76 = .ok (.getfield 48, 3) := by decide +kernel
theorem dX2_readyLowest_79 : decode cX2_readyLowest 79 = .ok (.getfield 88, 3) := by decide +kernel
theorem dX2_readyLowest_82 : decode cX2_readyLowest 82 = .ok (.aload_n 0, 1) := by decide +kernel
theorem dX2_readyLowest_83 : decode cX2_readyLowest 83 = .ok (.getfield 9, 3) := by decide +kernel
theorem dX2_readyLowest_86 : decode cX2_readyLowest 86 = .ok (.iaload, 1) := by decide +kernel
theorem dX2_readyLowest_87 : decode cX2_readyLowest 87 = .ok (.iaload, 1) := by decide +kernel
theorem dX2_readyLowest_88 : decode cX2_readyLowest 88 = .ok (.goto 4, 3) := by decide +kernel
theorem dX2_readyLowest_91 : decode cX2_readyLowest 91 = .ok (.iconst 0, 1) := by decide +kernel
theorem dX2_readyLowest_92 : decode cX2_readyLowest 92 = .ok (.putfield 21, 3) := by decide +kernel
theorem dX2_readyLowest_95 : decode cX2_readyLowest 95 = .ok (.return_, 1) := by decide +kernel
theorem dX2_dropLowest_0 : decode cX2_dropLowest 0 = .ok (.aload_n 0, 1) := by decide +kernel
theorem dX2_dropLowest_1 : decode cX2_dropLowest 1 = .ok (.dup, 1) := by decide +kernel
theorem dX2_dropLowest_2 : decode cX2_dropLowest 2 = .ok (.getfield 24, 3) := by decide +kernel
theorem dX2_dropLowest_5 : decode cX2_dropLowest 5 = .ok (.aload_n 0, 1) := by decide +kernel
theorem dX2_dropLowest_6 : decode cX2_dropLowest 6 = .ok (.getfield 48, 3) := by decide +kernel
theorem dX2_dropLowest_9 : decode cX2_dropLowest 9 = .ok (.aload_n 0, 1) := by decide +kernel
theorem dX2_dropLowest_10 : decode cX2_dropLowest 10 = .ok (.getfield 9, 3) := by decide +kernel
theorem dX2_dropLowest_13 : decode cX2_dropLowest 13 = .ok (.invokevirtual 91, 3) := by decide +kernel
theorem dX2_dropLowest_16 : decode cX2_dropLowest 16 = .ok (.aload_n 0, 1) := by decide +kernel
theorem dX2_dropLowest_17 : decode cX2_dropLowest 17 = .ok (.getfield 15, 3) := by decide +kernel
theorem dX2_dropLowest_20 : decode cX2_dropLowest 20 = .ok (.iadd, 1) := by decide +kernel
theorem dX2_dropLowest_21 : decode cX2_dropLowest 21 = .ok (.isub, 1) := by decide +kernel
theorem dX2_dropLowest_22 : decode cX2_dropLowest 22 = .ok (.putfield 24, 3) := by decide +kernel
theorem dX2_dropLowest_25 : decode cX2_dropLowest 25 = .ok (.aload_n 0, 1) := by decide +kernel
theorem dX2_dropLowest_26 : decode cX2_dropLowest 26 = .ok (.dup, 1) := by decide +kernel
theorem dX2_dropLowest_27 : decode cX2_dropLowest 27 = .ok (.getfield 27, 3) := by decide +kernel
theorem dX2_dropLowest_30 : decode cX2_dropLowest 30 = .ok (.aload_n 0, 1) := by decide +kernel
theorem dX2_dropLowest_31 : decode cX2_dropLowest 31 = .ok (.getfield 15, 3) := by decide +kernel
theorem dX2_dropLowest_34 : decode cX2_dropLowest 34 = .ok (.isub, 1) := by decide +kernel
theorem dX2_dropLowest_35 : decode cX2_dropLowest 35 = .ok (.putfield 27, 3) := by decide +kernel
theorem dX2_dropLowest_38 : decode cX2_dropLowest 38 = .ok (.aload_n 0, 1) := by decide +kernel
theorem dX2_dropLowest_39 : decode cX2_dropLowest 39 = .ok (.dup, 1) := by decide +kernel
theorem dX2_dropLowest_40 : decode cX2_dropLowest 40 = .ok (.getfield 9, 3) := by decide +kernel
theorem dX2_dropLowest_43 : decode cX2_dropLowest 43 = .ok (.iconst 1, 1) := by decide +kernel
theorem dX2_dropLowest_44 : decode cX2_dropLowest 44 = .ok (.iadd, 1) := by decide +kernel
theorem dX2_dropLowest_45 : decode cX2_dropLowest 45 = .ok (.putfield 9, 3) := by decide +kernel
theorem dX2_dropLowest_48 : decode cX2_dropLowest 48 = .ok (.aload_n 0, 1) := by decide +kernel
theorem dX2_dropLowest_49 : decode cX2_dropLowest 49 = .ok (.invokevirtual 66, 3) := by decide +kernel
theorem dX2_dropLowest_52 : decode cX2_dropLowest 52 = .ok (.return_, 1) := by decide +kernel
theorem dX2_loseEngine_0 : decode cX2_loseEngine 0 = .ok (.aload_n 0, 1) := by decide +kernel
theorem dX2_loseEngine_1 : decode cX2_loseEngine 1 = .ok (.invokevirtual 94, 3) := by decide +kernel
theorem dX2_loseEngine_4 : decode cX2_loseEngine 4 = .ok (.ifCond .ne 4, 3) := by decide +kernel
theorem dX2_loseEngine_7 : decode cX2_loseEngine 7 = .ok (.return_, 1) := by decide +kernel
theorem dX2_loseEngine_8 : decode cX2_loseEngine 8 = .ok (.iconst 0, 1) := by decide +kernel
theorem dX2_loseEngine_9 : decode cX2_loseEngine 9 = .ok (.istore_n 1, 1) := by decide +kernel
theorem dX2_loseEngine_10 : decode cX2_loseEngine 10 = .ok (.iload_n 1, 1) := by decide +kernel
theorem dX2_loseEngine_11 : decode cX2_loseEngine 11 = .ok (.iconst 4, 1) := by decide +kernel
theorem dX2_loseEngine_12 : decode cX2_loseEngine 12 = .ok (.if_icmp .ge 20, 3) := by decide +kernel
theorem dX2_loseEngine_15 : decode cX2_loseEngine 15 = .ok (.aload_n 0, 1) := by decide +kernel
theorem dX2_loseEngine_16 : decode cX2_loseEngine 16 = .ok (.getfield 15, 3) := by decide +kernel
theorem dX2_loseEngine_19 : decode cX2_loseEngine 19 = .ok (.ifCond .ne 13, 3) := by decide +kernel
theorem dX2_loseEngine_22 : decode cX2_loseEngine 22 = .ok (.aload_n 0, 1) := by decide +kernel
theorem dX2_loseEngine_23 : decode cX2_loseEngine 23 = .ok (.invokevirtual 98, 3) := by decide +kernel
theorem dX2_loseEngine_26 : decode cX2_loseEngine 26 = .ok (.iinc 1 1, 3) := by decide +kernel
theorem dX2_loseEngine_29 : decode cX2_loseEngine 29 = .ok (.goto (-19), 3) := by decide +kernel
theorem dX2_loseEngine_32 : decode cX2_loseEngine 32 = .ok (.aload_n 0, 1) := by decide +kernel
theorem dX2_loseEngine_33 : decode cX2_loseEngine 33 = .ok (.dup, 1) := by decide +kernel
theorem dX2_loseEngine_34 : decode cX2_loseEngine 34 = .ok (.getfield 18, 3) := by decide +kernel
theorem dX2_loseEngine_37 : decode cX2_loseEngine 37 = .ok (.iconst 1, 1) := by decide +kernel
theorem dX2_loseEngine_38 : decode cX2_loseEngine 38 = .ok (.isub, 1) := by decide +kernel
theorem dX2_loseEngine_39 : decode cX2_loseEngine 39 = .ok (.putfield 18, 3) := by decide +kernel
theorem dX2_loseEngine_42 : decode cX2_loseEngine 42 = .ok (.aload_n 0, 1) := by decide +kernel
theorem dX2_loseEngine_43 : decode cX2_loseEngine 43 = .ok (.getfield 18, 3) := by decide +kernel
theorem dX2_loseEngine_46 : decode cX2_loseEngine 46 = .ok (.iconst 1, 1) := by decide +kernel
theorem dX2_loseEngine_47 : decode cX2_loseEngine 47 = .ok (.if_icmp .ge 7, 3) := by decide +kernel
theorem dX2_loseEngine_50 : decode cX2_loseEngine 50 = .ok (.aload_n 0, 1) := by decide +kernel
theorem dX2_loseEngine_51 : decode cX2_loseEngine 51 = .ok (.invokevirtual 98, 3) := by decide +kernel
theorem dX2_loseEngine_54 : decode cX2_loseEngine 54 = .ok (.return_, 1) := by decide +kernel
theorem dX2_goOn_0 : decode cX2_goOn 0 = .ok (.iconst 0, 1) := by decide +kernel
theorem dX2_goOn_1 : decode cX2_goOn 1 = .ok (.istore_n 3, 1) := by decide +kernel
theorem dX2_goOn_2 : decode cX2_goOn 2 = .ok (.iload_n 3, 1) := by decide +kernel
theorem dX2_goOn_3 : decode cX2_goOn 3 = .ok (.iconst 4, 1) := by decide +kernel
theorem dX2_goOn_4 : decode cX2_goOn 4 = .ok (.if_icmp .ge 54, 3) := by decide +kernel
theorem dX2_goOn_7 : decode cX2_goOn 7 = .ok (.aload_n 0, 1) := by decide +kernel
theorem dX2_goOn_8 : decode cX2_goOn 8 = .ok (.invokevirtual 94, 3) := by decide +kernel
theorem dX2_goOn_11 : decode cX2_goOn 11 = .ok (.ifCond .eq 47, 3) := by decide +kernel
theorem dX2_goOn_14 : decode cX2_goOn 14 = .ok (.aload_n 0, 1) := by decide +kernel
theorem dX2_goOn_15 : decode cX2_goOn 15 = .ok (.getfield 30, 3) := by decide +kernel
theorem dX2_goOn_18 : decode cX2_goOn 18 = .ok (.iload_n 1, 1) := by decide +kernel
theorem dX2_goOn_19 : decode cX2_goOn 19 = .ok (.if_icmp .ge 39, 3) := by decide +kernel
theorem dX2_goOn_22 : decode cX2_goOn 22 = .ok (.aload_n 0, 1) := by decide +kernel
theorem dX2_goOn_23 : decode cX2_goOn 23 = .ok (.iload_n 1, 1) := by decide +kernel
theorem dX2_goOn_24 : decode cX2_goOn 24 = .ok (.iload_n 2, 1) := by decide +kernel
theorem dX2_goOn_25 : decode cX2_goOn 25 = .ok (.invokevirtual 101, 3) := by decide +kernel
theorem dX2_goOn_28 : decode cX2_goOn 28 = .ok (.aload_n 0, 1) := by decide +kernel
theorem dX2_goOn_29 : decode cX2_goOn 29 = .ok (.getfield 15, 3) := by decide +kernel
theorem dX2_goOn_32 : decode cX2_goOn 32 = .ok (.ifCond .ne 7, 3) := by decide +kernel
theorem dX2_goOn_35 : decode cX2_goOn 35 = .ok (.aload_n 0, 1) := by decide +kernel
theorem dX2_goOn_36 : decode cX2_goOn 36 = .ok (.invokevirtual 98, 3) := by decide +kernel
theorem dX2_goOn_39 : decode cX2_goOn 39 = .ok (.iload_n 2, 1) := by decide +kernel
theorem dX2_goOn_40 : decode cX2_goOn 40 = .ok (.ifCond .eq 12, 3) := by decide +kernel
theorem dX2_goOn_43 : decode cX2_goOn 43 = .ok (.aload_n 0, 1) := by decide +kernel
theorem dX2_goOn_44 : decode cX2_goOn 44 = .ok (.getfield 45, 3) := by decide +kernel
theorem dX2_goOn_47 : decode cX2_goOn 47 = .ok (.iconst (-1), 1) := by decide +kernel
theorem dX2_goOn_48 : decode cX2_goOn 48 = .ok (.if_icmp .eq 4, 3) := by decide +kernel
theorem dX2_goOn_51 : decode cX2_goOn 51 = .ok (.return_, 1) := by decide +kernel
theorem dX2_goOn_52 : decode cX2_goOn 52 = .ok (.iinc 3 1, 3) := by decide +kernel
theorem dX2_goOn_55 : decode cX2_goOn 55 = .ok (.goto (-53), 3) := by decide +kernel
theorem dX2_goOn_58 : decode cX2_goOn 58 = .ok (.return_, 1) := by decide +kernel
theorem dX2_burnLowest_0 : decode cX2_burnLowest 0 = .ok (.aload_n 0, 1) := by decide +kernel
theorem dX2_burnLowest_1 : decode cX2_burnLowest 1 = .ok (.getfield 33, 3) := by decide +kernel
theorem dX2_burnLowest_4 : decode cX2_burnLowest 4 = .ok (.istore_n 3, 1) := by decide +kernel
theorem dX2_burnLowest_5 : decode cX2_burnLowest 5 = .ok (.aload_n 0, 1) := by decide +kernel
theorem dX2_burnLowest_6 : decode cX2_burnLowest 6 = .ok (.getfield 36, 3) := by decide +kernel
theorem dX2_burnLowest_9 : decode cX2_burnLowest 9 = .ok (.istore 4, 2) := by decide +kernel
theorem dX2_burnLowest_11 : decode cX2_burnLowest 11 = .ok (.aload_n 0, 1) := by decide +kernel
theorem dX2_burnLowest_12 : decode cX2_burnLowest 12 = .ok (.getfield 24, 3) := by decide +kernel
theorem dX2_burnLowest_15 : decode cX2_burnLowest 15 = .ok (.istore 5, 2) := by decide +kernel
theorem dX2_burnLowest_17 : decode cX2_burnLowest 17 = .ok (.aload_n 0, 1) := by decide +kernel
theorem dX2_burnLowest_18 : decode cX2_burnLowest 18 = .ok (.getfield 15, 3) := by decide +kernel
theorem dX2_burnLowest_21 : decode cX2_burnLowest 21 = .ok (.istore 6, 2) := by decide +kernel
theorem dX2_burnLowest_23 : decode cX2_burnLowest 23 = .ok (.aload_n 0, 1) := by decide +kernel
theorem dX2_burnLowest_24 : decode cX2_burnLowest 24 = .ok (.getfield 30, 3) := by decide +kernel
theorem dX2_burnLowest_27 : decode cX2_burnLowest 27 = .ok (.istore 7, 2) := by decide +kernel
theorem dX2_burnLowest_29 : decode cX2_burnLowest 29 = .ok (.iload 6, 2) := by decide +kernel
theorem dX2_burnLowest_31 : decode cX2_burnLowest 31 = .ok (.ifCond .le 173, 3) := by decide +kernel
theorem dX2_burnLowest_34 : decode cX2_burnLowest 34 = .ok (.iload 7, 2) := by decide +kernel
theorem dX2_burnLowest_36 : decode cX2_burnLowest 36 = .ok (.iload_n 1, 1) := by decide +kernel
theorem dX2_burnLowest_37 : decode cX2_burnLowest 37 = .ok (.if_icmp .ge 167, 3) := by decide +kernel
theorem dX2_burnLowest_40 : decode cX2_burnLowest 40 = .ok (.iload 7, 2) := by decide +kernel
theorem dX2_burnLowest_42 : decode cX2_burnLowest 42 = .ok (.sipush 2000, 3) := by decide +kernel
theorem dX2_burnLowest_45 : decode cX2_burnLowest 45 = .ok (.if_icmp .ge 159, 3) := by decide +kernel
theorem dX2_burnLowest_48 : decode cX2_burnLowest 48 = .ok (.iload 5, 2) := by decide +kernel
theorem dX2_burnLowest_50 : decode cX2_burnLowest 50 = .ok (.ifCond .le 154, 3) := by decide +kernel
theorem dX2_burnLowest_53 : decode cX2_burnLowest 53 = .ok (.aload_n 0, 1) := by decide +kernel
theorem dX2_burnLowest_54 : decode cX2_burnLowest 54 = .ok (.getfield 18, 3) := by decide +kernel
theorem dX2_burnLowest_57 : decode cX2_burnLowest 57 = .ok (.ifCond .le 147, 3) := by decide +kernel
theorem dX2_burnLowest_60 : decode cX2_burnLowest 60 = .ok (.iload 6, 2) := by decide +kernel
theorem dX2_burnLowest_62 : decode cX2_burnLowest 62 = .ok (.aload_n 0, 1) := by decide +kernel
theorem dX2_burnLowest_63 : decode cX2_burnLowest 63 = .ok (.getfield 18, 3) := by decide +kernel
theorem dX2_burnLowest_66 : decode cX2_burnLowest 66 = .ok (.invokestatic 105, 3) := by decide +kernel
theorem dX2_burnLowest_69 : decode cX2_burnLowest 69 = .ok (.istore 8, 2) := by decide +kernel
theorem dX2_burnLowest_71 : decode cX2_burnLowest 71 = .ok (.aload_n 0, 1) := by decide +kernel
theorem dX2_burnLowest_72 : decode cX2_burnLowest 72 = .ok (.getfield 52, 3) := by decide +kernel
theorem dX2_burnLowest_75 : decode cX2_burnLowest 75 = .ok (.iload 4, 2) := by decide +kernel
theorem dX2_burnLowest_77 : decode cX2_burnLowest 77 = .ok (.iload_n 3, 1) := by decide +kernel
theorem dX2_burnLowest_78 : decode cX2_burnLowest 78 = .ok (.invokevirtual 111, 3) := by decide +kernel
theorem dX2_burnLowest_81 : decode cX2_burnLowest 81 = .ok (.istore 9, 2) := by decide +kernel
theorem dX2_burnLowest_83 : decode cX2_burnLowest 83 = .ok (.iload 9, 2) := by decide +kernel
theorem dX2_burnLowest_85 : decode cX2_burnLowest 85 = .ok (.aload_n 0, 1) := by decide +kernel
theorem dX2_burnLowest_86 : decode cX2_burnLowest 86 = .ok (.getfield 39, 3) := by decide +kernel
theorem dX2_burnLowest_89 : decode cX2_burnLowest 89 = .ok (.if_icmp .le 11, 3) := by decide +kernel
theorem dX2_burnLowest_92 : decode cX2_burnLowest 92 = .ok (.aload_n 0, 1) := by decide +kernel
theorem dX2_burnLowest_93 : decode cX2_burnLowest 93 = .ok (.iload 9, 2) := by decide +kernel
theorem dX2_burnLowest_95 : decode cX2_burnLowest 95 = .ok (.iload 7, 2) := by decide +kernel
theorem dX2_burnLowest_97 : decode cX2_burnLowest 97 = .ok (.invokevirtual 116, 3) := by decide +kernel
theorem dX2_burnLowest_100 : decode cX2_burnLowest 100 = .ok (.bipush 100, 2) := by decide +kernel
theorem dX2_burnLowest_102 : decode cX2_burnLowest 102 = .ok (.aload_n 0, 1) := by decide +kernel
theorem dX2_burnLowest_103 : decode cX2_burnLowest 103 = .ok (.getfield 21, 3) := by decide +kernel
theorem dX2_burnLowest_106 : decode cX2_burnLowest 106 = .ok (.iload 8, 2) := by decide +kernel
theorem dX2_burnLowest_108 : decode cX2_burnLowest 108 = .ok (.imul, 1) := by decide +kernel
theorem dX2_burnLowest_109 : decode cX2_burnLowest 109 = .ok (.iload 5, 2) := by decide +kernel
theorem dX2_burnLowest_111 : decode cX2_burnLowest 111 = .ok (.isub, 1) := by decide +kernel
theorem dX2_burnLowest_112 : decode cX2_burnLowest 112 = .ok (.imul, 1) := by decide +kernel
theorem dX2_burnLowest_113 : decode cX2_burnLowest 113 = .ok (.istore 10, 2) := by decide +kernel
theorem dX2_burnLowest_115 : decode cX2_burnLowest 115 = .ok (.iload 4, 2) := by decide +kernel
theorem dX2_burnLowest_117 : decode cX2_burnLowest 117 = .ok (.iload 4, 2) := by decide +kernel
theorem dX2_burnLowest_119 : decode cX2_burnLowest 119 = .ok (.ifCond .ge 11, 3) := by decide +kernel
theorem dX2_burnLowest_122 : decode cX2_burnLowest 122 = .ok (.iload 10, 2) := by decide +kernel
theorem dX2_burnLowest_124 : decode cX2_burnLowest 124 = .ok (.iload 9, 2) := by decide +kernel
theorem dX2_burnLowest_126 : decode cX2_burnLowest 126 = .ok (.iadd, 1) := by decide +kernel
theorem dX2_burnLowest_127 : decode cX2_burnLowest 127 = .ok (.goto 8, 3) := by decide +kernel
theorem dX2_burnLowest_130 : decode cX2_burnLowest 130 = .ok (.iload 10, 2) := by decide +kernel
theorem dX2_burnLowest_132 : decode cX2_burnLowest 132 = .ok (.iload 9, 2) := by decide +kernel
theorem dX2_burnLowest_134 : decode cX2_burnLowest 134 = .ok (.isub, 1) := by decide +kernel
theorem dX2_burnLowest_135 : decode cX2_burnLowest 135 = .ok (.iload 5, 2) := by decide +kernel
theorem dX2_burnLowest_137 : decode cX2_burnLowest 137 = .ok (.idiv, 1) := by decide +kernel
theorem dX2_burnLowest_138 : decode cX2_burnLowest 138 = .ok (.iadd, 1) := by decide +kernel
theorem dX2_burnLowest_139 : decode cX2_burnLowest 139 = .ok (.istore 4, 2) := by decide +kernel
theorem dX2_burnLowest_141 : decode cX2_burnLowest 141 = .ok (.ldc 120, 2) := by decide +kernel
theorem dX2_burnLowest_143 : decode cX2_burnLowest 143 = .ok (.iload 4, 2) := by decide +kernel
theorem dX2_burnLowest_145 : decode cX2_burnLowest 145 = .ok (.ldc 121, 2) := by decide +kernel
theorem dX2_burnLowest_147 : decode cX2_burnLowest 147 = .ok (.invokestatic 105, 3) := by decide +kernel
theorem dX2_burnLowest_150 : decode cX2_burnLowest 150 = .ok (.invokestatic 122, 3) := by decide +kernel
theorem dX2_burnLowest_153 : decode cX2_burnLowest 153 = .ok (.istore 4, 2) := by decide +kernel
theorem dX2_burnLowest_155 : decode cX2_burnLowest 155 = .ok (.iload_n 3, 1) := by decide +kernel
theorem dX2_burnLowest_156 : decode cX2_burnLowest 156 = .ok (.iload 4, 2) := by decide +kernel
theorem dX2_burnLowest_158 : decode cX2_burnLowest 158 = .ok (.iadd, 1) := by decide +kernel
theorem dX2_burnLowest_159 : decode cX2_burnLowest 159 = .ok (.istore_n 3, 1) := by decide +kernel
theorem dX2_burnLowest_160 : decode cX2_burnLowest 160 = .ok (.iload_n 3, 1) := by decide +kernel
theorem dX2_burnLowest_161 : decode cX2_burnLowest 161 = .ok (.ifCond .ge 8, 3) := by decide +kernel
theorem dX2_burnLowest_164 : decode cX2_burnLowest 164 = .ok (.iconst 0, 1) := by decide +kernel
theorem dX2_burnLowest_165 : decode cX2_burnLowest 165 = .ok (.istore_n 3, 1) := by decide +kernel
theorem dX2_burnLowest_166 : decode cX2_burnLowest 166 = .ok (.iconst 0, 1) := by decide +kernel
theorem dX2_burnLowest_167 : decode cX2_burnLowest 167 = .ok (.istore 4, 2) := by decide +kernel
theorem dX2_burnLowest_169 : decode cX2_burnLowest 169 = .ok (.iload 6, 2) := by decide +kernel
theorem dX2_burnLowest_171 : decode cX2_burnLowest 171 = .ok (.iload 8, 2) := by decide +kernel
theorem dX2_burnLowest_173 : decode cX2_burnLowest 173 = .ok (.isub, 1) := by decide +kernel
theorem dX2_burnLowest_174 : decode cX2_burnLowest 174 = .ok (.istore 6, 2) := by decide +kernel
theorem dX2_burnLowest_176 : decode cX2_burnLowest 176 = .ok (.iload 5, 2) := by decide +kernel
theorem dX2_burnLowest_178 : decode cX2_burnLowest 178 = .ok (.iload 8, 2) := by decide +kernel
theorem dX2_burnLowest_180 : decode cX2_burnLowest 180 = .ok (.isub, 1) := by decide +kernel
theorem dX2_burnLowest_181 : decode cX2_burnLowest 181 = .ok (.istore 5, 2) := by decide +kernel
theorem dX2_burnLowest_183 : decode cX2_burnLowest 183 = .ok (.iinc 7 1, 3) := by decide +kernel
theorem dX2_burnLowest_186 : decode cX2_burnLowest 186 = .ok (.iload_n 2, 1) := by decide +kernel
theorem dX2_burnLowest_187 : decode cX2_burnLowest 187 = .ok (.ifCond .eq 14, 3) := by decide +kernel
theorem dX2_burnLowest_190 : decode cX2_burnLowest 190 = .ok (.aload_n 0, 1) := by decide +kernel
theorem dX2_burnLowest_191 : decode cX2_burnLowest 191 = .ok (.getfield 45, 3) := by decide +kernel
theorem dX2_burnLowest_194 : decode cX2_burnLowest 194 = .ok (.iconst (-1), 1) := by decide +kernel
theorem dX2_burnLowest_195 : decode cX2_burnLowest 195 = .ok (.if_icmp .eq 6, 3) := by decide +kernel
theorem dX2_burnLowest_198 : decode cX2_burnLowest 198 = .ok (.goto 6, 3) := by decide +kernel
theorem dX2_burnLowest_201 : decode cX2_burnLowest 201 = .ok (.goto (-172), 3) := by decide +kernel
theorem dX2_burnLowest_204 : decode cX2_burnLowest 204 = .ok (.aload_n 0, 1) := by decide +kernel
theorem dX2_burnLowest_205 : decode cX2_burnLowest 205 = .ok (.iload_n 3, 1) := by decide +kernel
theorem dX2_burnLowest_206 : decode cX2_burnLowest 206 = .ok (.putfield 33, 3) := by decide +kernel
theorem dX2_burnLowest_209 : decode cX2_burnLowest 209 = .ok (.aload_n 0, 1) := by decide +kernel
theorem dX2_burnLowest_210 : decode cX2_burnLowest 210 = .ok (.iload 4, 2) := by decide +kernel
theorem dX2_burnLowest_212 : decode cX2_burnLowest 212 = .ok (.putfield 36, 3) := by decide +kernel
theorem dX2_burnLowest_215 : decode cX2_burnLowest 215 = .ok (.aload_n 0, 1) := by decide +kernel
theorem dX2_burnLowest_216 : decode cX2_burnLowest 216 = .ok (.iload 5, 2) := by decide +kernel
theorem dX2_burnLowest_218 : decode cX2_burnLowest 218 = .ok (.putfield 24, 3) := by decide +kernel
theorem dX2_burnLowest_221 : decode cX2_burnLowest 221 = .ok (.aload_n 0, 1) := by decide +kernel
theorem dX2_burnLowest_222 : decode cX2_burnLowest 222 = .ok (.dup, 1) := by decide +kernel
theorem dX2_burnLowest_223 : decode cX2_burnLowest 223 = .ok (.getfield 27, 3) := by decide +kernel
theorem dX2_burnLowest_226 : decode cX2_burnLowest 226 = .ok (.aload_n 0, 1) := by decide +kernel
theorem dX2_burnLowest_227 : decode cX2_burnLowest 227 = .ok (.getfield 15, 3) := by decide +kernel
theorem dX2_burnLowest_230 : decode cX2_burnLowest 230 = .ok (.iload 6, 2) := by decide +kernel
theorem dX2_burnLowest_232 : decode cX2_burnLowest 232 = .ok (.isub, 1) := by decide +kernel
theorem dX2_burnLowest_233 : decode cX2_burnLowest 233 = .ok (.isub, 1) := by decide +kernel
theorem dX2_burnLowest_234 : decode cX2_burnLowest 234 = .ok (.putfield 27, 3) := by decide +kernel
theorem dX2_burnLowest_237 : decode cX2_burnLowest 237 = .ok (.aload_n 0, 1) := by decide +kernel
theorem dX2_burnLowest_238 : decode cX2_burnLowest 238 = .ok (.iload 6, 2) := by decide +kernel
theorem dX2_burnLowest_240 : decode cX2_burnLowest 240 = .ok (.putfield 15, 3) := by decide +kernel
theorem dX2_burnLowest_243 : decode cX2_burnLowest 243 = .ok (.aload_n 0, 1) := by decide +kernel
theorem dX2_burnLowest_244 : decode cX2_burnLowest 244 = .ok (.iload 7, 2) := by decide +kernel
theorem dX2_burnLowest_246 : decode cX2_burnLowest 246 = .ok (.putfield 30, 3) := by decide +kernel
theorem dX2_burnLowest_249 : decode cX2_burnLowest 249 = .ok (.return_, 1) := by decide +kernel
theorem dX2_noteLoading_0 : decode cX2_noteLoading 0 = .ok (.aload_n 0, 1) := by decide +kernel
theorem dX2_noteLoading_1 : decode cX2_noteLoading 1 = .ok (.iload_n 1, 1) := by decide +kernel
theorem dX2_noteLoading_2 : decode cX2_noteLoading 2 = .ok (.putfield 39, 3) := by decide +kernel
theorem dX2_noteLoading_5 : decode cX2_noteLoading 5 = .ok (.aload_n 0, 1) := by decide +kernel
theorem dX2_noteLoading_6 : decode cX2_noteLoading 6 = .ok (.iload_n 2, 1) := by decide +kernel
theorem dX2_noteLoading_7 : decode cX2_noteLoading 7 = .ok (.putfield 42, 3) := by decide +kernel
theorem dX2_noteLoading_10 : decode cX2_noteLoading 10 = .ok (.aload_n 0, 1) := by decide +kernel
theorem dX2_noteLoading_11 : decode cX2_noteLoading 11 = .ok (.getfield 45, 3) := by decide +kernel
theorem dX2_noteLoading_14 : decode cX2_noteLoading 14 = .ok (.iconst (-1), 1) := by decide +kernel
theorem dX2_noteLoading_15 : decode cX2_noteLoading 15 = .ok (.if_icmp .ne 21, 3) := by decide +kernel
theorem dX2_noteLoading_18 : decode cX2_noteLoading 18 = .ok (.iload_n 1, 1) := by decide +kernel
theorem dX2_noteLoading_19 : decode cX2_noteLoading 19 = .ok (.aload_n 0, 1) := by decide +kernel
theorem dX2_noteLoading_20 : decode cX2_noteLoading 20 = .ok (.getfield 52, 3) := by decide +kernel
theorem dX2_noteLoading_23 : decode cX2_noteLoading 23 = .ok (.getfield 125, 3) := by decide +kernel
theorem dX2_noteLoading_26 : decode cX2_noteLoading 26 = .ok (.iconst 0, 1) := by decide +kernel
theorem dX2_noteLoading_27 : decode cX2_noteLoading 27 = .ok (.iaload, 1) := by decide +kernel
theorem dX2_noteLoading_28 : decode cX2_noteLoading 28 = .ok (.if_icmp .le 8, 3) := by decide +kernel
theorem dX2_noteLoading_31 : decode cX2_noteLoading 31 = .ok (.aload_n 0, 1) := by decide +kernel
theorem dX2_noteLoading_32 : decode cX2_noteLoading 32 = .ok (.iload_n 2, 1) := by decide +kernel
theorem dX2_noteLoading_33 : decode cX2_noteLoading 33 = .ok (.putfield 45, 3) := by decide +kernel
theorem dX2_noteLoading_36 : decode cX2_noteLoading 36 = .ok (.return_, 1) := by decide +kernel
theorem dX2_breakNow_0 : decode cX2_breakNow 0 = .ok (.aload_n 0, 1) := by decide +kernel
theorem dX2_breakNow_1 : decode cX2_breakNow 1 = .ok (.getfield 45, 3) := by decide +kernel
theorem dX2_breakNow_4 : decode cX2_breakNow 4 = .ok (.iconst (-1), 1) := by decide +kernel
theorem dX2_breakNow_5 : decode cX2_breakNow 5 = .ok (.if_icmp .eq 5, 3) := by decide +kernel
theorem dX2_breakNow_8 : decode cX2_breakNow 8 = .ok (.iconst 1, 1) := by decide +kernel
theorem dX2_breakNow_9 : decode cX2_breakNow 9 = .ok (.ireturn, 1) := by decide +kernel
theorem dX2_breakNow_10 : decode cX2_breakNow 10 = .ok (.aload_n 0, 1) := by decide +kernel
theorem dX2_breakNow_11 : decode cX2_breakNow 11 = .ok (.getfield 33, 3) := by decide +kernel
theorem dX2_breakNow_14 : decode cX2_breakNow 14 = .ok (.aload_n 0, 1) := by decide +kernel
theorem dX2_breakNow_15 : decode cX2_breakNow 15 = .ok (.getfield 52, 3) := by decide +kernel
theorem dX2_breakNow_18 : decode cX2_breakNow 18 = .ok (.getfield 125, 3) := by decide +kernel
theorem dX2_breakNow_21 : decode cX2_breakNow 21 = .ok (.iconst 1, 1) := by decide +kernel
theorem dX2_breakNow_22 : decode cX2_breakNow 22 = .ok (.iaload, 1) := by decide +kernel
theorem dX2_breakNow_23 : decode cX2_breakNow 23 = .ok (.if_icmp .ge 5, 3) := by decide +kernel
theorem dX2_breakNow_26 : decode cX2_breakNow 26 = .ok (.iconst 2, 1) := by decide +kernel
theorem dX2_breakNow_27 : decode cX2_breakNow 27 = .ok (.ireturn, 1) := by decide +kernel
theorem dX2_breakNow_28 : decode cX2_breakNow 28 = .ok (.aload_n 0, 1) := by decide +kernel
theorem dX2_breakNow_29 : decode cX2_breakNow 29 = .ok (.getfield 36, 3) := by decide +kernel
theorem dX2_breakNow_32 : decode cX2_breakNow 32 = .ok (.aload_n 0, 1) := by decide +kernel
theorem dX2_breakNow_33 : decode cX2_breakNow 33 = .ok (.getfield 52, 3) := by decide +kernel
theorem dX2_breakNow_36 : decode cX2_breakNow 36 = .ok (.getfield 125, 3) := by decide +kernel
theorem dX2_breakNow_39 : decode cX2_breakNow 39 = .ok (.iconst 2, 1) := by decide +kernel
theorem dX2_breakNow_40 : decode cX2_breakNow 40 = .ok (.iaload, 1) := by decide +kernel
theorem dX2_breakNow_41 : decode cX2_breakNow 41 = .ok (.if_icmp .ge 7, 3) := by decide +kernel
theorem dX2_breakNow_44 : decode cX2_breakNow 44 = .ok (.iconst 3, 1) := by decide +kernel
theorem dX2_breakNow_45 : decode cX2_breakNow 45 = .ok (.goto 4, 3) := by decide +kernel
theorem dX2_breakNow_48 : decode cX2_breakNow 48 = .ok (.iconst 0, 1) := by decide +kernel
theorem dX2_breakNow_49 : decode cX2_breakNow 49 = .ok (.ireturn, 1) := by decide +kernel
theorem dX3_init_0 : decode cX3_init 0 = .ok (.aload_n 0, 1) := by decide +kernel
theorem dX3_init_1 : decode cX3_init 1 = .ok (.invokespecial 3, 3) := by decide +kernel
theorem dX3_init_4 : decode cX3_init 4 = .ok (.aload_n 0, 1) := by decide +kernel
theorem dX3_init_5 : decode cX3_init 5 = .ok (.sipush 1492, 3) := by decide +kernel
theorem dX3_init_8 : decode cX3_init 8 = .ok (.newarray .int, 2) := by decide +kernel
theorem dX3_init_10 : decode cX3_init 10 = .ok (.putfield 11, 3) := by decide +kernel
theorem dX3_init_13 : decode cX3_init 13 = .ok (.aload_n 0, 1) := by decide +kernel
theorem dX3_init_14 : decode cX3_init 14 = .ok (.iconst 0, 1) := by decide +kernel
theorem dX3_init_15 : decode cX3_init 15 = .ok (.putfield 15, 3) := by decide +kernel
theorem dX3_init_18 : decode cX3_init 18 = .ok (.aload_n 0, 1) := by decide +kernel
theorem dX3_init_19 : decode cX3_init 19 = .ok (.iconst 0, 1) := by decide +kernel
theorem dX3_init_20 : decode cX3_init 20 = .ok (.putfield 19, 3) := by decide +kernel
theorem dX3_init_23 : decode cX3_init 23 = .ok (.return_, 1) := by decide +kernel
theorem dX3_ready_0 : decode cX3_ready 0 = .ok (.aload_n 0, 1) := by decide +kernel
theorem dX3_ready_1 : decode cX3_ready 1 = .ok (.iload_n 2, 1) := by decide +kernel
theorem dX3_ready_2 : decode cX3_ready 2 = .ok (.iconst 0, 1) := by decide +kernel
theorem dX3_ready_3 : decode cX3_ready 3 = .ok (.invokestatic 22, 3) := by decide +kernel
theorem dX3_ready_6 : decode cX3_ready 6 = .ok (.putfield 15, 3) := by decide +kernel
theorem dX3_ready_9 : decode cX3_ready 9 = .ok (.aload_n 0, 1) := by decide +kernel
theorem dX3_ready_10 : decode cX3_ready 10 = .ok (.iload_n 3, 1) := by decide +kernel
theorem dX3_ready_11 : decode cX3_ready 11 = .ok (.aload_n 0, 1) := by decide +kernel
theorem dX3_ready_12 : decode cX3_ready 12 = .ok (.getfield 15, 3) := by decide +kernel
theorem dX3_ready_15 : decode cX3_ready 15 = .ok (.sipush 1491, 3) := by decide +kernel
theorem dX3_ready_18 : decode cX3_ready 18 = .ok (.iadd, 1) := by decide +kernel
theorem dX3_ready_19 : decode cX3_ready 19 = .ok (.invokestatic 28, 3) := by decide +kernel
theorem dX3_ready_22 : decode cX3_ready 22 = .ok (.putfield 19, 3) := by decide +kernel
theorem dX3_ready_25 : decode cX3_ready 25 = .ok (.sipush 1000, 3) := by decide +kernel
theorem dX3_ready_28 : decode cX3_ready 28 = .ok (.iload_n 1, 1) := by decide +kernel
theorem dX3_ready_29 : decode cX3_ready 29 = .ok (.imul, 1) := by decide +kernel
theorem dX3_ready_30 : decode cX3_ready 30 = .ok (.istore 4, 2) := by decide +kernel
theorem dX3_ready_32 : decode cX3_ready 32 = .ok (.iconst 0, 1) := by decide +kernel
theorem dX3_ready_33 : decode cX3_ready 33 = .ok (.istore 5, 2) := by decide +kernel
theorem dX3_ready_35 : decode cX3_ready 35 = .ok (.aload_n 0, 1) := by decide +kernel
theorem dX3_ready_36 : decode cX3_ready 36 = .ok (.getfield 15, 3) := by decide +kernel
theorem dX3_ready_39 : decode cX3_ready 39 = .ok (.iconst 1, 1) := by decide +kernel
theorem dX3_ready_40 : decode cX3_ready 40 = .ok (.iadd, 1) := by decide +kernel
theorem dX3_ready_41 : decode cX3_ready 41 = .ok (.istore 6, 2) := by decide +kernel
theorem dX3_ready_43 : decode cX3_ready 43 = .ok (.iload 6, 2) := by decide +kernel
theorem dX3_ready_45 : decode cX3_ready 45 = .ok (.aload_n 0, 1) := by decide +kernel
end
section
theorem dX3_ready_46 : decode cX3_ready 46 = .ok (.getfield 19, 3) := by decide +kernel
theorem dX3_ready_49 : decode cX3_ready 49 = .ok (.if_icmp .gt 33, 3) := by decide +kernel
theorem dX3_ready_52 : decode cX3_ready 52 = .ok (.iload 5, 2) := by decide +kernel
theorem dX3_ready_54 : decode cX3_ready 54 = .ok (.iload 4, 2) := by decide +kernel
theorem dX3_ready_56 : decode cX3_ready 56 = .ok (.iload 6, 2) := by decide +kernel
theorem dX3_ready_58 : decode cX3_ready 58 = .ok (.idiv, 1) := by decide +kernel
theorem dX3_ready_59 : decode cX3_ready 59 = .ok (.iadd, 1) := by decide +kernel
theorem dX3_ready_60 : decode cX3_ready 60 = .ok (.istore 5, 2) := by decide +kernel
theorem dX3_ready_62 : decode cX3_ready 62 = .ok (.aload_n 0, 1) := by decide +kernel
theorem dX3_ready_63 : decode cX3_ready 63 = .ok (.getfield 11, 3) := by decide +kernel
theorem dX3_ready_66 : decode cX3_ready 66 = .ok (.iload 6, 2) := by decide +kernel
theorem dX3_ready_68 : decode cX3_ready 68 = .ok (.aload_n 0, 1) := by decide +kernel
theorem dX3_ready_69 : decode cX3_ready 69 = .ok (.getfield 15, 3) := by decide +kernel
theorem dX3_ready_72 : decode cX3_ready 72 = .ok (.isub, 1) := by decide +kernel
theorem dX3_ready_73 : decode cX3_ready 73 = .ok (.iload 5, 2) := by decide +kernel
theorem dX3_ready_75 : decode cX3_ready 75 = .ok (.iastore, 1) := by decide +kernel
theorem dX3_ready_76 : decode cX3_ready 76 = .ok (.iinc 6 1, 3) := by decide +kernel
theorem dX3_ready_79 : decode cX3_ready 79 = .ok (.goto (-36), 3) := by decide +kernel
theorem dX3_ready_82 : decode cX3_ready 82 = .ok (.return_, 1) := by decide +kernel
theorem dX3_between_0 : decode cX3_between 0 = .ok (.iload_n 1, 1) := by decide +kernel
theorem dX3_between_1 : decode cX3_between 1 = .ok (.aload_n 0, 1) := by decide +kernel
theorem dX3_between_2 : decode cX3_between 2 = .ok (.getfield 15, 3) := by decide +kernel
theorem dX3_between_5 : decode cX3_between 5 = .ok (.if_icmp .lt 16, 3) := by decide +kernel
theorem dX3_between_8 : decode cX3_between 8 = .ok (.iload_n 2, 1) := by decide +kernel
theorem dX3_between_9 : decode cX3_between 9 = .ok (.iload_n 1, 1) := by decide +kernel
theorem dX3_between_10 : decode cX3_between 10 = .ok (.if_icmp .lt 11, 3) := by decide +kernel
theorem dX3_between_13 : decode cX3_between 13 = .ok (.iload_n 2, 1) := by decide +kernel
theorem dX3_between_14 : decode cX3_between 14 = .ok (.aload_n 0, 1) := by decide +kernel
theorem dX3_between_15 : decode cX3_between 15 = .ok (.getfield 19, 3) := by decide +kernel
theorem dX3_between_18 : decode cX3_between 18 = .ok (.if_icmp .le 5, 3) := by decide +kernel
theorem dX3_between_21 : decode cX3_between 21 = .ok (.iconst 0, 1) := by decide +kernel
theorem dX3_between_22 : decode cX3_between 22 = .ok (.ireturn, 1) := by decide +kernel
theorem dX3_between_23 : decode cX3_between 23 = .ok (.aload_n 0, 1) := by decide +kernel
theorem dX3_between_24 : decode cX3_between 24 = .ok (.getfield 11, 3) := by decide +kernel
theorem dX3_between_27 : decode cX3_between 27 = .ok (.iload_n 2, 1) := by decide +kernel
theorem dX3_between_28 : decode cX3_between 28 = .ok (.aload_n 0, 1) := by decide +kernel
theorem dX3_between_29 : decode cX3_between 29 = .ok (.getfield 15, 3) := by decide +kernel
theorem dX3_between_32 : decode cX3_between 32 = .ok (.isub, 1) := by decide +kernel
theorem dX3_between_33 : decode cX3_between 33 = .ok (.iaload, 1) := by decide +kernel
theorem dX3_between_34 : decode cX3_between 34 = .ok (.aload_n 0, 1) := by decide +kernel
theorem dX3_between_35 : decode cX3_between 35 = .ok (.getfield 11, 3) := by decide +kernel
theorem dX3_between_38 : decode cX3_between 38 = .ok (.iload_n 1, 1) := by decide +kernel
theorem dX3_between_39 : decode cX3_between 39 = .ok (.aload_n 0, 1) := by decide +kernel
theorem dX3_between_40 : decode cX3_between 40 = .ok (.getfield 15, 3) := by decide +kernel
theorem dX3_between_43 : decode cX3_between 43 = .ok (.isub, 1) := by decide +kernel
theorem dX3_between_44 : decode cX3_between 44 = .ok (.iaload, 1) := by decide +kernel
theorem dX3_between_45 : decode cX3_between 45 = .ok (.isub, 1) := by decide +kernel
theorem dX3_between_46 : decode cX3_between 46 = .ok (.ireturn, 1) := by decide +kernel
theorem dX4_init_0 : decode cX4_init 0 = .ok (.aload_n 0, 1) := by decide +kernel
theorem dX4_init_1 : decode cX4_init 1 = .ok (.invokespecial 3, 3) := by decide +kernel
theorem dX4_init_4 : decode cX4_init 4 = .ok (.aload_n 0, 1) := by decide +kernel
theorem dX4_init_5 : decode cX4_init 5 = .ok (.iconst 4, 1) := by decide +kernel
theorem dX4_init_6 : decode cX4_init 6 = .ok (.newarray .int, 2) := by decide +kernel
theorem dX4_init_8 : decode cX4_init 8 = .ok (.putfield 9, 3) := by decide +kernel
theorem dX4_init_11 : decode cX4_init 11 = .ok (.aload_n 0, 1) := by decide +kernel
theorem dX4_init_12 : decode cX4_init 12 = .ok (.iconst 4, 1) := by decide +kernel
theorem dX4_init_13 : decode cX4_init 13 = .ok (.newarray .int, 2) := by decide +kernel
theorem dX4_init_15 : decode cX4_init 15 = .ok (.putfield 15, 3) := by decide +kernel
theorem dX4_init_18 : decode cX4_init 18 = .ok (.aload_n 0, 1) := by decide +kernel
theorem dX4_init_19 : decode cX4_init 19 = .ok (.iconst 4, 1) := by decide +kernel
theorem dX4_init_20 : decode cX4_init 20 = .ok (.newarray .int, 2) := by decide +kernel
theorem dX4_init_22 : decode cX4_init 22 = .ok (.putfield 18, 3) := by decide +kernel
theorem dX4_init_25 : decode cX4_init 25 = .ok (.aload_n 0, 1) := by decide +kernel
theorem dX4_init_26 : decode cX4_init 26 = .ok (.iconst 4, 1) := by decide +kernel
theorem dX4_init_27 : decode cX4_init 27 = .ok (.newarray .int, 2) := by decide +kernel
theorem dX4_init_29 : decode cX4_init 29 = .ok (.putfield 21, 3) := by decide +kernel
theorem dX4_init_32 : decode cX4_init 32 = .ok (.aload_n 0, 1) := by decide +kernel
theorem dX4_init_33 : decode cX4_init 33 = .ok (.iconst 0, 1) := by decide +kernel
theorem dX4_init_34 : decode cX4_init 34 = .ok (.putfield 24, 3) := by decide +kernel
theorem dX4_init_37 : decode cX4_init 37 = .ok (.aload_n 0, 1) := by decide +kernel
theorem dX4_init_38 : decode cX4_init 38 = .ok (.aload_n 1, 1) := by decide +kernel
theorem dX4_init_39 : decode cX4_init 39 = .ok (.putfield 28, 3) := by decide +kernel
theorem dX4_init_42 : decode cX4_init 42 = .ok (.aload_n 0, 1) := by decide +kernel
theorem dX4_init_43 : decode cX4_init 43 = .ok (.aload_n 2, 1) := by decide +kernel
theorem dX4_init_44 : decode cX4_init 44 = .ok (.putfield 32, 3) := by decide +kernel
theorem dX4_init_47 : decode cX4_init 47 = .ok (.return_, 1) := by decide +kernel
theorem dX4_has_0 : decode cX4_has 0 = .ok (.iload_n 1, 1) := by decide +kernel
theorem dX4_has_1 : decode cX4_has 1 = .ok (.ifCond .lt 15, 3) := by decide +kernel
theorem dX4_has_4 : decode cX4_has 4 = .ok (.iload_n 1, 1) := by decide +kernel
theorem dX4_has_5 : decode cX4_has 5 = .ok (.aload_n 0, 1) := by decide +kernel
theorem dX4_has_6 : decode cX4_has 6 = .ok (.getfield 24, 3) := by decide +kernel
theorem dX4_has_9 : decode cX4_has 9 = .ok (.if_icmp .ge 7, 3) := by decide +kernel
theorem dX4_has_12 : decode cX4_has 12 = .ok (.iconst 1, 1) := by decide +kernel
theorem dX4_has_13 : decode cX4_has 13 = .ok (.goto 4, 3) := by decide +kernel
theorem dX4_has_16 : decode cX4_has 16 = .ok (.iconst 0, 1) := by decide +kernel
theorem dX4_has_17 : decode cX4_has 17 = .ok (.ireturn, 1) := by decide +kernel
theorem dX4_addOnTop_0 : decode cX4_addOnTop 0 = .ok (.aload_n 0, 1) := by decide +kernel
theorem dX4_addOnTop_1 : decode cX4_addOnTop 1 = .ok (.getfield 24, 3) := by decide +kernel
theorem dX4_addOnTop_4 : decode cX4_addOnTop 4 = .ok (.iconst 4, 1) := by decide +kernel
theorem dX4_addOnTop_5 : decode cX4_addOnTop 5 = .ok (.if_icmp .lt 6, 3) := by decide +kernel
theorem dX4_addOnTop_8 : decode cX4_addOnTop 8 = .ok (.bipush (-4), 2) := by decide +kernel
theorem dX4_addOnTop_10 : decode cX4_addOnTop 10 = .ok (.ireturn, 1) := by decide +kernel
theorem dX4_addOnTop_11 : decode cX4_addOnTop 11 = .ok (.aload_n 0, 1) := by decide +kernel
theorem dX4_addOnTop_12 : decode cX4_addOnTop 12 = .ok (.getfield 9, 3) := by decide +kernel
theorem dX4_addOnTop_15 : decode cX4_addOnTop 15 = .ok (.aload_n 0, 1) := by decide +kernel
theorem dX4_addOnTop_16 : decode cX4_addOnTop 16 = .ok (.getfield 24, 3) := by decide +kernel
theorem dX4_addOnTop_19 : decode cX4_addOnTop 19 = .ok (.iload_n 1, 1) := by decide +kernel
theorem dX4_addOnTop_20 : decode cX4_addOnTop 20 = .ok (.iastore, 1) := by decide +kernel
theorem dX4_addOnTop_21 : decode cX4_addOnTop 21 = .ok (.aload_n 0, 1) := by decide +kernel
theorem dX4_addOnTop_22 : decode cX4_addOnTop 22 = .ok (.getfield 15, 3) := by decide +kernel
theorem dX4_addOnTop_25 : decode cX4_addOnTop 25 = .ok (.aload_n 0, 1) := by decide +kernel
theorem dX4_addOnTop_26 : decode cX4_addOnTop 26 = .ok (.getfield 24, 3) := by decide +kernel
theorem dX4_addOnTop_29 : decode cX4_addOnTop 29 = .ok (.iload_n 2, 1) := by decide +kernel
theorem dX4_addOnTop_30 : decode cX4_addOnTop 30 = .ok (.iastore, 1) := by decide +kernel
theorem dX4_addOnTop_31 : decode cX4_addOnTop 31 = .ok (.aload_n 0, 1) := by decide +kernel
theorem dX4_addOnTop_32 : decode cX4_addOnTop 32 = .ok (.getfield 18, 3) := by decide +kernel
theorem dX4_addOnTop_35 : decode cX4_addOnTop 35 = .ok (.aload_n 0, 1) := by decide +kernel
theorem dX4_addOnTop_36 : decode cX4_addOnTop 36 = .ok (.getfield 24, 3) := by decide +kernel
theorem dX4_addOnTop_39 : decode cX4_addOnTop 39 = .ok (.iload_n 3, 1) := by decide +kernel
theorem dX4_addOnTop_40 : decode cX4_addOnTop 40 = .ok (.iastore, 1) := by decide +kernel
theorem dX4_addOnTop_41 : decode cX4_addOnTop 41 = .ok (.aload_n 0, 1) := by decide +kernel
theorem dX4_addOnTop_42 : decode cX4_addOnTop 42 = .ok (.getfield 21, 3) := by decide +kernel
theorem dX4_addOnTop_45 : decode cX4_addOnTop 45 = .ok (.aload_n 0, 1) := by decide +kernel
theorem dX4_addOnTop_46 : decode cX4_addOnTop 46 = .ok (.getfield 24, 3) := by decide +kernel
theorem dX4_addOnTop_49 : decode cX4_addOnTop 49 = .ok (.iload 4, 2) := by decide +kernel
theorem dX4_addOnTop_51 : decode cX4_addOnTop 51 = .ok (.iastore, 1) := by decide +kernel
theorem dX4_addOnTop_52 : decode cX4_addOnTop 52 = .ok (.aload_n 0, 1) := by decide +kernel
theorem dX4_addOnTop_53 : decode cX4_addOnTop 53 = .ok (.dup, 1) := by decide +kernel
theorem dX4_addOnTop_54 : decode cX4_addOnTop 54 = .ok (.getfield 24, 3) := by decide +kernel
theorem dX4_addOnTop_57 : decode cX4_addOnTop 57 = .ok (.iconst 1, 1) := by decide +kernel
theorem dX4_addOnTop_58 : decode cX4_addOnTop 58 = .ok (.iadd, 1) := by decide +kernel
theorem dX4_addOnTop_59 : decode cX4_addOnTop 59 = .ok (.putfield 24, 3) := by decide +kernel
theorem dX4_addOnTop_62 : decode cX4_addOnTop 62 = .ok (.aload_n 0, 1) := by decide +kernel
theorem dX4_addOnTop_63 : decode cX4_addOnTop 63 = .ok (.getfield 24, 3) := by decide +kernel
theorem dX4_addOnTop_66 : decode cX4_addOnTop 66 = .ok (.ireturn, 1) := by decide +kernel
theorem dX4_load_0 : decode cX4_load 0 = .ok (.aload_n 0, 1) := by decide +kernel
theorem dX4_load_1 : decode cX4_load 1 = .ok (.getfield 32, 3) := by decide +kernel
theorem dX4_load_4 : decode cX4_load 4 = .ok (.iconst 0, 1) := by decide +kernel
theorem dX4_load_5 : decode cX4_load 5 = .ok (.iaload, 1) := by decide +kernel
theorem dX4_load_6 : decode cX4_load 6 = .ok (.ireturn, 1) := by decide +kernel
theorem dX4_tankFor_0 : decode cX4_tankFor 0 = .ok (.iload_n 1, 1) := by decide +kernel
theorem dX4_tankFor_1 : decode cX4_tankFor 1 = .ok (.aload_n 0, 1) := by decide +kernel
theorem dX4_tankFor_2 : decode cX4_tankFor 2 = .ok (.getfield 32, 3) := by decide +kernel
theorem dX4_tankFor_5 : decode cX4_tankFor 5 = .ok (.iconst 1, 1) := by decide +kernel
theorem dX4_tankFor_6 : decode cX4_tankFor 6 = .ok (.iaload, 1) := by decide +kernel
theorem dX4_tankFor_7 : decode cX4_tankFor 7 = .ok (.imul, 1) := by decide +kernel
theorem dX4_tankFor_8 : decode cX4_tankFor 8 = .ok (.bipush 99, 2) := by decide +kernel
theorem dX4_tankFor_10 : decode cX4_tankFor 10 = .ok (.iadd, 1) := by decide +kernel
theorem dX4_tankFor_11 : decode cX4_tankFor 11 = .ok (.bipush 100, 2) := by decide +kernel
theorem dX4_tankFor_13 : decode cX4_tankFor 13 = .ok (.idiv, 1) := by decide +kernel
theorem dX4_tankFor_14 : decode cX4_tankFor 14 = .ok (.ireturn, 1) := by decide +kernel
theorem dX4_dryOf_0 : decode cX4_dryOf 0 = .ok (.aload_n 0, 1) := by decide +kernel
theorem dX4_dryOf_1 : decode cX4_dryOf 1 = .ok (.iload_n 1, 1) := by decide +kernel
theorem dX4_dryOf_2 : decode cX4_dryOf 2 = .ok (.invokevirtual 35, 3) := by decide +kernel
theorem dX4_dryOf_5 : decode cX4_dryOf 5 = .ok (.ifCond .eq 22, 3) := by decide +kernel
theorem dX4_dryOf_8 : decode cX4_dryOf 8 = .ok (.aload_n 0, 1) := by decide +kernel
theorem dX4_dryOf_9 : decode cX4_dryOf 9 = .ok (.iload_n 1, 1) := by decide +kernel
theorem dX4_dryOf_10 : decode cX4_dryOf 10 = .ok (.invokevirtual 39, 3) := by decide +kernel
theorem dX4_dryOf_13 : decode cX4_dryOf 13 = .ok (.aload_n 0, 1) := by decide +kernel
theorem dX4_dryOf_14 : decode cX4_dryOf 14 = .ok (.aload_n 0, 1) := by decide +kernel
theorem dX4_dryOf_15 : decode cX4_dryOf 15 = .ok (.getfield 18, 3) := by decide +kernel
theorem dX4_dryOf_18 : decode cX4_dryOf 18 = .ok (.iload_n 1, 1) := by decide +kernel
theorem dX4_dryOf_19 : decode cX4_dryOf 19 = .ok (.iaload, 1) := by decide +kernel
theorem dX4_dryOf_20 : decode cX4_dryOf 20 = .ok (.invokevirtual 43, 3) := by decide +kernel
theorem dX4_dryOf_23 : decode cX4_dryOf 23 = .ok (.iadd, 1) := by decide +kernel
theorem dX4_dryOf_24 : decode cX4_dryOf 24 = .ok (.goto 4, 3) := by decide +kernel
theorem dX4_dryOf_27 : decode cX4_dryOf 27 = .ok (.iconst 0, 1) := by decide +kernel
theorem dX4_dryOf_28 : decode cX4_dryOf 28 = .ok (.ireturn, 1) := by decide +kernel
theorem dX4_bareOf_0 : decode cX4_bareOf 0 = .ok (.aload_n 0, 1) := by decide +kernel
theorem dX4_bareOf_1 : decode cX4_bareOf 1 = .ok (.iload_n 1, 1) := by decide +kernel
theorem dX4_bareOf_2 : decode cX4_bareOf 2 = .ok (.invokevirtual 35, 3) := by decide +kernel
theorem dX4_bareOf_5 : decode cX4_bareOf 5 = .ok (.ifCond .eq 34, 3) := by decide +kernel
theorem dX4_bareOf_8 : decode cX4_bareOf 8 = .ok (.aload_n 0, 1) := by decide +kernel
theorem dX4_bareOf_9 : decode cX4_bareOf 9 = .ok (.getfield 15, 3) := by decide +kernel
theorem dX4_bareOf_12 : decode cX4_bareOf 12 = .ok (.iload_n 1, 1) := by decide +kernel
theorem dX4_bareOf_13 : decode cX4_bareOf 13 = .ok (.iaload, 1) := by decide +kernel
theorem dX4_bareOf_14 : decode cX4_bareOf 14 = .ok (.aload_n 0, 1) := by decide +kernel
theorem dX4_bareOf_15 : decode cX4_bareOf 15 = .ok (.getfield 28, 3) := by decide +kernel
theorem dX4_bareOf_18 : decode cX4_bareOf 18 = .ok (.getfield 46, 3) := by decide +kernel
theorem dX4_bareOf_21 : decode cX4_bareOf 21 = .ok (.aload_n 0, 1) := by decide +kernel
theorem dX4_bareOf_22 : decode cX4_bareOf 22 = .ok (.getfield 9, 3) := by decide +kernel
theorem dX4_bareOf_25 : decode cX4_bareOf 25 = .ok (.iload_n 1, 1) := by decide +kernel
theorem dX4_bareOf_26 : decode cX4_bareOf 26 = .ok (.iaload, 1) := by decide +kernel
theorem dX4_bareOf_27 : decode cX4_bareOf 27 = .ok (.iaload, 1) := by decide +kernel
theorem dX4_bareOf_28 : decode cX4_bareOf 28 = .ok (.imul, 1) := by decide +kernel
theorem dX4_bareOf_29 : decode cX4_bareOf 29 = .ok (.aload_n 0, 1) := by decide +kernel
theorem dX4_bareOf_30 : decode cX4_bareOf 30 = .ok (.getfield 21, 3) := by decide +kernel
theorem dX4_bareOf_33 : decode cX4_bareOf 33 = .ok (.iload_n 1, 1) := by decide +kernel
theorem dX4_bareOf_34 : decode cX4_bareOf 34 = .ok (.iaload, 1) := by decide +kernel
theorem dX4_bareOf_35 : decode cX4_bareOf 35 = .ok (.iadd, 1) := by decide +kernel
theorem dX4_bareOf_36 : decode cX4_bareOf 36 = .ok (.goto 4, 3) := by decide +kernel
theorem dX4_bareOf_39 : decode cX4_bareOf 39 = .ok (.iconst 0, 1) := by decide +kernel
theorem dX4_bareOf_40 : decode cX4_bareOf 40 = .ok (.ireturn, 1) := by decide +kernel
theorem dX4_exhaustOf_0 : decode cX4_exhaustOf 0 = .ok (.aload_n 0, 1) := by decide +kernel
theorem dX4_exhaustOf_1 : decode cX4_exhaustOf 1 = .ok (.iload_n 1, 1) := by decide +kernel
theorem dX4_exhaustOf_2 : decode cX4_exhaustOf 2 = .ok (.invokevirtual 35, 3) := by decide +kernel
theorem dX4_exhaustOf_5 : decode cX4_exhaustOf 5 = .ok (.ifCond .eq 20, 3) := by decide +kernel
theorem dX4_exhaustOf_8 : decode cX4_exhaustOf 8 = .ok (.aload_n 0, 1) := by decide +kernel
theorem dX4_exhaustOf_9 : decode cX4_exhaustOf 9 = .ok (.getfield 28, 3) := by decide +kernel
theorem dX4_exhaustOf_12 : decode cX4_exhaustOf 12 = .ok (.getfield 51, 3) := by decide +kernel
theorem dX4_exhaustOf_15 : decode cX4_exhaustOf 15 = .ok (.aload_n 0, 1) := by decide +kernel
theorem dX4_exhaustOf_16 : decode cX4_exhaustOf 16 = .ok (.getfield 9, 3) := by decide +kernel
theorem dX4_exhaustOf_19 : decode cX4_exhaustOf 19 = .ok (.iload_n 1, 1) := by decide +kernel
theorem dX4_exhaustOf_20 : decode cX4_exhaustOf 20 = .ok (.iaload, 1) := by decide +kernel
theorem dX4_exhaustOf_21 : decode cX4_exhaustOf 21 = .ok (.iaload, 1) := by decide +kernel
theorem dX4_exhaustOf_22 : decode cX4_exhaustOf 22 = .ok (.goto 4, 3) := by decide +kernel
theorem dX4_exhaustOf_25 : decode cX4_exhaustOf 25 = .ok (.iconst 0, 1) := by decide +kernel
theorem dX4_exhaustOf_26 : decode cX4_exhaustOf 26 = .ok (.ireturn, 1) := by decide +kernel
theorem dX4_massFrom_0 : decode cX4_massFrom 0 = .ok (.aload_n 0, 1) := by decide +kernel
theorem dX4_massFrom_1 : decode cX4_massFrom 1 = .ok (.invokevirtual 54, 3) := by decide +kernel
theorem dX4_massFrom_4 : decode cX4_massFrom 4 = .ok (.istore_n 2, 1) := by decide +kernel
theorem dX4_massFrom_5 : decode cX4_massFrom 5 = .ok (.iload_n 1, 1) := by decide +kernel
theorem dX4_massFrom_6 : decode cX4_massFrom 6 = .ok (.iconst 0, 1) := by decide +kernel
theorem dX4_massFrom_7 : decode cX4_massFrom 7 = .ok (.invokestatic 58, 3) := by decide +kernel
theorem dX4_massFrom_10 : decode cX4_massFrom 10 = .ok (.istore_n 3, 1) := by decide +kernel
theorem dX4_massFrom_11 : decode cX4_massFrom 11 = .ok (.iload_n 3, 1) := by decide +kernel
theorem dX4_massFrom_12 : decode cX4_massFrom 12 = .ok (.aload_n 0, 1) := by decide +kernel
theorem dX4_massFrom_13 : decode cX4_massFrom 13 = .ok (.getfield 24, 3) := by decide +kernel
theorem dX4_massFrom_16 : decode cX4_massFrom 16 = .ok (.if_icmp .ge 24, 3) := by decide +kernel
theorem dX4_massFrom_19 : decode cX4_massFrom 19 = .ok (.iload_n 2, 1) := by decide +kernel
theorem dX4_massFrom_20 : decode cX4_massFrom 20 = .ok (.aload_n 0, 1) := by decide +kernel
theorem dX4_massFrom_21 : decode cX4_massFrom 21 = .ok (.iload_n 3, 1) := by decide +kernel
theorem dX4_massFrom_22 : decode cX4_massFrom 22 = .ok (.invokevirtual 64, 3) := by decide +kernel
theorem dX4_massFrom_25 : decode cX4_massFrom 25 = .ok (.aload_n 0, 1) := by decide +kernel
theorem dX4_massFrom_26 : decode cX4_massFrom 26 = .ok (.getfield 18, 3) := by decide +kernel
theorem dX4_massFrom_29 : decode cX4_massFrom 29 = .ok (.iload_n 3, 1) := by decide +kernel
theorem dX4_massFrom_30 : decode cX4_massFrom 30 = .ok (.iaload, 1) := by decide +kernel
theorem dX4_massFrom_31 : decode cX4_massFrom 31 = .ok (.iadd, 1) := by decide +kernel
theorem dX4_massFrom_32 : decode cX4_massFrom 32 = .ok (.iadd, 1) := by decide +kernel
theorem dX4_massFrom_33 : decode cX4_massFrom 33 = .ok (.istore_n 2, 1) := by decide +kernel
theorem dX4_massFrom_34 : decode cX4_massFrom 34 = .ok (.iinc 3 1, 3) := by decide +kernel
theorem dX4_massFrom_37 : decode cX4_massFrom 37 = .ok (.goto (-26), 3) := by decide +kernel
theorem dX4_massFrom_40 : decode cX4_massFrom 40 = .ok (.iload_n 2, 1) := by decide +kernel
theorem dX4_massFrom_41 : decode cX4_massFrom 41 = .ok (.ireturn, 1) := by decide +kernel
theorem dX4_allStuff_0 : decode cX4_allStuff 0 = .ok (.iconst 0, 1) := by decide +kernel
theorem dX4_allStuff_1 : decode cX4_allStuff 1 = .ok (.istore_n 1, 1) := by decide +kernel
theorem dX4_allStuff_2 : decode cX4_allStuff 2 = .ok (.iconst 0, 1) := by decide +kernel
theorem dX4_allStuff_3 : decode cX4_allStuff 3 = .ok (.istore_n 2, 1) := by decide +kernel
theorem dX4_allStuff_4 : decode cX4_allStuff 4 = .ok (.iload_n 2, 1) := by decide +kernel
theorem dX4_allStuff_5 : decode cX4_allStuff 5 = .ok (.aload_n 0, 1) := by decide +kernel
theorem dX4_allStuff_6 : decode cX4_allStuff 6 = .ok (.getfield 24, 3) := by decide +kernel
theorem dX4_allStuff_9 : decode cX4_allStuff 9 = .ok (.if_icmp .ge 18, 3) := by decide +kernel
theorem dX4_allStuff_12 : decode cX4_allStuff 12 = .ok (.iload_n 1, 1) := by decide +kernel
theorem dX4_allStuff_13 : decode cX4_allStuff 13 = .ok (.aload_n 0, 1) := by decide +kernel
theorem dX4_allStuff_14 : decode cX4_allStuff 14 = .ok (.getfield 18, 3) := by decide +kernel
theorem dX4_allStuff_17 : decode cX4_allStuff 17 = .ok (.iload_n 2, 1) := by decide +kernel
theorem dX4_allStuff_18 : decode cX4_allStuff 18 = .ok (.iaload, 1) := by decide +kernel
theorem dX4_allStuff_19 : decode cX4_allStuff 19 = .ok (.iadd, 1) := by decide +kernel
theorem dX4_allStuff_20 : decode cX4_allStuff 20 = .ok (.istore_n 1, 1) := by decide +kernel
theorem dX4_allStuff_21 : decode cX4_allStuff 21 = .ok (.iinc 2 1, 3) := by decide +kernel
theorem dX4_allStuff_24 : decode cX4_allStuff 24 = .ok (.goto (-20), 3) := by decide +kernel
theorem dX4_allStuff_27 : decode cX4_allStuff 27 = .ok (.iload_n 1, 1) := by decide +kernel
theorem dX4_allStuff_28 : decode cX4_allStuff 28 = .ok (.ireturn, 1) := by decide +kernel
theorem dX4_lowOf_0 : decode cX4_lowOf 0 = .ok (.aload_n 0, 1) := by decide +kernel
theorem dX4_lowOf_1 : decode cX4_lowOf 1 = .ok (.iload_n 1, 1) := by decide +kernel
theorem dX4_lowOf_2 : decode cX4_lowOf 2 = .ok (.invokevirtual 35, 3) := by decide +kernel
theorem dX4_lowOf_5 : decode cX4_lowOf 5 = .ok (.ifCond .ne 5, 3) := by decide +kernel
theorem dX4_lowOf_8 : decode cX4_lowOf 8 = .ok (.iconst 0, 1) := by decide +kernel
theorem dX4_lowOf_9 : decode cX4_lowOf 9 = .ok (.ireturn, 1) := by decide +kernel
theorem dX4_lowOf_10 : decode cX4_lowOf 10 = .ok (.sipush 1000, 3) := by decide +kernel
theorem dX4_lowOf_13 : decode cX4_lowOf 13 = .ok (.aload_n 0, 1) := by decide +kernel
theorem dX4_lowOf_14 : decode cX4_lowOf 14 = .ok (.iload_n 1, 1) := by decide +kernel
theorem dX4_lowOf_15 : decode cX4_lowOf 15 = .ok (.invokevirtual 67, 3) := by decide +kernel
theorem dX4_lowOf_18 : decode cX4_lowOf 18 = .ok (.imul, 1) := by decide +kernel
theorem dX4_lowOf_19 : decode cX4_lowOf 19 = .ok (.istore_n 3, 1) := by decide +kernel
theorem dX4_lowOf_20 : decode cX4_lowOf 20 = .ok (.aload_n 0, 1) := by decide +kernel
theorem dX4_lowOf_21 : decode cX4_lowOf 21 = .ok (.iload_n 1, 1) := by decide +kernel
theorem dX4_lowOf_22 : decode cX4_lowOf 22 = .ok (.invokevirtual 70, 3) := by decide +kernel
theorem dX4_lowOf_25 : decode cX4_lowOf 25 = .ok (.istore 4, 2) := by decide +kernel
theorem dX4_lowOf_27 : decode cX4_lowOf 27 = .ok (.iconst 0, 1) := by decide +kernel
theorem dX4_lowOf_28 : decode cX4_lowOf 28 = .ok (.istore 5, 2) := by decide +kernel
theorem dX4_lowOf_30 : decode cX4_lowOf 30 = .ok (.iload_n 2, 1) := by decide +kernel
theorem dX4_lowOf_31 : decode cX4_lowOf 31 = .ok (.istore 6, 2) := by decide +kernel
theorem dX4_lowOf_33 : decode cX4_lowOf 33 = .ok (.iload 6, 2) := by decide +kernel
theorem dX4_lowOf_35 : decode cX4_lowOf 35 = .ok (.aload_n 0, 1) := by decide +kernel
theorem dX4_lowOf_36 : decode cX4_lowOf 36 = .ok (.getfield 18, 3) := by decide +kernel
theorem dX4_lowOf_39 : decode cX4_lowOf 39 = .ok (.iload_n 1, 1) := by decide +kernel
theorem dX4_lowOf_40 : decode cX4_lowOf 40 = .ok (.iaload, 1) := by decide +kernel
theorem dX4_lowOf_41 : decode cX4_lowOf 41 = .ok (.if_icmp .ge 26, 3) := by decide +kernel
theorem dX4_lowOf_44 : decode cX4_lowOf 44 = .ok (.iload 4, 2) := by decide +kernel
theorem dX4_lowOf_46 : decode cX4_lowOf 46 = .ok (.ifCond .le 21, 3) := by decide +kernel
theorem dX4_lowOf_49 : decode cX4_lowOf 49 = .ok (.iload 5, 2) := by decide +kernel
theorem dX4_lowOf_51 : decode cX4_lowOf 51 = .ok (.iload_n 3, 1) := by decide +kernel
theorem dX4_lowOf_52 : decode cX4_lowOf 52 = .ok (.iload 4, 2) := by decide +kernel
theorem dX4_lowOf_54 : decode cX4_lowOf 54 = .ok (.idiv, 1) := by decide +kernel
theorem dX4_lowOf_55 : decode cX4_lowOf 55 = .ok (.iadd, 1) := by decide +kernel
theorem dX4_lowOf_56 : decode cX4_lowOf 56 = .ok (.istore 5, 2) := by decide +kernel
theorem dX4_lowOf_58 : decode cX4_lowOf 58 = .ok (.iinc 4 (-1), 3) := by decide +kernel
theorem dX4_lowOf_61 : decode cX4_lowOf 61 = .ok (.iinc 6 1, 3) := by decide +kernel
theorem dX4_lowOf_64 : decode cX4_lowOf 64 = .ok (.goto (-31), 3) := by decide +kernel
theorem dX4_lowOf_67 : decode cX4_lowOf 67 = .ok (.iload 5, 2) := by decide +kernel
theorem dX4_lowOf_69 : decode cX4_lowOf 69 = .ok (.ireturn, 1) := by decide +kernel
theorem dX4_highOf_0 : decode cX4_highOf 0 = .ok (.aload_n 0, 1) := by decide +kernel
theorem dX4_highOf_1 : decode cX4_highOf 1 = .ok (.iload_n 1, 1) := by decide +kernel
theorem dX4_highOf_2 : decode cX4_highOf 2 = .ok (.invokevirtual 35, 3) := by decide +kernel
theorem dX4_highOf_5 : decode cX4_highOf 5 = .ok (.ifCond .ne 5, 3) := by decide +kernel
theorem dX4_highOf_8 : decode cX4_highOf 8 = .ok (.iconst 0, 1) := by decide +kernel
theorem dX4_highOf_9 : decode cX4_highOf 9 = .ok (.ireturn, 1) := by decide +kernel
theorem dX4_highOf_10 : decode cX4_highOf 10 = .ok (.sipush 1000, 3) := by decide +kernel
theorem dX4_highOf_13 : decode cX4_highOf 13 = .ok (.aload_n 0, 1) := by decide +kernel
theorem dX4_highOf_14 : decode cX4_highOf 14 = .ok (.iload_n 1, 1) := by decide +kernel
theorem dX4_highOf_15 : decode cX4_highOf 15 = .ok (.invokevirtual 67, 3) := by decide +kernel
theorem dX4_highOf_18 : decode cX4_highOf 18 = .ok (.imul, 1) := by decide +kernel
theorem dX4_highOf_19 : decode cX4_highOf 19 = .ok (.istore_n 2, 1) := by decide +kernel
theorem dX4_highOf_20 : decode cX4_highOf 20 = .ok (.aload_n 0, 1) := by decide +kernel
theorem dX4_highOf_21 : decode cX4_highOf 21 = .ok (.iload_n 1, 1) := by decide +kernel
theorem dX4_highOf_22 : decode cX4_highOf 22 = .ok (.invokevirtual 70, 3) := by decide +kernel
theorem dX4_highOf_25 : decode cX4_highOf 25 = .ok (.iconst 1, 1) := by decide +kernel
theorem dX4_highOf_26 : decode cX4_highOf 26 = .ok (.isub, 1) := by decide +kernel
theorem dX4_highOf_27 : decode cX4_highOf 27 = .ok (.istore_n 3, 1) := by decide +kernel
theorem dX4_highOf_28 : decode cX4_highOf 28 = .ok (.iconst 0, 1) := by decide +kernel
theorem dX4_highOf_29 : decode cX4_highOf 29 = .ok (.istore 4, 2) := by decide +kernel
theorem dX4_highOf_31 : decode cX4_highOf 31 = .ok (.iconst 0, 1) := by decide +kernel
theorem dX4_highOf_32 : decode cX4_highOf 32 = .ok (.istore 5, 2) := by decide +kernel
theorem dX4_highOf_34 : decode cX4_highOf 34 = .ok (.iload 5, 2) := by decide +kernel
theorem dX4_highOf_36 : decode cX4_highOf 36 = .ok (.aload_n 0, 1) := by decide +kernel
theorem dX4_highOf_37 : decode cX4_highOf 37 = .ok (.getfield 18, 3) := by decide +kernel
theorem dX4_highOf_40 : decode cX4_highOf 40 = .ok (.iload_n 1, 1) := by decide +kernel
theorem dX4_highOf_41 : decode cX4_highOf 41 = .ok (.iaload, 1) := by decide +kernel
theorem dX4_highOf_42 : decode cX4_highOf 42 = .ok (.if_icmp .ge 28, 3) := by decide +kernel
theorem dX4_highOf_45 : decode cX4_highOf 45 = .ok (.iload_n 3, 1) := by decide +kernel
theorem dX4_highOf_46 : decode cX4_highOf 46 = .ok (.ifCond .le 24, 3) := by decide +kernel
theorem dX4_highOf_49 : decode cX4_highOf 49 = .ok (.iload 4, 2) := by decide +kernel
theorem dX4_highOf_51 : decode cX4_highOf 51 = .ok (.iload_n 2, 1) := by decide +kernel
theorem dX4_highOf_52 : decode cX4_highOf 52 = .ok (.iload_n 3, 1) := by decide +kernel
theorem dX4_highOf_53 : decode cX4_highOf 53 = .ok (.iadd, 1) := by decide +kernel
theorem dX4_highOf_54 : decode cX4_highOf 54 = .ok (.iconst 1, 1) := by decide +kernel
theorem dX4_highOf_55 : decode cX4_highOf 55 = .ok (.isub, 1) := by decide +kernel
theorem dX4_highOf_56 : decode cX4_highOf 56 = .ok (.iload_n 3, 1) := by decide +kernel
theorem dX4_highOf_57 : decode cX4_highOf 57 = .ok (.idiv, 1) := by decide +kernel
theorem dX4_highOf_58 : decode cX4_highOf 58 = .ok (.iadd, 1) := by decide +kernel
theorem dX4_highOf_59 : decode cX4_highOf 59 = .ok (.istore 4, 2) := by decide +kernel
theorem dX4_highOf_61 : decode cX4_highOf 61 = .ok (.iinc 3 (-1), 3) := by decide +kernel
theorem dX4_highOf_64 : decode cX4_highOf 64 = .ok (.iinc 5 1, 3) := by decide +kernel
theorem dX4_highOf_67 : decode cX4_highOf 67 = .ok (.goto (-33), 3) := by decide +kernel
theorem dX4_highOf_70 : decode cX4_highOf 70 = .ok (.iload 4, 2) := by decide +kernel
theorem dX4_highOf_72 : decode cX4_highOf 72 = .ok (.ireturn, 1) := by decide +kernel
theorem dX4_liftOf_0 : decode cX4_liftOf 0 = .ok (.aload_n 0, 1) := by decide +kernel
theorem dX4_liftOf_1 : decode cX4_liftOf 1 = .ok (.iload_n 1, 1) := by decide +kernel
theorem dX4_liftOf_2 : decode cX4_liftOf 2 = .ok (.invokevirtual 35, 3) := by decide +kernel
theorem dX4_liftOf_5 : decode cX4_liftOf 5 = .ok (.ifCond .ne 5, 3) := by decide +kernel
theorem dX4_liftOf_8 : decode cX4_liftOf 8 = .ok (.iconst 0, 1) := by decide +kernel
theorem dX4_liftOf_9 : decode cX4_liftOf 9 = .ok (.ireturn, 1) := by decide +kernel
theorem dX4_liftOf_10 : decode cX4_liftOf 10 = .ok (.aload_n 0, 1) := by decide +kernel
theorem dX4_liftOf_11 : decode cX4_liftOf 11 = .ok (.iload_n 1, 1) := by decide +kernel
theorem dX4_liftOf_12 : decode cX4_liftOf 12 = .ok (.invokevirtual 70, 3) := by decide +kernel
theorem dX4_liftOf_15 : decode cX4_liftOf 15 = .ok (.istore_n 2, 1) := by decide +kernel
theorem dX4_liftOf_16 : decode cX4_liftOf 16 = .ok (.iload_n 2, 1) := by decide +kernel
theorem dX4_liftOf_17 : decode cX4_liftOf 17 = .ok (.iconst 1, 1) := by decide +kernel
theorem dX4_liftOf_18 : decode cX4_liftOf 18 = .ok (.if_icmp .ge 7, 3) := by decide +kernel
theorem dX4_liftOf_21 : decode cX4_liftOf 21 = .ok (.iconst 0, 1) := by decide +kernel
theorem dX4_liftOf_22 : decode cX4_liftOf 22 = .ok (.goto 29, 3) := by decide +kernel
theorem dX4_liftOf_25 : decode cX4_liftOf 25 = .ok (.bipush 100, 2) := by decide +kernel
theorem dX4_liftOf_27 : decode cX4_liftOf 27 = .ok (.aload_n 0, 1) := by decide +kernel
theorem dX4_liftOf_28 : decode cX4_liftOf 28 = .ok (.getfield 28, 3) := by decide +kernel
theorem dX4_liftOf_31 : decode cX4_liftOf 31 = .ok (.getfield 73, 3) := by decide +kernel
theorem dX4_liftOf_34 : decode cX4_liftOf 34 = .ok (.aload_n 0, 1) := by decide +kernel
theorem dX4_liftOf_35 : decode cX4_liftOf 35 = .ok (.getfield 9, 3) := by decide +kernel
theorem dX4_liftOf_38 : decode cX4_liftOf 38 = .ok (.iload_n 1, 1) := by decide +kernel
theorem dX4_liftOf_39 : decode cX4_liftOf 39 = .ok (.iaload, 1) := by decide +kernel
theorem dX4_liftOf_40 : decode cX4_liftOf 40 = .ok (.iaload, 1) := by decide +kernel
theorem dX4_liftOf_41 : decode cX4_liftOf 41 = .ok (.imul, 1) := by decide +kernel
theorem dX4_liftOf_42 : decode cX4_liftOf 42 = .ok (.aload_n 0, 1) := by decide +kernel
theorem dX4_liftOf_43 : decode cX4_liftOf 43 = .ok (.getfield 15, 3) := by decide +kernel
theorem dX4_liftOf_46 : decode cX4_liftOf 46 = .ok (.iload_n 1, 1) := by decide +kernel
theorem dX4_liftOf_47 : decode cX4_liftOf 47 = .ok (.iaload, 1) := by decide +kernel
theorem dX4_liftOf_48 : decode cX4_liftOf 48 = .ok (.imul, 1) := by decide +kernel
theorem dX4_liftOf_49 : decode cX4_liftOf 49 = .ok (.iload_n 2, 1) := by decide +kernel
theorem dX4_liftOf_50 : decode cX4_liftOf 50 = .ok (.idiv, 1) := by decide +kernel
theorem dX4_liftOf_51 : decode cX4_liftOf 51 = .ok (.ireturn, 1) := by decide +kernel
theorem dX4_enginesCost_0 : decode cX4_enginesCost 0 = .ok (.aload_n 0, 1) := by decide +kernel
theorem dX4_enginesCost_1 : decode cX4_enginesCost 1 = .ok (.iload_n 1, 1) := by decide +kernel
theorem dX4_enginesCost_2 : decode cX4_enginesCost 2 = .ok (.invokevirtual 35, 3) := by decide +kernel
theorem dX4_enginesCost_5 : decode cX4_enginesCost 5 = .ok (.ifCond .eq 27, 3) := by decide +kernel
theorem dX4_enginesCost_8 : decode cX4_enginesCost 8 = .ok (.aload_n 0, 1) := by decide +kernel
theorem dX4_enginesCost_9 : decode cX4_enginesCost 9 = .ok (.getfield 15, 3) := by decide +kernel
theorem dX4_enginesCost_12 : decode cX4_enginesCost 12 = .ok (.iload_n 1, 1) := by decide +kernel
theorem dX4_enginesCost_13 : decode cX4_enginesCost 13 = .ok (.iaload, 1) := by decide +kernel
theorem dX4_enginesCost_14 : decode cX4_enginesCost 14 = .ok (.aload_n 0, 1) := by decide +kernel
theorem dX4_enginesCost_15 : decode cX4_enginesCost 15 = .ok (.getfield 28, 3) := by decide +kernel
theorem dX4_enginesCost_18 : decode cX4_enginesCost 18 = .ok (.getfield 76, 3) := by decide +kernel
theorem dX4_enginesCost_21 : decode cX4_enginesCost 21 = .ok (.aload_n 0, 1) := by decide +kernel
theorem dX4_enginesCost_22 : decode cX4_enginesCost 22 = .ok (.getfield 9, 3) := by decide +kernel
theorem dX4_enginesCost_25 : decode cX4_enginesCost 25 = .ok (.iload_n 1, 1) := by decide +kernel
theorem dX4_enginesCost_26 : decode cX4_enginesCost 26 = .ok (.iaload, 1) := by decide +kernel
theorem dX4_enginesCost_27 : decode cX4_enginesCost 27 = .ok (.iaload, 1) := by decide +kernel
theorem dX4_enginesCost_28 : decode cX4_enginesCost 28 = .ok (.imul, 1) := by decide +kernel
theorem dX4_enginesCost_29 : decode cX4_enginesCost 29 = .ok (.goto 4, 3) := by decide +kernel
theorem dX4_enginesCost_32 : decode cX4_enginesCost 32 = .ok (.iconst 0, 1) := by decide +kernel
theorem dX4_enginesCost_33 : decode cX4_enginesCost 33 = .ok (.ireturn, 1) := by decide +kernel
theorem dX4_neededOf_0 : decode cX4_neededOf 0 = .ok (.iconst 0, 1) := by decide +kernel
theorem dX4_neededOf_1 : decode cX4_neededOf 1 = .ok (.istore_n 2, 1) := by decide +kernel
theorem dX4_neededOf_2 : decode cX4_neededOf 2 = .ok (.iconst 0, 1) := by decide +kernel
theorem dX4_neededOf_3 : decode cX4_neededOf 3 = .ok (.istore_n 3, 1) := by decide +kernel
theorem dX4_neededOf_4 : decode cX4_neededOf 4 = .ok (.iload_n 3, 1) := by decide +kernel
theorem dX4_neededOf_5 : decode cX4_neededOf 5 = .ok (.aload_n 0, 1) := by decide +kernel
theorem dX4_neededOf_6 : decode cX4_neededOf 6 = .ok (.getfield 24, 3) := by decide +kernel
theorem dX4_neededOf_9 : decode cX4_neededOf 9 = .ok (.if_icmp .ge 28, 3) := by decide +kernel
theorem dX4_neededOf_12 : decode cX4_neededOf 12 = .ok (.aload_n 0, 1) := by decide +kernel
theorem dX4_neededOf_13 : decode cX4_neededOf 13 = .ok (.getfield 9, 3) := by decide +kernel
theorem dX4_neededOf_16 : decode cX4_neededOf 16 = .ok (.iload_n 3, 1) := by decide +kernel
theorem dX4_neededOf_17 : decode cX4_neededOf 17 = .ok (.iaload, 1) := by decide +kernel
theorem dX4_neededOf_18 : decode cX4_neededOf 18 = .ok (.iload_n 1, 1) := by decide +kernel
theorem dX4_neededOf_19 : decode cX4_neededOf 19 = .ok (.if_icmp .ne 12, 3) := by decide +kernel
theorem dX4_neededOf_22 : decode cX4_neededOf 22 = .ok (.iload_n 2, 1) := by decide +kernel
theorem dX4_neededOf_23 : decode cX4_neededOf 23 = .ok (.aload_n 0, 1) := by decide +kernel
theorem dX4_neededOf_24 : decode cX4_neededOf 24 = .ok (.getfield 15, 3) := by decide +kernel
theorem dX4_neededOf_27 : decode cX4_neededOf 27 = .ok (.iload_n 3, 1) := by decide +kernel
theorem dX4_neededOf_28 : decode cX4_neededOf 28 = .ok (.iaload, 1) := by decide +kernel
theorem dX4_neededOf_29 : decode cX4_neededOf 29 = .ok (.iadd, 1) := by decide +kernel
theorem dX4_neededOf_30 : decode cX4_neededOf 30 = .ok (.istore_n 2, 1) := by decide +kernel
theorem dX4_neededOf_31 : decode cX4_neededOf 31 = .ok (.iinc 3 1, 3) := by decide +kernel
theorem dX4_neededOf_34 : decode cX4_neededOf 34 = .ok (.goto (-30), 3) := by decide +kernel
theorem dX4_neededOf_37 : decode cX4_neededOf 37 = .ok (.iload_n 2, 1) := by decide +kernel
theorem dX4_neededOf_38 : decode cX4_neededOf 38 = .ok (.ireturn, 1) := by decide +kernel
theorem dX4_priceNow_0 : decode cX4_priceNow 0 = .ok (.iconst 0, 1) := by decide +kernel
theorem dX4_priceNow_1 : decode cX4_priceNow 1 = .ok (.istore_n 1, 1) := by decide +kernel
theorem dX4_priceNow_2 : decode cX4_priceNow 2 = .ok (.iconst 0, 1) := by decide +kernel
theorem dX4_priceNow_3 : decode cX4_priceNow 3 = .ok (.istore_n 2, 1) := by decide +kernel
theorem dX4_priceNow_4 : decode cX4_priceNow 4 = .ok (.iload_n 2, 1) := by decide +kernel
theorem dX4_priceNow_5 : decode cX4_priceNow 5 = .ok (.aload_n 0, 1) := by decide +kernel
theorem dX4_priceNow_6 : decode cX4_priceNow 6 = .ok (.getfield 28, 3) := by decide +kernel
theorem dX4_priceNow_9 : decode cX4_priceNow 9 = .ok (.getfield 79, 3) := by decide +kernel
theorem dX4_priceNow_12 : decode cX4_priceNow 12 = .ok (.if_icmp .ge 31, 3) := by decide +kernel
theorem dX4_priceNow_15 : decode cX4_priceNow 15 = .ok (.iload_n 1, 1) := by decide +kernel
theorem dX4_priceNow_16 : decode cX4_priceNow 16 = .ok (.aload_n 0, 1) := by decide +kernel
theorem dX4_priceNow_17 : decode cX4_priceNow 17 = .ok (.getfield 28, 3) := by decide +kernel
theorem dX4_priceNow_20 : decode cX4_priceNow 20 = .ok (.iload_n 2, 1) := by decide +kernel
theorem dX4_priceNow_21 : decode cX4_priceNow 21 = .ok (.aload_n 0, 1) := by decide +kernel
theorem dX4_priceNow_22 : decode cX4_priceNow 22 = .ok (.iload_n 2, 1) := by decide +kernel
theorem dX4_priceNow_23 : decode cX4_priceNow 23 = .ok (.invokevirtual 80, 3) := by decide +kernel
theorem dX4_priceNow_26 : decode cX4_priceNow 26 = .ok (.aload_n 0, 1) := by decide +kernel
theorem dX4_priceNow_27 : decode cX4_priceNow 27 = .ok (.getfield 32, 3) := by decide +kernel
theorem dX4_priceNow_30 : decode cX4_priceNow 30 = .ok (.iconst 2, 1) := by decide +kernel
theorem dX4_priceNow_31 : decode cX4_priceNow 31 = .ok (.iaload, 1) := by decide +kernel
theorem dX4_priceNow_32 : decode cX4_priceNow 32 = .ok (.invokevirtual 83, 3) := by decide +kernel
theorem dX4_priceNow_35 : decode cX4_priceNow 35 = .ok (.iadd, 1) := by decide +kernel
theorem dX4_priceNow_36 : decode cX4_priceNow 36 = .ok (.istore_n 1, 1) := by decide +kernel
theorem dX4_priceNow_37 : decode cX4_priceNow 37 = .ok (.iinc 2 1, 3) := by decide +kernel
theorem dX4_priceNow_40 : decode cX4_priceNow 40 = .ok (.goto (-36), 3) := by decide +kernel
theorem dX4_priceNow_43 : decode cX4_priceNow 43 = .ok (.iconst 0, 1) := by decide +kernel
theorem dX4_priceNow_44 : decode cX4_priceNow 44 = .ok (.istore_n 2, 1) := by decide +kernel
theorem dX4_priceNow_45 : decode cX4_priceNow 45 = .ok (.iload_n 2, 1) := by decide +kernel
theorem dX4_priceNow_46 : decode cX4_priceNow 46 = .ok (.aload_n 0, 1) := by decide +kernel
theorem dX4_priceNow_47 : decode cX4_priceNow 47 = .ok (.getfield 24, 3) := by decide +kernel
theorem dX4_priceNow_50 : decode cX4_priceNow 50 = .ok (.if_icmp .ge 40, 3) := by decide +kernel
theorem dX4_priceNow_53 : decode cX4_priceNow 53 = .ok (.iload_n 1, 1) := by decide +kernel
theorem dX4_priceNow_54 : decode cX4_priceNow 54 = .ok (.aload_n 0, 1) := by decide +kernel
theorem dX4_priceNow_55 : decode cX4_priceNow 55 = .ok (.getfield 21, 3) := by decide +kernel
theorem dX4_priceNow_58 : decode cX4_priceNow 58 = .ok (.iload_n 2, 1) := by decide +kernel
theorem dX4_priceNow_59 : decode cX4_priceNow 59 = .ok (.iaload, 1) := by decide +kernel
theorem dX4_priceNow_60 : decode cX4_priceNow 60 = .ok (.iadd, 1) := by decide +kernel
theorem dX4_priceNow_61 : decode cX4_priceNow 61 = .ok (.istore_n 1, 1) := by decide +kernel
theorem dX4_priceNow_62 : decode cX4_priceNow 62 = .ok (.iload_n 1, 1) := by decide +kernel
theorem dX4_priceNow_63 : decode cX4_priceNow 63 = .ok (.aload_n 0, 1) := by decide +kernel
theorem dX4_priceNow_64 : decode cX4_priceNow 64 = .ok (.getfield 18, 3) := by decide +kernel
theorem dX4_priceNow_67 : decode cX4_priceNow 67 = .ok (.iload_n 2, 1) := by decide +kernel
theorem dX4_priceNow_68 : decode cX4_priceNow 68 = .ok (.iaload, 1) := by decide +kernel
theorem dX4_priceNow_69 : decode cX4_priceNow 69 = .ok (.ifCond .le 12, 3) := by decide +kernel
theorem dX4_priceNow_72 : decode cX4_priceNow 72 = .ok (.aload_n 0, 1) := by decide +kernel
theorem dX4_priceNow_73 : decode cX4_priceNow 73 = .ok (.getfield 32, 3) := by decide +kernel
theorem dX4_priceNow_76 : decode cX4_priceNow 76 = .ok (.iconst 1, 1) := by decide +kernel
theorem dX4_priceNow_77 : decode cX4_priceNow 77 = .ok (.iaload, 1) := by decide +kernel
theorem dX4_priceNow_78 : decode cX4_priceNow 78 = .ok (.goto 4, 3) := by decide +kernel
theorem dX4_priceNow_81 : decode cX4_priceNow 81 = .ok (.iconst 0, 1) := by decide +kernel
theorem dX4_priceNow_82 : decode cX4_priceNow 82 = .ok (.iadd, 1) := by decide +kernel
theorem dX4_priceNow_83 : decode cX4_priceNow 83 = .ok (.istore_n 1, 1) := by decide +kernel
theorem dX4_priceNow_84 : decode cX4_priceNow 84 = .ok (.iinc 2 1, 3) := by decide +kernel
theorem dX4_priceNow_87 : decode cX4_priceNow 87 = .ok (.goto (-42), 3) := by decide +kernel
theorem dX4_priceNow_90 : decode cX4_priceNow 90 = .ok (.iload_n 1, 1) := by decide +kernel
theorem dX4_priceNow_91 : decode cX4_priceNow 91 = .ok (.ireturn, 1) := by decide +kernel
theorem dX5_init_0 : decode cX5_init 0 = .ok (.aload_n 0, 1) := by decide +kernel
theorem dX5_init_1 : decode cX5_init 1 = .ok (.invokespecial 3, 3) := by decide +kernel
theorem dX5_init_4 : decode cX5_init 4 = .ok (.aload_n 0, 1) := by decide +kernel
theorem dX5_init_5 : decode cX5_init 5 = .ok (.bipush 10, 2) := by decide +kernel
theorem dX5_init_7 : decode cX5_init 7 = .ok (.newarray .int, 2) := by decide +kernel
theorem dX5_init_9 : decode cX5_init 9 = .ok (.putfield 9, 3) := by decide +kernel
theorem dX5_init_12 : decode cX5_init 12 = .ok (.aload_n 0, 1) := by decide +kernel
theorem dX5_init_13 : decode cX5_init 13 = .ok (.iconst 3, 1) := by decide +kernel
theorem dX5_init_14 : decode cX5_init 14 = .ok (.newarray .int, 2) := by decide +kernel
theorem dX5_init_16 : decode cX5_init 16 = .ok (.dup, 1) := by decide +kernel
theorem dX5_init_17 : decode cX5_init 17 = .ok (.iconst 0, 1) := by decide +kernel
theorem dX5_init_18 : decode cX5_init 18 = .ok (.ldc 15, 2) := by decide +kernel
theorem dX5_init_20 : decode cX5_init 20 = .ok (.iastore, 1) := by decide +kernel
theorem dX5_init_21 : decode cX5_init 21 = .ok (.dup, 1) := by decide +kernel
theorem dX5_init_22 : decode cX5_init 22 = .ok (.iconst 1, 1) := by decide +kernel
theorem dX5_init_23 : decode cX5_init 23 = .ok (.iconst 0, 1) := by decide +kernel
theorem dX5_init_24 : decode cX5_init 24 = .ok (.iastore, 1) := by decide +kernel
theorem dX5_init_25 : decode cX5_init 25 = .ok (.dup, 1) := by decide +kernel
theorem dX5_init_26 : decode cX5_init 26 = .ok (.iconst 2, 1) := by decide +kernel
theorem dX5_init_27 : decode cX5_init 27 = .ok (.iconst 0, 1) := by decide +kernel
theorem dX5_init_28 : decode cX5_init 28 = .ok (.iastore, 1) := by decide +kernel
theorem dX5_init_29 : decode cX5_init 29 = .ok (.putfield 16, 3) := by decide +kernel
theorem dX5_init_32 : decode cX5_init 32 = .ok (.iconst 0, 1) := by decide +kernel
theorem dX5_init_33 : decode cX5_init 33 = .ok (.istore_n 1, 1) := by decide +kernel
theorem dX5_init_34 : decode cX5_init 34 = .ok (.iload_n 1, 1) := by decide +kernel
theorem dX5_init_35 : decode cX5_init 35 = .ok (.bipush 10, 2) := by decide +kernel
theorem dX5_init_37 : decode cX5_init 37 = .ok (.if_icmp .ge 22, 3) := by decide +kernel
theorem dX5_init_40 : decode cX5_init 40 = .ok (.aload_n 0, 1) := by decide +kernel
theorem dX5_init_41 : decode cX5_init 41 = .ok (.getfield 9, 3) := by decide +kernel
theorem dX5_init_44 : decode cX5_init 44 = .ok (.iload_n 1, 1) := by decide +kernel
theorem dX5_init_45 : decode cX5_init 45 = .ok (.bipush 100, 2) := by decide +kernel
theorem dX5_init_47 : decode cX5_init 47 = .ok (.bipush 10, 2) := by decide +kernel
theorem dX5_init_49 : decode cX5_init 49 = .ok (.iload_n 1, 1) := by decide +kernel
theorem dX5_init_50 : decode cX5_init 50 = .ok (.imul, 1) := by decide +kernel
theorem dX5_init_51 : decode cX5_init 51 = .ok (.isub, 1) := by decide +kernel
theorem dX5_init_52 : decode cX5_init 52 = .ok (.iastore, 1) := by decide +kernel
theorem dX5_init_53 : decode cX5_init 53 = .ok (.iinc 1 1, 3) := by decide +kernel
theorem dX5_init_56 : decode cX5_init 56 = .ok (.goto (-22), 3) := by decide +kernel
theorem dX5_init_59 : decode cX5_init 59 = .ok (.return_, 1) := by decide +kernel
theorem dX5_dragOf_0 : decode cX5_dragOf 0 = .ok (.iload_n 1, 1) := by decide +kernel
theorem dX5_dragOf_1 : decode cX5_dragOf 1 = .ok (.ifCond .eq 14, 3) := by decide +kernel
theorem dX5_dragOf_4 : decode cX5_dragOf 4 = .ok (.iload_n 2, 1) := by decide +kernel
theorem dX5_dragOf_5 : decode cX5_dragOf 5 = .ok (.ifCond .lt 10, 3) := by decide +kernel
theorem dX5_dragOf_8 : decode cX5_dragOf 8 = .ok (.iload_n 2, 1) := by decide +kernel
theorem dX5_dragOf_9 : decode cX5_dragOf 9 = .ok (.sipush 10000, 3) := by decide +kernel
theorem dX5_dragOf_12 : decode cX5_dragOf 12 = .ok (.if_icmp .lt 5, 3) := by decide +kernel
theorem dX5_dragOf_15 : decode cX5_dragOf 15 = .ok (.iconst 0, 1) := by decide +kernel
theorem dX5_dragOf_16 : decode cX5_dragOf 16 = .ok (.ireturn, 1) := by decide +kernel
theorem dX5_dragOf_17 : decode cX5_dragOf 17 = .ok (.iload_n 1, 1) := by decide +kernel
theorem dX5_dragOf_18 : decode cX5_dragOf 18 = .ok (.i2l, 1) := by decide +kernel
theorem dX5_dragOf_19 : decode cX5_dragOf 19 = .ok (.iload_n 1, 1) := by decide +kernel
theorem dX5_dragOf_20 : decode cX5_dragOf 20 = .ok (.i2l, 1) := by decide +kernel
theorem dX5_dragOf_21 : decode cX5_dragOf 21 = .ok (.lmul, 1) := by decide +kernel
theorem dX5_dragOf_22 : decode cX5_dragOf 22 = .ok (.ldc2_w 19, 3) := by decide +kernel
theorem dX5_dragOf_25 : decode cX5_dragOf 25 = .ok (.ldiv, 1) := by decide +kernel
theorem dX5_dragOf_26 : decode cX5_dragOf 26 = .ok (.lstore_n 3, 1) := by decide +kernel
theorem dX5_dragOf_27 : decode cX5_dragOf 27 = .ok (.lload_n 3, 1) := by decide +kernel
theorem dX5_dragOf_28 : decode cX5_dragOf 28 = .ok (.aload_n 0, 1) := by decide +kernel
theorem dX5_dragOf_29 : decode cX5_dragOf 29 = .ok (.getfield 9, 3) := by decide +kernel
theorem dX5_dragOf_32 : decode cX5_dragOf 32 = .ok (.iload_n 2, 1) := by decide +kernel
theorem dX5_dragOf_33 : decode cX5_dragOf 33 = .ok (.sipush 1000, 3) := by decide +kernel
theorem dX5_dragOf_36 : decode cX5_dragOf 36 = .ok (.idiv, 1) := by decide +kernel
theorem dX5_dragOf_37 : decode cX5_dragOf 37 = .ok (.iaload, 1) := by decide +kernel
theorem dX5_dragOf_38 : decode cX5_dragOf 38 = .ok (.i2l, 1) := by decide +kernel
theorem dX5_dragOf_39 : decode cX5_dragOf 39 = .ok (.lmul, 1) := by decide +kernel
theorem dX5_dragOf_40 : decode cX5_dragOf 40 = .ok (.ldc2_w 19, 3) := by decide +kernel
theorem dX5_dragOf_43 : decode cX5_dragOf 43 = .ok (.ldiv, 1) := by decide +kernel
theorem dX5_dragOf_44 : decode cX5_dragOf 44 = .ok (.l2i, 1) := by decide +kernel
theorem dX5_dragOf_45 : decode cX5_dragOf 45 = .ok (.ireturn, 1) := by decide +kernel
theorem dX6_init_0 : decode cX6_init 0 = .ok (.aload_n 0, 1) := by decide +kernel
theorem dX6_init_1 : decode cX6_init 1 = .ok (.invokespecial 3, 3) := by decide +kernel
theorem dX6_init_4 : decode cX6_init 4 = .ok (.aload_n 0, 1) := by decide +kernel
theorem dX6_init_5 : decode cX6_init 5 = .ok (.bipush 84, 2) := by decide +kernel
theorem dX6_init_7 : decode cX6_init 7 = .ok (.newarray .int, 2) := by decide +kernel
theorem dX6_init_9 : decode cX6_init 9 = .ok (.putfield 11, 3) := by decide +kernel
theorem dX6_init_12 : decode cX6_init 12 = .ok (.aload_n 0, 1) := by decide +kernel
theorem dX6_init_13 : decode cX6_init 13 = .ok (.bipush 84, 2) := by decide +kernel
theorem dX6_init_15 : decode cX6_init 15 = .ok (.newarray .int, 2) := by decide +kernel
theorem dX6_init_17 : decode cX6_init 17 = .ok (.putfield 15, 3) := by decide +kernel
theorem dX6_init_20 : decode cX6_init 20 = .ok (.aload_n 0, 1) := by decide +kernel
theorem dX6_init_21 : decode cX6_init 21 = .ok (.iconst 1, 1) := by decide +kernel
theorem dX6_init_22 : decode cX6_init 22 = .ok (.putfield 18, 3) := by decide +kernel
theorem dX6_init_25 : decode cX6_init 25 = .ok (.aload_n 0, 1) := by decide +kernel
theorem dX6_init_26 : decode cX6_init 26 = .ok (.iconst 0, 1) := by decide +kernel
theorem dX6_init_27 : decode cX6_init 27 = .ok (.putfield 22, 3) := by decide +kernel
theorem dX6_init_30 : decode cX6_init 30 = .ok (.aload_n 0, 1) := by decide +kernel
theorem dX6_init_31 : decode cX6_init 31 = .ok (.iconst 0, 1) := by decide +kernel
theorem dX6_init_32 : decode cX6_init 32 = .ok (.putfield 25, 3) := by decide +kernel
theorem dX6_init_35 : decode cX6_init 35 = .ok (.aload_n 0, 1) := by decide +kernel
theorem dX6_init_36 : decode cX6_init 36 = .ok (.aload_n 1, 1) := by decide +kernel
theorem dX6_init_37 : decode cX6_init 37 = .ok (.putfield 28, 3) := by decide +kernel
theorem dX6_init_40 : decode cX6_init 40 = .ok (.aload_n 0, 1) := by decide +kernel
theorem dX6_init_41 : decode cX6_init 41 = .ok (.aload_n 2, 1) := by decide +kernel
theorem dX6_init_42 : decode cX6_init 42 = .ok (.putfield 32, 3) := by decide +kernel
theorem dX6_init_45 : decode cX6_init 45 = .ok (.return_, 1) := by decide +kernel
theorem dX6_search_0 : decode cX6_search 0 = .ok (.aload_n 0, 1) := by decide +kernel
theorem dX6_search_1 : decode cX6_search 1 = .ok (.iload_n 2, 1) := by decide +kernel
theorem dX6_search_2 : decode cX6_search 2 = .ok (.putfield 18, 3) := by decide +kernel
theorem dX6_search_5 : decode cX6_search 5 = .ok (.aload_n 0, 1) := by decide +kernel
theorem dX6_search_6 : decode cX6_search 6 = .ok (.aload_n 0, 1) := by decide +kernel
theorem dX6_search_7 : decode cX6_search 7 = .ok (.getfield 28, 3) := by decide +kernel
theorem dX6_search_10 : decode cX6_search 10 = .ok (.getfield 36, 3) := by decide +kernel
theorem dX6_search_13 : decode cX6_search 13 = .ok (.putfield 25, 3) := by decide +kernel
theorem dX6_search_16 : decode cX6_search 16 = .ok (.iconst 0, 1) := by decide +kernel
theorem dX6_search_17 : decode cX6_search 17 = .ok (.istore_n 3, 1) := by decide +kernel
theorem dX6_search_18 : decode cX6_search 18 = .ok (.iload_n 3, 1) := by decide +kernel
theorem dX6_search_19 : decode cX6_search 19 = .ok (.aload_n 0, 1) := by decide +kernel
theorem dX6_search_20 : decode cX6_search 20 = .ok (.getfield 11, 3) := by decide +kernel
theorem dX6_search_23 : decode cX6_search 23 = .ok (.arraylength, 1) := by decide +kernel
theorem dX6_search_24 : decode cX6_search 24 = .ok (.if_icmp .ge 16, 3) := by decide +kernel
theorem dX6_search_27 : decode cX6_search 27 = .ok (.aload_n 0, 1) := by decide +kernel
theorem dX6_search_28 : decode cX6_search 28 = .ok (.getfield 11, 3) := by decide +kernel
theorem dX6_search_31 : decode cX6_search 31 = .ok (.iload_n 3, 1) := by decide +kernel
theorem dX6_search_32 : decode cX6_search 32 = .ok (.iconst (-1), 1) := by decide +kernel
theorem dX6_search_33 : decode cX6_search 33 = .ok (.iastore, 1) := by decide +kernel
theorem dX6_search_34 : decode cX6_search 34 = .ok (.iinc 3 1, 3) := by decide +kernel
theorem dX6_search_37 : decode cX6_search 37 = .ok (.goto (-19), 3) := by decide +kernel
theorem dX6_search_40 : decode cX6_search 40 = .ok (.aload_n 0, 1) := by decide +kernel
theorem dX6_search_41 : decode cX6_search 41 = .ok (.getfield 11, 3) := by decide +kernel
theorem dX6_search_44 : decode cX6_search 44 = .ok (.iconst 0, 1) := by decide +kernel
theorem dX6_search_45 : decode cX6_search 45 = .ok (.iconst 0, 1) := by decide +kernel
theorem dX6_search_46 : decode cX6_search 46 = .ok (.iastore, 1) := by decide +kernel
theorem dX6_search_47 : decode cX6_search 47 = .ok (.aload_n 0, 1) := by decide +kernel
theorem dX6_search_48 : decode cX6_search 48 = .ok (.getfield 15, 3) := by decide +kernel
theorem dX6_search_51 : decode cX6_search 51 = .ok (.iconst 0, 1) := by decide +kernel
theorem dX6_search_52 : decode cX6_search 52 = .ok (.iconst 0, 1) := by decide +kernel
theorem dX6_search_53 : decode cX6_search 53 = .ok (.iastore, 1) := by decide +kernel
theorem dX6_search_54 : decode cX6_search 54 = .ok (.aload_n 0, 1) := by decide +kernel
theorem dX6_search_55 : decode cX6_search 55 = .ok (.getfield 28, 3) := by decide +kernel
theorem dX6_search_58 : decode cX6_search 58 = .ok (.invokevirtual 41, 3) := by decide +kernel
theorem dX6_search_61 : decode cX6_search 61 = .ok (.istore_n 3, 1) := by decide +kernel
theorem dX6_search_62 : decode cX6_search 62 = .ok (.aload_n 0, 1) := by decide +kernel
theorem dX6_search_63 : decode cX6_search 63 = .ok (.getfield 25, 3) := by decide +kernel
theorem dX6_search_66 : decode cX6_search 66 = .ok (.iconst 1, 1) := by decide +kernel
theorem dX6_search_67 : decode cX6_search 67 = .ok (.isub, 1) := by decide +kernel
theorem dX6_search_68 : decode cX6_search 68 = .ok (.istore 4, 2) := by decide +kernel
theorem dX6_search_70 : decode cX6_search 70 = .ok (.iload 4, 2) := by decide +kernel
theorem dX6_search_72 : decode cX6_search 72 = .ok (.ifCond .lt 86, 3) := by decide +kernel
theorem dX6_search_75 : decode cX6_search 75 = .ok (.iload_n 3, 1) := by decide +kernel
theorem dX6_search_76 : decode cX6_search 76 = .ok (.aload_n 0, 1) := by decide +kernel
theorem dX6_search_77 : decode cX6_search 77 = .ok (.getfield 28, 3) := by decide +kernel
theorem dX6_search_80 : decode cX6_search 80 = .ok (.iload 4, 2) := by decide +kernel
theorem dX6_search_82 : decode cX6_search 82 = .ok (.invokevirtual 45, 3) := by decide +kernel
theorem dX6_search_85 : decode cX6_search 85 = .ok (.iadd, 1) := by decide +kernel
theorem dX6_search_86 : decode cX6_search 86 = .ok (.istore_n 3, 1) := by decide +kernel
theorem dX6_search_87 : decode cX6_search 87 = .ok (.iload_n 3, 1) := by decide +kernel
theorem dX6_search_88 : decode cX6_search 88 = .ok (.iload_n 1, 1) := by decide +kernel
theorem dX6_search_89 : decode cX6_search 89 = .ok (.aload_n 0, 1) := by decide +kernel
theorem dX6_search_90 : decode cX6_search 90 = .ok (.getfield 18, 3) := by decide +kernel
theorem dX6_search_93 : decode cX6_search 93 = .ok (.imul, 1) := by decide +kernel
theorem dX6_search_94 : decode cX6_search 94 = .ok (.iadd, 1) := by decide +kernel
theorem dX6_search_95 : decode cX6_search 95 = .ok (.aload_n 0, 1) := by decide +kernel
theorem dX6_search_96 : decode cX6_search 96 = .ok (.iload_n 1, 1) := by decide +kernel
theorem dX6_search_97 : decode cX6_search 97 = .ok (.invokevirtual 49, 3) := by decide +kernel
theorem dX6_search_100 : decode cX6_search 100 = .ok (.iadd, 1) := by decide +kernel
theorem dX6_search_101 : decode cX6_search 101 = .ok (.iconst 4, 1) := by decide +kernel
theorem dX6_search_102 : decode cX6_search 102 = .ok (.iadd, 1) := by decide +kernel
theorem dX6_search_103 : decode cX6_search 103 = .ok (.istore 5, 2) := by decide +kernel
theorem dX6_search_105 : decode cX6_search 105 = .ok (.aload_n 0, 1) := by decide +kernel
theorem dX6_search_106 : decode cX6_search 106 = .ok (.getfield 32, 3) := by decide +kernel
theorem dX6_search_109 : decode cX6_search 109 = .ok (.aload_n 0, 1) := by decide +kernel
theorem dX6_search_110 : decode cX6_search 110 = .ok (.getfield 28, 3) := by decide +kernel
theorem dX6_search_113 : decode cX6_search 113 = .ok (.iload 4, 2) := by decide +kernel
theorem dX6_search_115 : decode cX6_search 115 = .ok (.invokevirtual 52, 3) := by decide +kernel
theorem dX6_search_118 : decode cX6_search 118 = .ok (.iload_n 3, 1) := by decide +kernel
theorem dX6_search_119 : decode cX6_search 119 = .ok (.iload 5, 2) := by decide +kernel
theorem dX6_search_121 : decode cX6_search 121 = .ok (.invokevirtual 55, 3) := by decide +kernel
theorem dX6_search_124 : decode cX6_search 124 = .ok (.iload_n 1, 1) := by decide +kernel
theorem dX6_search_125 : decode cX6_search 125 = .ok (.bipush 20, 2) := by decide +kernel
theorem dX6_search_127 : decode cX6_search 127 = .ok (.invokestatic 61, 3) := by decide +kernel
theorem dX6_search_130 : decode cX6_search 130 = .ok (.istore 6, 2) := by decide +kernel
theorem dX6_search_132 : decode cX6_search 132 = .ok (.iload 6, 2) := by decide +kernel
theorem dX6_search_134 : decode cX6_search 134 = .ok (.ifCond .le 18, 3) := by decide +kernel
theorem dX6_search_137 : decode cX6_search 137 = .ok (.aload_n 0, 1) := by decide +kernel
theorem dX6_search_138 : decode cX6_search 138 = .ok (.iload 4, 2) := by decide +kernel
theorem dX6_search_140 : decode cX6_search 140 = .ok (.iload_n 3, 1) := by decide +kernel
theorem dX6_search_141 : decode cX6_search 141 = .ok (.iload 6, 2) := by decide +kernel
theorem dX6_search_143 : decode cX6_search 143 = .ok (.invokevirtual 67, 3) := by decide +kernel
theorem dX6_search_146 : decode cX6_search 146 = .ok (.iinc 6 (-1), 3) := by decide +kernel
theorem dX6_search_149 : decode cX6_search 149 = .ok (.goto (-17), 3) := by decide +kernel
theorem dX6_search_152 : decode cX6_search 152 = .ok (.iinc 4 (-1), 3) := by decide +kernel
theorem dX6_search_155 : decode cX6_search 155 = .ok (.goto (-85), 3) := by decide +kernel
theorem dX6_search_158 : decode cX6_search 158 = .ok (.aload_n 0, 1) := by decide +kernel
theorem dX6_search_159 : decode cX6_search 159 = .ok (.iload_n 1, 1) := by decide +kernel
theorem dX6_search_160 : decode cX6_search 160 = .ok (.invokevirtual 70, 3) := by decide +kernel
theorem dX6_search_163 : decode cX6_search 163 = .ok (.ireturn, 1) := by decide +kernel
theorem dX6_tankFor_0 : decode cX6_tankFor 0 = .ok (.aload_n 0, 1) := by decide +kernel
theorem dX6_tankFor_1 : decode cX6_tankFor 1 = .ok (.getfield 28, 3) := by decide +kernel
theorem dX6_tankFor_4 : decode cX6_tankFor 4 = .ok (.iload_n 1, 1) := by decide +kernel
theorem dX6_tankFor_5 : decode cX6_tankFor 5 = .ok (.aload_n 0, 1) := by decide +kernel
theorem dX6_tankFor_6 : decode cX6_tankFor 6 = .ok (.getfield 18, 3) := by decide +kernel
theorem dX6_tankFor_9 : decode cX6_tankFor 9 = .ok (.imul, 1) := by decide +kernel
theorem dX6_tankFor_10 : decode cX6_tankFor 10 = .ok (.invokevirtual 73, 3) := by decide +kernel
theorem dX6_tankFor_13 : decode cX6_tankFor 13 = .ok (.ireturn, 1) := by decide +kernel
theorem dX6_fill_0 : decode cX6_fill 0 = .ok (.iconst 1, 1) := by decide +kernel
theorem dX6_fill_1 : decode cX6_fill 1 = .ok (.istore 4, 2) := by decide +kernel
theorem dX6_fill_3 : decode cX6_fill 3 = .ok (.iload 4, 2) := by decide +kernel
theorem dX6_fill_5 : decode cX6_fill 5 = .ok (.iload_n 3, 1) := by decide +kernel
theorem dX6_fill_6 : decode cX6_fill 6 = .ok (.if_icmp .gt 154, 3) := by decide +kernel
theorem dX6_fill_9 : decode cX6_fill 9 = .ok (.iload_n 3, 1) := by decide +kernel
theorem dX6_fill_10 : decode cX6_fill 10 = .ok (.iload 4, 2) := by decide +kernel
theorem dX6_fill_12 : decode cX6_fill 12 = .ok (.isub, 1) := by decide +kernel
theorem dX6_fill_13 : decode cX6_fill 13 = .ok (.istore 5, 2) := by decide +kernel
theorem dX6_fill_15 : decode cX6_fill 15 = .ok (.aload_n 0, 1) := by decide +kernel
theorem dX6_fill_16 : decode cX6_fill 16 = .ok (.iload 5, 2) := by decide +kernel
theorem dX6_fill_18 : decode cX6_fill 18 = .ok (.invokevirtual 49, 3) := by decide +kernel
theorem dX6_fill_21 : decode cX6_fill 21 = .ok (.aload_n 0, 1) := by decide +kernel
theorem dX6_fill_22 : decode cX6_fill 22 = .ok (.iload 4, 2) := by decide +kernel
theorem dX6_fill_24 : decode cX6_fill 24 = .ok (.invokevirtual 49, 3) := by decide +kernel
theorem dX6_fill_27 : decode cX6_fill 27 = .ok (.iadd, 1) := by decide +kernel
theorem dX6_fill_28 : decode cX6_fill 28 = .ok (.istore 6, 2) := by decide +kernel
theorem dX6_fill_30 : decode cX6_fill 30 = .ok (.iload 6, 2) := by decide +kernel
theorem dX6_fill_32 : decode cX6_fill 32 = .ok (.aload_n 0, 1) := by decide +kernel
theorem dX6_fill_33 : decode cX6_fill 33 = .ok (.iload_n 3, 1) := by decide +kernel
theorem dX6_fill_34 : decode cX6_fill 34 = .ok (.invokevirtual 49, 3) := by decide +kernel
theorem dX6_fill_37 : decode cX6_fill 37 = .ok (.isub, 1) := by decide +kernel
theorem dX6_fill_38 : decode cX6_fill 38 = .ok (.istore 7, 2) := by decide +kernel
theorem dX6_fill_40 : decode cX6_fill 40 = .ok (.iload_n 2, 1) := by decide +kernel
theorem dX6_fill_41 : decode cX6_fill 41 = .ok (.iload 5, 2) := by decide +kernel
theorem dX6_fill_43 : decode cX6_fill 43 = .ok (.aload_n 0, 1) := by decide +kernel
theorem dX6_fill_44 : decode cX6_fill 44 = .ok (.getfield 18, 3) := by decide +kernel
theorem dX6_fill_47 : decode cX6_fill 47 = .ok (.imul, 1) := by decide +kernel
theorem dX6_fill_48 : decode cX6_fill 48 = .ok (.iadd, 1) := by decide +kernel
theorem dX6_fill_49 : decode cX6_fill 49 = .ok (.iload 6, 2) := by decide +kernel
theorem dX6_fill_51 : decode cX6_fill 51 = .ok (.iadd, 1) := by decide +kernel
theorem dX6_fill_52 : decode cX6_fill 52 = .ok (.istore 8, 2) := by decide +kernel
theorem dX6_fill_54 : decode cX6_fill 54 = .ok (.iconst 0, 1) := by decide +kernel
theorem dX6_fill_55 : decode cX6_fill 55 = .ok (.istore 9, 2) := by decide +kernel
theorem dX6_fill_57 : decode cX6_fill 57 = .ok (.iload 9, 2) := by decide +kernel
theorem dX6_fill_59 : decode cX6_fill 59 = .ok (.iconst 4, 1) := by decide +kernel
theorem dX6_fill_60 : decode cX6_fill 60 = .ok (.if_icmp .ge 94, 3) := by decide +kernel
theorem dX6_fill_63 : decode cX6_fill 63 = .ok (.iload 5, 2) := by decide +kernel
theorem dX6_fill_65 : decode cX6_fill 65 = .ok (.iconst 4, 1) := by decide +kernel
theorem dX6_fill_66 : decode cX6_fill 66 = .ok (.imul, 1) := by decide +kernel
theorem dX6_fill_67 : decode cX6_fill 67 = .ok (.iload 9, 2) := by decide +kernel
theorem dX6_fill_69 : decode cX6_fill 69 = .ok (.iadd, 1) := by decide +kernel
theorem dX6_fill_70 : decode cX6_fill 70 = .ok (.istore 10, 2) := by decide +kernel
theorem dX6_fill_72 : decode cX6_fill 72 = .ok (.aload_n 0, 1) := by decide +kernel
theorem dX6_fill_73 : decode cX6_fill 73 = .ok (.getfield 11, 3) := by decide +kernel
theorem dX6_fill_76 : decode cX6_fill 76 = .ok (.iload 10, 2) := by decide +kernel
theorem dX6_fill_78 : decode cX6_fill 78 = .ok (.iaload, 1) := by decide +kernel
theorem dX6_fill_79 : decode cX6_fill 79 = .ok (.iconst (-1), 1) := by decide +kernel
theorem dX6_fill_80 : decode cX6_fill 80 = .ok (.if_icmp .eq 68, 3) := by decide +kernel
theorem dX6_fill_83 : decode cX6_fill 83 = .ok (.iload 8, 2) := by decide +kernel
theorem dX6_fill_85 : decode cX6_fill 85 = .ok (.iload 9, 2) := by decide +kernel
theorem dX6_fill_87 : decode cX6_fill 87 = .ok (.iadd, 1) := by decide +kernel
theorem dX6_fill_88 : decode cX6_fill 88 = .ok (.istore 11, 2) := by decide +kernel
theorem dX6_fill_90 : decode cX6_fill 90 = .ok (.aload_n 0, 1) := by decide +kernel
theorem dX6_fill_91 : decode cX6_fill 91 = .ok (.getfield 11, 3) := by decide +kernel
theorem dX6_fill_94 : decode cX6_fill 94 = .ok (.iload 10, 2) := by decide +kernel
theorem dX6_fill_96 : decode cX6_fill 96 = .ok (.iaload, 1) := by decide +kernel
theorem dX6_fill_97 : decode cX6_fill 97 = .ok (.aload_n 0, 1) := by decide +kernel
theorem dX6_fill_98 : decode cX6_fill 98 = .ok (.getfield 32, 3) := by decide +kernel
theorem dX6_fill_101 : decode cX6_fill 101 = .ok (.iload 11, 2) := by decide +kernel
theorem dX6_fill_103 : decode cX6_fill 103 = .ok (.iload 11, 2) := by decide +kernel
theorem dX6_fill_105 : decode cX6_fill 105 = .ok (.iload 4, 2) := by decide +kernel
theorem dX6_fill_107 : decode cX6_fill 107 = .ok (.aload_n 0, 1) := by decide +kernel
theorem dX6_fill_108 : decode cX6_fill 108 = .ok (.getfield 18, 3) := by decide +kernel
theorem dX6_fill_111 : decode cX6_fill 111 = .ok (.imul, 1) := by decide +kernel
theorem dX6_fill_112 : decode cX6_fill 112 = .ok (.iadd, 1) := by decide +kernel
theorem dX6_fill_113 : decode cX6_fill 113 = .ok (.invokevirtual 74, 3) := by decide +kernel
theorem dX6_fill_116 : decode cX6_fill 116 = .ok (.iadd, 1) := by decide +kernel
theorem dX6_fill_117 : decode cX6_fill 117 = .ok (.istore 12, 2) := by decide +kernel
theorem dX6_fill_119 : decode cX6_fill 119 = .ok (.aload_n 0, 1) := by decide +kernel
theorem dX6_fill_120 : decode cX6_fill 120 = .ok (.iload_n 3, 1) := by decide +kernel
theorem dX6_fill_121 : decode cX6_fill 121 = .ok (.iconst 4, 1) := by decide +kernel
theorem dX6_fill_122 : decode cX6_fill 122 = .ok (.imul, 1) := by decide +kernel
theorem dX6_fill_123 : decode cX6_fill 123 = .ok (.iload 9, 2) := by decide +kernel
theorem dX6_fill_125 : decode cX6_fill 125 = .ok (.iadd, 1) := by decide +kernel
theorem dX6_fill_126 : decode cX6_fill 126 = .ok (.iload 7, 2) := by decide +kernel
theorem dX6_fill_128 : decode cX6_fill 128 = .ok (.iadd, 1) := by decide +kernel
theorem dX6_fill_129 : decode cX6_fill 129 = .ok (.iload 12, 2) := by decide +kernel
theorem dX6_fill_131 : decode cX6_fill 131 = .ok (.aload_n 0, 1) := by decide +kernel
theorem dX6_fill_132 : decode cX6_fill 132 = .ok (.getfield 15, 3) := by decide +kernel
theorem dX6_fill_135 : decode cX6_fill 135 = .ok (.iload 10, 2) := by decide +kernel
theorem dX6_fill_137 : decode cX6_fill 137 = .ok (.iaload, 1) := by decide +kernel
theorem dX6_fill_138 : decode cX6_fill 138 = .ok (.iload_n 1, 1) := by decide +kernel
theorem dX6_fill_139 : decode cX6_fill 139 = .ok (.iload 4, 2) := by decide +kernel
theorem dX6_fill_141 : decode cX6_fill 141 = .ok (.invokestatic 77, 3) := by decide +kernel
theorem dX6_fill_144 : decode cX6_fill 144 = .ok (.iadd, 1) := by decide +kernel
theorem dX6_fill_145 : decode cX6_fill 145 = .ok (.invokevirtual 80, 3) := by decide +kernel
theorem dX6_fill_148 : decode cX6_fill 148 = .ok (.iinc 9 1, 3) := by decide +kernel
theorem dX6_fill_151 : decode cX6_fill 151 = .ok (.goto (-94), 3) := by decide +kernel
theorem dX6_fill_154 : decode cX6_fill 154 = .ok (.iinc 4 1, 3) := by decide +kernel
theorem dX6_fill_157 : decode cX6_fill 157 = .ok (.goto (-154), 3) := by decide +kernel
theorem dX6_fill_160 : decode cX6_fill 160 = .ok (.return_, 1) := by decide +kernel
theorem dX6_offer_0 : decode cX6_offer 0 = .ok (.iload_n 1, 1) := by decide +kernel
theorem dX6_offer_1 : decode cX6_offer 1 = .ok (.ifCond .lt 36, 3) := by decide +kernel
theorem dX6_offer_4 : decode cX6_offer 4 = .ok (.iload_n 1, 1) := by decide +kernel
theorem dX6_offer_5 : decode cX6_offer 5 = .ok (.aload_n 0, 1) := by decide +kernel
theorem dX6_offer_6 : decode cX6_offer 6 = .ok (.getfield 11, 3) := by decide +kernel
theorem dX6_offer_9 : decode cX6_offer 9 = .ok (.arraylength, 1) := by decide +kernel
theorem dX6_offer_10 : decode cX6_offer 10 = .ok (.if_icmp .ge 27, 3) := by decide +kernel
theorem dX6_offer_13 : decode cX6_offer 13 = .ok (.iload_n 2, 1) := by decide +kernel
theorem dX6_offer_14 : decode cX6_offer 14 = .ok (.aload_n 0, 1) := by decide +kernel
theorem dX6_offer_15 : decode cX6_offer 15 = .ok (.getfield 11, 3) := by decide +kernel
theorem dX6_offer_18 : decode cX6_offer 18 = .ok (.iload_n 1, 1) := by decide +kernel
theorem dX6_offer_19 : decode cX6_offer 19 = .ok (.iaload, 1) := by decide +kernel
theorem dX6_offer_20 : decode cX6_offer 20 = .ok (.if_icmp .le 17, 3) := by decide +kernel
theorem dX6_offer_23 : decode cX6_offer 23 = .ok (.aload_n 0, 1) := by decide +kernel
theorem dX6_offer_24 : decode cX6_offer 24 = .ok (.getfield 11, 3) := by decide +kernel
theorem dX6_offer_27 : decode cX6_offer 27 = .ok (.iload_n 1, 1) := by decide +kernel
theorem dX6_offer_28 : decode cX6_offer 28 = .ok (.iload_n 2, 1) := by decide +kernel
theorem dX6_offer_29 : decode cX6_offer 29 = .ok (.iastore, 1) := by decide +kernel
theorem dX6_offer_30 : decode cX6_offer 30 = .ok (.aload_n 0, 1) := by decide +kernel
theorem dX6_offer_31 : decode cX6_offer 31 = .ok (.getfield 15, 3) := by decide +kernel
theorem dX6_offer_34 : decode cX6_offer 34 = .ok (.iload_n 1, 1) := by decide +kernel
theorem dX6_offer_35 : decode cX6_offer 35 = .ok (.iload_n 3, 1) := by decide +kernel
theorem dX6_offer_36 : decode cX6_offer 36 = .ok (.iastore, 1) := by decide +kernel
theorem dX6_offer_37 : decode cX6_offer 37 = .ok (.return_, 1) := by decide +kernel
theorem dX6_tellBest_0 : decode cX6_tellBest 0 = .ok (.iconst (-1), 1) := by decide +kernel
theorem dX6_tellBest_1 : decode cX6_tellBest 1 = .ok (.istore_n 2, 1) := by decide +kernel
theorem dX6_tellBest_2 : decode cX6_tellBest 2 = .ok (.iconst 0, 1) := by decide +kernel
theorem dX6_tellBest_3 : decode cX6_tellBest 3 = .ok (.istore_n 3, 1) := by decide +kernel
theorem dX6_tellBest_4 : decode cX6_tellBest 4 = .ok (.iload_n 3, 1) := by decide +kernel
theorem dX6_tellBest_5 : decode cX6_tellBest 5 = .ok (.iconst 4, 1) := by decide +kernel
theorem dX6_tellBest_6 : decode cX6_tellBest 6 = .ok (.if_icmp .ge 100, 3) := by decide +kernel
theorem dX6_tellBest_9 : decode cX6_tellBest 9 = .ok (.iload_n 1, 1) := by decide +kernel
theorem dX6_tellBest_10 : decode cX6_tellBest 10 = .ok (.iconst 4, 1) := by decide +kernel
theorem dX6_tellBest_11 : decode cX6_tellBest 11 = .ok (.imul, 1) := by decide +kernel
theorem dX6_tellBest_12 : decode cX6_tellBest 12 = .ok (.iload_n 3, 1) := by decide +kernel
theorem dX6_tellBest_13 : decode cX6_tellBest 13 = .ok (.iadd, 1) := by decide +kernel
theorem dX6_tellBest_14 : decode cX6_tellBest 14 = .ok (.istore 4, 2) := by decide +kernel
theorem dX6_tellBest_16 : decode cX6_tellBest 16 = .ok (.iload 4, 2) := by decide +kernel
theorem dX6_tellBest_18 : decode cX6_tellBest 18 = .ok (.ifCond .lt 82, 3) := by decide +kernel
theorem dX6_tellBest_21 : decode cX6_tellBest 21 = .ok (.iload 4, 2) := by decide +kernel
theorem dX6_tellBest_23 : decode cX6_tellBest 23 = .ok (.aload_n 0, 1) := by decide +kernel
theorem dX6_tellBest_24 : decode cX6_tellBest 24 = .ok (.getfield 11, 3) := by decide +kernel
theorem dX6_tellBest_27 : decode cX6_tellBest 27 = .ok (.arraylength, 1) := by decide +kernel
theorem dX6_tellBest_28 : decode cX6_tellBest 28 = .ok (.if_icmp .ge 72, 3) := by decide +kernel
theorem dX6_tellBest_31 : decode cX6_tellBest 31 = .ok (.aload_n 0, 1) := by decide +kernel
theorem dX6_tellBest_32 : decode cX6_tellBest 32 = .ok (.getfield 11, 3) := by decide +kernel
theorem dX6_tellBest_35 : decode cX6_tellBest 35 = .ok (.iload 4, 2) := by decide +kernel
theorem dX6_tellBest_37 : decode cX6_tellBest 37 = .ok (.iaload, 1) := by decide +kernel
theorem dX6_tellBest_38 : decode cX6_tellBest 38 = .ok (.iconst (-1), 1) := by decide +kernel
theorem dX6_tellBest_39 : decode cX6_tellBest 39 = .ok (.if_icmp .ne 6, 3) := by decide +kernel
theorem dX6_tellBest_42 : decode cX6_tellBest 42 = .ok (.goto 58, 3) := by decide +kernel
theorem dX6_tellBest_45 : decode cX6_tellBest 45 = .ok (.aload_n 0, 1) := by decide +kernel
theorem dX6_tellBest_46 : decode cX6_tellBest 46 = .ok (.getfield 11, 3) := by decide +kernel
theorem dX6_tellBest_49 : decode cX6_tellBest 49 = .ok (.iload 4, 2) := by decide +kernel
theorem dX6_tellBest_51 : decode cX6_tellBest 51 = .ok (.iaload, 1) := by decide +kernel
theorem dX6_tellBest_52 : decode cX6_tellBest 52 = .ok (.iload_n 2, 1) := by decide +kernel
theorem dX6_tellBest_53 : decode cX6_tellBest 53 = .ok (.if_icmp .gt 28, 3) := by decide +kernel
theorem dX6_tellBest_56 : decode cX6_tellBest 56 = .ok (.aload_n 0, 1) := by decide +kernel
theorem dX6_tellBest_57 : decode cX6_tellBest 57 = .ok (.getfield 11, 3) := by decide +kernel
theorem dX6_tellBest_60 : decode cX6_tellBest 60 = .ok (.iload 4, 2) := by decide +kernel
theorem dX6_tellBest_62 : decode cX6_tellBest 62 = .ok (.iaload, 1) := by decide +kernel
theorem dX6_tellBest_63 : decode cX6_tellBest 63 = .ok (.iload_n 2, 1) := by decide +kernel
theorem dX6_tellBest_64 : decode cX6_tellBest 64 = .ok (.if_icmp .ne 36, 3) := by decide +kernel
theorem dX6_tellBest_67 : decode cX6_tellBest 67 = .ok (.aload_n 0, 1) := by decide +kernel
theorem dX6_tellBest_68 : decode cX6_tellBest 68 = .ok (.getfield 15, 3) := by decide +kernel
theorem dX6_tellBest_71 : decode cX6_tellBest 71 = .ok (.iload 4, 2) := by decide +kernel
theorem dX6_tellBest_73 : decode cX6_tellBest 73 = .ok (.iaload, 1) := by decide +kernel
theorem dX6_tellBest_74 : decode cX6_tellBest 74 = .ok (.aload_n 0, 1) := by decide +kernel
theorem dX6_tellBest_75 : decode cX6_tellBest 75 = .ok (.getfield 22, 3) := by decide +kernel
theorem dX6_tellBest_78 : decode cX6_tellBest 78 = .ok (.if_icmp .ge 22, 3) := by decide +kernel
theorem dX6_tellBest_81 : decode cX6_tellBest 81 = .ok (.aload_n 0, 1) := by decide +kernel
theorem dX6_tellBest_82 : decode cX6_tellBest 82 = .ok (.getfield 11, 3) := by decide +kernel
theorem dX6_tellBest_85 : decode cX6_tellBest 85 = .ok (.iload 4, 2) := by decide +kernel
theorem dX6_tellBest_87 : decode cX6_tellBest 87 = .ok (.iaload, 1) := by decide +kernel
theorem dX6_tellBest_88 : decode cX6_tellBest 88 = .ok (.istore_n 2, 1) := by decide +kernel
theorem dX6_tellBest_89 : decode cX6_tellBest 89 = .ok (.aload_n 0, 1) := by decide +kernel
theorem dX6_tellBest_90 : decode cX6_tellBest 90 = .ok (.aload_n 0, 1) := by decide +kernel
theorem dX6_tellBest_91 : decode cX6_tellBest 91 = .ok (.getfield 15, 3) := by decide +kernel
theorem dX6_tellBest_94 : decode cX6_tellBest 94 = .ok (.iload 4, 2) := by decide +kernel
theorem dX6_tellBest_96 : decode cX6_tellBest 96 = .ok (.iaload, 1) := by decide +kernel
theorem dX6_tellBest_97 : decode cX6_tellBest 97 = .ok (.putfield 22, 3) := by decide +kernel
theorem dX6_tellBest_100 : decode cX6_tellBest 100 = .ok (.iinc 3 1, 3) := by decide +kernel
theorem dX6_tellBest_103 : decode cX6_tellBest 103 = .ok (.goto (-99), 3) := by decide +kernel
theorem dX6_tellBest_106 : decode cX6_tellBest 106 = .ok (.iload_n 2, 1) := by decide +kernel
theorem dX6_tellBest_107 : decode cX6_tellBest 107 = .ok (.ireturn, 1) := by decide +kernel
theorem dX7_init_0 : decode cX7_init 0 = .ok (.aload_n 0, 1) := by decide +kernel
theorem dX7_init_1 : decode cX7_init 1 = .ok (.invokespecial 3, 3) := by decide +kernel
theorem dX7_init_4 : decode cX7_init 4 = .ok (.aload_n 0, 1) := by decide +kernel
theorem dX7_init_5 : decode cX7_init 5 = .ok (.bipush 30, 2) := by decide +kernel
theorem dX7_init_7 : decode cX7_init 7 = .ok (.newarray .int, 2) := by decide +kernel
theorem dX7_init_9 : decode cX7_init 9 = .ok (.putfield 9, 3) := by decide +kernel
theorem dX7_init_12 : decode cX7_init 12 = .ok (.aload_n 0, 1) := by decide +kernel
theorem dX7_init_13 : decode cX7_init 13 = .ok (.bipush 10, 2) := by decide +kernel
theorem dX7_init_15 : decode cX7_init 15 = .ok (.newarray .int, 2) := by decide +kernel
theorem dX7_init_17 : decode cX7_init 17 = .ok (.putfield 15, 3) := by decide +kernel
theorem dX7_init_20 : decode cX7_init 20 = .ok (.aload_n 0, 1) := by decide +kernel
theorem dX7_init_21 : decode cX7_init 21 = .ok (.bipush 10, 2) := by decide +kernel
theorem dX7_init_23 : decode cX7_init 23 = .ok (.newarray .int, 2) := by decide +kernel
theorem dX7_init_25 : decode cX7_init 25 = .ok (.putfield 18, 3) := by decide +kernel
theorem dX7_init_28 : decode cX7_init 28 = .ok (.aload_n 0, 1) := by decide +kernel
theorem dX7_init_29 : decode cX7_init 29 = .ok (.bipush 10, 2) := by decide +kernel
theorem dX7_init_31 : decode cX7_init 31 = .ok (.newarray .int, 2) := by decide +kernel
theorem dX7_init_33 : decode cX7_init 33 = .ok (.putfield 21, 3) := by decide +kernel
theorem dX7_init_36 : decode cX7_init 36 = .ok (.aload_n 0, 1) := by decide +kernel
theorem dX7_init_37 : decode cX7_init 37 = .ok (.bipush 36, 2) := by decide +kernel
theorem dX7_init_39 : decode cX7_init 39 = .ok (.newarray .int, 2) := by decide +kernel
theorem dX7_init_41 : decode cX7_init 41 = .ok (.putfield 24, 3) := by decide +kernel
theorem dX7_init_44 : decode cX7_init 44 = .ok (.aload_n 0, 1) := by decide +kernel
theorem dX7_init_45 : decode cX7_init 45 = .ok (.bipush 36, 2) := by decide +kernel
theorem dX7_init_47 : decode cX7_init 47 = .ok (.newarray .int, 2) := by decide +kernel
theorem dX7_init_49 : decode cX7_init 49 = .ok (.putfield 27, 3) := by decide +kernel
theorem dX7_init_52 : decode cX7_init 52 = .ok (.aload_n 0, 1) := by decide +kernel
theorem dX7_init_53 : decode cX7_init 53 = .ok (.iconst 0, 1) := by decide +kernel
theorem dX7_init_54 : decode cX7_init 54 = .ok (.putfield 30, 3) := by decide +kernel
theorem dX7_init_57 : decode cX7_init 57 = .ok (.aload_n 0, 1) := by decide +kernel
theorem dX7_init_58 : decode cX7_init 58 = .ok (.iconst 0, 1) := by decide +kernel
theorem dX7_init_59 : decode cX7_init 59 = .ok (.putfield 34, 3) := by decide +kernel
theorem dX7_init_62 : decode cX7_init 62 = .ok (.aload_n 0, 1) := by decide +kernel
theorem dX7_init_63 : decode cX7_init 63 = .ok (.iconst 0, 1) := by decide +kernel
theorem dX7_init_64 : decode cX7_init 64 = .ok (.putfield 37, 3) := by decide +kernel
theorem dX7_init_67 : decode cX7_init 67 = .ok (.return_, 1) := by decide +kernel
theorem dX7_add_0 : decode cX7_add 0 = .ok (.aload_n 0, 1) := by decide +kernel
theorem dX7_add_1 : decode cX7_add 1 = .ok (.getfield 30, 3) := by decide +kernel
theorem dX7_add_4 : decode cX7_add 4 = .ok (.bipush 10, 2) := by decide +kernel
theorem dX7_add_6 : decode cX7_add 6 = .ok (.if_icmp .lt 6, 3) := by decide +kernel
theorem dX7_add_9 : decode cX7_add 9 = .ok (.bipush (-4), 2) := by decide +kernel
theorem dX7_add_11 : decode cX7_add 11 = .ok (.ireturn, 1) := by decide +kernel
theorem dX7_add_12 : decode cX7_add 12 = .ok (.aload_n 0, 1) := by decide +kernel
theorem dX7_add_13 : decode cX7_add 13 = .ok (.getfield 9, 3) := by decide +kernel
theorem dX7_add_16 : decode cX7_add 16 = .ok (.aload_n 0, 1) := by decide +kernel
theorem dX7_add_17 : decode cX7_add 17 = .ok (.getfield 30, 3) := by decide +kernel
theorem dX7_add_20 : decode cX7_add 20 = .ok (.iconst 3, 1) := by decide +kernel
theorem dX7_add_21 : decode cX7_add 21 = .ok (.imul, 1) := by decide +kernel
theorem dX7_add_22 : decode cX7_add 22 = .ok (.iload_n 1, 1) := by decide +kernel
theorem dX7_add_23 : decode cX7_add 23 = .ok (.iastore, 1) := by decide +kernel
theorem dX7_add_24 : decode cX7_add 24 = .ok (.aload_n 0, 1) := by decide +kernel
theorem dX7_add_25 : decode cX7_add 25 = .ok (.getfield 9, 3) := by decide +kernel
theorem dX7_add_28 : decode cX7_add 28 = .ok (.aload_n 0, 1) := by decide +kernel
theorem dX7_add_29 : decode cX7_add 29 = .ok (.getfield 30, 3) := by decide +kernel
theorem dX7_add_32 : decode cX7_add 32 = .ok (.iconst 3, 1) := by decide +kernel
theorem dX7_add_33 : decode cX7_add 33 = .ok (.imul, 1) := by decide +kernel
theorem dX7_add_34 : decode cX7_add 34 = .ok (.iconst 1, 1) := by decide +kernel
theorem dX7_add_35 : decode cX7_add 35 = .ok (.iadd, 1) := by decide +kernel
theorem dX7_add_36 : decode cX7_add 36 = .ok (.iload_n 2, 1) := by decide +kernel
theorem dX7_add_37 : decode cX7_add 37 = .ok (.iastore, 1) := by decide +kernel
theorem dX7_add_38 : decode cX7_add 38 = .ok (.aload_n 0, 1) := by decide +kernel
theorem dX7_add_39 : decode cX7_add 39 = .ok (.getfield 9, 3) := by decide +kernel
theorem dX7_add_42 : decode cX7_add 42 = .ok (.aload_n 0, 1) := by decide +kernel
theorem dX7_add_43 : decode cX7_add 43 = .ok (.getfield 30, 3) := by decide +kernel
theorem dX7_add_46 : decode cX7_add 46 = .ok (.iconst 3, 1) := by decide +kernel
theorem dX7_add_47 : decode cX7_add 47 = .ok (.imul, 1) := by decide +kernel
theorem dX7_add_48 : decode cX7_add 48 = .ok (.iconst 2, 1) := by decide +kernel
theorem dX7_add_49 : decode cX7_add 49 = .ok (.iadd, 1) := by decide +kernel
theorem dX7_add_50 : decode cX7_add 50 = .ok (.iload_n 3, 1) := by decide +kernel
theorem dX7_add_51 : decode cX7_add 51 = .ok (.iastore, 1) := by decide +kernel
theorem dX7_add_52 : decode cX7_add 52 = .ok (.aload_n 0, 1) := by decide +kernel
theorem dX7_add_53 : decode cX7_add 53 = .ok (.getfield 15, 3) := by decide +kernel
theorem dX7_add_56 : decode cX7_add 56 = .ok (.aload_n 0, 1) := by decide +kernel
theorem dX7_add_57 : decode cX7_add 57 = .ok (.getfield 30, 3) := by decide +kernel
theorem dX7_add_60 : decode cX7_add 60 = .ok (.iload 4, 2) := by decide +kernel
theorem dX7_add_62 : decode cX7_add 62 = .ok (.iastore, 1) := by decide +kernel
theorem dX7_add_63 : decode cX7_add 63 = .ok (.aload_n 0, 1) := by decide +kernel
theorem dX7_add_64 : decode cX7_add 64 = .ok (.getfield 18, 3) := by decide +kernel
theorem dX7_add_67 : decode cX7_add 67 = .ok (.aload_n 0, 1) := by decide +kernel
theorem dX7_add_68 : decode cX7_add 68 = .ok (.getfield 30, 3) := by decide +kernel
theorem dX7_add_71 : decode cX7_add 71 = .ok (.iload 5, 2) := by decide +kernel
theorem dX7_add_73 : decode cX7_add 73 = .ok (.iastore, 1) := by decide +kernel
theorem dX7_add_74 : decode cX7_add 74 = .ok (.aload_n 0, 1) := by decide +kernel
theorem dX7_add_75 : decode cX7_add 75 = .ok (.getfield 30, 3) := by decide +kernel
theorem dX7_add_78 : decode cX7_add 78 = .ok (.istore 6, 2) := by decide +kernel
theorem dX7_add_80 : decode cX7_add 80 = .ok (.iload 6, 2) := by decide +kernel
theorem dX7_add_82 : decode cX7_add 82 = .ok (.ifCond .le 44, 3) := by decide +kernel
theorem dX7_add_85 : decode cX7_add 85 = .ok (.aload_n 0, 1) := by decide +kernel
theorem dX7_add_86 : decode cX7_add 86 = .ok (.getfield 15, 3) := by decide +kernel
theorem dX7_add_89 : decode cX7_add 89 = .ok (.aload_n 0, 1) := by decide +kernel
theorem dX7_add_90 : decode cX7_add 90 = .ok (.getfield 21, 3) := by decide +kernel
theorem dX7_add_93 : decode cX7_add 93 = .ok (.iload 6, 2) := by decide +kernel
theorem dX7_add_95 : decode cX7_add 95 = .ok (.iconst 1, 1) := by decide +kernel
theorem dX7_add_96 : decode cX7_add 96 = .ok (.isub, 1) := by decide +kernel
theorem dX7_add_97 : decode cX7_add 97 = .ok (.iaload, 1) := by decide +kernel
theorem dX7_add_98 : decode cX7_add 98 = .ok (.iaload, 1) := by decide +kernel
theorem dX7_add_99 : decode cX7_add 99 = .ok (.iload 4, 2) := by decide +kernel
theorem dX7_add_101 : decode cX7_add 101 = .ok (.if_icmp .le 25, 3) := by decide +kernel
theorem dX7_add_104 : decode cX7_add 104 = .ok (.aload_n 0, 1) := by decide +kernel
theorem dX7_add_105 : decode cX7_add 105 = .ok (.getfield 21, 3) := by decide +kernel
theorem dX7_add_108 : decode cX7_add 108 = .ok (.iload 6, 2) := by decide +kernel
theorem dX7_add_110 : decode cX7_add 110 = .ok (.aload_n 0, 1) := by decide +kernel
theorem dX7_add_111 : decode cX7_add 111 = .ok (.getfield 21, 3) := by decide +kernel
theorem dX7_add_114 : decode cX7_add 114 = .ok (.iload 6, 2) := by decide +kernel
theorem dX7_add_116 : decode cX7_add 116 = .ok (.iconst 1, 1) := by decide +kernel
theorem dX7_add_117 : decode cX7_add 117 = .ok (.isub, 1) := by decide +kernel
theorem dX7_add_118 : decode cX7_add 118 = .ok (.iaload, 1) := by decide +kernel
theorem dX7_add_119 : decode cX7_add 119 = .ok (.iastore, 1) := by decide +kernel
theorem dX7_add_120 : decode cX7_add 120 = .ok (.iinc 6 (-1), 3) := by decide +kernel
theorem dX7_add_123 : decode cX7_add 123 = .ok (.goto (-43), 3) := by decide +kernel
theorem dX7_add_126 : decode cX7_add 126 = .ok (.aload_n 0, 1) := by decide +kernel
theorem dX7_add_127 : decode cX7_add 127 = .ok (.getfield 21, 3) := by decide +kernel
theorem dX7_add_130 : decode cX7_add 130 = .ok (.iload 6, 2) := by decide +kernel
theorem dX7_add_132 : decode cX7_add 132 = .ok (.aload_n 0, 1) := by decide +kernel
theorem dX7_add_133 : decode cX7_add 133 = .ok (.getfield 30, 3) := by decide +kernel
theorem dX7_add_136 : decode cX7_add 136 = .ok (.iastore, 1) := by decide +kernel
theorem dX7_add_137 : decode cX7_add 137 = .ok (.aload_n 0, 1) := by decide +kernel
theorem dX7_add_138 : decode cX7_add 138 = .ok (.dup, 1) := by decide +kernel
theorem dX7_add_139 : decode cX7_add 139 = .ok (.getfield 30, 3) := by decide +kernel
theorem dX7_add_142 : decode cX7_add 142 = .ok (.iconst 1, 1) := by decide +kernel
theorem dX7_add_143 : decode cX7_add 143 = .ok (.iadd, 1) := by decide +kernel
theorem dX7_add_144 : decode cX7_add 144 = .ok (.putfield 30, 3) := by decide +kernel
theorem dX7_add_147 : decode cX7_add 147 = .ok (.aload_n 0, 1) := by decide +kernel
theorem dX7_add_148 : decode cX7_add 148 = .ok (.getfield 30, 3) := by decide +kernel
theorem dX7_add_151 : decode cX7_add 151 = .ok (.iconst 1, 1) := by decide +kernel
theorem dX7_add_152 : decode cX7_add 152 = .ok (.isub, 1) := by decide +kernel
theorem dX7_add_153 : decode cX7_add 153 = .ok (.ireturn, 1) := by decide +kernel
theorem dX7_search_0 : decode cX7_search 0 = .ok (.iconst 0, 1) := by decide +kernel
theorem dX7_search_1 : decode cX7_search 1 = .ok (.istore_n 1, 1) := by decide +kernel
theorem dX7_search_2 : decode cX7_search 2 = .ok (.iload_n 1, 1) := by decide +kernel
theorem dX7_search_3 : decode cX7_search 3 = .ok (.iconst 3, 1) := by decide +kernel
theorem dX7_search_4 : decode cX7_search 4 = .ok (.if_icmp .ge 51, 3) := by decide +kernel
theorem dX7_search_7 : decode cX7_search 7 = .ok (.iconst 0, 1) := by decide +kernel
theorem dX7_search_8 : decode cX7_search 8 = .ok (.istore_n 2, 1) := by decide +kernel
theorem dX7_search_9 : decode cX7_search 9 = .ok (.iconst 0, 1) := by decide +kernel
theorem dX7_search_10 : decode cX7_search 10 = .ok (.istore_n 3, 1) := by decide +kernel
theorem dX7_search_11 : decode cX7_search 11 = .ok (.iload_n 3, 1) := by decide +kernel
theorem dX7_search_12 : decode cX7_search 12 = .ok (.bipush 12, 2) := by decide +kernel
theorem dX7_search_14 : decode cX7_search 14 = .ok (.if_icmp .ge 35, 3) := by decide +kernel
theorem dX7_search_17 : decode cX7_search 17 = .ok (.iload_n 2, 1) := by decide +kernel
theorem dX7_search_18 : decode cX7_search 18 = .ok (.aload_n 0, 1) := by decide +kernel
theorem dX7_search_19 : decode cX7_search 19 = .ok (.getfield 24, 3) := by decide +kernel
theorem dX7_search_22 : decode cX7_search 22 = .ok (.iload_n 1, 1) := by decide +kernel
theorem dX7_search_23 : decode cX7_search 23 = .ok (.bipush 12, 2) := by decide +kernel
theorem dX7_search_25 : decode cX7_search 25 = .ok (.imul, 1) := by decide +kernel
theorem dX7_search_26 : decode cX7_search 26 = .ok (.iload_n 3, 1) := by decide +kernel
theorem dX7_search_27 : decode cX7_search 27 = .ok (.iadd, 1) := by decide +kernel
theorem dX7_search_28 : decode cX7_search 28 = .ok (.iaload, 1) := by decide +kernel
theorem dX7_search_29 : decode cX7_search 29 = .ok (.iadd, 1) := by decide +kernel
theorem dX7_search_30 : decode cX7_search 30 = .ok (.istore_n 2, 1) := by decide +kernel
theorem dX7_search_31 : decode cX7_search 31 = .ok (.aload_n 0, 1) := by decide +kernel
theorem dX7_search_32 : decode cX7_search 32 = .ok (.getfield 27, 3) := by decide +kernel
theorem dX7_search_35 : decode cX7_search 35 = .ok (.iload_n 1, 1) := by decide +kernel
theorem dX7_search_36 : decode cX7_search 36 = .ok (.bipush 12, 2) := by decide +kernel
theorem dX7_search_38 : decode cX7_search 38 = .ok (.imul, 1) := by decide +kernel
theorem dX7_search_39 : decode cX7_search 39 = .ok (.iload_n 3, 1) := by decide +kernel
theorem dX7_search_40 : decode cX7_search 40 = .ok (.iadd, 1) := by decide +kernel
theorem dX7_search_41 : decode cX7_search 41 = .ok (.iload_n 2, 1) := by decide +kernel
theorem dX7_search_42 : decode cX7_search 42 = .ok (.iastore, 1) := by decide +kernel
theorem dX7_search_43 : decode cX7_search 43 = .ok (.iinc 3 1, 3) := by decide +kernel
theorem dX7_search_46 : decode cX7_search 46 = .ok (.goto (-35), 3) := by decide +kernel
theorem dX7_search_49 : decode cX7_search 49 = .ok (.iinc 1 1, 3) := by decide +kernel
theorem dX7_search_52 : decode cX7_search 52 = .ok (.goto (-50), 3) := by decide +kernel
theorem dX7_search_55 : decode cX7_search 55 = .ok (.aload_n 0, 1) := by decide +kernel
theorem dX7_search_56 : decode cX7_search 56 = .ok (.iconst 0, 1) := by decide +kernel
theorem dX7_search_57 : decode cX7_search 57 = .ok (.putfield 34, 3) := by decide +kernel
theorem dX7_search_60 : decode cX7_search 60 = .ok (.aload_n 0, 1) := by decide +kernel
theorem dX7_search_61 : decode cX7_search 61 = .ok (.iconst 0, 1) := by decide +kernel
theorem dX7_search_62 : decode cX7_search 62 = .ok (.putfield 37, 3) := by decide +kernel
theorem dX7_search_65 : decode cX7_search 65 = .ok (.aload_n 0, 1) := by decide +kernel
theorem dX7_search_66 : decode cX7_search 66 = .ok (.iconst 0, 1) := by decide +kernel
theorem dX7_search_67 : decode cX7_search 67 = .ok (.iconst 0, 1) := by decide +kernel
theorem dX7_search_68 : decode cX7_search 68 = .ok (.iconst 0, 1) := by decide +kernel
theorem dX7_search_69 : decode cX7_search 69 = .ok (.iconst 0, 1) := by decide +kernel
theorem dX7_search_70 : decode cX7_search 70 = .ok (.iconst 0, 1) := by decide +kernel
theorem dX7_search_71 : decode cX7_search 71 = .ok (.iconst 0, 1) := by decide +kernel
theorem dX7_search_72 : decode cX7_search 72 = .ok (.invokevirtual 40, 3) := by decide +kernel
theorem dX7_search_75 : decode cX7_search 75 = .ok (.return_, 1) := by decide +kernel
theorem dX7_choose_0 : decode cX7_choose 0 = .ok (.iload_n 1, 1) := by decide +kernel
theorem dX7_choose_1 : decode cX7_choose 1 = .ok (.ifCond .lt 11, 3) := by decide +kernel
theorem dX7_choose_4 : decode cX7_choose 4 = .ok (.iload_n 1, 1) := by decide +kernel
theorem dX7_choose_5 : decode cX7_choose 5 = .ok (.aload_n 0, 1) := by decide +kernel
theorem dX7_choose_6 : decode cX7_choose 6 = .ok (.getfield 30, 3) := by decide +kernel
theorem dX7_choose_9 : decode cX7_choose 9 = .ok (.if_icmp .lt 12, 3) := by decide +kernel
theorem dX7_choose_12 : decode cX7_choose 12 = .ok (.aload_n 0, 1) := by decide +kernel
theorem dX7_choose_13 : decode cX7_choose 13 = .ok (.iload 5, 2) := by decide +kernel
theorem dX7_choose_15 : decode cX7_choose 15 = .ok (.iload 6, 2) := by decide +kernel
theorem dX7_choose_17 : decode cX7_choose 17 = .ok (.invokevirtual 44, 3) := by decide +kernel
theorem dX7_choose_20 : decode cX7_choose 20 = .ok (.return_, 1) := by decide +kernel
theorem dX7_choose_21 : decode cX7_choose 21 = .ok (.aload_n 0, 1) := by decide +kernel
theorem dX7_choose_22 : decode cX7_choose 22 = .ok (.iload_n 1, 1) := by decide +kernel
theorem dX7_choose_23 : decode cX7_choose 23 = .ok (.iconst 1, 1) := by decide +kernel
theorem dX7_choose_24 : decode cX7_choose 24 = .ok (.iadd, 1) := by decide +kernel
theorem dX7_choose_25 : decode cX7_choose 25 = .ok (.iload_n 2, 1) := by decide +kernel
theorem dX7_choose_26 : decode cX7_choose 26 = .ok (.iload_n 3, 1) := by decide +kernel
theorem dX7_choose_27 : decode cX7_choose 27 = .ok (.iload 4, 2) := by decide +kernel
theorem dX7_choose_29 : decode cX7_choose 29 = .ok (.iload 5, 2) := by decide +kernel
theorem dX7_choose_31 : decode cX7_choose 31 = .ok (.iload 6, 2) := by decide +kernel
theorem dX7_choose_33 : decode cX7_choose 33 = .ok (.invokevirtual 40, 3) := by decide +kernel
theorem dX7_choose_36 : decode cX7_choose 36 = .ok (.aload_n 0, 1) := by decide +kernel
theorem dX7_choose_37 : decode cX7_choose 37 = .ok (.getfield 21, 3) := by decide +kernel
theorem dX7_choose_40 : decode cX7_choose 40 = .ok (.iload_n 1, 1) := by decide +kernel
theorem dX7_choose_41 : decode cX7_choose 41 = .ok (.iaload, 1) := by decide +kernel
theorem dX7_choose_42 : decode cX7_choose 42 = .ok (.istore 7, 2) := by decide +kernel
theorem dX7_choose_44 : decode cX7_choose 44 = .ok (.aload_n 0, 1) := by decide +kernel
theorem dX7_choose_45 : decode cX7_choose 45 = .ok (.getfield 15, 3) := by decide +kernel
theorem dX7_choose_48 : decode cX7_choose 48 = .ok (.iload 7, 2) := by decide +kernel
theorem dX7_choose_50 : decode cX7_choose 50 = .ok (.iaload, 1) := by decide +kernel
theorem dX7_choose_51 : decode cX7_choose 51 = .ok (.istore 8, 2) := by decide +kernel
theorem dX7_choose_53 : decode cX7_choose 53 = .ok (.iload_n 2, 1) := by decide +kernel
theorem dX7_choose_54 : decode cX7_choose 54 = .ok (.aload_n 0, 1) := by decide +kernel
theorem dX7_choose_55 : decode cX7_choose 55 = .ok (.getfield 9, 3) := by decide +kernel
theorem dX7_choose_58 : decode cX7_choose 58 = .ok (.iload 7, 2) := by decide +kernel
theorem dX7_choose_60 : decode cX7_choose 60 = .ok (.iconst 3, 1) := by decide +kernel
theorem dX7_choose_61 : decode cX7_choose 61 = .ok (.imul, 1) := by decide +kernel
theorem dX7_choose_62 : decode cX7_choose 62 = .ok (.iaload, 1) := by decide +kernel
theorem dX7_choose_63 : decode cX7_choose 63 = .ok (.iadd, 1) := by decide +kernel
theorem dX7_choose_64 : decode cX7_choose 64 = .ok (.istore 9, 2) := by decide +kernel
theorem dX7_choose_66 : decode cX7_choose 66 = .ok (.iload_n 3, 1) := by decide +kernel
theorem dX7_choose_67 : decode cX7_choose 67 = .ok (.aload_n 0, 1) := by decide +kernel
theorem dX7_choose_68 : decode cX7_choose 68 = .ok (.getfield 9, 3) := by decide +kernel
theorem dX7_choose_71 : decode cX7_choose 71 = .ok (.iload 7, 2) := by decide +kernel
theorem dX7_choose_73 : decode cX7_choose 73 = .ok (.iconst 3, 1) := by decide +kernel
theorem dX7_choose_74 : decode cX7_choose 74 = .ok (.imul, 1) := by decide +kernel
theorem dX7_choose_75 : decode cX7_choose 75 = .ok (.iconst 1, 1) := by decide +kernel
theorem dX7_choose_76 : decode cX7_choose 76 = .ok (.iadd, 1) := by decide +kernel
theorem dX7_choose_77 : decode cX7_choose 77 = .ok (.iaload, 1) := by decide +kernel
theorem dX7_choose_78 : decode cX7_choose 78 = .ok (.iadd, 1) := by decide +kernel
theorem dX7_choose_79 : decode cX7_choose 79 = .ok (.istore 10, 2) := by decide +kernel
theorem dX7_choose_81 : decode cX7_choose 81 = .ok (.iload 4, 2) := by decide +kernel
theorem dX7_choose_83 : decode cX7_choose 83 = .ok (.aload_n 0, 1) := by decide +kernel
theorem dX7_choose_84 : decode cX7_choose 84 = .ok (.getfield 9, 3) := by decide +kernel
theorem dX7_choose_87 : decode cX7_choose 87 = .ok (.iload 7, 2) := by decide +kernel
theorem dX7_choose_89 : decode cX7_choose 89 = .ok (.iconst 3, 1) := by decide +kernel
theorem dX7_choose_90 : decode cX7_choose 90 = .ok (.imul, 1) := by decide +kernel
theorem dX7_choose_91 : decode cX7_choose 91 = .ok (.iconst 2, 1) := by decide +kernel
theorem dX7_choose_92 : decode cX7_choose 92 = .ok (.iadd, 1) := by decide +kernel
theorem dX7_choose_93 : decode cX7_choose 93 = .ok (.iaload, 1) := by decide +kernel
theorem dX7_choose_94 : decode cX7_choose 94 = .ok (.iadd, 1) := by decide +kernel
theorem dX7_choose_95 : decode cX7_choose 95 = .ok (.istore 11, 2) := by decide +kernel
theorem dX7_choose_97 : decode cX7_choose 97 = .ok (.iload 9, 2) := by decide +kernel
theorem dX7_choose_99 : decode cX7_choose 99 = .ok (.aload_n 0, 1) := by decide +kernel
theorem dX7_choose_100 : decode cX7_choose 100 = .ok (.getfield 27, 3) := by decide +kernel
theorem dX7_choose_103 : decode cX7_choose 103 = .ok (.iload 8, 2) := by decide +kernel
theorem dX7_choose_105 : decode cX7_choose 105 = .ok (.iaload, 1) := by decide +kernel
theorem dX7_choose_106 : decode cX7_choose 106 = .ok (.if_icmp .gt 63, 3) := by decide +kernel
theorem dX7_choose_109 : decode cX7_choose 109 = .ok (.iload 10, 2) := by decide +kernel
theorem dX7_choose_111 : decode cX7_choose 111 = .ok (.aload_n 0, 1) := by decide +kernel
theorem dX7_choose_112 : decode cX7_choose 112 = .ok (.getfield 27, 3) := by decide +kernel
theorem dX7_choose_115 : decode cX7_choose 115 = .ok (.bipush 12, 2) := by decide +kernel
theorem dX7_choose_117 : decode cX7_choose 117 = .ok (.iload 8, 2) := by decide +kernel
theorem dX7_choose_119 : decode cX7_choose 119 = .ok (.iadd, 1) := by decide +kernel
theorem dX7_choose_120 : decode cX7_choose 120 = .ok (.iaload, 1) := by decide +kernel
theorem dX7_choose_121 : decode cX7_choose 121 = .ok (.if_icmp .gt 48, 3) := by decide +kernel
theorem dX7_choose_124 : decode cX7_choose 124 = .ok (.iload 11, 2) := by decide +kernel
theorem dX7_choose_126 : decode cX7_choose 126 = .ok (.aload_n 0, 1) := by decide +kernel
theorem dX7_choose_127 : decode cX7_choose 127 = .ok (.getfield 27, 3) := by decide +kernel
theorem dX7_choose_130 : decode cX7_choose 130 = .ok (.bipush 24, 2) := by decide +kernel
theorem dX7_choose_132 : decode cX7_choose 132 = .ok (.iload 8, 2) := by decide +kernel
theorem dX7_choose_134 : decode cX7_choose 134 = .ok (.iadd, 1) := by decide +kernel
theorem dX7_choose_135 : decode cX7_choose 135 = .ok (.iaload, 1) := by decide +kernel
theorem dX7_choose_136 : decode cX7_choose 136 = .ok (.if_icmp .gt 33, 3) := by decide +kernel
theorem dX7_choose_139 : decode cX7_choose 139 = .ok (.aload_n 0, 1) := by decide +kernel
theorem dX7_choose_140 : decode cX7_choose 140 = .ok (.iload_n 1, 1) := by decide +kernel
theorem dX7_choose_141 : decode cX7_choose 141 = .ok (.iconst 1, 1) := by decide +kernel
theorem dX7_choose_142 : decode cX7_choose 142 = .ok (.iadd, 1) := by decide +kernel
theorem dX7_choose_143 : decode cX7_choose 143 = .ok (.iload 9, 2) := by decide +kernel
theorem dX7_choose_145 : decode cX7_choose 145 = .ok (.iload 10, 2) := by decide +kernel
end
section
theorem dX7_choose_147 : decode cX7_choose 147 = .ok (.iload 11, 2) := by decide +kernel
theorem dX7_choose_149 : decode cX7_choose 149 = .ok (.iload 5, 2) := by decide +kernel
theorem dX7_choose_151 : decode cX7_choose 151 = .ok (.aload_n 0, 1) := by decide +kernel
theorem dX7_choose_152 : decode cX7_choose 152 = .ok (.getfield 18, 3) := by decide +kernel
theorem dX7_choose_155 : decode cX7_choose 155 = .ok (.iload 7, 2) := by decide +kernel
theorem dX7_choose_157 : decode cX7_choose 157 = .ok (.iaload, 1) := by decide +kernel
theorem dX7_choose_158 : decode cX7_choose 158 = .ok (.iadd, 1) := by decide +kernel
theorem dX7_choose_159 : decode cX7_choose 159 = .ok (.iload 6, 2) := by decide +kernel
theorem dX7_choose_161 : decode cX7_choose 161 = .ok (.iconst 1, 1) := by decide +kernel
theorem dX7_choose_162 : decode cX7_choose 162 = .ok (.iload 7, 2) := by decide +kernel
theorem dX7_choose_164 : decode cX7_choose 164 = .ok (.ishl, 1) := by decide +kernel
theorem dX7_choose_165 : decode cX7_choose 165 = .ok (.ior, 1) := by decide +kernel
theorem dX7_choose_166 : decode cX7_choose 166 = .ok (.invokevirtual 40, 3) := by decide +kernel
theorem dX7_choose_169 : decode cX7_choose 169 = .ok (.return_, 1) := by decide +kernel
theorem dX7_offer_0 : decode cX7_offer 0 = .ok (.iload_n 1, 1) := by decide +kernel
theorem dX7_offer_1 : decode cX7_offer 1 = .ok (.aload_n 0, 1) := by decide +kernel
theorem dX7_offer_2 : decode cX7_offer 2 = .ok (.getfield 34, 3) := by decide +kernel
theorem dX7_offer_5 : decode cX7_offer 5 = .ok (.if_icmp .gt 19, 3) := by decide +kernel
theorem dX7_offer_8 : decode cX7_offer 8 = .ok (.iload_n 1, 1) := by decide +kernel
theorem dX7_offer_9 : decode cX7_offer 9 = .ok (.aload_n 0, 1) := by decide +kernel
theorem dX7_offer_10 : decode cX7_offer 10 = .ok (.getfield 34, 3) := by decide +kernel
theorem dX7_offer_13 : decode cX7_offer 13 = .ok (.if_icmp .ne 21, 3) := by decide +kernel
theorem dX7_offer_16 : decode cX7_offer 16 = .ok (.iload_n 2, 1) := by decide +kernel
theorem dX7_offer_17 : decode cX7_offer 17 = .ok (.aload_n 0, 1) := by decide +kernel
theorem dX7_offer_18 : decode cX7_offer 18 = .ok (.getfield 37, 3) := by decide +kernel
theorem dX7_offer_21 : decode cX7_offer 21 = .ok (.if_icmp .ge 13, 3) := by decide +kernel
theorem dX7_offer_24 : decode cX7_offer 24 = .ok (.aload_n 0, 1) := by decide +kernel
theorem dX7_offer_25 : decode cX7_offer 25 = .ok (.iload_n 1, 1) := by decide +kernel
theorem dX7_offer_26 : decode cX7_offer 26 = .ok (.putfield 34, 3) := by decide +kernel
theorem dX7_offer_29 : decode cX7_offer 29 = .ok (.aload_n 0, 1) := by decide +kernel
theorem dX7_offer_30 : decode cX7_offer 30 = .ok (.iload_n 2, 1) := by decide +kernel
theorem dX7_offer_31 : decode cX7_offer 31 = .ok (.putfield 37, 3) := by decide +kernel
theorem dX7_offer_34 : decode cX7_offer 34 = .ok (.return_, 1) := by decide +kernel
theorem dX8_init_0 : decode cX8_init 0 = .ok (.aload_n 0, 1) := by decide +kernel
theorem dX8_init_1 : decode cX8_init 1 = .ok (.invokespecial 1, 3) := by decide +kernel
theorem dX8_init_4 : decode cX8_init 4 = .ok (.aload_n 0, 1) := by decide +kernel
theorem dX8_init_5 : decode cX8_init 5 = .ok (.iconst 3, 1) := by decide +kernel
theorem dX8_init_6 : decode cX8_init 6 = .ok (.newarray .int, 2) := by decide +kernel
theorem dX8_init_8 : decode cX8_init 8 = .ok (.dup, 1) := by decide +kernel
theorem dX8_init_9 : decode cX8_init 9 = .ok (.iconst 0, 1) := by decide +kernel
theorem dX8_init_10 : decode cX8_init 10 = .ok (.bipush 10, 2) := by decide +kernel
theorem dX8_init_12 : decode cX8_init 12 = .ok (.iastore, 1) := by decide +kernel
theorem dX8_init_13 : decode cX8_init 13 = .ok (.dup, 1) := by decide +kernel
theorem dX8_init_14 : decode cX8_init 14 = .ok (.iconst 1, 1) := by decide +kernel
theorem dX8_init_15 : decode cX8_init 15 = .ok (.bipush 10, 2) := by decide +kernel
theorem dX8_init_17 : decode cX8_init 17 = .ok (.iastore, 1) := by decide +kernel
theorem dX8_init_18 : decode cX8_init 18 = .ok (.dup, 1) := by decide +kernel
theorem dX8_init_19 : decode cX8_init 19 = .ok (.iconst 2, 1) := by decide +kernel
theorem dX8_init_20 : decode cX8_init 20 = .ok (.bipush 90, 2) := by decide +kernel
theorem dX8_init_22 : decode cX8_init 22 = .ok (.iastore, 1) := by decide +kernel
theorem dX8_init_23 : decode cX8_init 23 = .ok (.putfield 7, 3) := by decide +kernel
theorem dX8_init_26 : decode cX8_init 26 = .ok (.aload_n 0, 1) := by decide +kernel
theorem dX8_init_27 : decode cX8_init 27 = .ok (.new 13, 3) := by decide +kernel
theorem dX8_init_30 : decode cX8_init 30 = .ok (.dup, 1) := by decide +kernel
theorem dX8_init_31 : decode cX8_init 31 = .ok (.invokespecial 15, 3) := by decide +kernel
theorem dX8_init_34 : decode cX8_init 34 = .ok (.putfield 16, 3) := by decide +kernel
theorem dX8_init_37 : decode cX8_init 37 = .ok (.aload_n 0, 1) := by decide +kernel
theorem dX8_init_38 : decode cX8_init 38 = .ok (.new 20, 3) := by decide +kernel
theorem dX8_init_41 : decode cX8_init 41 = .ok (.dup, 1) := by decide +kernel
theorem dX8_init_42 : decode cX8_init 42 = .ok (.aload_n 0, 1) := by decide +kernel
theorem dX8_init_43 : decode cX8_init 43 = .ok (.getfield 16, 3) := by decide +kernel
theorem dX8_init_46 : decode cX8_init 46 = .ok (.aload_n 0, 1) := by decide +kernel
theorem dX8_init_47 : decode cX8_init 47 = .ok (.getfield 7, 3) := by decide +kernel
theorem dX8_init_50 : decode cX8_init 50 = .ok (.invokespecial 22, 3) := by decide +kernel
theorem dX8_init_53 : decode cX8_init 53 = .ok (.putfield 25, 3) := by decide +kernel
theorem dX8_init_56 : decode cX8_init 56 = .ok (.new 29, 3) := by decide +kernel
theorem dX8_init_59 : decode cX8_init 59 = .ok (.dup, 1) := by decide +kernel
theorem dX8_init_60 : decode cX8_init 60 = .ok (.invokespecial 31, 3) := by decide +kernel
theorem dX8_init_63 : decode cX8_init 63 = .ok (.astore_n 1, 1) := by decide +kernel
theorem dX8_init_64 : decode cX8_init 64 = .ok (.aload_n 0, 1) := by decide +kernel
theorem dX8_init_65 : decode cX8_init 65 = .ok (.new 32, 3) := by decide +kernel
theorem dX8_init_68 : decode cX8_init 68 = .ok (.dup, 1) := by decide +kernel
theorem dX8_init_69 : decode cX8_init 69 = .ok (.aload_n 0, 1) := by decide +kernel
theorem dX8_init_70 : decode cX8_init 70 = .ok (.getfield 25, 3) := by decide +kernel
theorem dX8_init_73 : decode cX8_init 73 = .ok (.aload_n 1, 1) := by decide +kernel
theorem dX8_init_74 : decode cX8_init 74 = .ok (.invokespecial 34, 3) := by decide +kernel
theorem dX8_init_77 : decode cX8_init 77 = .ok (.putfield 37, 3) := by decide +kernel
theorem dX8_init_80 : decode cX8_init 80 = .ok (.aload_n 0, 1) := by decide +kernel
theorem dX8_init_81 : decode cX8_init 81 = .ok (.new 41, 3) := by decide +kernel
theorem dX8_init_84 : decode cX8_init 84 = .ok (.dup, 1) := by decide +kernel
theorem dX8_init_85 : decode cX8_init 85 = .ok (.aload_n 0, 1) := by decide +kernel
theorem dX8_init_86 : decode cX8_init 86 = .ok (.getfield 25, 3) := by decide +kernel
theorem dX8_init_89 : decode cX8_init 89 = .ok (.aload_n 1, 1) := by decide +kernel
theorem dX8_init_90 : decode cX8_init 90 = .ok (.invokespecial 43, 3) := by decide +kernel
theorem dX8_init_93 : decode cX8_init 93 = .ok (.putfield 44, 3) := by decide +kernel
theorem dX8_init_96 : decode cX8_init 96 = .ok (.aload_n 0, 1) := by decide +kernel
theorem dX8_init_97 : decode cX8_init 97 = .ok (.new 48, 3) := by decide +kernel
theorem dX8_init_100 : decode cX8_init 100 = .ok (.dup, 1) := by decide +kernel
theorem dX8_init_101 : decode cX8_init 101 = .ok (.invokespecial 50, 3) := by decide +kernel
theorem dX8_init_104 : decode cX8_init 104 = .ok (.putfield 51, 3) := by decide +kernel
theorem dX8_init_107 : decode cX8_init 107 = .ok (.aload_n 0, 1) := by decide +kernel
theorem dX8_init_108 : decode cX8_init 108 = .ok (.new 55, 3) := by decide +kernel
theorem dX8_init_111 : decode cX8_init 111 = .ok (.dup, 1) := by decide +kernel
theorem dX8_init_112 : decode cX8_init 112 = .ok (.aload_n 0, 1) := by decide +kernel
theorem dX8_init_113 : decode cX8_init 113 = .ok (.getfield 25, 3) := by decide +kernel
theorem dX8_init_116 : decode cX8_init 116 = .ok (.aload_n 0, 1) := by decide +kernel
theorem dX8_init_117 : decode cX8_init 117 = .ok (.getfield 51, 3) := by decide +kernel
theorem dX8_init_120 : decode cX8_init 120 = .ok (.invokespecial 57, 3) := by decide +kernel
theorem dX8_init_123 : decode cX8_init 123 = .ok (.putfield 60, 3) := by decide +kernel
theorem dX8_init_126 : decode cX8_init 126 = .ok (.aload_n 0, 1) := by decide +kernel
theorem dX8_init_127 : decode cX8_init 127 = .ok (.new 55, 3) := by decide +kernel
theorem dX8_init_130 : decode cX8_init 130 = .ok (.dup, 1) := by decide +kernel
theorem dX8_init_131 : decode cX8_init 131 = .ok (.aload_n 0, 1) := by decide +kernel
theorem dX8_init_132 : decode cX8_init 132 = .ok (.getfield 25, 3) := by decide +kernel
theorem dX8_init_135 : decode cX8_init 135 = .ok (.aload_n 0, 1) := by decide +kernel
theorem dX8_init_136 : decode cX8_init 136 = .ok (.getfield 51, 3) := by decide +kernel
theorem dX8_init_139 : decode cX8_init 139 = .ok (.invokespecial 57, 3) := by decide +kernel
theorem dX8_init_142 : decode cX8_init 142 = .ok (.putfield 64, 3) := by decide +kernel
theorem dX8_init_145 : decode cX8_init 145 = .ok (.aload_n 0, 1) := by decide +kernel
theorem dX8_init_146 : decode cX8_init 146 = .ok (.new 55, 3) := by decide +kernel
theorem dX8_init_149 : decode cX8_init 149 = .ok (.dup, 1) := by decide +kernel
theorem dX8_init_150 : decode cX8_init 150 = .ok (.aload_n 0, 1) := by decide +kernel
theorem dX8_init_151 : decode cX8_init 151 = .ok (.getfield 25, 3) := by decide +kernel
theorem dX8_init_154 : decode cX8_init 154 = .ok (.aload_n 0, 1) := by decide +kernel
theorem dX8_init_155 : decode cX8_init 155 = .ok (.getfield 51, 3) := by decide +kernel
theorem dX8_init_158 : decode cX8_init 158 = .ok (.invokespecial 57, 3) := by decide +kernel
theorem dX8_init_161 : decode cX8_init 161 = .ok (.putfield 67, 3) := by decide +kernel
theorem dX8_init_164 : decode cX8_init 164 = .ok (.aload_n 0, 1) := by decide +kernel
theorem dX8_init_165 : decode cX8_init 165 = .ok (.iconst 0, 1) := by decide +kernel
theorem dX8_init_166 : decode cX8_init 166 = .ok (.putfield 70, 3) := by decide +kernel
theorem dX8_init_169 : decode cX8_init 169 = .ok (.aload_n 0, 1) := by decide +kernel
theorem dX8_init_170 : decode cX8_init 170 = .ok (.new 74, 3) := by decide +kernel
theorem dX8_init_173 : decode cX8_init 173 = .ok (.dup, 1) := by decide +kernel
theorem dX8_init_174 : decode cX8_init 174 = .ok (.invokespecial 76, 3) := by decide +kernel
theorem dX8_init_177 : decode cX8_init 177 = .ok (.putfield 77, 3) := by decide +kernel
theorem dX8_init_180 : decode cX8_init 180 = .ok (.return_, 1) := by decide +kernel
theorem dX8_engine_0 : decode cX8_engine 0 = .ok (.iload_n 1, 1) := by decide +kernel
theorem dX8_engine_1 : decode cX8_engine 1 = .ok (.iconst 1, 1) := by decide +kernel
theorem dX8_engine_2 : decode cX8_engine 2 = .ok (.sipush 999, 3) := by decide +kernel
theorem dX8_engine_5 : decode cX8_engine 5 = .ok (.invokestatic 81, 3) := by decide +kernel
theorem dX8_engine_8 : decode cX8_engine 8 = .ok (.ifCond .eq 14, 3) := by decide +kernel
theorem dX8_engine_11 : decode cX8_engine 11 = .ok (.iload_n 2, 1) := by decide +kernel
theorem dX8_engine_12 : decode cX8_engine 12 = .ok (.iconst 1, 1) := by decide +kernel
theorem dX8_engine_13 : decode cX8_engine 13 = .ok (.sipush 999, 3) := by decide +kernel
theorem dX8_engine_16 : decode cX8_engine 16 = .ok (.invokestatic 81, 3) := by decide +kernel
theorem dX8_engine_19 : decode cX8_engine 19 = .ok (.ifCond .ne 6, 3) := by decide +kernel
theorem dX8_engine_22 : decode cX8_engine 22 = .ok (.bipush (-2), 2) := by decide +kernel
theorem dX8_engine_24 : decode cX8_engine 24 = .ok (.ireturn, 1) := by decide +kernel
theorem dX8_engine_25 : decode cX8_engine 25 = .ok (.iload_n 3, 1) := by decide +kernel
theorem dX8_engine_26 : decode cX8_engine 26 = .ok (.iconst 1, 1) := by decide +kernel
theorem dX8_engine_27 : decode cX8_engine 27 = .ok (.bipush 99, 2) := by decide +kernel
theorem dX8_engine_29 : decode cX8_engine 29 = .ok (.invokestatic 81, 3) := by decide +kernel
theorem dX8_engine_32 : decode cX8_engine 32 = .ok (.ifCond .eq 15, 3) := by decide +kernel
theorem dX8_engine_35 : decode cX8_engine 35 = .ok (.iload 4, 2) := by decide +kernel
theorem dX8_engine_37 : decode cX8_engine 37 = .ok (.iconst 1, 1) := by decide +kernel
theorem dX8_engine_38 : decode cX8_engine 38 = .ok (.sipush 9999, 3) := by decide +kernel
theorem dX8_engine_41 : decode cX8_engine 41 = .ok (.invokestatic 81, 3) := by decide +kernel
theorem dX8_engine_44 : decode cX8_engine 44 = .ok (.ifCond .ne 6, 3) := by decide +kernel
theorem dX8_engine_47 : decode cX8_engine 47 = .ok (.bipush (-2), 2) := by decide +kernel
theorem dX8_engine_49 : decode cX8_engine 49 = .ok (.ireturn, 1) := by decide +kernel
theorem dX8_engine_50 : decode cX8_engine 50 = .ok (.aload_n 0, 1) := by decide +kernel
theorem dX8_engine_51 : decode cX8_engine 51 = .ok (.getfield 16, 3) := by decide +kernel
theorem dX8_engine_54 : decode cX8_engine 54 = .ok (.iload_n 1, 1) := by decide +kernel
theorem dX8_engine_55 : decode cX8_engine 55 = .ok (.iload_n 2, 1) := by decide +kernel
theorem dX8_engine_56 : decode cX8_engine 56 = .ok (.iload_n 3, 1) := by decide +kernel
theorem dX8_engine_57 : decode cX8_engine 57 = .ok (.iload 4, 2) := by decide +kernel
theorem dX8_engine_59 : decode cX8_engine 59 = .ok (.invokevirtual 85, 3) := by decide +kernel
theorem dX8_engine_62 : decode cX8_engine 62 = .ok (.ireturn, 1) := by decide +kernel
theorem dX8_store_0 : decode cX8_store 0 = .ok (.aload_n 0, 1) := by decide +kernel
theorem dX8_store_1 : decode cX8_store 1 = .ok (.getfield 16, 3) := by decide +kernel
theorem dX8_store_4 : decode cX8_store 4 = .ok (.iload_n 1, 1) := by decide +kernel
theorem dX8_store_5 : decode cX8_store 5 = .ok (.invokevirtual 89, 3) := by decide +kernel
theorem dX8_store_8 : decode cX8_store 8 = .ok (.ifCond .ne 5, 3) := by decide +kernel
theorem dX8_store_11 : decode cX8_store 11 = .ok (.iconst (-1), 1) := by decide +kernel
theorem dX8_store_12 : decode cX8_store 12 = .ok (.ireturn, 1) := by decide +kernel
theorem dX8_store_13 : decode cX8_store 13 = .ok (.iload_n 2, 1) := by decide +kernel
theorem dX8_store_14 : decode cX8_store 14 = .ok (.iconst 1, 1) := by decide +kernel
theorem dX8_store_15 : decode cX8_store 15 = .ok (.bipush 99, 2) := by decide +kernel
theorem dX8_store_17 : decode cX8_store 17 = .ok (.invokestatic 81, 3) := by decide +kernel
theorem dX8_store_20 : decode cX8_store 20 = .ok (.ifCond .ne 6, 3) := by decide +kernel
theorem dX8_store_23 : decode cX8_store 23 = .ok (.bipush (-2), 2) := by decide +kernel
theorem dX8_store_25 : decode cX8_store 25 = .ok (.ireturn, 1) := by decide +kernel
theorem dX8_store_26 : decode cX8_store 26 = .ok (.aload_n 0, 1) := by decide +kernel
theorem dX8_store_27 : decode cX8_store 27 = .ok (.getfield 16, 3) := by decide +kernel
theorem dX8_store_30 : decode cX8_store 30 = .ok (.getfield 93, 3) := by decide +kernel
theorem dX8_store_33 : decode cX8_store 33 = .ok (.iload_n 1, 1) := by decide +kernel
theorem dX8_store_34 : decode cX8_store 34 = .ok (.iaload, 1) := by decide +kernel
theorem dX8_store_35 : decode cX8_store 35 = .ok (.iload_n 2, 1) := by decide +kernel
theorem dX8_store_36 : decode cX8_store 36 = .ok (.iadd, 1) := by decide +kernel
theorem dX8_store_37 : decode cX8_store 37 = .ok (.istore_n 3, 1) := by decide +kernel
theorem dX8_store_38 : decode cX8_store 38 = .ok (.iload_n 3, 1) := by decide +kernel
theorem dX8_store_39 : decode cX8_store 39 = .ok (.bipush 99, 2) := by decide +kernel
theorem dX8_store_41 : decode cX8_store 41 = .ok (.if_icmp .le 6, 3) := by decide +kernel
theorem dX8_store_44 : decode cX8_store 44 = .ok (.bipush (-4), 2) := by decide +kernel
theorem dX8_store_46 : decode cX8_store 46 = .ok (.ireturn, 1) := by decide +kernel
theorem dX8_store_47 : decode cX8_store 47 = .ok (.aload_n 0, 1) := by decide +kernel
theorem dX8_store_48 : decode cX8_store 48 = .ok (.getfield 16, 3) := by decide +kernel
theorem dX8_store_51 : decode cX8_store 51 = .ok (.getfield 93, 3) := by decide +kernel
theorem dX8_store_54 : decode cX8_store 54 = .ok (.iload_n 1, 1) := by decide +kernel
theorem dX8_store_55 : decode cX8_store 55 = .ok (.iload_n 3, 1) := by decide +kernel
theorem dX8_store_56 : decode cX8_store 56 = .ok (.iastore, 1) := by decide +kernel
theorem dX8_store_57 : decode cX8_store 57 = .ok (.iload_n 3, 1) := by decide +kernel
theorem dX8_store_58 : decode cX8_store 58 = .ok (.ireturn, 1) := by decide +kernel
theorem dX8_stage_0 : decode cX8_stage 0 = .ok (.aload_n 0, 1) := by decide +kernel
theorem dX8_stage_1 : decode cX8_stage 1 = .ok (.getfield 16, 3) := by decide +kernel
theorem dX8_stage_4 : decode cX8_stage 4 = .ok (.iload_n 1, 1) := by decide +kernel
theorem dX8_stage_5 : decode cX8_stage 5 = .ok (.invokevirtual 89, 3) := by decide +kernel
theorem dX8_stage_8 : decode cX8_stage 8 = .ok (.ifCond .ne 5, 3) := by decide +kernel
theorem dX8_stage_11 : decode cX8_stage 11 = .ok (.iconst (-1), 1) := by decide +kernel
theorem dX8_stage_12 : decode cX8_stage 12 = .ok (.ireturn, 1) := by decide +kernel
theorem dX8_stage_13 : decode cX8_stage 13 = .ok (.iload_n 2, 1) := by decide +kernel
theorem dX8_stage_14 : decode cX8_stage 14 = .ok (.iconst 1, 1) := by decide +kernel
theorem dX8_stage_15 : decode cX8_stage 15 = .ok (.bipush 9, 2) := by decide +kernel
theorem dX8_stage_17 : decode cX8_stage 17 = .ok (.invokestatic 81, 3) := by decide +kernel
theorem dX8_stage_20 : decode cX8_stage 20 = .ok (.ifCond .eq 25, 3) := by decide +kernel
theorem dX8_stage_23 : decode cX8_stage 23 = .ok (.iload_n 3, 1) := by decide +kernel
theorem dX8_stage_24 : decode cX8_stage 24 = .ok (.iconst 0, 1) := by decide +kernel
theorem dX8_stage_25 : decode cX8_stage 25 = .ok (.sipush 600, 3) := by decide +kernel
theorem dX8_stage_28 : decode cX8_stage 28 = .ok (.invokestatic 81, 3) := by decide +kernel
theorem dX8_stage_31 : decode cX8_stage 31 = .ok (.ifCond .eq 14, 3) := by decide +kernel
theorem dX8_stage_34 : decode cX8_stage 34 = .ok (.iload 4, 2) := by decide +kernel
theorem dX8_stage_36 : decode cX8_stage 36 = .ok (.iconst 0, 1) := by decide +kernel
theorem dX8_stage_37 : decode cX8_stage 37 = .ok (.bipush 99, 2) := by decide +kernel
theorem dX8_stage_39 : decode cX8_stage 39 = .ok (.invokestatic 81, 3) := by decide +kernel
theorem dX8_stage_42 : decode cX8_stage 42 = .ok (.ifCond .ne 6, 3) := by decide +kernel
theorem dX8_stage_45 : decode cX8_stage 45 = .ok (.bipush (-2), 2) := by decide +kernel
theorem dX8_stage_47 : decode cX8_stage 47 = .ok (.ireturn, 1) := by decide +kernel
theorem dX8_stage_48 : decode cX8_stage 48 = .ok (.aload_n 0, 1) := by decide +kernel
theorem dX8_stage_49 : decode cX8_stage 49 = .ok (.getfield 25, 3) := by decide +kernel
theorem dX8_stage_52 : decode cX8_stage 52 = .ok (.iload_n 1, 1) := by decide +kernel
theorem dX8_stage_53 : decode cX8_stage 53 = .ok (.iload_n 2, 1) := by decide +kernel
theorem dX8_stage_54 : decode cX8_stage 54 = .ok (.iload_n 3, 1) := by decide +kernel
theorem dX8_stage_55 : decode cX8_stage 55 = .ok (.iload 4, 2) := by decide +kernel
theorem dX8_stage_57 : decode cX8_stage 57 = .ok (.invokevirtual 96, 3) := by decide +kernel
theorem dX8_stage_60 : decode cX8_stage 60 = .ok (.ireturn, 1) := by decide +kernel
theorem dX8_undo_0 : decode cX8_undo 0 = .ok (.aload_n 0, 1) := by decide +kernel
theorem dX8_undo_1 : decode cX8_undo 1 = .ok (.getfield 25, 3) := by decide +kernel
theorem dX8_undo_4 : decode cX8_undo 4 = .ok (.getfield 99, 3) := by decide +kernel
theorem dX8_undo_7 : decode cX8_undo 7 = .ok (.ifCond .ne 6, 3) := by decide +kernel
theorem dX8_undo_10 : decode cX8_undo 10 = .ok (.bipush (-3), 2) := by decide +kernel
theorem dX8_undo_12 : decode cX8_undo 12 = .ok (.ireturn, 1) := by decide +kernel
theorem dX8_undo_13 : decode cX8_undo 13 = .ok (.aload_n 0, 1) := by decide +kernel
theorem dX8_undo_14 : decode cX8_undo 14 = .ok (.getfield 25, 3) := by decide +kernel
theorem dX8_undo_17 : decode cX8_undo 17 = .ok (.dup, 1) := by decide +kernel
theorem dX8_undo_18 : decode cX8_undo 18 = .ok (.getfield 99, 3) := by decide +kernel
theorem dX8_undo_21 : decode cX8_undo 21 = .ok (.iconst 1, 1) := by decide +kernel
theorem dX8_undo_22 : decode cX8_undo 22 = .ok (.isub, 1) := by decide +kernel
theorem dX8_undo_23 : decode cX8_undo 23 = .ok (.putfield 99, 3) := by decide +kernel
theorem dX8_undo_26 : decode cX8_undo 26 = .ok (.aload_n 0, 1) := by decide +kernel
theorem dX8_undo_27 : decode cX8_undo 27 = .ok (.getfield 25, 3) := by decide +kernel
theorem dX8_undo_30 : decode cX8_undo 30 = .ok (.getfield 99, 3) := by decide +kernel
theorem dX8_undo_33 : decode cX8_undo 33 = .ok (.ireturn, 1) := by decide +kernel
theorem dX8_stuff_0 : decode cX8_stuff 0 = .ok (.aload_n 0, 1) := by decide +kernel
theorem dX8_stuff_1 : decode cX8_stuff 1 = .ok (.getfield 25, 3) := by decide +kernel
theorem dX8_stuff_4 : decode cX8_stuff 4 = .ok (.iload_n 1, 1) := by decide +kernel
theorem dX8_stuff_5 : decode cX8_stuff 5 = .ok (.invokevirtual 103, 3) := by decide +kernel
theorem dX8_stuff_8 : decode cX8_stuff 8 = .ok (.ifCond .ne 5, 3) := by decide +kernel
theorem dX8_stuff_11 : decode cX8_stuff 11 = .ok (.iconst (-1), 1) := by decide +kernel
theorem dX8_stuff_12 : decode cX8_stuff 12 = .ok (.ireturn, 1) := by decide +kernel
theorem dX8_stuff_13 : decode cX8_stuff 13 = .ok (.iload_n 2, 1) := by decide +kernel
theorem dX8_stuff_14 : decode cX8_stuff 14 = .ok (.iconst 0, 1) := by decide +kernel
theorem dX8_stuff_15 : decode cX8_stuff 15 = .ok (.sipush 600, 3) := by decide +kernel
theorem dX8_stuff_18 : decode cX8_stuff 18 = .ok (.invokestatic 81, 3) := by decide +kernel
theorem dX8_stuff_21 : decode cX8_stuff 21 = .ok (.ifCond .ne 6, 3) := by decide +kernel
theorem dX8_stuff_24 : decode cX8_stuff 24 = .ok (.bipush (-2), 2) := by decide +kernel
theorem dX8_stuff_26 : decode cX8_stuff 26 = .ok (.ireturn, 1) := by decide +kernel
theorem dX8_stuff_27 : decode cX8_stuff 27 = .ok (.aload_n 0, 1) := by decide +kernel
theorem dX8_stuff_28 : decode cX8_stuff 28 = .ok (.getfield 25, 3) := by decide +kernel
theorem dX8_stuff_31 : decode cX8_stuff 31 = .ok (.getfield 104, 3) := by decide +kernel
theorem dX8_stuff_34 : decode cX8_stuff 34 = .ok (.iload_n 1, 1) := by decide +kernel
theorem dX8_stuff_35 : decode cX8_stuff 35 = .ok (.iload_n 2, 1) := by decide +kernel
theorem dX8_stuff_36 : decode cX8_stuff 36 = .ok (.invokestatic 107, 3) := by decide +kernel
theorem dX8_stuff_39 : decode cX8_stuff 39 = .ok (.ireturn, 1) := by decide +kernel
theorem dX8_set_0 : decode cX8_set 0 = .ok (.iload_n 1, 1) := by decide +kernel
theorem dX8_set_1 : decode cX8_set 1 = .ok (.iconst 0, 1) := by decide +kernel
theorem dX8_set_2 : decode cX8_set 2 = .ok (.iconst 2, 1) := by decide +kernel
theorem dX8_set_3 : decode cX8_set 3 = .ok (.invokestatic 81, 3) := by decide +kernel
theorem dX8_set_6 : decode cX8_set 6 = .ok (.ifCond .ne 5, 3) := by decide +kernel
theorem dX8_set_9 : decode cX8_set 9 = .ok (.iconst (-1), 1) := by decide +kernel
theorem dX8_set_10 : decode cX8_set 10 = .ok (.ireturn, 1) := by decide +kernel
theorem dX8_set_11 : decode cX8_set 11 = .ok (.iload_n 2, 1) := by decide +kernel
theorem dX8_set_12 : decode cX8_set 12 = .ok (.getstatic 111, 3) := by decide +kernel
theorem dX8_set_15 : decode cX8_set 15 = .ok (.iload_n 1, 1) := by decide +kernel
theorem dX8_set_16 : decode cX8_set 16 = .ok (.iaload, 1) := by decide +kernel
theorem dX8_set_17 : decode cX8_set 17 = .ok (.getstatic 114, 3) := by decide +kernel
theorem dX8_set_20 : decode cX8_set 20 = .ok (.iload_n 1, 1) := by decide +kernel
theorem dX8_set_21 : decode cX8_set 21 = .ok (.iaload, 1) := by decide +kernel
theorem dX8_set_22 : decode cX8_set 22 = .ok (.invokestatic 81, 3) := by decide +kernel
theorem dX8_set_25 : decode cX8_set 25 = .ok (.ifCond .ne 6, 3) := by decide +kernel
theorem dX8_set_28 : decode cX8_set 28 = .ok (.bipush (-2), 2) := by decide +kernel
theorem dX8_set_30 : decode cX8_set 30 = .ok (.ireturn, 1) := by decide +kernel
theorem dX8_set_31 : decode cX8_set 31 = .ok (.aload_n 0, 1) := by decide +kernel
theorem dX8_set_32 : decode cX8_set 32 = .ok (.getfield 7, 3) := by decide +kernel
theorem dX8_set_35 : decode cX8_set 35 = .ok (.iload_n 1, 1) := by decide +kernel
theorem dX8_set_36 : decode cX8_set 36 = .ok (.iload_n 2, 1) := by decide +kernel
theorem dX8_set_37 : decode cX8_set 37 = .ok (.invokestatic 107, 3) := by decide +kernel
theorem dX8_set_40 : decode cX8_set 40 = .ok (.ireturn, 1) := by decide +kernel
theorem dX8_about_0 : decode cX8_about 0 = .ok (.aload_n 0, 1) := by decide +kernel
theorem dX8_about_1 : decode cX8_about 1 = .ok (.getfield 25, 3) := by decide +kernel
theorem dX8_about_4 : decode cX8_about 4 = .ok (.iload_n 1, 1) := by decide +kernel
theorem dX8_about_5 : decode cX8_about 5 = .ok (.invokevirtual 103, 3) := by decide +kernel
theorem dX8_about_8 : decode cX8_about 8 = .ok (.ifCond .ne 5, 3) := by decide +kernel
theorem dX8_about_11 : decode cX8_about 11 = .ok (.iconst (-1), 1) := by decide +kernel
theorem dX8_about_12 : decode cX8_about 12 = .ok (.ireturn, 1) := by decide +kernel
theorem dX8_about_13 : decode cX8_about 13 = .ok (.iload_n 2, 1) := by decide +kernel
theorem dX8_about_14 : decode cX8_about 14 = .ok (.tableswitch 136 0 8 #[50, 60, 70, 80, 90, 99, 108, 118, 127], 50) := by decide +kernel
theorem dX8_about_64 : decode cX8_about 64 = .ok (.aload_n 0, 1) := by decide +kernel
theorem dX8_about_65 : decode cX8_about 65 = .ok (.getfield 25, 3) := by decide +kernel
theorem dX8_about_68 : decode cX8_about 68 = .ok (.getfield 117, 3) := by decide +kernel
theorem dX8_about_71 : decode cX8_about 71 = .ok (.iload_n 1, 1) := by decide +kernel
theorem dX8_about_72 : decode cX8_about 72 = .ok (.iaload, 1) := by decide +kernel
theorem dX8_about_73 : decode cX8_about 73 = .ok (.ireturn, 1) := by decide +kernel
theorem dX8_about_74 : decode cX8_about 74 = .ok (.aload_n 0, 1) := by decide +kernel
theorem dX8_about_75 : decode cX8_about 75 = .ok (.getfield 25, 3) := by decide +kernel
theorem dX8_about_78 : decode cX8_about 78 = .ok (.getfield 120, 3) := by decide +kernel
theorem dX8_about_81 : decode cX8_about 81 = .ok (.iload_n 1, 1) := by decide +kernel
theorem dX8_about_82 : decode cX8_about 82 = .ok (.iaload, 1) := by decide +kernel
theorem dX8_about_83 : decode cX8_about 83 = .ok (.ireturn, 1) := by decide +kernel
theorem dX8_about_84 : decode cX8_about 84 = .ok (.aload_n 0, 1) := by decide +kernel
theorem dX8_about_85 : decode cX8_about 85 = .ok (.getfield 25, 3) := by decide +kernel
theorem dX8_about_88 : decode cX8_about 88 = .ok (.getfield 104, 3) := by decide +kernel
theorem dX8_about_91 : decode cX8_about 91 = .ok (.iload_n 1, 1) := by decide +kernel
theorem dX8_about_92 : decode cX8_about 92 = .ok (.iaload, 1) := by decide +kernel
theorem dX8_about_93 : decode cX8_about 93 = .ok (.ireturn, 1) := by decide +kernel
theorem dX8_about_94 : decode cX8_about 94 = .ok (.aload_n 0, 1) := by decide +kernel
theorem dX8_about_95 : decode cX8_about 95 = .ok (.getfield 25, 3) := by decide +kernel
theorem dX8_about_98 : decode cX8_about 98 = .ok (.getfield 123, 3) := by decide +kernel
theorem dX8_about_101 : decode cX8_about 101 = .ok (.iload_n 1, 1) := by decide +kernel
theorem dX8_about_102 : decode cX8_about 102 = .ok (.iaload, 1) := by decide +kernel
theorem dX8_about_103 : decode cX8_about 103 = .ok (.ireturn, 1) := by decide +kernel
theorem dX8_about_104 : decode cX8_about 104 = .ok (.aload_n 0, 1) := by decide +kernel
theorem dX8_about_105 : decode cX8_about 105 = .ok (.getfield 25, 3) := by decide +kernel
theorem dX8_about_108 : decode cX8_about 108 = .ok (.iload_n 1, 1) := by decide +kernel
theorem dX8_about_109 : decode cX8_about 109 = .ok (.invokevirtual 126, 3) := by decide +kernel
theorem dX8_about_112 : decode cX8_about 112 = .ok (.ireturn, 1) := by decide +kernel
theorem dX8_about_113 : decode cX8_about 113 = .ok (.aload_n 0, 1) := by decide +kernel
theorem dX8_about_114 : decode cX8_about 114 = .ok (.getfield 25, 3) := by decide +kernel
theorem dX8_about_117 : decode cX8_about 117 = .ok (.iload_n 1, 1) := by decide +kernel
theorem dX8_about_118 : decode cX8_about 118 = .ok (.invokevirtual 130, 3) := by decide +kernel
theorem dX8_about_121 : decode cX8_about 121 = .ok (.ireturn, 1) := by decide +kernel
theorem dX8_about_122 : decode cX8_about 122 = .ok (.aload_n 0, 1) := by decide +kernel
theorem dX8_about_123 : decode cX8_about 123 = .ok (.getfield 25, 3) := by decide +kernel
theorem dX8_about_126 : decode cX8_about 126 = .ok (.iload_n 1, 1) := by decide +kernel
theorem dX8_about_127 : decode cX8_about 127 = .ok (.iconst 0, 1) := by decide +kernel
theorem dX8_about_128 : decode cX8_about 128 = .ok (.invokevirtual 133, 3) := by decide +kernel
theorem dX8_about_131 : decode cX8_about 131 = .ok (.ireturn, 1) := by decide +kernel
theorem dX8_about_132 : decode cX8_about 132 = .ok (.aload_n 0, 1) := by decide +kernel
theorem dX8_about_133 : decode cX8_about 133 = .ok (.getfield 25, 3) := by decide +kernel
theorem dX8_about_136 : decode cX8_about 136 = .ok (.iload_n 1, 1) := by decide +kernel
theorem dX8_about_137 : decode cX8_about 137 = .ok (.invokevirtual 137, 3) := by decide +kernel
theorem dX8_about_140 : decode cX8_about 140 = .ok (.ireturn, 1) := by decide +kernel
theorem dX8_about_141 : decode cX8_about 141 = .ok (.aload_n 0, 1) := by decide +kernel
theorem dX8_about_142 : decode cX8_about 142 = .ok (.getfield 25, 3) := by decide +kernel
theorem dX8_about_145 : decode cX8_about 145 = .ok (.iload_n 1, 1) := by decide +kernel
theorem dX8_about_146 : decode cX8_about 146 = .ok (.invokevirtual 140, 3) := by decide +kernel
theorem dX8_about_149 : decode cX8_about 149 = .ok (.ireturn, 1) := by decide +kernel
theorem dX8_about_150 : decode cX8_about 150 = .ok (.iconst (-1), 1) := by decide +kernel
theorem dX8_about_151 : decode cX8_about 151 = .ok (.ireturn, 1) := by decide +kernel
theorem dX8_speed_0 : decode cX8_speed 0 = .ok (.iload_n 1, 1) := by decide +kernel
theorem dX8_speed_1 : decode cX8_speed 1 = .ok (.iconst 0, 1) := by decide +kernel
theorem dX8_speed_2 : decode cX8_speed 2 = .ok (.iconst 1, 1) := by decide +kernel
theorem dX8_speed_3 : decode cX8_speed 3 = .ok (.invokestatic 81, 3) := by decide +kernel
theorem dX8_speed_6 : decode cX8_speed 6 = .ok (.ifCond .ne 5, 3) := by decide +kernel
theorem dX8_speed_9 : decode cX8_speed 9 = .ok (.iconst (-1), 1) := by decide +kernel
theorem dX8_speed_10 : decode cX8_speed 10 = .ok (.ireturn, 1) := by decide +kernel
theorem dX8_speed_11 : decode cX8_speed 11 = .ok (.iconst 0, 1) := by decide +kernel
theorem dX8_speed_12 : decode cX8_speed 12 = .ok (.istore_n 2, 1) := by decide +kernel
theorem dX8_speed_13 : decode cX8_speed 13 = .ok (.iconst 0, 1) := by decide +kernel
theorem dX8_speed_14 : decode cX8_speed 14 = .ok (.istore_n 3, 1) := by decide +kernel
theorem dX8_speed_15 : decode cX8_speed 15 = .ok (.iload_n 3, 1) := by decide +kernel
theorem dX8_speed_16 : decode cX8_speed 16 = .ok (.aload_n 0, 1) := by decide +kernel
theorem dX8_speed_17 : decode cX8_speed 17 = .ok (.getfield 25, 3) := by decide +kernel
theorem dX8_speed_20 : decode cX8_speed 20 = .ok (.getfield 99, 3) := by decide +kernel
theorem dX8_speed_23 : decode cX8_speed 23 = .ok (.if_icmp .ge 36, 3) := by decide +kernel
theorem dX8_speed_26 : decode cX8_speed 26 = .ok (.iload_n 2, 1) := by decide +kernel
theorem dX8_speed_27 : decode cX8_speed 27 = .ok (.iload_n 1, 1) := by decide +kernel
theorem dX8_speed_28 : decode cX8_speed 28 = .ok (.ifCond .ne 15, 3) := by decide +kernel
theorem dX8_speed_31 : decode cX8_speed 31 = .ok (.aload_n 0, 1) := by decide +kernel
theorem dX8_speed_32 : decode cX8_speed 32 = .ok (.getfield 25, 3) := by decide +kernel
theorem dX8_speed_35 : decode cX8_speed 35 = .ok (.iload_n 3, 1) := by decide +kernel
theorem dX8_speed_36 : decode cX8_speed 36 = .ok (.iconst 0, 1) := by decide +kernel
theorem dX8_speed_37 : decode cX8_speed 37 = .ok (.invokevirtual 133, 3) := by decide +kernel
theorem dX8_speed_40 : decode cX8_speed 40 = .ok (.goto 11, 3) := by decide +kernel
theorem dX8_speed_43 : decode cX8_speed 43 = .ok (.aload_n 0, 1) := by decide +kernel
theorem dX8_speed_44 : decode cX8_speed 44 = .ok (.getfield 25, 3) := by decide +kernel
theorem dX8_speed_47 : decode cX8_speed 47 = .ok (.iload_n 3, 1) := by decide +kernel
theorem dX8_speed_48 : decode cX8_speed 48 = .ok (.invokevirtual 137, 3) := by decide +kernel
theorem dX8_speed_51 : decode cX8_speed 51 = .ok (.iadd, 1) := by decide +kernel
theorem dX8_speed_52 : decode cX8_speed 52 = .ok (.istore_n 2, 1) := by decide +kernel
theorem dX8_speed_53 : decode cX8_speed 53 = .ok (.iinc 3 1, 3) := by decide +kernel
theorem dX8_speed_56 : decode cX8_speed 56 = .ok (.goto (-41), 3) := by decide +kernel
theorem dX8_speed_59 : decode cX8_speed 59 = .ok (.iload_n 2, 1) := by decide +kernel
theorem dX8_speed_60 : decode cX8_speed 60 = .ok (.ireturn, 1) := by decide +kernel
theorem dX8_split_0 : decode cX8_split 0 = .ok (.iload_n 1, 1) := by decide +kernel
theorem dX8_split_1 : decode cX8_split 1 = .ok (.iconst 0, 1) := by decide +kernel
theorem dX8_split_2 : decode cX8_split 2 = .ok (.bipush 20, 2) := by decide +kernel
theorem dX8_split_4 : decode cX8_split 4 = .ok (.invokestatic 81, 3) := by decide +kernel
theorem dX8_split_7 : decode cX8_split 7 = .ok (.ifCond .eq 13, 3) := by decide +kernel
theorem dX8_split_10 : decode cX8_split 10 = .ok (.iload_n 2, 1) := by decide +kernel
theorem dX8_split_11 : decode cX8_split 11 = .ok (.iconst 1, 1) := by decide +kernel
theorem dX8_split_12 : decode cX8_split 12 = .ok (.bipush 30, 2) := by decide +kernel
theorem dX8_split_14 : decode cX8_split 14 = .ok (.invokestatic 81, 3) := by decide +kernel
theorem dX8_split_17 : decode cX8_split 17 = .ok (.ifCond .ne 6, 3) := by decide +kernel
theorem dX8_split_20 : decode cX8_split 20 = .ok (.bipush (-2), 2) := by decide +kernel
theorem dX8_split_22 : decode cX8_split 22 = .ok (.ireturn, 1) := by decide +kernel
theorem dX8_split_23 : decode cX8_split 23 = .ok (.aload_n 0, 1) := by decide +kernel
theorem dX8_split_24 : decode cX8_split 24 = .ok (.getfield 25, 3) := by decide +kernel
theorem dX8_split_27 : decode cX8_split 27 = .ok (.getfield 99, 3) := by decide +kernel
theorem dX8_split_30 : decode cX8_split 30 = .ok (.ifCond .ne 6, 3) := by decide +kernel
theorem dX8_split_33 : decode cX8_split 33 = .ok (.bipush (-3), 2) := by decide +kernel
theorem dX8_split_35 : decode cX8_split 35 = .ok (.ireturn, 1) := by decide +kernel
theorem dX8_split_36 : decode cX8_split 36 = .ok (.aload_n 0, 1) := by decide +kernel
theorem dX8_split_37 : decode cX8_split 37 = .ok (.getfield 37, 3) := by decide +kernel
theorem dX8_split_40 : decode cX8_split 40 = .ok (.iload_n 1, 1) := by decide +kernel
theorem dX8_split_41 : decode cX8_split 41 = .ok (.iload_n 2, 1) := by decide +kernel
theorem dX8_split_42 : decode cX8_split 42 = .ok (.invokevirtual 143, 3) := by decide +kernel
theorem dX8_split_45 : decode cX8_split 45 = .ok (.ireturn, 1) := by decide +kernel
theorem dX8_lots_0 : decode cX8_lots 0 = .ok (.iload_n 1, 1) := by decide +kernel
theorem dX8_lots_1 : decode cX8_lots 1 = .ok (.iconst 0, 1) := by decide +kernel
theorem dX8_lots_2 : decode cX8_lots 2 = .ok (.aload_n 0, 1) := by decide +kernel
theorem dX8_lots_3 : decode cX8_lots 3 = .ok (.getfield 37, 3) := by decide +kernel
theorem dX8_lots_6 : decode cX8_lots 6 = .ok (.getfield 146, 3) := by decide +kernel
theorem dX8_lots_9 : decode cX8_lots 9 = .ok (.iconst 1, 1) := by decide +kernel
theorem dX8_lots_10 : decode cX8_lots 10 = .ok (.isub, 1) := by decide +kernel
theorem dX8_lots_11 : decode cX8_lots 11 = .ok (.invokestatic 81, 3) := by decide +kernel
theorem dX8_lots_14 : decode cX8_lots 14 = .ok (.ifCond .ne 5, 3) := by decide +kernel
theorem dX8_lots_17 : decode cX8_lots 17 = .ok (.iconst (-1), 1) := by decide +kernel
theorem dX8_lots_18 : decode cX8_lots 18 = .ok (.ireturn, 1) := by decide +kernel
theorem dX8_lots_19 : decode cX8_lots 19 = .ok (.aload_n 0, 1) := by decide +kernel
theorem dX8_lots_20 : decode cX8_lots 20 = .ok (.getfield 37, 3) := by decide +kernel
theorem dX8_lots_23 : decode cX8_lots 23 = .ok (.getfield 149, 3) := by decide +kernel
theorem dX8_lots_26 : decode cX8_lots 26 = .ok (.iload_n 1, 1) := by decide +kernel
theorem dX8_lots_27 : decode cX8_lots 27 = .ok (.invokestatic 152, 3) := by decide +kernel
theorem dX8_lots_30 : decode cX8_lots 30 = .ok (.ireturn, 1) := by decide +kernel
theorem dX8_cheapest_0 : decode cX8_cheapest 0 = .ok (.iload_n 1, 1) := by decide +kernel
theorem dX8_cheapest_1 : decode cX8_cheapest 1 = .ok (.iconst 0, 1) := by decide +kernel
theorem dX8_cheapest_2 : decode cX8_cheapest 2 = .ok (.ldc 155, 2) := by decide +kernel
theorem dX8_cheapest_4 : decode cX8_cheapest 4 = .ok (.invokestatic 81, 3) := by decide +kernel
theorem dX8_cheapest_7 : decode cX8_cheapest 7 = .ok (.ifCond .eq 14, 3) := by decide +kernel
theorem dX8_cheapest_10 : decode cX8_cheapest 10 = .ok (.iload_n 2, 1) := by decide +kernel
theorem dX8_cheapest_11 : decode cX8_cheapest 11 = .ok (.iconst 0, 1) := by decide +kernel
theorem dX8_cheapest_12 : decode cX8_cheapest 12 = .ok (.sipush 1000, 3) := by decide +kernel
theorem dX8_cheapest_15 : decode cX8_cheapest 15 = .ok (.invokestatic 81, 3) := by decide +kernel
theorem dX8_cheapest_18 : decode cX8_cheapest 18 = .ok (.ifCond .ne 6, 3) := by decide +kernel
theorem dX8_cheapest_21 : decode cX8_cheapest 21 = .ok (.bipush (-2), 2) := by decide +kernel
theorem dX8_cheapest_23 : decode cX8_cheapest 23 = .ok (.ireturn, 1) := by decide +kernel
theorem dX8_cheapest_24 : decode cX8_cheapest 24 = .ok (.aload_n 0, 1) := by decide +kernel
theorem dX8_cheapest_25 : decode cX8_cheapest 25 = .ok (.getfield 25, 3) := by decide +kernel
theorem dX8_cheapest_28 : decode cX8_cheapest 28 = .ok (.getfield 99, 3) := by decide +kernel
theorem dX8_cheapest_31 : decode cX8_cheapest 31 = .ok (.ifCond .eq 24, 3) := by decide +kernel
theorem dX8_cheapest_34 : decode cX8_cheapest 34 = .ok (.aload_n 0, 1) := by decide +kernel
theorem dX8_cheapest_35 : decode cX8_cheapest 35 = .ok (.getfield 16, 3) := by decide +kernel
theorem dX8_cheapest_38 : decode cX8_cheapest 38 = .ok (.getfield 156, 3) := by decide +kernel
theorem dX8_cheapest_41 : decode cX8_cheapest 41 = .ok (.ifCond .eq 14, 3) := by decide +kernel
theorem dX8_cheapest_44 : decode cX8_cheapest 44 = .ok (.aload_n 0, 1) := by decide +kernel
theorem dX8_cheapest_45 : decode cX8_cheapest 45 = .ok (.getfield 25, 3) := by decide +kernel
theorem dX8_cheapest_48 : decode cX8_cheapest 48 = .ok (.getfield 99, 3) := by decide +kernel
theorem dX8_cheapest_51 : decode cX8_cheapest 51 = .ok (.iconst 3, 1) := by decide +kernel
theorem dX8_cheapest_52 : decode cX8_cheapest 52 = .ok (.if_icmp .le 6, 3) := by decide +kernel
theorem dX8_cheapest_55 : decode cX8_cheapest 55 = .ok (.bipush (-3), 2) := by decide +kernel
theorem dX8_cheapest_57 : decode cX8_cheapest 57 = .ok (.ireturn, 1) := by decide +kernel
theorem dX8_cheapest_58 : decode cX8_cheapest 58 = .ok (.aload_n 0, 1) := by decide +kernel
theorem dX8_cheapest_59 : decode cX8_cheapest 59 = .ok (.getfield 44, 3) := by decide +kernel
theorem dX8_cheapest_62 : decode cX8_cheapest 62 = .ok (.iload_n 1, 1) := by decide +kernel
theorem dX8_cheapest_63 : decode cX8_cheapest 63 = .ok (.iload_n 2, 1) := by decide +kernel
theorem dX8_cheapest_64 : decode cX8_cheapest 64 = .ok (.invokevirtual 157, 3) := by decide +kernel
theorem dX8_cheapest_67 : decode cX8_cheapest 67 = .ok (.ireturn, 1) := by decide +kernel
theorem dX8_chosen_0 : decode cX8_chosen 0 = .ok (.iload_n 1, 1) := by decide +kernel
theorem dX8_chosen_1 : decode cX8_chosen 1 = .ok (.iconst 0, 1) := by decide +kernel
theorem dX8_chosen_2 : decode cX8_chosen 2 = .ok (.aload_n 0, 1) := by decide +kernel
theorem dX8_chosen_3 : decode cX8_chosen 3 = .ok (.getfield 44, 3) := by decide +kernel
theorem dX8_chosen_6 : decode cX8_chosen 6 = .ok (.getfield 158, 3) := by decide +kernel
theorem dX8_chosen_9 : decode cX8_chosen 9 = .ok (.iconst 1, 1) := by decide +kernel
theorem dX8_chosen_10 : decode cX8_chosen 10 = .ok (.isub, 1) := by decide +kernel
theorem dX8_chosen_11 : decode cX8_chosen 11 = .ok (.invokestatic 81, 3) := by decide +kernel
theorem dX8_chosen_14 : decode cX8_chosen 14 = .ok (.ifCond .eq 12, 3) := by decide +kernel
theorem dX8_chosen_17 : decode cX8_chosen 17 = .ok (.iload_n 2, 1) := by decide +kernel
theorem dX8_chosen_18 : decode cX8_chosen 18 = .ok (.iconst 0, 1) := by decide +kernel
theorem dX8_chosen_19 : decode cX8_chosen 19 = .ok (.iconst 1, 1) := by decide +kernel
theorem dX8_chosen_20 : decode cX8_chosen 20 = .ok (.invokestatic 81, 3) := by decide +kernel
theorem dX8_chosen_23 : decode cX8_chosen 23 = .ok (.ifCond .ne 5, 3) := by decide +kernel
theorem dX8_chosen_26 : decode cX8_chosen 26 = .ok (.iconst (-1), 1) := by decide +kernel
theorem dX8_chosen_27 : decode cX8_chosen 27 = .ok (.ireturn, 1) := by decide +kernel
theorem dX8_chosen_28 : decode cX8_chosen 28 = .ok (.aload_n 0, 1) := by decide +kernel
theorem dX8_chosen_29 : decode cX8_chosen 29 = .ok (.getfield 44, 3) := by decide +kernel
theorem dX8_chosen_32 : decode cX8_chosen 32 = .ok (.getfield 159, 3) := by decide +kernel
theorem dX8_chosen_35 : decode cX8_chosen 35 = .ok (.iload_n 1, 1) := by decide +kernel
theorem dX8_chosen_36 : decode cX8_chosen 36 = .ok (.invokestatic 152, 3) := by decide +kernel
theorem dX8_chosen_39 : decode cX8_chosen 39 = .ok (.istore_n 3, 1) := by decide +kernel
theorem dX8_chosen_40 : decode cX8_chosen 40 = .ok (.iload_n 2, 1) := by decide +kernel
theorem dX8_chosen_41 : decode cX8_chosen 41 = .ok (.ifCond .ne 10, 3) := by decide +kernel
theorem dX8_chosen_44 : decode cX8_chosen 44 = .ok (.iload_n 3, 1) := by decide +kernel
theorem dX8_chosen_45 : decode cX8_chosen 45 = .ok (.invokestatic 162, 3) := by decide +kernel
theorem dX8_chosen_48 : decode cX8_chosen 48 = .ok (.goto 7, 3) := by decide +kernel
theorem dX8_chosen_51 : decode cX8_chosen 51 = .ok (.iload_n 3, 1) := by decide +kernel
theorem dX8_chosen_52 : decode cX8_chosen 52 = .ok (.invokestatic 165, 3) := by decide +kernel
theorem dX8_chosen_55 : decode cX8_chosen 55 = .ok (.ireturn, 1) := by decide +kernel
theorem dX8_air_0 : decode cX8_air 0 = .ok (.iload_n 1, 1) := by decide +kernel
theorem dX8_air_1 : decode cX8_air 1 = .ok (.iconst 0, 1) := by decide +kernel
theorem dX8_air_2 : decode cX8_air 2 = .ok (.bipush 9, 2) := by decide +kernel
theorem dX8_air_4 : decode cX8_air 4 = .ok (.invokestatic 81, 3) := by decide +kernel
theorem dX8_air_7 : decode cX8_air 7 = .ok (.ifCond .ne 5, 3) := by decide +kernel
theorem dX8_air_10 : decode cX8_air 10 = .ok (.iconst (-1), 1) := by decide +kernel
theorem dX8_air_11 : decode cX8_air 11 = .ok (.ireturn, 1) := by decide +kernel
theorem dX8_air_12 : decode cX8_air 12 = .ok (.iload_n 2, 1) := by decide +kernel
theorem dX8_air_13 : decode cX8_air 13 = .ok (.iconst 0, 1) := by decide +kernel
theorem dX8_air_14 : decode cX8_air 14 = .ok (.sipush 999, 3) := by decide +kernel
theorem dX8_air_17 : decode cX8_air 17 = .ok (.invokestatic 81, 3) := by decide +kernel
theorem dX8_air_20 : decode cX8_air 20 = .ok (.ifCond .ne 6, 3) := by decide +kernel
theorem dX8_air_23 : decode cX8_air 23 = .ok (.bipush (-2), 2) := by decide +kernel
theorem dX8_air_25 : decode cX8_air 25 = .ok (.ireturn, 1) := by decide +kernel
theorem dX8_air_26 : decode cX8_air 26 = .ok (.aload_n 0, 1) := by decide +kernel
theorem dX8_air_27 : decode cX8_air 27 = .ok (.getfield 51, 3) := by decide +kernel
theorem dX8_air_30 : decode cX8_air 30 = .ok (.getfield 168, 3) := by decide +kernel
theorem dX8_air_33 : decode cX8_air 33 = .ok (.iload_n 1, 1) := by decide +kernel
theorem dX8_air_34 : decode cX8_air 34 = .ok (.iload_n 2, 1) := by decide +kernel
theorem dX8_air_35 : decode cX8_air 35 = .ok (.invokestatic 107, 3) := by decide +kernel
theorem dX8_air_38 : decode cX8_air 38 = .ok (.ireturn, 1) := by decide +kernel
theorem dX8_limit_0 : decode cX8_limit 0 = .ok (.iload_n 1, 1) := by decide +kernel
theorem dX8_limit_1 : decode cX8_limit 1 = .ok (.iconst 0, 1) := by decide +kernel
theorem dX8_limit_2 : decode cX8_limit 2 = .ok (.iconst 2, 1) := by decide +kernel
theorem dX8_limit_3 : decode cX8_limit 3 = .ok (.invokestatic 81, 3) := by decide +kernel
theorem dX8_limit_6 : decode cX8_limit 6 = .ok (.ifCond .ne 5, 3) := by decide +kernel
theorem dX8_limit_9 : decode cX8_limit 9 = .ok (.iconst (-1), 1) := by decide +kernel
theorem dX8_limit_10 : decode cX8_limit 10 = .ok (.ireturn, 1) := by decide +kernel
theorem dX8_limit_11 : decode cX8_limit 11 = .ok (.iload_n 2, 1) := by decide +kernel
theorem dX8_limit_12 : decode cX8_limit 12 = .ok (.iconst 0, 1) := by decide +kernel
theorem dX8_limit_13 : decode cX8_limit 13 = .ok (.ldc 155, 2) := by decide +kernel
theorem dX8_limit_15 : decode cX8_limit 15 = .ok (.invokestatic 81, 3) := by decide +kernel
theorem dX8_limit_18 : decode cX8_limit 18 = .ok (.ifCond .ne 6, 3) := by decide +kernel
theorem dX8_limit_21 : decode cX8_limit 21 = .ok (.bipush (-2), 2) := by decide +kernel
theorem dX8_limit_23 : decode cX8_limit 23 = .ok (.ireturn, 1) := by decide +kernel
theorem dX8_limit_24 : decode cX8_limit 24 = .ok (.aload_n 0, 1) := by decide +kernel
theorem dX8_limit_25 : decode cX8_limit 25 = .ok (.getfield 51, 3) := by decide +kernel
theorem dX8_limit_28 : decode cX8_limit 28 = .ok (.getfield 171, 3) := by decide +kernel
theorem dX8_limit_31 : decode cX8_limit 31 = .ok (.iload_n 1, 1) := by decide +kernel
theorem dX8_limit_32 : decode cX8_limit 32 = .ok (.iload_n 2, 1) := by decide +kernel
theorem dX8_limit_33 : decode cX8_limit 33 = .ok (.invokestatic 107, 3) := by decide +kernel
theorem dX8_limit_36 : decode cX8_limit 36 = .ok (.ireturn, 1) := by decide +kernel
theorem dX8_fly_0 : decode cX8_fly 0 = .ok (.aload_n 0, 1) := by decide +kernel
theorem dX8_fly_1 : decode cX8_fly 1 = .ok (.getfield 25, 3) := by decide +kernel
theorem dX8_fly_4 : decode cX8_fly 4 = .ok (.invokevirtual 174, 3) := by decide +kernel
theorem dX8_fly_7 : decode cX8_fly 7 = .ok (.ifCond .ne 6, 3) := by decide +kernel
theorem dX8_fly_10 : decode cX8_fly 10 = .ok (.bipush (-3), 2) := by decide +kernel
theorem dX8_fly_12 : decode cX8_fly 12 = .ok (.ireturn, 1) := by decide +kernel
theorem dX8_fly_13 : decode cX8_fly 13 = .ok (.aload_n 0, 1) := by decide +kernel
theorem dX8_fly_14 : decode cX8_fly 14 = .ok (.getfield 60, 3) := by decide +kernel
theorem dX8_fly_17 : decode cX8_fly 17 = .ok (.invokevirtual 178, 3) := by decide +kernel
theorem dX8_fly_20 : decode cX8_fly 20 = .ok (.aload_n 0, 1) := by decide +kernel
theorem dX8_fly_21 : decode cX8_fly 21 = .ok (.getfield 60, 3) := by decide +kernel
theorem dX8_fly_24 : decode cX8_fly 24 = .ok (.sipush 2000, 3) := by decide +kernel
theorem dX8_fly_27 : decode cX8_fly 27 = .ok (.iconst 0, 1) := by decide +kernel
theorem dX8_fly_28 : decode cX8_fly 28 = .ok (.invokevirtual 181, 3) := by decide +kernel
theorem dX8_fly_31 : decode cX8_fly 31 = .ok (.aload_n 0, 1) := by decide +kernel
theorem dX8_fly_32 : decode cX8_fly 32 = .ok (.iconst 1, 1) := by decide +kernel
theorem dX8_fly_33 : decode cX8_fly 33 = .ok (.putfield 70, 3) := by decide +kernel
theorem dX8_fly_36 : decode cX8_fly 36 = .ok (.aload_n 0, 1) := by decide +kernel
theorem dX8_fly_37 : decode cX8_fly 37 = .ok (.getfield 60, 3) := by decide +kernel
theorem dX8_fly_40 : decode cX8_fly 40 = .ok (.invokevirtual 185, 3) := by decide +kernel
theorem dX8_fly_43 : decode cX8_fly 43 = .ok (.ireturn, 1) := by decide +kernel
theorem dX8_flown_0 : decode cX8_flown 0 = .ok (.aload_n 0, 1) := by decide +kernel
theorem dX8_flown_1 : decode cX8_flown 1 = .ok (.getfield 70, 3) := by decide +kernel
theorem dX8_flown_4 : decode cX8_flown 4 = .ok (.ifCond .ne 5, 3) := by decide +kernel
theorem dX8_flown_7 : decode cX8_flown 7 = .ok (.iconst (-1), 1) := by decide +kernel
theorem dX8_flown_8 : decode cX8_flown 8 = .ok (.ireturn, 1) := by decide +kernel
theorem dX8_flown_9 : decode cX8_flown 9 = .ok (.iload_n 1, 1) := by decide +kernel
theorem dX8_flown_10 : decode cX8_flown 10 = .ok (.tableswitch 98 0 6 #[42, 50, 58, 66, 74, 82, 90], 42) := by decide +kernel
theorem dX8_flown_52 : decode cX8_flown 52 = .ok (.aload_n 0, 1) := by decide +kernel
theorem dX8_flown_53 : decode cX8_flown 53 = .ok (.getfield 60, 3) := by decide +kernel
theorem dX8_flown_56 : decode cX8_flown 56 = .ok (.getfield 188, 3) := by decide +kernel
theorem dX8_flown_59 : decode cX8_flown 59 = .ok (.ireturn, 1) := by decide +kernel
theorem dX8_flown_60 : decode cX8_flown 60 = .ok (.aload_n 0, 1) := by decide +kernel
theorem dX8_flown_61 : decode cX8_flown 61 = .ok (.getfield 60, 3) := by decide +kernel
theorem dX8_flown_64 : decode cX8_flown 64 = .ok (.getfield 191, 3) := by decide +kernel
theorem dX8_flown_67 : decode cX8_flown 67 = .ok (.ireturn, 1) := by decide +kernel
theorem dX8_flown_68 : decode cX8_flown 68 = .ok (.aload_n 0, 1) := by decide +kernel
theorem dX8_flown_69 : decode cX8_flown 69 = .ok (.getfield 60, 3) := by decide +kernel
theorem dX8_flown_72 : decode cX8_flown 72 = .ok (.getfield 194, 3) := by decide +kernel
theorem dX8_flown_75 : decode cX8_flown 75 = .ok (.ireturn, 1) := by decide +kernel
theorem dX8_flown_76 : decode cX8_flown 76 = .ok (.aload_n 0, 1) := by decide +kernel
theorem dX8_flown_77 : decode cX8_flown 77 = .ok (.getfield 60, 3) := by decide +kernel
theorem dX8_flown_80 : decode cX8_flown 80 = .ok (.getfield 197, 3) := by decide +kernel
theorem dX8_flown_83 : decode cX8_flown 83 = .ok (.ireturn, 1) := by decide +kernel
theorem dX8_flown_84 : decode cX8_flown 84 = .ok (.aload_n 0, 1) := by decide +kernel
theorem dX8_flown_85 : decode cX8_flown 85 = .ok (.getfield 60, 3) := by decide +kernel
theorem dX8_flown_88 : decode cX8_flown 88 = .ok (.getfield 200, 3) := by decide +kernel
theorem dX8_flown_91 : decode cX8_flown 91 = .ok (.ireturn, 1) := by decide +kernel
theorem dX8_flown_92 : decode cX8_flown 92 = .ok (.aload_n 0, 1) := by decide +kernel
theorem dX8_flown_93 : decode cX8_flown 93 = .ok (.getfield 60, 3) := by decide +kernel
theorem dX8_flown_96 : decode cX8_flown 96 = .ok (.getfield 203, 3) := by decide +kernel
theorem dX8_flown_99 : decode cX8_flown 99 = .ok (.ireturn, 1) := by decide +kernel
theorem dX8_flown_100 : decode cX8_flown 100 = .ok (.aload_n 0, 1) := by decide +kernel
theorem dX8_flown_101 : decode cX8_flown 101 = .ok (.getfield 60, 3) := by decide +kernel
theorem dX8_flown_104 : decode cX8_flown 104 = .ok (.getfield 206, 3) := by decide +kernel
theorem dX8_flown_107 : decode cX8_flown 107 = .ok (.ireturn, 1) := by decide +kernel
theorem dX8_flown_108 : decode cX8_flown 108 = .ok (.iconst (-1), 1) := by decide +kernel
theorem dX8_flown_109 : decode cX8_flown 109 = .ok (.ireturn, 1) := by decide +kernel
theorem dX8_out_0 : decode cX8_out 0 = .ok (.iload_n 1, 1) := by decide +kernel
theorem dX8_out_1 : decode cX8_out 1 = .ok (.iconst 0, 1) := by decide +kernel
theorem dX8_out_2 : decode cX8_out 2 = .ok (.sipush 1999, 3) := by decide +kernel
theorem dX8_out_5 : decode cX8_out 5 = .ok (.invokestatic 81, 3) := by decide +kernel
theorem dX8_out_8 : decode cX8_out 8 = .ok (.ifCond .ne 6, 3) := by decide +kernel
theorem dX8_out_11 : decode cX8_out 11 = .ok (.bipush (-2), 2) := by decide +kernel
theorem dX8_out_13 : decode cX8_out 13 = .ok (.ireturn, 1) := by decide +kernel
theorem dX8_out_14 : decode cX8_out 14 = .ok (.aload_n 0, 1) := by decide +kernel
theorem dX8_out_15 : decode cX8_out 15 = .ok (.getfield 25, 3) := by decide +kernel
theorem dX8_out_18 : decode cX8_out 18 = .ok (.invokevirtual 174, 3) := by decide +kernel
theorem dX8_out_21 : decode cX8_out 21 = .ok (.ifCond .ne 6, 3) := by decide +kernel
theorem dX8_out_24 : decode cX8_out 24 = .ok (.bipush (-3), 2) := by decide +kernel
theorem dX8_out_26 : decode cX8_out 26 = .ok (.ireturn, 1) := by decide +kernel
theorem dX8_out_27 : decode cX8_out 27 = .ok (.aload_n 0, 1) := by decide +kernel
theorem dX8_out_28 : decode cX8_out 28 = .ok (.getfield 67, 3) := by decide +kernel
theorem dX8_out_31 : decode cX8_out 31 = .ok (.invokevirtual 178, 3) := by decide +kernel
theorem dX8_out_34 : decode cX8_out 34 = .ok (.aload_n 0, 1) := by decide +kernel
theorem dX8_out_35 : decode cX8_out 35 = .ok (.getfield 67, 3) := by decide +kernel
theorem dX8_out_38 : decode cX8_out 38 = .ok (.iload_n 1, 1) := by decide +kernel
theorem dX8_out_39 : decode cX8_out 39 = .ok (.iconst 0, 1) := by decide +kernel
theorem dX8_out_40 : decode cX8_out 40 = .ok (.invokevirtual 181, 3) := by decide +kernel
theorem dX8_out_43 : decode cX8_out 43 = .ok (.aload_n 0, 1) := by decide +kernel
theorem dX8_out_44 : decode cX8_out 44 = .ok (.getfield 67, 3) := by decide +kernel
theorem dX8_out_47 : decode cX8_out 47 = .ok (.invokevirtual 209, 3) := by decide +kernel
theorem dX8_out_50 : decode cX8_out 50 = .ok (.aload_n 0, 1) := by decide +kernel
theorem dX8_out_51 : decode cX8_out 51 = .ok (.getfield 67, 3) := by decide +kernel
theorem dX8_out_54 : decode cX8_out 54 = .ok (.sipush 2000, 3) := by decide +kernel
theorem dX8_out_57 : decode cX8_out 57 = .ok (.iconst 0, 1) := by decide +kernel
theorem dX8_out_58 : decode cX8_out 58 = .ok (.invokevirtual 181, 3) := by decide +kernel
theorem dX8_out_61 : decode cX8_out 61 = .ok (.aload_n 0, 1) := by decide +kernel
theorem dX8_out_62 : decode cX8_out 62 = .ok (.getfield 67, 3) := by decide +kernel
theorem dX8_out_65 : decode cX8_out 65 = .ok (.invokevirtual 185, 3) := by decide +kernel
theorem dX8_out_68 : decode cX8_out 68 = .ok (.ireturn, 1) := by decide +kernel
theorem dX8_safe_0 : decode cX8_safe 0 = .ok (.aload_n 0, 1) := by decide +kernel
theorem dX8_safe_1 : decode cX8_safe 1 = .ok (.getfield 25, 3) := by decide +kernel
theorem dX8_safe_4 : decode cX8_safe 4 = .ok (.invokevirtual 174, 3) := by decide +kernel
theorem dX8_safe_7 : decode cX8_safe 7 = .ok (.ifCond .ne 6, 3) := by decide +kernel
theorem dX8_safe_10 : decode cX8_safe 10 = .ok (.bipush (-3), 2) := by decide +kernel
theorem dX8_safe_12 : decode cX8_safe 12 = .ok (.ireturn, 1) := by decide +kernel
theorem dX8_safe_13 : decode cX8_safe 13 = .ok (.aload_n 0, 1) := by decide +kernel
theorem dX8_safe_14 : decode cX8_safe 14 = .ok (.getfield 64, 3) := by decide +kernel
theorem dX8_safe_17 : decode cX8_safe 17 = .ok (.invokevirtual 178, 3) := by decide +kernel
theorem dX8_safe_20 : decode cX8_safe 20 = .ok (.iconst 0, 1) := by decide +kernel
theorem dX8_safe_21 : decode cX8_safe 21 = .ok (.istore_n 1, 1) := by decide +kernel
theorem dX8_safe_22 : decode cX8_safe 22 = .ok (.iconst 0, 1) := by decide +kernel
theorem dX8_safe_23 : decode cX8_safe 23 = .ok (.istore_n 2, 1) := by decide +kernel
theorem dX8_safe_24 : decode cX8_safe 24 = .ok (.iload_n 2, 1) := by decide +kernel
theorem dX8_safe_25 : decode cX8_safe 25 = .ok (.sipush 2000, 3) := by decide +kernel
theorem dX8_safe_28 : decode cX8_safe 28 = .ok (.if_icmp .ge 83, 3) := by decide +kernel
theorem dX8_safe_31 : decode cX8_safe 31 = .ok (.aload_n 0, 1) := by decide +kernel
theorem dX8_safe_32 : decode cX8_safe 32 = .ok (.getfield 64, 3) := by decide +kernel
theorem dX8_safe_35 : decode cX8_safe 35 = .ok (.invokevirtual 212, 3) := by decide +kernel
theorem dX8_safe_38 : decode cX8_safe 38 = .ok (.ifCond .eq 73, 3) := by decide +kernel
theorem dX8_safe_41 : decode cX8_safe 41 = .ok (.aload_n 0, 1) := by decide +kernel
theorem dX8_safe_42 : decode cX8_safe 42 = .ok (.getfield 64, 3) := by decide +kernel
theorem dX8_safe_45 : decode cX8_safe 45 = .ok (.getfield 203, 3) := by decide +kernel
theorem dX8_safe_48 : decode cX8_safe 48 = .ok (.iconst (-1), 1) := by decide +kernel
theorem dX8_safe_49 : decode cX8_safe 49 = .ok (.if_icmp .ne 62, 3) := by decide +kernel
theorem dX8_safe_52 : decode cX8_safe 52 = .ok (.aload_n 0, 1) := by decide +kernel
theorem dX8_safe_53 : decode cX8_safe 53 = .ok (.getfield 67, 3) := by decide +kernel
theorem dX8_safe_56 : decode cX8_safe 56 = .ok (.aload_n 0, 1) := by decide +kernel
theorem dX8_safe_57 : decode cX8_safe 57 = .ok (.getfield 64, 3) := by decide +kernel
theorem dX8_safe_60 : decode cX8_safe 60 = .ok (.invokevirtual 216, 3) := by decide +kernel
theorem dX8_safe_63 : decode cX8_safe 63 = .ok (.aload_n 0, 1) := by decide +kernel
theorem dX8_safe_64 : decode cX8_safe 64 = .ok (.getfield 67, 3) := by decide +kernel
theorem dX8_safe_67 : decode cX8_safe 67 = .ok (.invokevirtual 209, 3) := by decide +kernel
theorem dX8_safe_70 : decode cX8_safe 70 = .ok (.aload_n 0, 1) := by decide +kernel
theorem dX8_safe_71 : decode cX8_safe 71 = .ok (.getfield 67, 3) := by decide +kernel
theorem dX8_safe_74 : decode cX8_safe 74 = .ok (.sipush 2000, 3) := by decide +kernel
theorem dX8_safe_77 : decode cX8_safe 77 = .ok (.iconst 1, 1) := by decide +kernel
theorem dX8_safe_78 : decode cX8_safe 78 = .ok (.invokevirtual 181, 3) := by decide +kernel
theorem dX8_safe_81 : decode cX8_safe 81 = .ok (.aload_n 0, 1) := by decide +kernel
theorem dX8_safe_82 : decode cX8_safe 82 = .ok (.getfield 67, 3) := by decide +kernel
theorem dX8_safe_85 : decode cX8_safe 85 = .ok (.invokevirtual 185, 3) := by decide +kernel
theorem dX8_safe_88 : decode cX8_safe 88 = .ok (.ifCond .ne 6, 3) := by decide +kernel
theorem dX8_safe_91 : decode cX8_safe 91 = .ok (.iinc 1 1, 3) := by decide +kernel
theorem dX8_safe_94 : decode cX8_safe 94 = .ok (.aload_n 0, 1) := by decide +kernel
theorem dX8_safe_95 : decode cX8_safe 95 = .ok (.getfield 64, 3) := by decide +kernel
theorem dX8_safe_98 : decode cX8_safe 98 = .ok (.iload_n 2, 1) := by decide +kernel
theorem dX8_safe_99 : decode cX8_safe 99 = .ok (.iconst 1, 1) := by decide +kernel
theorem dX8_safe_100 : decode cX8_safe 100 = .ok (.iadd, 1) := by decide +kernel
theorem dX8_safe_101 : decode cX8_safe 101 = .ok (.iconst 1, 1) := by decide +kernel
theorem dX8_safe_102 : decode cX8_safe 102 = .ok (.invokevirtual 181, 3) := by decide +kernel
theorem dX8_safe_105 : decode cX8_safe 105 = .ok (.iinc 2 1, 3) := by decide +kernel
theorem dX8_safe_108 : decode cX8_safe 108 = .ok (.goto (-84), 3) := by decide +kernel
theorem dX8_safe_111 : decode cX8_safe 111 = .ok (.iload_n 1, 1) := by decide +kernel
theorem dX8_safe_112 : decode cX8_safe 112 = .ok (.ireturn, 1) := by decide +kernel
theorem dX8_cost_0 : decode cX8_cost 0 = .ok (.aload_n 0, 1) := by decide +kernel
theorem dX8_cost_1 : decode cX8_cost 1 = .ok (.getfield 16, 3) := by decide +kernel
theorem dX8_cost_4 : decode cX8_cost 4 = .ok (.iload_n 1, 1) := by decide +kernel
theorem dX8_cost_5 : decode cX8_cost 5 = .ok (.invokevirtual 89, 3) := by decide +kernel
theorem dX8_cost_8 : decode cX8_cost 8 = .ok (.ifCond .ne 5, 3) := by decide +kernel
theorem dX8_cost_11 : decode cX8_cost 11 = .ok (.iconst (-1), 1) := by decide +kernel
theorem dX8_cost_12 : decode cX8_cost 12 = .ok (.ireturn, 1) := by decide +kernel
theorem dX8_cost_13 : decode cX8_cost 13 = .ok (.iload_n 2, 1) := by decide +kernel
theorem dX8_cost_14 : decode cX8_cost 14 = .ok (.iconst 0, 1) := by decide +kernel
theorem dX8_cost_15 : decode cX8_cost 15 = .ok (.sipush 999, 3) := by decide +kernel
theorem dX8_cost_18 : decode cX8_cost 18 = .ok (.invokestatic 81, 3) := by decide +kernel
theorem dX8_cost_21 : decode cX8_cost 21 = .ok (.ifCond .ne 6, 3) := by decide +kernel
theorem dX8_cost_24 : decode cX8_cost 24 = .ok (.bipush (-2), 2) := by decide +kernel
theorem dX8_cost_26 : decode cX8_cost 26 = .ok (.ireturn, 1) := by decide +kernel
theorem dX8_cost_27 : decode cX8_cost 27 = .ok (.aload_n 0, 1) := by decide +kernel
theorem dX8_cost_28 : decode cX8_cost 28 = .ok (.getfield 16, 3) := by decide +kernel
theorem dX8_cost_31 : decode cX8_cost 31 = .ok (.iload_n 1, 1) := by decide +kernel
theorem dX8_cost_32 : decode cX8_cost 32 = .ok (.iload_n 2, 1) := by decide +kernel
theorem dX8_cost_33 : decode cX8_cost 33 = .ok (.aload_n 0, 1) := by decide +kernel
theorem dX8_cost_34 : decode cX8_cost 34 = .ok (.getfield 7, 3) := by decide +kernel
theorem dX8_cost_37 : decode cX8_cost 37 = .ok (.iconst 2, 1) := by decide +kernel
theorem dX8_cost_38 : decode cX8_cost 38 = .ok (.iaload, 1) := by decide +kernel
theorem dX8_cost_39 : decode cX8_cost 39 = .ok (.invokevirtual 220, 3) := by decide +kernel
theorem dX8_cost_42 : decode cX8_cost 42 = .ok (.ireturn, 1) := by decide +kernel
theorem dX8_price_0 : decode cX8_price 0 = .ok (.aload_n 0, 1) := by decide +kernel
theorem dX8_price_1 : decode cX8_price 1 = .ok (.getfield 25, 3) := by decide +kernel
theorem dX8_price_4 : decode cX8_price 4 = .ok (.getfield 99, 3) := by decide +kernel
theorem dX8_price_7 : decode cX8_price 7 = .ok (.ifCond .ne 6, 3) := by decide +kernel
theorem dX8_price_10 : decode cX8_price 10 = .ok (.bipush (-3), 2) := by decide +kernel
theorem dX8_price_12 : decode cX8_price 12 = .ok (.ireturn, 1) := by decide +kernel
theorem dX8_price_13 : decode cX8_price 13 = .ok (.aload_n 0, 1) := by decide +kernel
theorem dX8_price_14 : decode cX8_price 14 = .ok (.getfield 25, 3) := by decide +kernel
theorem dX8_price_17 : decode cX8_price 17 = .ok (.invokevirtual 224, 3) := by decide +kernel
theorem dX8_price_20 : decode cX8_price 20 = .ok (.ireturn, 1) := by decide +kernel
theorem dX8_buy_0 : decode cX8_buy 0 = .ok (.aload_n 0, 1) := by decide +kernel
theorem dX8_buy_1 : decode cX8_buy 1 = .ok (.getfield 25, 3) := by decide +kernel
theorem dX8_buy_4 : decode cX8_buy 4 = .ok (.getfield 99, 3) := by decide +kernel
theorem dX8_buy_7 : decode cX8_buy 7 = .ok (.ifCond .ne 6, 3) := by decide +kernel
theorem dX8_buy_10 : decode cX8_buy 10 = .ok (.bipush (-3), 2) := by decide +kernel
theorem dX8_buy_12 : decode cX8_buy 12 = .ok (.ireturn, 1) := by decide +kernel
theorem dX8_buy_13 : decode cX8_buy 13 = .ok (.iconst 0, 1) := by decide +kernel
theorem dX8_buy_14 : decode cX8_buy 14 = .ok (.istore_n 1, 1) := by decide +kernel
theorem dX8_buy_15 : decode cX8_buy 15 = .ok (.iload_n 1, 1) := by decide +kernel
theorem dX8_buy_16 : decode cX8_buy 16 = .ok (.aload_n 0, 1) := by decide +kernel
theorem dX8_buy_17 : decode cX8_buy 17 = .ok (.getfield 16, 3) := by decide +kernel
theorem dX8_buy_20 : decode cX8_buy 20 = .ok (.getfield 156, 3) := by decide +kernel
theorem dX8_buy_23 : decode cX8_buy 23 = .ok (.if_icmp .ge 44, 3) := by decide +kernel
theorem dX8_buy_26 : decode cX8_buy 26 = .ok (.aload_n 0, 1) := by decide +kernel
theorem dX8_buy_27 : decode cX8_buy 27 = .ok (.getfield 16, 3) := by decide +kernel
theorem dX8_buy_30 : decode cX8_buy 30 = .ok (.getfield 227, 3) := by decide +kernel
theorem dX8_buy_33 : decode cX8_buy 33 = .ok (.iload_n 1, 1) := by decide +kernel
theorem dX8_buy_34 : decode cX8_buy 34 = .ok (.iaload, 1) := by decide +kernel
theorem dX8_buy_35 : decode cX8_buy 35 = .ok (.aload_n 0, 1) := by decide +kernel
theorem dX8_buy_36 : decode cX8_buy 36 = .ok (.getfield 16, 3) := by decide +kernel
theorem dX8_buy_39 : decode cX8_buy 39 = .ok (.iload_n 1, 1) := by decide +kernel
theorem dX8_buy_40 : decode cX8_buy 40 = .ok (.aload_n 0, 1) := by decide +kernel
theorem dX8_buy_41 : decode cX8_buy 41 = .ok (.getfield 25, 3) := by decide +kernel
theorem dX8_buy_44 : decode cX8_buy 44 = .ok (.iload_n 1, 1) := by decide +kernel
theorem dX8_buy_45 : decode cX8_buy 45 = .ok (.invokevirtual 230, 3) := by decide +kernel
theorem dX8_buy_48 : decode cX8_buy 48 = .ok (.invokevirtual 233, 3) := by decide +kernel
theorem dX8_buy_51 : decode cX8_buy 51 = .ok (.iadd, 1) := by decide +kernel
theorem dX8_buy_52 : decode cX8_buy 52 = .ok (.sipush 900, 3) := by decide +kernel
theorem dX8_buy_55 : decode cX8_buy 55 = .ok (.if_icmp .le 6, 3) := by decide +kernel
theorem dX8_buy_58 : decode cX8_buy 58 = .ok (.bipush (-4), 2) := by decide +kernel
theorem dX8_buy_60 : decode cX8_buy 60 = .ok (.ireturn, 1) := by decide +kernel
theorem dX8_buy_61 : decode cX8_buy 61 = .ok (.iinc 1 1, 3) := by decide +kernel
theorem dX8_buy_64 : decode cX8_buy 64 = .ok (.goto (-49), 3) := by decide +kernel
theorem dX8_buy_67 : decode cX8_buy 67 = .ok (.aload_n 0, 1) := by decide +kernel
theorem dX8_buy_68 : decode cX8_buy 68 = .ok (.getfield 25, 3) := by decide +kernel
theorem dX8_buy_71 : decode cX8_buy 71 = .ok (.invokevirtual 224, 3) := by decide +kernel
theorem dX8_buy_74 : decode cX8_buy 74 = .ok (.istore_n 1, 1) := by decide +kernel
theorem dX8_buy_75 : decode cX8_buy 75 = .ok (.iconst 0, 1) := by decide +kernel
theorem dX8_buy_76 : decode cX8_buy 76 = .ok (.istore_n 2, 1) := by decide +kernel
theorem dX8_buy_77 : decode cX8_buy 77 = .ok (.iload_n 2, 1) := by decide +kernel
theorem dX8_buy_78 : decode cX8_buy 78 = .ok (.aload_n 0, 1) := by decide +kernel
theorem dX8_buy_79 : decode cX8_buy 79 = .ok (.getfield 16, 3) := by decide +kernel
theorem dX8_buy_82 : decode cX8_buy 82 = .ok (.getfield 156, 3) := by decide +kernel
theorem dX8_buy_85 : decode cX8_buy 85 = .ok (.if_icmp .ge 25, 3) := by decide +kernel
theorem dX8_buy_88 : decode cX8_buy 88 = .ok (.aload_n 0, 1) := by decide +kernel
theorem dX8_buy_89 : decode cX8_buy 89 = .ok (.getfield 16, 3) := by decide +kernel
theorem dX8_buy_92 : decode cX8_buy 92 = .ok (.iload_n 2, 1) := by decide +kernel
theorem dX8_buy_93 : decode cX8_buy 93 = .ok (.aload_n 0, 1) := by decide +kernel
theorem dX8_buy_94 : decode cX8_buy 94 = .ok (.getfield 25, 3) := by decide +kernel
theorem dX8_buy_97 : decode cX8_buy 97 = .ok (.iload_n 2, 1) := by decide +kernel
theorem dX8_buy_98 : decode cX8_buy 98 = .ok (.invokevirtual 230, 3) := by decide +kernel
theorem dX8_buy_101 : decode cX8_buy 101 = .ok (.invokevirtual 236, 3) := by decide +kernel
theorem dX8_buy_104 : decode cX8_buy 104 = .ok (.iinc 2 1, 3) := by decide +kernel
theorem dX8_buy_107 : decode cX8_buy 107 = .ok (.goto (-30), 3) := by decide +kernel
theorem dX8_buy_110 : decode cX8_buy 110 = .ok (.iload_n 1, 1) := by decide +kernel
theorem dX8_buy_111 : decode cX8_buy 111 = .ok (.ireturn, 1) := by decide +kernel
theorem dX8_keeping_0 : decode cX8_keeping 0 = .ok (.aload_n 0, 1) := by decide +kernel
theorem dX8_keeping_1 : decode cX8_keeping 1 = .ok (.getfield 25, 3) := by decide +kernel
theorem dX8_keeping_4 : decode cX8_keeping 4 = .ok (.iload_n 1, 1) := by decide +kernel
theorem dX8_keeping_5 : decode cX8_keeping 5 = .ok (.invokevirtual 103, 3) := by decide +kernel
theorem dX8_keeping_8 : decode cX8_keeping 8 = .ok (.ifCond .ne 5, 3) := by decide +kernel
theorem dX8_keeping_11 : decode cX8_keeping 11 = .ok (.iconst (-1), 1) := by decide +kernel
theorem dX8_keeping_12 : decode cX8_keeping 12 = .ok (.ireturn, 1) := by decide +kernel
theorem dX8_keeping_13 : decode cX8_keeping 13 = .ok (.iload_n 2, 1) := by decide +kernel
theorem dX8_keeping_14 : decode cX8_keeping 14 = .ok (.iconst 0, 1) := by decide +kernel
theorem dX8_keeping_15 : decode cX8_keeping 15 = .ok (.bipush 100, 2) := by decide +kernel
theorem dX8_keeping_17 : decode cX8_keeping 17 = .ok (.invokestatic 81, 3) := by decide +kernel
theorem dX8_keeping_20 : decode cX8_keeping 20 = .ok (.ifCond .eq 16, 3) := by decide +kernel
theorem dX8_keeping_23 : decode cX8_keeping 23 = .ok (.iload_n 2, 1) := by decide +kernel
theorem dX8_keeping_24 : decode cX8_keeping 24 = .ok (.aload_n 0, 1) := by decide +kernel
theorem dX8_keeping_25 : decode cX8_keeping 25 = .ok (.getfield 25, 3) := by decide +kernel
theorem dX8_keeping_28 : decode cX8_keeping 28 = .ok (.getfield 104, 3) := by decide +kernel
theorem dX8_keeping_31 : decode cX8_keeping 31 = .ok (.iload_n 1, 1) := by decide +kernel
theorem dX8_keeping_32 : decode cX8_keeping 32 = .ok (.iaload, 1) := by decide +kernel
theorem dX8_keeping_33 : decode cX8_keeping 33 = .ok (.if_icmp .le 6, 3) := by decide +kernel
theorem dX8_keeping_36 : decode cX8_keeping 36 = .ok (.bipush (-2), 2) := by decide +kernel
theorem dX8_keeping_38 : decode cX8_keeping 38 = .ok (.ireturn, 1) := by decide +kernel
theorem dX8_keeping_39 : decode cX8_keeping 39 = .ok (.aload_n 0, 1) := by decide +kernel
theorem dX8_keeping_40 : decode cX8_keeping 40 = .ok (.getfield 25, 3) := by decide +kernel
theorem dX8_keeping_43 : decode cX8_keeping 43 = .ok (.iload_n 1, 1) := by decide +kernel
theorem dX8_keeping_44 : decode cX8_keeping 44 = .ok (.iload_n 2, 1) := by decide +kernel
theorem dX8_keeping_45 : decode cX8_keeping 45 = .ok (.invokevirtual 133, 3) := by decide +kernel
theorem dX8_keeping_48 : decode cX8_keeping 48 = .ok (.ireturn, 1) := by decide +kernel
theorem dX8_even_0 : decode cX8_even 0 = .ok (.aload_n 0, 1) := by decide +kernel
theorem dX8_even_1 : decode cX8_even 1 = .ok (.getfield 25, 3) := by decide +kernel
theorem dX8_even_4 : decode cX8_even 4 = .ok (.iload_n 1, 1) := by decide +kernel
theorem dX8_even_5 : decode cX8_even 5 = .ok (.invokevirtual 103, 3) := by decide +kernel
theorem dX8_even_8 : decode cX8_even 8 = .ok (.ifCond .ne 5, 3) := by decide +kernel
theorem dX8_even_11 : decode cX8_even 11 = .ok (.iconst (-1), 1) := by decide +kernel
theorem dX8_even_12 : decode cX8_even 12 = .ok (.ireturn, 1) := by decide +kernel
theorem dX8_even_13 : decode cX8_even 13 = .ok (.iload_n 2, 1) := by decide +kernel
theorem dX8_even_14 : decode cX8_even 14 = .ok (.iconst 0, 1) := by decide +kernel
theorem dX8_even_15 : decode cX8_even 15 = .ok (.sipush 200, 3) := by decide +kernel
theorem dX8_even_18 : decode cX8_even 18 = .ok (.invokestatic 81, 3) := by decide +kernel
theorem dX8_even_21 : decode cX8_even 21 = .ok (.ifCond .eq 13, 3) := by decide +kernel
theorem dX8_even_24 : decode cX8_even 24 = .ok (.iload_n 3, 1) := by decide +kernel
theorem dX8_even_25 : decode cX8_even 25 = .ok (.iconst 0, 1) := by decide +kernel
theorem dX8_even_26 : decode cX8_even 26 = .ok (.ldc 240, 2) := by decide +kernel
theorem dX8_even_28 : decode cX8_even 28 = .ok (.invokestatic 81, 3) := by decide +kernel
theorem dX8_even_31 : decode cX8_even 31 = .ok (.ifCond .ne 6, 3) := by decide +kernel
theorem dX8_even_34 : decode cX8_even 34 = .ok (.bipush (-2), 2) := by decide +kernel
theorem dX8_even_36 : decode cX8_even 36 = .ok (.ireturn, 1) := by decide +kernel
theorem dX8_even_37 : decode cX8_even 37 = .ok (.aload_n 0, 1) := by decide +kernel
theorem dX8_even_38 : decode cX8_even 38 = .ok (.getfield 25, 3) := by decide +kernel
theorem dX8_even_41 : decode cX8_even 41 = .ok (.iload_n 1, 1) := by decide +kernel
theorem dX8_even_42 : decode cX8_even 42 = .ok (.invokevirtual 241, 3) := by decide +kernel
theorem dX8_even_45 : decode cX8_even 45 = .ok (.i2l, 1) := by decide +kernel
theorem dX8_even_46 : decode cX8_even 46 = .ok (.lstore 4, 2) := by decide +kernel
theorem dX8_even_48 : decode cX8_even 48 = .ok (.iconst 1, 1) := by decide +kernel
theorem dX8_even_49 : decode cX8_even 49 = .ok (.istore 6, 2) := by decide +kernel
theorem dX8_even_51 : decode cX8_even 51 = .ok (.iload 6, 2) := by decide +kernel
theorem dX8_even_53 : decode cX8_even 53 = .ok (.bipush 100, 2) := by decide +kernel
theorem dX8_even_55 : decode cX8_even 55 = .ok (.if_icmp .gt 53, 3) := by decide +kernel
theorem dX8_even_58 : decode cX8_even 58 = .ok (.ldc2_w 244, 3) := by decide +kernel
theorem dX8_even_61 : decode cX8_even 61 = .ok (.lload 4, 2) := by decide +kernel
theorem dX8_even_63 : decode cX8_even 63 = .ok (.lmul, 1) := by decide +kernel
theorem dX8_even_64 : decode cX8_even 64 = .ok (.ldc2_w 244, 3) := by decide +kernel
theorem dX8_even_67 : decode cX8_even 67 = .ok (.iload_n 3, 1) := by decide +kernel
theorem dX8_even_68 : decode cX8_even 68 = .ok (.i2l, 1) := by decide +kernel
theorem dX8_even_69 : decode cX8_even 69 = .ok (.lmul, 1) := by decide +kernel
theorem dX8_even_70 : decode cX8_even 70 = .ok (.ladd, 1) := by decide +kernel
theorem dX8_even_71 : decode cX8_even 71 = .ok (.iload 6, 2) := by decide +kernel
theorem dX8_even_73 : decode cX8_even 73 = .ok (.iconst 1, 1) := by decide +kernel
theorem dX8_even_74 : decode cX8_even 74 = .ok (.isub, 1) := by decide +kernel
theorem dX8_even_75 : decode cX8_even 75 = .ok (.iload_n 2, 1) := by decide +kernel
theorem dX8_even_76 : decode cX8_even 76 = .ok (.imul, 1) := by decide +kernel
theorem dX8_even_77 : decode cX8_even 77 = .ok (.i2l, 1) := by decide +kernel
theorem dX8_even_78 : decode cX8_even 78 = .ok (.lload 4, 2) := by decide +kernel
theorem dX8_even_80 : decode cX8_even 80 = .ok (.lmul, 1) := by decide +kernel
theorem dX8_even_81 : decode cX8_even 81 = .ok (.ladd, 1) := by decide +kernel
theorem dX8_even_82 : decode cX8_even 82 = .ok (.lstore 7, 2) := by decide +kernel
theorem dX8_even_84 : decode cX8_even 84 = .ok (.lload 7, 2) := by decide +kernel
theorem dX8_even_86 : decode cX8_even 86 = .ok (.bipush 100, 2) := by decide +kernel
theorem dX8_even_88 : decode cX8_even 88 = .ok (.iload 6, 2) := by decide +kernel
theorem dX8_even_90 : decode cX8_even 90 = .ok (.imul, 1) := by decide +kernel
theorem dX8_even_91 : decode cX8_even 91 = .ok (.i2l, 1) := by decide +kernel
theorem dX8_even_92 : decode cX8_even 92 = .ok (.lload 4, 2) := by decide +kernel
theorem dX8_even_94 : decode cX8_even 94 = .ok (.lmul, 1) := by decide +kernel
theorem dX8_even_95 : decode cX8_even 95 = .ok (.lcmp, 1) := by decide +kernel
theorem dX8_even_96 : decode cX8_even 96 = .ok (.ifCond .ge 6, 3) := by decide +kernel
theorem dX8_even_99 : decode cX8_even 99 = .ok (.iload 6, 2) := by decide +kernel
theorem dX8_even_101 : decode cX8_even 101 = .ok (.ireturn, 1) := by decide +kernel
theorem dX8_even_102 : decode cX8_even 102 = .ok (.iinc 6 1, 3) := by decide +kernel
theorem dX8_even_105 : decode cX8_even 105 = .ok (.goto (-54), 3) := by decide +kernel
theorem dX8_even_108 : decode cX8_even 108 = .ok (.bipush (-5), 2) := by decide +kernel
theorem dX8_even_110 : decode cX8_even 110 = .ok (.ireturn, 1) := by decide +kernel
theorem dX8_flight_0 : decode cX8_flight 0 = .ok (.iload_n 1, 1) := by decide +kernel
theorem dX8_flight_1 : decode cX8_flight 1 = .ok (.iconst 0, 1) := by decide +kernel
theorem dX8_flight_2 : decode cX8_flight 2 = .ok (.bipush 9, 2) := by decide +kernel
theorem dX8_flight_4 : decode cX8_flight 4 = .ok (.invokestatic 81, 3) := by decide +kernel
theorem dX8_flight_7 : decode cX8_flight 7 = .ok (.ifCond .eq 23, 3) := by decide +kernel
theorem dX8_flight_10 : decode cX8_flight 10 = .ok (.iload_n 2, 1) := by decide +kernel
theorem dX8_flight_11 : decode cX8_flight 11 = .ok (.iconst 0, 1) := by decide +kernel
theorem dX8_flight_12 : decode cX8_flight 12 = .ok (.bipush 9, 2) := by decide +kernel
theorem dX8_flight_14 : decode cX8_flight 14 = .ok (.invokestatic 81, 3) := by decide +kernel
theorem dX8_flight_17 : decode cX8_flight 17 = .ok (.ifCond .eq 13, 3) := by decide +kernel
theorem dX8_flight_20 : decode cX8_flight 20 = .ok (.iload_n 3, 1) := by decide +kernel
theorem dX8_flight_21 : decode cX8_flight 21 = .ok (.iconst 0, 1) := by decide +kernel
theorem dX8_flight_22 : decode cX8_flight 22 = .ok (.bipush 9, 2) := by decide +kernel
theorem dX8_flight_24 : decode cX8_flight 24 = .ok (.invokestatic 81, 3) := by decide +kernel
theorem dX8_flight_27 : decode cX8_flight 27 = .ok (.ifCond .ne 6, 3) := by decide +kernel
theorem dX8_flight_30 : decode cX8_flight 30 = .ok (.bipush (-2), 2) := by decide +kernel
theorem dX8_flight_32 : decode cX8_flight 32 = .ok (.ireturn, 1) := by decide +kernel
theorem dX8_flight_33 : decode cX8_flight 33 = .ok (.iload 4, 2) := by decide +kernel
theorem dX8_flight_35 : decode cX8_flight 35 = .ok (.iconst 0, 1) := by decide +kernel
theorem dX8_flight_36 : decode cX8_flight 36 = .ok (.bipush 11, 2) := by decide +kernel
theorem dX8_flight_38 : decode cX8_flight 38 = .ok (.invokestatic 81, 3) := by decide +kernel
theorem dX8_flight_41 : decode cX8_flight 41 = .ok (.ifCond .eq 15, 3) := by decide +kernel
theorem dX8_flight_44 : decode cX8_flight 44 = .ok (.iload 5, 2) := by decide +kernel
theorem dX8_flight_46 : decode cX8_flight 46 = .ok (.iconst 0, 1) := by decide +kernel
theorem dX8_flight_47 : decode cX8_flight 47 = .ok (.sipush 999, 3) := by decide +kernel
theorem dX8_flight_50 : decode cX8_flight 50 = .ok (.invokestatic 81, 3) := by decide +kernel
theorem dX8_flight_53 : decode cX8_flight 53 = .ok (.ifCond .ne 6, 3) := by decide +kernel
theorem dX8_flight_56 : decode cX8_flight 56 = .ok (.bipush (-2), 2) := by decide +kernel
theorem dX8_flight_58 : decode cX8_flight 58 = .ok (.ireturn, 1) := by decide +kernel
theorem dX8_flight_59 : decode cX8_flight 59 = .ok (.aload_n 0, 1) := by decide +kernel
theorem dX8_flight_60 : decode cX8_flight 60 = .ok (.getfield 77, 3) := by decide +kernel
theorem dX8_flight_63 : decode cX8_flight 63 = .ok (.iload_n 1, 1) := by decide +kernel
theorem dX8_flight_64 : decode cX8_flight 64 = .ok (.iload_n 2, 1) := by decide +kernel
theorem dX8_flight_65 : decode cX8_flight 65 = .ok (.iload_n 3, 1) := by decide +kernel
theorem dX8_flight_66 : decode cX8_flight 66 = .ok (.iload 4, 2) := by decide +kernel
theorem dX8_flight_68 : decode cX8_flight 68 = .ok (.iload 5, 2) := by decide +kernel
theorem dX8_flight_70 : decode cX8_flight 70 = .ok (.invokevirtual 246, 3) := by decide +kernel
theorem dX8_flight_73 : decode cX8_flight 73 = .ok (.ireturn, 1) := by decide +kernel
theorem dX8_deliver_0 : decode cX8_deliver 0 = .ok (.iload_n 1, 1) := by decide +kernel
theorem dX8_deliver_1 : decode cX8_deliver 1 = .ok (.iconst 0, 1) := by decide +kernel
theorem dX8_deliver_2 : decode cX8_deliver 2 = .ok (.iconst 2, 1) := by decide +kernel
theorem dX8_deliver_3 : decode cX8_deliver 3 = .ok (.invokestatic 81, 3) := by decide +kernel
theorem dX8_deliver_6 : decode cX8_deliver 6 = .ok (.ifCond .eq 13, 3) := by decide +kernel
theorem dX8_deliver_9 : decode cX8_deliver 9 = .ok (.iload_n 2, 1) := by decide +kernel
theorem dX8_deliver_10 : decode cX8_deliver 10 = .ok (.iconst 0, 1) := by decide +kernel
theorem dX8_deliver_11 : decode cX8_deliver 11 = .ok (.bipush 11, 2) := by decide +kernel
theorem dX8_deliver_13 : decode cX8_deliver 13 = .ok (.invokestatic 81, 3) := by decide +kernel
theorem dX8_deliver_16 : decode cX8_deliver 16 = .ok (.ifCond .ne 5, 3) := by decide +kernel
theorem dX8_deliver_19 : decode cX8_deliver 19 = .ok (.iconst (-1), 1) := by decide +kernel
theorem dX8_deliver_20 : decode cX8_deliver 20 = .ok (.ireturn, 1) := by decide +kernel
theorem dX8_deliver_21 : decode cX8_deliver 21 = .ok (.iload_n 3, 1) := by decide +kernel
theorem dX8_deliver_22 : decode cX8_deliver 22 = .ok (.iconst 0, 1) := by decide +kernel
theorem dX8_deliver_23 : decode cX8_deliver 23 = .ok (.bipush 9, 2) := by decide +kernel
theorem dX8_deliver_25 : decode cX8_deliver 25 = .ok (.invokestatic 81, 3) := by decide +kernel
theorem dX8_deliver_28 : decode cX8_deliver 28 = .ok (.ifCond .ne 6, 3) := by decide +kernel
theorem dX8_deliver_31 : decode cX8_deliver 31 = .ok (.bipush (-2), 2) := by decide +kernel
theorem dX8_deliver_33 : decode cX8_deliver 33 = .ok (.ireturn, 1) := by decide +kernel
theorem dX8_deliver_34 : decode cX8_deliver 34 = .ok (.aload_n 0, 1) := by decide +kernel
theorem dX8_deliver_35 : decode cX8_deliver 35 = .ok (.getfield 77, 3) := by decide +kernel
theorem dX8_deliver_38 : decode cX8_deliver 38 = .ok (.getfield 249, 3) := by decide +kernel
theorem dX8_deliver_41 : decode cX8_deliver 41 = .ok (.iload_n 1, 1) := by decide +kernel
theorem dX8_deliver_42 : decode cX8_deliver 42 = .ok (.bipush 12, 2) := by decide +kernel
theorem dX8_deliver_44 : decode cX8_deliver 44 = .ok (.imul, 1) := by decide +kernel
theorem dX8_deliver_45 : decode cX8_deliver 45 = .ok (.iload_n 2, 1) := by decide +kernel
theorem dX8_deliver_46 : decode cX8_deliver 46 = .ok (.iadd, 1) := by decide +kernel
theorem dX8_deliver_47 : decode cX8_deliver 47 = .ok (.iload_n 3, 1) := by decide +kernel
theorem dX8_deliver_48 : decode cX8_deliver 48 = .ok (.invokestatic 107, 3) := by decide +kernel
theorem dX8_deliver_51 : decode cX8_deliver 51 = .ok (.ireturn, 1) := by decide +kernel
theorem dX8_year_0 : decode cX8_year 0 = .ok (.aload_n 0, 1) := by decide +kernel
theorem dX8_year_1 : decode cX8_year 1 = .ok (.getfield 77, 3) := by decide +kernel
theorem dX8_year_4 : decode cX8_year 4 = .ok (.invokevirtual 252, 3) := by decide +kernel
theorem dX8_year_7 : decode cX8_year 7 = .ok (.aload_n 0, 1) := by decide +kernel
theorem dX8_year_8 : decode cX8_year 8 = .ok (.getfield 77, 3) := by decide +kernel
theorem dX8_year_11 : decode cX8_year 11 = .ok (.getfield 254, 3) := by decide +kernel
theorem dX8_year_14 : decode cX8_year 14 = .ok (.ireturn, 1) := by decide +kernel
theorem dX8_flights_0 : decode cX8_flights 0 = .ok (.aload_n 0, 1) := by decide +kernel
theorem dX8_flights_1 : decode cX8_flights 1 = .ok (.getfield 77, 3) := by decide +kernel
theorem dX8_flights_4 : decode cX8_flights 4 = .ok (.invokevirtual 252, 3) := by decide +kernel
theorem dX8_flights_7 : decode cX8_flights 7 = .ok (.aload_n 0, 1) := by decide +kernel
theorem dX8_flights_8 : decode cX8_flights 8 = .ok (.getfield 77, 3) := by decide +kernel
theorem dX8_flights_11 : decode cX8_flights 11 = .ok (.getfield 257, 3) := by decide +kernel
theorem dX8_flights_14 : decode cX8_flights 14 = .ok (.ireturn, 1) := by decide +kernel
theorem dX8_count_0 : decode cX8_count 0 = .ok (.iload_n 1, 1) := by decide +kernel
theorem dX8_count_1 : decode cX8_count 1 = .ok (.tableswitch 94 0 5 #[39, 47, 55, 63, 74, 85], 39) := by decide +kernel
theorem dX8_count_40 : decode cX8_count 40 = .ok (.aload_n 0, 1) := by decide +kernel
theorem dX8_count_41 : decode cX8_count 41 = .ok (.getfield 16, 3) := by decide +kernel
theorem dX8_count_44 : decode cX8_count 44 = .ok (.getfield 156, 3) := by decide +kernel
theorem dX8_count_47 : decode cX8_count 47 = .ok (.ireturn, 1) := by decide +kernel
theorem dX8_count_48 : decode cX8_count 48 = .ok (.aload_n 0, 1) := by decide +kernel
theorem dX8_count_49 : decode cX8_count 49 = .ok (.getfield 25, 3) := by decide +kernel
theorem dX8_count_52 : decode cX8_count 52 = .ok (.getfield 99, 3) := by decide +kernel
theorem dX8_count_55 : decode cX8_count 55 = .ok (.ireturn, 1) := by decide +kernel
theorem dX8_count_56 : decode cX8_count 56 = .ok (.aload_n 0, 1) := by decide +kernel
theorem dX8_count_57 : decode cX8_count 57 = .ok (.getfield 77, 3) := by decide +kernel
theorem dX8_count_60 : decode cX8_count 60 = .ok (.getfield 260, 3) := by decide +kernel
theorem dX8_count_63 : decode cX8_count 63 = .ok (.ireturn, 1) := by decide +kernel
theorem dX8_count_64 : decode cX8_count 64 = .ok (.aload_n 0, 1) := by decide +kernel
theorem dX8_count_65 : decode cX8_count 65 = .ok (.getfield 16, 3) := by decide +kernel
theorem dX8_count_68 : decode cX8_count 68 = .ok (.getfield 93, 3) := by decide +kernel
theorem dX8_count_71 : decode cX8_count 71 = .ok (.invokestatic 261, 3) := by decide +kernel
theorem dX8_count_74 : decode cX8_count 74 = .ok (.ireturn, 1) := by decide +kernel
theorem dX8_count_75 : decode cX8_count 75 = .ok (.aload_n 0, 1) := by decide +kernel
theorem dX8_count_76 : decode cX8_count 76 = .ok (.getfield 16, 3) := by decide +kernel
theorem dX8_count_79 : decode cX8_count 79 = .ok (.getfield 227, 3) := by decide +kernel
theorem dX8_count_82 : decode cX8_count 82 = .ok (.invokestatic 261, 3) := by decide +kernel
theorem dX8_count_85 : decode cX8_count 85 = .ok (.ireturn, 1) := by decide +kernel
theorem dX8_count_86 : decode cX8_count 86 = .ok (.aload_n 0, 1) := by decide +kernel
theorem dX8_count_87 : decode cX8_count 87 = .ok (.getfield 25, 3) := by decide +kernel
theorem dX8_count_90 : decode cX8_count 90 = .ok (.iconst 0, 1) := by decide +kernel
theorem dX8_count_91 : decode cX8_count 91 = .ok (.invokevirtual 130, 3) := by decide +kernel
theorem dX8_count_94 : decode cX8_count 94 = .ok (.ireturn, 1) := by decide +kernel
theorem dX8_count_95 : decode cX8_count 95 = .ok (.iconst (-1), 1) := by decide +kernel
theorem dX8_count_96 : decode cX8_count 96 = .ok (.ireturn, 1) := by decide +kernel
theorem dX8_within_0 : decode cX8_within 0 = .ok (.iload_n 0, 1) := by decide +kernel
theorem dX8_within_1 : decode cX8_within 1 = .ok (.iload_n 1, 1) := by decide +kernel
theorem dX8_within_2 : decode cX8_within 2 = .ok (.if_icmp .lt 12, 3) := by decide +kernel
theorem dX8_within_5 : decode cX8_within 5 = .ok (.iload_n 0, 1) := by decide +kernel
theorem dX8_within_6 : decode cX8_within 6 = .ok (.iload_n 2, 1) := by decide +kernel
theorem dX8_within_7 : decode cX8_within 7 = .ok (.if_icmp .gt 7, 3) := by decide +kernel
theorem dX8_within_10 : decode cX8_within 10 = .ok (.iconst 1, 1) := by decide +kernel
theorem dX8_within_11 : decode cX8_within 11 = .ok (.goto 4, 3) := by decide +kernel
theorem dX8_within_14 : decode cX8_within 14 = .ok (.iconst 0, 1) := by decide +kernel
theorem dX8_within_15 : decode cX8_within 15 = .ok (.ireturn, 1) := by decide +kernel
theorem dX8_put_0 : decode cX8_put 0 = .ok (.iload_n 1, 1) := by decide +kernel
theorem dX8_put_1 : decode cX8_put 1 = .ok (.ifCond .lt 9, 3) := by decide +kernel
theorem dX8_put_4 : decode cX8_put 4 = .ok (.iload_n 1, 1) := by decide +kernel
theorem dX8_put_5 : decode cX8_put 5 = .ok (.aload_n 0, 1) := by decide +kernel
theorem dX8_put_6 : decode cX8_put 6 = .ok (.arraylength, 1) := by decide +kernel
theorem dX8_put_7 : decode cX8_put 7 = .ok (.if_icmp .lt 5, 3) := by decide +kernel
theorem dX8_put_10 : decode cX8_put 10 = .ok (.iconst (-1), 1) := by decide +kernel
theorem dX8_put_11 : decode cX8_put 11 = .ok (.ireturn, 1) := by decide +kernel
theorem dX8_put_12 : decode cX8_put 12 = .ok (.aload_n 0, 1) := by decide +kernel
theorem dX8_put_13 : decode cX8_put 13 = .ok (.iload_n 1, 1) := by decide +kernel
theorem dX8_put_14 : decode cX8_put 14 = .ok (.iaload, 1) := by decide +kernel
theorem dX8_put_15 : decode cX8_put 15 = .ok (.istore_n 3, 1) := by decide +kernel
theorem dX8_put_16 : decode cX8_put 16 = .ok (.aload_n 0, 1) := by decide +kernel
theorem dX8_put_17 : decode cX8_put 17 = .ok (.iload_n 1, 1) := by decide +kernel
theorem dX8_put_18 : decode cX8_put 18 = .ok (.iload_n 2, 1) := by decide +kernel
theorem dX8_put_19 : decode cX8_put 19 = .ok (.iastore, 1) := by decide +kernel
theorem dX8_put_20 : decode cX8_put 20 = .ok (.iload_n 3, 1) := by decide +kernel
theorem dX8_put_21 : decode cX8_put 21 = .ok (.ireturn, 1) := by decide +kernel
theorem dX8_sumOf_0 : decode cX8_sumOf 0 = .ok (.iconst 0, 1) := by decide +kernel
theorem dX8_sumOf_1 : decode cX8_sumOf 1 = .ok (.istore_n 1, 1) := by decide +kernel
theorem dX8_sumOf_2 : decode cX8_sumOf 2 = .ok (.aload_n 0, 1) := by decide +kernel
theorem dX8_sumOf_3 : decode cX8_sumOf 3 = .ok (.astore_n 2, 1) := by decide +kernel
theorem dX8_sumOf_4 : decode cX8_sumOf 4 = .ok (.aload_n 2, 1) := by decide +kernel
theorem dX8_sumOf_5 : decode cX8_sumOf 5 = .ok (.arraylength, 1) := by decide +kernel
theorem dX8_sumOf_6 : decode cX8_sumOf 6 = .ok (.istore_n 3, 1) := by decide +kernel
theorem dX8_sumOf_7 : decode cX8_sumOf 7 = .ok (.iconst 0, 1) := by decide +kernel
theorem dX8_sumOf_8 : decode cX8_sumOf 8 = .ok (.istore 4, 2) := by decide +kernel
theorem dX8_sumOf_10 : decode cX8_sumOf 10 = .ok (.iload 4, 2) := by decide +kernel
theorem dX8_sumOf_12 : decode cX8_sumOf 12 = .ok (.iload_n 3, 1) := by decide +kernel
theorem dX8_sumOf_13 : decode cX8_sumOf 13 = .ok (.if_icmp .ge 20, 3) := by decide +kernel
theorem dX8_sumOf_16 : decode cX8_sumOf 16 = .ok (.aload_n 2, 1) := by decide +kernel
theorem dX8_sumOf_17 : decode cX8_sumOf 17 = .ok (.iload 4, 2) := by decide +kernel
theorem dX8_sumOf_19 : decode cX8_sumOf 19 = .ok (.iaload, 1) := by decide +kernel
theorem dX8_sumOf_20 : decode cX8_sumOf 20 = .ok (.istore 5, 2) := by decide +kernel
theorem dX8_sumOf_22 : decode cX8_sumOf 22 = .ok (.iload_n 1, 1) := by decide +kernel
theorem dX8_sumOf_23 : decode cX8_sumOf 23 = .ok (.iload 5, 2) := by decide +kernel
theorem dX8_sumOf_25 : decode cX8_sumOf 25 = .ok (.iadd, 1) := by decide +kernel
theorem dX8_sumOf_26 : decode cX8_sumOf 26 = .ok (.istore_n 1, 1) := by decide +kernel
theorem dX8_sumOf_27 : decode cX8_sumOf 27 = .ok (.iinc 4 1, 3) := by decide +kernel
theorem dX8_sumOf_30 : decode cX8_sumOf 30 = .ok (.goto (-20), 3) := by decide +kernel
theorem dX8_sumOf_33 : decode cX8_sumOf 33 = .ok (.iload_n 1, 1) := by decide +kernel
theorem dX8_sumOf_34 : decode cX8_sumOf 34 = .ok (.ireturn, 1) := by decide +kernel
theorem dX8_digitFor_0 : decode cX8_digitFor 0 = .ok (.iload_n 1, 1) := by decide +kernel
theorem dX8_digitFor_1 : decode cX8_digitFor 1 = .ok (.iconst 5, 1) := by decide +kernel
theorem dX8_digitFor_2 : decode cX8_digitFor 2 = .ok (.iconst 3, 1) := by decide +kernel
theorem dX8_digitFor_3 : decode cX8_digitFor 3 = .ok (.iload_n 0, 1) := by decide +kernel
theorem dX8_digitFor_4 : decode cX8_digitFor 4 = .ok (.isub, 1) := by decide +kernel
theorem dX8_digitFor_5 : decode cX8_digitFor 5 = .ok (.imul, 1) := by decide +kernel
theorem dX8_digitFor_6 : decode cX8_digitFor 6 = .ok (.ishl, 1) := by decide +kernel
theorem dX8_digitFor_7 : decode cX8_digitFor 7 = .ok (.ireturn, 1) := by decide +kernel
theorem dX8_digitIn_0 : decode cX8_digitIn 0 = .ok (.iload_n 0, 1) := by decide +kernel
theorem dX8_digitIn_1 : decode cX8_digitIn 1 = .ok (.iconst 5, 1) := by decide +kernel
theorem dX8_digitIn_2 : decode cX8_digitIn 2 = .ok (.iconst 3, 1) := by decide +kernel
theorem dX8_digitIn_3 : decode cX8_digitIn 3 = .ok (.iload_n 1, 1) := by decide +kernel
theorem dX8_digitIn_4 : decode cX8_digitIn 4 = .ok (.isub, 1) := by decide +kernel
theorem dX8_digitIn_5 : decode cX8_digitIn 5 = .ok (.imul, 1) := by decide +kernel
theorem dX8_digitIn_6 : decode cX8_digitIn 6 = .ok (.ishr, 1) := by decide +kernel
theorem dX8_digitIn_7 : decode cX8_digitIn 7 = .ok (.bipush 31, 2) := by decide +kernel
theorem dX8_digitIn_9 : decode cX8_digitIn 9 = .ok (.iand, 1) := by decide +kernel
theorem dX8_digitIn_10 : decode cX8_digitIn 10 = .ok (.ireturn, 1) := by decide +kernel
theorem dX9_init_0 : decode cX9_init 0 = .ok (.aload_n 0, 1) := by decide +kernel
theorem dX9_init_1 : decode cX9_init 1 = .ok (.invokespecial 1, 3) := by decide +kernel
theorem dX9_init_4 : decode cX9_init 4 = .ok (.aload_n 0, 1) := by decide +kernel
theorem dX9_init_5 : decode cX9_init 5 = .ok (.bipush 6, 2) := by decide +kernel
theorem dX9_init_7 : decode cX9_init 7 = .ok (.newarray .int, 2) := by decide +kernel
theorem dX9_init_9 : decode cX9_init 9 = .ok (.putfield 7, 3) := by decide +kernel
theorem dX9_init_12 : decode cX9_init 12 = .ok (.aload_n 0, 1) := by decide +kernel
theorem dX9_init_13 : decode cX9_init 13 = .ok (.bipush 6, 2) := by decide +kernel
theorem dX9_init_15 : decode cX9_init 15 = .ok (.newarray .int, 2) := by decide +kernel
theorem dX9_init_17 : decode cX9_init 17 = .ok (.putfield 13, 3) := by decide +kernel
theorem dX9_init_20 : decode cX9_init 20 = .ok (.aload_n 0, 1) := by decide +kernel
theorem dX9_init_21 : decode cX9_init 21 = .ok (.bipush 6, 2) := by decide +kernel
theorem dX9_init_23 : decode cX9_init 23 = .ok (.newarray .int, 2) := by decide +kernel
theorem dX9_init_25 : decode cX9_init 25 = .ok (.putfield 16, 3) := by decide +kernel
theorem dX9_init_28 : decode cX9_init 28 = .ok (.aload_n 0, 1) := by decide +kernel
theorem dX9_init_29 : decode cX9_init 29 = .ok (.bipush 6, 2) := by decide +kernel
theorem dX9_init_31 : decode cX9_init 31 = .ok (.newarray .int, 2) := by decide +kernel
theorem dX9_init_33 : decode cX9_init 33 = .ok (.putfield 19, 3) := by decide +kernel
theorem dX9_init_36 : decode cX9_init 36 = .ok (.aload_n 0, 1) := by decide +kernel
theorem dX9_init_37 : decode cX9_init 37 = .ok (.bipush 6, 2) := by decide +kernel
theorem dX9_init_39 : decode cX9_init 39 = .ok (.newarray .int, 2) := by decide +kernel
theorem dX9_init_41 : decode cX9_init 41 = .ok (.putfield 22, 3) := by decide +kernel
theorem dX9_init_44 : decode cX9_init 44 = .ok (.aload_n 0, 1) := by decide +kernel
theorem dX9_init_45 : decode cX9_init 45 = .ok (.bipush 6, 2) := by decide +kernel
theorem dX9_init_47 : decode cX9_init 47 = .ok (.newarray .int, 2) := by decide +kernel
theorem dX9_init_49 : decode cX9_init 49 = .ok (.putfield 25, 3) := by decide +kernel
theorem dX9_init_52 : decode cX9_init 52 = .ok (.aload_n 0, 1) := by decide +kernel
theorem dX9_init_53 : decode cX9_init 53 = .ok (.iconst 4, 1) := by decide +kernel
theorem dX9_init_54 : decode cX9_init 54 = .ok (.newarray .int, 2) := by decide +kernel
theorem dX9_init_56 : decode cX9_init 56 = .ok (.putfield 28, 3) := by decide +kernel
theorem dX9_init_59 : decode cX9_init 59 = .ok (.aload_n 0, 1) := by decide +kernel
theorem dX9_init_60 : decode cX9_init 60 = .ok (.iconst 4, 1) := by decide +kernel
theorem dX9_init_61 : decode cX9_init 61 = .ok (.newarray .int, 2) := by decide +kernel
theorem dX9_init_63 : decode cX9_init 63 = .ok (.putfield 31, 3) := by decide +kernel
theorem dX9_init_66 : decode cX9_init 66 = .ok (.aload_n 0, 1) := by decide +kernel
theorem dX9_init_67 : decode cX9_init 67 = .ok (.iconst 4, 1) := by decide +kernel
theorem dX9_init_68 : decode cX9_init 68 = .ok (.newarray .int, 2) := by decide +kernel
theorem dX9_init_70 : decode cX9_init 70 = .ok (.putfield 34, 3) := by decide +kernel
theorem dX9_init_73 : decode cX9_init 73 = .ok (.aload_n 0, 1) := by decide +kernel
theorem dX9_init_74 : decode cX9_init 74 = .ok (.iconst 4, 1) := by decide +kernel
theorem dX9_init_75 : decode cX9_init 75 = .ok (.newarray .int, 2) := by decide +kernel
theorem dX9_init_77 : decode cX9_init 77 = .ok (.putfield 37, 3) := by decide +kernel
theorem dX9_init_80 : decode cX9_init 80 = .ok (.aload_n 0, 1) := by decide +kernel
theorem dX9_init_81 : decode cX9_init 81 = .ok (.bipush 10, 2) := by decide +kernel
theorem dX9_init_83 : decode cX9_init 83 = .ok (.newarray .int, 2) := by decide +kernel
theorem dX9_init_85 : decode cX9_init 85 = .ok (.putfield 40, 3) := by decide +kernel
theorem dX9_init_88 : decode cX9_init 88 = .ok (.aload_n 0, 1) := by decide +kernel
theorem dX9_init_89 : decode cX9_init 89 = .ok (.iconst 3, 1) := by decide +kernel
theorem dX9_init_90 : decode cX9_init 90 = .ok (.newarray .int, 2) := by decide +kernel
theorem dX9_init_92 : decode cX9_init 92 = .ok (.putfield 43, 3) := by decide +kernel
theorem dX9_init_95 : decode cX9_init 95 = .ok (.aload_n 0, 1) := by decide +kernel
theorem dX9_init_96 : decode cX9_init 96 = .ok (.bipush 10, 2) := by decide +kernel
theorem dX9_init_98 : decode cX9_init 98 = .ok (.putfield 46, 3) := by decide +kernel
theorem dX9_init_101 : decode cX9_init 101 = .ok (.aload_n 0, 1) := by decide +kernel
theorem dX9_init_102 : decode cX9_init 102 = .ok (.bipush 10, 2) := by decide +kernel
theorem dX9_init_104 : decode cX9_init 104 = .ok (.putfield 50, 3) := by decide +kernel
theorem dX9_init_107 : decode cX9_init 107 = .ok (.aload_n 0, 1) := by decide +kernel
theorem dX9_init_108 : decode cX9_init 108 = .ok (.bipush 90, 2) := by decide +kernel
theorem dX9_init_110 : decode cX9_init 110 = .ok (.putfield 53, 3) := by decide +kernel
theorem dX9_init_113 : decode cX9_init 113 = .ok (.aload_n 0, 1) := by decide +kernel
theorem dX9_init_114 : decode cX9_init 114 = .ok (.iconst 4, 1) := by decide +kernel
theorem dX9_init_115 : decode cX9_init 115 = .ok (.newarray .int, 2) := by decide +kernel
theorem dX9_init_117 : decode cX9_init 117 = .ok (.putfield 56, 3) := by decide +kernel
end
section
theorem dX9_init_120 : decode cX9_init 120 = .ok (.aload_n 0, 1) := by decide +kernel
theorem dX9_init_121 : decode cX9_init 121 = .ok (.iconst 4, 1) := by decide +kernel
theorem dX9_init_122 : decode cX9_init 122 = .ok (.newarray .int, 2) := by decide +kernel
theorem dX9_init_124 : decode cX9_init 124 = .ok (.putfield 59, 3) := by decide +kernel
theorem dX9_init_127 : decode cX9_init 127 = .ok (.aload_n 0, 1) := by decide +kernel
theorem dX9_init_128 : decode cX9_init 128 = .ok (.iconst 4, 1) := by decide +kernel
theorem dX9_init_129 : decode cX9_init 129 = .ok (.newarray .int, 2) := by decide +kernel
theorem dX9_init_131 : decode cX9_init 131 = .ok (.putfield 62, 3) := by decide +kernel
theorem dX9_init_134 : decode cX9_init 134 = .ok (.aload_n 0, 1) := by decide +kernel
theorem dX9_init_135 : decode cX9_init 135 = .ok (.iconst 3, 1) := by decide +kernel
theorem dX9_init_136 : decode cX9_init 136 = .ok (.newarray .int, 2) := by decide +kernel
theorem dX9_init_138 : decode cX9_init 138 = .ok (.putfield 65, 3) := by decide +kernel
theorem dX9_init_141 : decode cX9_init 141 = .ok (.aload_n 0, 1) := by decide +kernel
theorem dX9_init_142 : decode cX9_init 142 = .ok (.iconst 3, 1) := by decide +kernel
theorem dX9_init_143 : decode cX9_init 143 = .ok (.newarray .int, 2) := by decide +kernel
theorem dX9_init_145 : decode cX9_init 145 = .ok (.putfield 68, 3) := by decide +kernel
theorem dX9_init_148 : decode cX9_init 148 = .ok (.aload_n 0, 1) := by decide +kernel
theorem dX9_init_149 : decode cX9_init 149 = .ok (.iconst 4, 1) := by decide +kernel
theorem dX9_init_150 : decode cX9_init 150 = .ok (.newarray .long, 2) := by decide +kernel
theorem dX9_init_152 : decode cX9_init 152 = .ok (.putfield 71, 3) := by decide +kernel
theorem dX9_init_155 : decode cX9_init 155 = .ok (.aload_n 0, 1) := by decide +kernel
theorem dX9_init_156 : decode cX9_init 156 = .ok (.iconst 4, 1) := by decide +kernel
theorem dX9_init_157 : decode cX9_init 157 = .ok (.newarray .long, 2) := by decide +kernel
theorem dX9_init_159 : decode cX9_init 159 = .ok (.putfield 75, 3) := by decide +kernel
theorem dX9_init_162 : decode cX9_init 162 = .ok (.aload_n 0, 1) := by decide +kernel
theorem dX9_init_163 : decode cX9_init 163 = .ok (.iconst 4, 1) := by decide +kernel
theorem dX9_init_164 : decode cX9_init 164 = .ok (.newarray .long, 2) := by decide +kernel
theorem dX9_init_166 : decode cX9_init 166 = .ok (.putfield 78, 3) := by decide +kernel
theorem dX9_init_169 : decode cX9_init 169 = .ok (.aload_n 0, 1) := by decide +kernel
theorem dX9_init_170 : decode cX9_init 170 = .ok (.iconst 4, 1) := by decide +kernel
theorem dX9_init_171 : decode cX9_init 171 = .ok (.newarray .boolean, 2) := by decide +kernel
theorem dX9_init_173 : decode cX9_init 173 = .ok (.putfield 81, 3) := by decide +kernel
theorem dX9_init_176 : decode cX9_init 176 = .ok (.aload_n 0, 1) := by decide +kernel
theorem dX9_init_177 : decode cX9_init 177 = .ok (.iconst 4, 1) := by decide +kernel
theorem dX9_init_178 : decode cX9_init 178 = .ok (.newarray .int, 2) := by decide +kernel
theorem dX9_init_180 : decode cX9_init 180 = .ok (.putfield 85, 3) := by decide +kernel
theorem dX9_init_183 : decode cX9_init 183 = .ok (.aload_n 0, 1) := by decide +kernel
theorem dX9_init_184 : decode cX9_init 184 = .ok (.bipush 7, 2) := by decide +kernel
theorem dX9_init_186 : decode cX9_init 186 = .ok (.newarray .int, 2) := by decide +kernel
theorem dX9_init_188 : decode cX9_init 188 = .ok (.putfield 88, 3) := by decide +kernel
theorem dX9_init_191 : decode cX9_init 191 = .ok (.aload_n 0, 1) := by decide +kernel
theorem dX9_init_192 : decode cX9_init 192 = .ok (.bipush 6, 2) := by decide +kernel
theorem dX9_init_194 : decode cX9_init 194 = .ok (.newarray .int, 2) := by decide +kernel
theorem dX9_init_196 : decode cX9_init 196 = .ok (.putfield 91, 3) := by decide +kernel
theorem dX9_init_199 : decode cX9_init 199 = .ok (.aload_n 0, 1) := by decide +kernel
theorem dX9_init_200 : decode cX9_init 200 = .ok (.bipush 30, 2) := by decide +kernel
theorem dX9_init_202 : decode cX9_init 202 = .ok (.newarray .int, 2) := by decide +kernel
theorem dX9_init_204 : decode cX9_init 204 = .ok (.putfield 94, 3) := by decide +kernel
theorem dX9_init_207 : decode cX9_init 207 = .ok (.aload_n 0, 1) := by decide +kernel
theorem dX9_init_208 : decode cX9_init 208 = .ok (.bipush 10, 2) := by decide +kernel
theorem dX9_init_210 : decode cX9_init 210 = .ok (.newarray .int, 2) := by decide +kernel
theorem dX9_init_212 : decode cX9_init 212 = .ok (.putfield 97, 3) := by decide +kernel
theorem dX9_init_215 : decode cX9_init 215 = .ok (.aload_n 0, 1) := by decide +kernel
theorem dX9_init_216 : decode cX9_init 216 = .ok (.bipush 10, 2) := by decide +kernel
theorem dX9_init_218 : decode cX9_init 218 = .ok (.newarray .int, 2) := by decide +kernel
theorem dX9_init_220 : decode cX9_init 220 = .ok (.putfield 100, 3) := by decide +kernel
theorem dX9_init_223 : decode cX9_init 223 = .ok (.aload_n 0, 1) := by decide +kernel
theorem dX9_init_224 : decode cX9_init 224 = .ok (.bipush 36, 2) := by decide +kernel
theorem dX9_init_226 : decode cX9_init 226 = .ok (.newarray .int, 2) := by decide +kernel
theorem dX9_init_228 : decode cX9_init 228 = .ok (.putfield 103, 3) := by decide +kernel
theorem dX9_init_231 : decode cX9_init 231 = .ok (.iconst 0, 1) := by decide +kernel
theorem dX9_init_232 : decode cX9_init 232 = .ok (.istore_n 1, 1) := by decide +kernel
theorem dX9_init_233 : decode cX9_init 233 = .ok (.iload_n 1, 1) := by decide +kernel
theorem dX9_init_234 : decode cX9_init 234 = .ok (.bipush 10, 2) := by decide +kernel
theorem dX9_init_236 : decode cX9_init 236 = .ok (.if_icmp .ge 22, 3) := by decide +kernel
theorem dX9_init_239 : decode cX9_init 239 = .ok (.aload_n 0, 1) := by decide +kernel
theorem dX9_init_240 : decode cX9_init 240 = .ok (.getfield 40, 3) := by decide +kernel
theorem dX9_init_243 : decode cX9_init 243 = .ok (.iload_n 1, 1) := by decide +kernel
theorem dX9_init_244 : decode cX9_init 244 = .ok (.bipush 100, 2) := by decide +kernel
theorem dX9_init_246 : decode cX9_init 246 = .ok (.bipush 10, 2) := by decide +kernel
theorem dX9_init_248 : decode cX9_init 248 = .ok (.iload_n 1, 1) := by decide +kernel
theorem dX9_init_249 : decode cX9_init 249 = .ok (.imul, 1) := by decide +kernel
theorem dX9_init_250 : decode cX9_init 250 = .ok (.isub, 1) := by decide +kernel
theorem dX9_init_251 : decode cX9_init 251 = .ok (.iastore, 1) := by decide +kernel
theorem dX9_init_252 : decode cX9_init 252 = .ok (.iinc 1 1, 3) := by decide +kernel
theorem dX9_init_255 : decode cX9_init 255 = .ok (.goto (-22), 3) := by decide +kernel
theorem dX9_init_258 : decode cX9_init 258 = .ok (.aload_n 0, 1) := by decide +kernel
theorem dX9_init_259 : decode cX9_init 259 = .ok (.getfield 43, 3) := by decide +kernel
theorem dX9_init_262 : decode cX9_init 262 = .ok (.iconst 0, 1) := by decide +kernel
theorem dX9_init_263 : decode cX9_init 263 = .ok (.ldc 106, 2) := by decide +kernel
theorem dX9_init_265 : decode cX9_init 265 = .ok (.iastore, 1) := by decide +kernel
theorem dX9_init_266 : decode cX9_init 266 = .ok (.return_, 1) := by decide +kernel
theorem dX9_isIn_0 : decode cX9_isIn 0 = .ok (.lload_n 0, 1) := by decide +kernel
theorem dX9_isIn_1 : decode cX9_isIn 1 = .ok (.lload_n 2, 1) := by decide +kernel
theorem dX9_isIn_2 : decode cX9_isIn 2 = .ok (.lcmp, 1) := by decide +kernel
theorem dX9_isIn_3 : decode cX9_isIn 3 = .ok (.ifCond .lt 14, 3) := by decide +kernel
theorem dX9_isIn_6 : decode cX9_isIn 6 = .ok (.lload_n 0, 1) := by decide +kernel
theorem dX9_isIn_7 : decode cX9_isIn 7 = .ok (.lload 4, 2) := by decide +kernel
theorem dX9_isIn_9 : decode cX9_isIn 9 = .ok (.lcmp, 1) := by decide +kernel
theorem dX9_isIn_10 : decode cX9_isIn 10 = .ok (.ifCond .gt 7, 3) := by decide +kernel
theorem dX9_isIn_13 : decode cX9_isIn 13 = .ok (.iconst 1, 1) := by decide +kernel
theorem dX9_isIn_14 : decode cX9_isIn 14 = .ok (.goto 4, 3) := by decide +kernel
theorem dX9_isIn_17 : decode cX9_isIn 17 = .ok (.iconst 0, 1) := by decide +kernel
theorem dX9_isIn_18 : decode cX9_isIn 18 = .ok (.ireturn, 1) := by decide +kernel
theorem dX9_isEngine_0 : decode cX9_isEngine 0 = .ok (.iload_n 1, 1) := by decide +kernel
theorem dX9_isEngine_1 : decode cX9_isEngine 1 = .ok (.ifCond .lt 15, 3) := by decide +kernel
theorem dX9_isEngine_4 : decode cX9_isEngine 4 = .ok (.iload_n 1, 1) := by decide +kernel
theorem dX9_isEngine_5 : decode cX9_isEngine 5 = .ok (.aload_n 0, 1) := by decide +kernel
theorem dX9_isEngine_6 : decode cX9_isEngine 6 = .ok (.getfield 107, 3) := by decide +kernel
theorem dX9_isEngine_9 : decode cX9_isEngine 9 = .ok (.if_icmp .ge 7, 3) := by decide +kernel
theorem dX9_isEngine_12 : decode cX9_isEngine 12 = .ok (.iconst 1, 1) := by decide +kernel
theorem dX9_isEngine_13 : decode cX9_isEngine 13 = .ok (.goto 4, 3) := by decide +kernel
theorem dX9_isEngine_16 : decode cX9_isEngine 16 = .ok (.iconst 0, 1) := by decide +kernel
theorem dX9_isEngine_17 : decode cX9_isEngine 17 = .ok (.ireturn, 1) := by decide +kernel
theorem dX9_isStage_0 : decode cX9_isStage 0 = .ok (.iload_n 1, 1) := by decide +kernel
theorem dX9_isStage_1 : decode cX9_isStage 1 = .ok (.ifCond .lt 15, 3) := by decide +kernel
theorem dX9_isStage_4 : decode cX9_isStage 4 = .ok (.iload_n 1, 1) := by decide +kernel
theorem dX9_isStage_5 : decode cX9_isStage 5 = .ok (.aload_n 0, 1) := by decide +kernel
theorem dX9_isStage_6 : decode cX9_isStage 6 = .ok (.getfield 110, 3) := by decide +kernel
theorem dX9_isStage_9 : decode cX9_isStage 9 = .ok (.if_icmp .ge 7, 3) := by decide +kernel
theorem dX9_isStage_12 : decode cX9_isStage 12 = .ok (.iconst 1, 1) := by decide +kernel
theorem dX9_isStage_13 : decode cX9_isStage 13 = .ok (.goto 4, 3) := by decide +kernel
theorem dX9_isStage_16 : decode cX9_isStage 16 = .ok (.iconst 0, 1) := by decide +kernel
theorem dX9_isStage_17 : decode cX9_isStage 17 = .ok (.ireturn, 1) := by decide +kernel
theorem dX9_engine_0 : decode cX9_engine 0 = .ok (.iload_n 1, 1) := by decide +kernel
theorem dX9_engine_1 : decode cX9_engine 1 = .ok (.i2l, 1) := by decide +kernel
theorem dX9_engine_2 : decode cX9_engine 2 = .ok (.lconst 1, 1) := by decide +kernel
theorem dX9_engine_3 : decode cX9_engine 3 = .ok (.ldc2_w 113, 3) := by decide +kernel
theorem dX9_engine_6 : decode cX9_engine 6 = .ok (.invokestatic 115, 3) := by decide +kernel
theorem dX9_engine_9 : decode cX9_engine 9 = .ok (.ifCond .eq 40, 3) := by decide +kernel
theorem dX9_engine_12 : decode cX9_engine 12 = .ok (.iload_n 2, 1) := by decide +kernel
theorem dX9_engine_13 : decode cX9_engine 13 = .ok (.i2l, 1) := by decide +kernel
theorem dX9_engine_14 : decode cX9_engine 14 = .ok (.lconst 1, 1) := by decide +kernel
theorem dX9_engine_15 : decode cX9_engine 15 = .ok (.ldc2_w 113, 3) := by decide +kernel
theorem dX9_engine_18 : decode cX9_engine 18 = .ok (.invokestatic 115, 3) := by decide +kernel
theorem dX9_engine_21 : decode cX9_engine 21 = .ok (.ifCond .eq 28, 3) := by decide +kernel
theorem dX9_engine_24 : decode cX9_engine 24 = .ok (.iload_n 3, 1) := by decide +kernel
theorem dX9_engine_25 : decode cX9_engine 25 = .ok (.i2l, 1) := by decide +kernel
theorem dX9_engine_26 : decode cX9_engine 26 = .ok (.lconst 1, 1) := by decide +kernel
theorem dX9_engine_27 : decode cX9_engine 27 = .ok (.ldc2_w 119, 3) := by decide +kernel
theorem dX9_engine_30 : decode cX9_engine 30 = .ok (.invokestatic 115, 3) := by decide +kernel
theorem dX9_engine_33 : decode cX9_engine 33 = .ok (.ifCond .eq 16, 3) := by decide +kernel
theorem dX9_engine_36 : decode cX9_engine 36 = .ok (.iload 4, 2) := by decide +kernel
theorem dX9_engine_38 : decode cX9_engine 38 = .ok (.i2l, 1) := by decide +kernel
theorem dX9_engine_39 : decode cX9_engine 39 = .ok (.lconst 1, 1) := by decide +kernel
theorem dX9_engine_40 : decode cX9_engine 40 = .ok (.ldc2_w 121, 3) := by decide +kernel
theorem dX9_engine_43 : decode cX9_engine 43 = .ok (.invokestatic 115, 3) := by decide +kernel
theorem dX9_engine_46 : decode cX9_engine 46 = .ok (.ifCond .ne 6, 3) := by decide +kernel
theorem dX9_engine_49 : decode cX9_engine 49 = .ok (.bipush (-2), 2) := by decide +kernel
theorem dX9_engine_51 : decode cX9_engine 51 = .ok (.ireturn, 1) := by decide +kernel
theorem dX9_engine_52 : decode cX9_engine 52 = .ok (.aload_n 0, 1) := by decide +kernel
theorem dX9_engine_53 : decode cX9_engine 53 = .ok (.getfield 107, 3) := by decide +kernel
theorem dX9_engine_56 : decode cX9_engine 56 = .ok (.bipush 6, 2) := by decide +kernel
theorem dX9_engine_58 : decode cX9_engine 58 = .ok (.if_icmp .ne 6, 3) := by decide +kernel
theorem dX9_engine_61 : decode cX9_engine 61 = .ok (.bipush (-4), 2) := by decide +kernel
theorem dX9_engine_63 : decode cX9_engine 63 = .ok (.ireturn, 1) := by decide +kernel
theorem dX9_engine_64 : decode cX9_engine 64 = .ok (.aload_n 0, 1) := by decide +kernel
theorem dX9_engine_65 : decode cX9_engine 65 = .ok (.getfield 7, 3) := by decide +kernel
theorem dX9_engine_68 : decode cX9_engine 68 = .ok (.aload_n 0, 1) := by decide +kernel
theorem dX9_engine_69 : decode cX9_engine 69 = .ok (.getfield 107, 3) := by decide +kernel
theorem dX9_engine_72 : decode cX9_engine 72 = .ok (.iload_n 1, 1) := by decide +kernel
theorem dX9_engine_73 : decode cX9_engine 73 = .ok (.iastore, 1) := by decide +kernel
theorem dX9_engine_74 : decode cX9_engine 74 = .ok (.aload_n 0, 1) := by decide +kernel
theorem dX9_engine_75 : decode cX9_engine 75 = .ok (.getfield 13, 3) := by decide +kernel
theorem dX9_engine_78 : decode cX9_engine 78 = .ok (.aload_n 0, 1) := by decide +kernel
theorem dX9_engine_79 : decode cX9_engine 79 = .ok (.getfield 107, 3) := by decide +kernel
theorem dX9_engine_82 : decode cX9_engine 82 = .ok (.iload_n 2, 1) := by decide +kernel
theorem dX9_engine_83 : decode cX9_engine 83 = .ok (.iastore, 1) := by decide +kernel
theorem dX9_engine_84 : decode cX9_engine 84 = .ok (.aload_n 0, 1) := by decide +kernel
theorem dX9_engine_85 : decode cX9_engine 85 = .ok (.getfield 16, 3) := by decide +kernel
theorem dX9_engine_88 : decode cX9_engine 88 = .ok (.aload_n 0, 1) := by decide +kernel
theorem dX9_engine_89 : decode cX9_engine 89 = .ok (.getfield 107, 3) := by decide +kernel
theorem dX9_engine_92 : decode cX9_engine 92 = .ok (.iload_n 3, 1) := by decide +kernel
theorem dX9_engine_93 : decode cX9_engine 93 = .ok (.iastore, 1) := by decide +kernel
theorem dX9_engine_94 : decode cX9_engine 94 = .ok (.aload_n 0, 1) := by decide +kernel
theorem dX9_engine_95 : decode cX9_engine 95 = .ok (.getfield 19, 3) := by decide +kernel
theorem dX9_engine_98 : decode cX9_engine 98 = .ok (.aload_n 0, 1) := by decide +kernel
theorem dX9_engine_99 : decode cX9_engine 99 = .ok (.getfield 107, 3) := by decide +kernel
theorem dX9_engine_102 : decode cX9_engine 102 = .ok (.iload 4, 2) := by decide +kernel
theorem dX9_engine_104 : decode cX9_engine 104 = .ok (.iastore, 1) := by decide +kernel
theorem dX9_engine_105 : decode cX9_engine 105 = .ok (.aload_n 0, 1) := by decide +kernel
theorem dX9_engine_106 : decode cX9_engine 106 = .ok (.dup, 1) := by decide +kernel
theorem dX9_engine_107 : decode cX9_engine 107 = .ok (.getfield 107, 3) := by decide +kernel
theorem dX9_engine_110 : decode cX9_engine 110 = .ok (.iconst 1, 1) := by decide +kernel
theorem dX9_engine_111 : decode cX9_engine 111 = .ok (.iadd, 1) := by decide +kernel
theorem dX9_engine_112 : decode cX9_engine 112 = .ok (.putfield 107, 3) := by decide +kernel
theorem dX9_engine_115 : decode cX9_engine 115 = .ok (.aload_n 0, 1) := by decide +kernel
theorem dX9_engine_116 : decode cX9_engine 116 = .ok (.getfield 107, 3) := by decide +kernel
theorem dX9_engine_119 : decode cX9_engine 119 = .ok (.iconst 1, 1) := by decide +kernel
theorem dX9_engine_120 : decode cX9_engine 120 = .ok (.isub, 1) := by decide +kernel
theorem dX9_engine_121 : decode cX9_engine 121 = .ok (.ireturn, 1) := by decide +kernel
theorem dX9_store_0 : decode cX9_store 0 = .ok (.aload_n 0, 1) := by decide +kernel
theorem dX9_store_1 : decode cX9_store 1 = .ok (.iload_n 1, 1) := by decide +kernel
theorem dX9_store_2 : decode cX9_store 2 = .ok (.invokevirtual 123, 3) := by decide +kernel
theorem dX9_store_5 : decode cX9_store 5 = .ok (.ifCond .ne 5, 3) := by decide +kernel
theorem dX9_store_8 : decode cX9_store 8 = .ok (.iconst (-1), 1) := by decide +kernel
theorem dX9_store_9 : decode cX9_store 9 = .ok (.ireturn, 1) := by decide +kernel
theorem dX9_store_10 : decode cX9_store 10 = .ok (.iload_n 2, 1) := by decide +kernel
theorem dX9_store_11 : decode cX9_store 11 = .ok (.i2l, 1) := by decide +kernel
theorem dX9_store_12 : decode cX9_store 12 = .ok (.lconst 1, 1) := by decide +kernel
theorem dX9_store_13 : decode cX9_store 13 = .ok (.ldc2_w 119, 3) := by decide +kernel
theorem dX9_store_16 : decode cX9_store 16 = .ok (.invokestatic 115, 3) := by decide +kernel
theorem dX9_store_19 : decode cX9_store 19 = .ok (.ifCond .ne 6, 3) := by decide +kernel
theorem dX9_store_22 : decode cX9_store 22 = .ok (.bipush (-2), 2) := by decide +kernel
theorem dX9_store_24 : decode cX9_store 24 = .ok (.ireturn, 1) := by decide +kernel
theorem dX9_store_25 : decode cX9_store 25 = .ok (.aload_n 0, 1) := by decide +kernel
theorem dX9_store_26 : decode cX9_store 26 = .ok (.getfield 22, 3) := by decide +kernel
theorem dX9_store_29 : decode cX9_store 29 = .ok (.iload_n 1, 1) := by decide +kernel
theorem dX9_store_30 : decode cX9_store 30 = .ok (.iaload, 1) := by decide +kernel
theorem dX9_store_31 : decode cX9_store 31 = .ok (.iload_n 2, 1) := by decide +kernel
theorem dX9_store_32 : decode cX9_store 32 = .ok (.iadd, 1) := by decide +kernel
theorem dX9_store_33 : decode cX9_store 33 = .ok (.bipush 99, 2) := by decide +kernel
theorem dX9_store_35 : decode cX9_store 35 = .ok (.if_icmp .le 6, 3) := by decide +kernel
theorem dX9_store_38 : decode cX9_store 38 = .ok (.bipush (-4), 2) := by decide +kernel
theorem dX9_store_40 : decode cX9_store 40 = .ok (.ireturn, 1) := by decide +kernel
theorem dX9_store_41 : decode cX9_store 41 = .ok (.aload_n 0, 1) := by decide +kernel
theorem dX9_store_42 : decode cX9_store 42 = .ok (.getfield 22, 3) := by decide +kernel
theorem dX9_store_45 : decode cX9_store 45 = .ok (.iload_n 1, 1) := by decide +kernel
theorem dX9_store_46 : decode cX9_store 46 = .ok (.dup2, 1) := by decide +kernel
theorem dX9_store_47 : decode cX9_store 47 = .ok (.iaload, 1) := by decide +kernel
theorem dX9_store_48 : decode cX9_store 48 = .ok (.iload_n 2, 1) := by decide +kernel
theorem dX9_store_49 : decode cX9_store 49 = .ok (.iadd, 1) := by decide +kernel
theorem dX9_store_50 : decode cX9_store 50 = .ok (.iastore, 1) := by decide +kernel
theorem dX9_store_51 : decode cX9_store 51 = .ok (.aload_n 0, 1) := by decide +kernel
theorem dX9_store_52 : decode cX9_store 52 = .ok (.getfield 22, 3) := by decide +kernel
theorem dX9_store_55 : decode cX9_store 55 = .ok (.iload_n 1, 1) := by decide +kernel
theorem dX9_store_56 : decode cX9_store 56 = .ok (.iaload, 1) := by decide +kernel
theorem dX9_store_57 : decode cX9_store 57 = .ok (.ireturn, 1) := by decide +kernel
theorem dX9_stage_0 : decode cX9_stage 0 = .ok (.aload_n 0, 1) := by decide +kernel
theorem dX9_stage_1 : decode cX9_stage 1 = .ok (.iload_n 1, 1) := by decide +kernel
theorem dX9_stage_2 : decode cX9_stage 2 = .ok (.invokevirtual 123, 3) := by decide +kernel
theorem dX9_stage_5 : decode cX9_stage 5 = .ok (.ifCond .ne 5, 3) := by decide +kernel
theorem dX9_stage_8 : decode cX9_stage 8 = .ok (.iconst (-1), 1) := by decide +kernel
theorem dX9_stage_9 : decode cX9_stage 9 = .ok (.ireturn, 1) := by decide +kernel
theorem dX9_stage_10 : decode cX9_stage 10 = .ok (.iload_n 2, 1) := by decide +kernel
theorem dX9_stage_11 : decode cX9_stage 11 = .ok (.i2l, 1) := by decide +kernel
theorem dX9_stage_12 : decode cX9_stage 12 = .ok (.lconst 1, 1) := by decide +kernel
theorem dX9_stage_13 : decode cX9_stage 13 = .ok (.ldc2_w 127, 3) := by decide +kernel
theorem dX9_stage_16 : decode cX9_stage 16 = .ok (.invokestatic 115, 3) := by decide +kernel
theorem dX9_stage_19 : decode cX9_stage 19 = .ok (.ifCond .eq 28, 3) := by decide +kernel
theorem dX9_stage_22 : decode cX9_stage 22 = .ok (.iload_n 3, 1) := by decide +kernel
theorem dX9_stage_23 : decode cX9_stage 23 = .ok (.i2l, 1) := by decide +kernel
theorem dX9_stage_24 : decode cX9_stage 24 = .ok (.lconst 0, 1) := by decide +kernel
theorem dX9_stage_25 : decode cX9_stage 25 = .ok (.ldc2_w 129, 3) := by decide +kernel
theorem dX9_stage_28 : decode cX9_stage 28 = .ok (.invokestatic 115, 3) := by decide +kernel
theorem dX9_stage_31 : decode cX9_stage 31 = .ok (.ifCond .eq 16, 3) := by decide +kernel
theorem dX9_stage_34 : decode cX9_stage 34 = .ok (.iload 4, 2) := by decide +kernel
theorem dX9_stage_36 : decode cX9_stage 36 = .ok (.i2l, 1) := by decide +kernel
theorem dX9_stage_37 : decode cX9_stage 37 = .ok (.lconst 0, 1) := by decide +kernel
theorem dX9_stage_38 : decode cX9_stage 38 = .ok (.ldc2_w 119, 3) := by decide +kernel
theorem dX9_stage_41 : decode cX9_stage 41 = .ok (.invokestatic 115, 3) := by decide +kernel
theorem dX9_stage_44 : decode cX9_stage 44 = .ok (.ifCond .ne 6, 3) := by decide +kernel
theorem dX9_stage_47 : decode cX9_stage 47 = .ok (.bipush (-2), 2) := by decide +kernel
theorem dX9_stage_49 : decode cX9_stage 49 = .ok (.ireturn, 1) := by decide +kernel
theorem dX9_stage_50 : decode cX9_stage 50 = .ok (.aload_n 0, 1) := by decide +kernel
theorem dX9_stage_51 : decode cX9_stage 51 = .ok (.getfield 110, 3) := by decide +kernel
theorem dX9_stage_54 : decode cX9_stage 54 = .ok (.iconst 4, 1) := by decide +kernel
theorem dX9_stage_55 : decode cX9_stage 55 = .ok (.if_icmp .ne 6, 3) := by decide +kernel
theorem dX9_stage_58 : decode cX9_stage 58 = .ok (.bipush (-4), 2) := by decide +kernel
theorem dX9_stage_60 : decode cX9_stage 60 = .ok (.ireturn, 1) := by decide +kernel
theorem dX9_stage_61 : decode cX9_stage 61 = .ok (.aload_n 0, 1) := by decide +kernel
theorem dX9_stage_62 : decode cX9_stage 62 = .ok (.getfield 28, 3) := by decide +kernel
theorem dX9_stage_65 : decode cX9_stage 65 = .ok (.aload_n 0, 1) := by decide +kernel
theorem dX9_stage_66 : decode cX9_stage 66 = .ok (.getfield 110, 3) := by decide +kernel
theorem dX9_stage_69 : decode cX9_stage 69 = .ok (.iload_n 1, 1) := by decide +kernel
theorem dX9_stage_70 : decode cX9_stage 70 = .ok (.iastore, 1) := by decide +kernel
theorem dX9_stage_71 : decode cX9_stage 71 = .ok (.aload_n 0, 1) := by decide +kernel
theorem dX9_stage_72 : decode cX9_stage 72 = .ok (.getfield 31, 3) := by decide +kernel
theorem dX9_stage_75 : decode cX9_stage 75 = .ok (.aload_n 0, 1) := by decide +kernel
theorem dX9_stage_76 : decode cX9_stage 76 = .ok (.getfield 110, 3) := by decide +kernel
theorem dX9_stage_79 : decode cX9_stage 79 = .ok (.iload_n 2, 1) := by decide +kernel
theorem dX9_stage_80 : decode cX9_stage 80 = .ok (.iastore, 1) := by decide +kernel
theorem dX9_stage_81 : decode cX9_stage 81 = .ok (.aload_n 0, 1) := by decide +kernel
theorem dX9_stage_82 : decode cX9_stage 82 = .ok (.getfield 34, 3) := by decide +kernel
theorem dX9_stage_85 : decode cX9_stage 85 = .ok (.aload_n 0, 1) := by decide +kernel
theorem dX9_stage_86 : decode cX9_stage 86 = .ok (.getfield 110, 3) := by decide +kernel
theorem dX9_stage_89 : decode cX9_stage 89 = .ok (.iload_n 3, 1) := by decide +kernel
theorem dX9_stage_90 : decode cX9_stage 90 = .ok (.iastore, 1) := by decide +kernel
theorem dX9_stage_91 : decode cX9_stage 91 = .ok (.aload_n 0, 1) := by decide +kernel
theorem dX9_stage_92 : decode cX9_stage 92 = .ok (.getfield 37, 3) := by decide +kernel
theorem dX9_stage_95 : decode cX9_stage 95 = .ok (.aload_n 0, 1) := by decide +kernel
theorem dX9_stage_96 : decode cX9_stage 96 = .ok (.getfield 110, 3) := by decide +kernel
theorem dX9_stage_99 : decode cX9_stage 99 = .ok (.iload 4, 2) := by decide +kernel
theorem dX9_stage_101 : decode cX9_stage 101 = .ok (.iastore, 1) := by decide +kernel
theorem dX9_stage_102 : decode cX9_stage 102 = .ok (.aload_n 0, 1) := by decide +kernel
theorem dX9_stage_103 : decode cX9_stage 103 = .ok (.dup, 1) := by decide +kernel
theorem dX9_stage_104 : decode cX9_stage 104 = .ok (.getfield 110, 3) := by decide +kernel
theorem dX9_stage_107 : decode cX9_stage 107 = .ok (.iconst 1, 1) := by decide +kernel
theorem dX9_stage_108 : decode cX9_stage 108 = .ok (.iadd, 1) := by decide +kernel
theorem dX9_stage_109 : decode cX9_stage 109 = .ok (.putfield 110, 3) := by decide +kernel
theorem dX9_stage_112 : decode cX9_stage 112 = .ok (.aload_n 0, 1) := by decide +kernel
theorem dX9_stage_113 : decode cX9_stage 113 = .ok (.getfield 110, 3) := by decide +kernel
theorem dX9_stage_116 : decode cX9_stage 116 = .ok (.ireturn, 1) := by decide +kernel
theorem dX9_undo_0 : decode cX9_undo 0 = .ok (.aload_n 0, 1) := by decide +kernel
theorem dX9_undo_1 : decode cX9_undo 1 = .ok (.getfield 110, 3) := by decide +kernel
theorem dX9_undo_4 : decode cX9_undo 4 = .ok (.ifCond .ne 6, 3) := by decide +kernel
theorem dX9_undo_7 : decode cX9_undo 7 = .ok (.bipush (-3), 2) := by decide +kernel
theorem dX9_undo_9 : decode cX9_undo 9 = .ok (.ireturn, 1) := by decide +kernel
theorem dX9_undo_10 : decode cX9_undo 10 = .ok (.aload_n 0, 1) := by decide +kernel
theorem dX9_undo_11 : decode cX9_undo 11 = .ok (.dup, 1) := by decide +kernel
theorem dX9_undo_12 : decode cX9_undo 12 = .ok (.getfield 110, 3) := by decide +kernel
theorem dX9_undo_15 : decode cX9_undo 15 = .ok (.iconst 1, 1) := by decide +kernel
theorem dX9_undo_16 : decode cX9_undo 16 = .ok (.isub, 1) := by decide +kernel
theorem dX9_undo_17 : decode cX9_undo 17 = .ok (.putfield 110, 3) := by decide +kernel
theorem dX9_undo_20 : decode cX9_undo 20 = .ok (.aload_n 0, 1) := by decide +kernel
theorem dX9_undo_21 : decode cX9_undo 21 = .ok (.getfield 110, 3) := by decide +kernel
theorem dX9_undo_24 : decode cX9_undo 24 = .ok (.ireturn, 1) := by decide +kernel
theorem dX9_stuff_0 : decode cX9_stuff 0 = .ok (.aload_n 0, 1) := by decide +kernel
theorem dX9_stuff_1 : decode cX9_stuff 1 = .ok (.iload_n 1, 1) := by decide +kernel
theorem dX9_stuff_2 : decode cX9_stuff 2 = .ok (.invokevirtual 131, 3) := by decide +kernel
theorem dX9_stuff_5 : decode cX9_stuff 5 = .ok (.ifCond .ne 5, 3) := by decide +kernel
theorem dX9_stuff_8 : decode cX9_stuff 8 = .ok (.iconst (-1), 1) := by decide +kernel
theorem dX9_stuff_9 : decode cX9_stuff 9 = .ok (.ireturn, 1) := by decide +kernel
theorem dX9_stuff_10 : decode cX9_stuff 10 = .ok (.iload_n 2, 1) := by decide +kernel
theorem dX9_stuff_11 : decode cX9_stuff 11 = .ok (.i2l, 1) := by decide +kernel
theorem dX9_stuff_12 : decode cX9_stuff 12 = .ok (.lconst 0, 1) := by decide +kernel
theorem dX9_stuff_13 : decode cX9_stuff 13 = .ok (.ldc2_w 129, 3) := by decide +kernel
theorem dX9_stuff_16 : decode cX9_stuff 16 = .ok (.invokestatic 115, 3) := by decide +kernel
theorem dX9_stuff_19 : decode cX9_stuff 19 = .ok (.ifCond .ne 6, 3) := by decide +kernel
theorem dX9_stuff_22 : decode cX9_stuff 22 = .ok (.bipush (-2), 2) := by decide +kernel
theorem dX9_stuff_24 : decode cX9_stuff 24 = .ok (.ireturn, 1) := by decide +kernel
theorem dX9_stuff_25 : decode cX9_stuff 25 = .ok (.aload_n 0, 1) := by decide +kernel
theorem dX9_stuff_26 : decode cX9_stuff 26 = .ok (.getfield 34, 3) := by decide +kernel
theorem dX9_stuff_29 : decode cX9_stuff 29 = .ok (.iload_n 1, 1) := by decide +kernel
theorem dX9_stuff_30 : decode cX9_stuff 30 = .ok (.iaload, 1) := by decide +kernel
theorem dX9_stuff_31 : decode cX9_stuff 31 = .ok (.istore_n 3, 1) := by decide +kernel
theorem dX9_stuff_32 : decode cX9_stuff 32 = .ok (.aload_n 0, 1) := by decide +kernel
theorem dX9_stuff_33 : decode cX9_stuff 33 = .ok (.getfield 34, 3) := by decide +kernel
theorem dX9_stuff_36 : decode cX9_stuff 36 = .ok (.iload_n 1, 1) := by decide +kernel
theorem dX9_stuff_37 : decode cX9_stuff 37 = .ok (.iload_n 2, 1) := by decide +kernel
theorem dX9_stuff_38 : decode cX9_stuff 38 = .ok (.iastore, 1) := by decide +kernel
theorem dX9_stuff_39 : decode cX9_stuff 39 = .ok (.iload_n 3, 1) := by decide +kernel
theorem dX9_stuff_40 : decode cX9_stuff 40 = .ok (.ireturn, 1) := by decide +kernel
theorem dX9_set_0 : decode cX9_set 0 = .ok (.iload_n 1, 1) := by decide +kernel
theorem dX9_set_1 : decode cX9_set 1 = .ok (.i2l, 1) := by decide +kernel
theorem dX9_set_2 : decode cX9_set 2 = .ok (.lconst 0, 1) := by decide +kernel
theorem dX9_set_3 : decode cX9_set 3 = .ok (.ldc2_w 134, 3) := by decide +kernel
theorem dX9_set_6 : decode cX9_set 6 = .ok (.invokestatic 115, 3) := by decide +kernel
theorem dX9_set_9 : decode cX9_set 9 = .ok (.ifCond .ne 5, 3) := by decide +kernel
theorem dX9_set_12 : decode cX9_set 12 = .ok (.iconst (-1), 1) := by decide +kernel
theorem dX9_set_13 : decode cX9_set 13 = .ok (.ireturn, 1) := by decide +kernel
theorem dX9_set_14 : decode cX9_set 14 = .ok (.iload_n 1, 1) := by decide +kernel
theorem dX9_set_15 : decode cX9_set 15 = .ok (.ifCond .ne 18, 3) := by decide +kernel
theorem dX9_set_18 : decode cX9_set 18 = .ok (.iload_n 2, 1) := by decide +kernel
theorem dX9_set_19 : decode cX9_set 19 = .ok (.i2l, 1) := by decide +kernel
theorem dX9_set_20 : decode cX9_set 20 = .ok (.lconst 0, 1) := by decide +kernel
theorem dX9_set_21 : decode cX9_set 21 = .ok (.ldc2_w 113, 3) := by decide +kernel
theorem dX9_set_24 : decode cX9_set 24 = .ok (.invokestatic 115, 3) := by decide +kernel
theorem dX9_set_27 : decode cX9_set 27 = .ok (.ifCond .ne 43, 3) := by decide +kernel
theorem dX9_set_30 : decode cX9_set 30 = .ok (.goto 37, 3) := by decide +kernel
theorem dX9_set_33 : decode cX9_set 33 = .ok (.iload_n 1, 1) := by decide +kernel
theorem dX9_set_34 : decode cX9_set 34 = .ok (.iconst 1, 1) := by decide +kernel
theorem dX9_set_35 : decode cX9_set 35 = .ok (.if_icmp .ne 18, 3) := by decide +kernel
theorem dX9_set_38 : decode cX9_set 38 = .ok (.iload_n 2, 1) := by decide +kernel
theorem dX9_set_39 : decode cX9_set 39 = .ok (.i2l, 1) := by decide +kernel
theorem dX9_set_40 : decode cX9_set 40 = .ok (.lconst 1, 1) := by decide +kernel
theorem dX9_set_41 : decode cX9_set 41 = .ok (.ldc2_w 136, 3) := by decide +kernel
theorem dX9_set_44 : decode cX9_set 44 = .ok (.invokestatic 115, 3) := by decide +kernel
theorem dX9_set_47 : decode cX9_set 47 = .ok (.ifCond .ne 23, 3) := by decide +kernel
theorem dX9_set_50 : decode cX9_set 50 = .ok (.goto 17, 3) := by decide +kernel
theorem dX9_set_53 : decode cX9_set 53 = .ok (.iload_n 2, 1) := by decide +kernel
theorem dX9_set_54 : decode cX9_set 54 = .ok (.i2l, 1) := by decide +kernel
theorem dX9_set_55 : decode cX9_set 55 = .ok (.ldc2_w 136, 3) := by decide +kernel
theorem dX9_set_58 : decode cX9_set 58 = .ok (.ldc2_w 138, 3) := by decide +kernel
theorem dX9_set_61 : decode cX9_set 61 = .ok (.invokestatic 115, 3) := by decide +kernel
theorem dX9_set_64 : decode cX9_set 64 = .ok (.ifCond .ne 6, 3) := by decide +kernel
theorem dX9_set_67 : decode cX9_set 67 = .ok (.bipush (-2), 2) := by decide +kernel
theorem dX9_set_69 : decode cX9_set 69 = .ok (.ireturn, 1) := by decide +kernel
theorem dX9_set_70 : decode cX9_set 70 = .ok (.iload_n 1, 1) := by decide +kernel
theorem dX9_set_71 : decode cX9_set 71 = .ok (.ifCond .ne 10, 3) := by decide +kernel
theorem dX9_set_74 : decode cX9_set 74 = .ok (.aload_n 0, 1) := by decide +kernel
theorem dX9_set_75 : decode cX9_set 75 = .ok (.getfield 46, 3) := by decide +kernel
theorem dX9_set_78 : decode cX9_set 78 = .ok (.goto 19, 3) := by decide +kernel
theorem dX9_set_81 : decode cX9_set 81 = .ok (.iload_n 1, 1) := by decide +kernel
theorem dX9_set_82 : decode cX9_set 82 = .ok (.iconst 1, 1) := by decide +kernel
theorem dX9_set_83 : decode cX9_set 83 = .ok (.if_icmp .ne 10, 3) := by decide +kernel
theorem dX9_set_86 : decode cX9_set 86 = .ok (.aload_n 0, 1) := by decide +kernel
theorem dX9_set_87 : decode cX9_set 87 = .ok (.getfield 50, 3) := by decide +kernel
theorem dX9_set_90 : decode cX9_set 90 = .ok (.goto 7, 3) := by decide +kernel
theorem dX9_set_93 : decode cX9_set 93 = .ok (.aload_n 0, 1) := by decide +kernel
theorem dX9_set_94 : decode cX9_set 94 = .ok (.getfield 53, 3) := by decide +kernel
theorem dX9_set_97 : decode cX9_set 97 = .ok (.istore_n 3, 1) := by decide +kernel
theorem dX9_set_98 : decode cX9_set 98 = .ok (.iload_n 1, 1) := by decide +kernel
theorem dX9_set_99 : decode cX9_set 99 = .ok (.ifCond .ne 11, 3) := by decide +kernel
theorem dX9_set_102 : decode cX9_set 102 = .ok (.aload_n 0, 1) := by decide +kernel
theorem dX9_set_103 : decode cX9_set 103 = .ok (.iload_n 2, 1) := by decide +kernel
theorem dX9_set_104 : decode cX9_set 104 = .ok (.putfield 46, 3) := by decide +kernel
theorem dX9_set_107 : decode cX9_set 107 = .ok (.goto 21, 3) := by decide +kernel
theorem dX9_set_110 : decode cX9_set 110 = .ok (.iload_n 1, 1) := by decide +kernel
theorem dX9_set_111 : decode cX9_set 111 = .ok (.iconst 1, 1) := by decide +kernel
theorem dX9_set_112 : decode cX9_set 112 = .ok (.if_icmp .ne 11, 3) := by decide +kernel
theorem dX9_set_115 : decode cX9_set 115 = .ok (.aload_n 0, 1) := by decide +kernel
theorem dX9_set_116 : decode cX9_set 116 = .ok (.iload_n 2, 1) := by decide +kernel
theorem dX9_set_117 : decode cX9_set 117 = .ok (.putfield 50, 3) := by decide +kernel
theorem dX9_set_120 : decode cX9_set 120 = .ok (.goto 8, 3) := by decide +kernel
theorem dX9_set_123 : decode cX9_set 123 = .ok (.aload_n 0, 1) := by decide +kernel
theorem dX9_set_124 : decode cX9_set 124 = .ok (.iload_n 2, 1) := by decide +kernel
theorem dX9_set_125 : decode cX9_set 125 = .ok (.putfield 53, 3) := by decide +kernel
theorem dX9_set_128 : decode cX9_set 128 = .ok (.iload_n 3, 1) := by decide +kernel
theorem dX9_set_129 : decode cX9_set 129 = .ok (.ireturn, 1) := by decide +kernel
theorem dX9_tank_0 : decode cX9_tank 0 = .ok (.iload_n 1, 1) := by decide +kernel
theorem dX9_tank_1 : decode cX9_tank 1 = .ok (.aload_n 0, 1) := by decide +kernel
theorem dX9_tank_2 : decode cX9_tank 2 = .ok (.getfield 50, 3) := by decide +kernel
theorem dX9_tank_5 : decode cX9_tank 5 = .ok (.imul, 1) := by decide +kernel
theorem dX9_tank_6 : decode cX9_tank 6 = .ok (.bipush 99, 2) := by decide +kernel
theorem dX9_tank_8 : decode cX9_tank 8 = .ok (.iadd, 1) := by decide +kernel
theorem dX9_tank_9 : decode cX9_tank 9 = .ok (.bipush 100, 2) := by decide +kernel
theorem dX9_tank_11 : decode cX9_tank 11 = .ok (.idiv, 1) := by decide +kernel
theorem dX9_tank_12 : decode cX9_tank 12 = .ok (.ireturn, 1) := by decide +kernel
theorem dX9_dry_0 : decode cX9_dry 0 = .ok (.aload_n 0, 1) := by decide +kernel
theorem dX9_dry_1 : decode cX9_dry 1 = .ok (.getfield 16, 3) := by decide +kernel
theorem dX9_dry_4 : decode cX9_dry 4 = .ok (.aload_n 0, 1) := by decide +kernel
theorem dX9_dry_5 : decode cX9_dry 5 = .ok (.getfield 28, 3) := by decide +kernel
theorem dX9_dry_8 : decode cX9_dry 8 = .ok (.iload_n 1, 1) := by decide +kernel
theorem dX9_dry_9 : decode cX9_dry 9 = .ok (.iaload, 1) := by decide +kernel
theorem dX9_dry_10 : decode cX9_dry 10 = .ok (.iaload, 1) := by decide +kernel
theorem dX9_dry_11 : decode cX9_dry 11 = .ok (.aload_n 0, 1) := by decide +kernel
theorem dX9_dry_12 : decode cX9_dry 12 = .ok (.getfield 31, 3) := by decide +kernel
theorem dX9_dry_15 : decode cX9_dry 15 = .ok (.iload_n 1, 1) := by decide +kernel
theorem dX9_dry_16 : decode cX9_dry 16 = .ok (.iaload, 1) := by decide +kernel
theorem dX9_dry_17 : decode cX9_dry 17 = .ok (.imul, 1) := by decide +kernel
theorem dX9_dry_18 : decode cX9_dry 18 = .ok (.aload_n 0, 1) := by decide +kernel
theorem dX9_dry_19 : decode cX9_dry 19 = .ok (.aload_n 0, 1) := by decide +kernel
theorem dX9_dry_20 : decode cX9_dry 20 = .ok (.getfield 34, 3) := by decide +kernel
theorem dX9_dry_23 : decode cX9_dry 23 = .ok (.iload_n 1, 1) := by decide +kernel
theorem dX9_dry_24 : decode cX9_dry 24 = .ok (.iaload, 1) := by decide +kernel
theorem dX9_dry_25 : decode cX9_dry 25 = .ok (.invokevirtual 140, 3) := by decide +kernel
theorem dX9_dry_28 : decode cX9_dry 28 = .ok (.iadd, 1) := by decide +kernel
theorem dX9_dry_29 : decode cX9_dry 29 = .ok (.aload_n 0, 1) := by decide +kernel
theorem dX9_dry_30 : decode cX9_dry 30 = .ok (.getfield 37, 3) := by decide +kernel
theorem dX9_dry_33 : decode cX9_dry 33 = .ok (.iload_n 1, 1) := by decide +kernel
theorem dX9_dry_34 : decode cX9_dry 34 = .ok (.iaload, 1) := by decide +kernel
theorem dX9_dry_35 : decode cX9_dry 35 = .ok (.iadd, 1) := by decide +kernel
theorem dX9_dry_36 : decode cX9_dry 36 = .ok (.ireturn, 1) := by decide +kernel
theorem dX9_above_0 : decode cX9_above 0 = .ok (.aload_n 0, 1) := by decide +kernel
theorem dX9_above_1 : decode cX9_above 1 = .ok (.getfield 46, 3) := by decide +kernel
theorem dX9_above_4 : decode cX9_above 4 = .ok (.istore_n 2, 1) := by decide +kernel
theorem dX9_above_5 : decode cX9_above 5 = .ok (.iload_n 1, 1) := by decide +kernel
theorem dX9_above_6 : decode cX9_above 6 = .ok (.iconst 1, 1) := by decide +kernel
theorem dX9_above_7 : decode cX9_above 7 = .ok (.iadd, 1) := by decide +kernel
theorem dX9_above_8 : decode cX9_above 8 = .ok (.istore_n 3, 1) := by decide +kernel
theorem dX9_above_9 : decode cX9_above 9 = .ok (.iload_n 3, 1) := by decide +kernel
theorem dX9_above_10 : decode cX9_above 10 = .ok (.aload_n 0, 1) := by decide +kernel
theorem dX9_above_11 : decode cX9_above 11 = .ok (.getfield 110, 3) := by decide +kernel
theorem dX9_above_14 : decode cX9_above 14 = .ok (.if_icmp .ge 24, 3) := by decide +kernel
theorem dX9_above_17 : decode cX9_above 17 = .ok (.iload_n 2, 1) := by decide +kernel
theorem dX9_above_18 : decode cX9_above 18 = .ok (.aload_n 0, 1) := by decide +kernel
theorem dX9_above_19 : decode cX9_above 19 = .ok (.iload_n 3, 1) := by decide +kernel
theorem dX9_above_20 : decode cX9_above 20 = .ok (.invokevirtual 144, 3) := by decide +kernel
theorem dX9_above_23 : decode cX9_above 23 = .ok (.aload_n 0, 1) := by decide +kernel
theorem dX9_above_24 : decode cX9_above 24 = .ok (.getfield 34, 3) := by decide +kernel
theorem dX9_above_27 : decode cX9_above 27 = .ok (.iload_n 3, 1) := by decide +kernel
theorem dX9_above_28 : decode cX9_above 28 = .ok (.iaload, 1) := by decide +kernel
theorem dX9_above_29 : decode cX9_above 29 = .ok (.iadd, 1) := by decide +kernel
theorem dX9_above_30 : decode cX9_above 30 = .ok (.iadd, 1) := by decide +kernel
theorem dX9_above_31 : decode cX9_above 31 = .ok (.istore_n 2, 1) := by decide +kernel
theorem dX9_above_32 : decode cX9_above 32 = .ok (.iinc 3 1, 3) := by decide +kernel
theorem dX9_above_35 : decode cX9_above 35 = .ok (.goto (-26), 3) := by decide +kernel
theorem dX9_above_38 : decode cX9_above 38 = .ok (.iload_n 2, 1) := by decide +kernel
theorem dX9_above_39 : decode cX9_above 39 = .ok (.ireturn, 1) := by decide +kernel
theorem dX9_low_0 : decode cX9_low 0 = .ok (.lconst 0, 1) := by decide +kernel
theorem dX9_low_1 : decode cX9_low 1 = .ok (.lstore_n 3, 1) := by decide +kernel
theorem dX9_low_2 : decode cX9_low 2 = .ok (.iconst 0, 1) := by decide +kernel
theorem dX9_low_3 : decode cX9_low 3 = .ok (.istore 5, 2) := by decide +kernel
theorem dX9_low_5 : decode cX9_low 5 = .ok (.iload 5, 2) := by decide +kernel
theorem dX9_low_7 : decode cX9_low 7 = .ok (.iload_n 2, 1) := by decide +kernel
theorem dX9_low_8 : decode cX9_low 8 = .ok (.if_icmp .ge 23, 3) := by decide +kernel
theorem dX9_low_11 : decode cX9_low 11 = .ok (.lload_n 3, 1) := by decide +kernel
theorem dX9_low_12 : decode cX9_low 12 = .ok (.iload_n 0, 1) := by decide +kernel
theorem dX9_low_13 : decode cX9_low 13 = .ok (.sipush 1000, 3) := by decide +kernel
theorem dX9_low_16 : decode cX9_low 16 = .ok (.imul, 1) := by decide +kernel
theorem dX9_low_17 : decode cX9_low 17 = .ok (.iload_n 1, 1) := by decide +kernel
theorem dX9_low_18 : decode cX9_low 18 = .ok (.iload 5, 2) := by decide +kernel
theorem dX9_low_20 : decode cX9_low 20 = .ok (.isub, 1) := by decide +kernel
theorem dX9_low_21 : decode cX9_low 21 = .ok (.idiv, 1) := by decide +kernel
theorem dX9_low_22 : decode cX9_low 22 = .ok (.i2l, 1) := by decide +kernel
theorem dX9_low_23 : decode cX9_low 23 = .ok (.ladd, 1) := by decide +kernel
theorem dX9_low_24 : decode cX9_low 24 = .ok (.lstore_n 3, 1) := by decide +kernel
theorem dX9_low_25 : decode cX9_low 25 = .ok (.iinc 5 1, 3) := by decide +kernel
theorem dX9_low_28 : decode cX9_low 28 = .ok (.goto (-23), 3) := by decide +kernel
theorem dX9_low_31 : decode cX9_low 31 = .ok (.lload_n 3, 1) := by decide +kernel
theorem dX9_low_32 : decode cX9_low 32 = .ok (.lreturn, 1) := by decide +kernel
theorem dX9_high_0 : decode cX9_high 0 = .ok (.lconst 0, 1) := by decide +kernel
theorem dX9_high_1 : decode cX9_high 1 = .ok (.lstore_n 3, 1) := by decide +kernel
theorem dX9_high_2 : decode cX9_high 2 = .ok (.iconst 0, 1) := by decide +kernel
theorem dX9_high_3 : decode cX9_high 3 = .ok (.istore 5, 2) := by decide +kernel
theorem dX9_high_5 : decode cX9_high 5 = .ok (.iload 5, 2) := by decide +kernel
theorem dX9_high_7 : decode cX9_high 7 = .ok (.iload_n 2, 1) := by decide +kernel
theorem dX9_high_8 : decode cX9_high 8 = .ok (.if_icmp .ge 32, 3) := by decide +kernel
theorem dX9_high_11 : decode cX9_high 11 = .ok (.lload_n 3, 1) := by decide +kernel
theorem dX9_high_12 : decode cX9_high 12 = .ok (.iload_n 0, 1) := by decide +kernel
theorem dX9_high_13 : decode cX9_high 13 = .ok (.sipush 1000, 3) := by decide +kernel
theorem dX9_high_16 : decode cX9_high 16 = .ok (.imul, 1) := by decide +kernel
theorem dX9_high_17 : decode cX9_high 17 = .ok (.iload_n 1, 1) := by decide +kernel
theorem dX9_high_18 : decode cX9_high 18 = .ok (.iadd, 1) := by decide +kernel
theorem dX9_high_19 : decode cX9_high 19 = .ok (.iload 5, 2) := by decide +kernel
theorem dX9_high_21 : decode cX9_high 21 = .ok (.isub, 1) := by decide +kernel
theorem dX9_high_22 : decode cX9_high 22 = .ok (.iconst 2, 1) := by decide +kernel
theorem dX9_high_23 : decode cX9_high 23 = .ok (.isub, 1) := by decide +kernel
theorem dX9_high_24 : decode cX9_high 24 = .ok (.iload_n 1, 1) := by decide +kernel
theorem dX9_high_25 : decode cX9_high 25 = .ok (.iload 5, 2) := by decide +kernel
theorem dX9_high_27 : decode cX9_high 27 = .ok (.isub, 1) := by decide +kernel
theorem dX9_high_28 : decode cX9_high 28 = .ok (.iconst 1, 1) := by decide +kernel
theorem dX9_high_29 : decode cX9_high 29 = .ok (.isub, 1) := by decide +kernel
theorem dX9_high_30 : decode cX9_high 30 = .ok (.idiv, 1) := by decide +kernel
theorem dX9_high_31 : decode cX9_high 31 = .ok (.i2l, 1) := by decide +kernel
theorem dX9_high_32 : decode cX9_high 32 = .ok (.ladd, 1) := by decide +kernel
theorem dX9_high_33 : decode cX9_high 33 = .ok (.lstore_n 3, 1) := by decide +kernel
theorem dX9_high_34 : decode cX9_high 34 = .ok (.iinc 5 1, 3) := by decide +kernel
theorem dX9_high_37 : decode cX9_high 37 = .ok (.goto (-32), 3) := by decide +kernel
theorem dX9_high_40 : decode cX9_high 40 = .ok (.lload_n 3, 1) := by decide +kernel
theorem dX9_high_41 : decode cX9_high 41 = .ok (.lreturn, 1) := by decide +kernel
theorem dX9_ahead_0 : decode cX9_ahead 0 = .ok (.aload_n 0, 1) := by decide +kernel
theorem dX9_ahead_1 : decode cX9_ahead 1 = .ok (.iload_n 1, 1) := by decide +kernel
theorem dX9_ahead_2 : decode cX9_ahead 2 = .ok (.invokevirtual 147, 3) := by decide +kernel
theorem dX9_ahead_5 : decode cX9_ahead 5 = .ok (.aload_n 0, 1) := by decide +kernel
theorem dX9_ahead_6 : decode cX9_ahead 6 = .ok (.iload_n 1, 1) := by decide +kernel
theorem dX9_ahead_7 : decode cX9_ahead 7 = .ok (.invokevirtual 144, 3) := by decide +kernel
theorem dX9_ahead_10 : decode cX9_ahead 10 = .ok (.iadd, 1) := by decide +kernel
theorem dX9_ahead_11 : decode cX9_ahead 11 = .ok (.aload_n 0, 1) := by decide +kernel
theorem dX9_ahead_12 : decode cX9_ahead 12 = .ok (.getfield 34, 3) := by decide +kernel
theorem dX9_ahead_15 : decode cX9_ahead 15 = .ok (.iload_n 1, 1) := by decide +kernel
theorem dX9_ahead_16 : decode cX9_ahead 16 = .ok (.iaload, 1) := by decide +kernel
theorem dX9_ahead_17 : decode cX9_ahead 17 = .ok (.iadd, 1) := by decide +kernel
theorem dX9_ahead_18 : decode cX9_ahead 18 = .ok (.ireturn, 1) := by decide +kernel
theorem dX9_speedOf_0 : decode cX9_speedOf 0 = .ok (.iload_n 2, 1) := by decide +kernel
theorem dX9_speedOf_1 : decode cX9_speedOf 1 = .ok (.ifCond .ne 31, 3) := by decide +kernel
theorem dX9_speedOf_4 : decode cX9_speedOf 4 = .ok (.aload_n 0, 1) := by decide +kernel
theorem dX9_speedOf_5 : decode cX9_speedOf 5 = .ok (.getfield 13, 3) := by decide +kernel
theorem dX9_speedOf_8 : decode cX9_speedOf 8 = .ok (.aload_n 0, 1) := by decide +kernel
theorem dX9_speedOf_9 : decode cX9_speedOf 9 = .ok (.getfield 28, 3) := by decide +kernel
theorem dX9_speedOf_12 : decode cX9_speedOf 12 = .ok (.iload_n 1, 1) := by decide +kernel
theorem dX9_speedOf_13 : decode cX9_speedOf 13 = .ok (.iaload, 1) := by decide +kernel
theorem dX9_speedOf_14 : decode cX9_speedOf 14 = .ok (.iaload, 1) := by decide +kernel
theorem dX9_speedOf_15 : decode cX9_speedOf 15 = .ok (.aload_n 0, 1) := by decide +kernel
theorem dX9_speedOf_16 : decode cX9_speedOf 16 = .ok (.iload_n 1, 1) := by decide +kernel
theorem dX9_speedOf_17 : decode cX9_speedOf 17 = .ok (.invokevirtual 150, 3) := by decide +kernel
theorem dX9_speedOf_20 : decode cX9_speedOf 20 = .ok (.aload_n 0, 1) := by decide +kernel
theorem dX9_speedOf_21 : decode cX9_speedOf 21 = .ok (.getfield 34, 3) := by decide +kernel
theorem dX9_speedOf_24 : decode cX9_speedOf 24 = .ok (.iload_n 1, 1) := by decide +kernel
theorem dX9_speedOf_25 : decode cX9_speedOf 25 = .ok (.iaload, 1) := by decide +kernel
theorem dX9_speedOf_26 : decode cX9_speedOf 26 = .ok (.invokestatic 153, 3) := by decide +kernel
theorem dX9_speedOf_29 : decode cX9_speedOf 29 = .ok (.goto 28, 3) := by decide +kernel
theorem dX9_speedOf_32 : decode cX9_speedOf 32 = .ok (.aload_n 0, 1) := by decide +kernel
theorem dX9_speedOf_33 : decode cX9_speedOf 33 = .ok (.getfield 13, 3) := by decide +kernel
theorem dX9_speedOf_36 : decode cX9_speedOf 36 = .ok (.aload_n 0, 1) := by decide +kernel
theorem dX9_speedOf_37 : decode cX9_speedOf 37 = .ok (.getfield 28, 3) := by decide +kernel
theorem dX9_speedOf_40 : decode cX9_speedOf 40 = .ok (.iload_n 1, 1) := by decide +kernel
theorem dX9_speedOf_41 : decode cX9_speedOf 41 = .ok (.iaload, 1) := by decide +kernel
theorem dX9_speedOf_42 : decode cX9_speedOf 42 = .ok (.iaload, 1) := by decide +kernel
theorem dX9_speedOf_43 : decode cX9_speedOf 43 = .ok (.aload_n 0, 1) := by decide +kernel
theorem dX9_speedOf_44 : decode cX9_speedOf 44 = .ok (.iload_n 1, 1) := by decide +kernel
theorem dX9_speedOf_45 : decode cX9_speedOf 45 = .ok (.invokevirtual 150, 3) := by decide +kernel
theorem dX9_speedOf_48 : decode cX9_speedOf 48 = .ok (.aload_n 0, 1) := by decide +kernel
theorem dX9_speedOf_49 : decode cX9_speedOf 49 = .ok (.getfield 34, 3) := by decide +kernel
theorem dX9_speedOf_52 : decode cX9_speedOf 52 = .ok (.iload_n 1, 1) := by decide +kernel
theorem dX9_speedOf_53 : decode cX9_speedOf 53 = .ok (.iaload, 1) := by decide +kernel
theorem dX9_speedOf_54 : decode cX9_speedOf 54 = .ok (.invokestatic 157, 3) := by decide +kernel
theorem dX9_speedOf_57 : decode cX9_speedOf 57 = .ok (.lreturn, 1) := by decide +kernel
theorem dX9_about_0 : decode cX9_about 0 = .ok (.aload_n 0, 1) := by decide +kernel
theorem dX9_about_1 : decode cX9_about 1 = .ok (.iload_n 1, 1) := by decide +kernel
theorem dX9_about_2 : decode cX9_about 2 = .ok (.invokevirtual 131, 3) := by decide +kernel
theorem dX9_about_5 : decode cX9_about 5 = .ok (.ifCond .ne 5, 3) := by decide +kernel
theorem dX9_about_8 : decode cX9_about 8 = .ok (.iconst (-1), 1) := by decide +kernel
theorem dX9_about_9 : decode cX9_about 9 = .ok (.ireturn, 1) := by decide +kernel
theorem dX9_about_10 : decode cX9_about 10 = .ok (.iload_n 2, 1) := by decide +kernel
theorem dX9_about_11 : decode cX9_about 11 = .ok (.tableswitch 133 0 8 #[49, 56, 63, 70, 77, 83, 89, 97, 105], 49) := by decide +kernel
theorem dX9_about_60 : decode cX9_about 60 = .ok (.aload_n 0, 1) := by decide +kernel
theorem dX9_about_61 : decode cX9_about 61 = .ok (.getfield 28, 3) := by decide +kernel
theorem dX9_about_64 : decode cX9_about 64 = .ok (.iload_n 1, 1) := by decide +kernel
theorem dX9_about_65 : decode cX9_about 65 = .ok (.iaload, 1) := by decide +kernel
theorem dX9_about_66 : decode cX9_about 66 = .ok (.ireturn, 1) := by decide +kernel
theorem dX9_about_67 : decode cX9_about 67 = .ok (.aload_n 0, 1) := by decide +kernel
theorem dX9_about_68 : decode cX9_about 68 = .ok (.getfield 31, 3) := by decide +kernel
theorem dX9_about_71 : decode cX9_about 71 = .ok (.iload_n 1, 1) := by decide +kernel
theorem dX9_about_72 : decode cX9_about 72 = .ok (.iaload, 1) := by decide +kernel
theorem dX9_about_73 : decode cX9_about 73 = .ok (.ireturn, 1) := by decide +kernel
theorem dX9_about_74 : decode cX9_about 74 = .ok (.aload_n 0, 1) := by decide +kernel
theorem dX9_about_75 : decode cX9_about 75 = .ok (.getfield 34, 3) := by decide +kernel
theorem dX9_about_78 : decode cX9_about 78 = .ok (.iload_n 1, 1) := by decide +kernel
theorem dX9_about_79 : decode cX9_about 79 = .ok (.iaload, 1) := by decide +kernel
theorem dX9_about_80 : decode cX9_about 80 = .ok (.ireturn, 1) := by decide +kernel
theorem dX9_about_81 : decode cX9_about 81 = .ok (.aload_n 0, 1) := by decide +kernel
theorem dX9_about_82 : decode cX9_about 82 = .ok (.getfield 37, 3) := by decide +kernel
theorem dX9_about_85 : decode cX9_about 85 = .ok (.iload_n 1, 1) := by decide +kernel
theorem dX9_about_86 : decode cX9_about 86 = .ok (.iaload, 1) := by decide +kernel
theorem dX9_about_87 : decode cX9_about 87 = .ok (.ireturn, 1) := by decide +kernel
theorem dX9_about_88 : decode cX9_about 88 = .ok (.aload_n 0, 1) := by decide +kernel
theorem dX9_about_89 : decode cX9_about 89 = .ok (.iload_n 1, 1) := by decide +kernel
theorem dX9_about_90 : decode cX9_about 90 = .ok (.invokevirtual 144, 3) := by decide +kernel
theorem dX9_about_93 : decode cX9_about 93 = .ok (.ireturn, 1) := by decide +kernel
theorem dX9_about_94 : decode cX9_about 94 = .ok (.aload_n 0, 1) := by decide +kernel
theorem dX9_about_95 : decode cX9_about 95 = .ok (.iload_n 1, 1) := by decide +kernel
theorem dX9_about_96 : decode cX9_about 96 = .ok (.invokevirtual 150, 3) := by decide +kernel
theorem dX9_about_99 : decode cX9_about 99 = .ok (.ireturn, 1) := by decide +kernel
theorem dX9_about_100 : decode cX9_about 100 = .ok (.aload_n 0, 1) := by decide +kernel
theorem dX9_about_101 : decode cX9_about 101 = .ok (.iload_n 1, 1) := by decide +kernel
theorem dX9_about_102 : decode cX9_about 102 = .ok (.iconst 0, 1) := by decide +kernel
theorem dX9_about_103 : decode cX9_about 103 = .ok (.invokevirtual 160, 3) := by decide +kernel
theorem dX9_about_106 : decode cX9_about 106 = .ok (.l2i, 1) := by decide +kernel
theorem dX9_about_107 : decode cX9_about 107 = .ok (.ireturn, 1) := by decide +kernel
theorem dX9_about_108 : decode cX9_about 108 = .ok (.aload_n 0, 1) := by decide +kernel
theorem dX9_about_109 : decode cX9_about 109 = .ok (.iload_n 1, 1) := by decide +kernel
theorem dX9_about_110 : decode cX9_about 110 = .ok (.iconst 1, 1) := by decide +kernel
theorem dX9_about_111 : decode cX9_about 111 = .ok (.invokevirtual 160, 3) := by decide +kernel
theorem dX9_about_114 : decode cX9_about 114 = .ok (.l2i, 1) := by decide +kernel
theorem dX9_about_115 : decode cX9_about 115 = .ok (.ireturn, 1) := by decide +kernel
theorem dX9_about_116 : decode cX9_about 116 = .ok (.bipush 100, 2) := by decide +kernel
theorem dX9_about_118 : decode cX9_about 118 = .ok (.aload_n 0, 1) := by decide +kernel
theorem dX9_about_119 : decode cX9_about 119 = .ok (.getfield 7, 3) := by decide +kernel
theorem dX9_about_122 : decode cX9_about 122 = .ok (.aload_n 0, 1) := by decide +kernel
theorem dX9_about_123 : decode cX9_about 123 = .ok (.getfield 28, 3) := by decide +kernel
theorem dX9_about_126 : decode cX9_about 126 = .ok (.iload_n 1, 1) := by decide +kernel
theorem dX9_about_127 : decode cX9_about 127 = .ok (.iaload, 1) := by decide +kernel
theorem dX9_about_128 : decode cX9_about 128 = .ok (.iaload, 1) := by decide +kernel
theorem dX9_about_129 : decode cX9_about 129 = .ok (.imul, 1) := by decide +kernel
theorem dX9_about_130 : decode cX9_about 130 = .ok (.aload_n 0, 1) := by decide +kernel
theorem dX9_about_131 : decode cX9_about 131 = .ok (.getfield 31, 3) := by decide +kernel
theorem dX9_about_134 : decode cX9_about 134 = .ok (.iload_n 1, 1) := by decide +kernel
theorem dX9_about_135 : decode cX9_about 135 = .ok (.iaload, 1) := by decide +kernel
theorem dX9_about_136 : decode cX9_about 136 = .ok (.imul, 1) := by decide +kernel
theorem dX9_about_137 : decode cX9_about 137 = .ok (.aload_n 0, 1) := by decide +kernel
theorem dX9_about_138 : decode cX9_about 138 = .ok (.iload_n 1, 1) := by decide +kernel
theorem dX9_about_139 : decode cX9_about 139 = .ok (.invokevirtual 150, 3) := by decide +kernel
theorem dX9_about_142 : decode cX9_about 142 = .ok (.idiv, 1) := by decide +kernel
theorem dX9_about_143 : decode cX9_about 143 = .ok (.ireturn, 1) := by decide +kernel
theorem dX9_about_144 : decode cX9_about 144 = .ok (.iconst (-1), 1) := by decide +kernel
theorem dX9_about_145 : decode cX9_about 145 = .ok (.ireturn, 1) := by decide +kernel
theorem dX9_speedOfAll_0 : decode cX9_speedOfAll 0 = .ok (.lconst 0, 1) := by decide +kernel
theorem dX9_speedOfAll_1 : decode cX9_speedOfAll 1 = .ok (.lstore_n 2, 1) := by decide +kernel
theorem dX9_speedOfAll_2 : decode cX9_speedOfAll 2 = .ok (.iconst 0, 1) := by decide +kernel
theorem dX9_speedOfAll_3 : decode cX9_speedOfAll 3 = .ok (.istore 4, 2) := by decide +kernel
theorem dX9_speedOfAll_5 : decode cX9_speedOfAll 5 = .ok (.iload 4, 2) := by decide +kernel
theorem dX9_speedOfAll_7 : decode cX9_speedOfAll 7 = .ok (.aload_n 0, 1) := by decide +kernel
theorem dX9_speedOfAll_8 : decode cX9_speedOfAll 8 = .ok (.getfield 110, 3) := by decide +kernel
theorem dX9_speedOfAll_11 : decode cX9_speedOfAll 11 = .ok (.if_icmp .ge 19, 3) := by decide +kernel
theorem dX9_speedOfAll_14 : decode cX9_speedOfAll 14 = .ok (.lload_n 2, 1) := by decide +kernel
theorem dX9_speedOfAll_15 : decode cX9_speedOfAll 15 = .ok (.aload_n 0, 1) := by decide +kernel
theorem dX9_speedOfAll_16 : decode cX9_speedOfAll 16 = .ok (.iload 4, 2) := by decide +kernel
theorem dX9_speedOfAll_18 : decode cX9_speedOfAll 18 = .ok (.iload_n 1, 1) := by decide +kernel
theorem dX9_speedOfAll_19 : decode cX9_speedOfAll 19 = .ok (.invokevirtual 160, 3) := by decide +kernel
theorem dX9_speedOfAll_22 : decode cX9_speedOfAll 22 = .ok (.ladd, 1) := by decide +kernel
theorem dX9_speedOfAll_23 : decode cX9_speedOfAll 23 = .ok (.lstore_n 2, 1) := by decide +kernel
theorem dX9_speedOfAll_24 : decode cX9_speedOfAll 24 = .ok (.iinc 4 1, 3) := by decide +kernel
theorem dX9_speedOfAll_27 : decode cX9_speedOfAll 27 = .ok (.goto (-22), 3) := by decide +kernel
theorem dX9_speedOfAll_30 : decode cX9_speedOfAll 30 = .ok (.lload_n 2, 1) := by decide +kernel
theorem dX9_speedOfAll_31 : decode cX9_speedOfAll 31 = .ok (.lreturn, 1) := by decide +kernel
theorem dX9_speed_0 : decode cX9_speed 0 = .ok (.iload_n 1, 1) := by decide +kernel
theorem dX9_speed_1 : decode cX9_speed 1 = .ok (.i2l, 1) := by decide +kernel
theorem dX9_speed_2 : decode cX9_speed 2 = .ok (.lconst 0, 1) := by decide +kernel
theorem dX9_speed_3 : decode cX9_speed 3 = .ok (.lconst 1, 1) := by decide +kernel
theorem dX9_speed_4 : decode cX9_speed 4 = .ok (.invokestatic 115, 3) := by decide +kernel
theorem dX9_speed_7 : decode cX9_speed 7 = .ok (.ifCond .eq 12, 3) := by decide +kernel
theorem dX9_speed_10 : decode cX9_speed 10 = .ok (.aload_n 0, 1) := by decide +kernel
theorem dX9_speed_11 : decode cX9_speed 11 = .ok (.iload_n 1, 1) := by decide +kernel
theorem dX9_speed_12 : decode cX9_speed 12 = .ok (.invokevirtual 164, 3) := by decide +kernel
theorem dX9_speed_15 : decode cX9_speed 15 = .ok (.l2i, 1) := by decide +kernel
theorem dX9_speed_16 : decode cX9_speed 16 = .ok (.goto 4, 3) := by decide +kernel
theorem dX9_speed_19 : decode cX9_speed 19 = .ok (.iconst (-1), 1) := by decide +kernel
theorem dX9_speed_20 : decode cX9_speed 20 = .ok (.ireturn, 1) := by decide +kernel
theorem dX9_next_0 : decode cX9_next 0 = .ok (.aload_n 0, 1) := by decide +kernel
theorem dX9_next_1 : decode cX9_next 1 = .ok (.getfield 110, 3) := by decide +kernel
theorem dX9_next_4 : decode cX9_next 4 = .ok (.iconst 1, 1) := by decide +kernel
theorem dX9_next_5 : decode cX9_next 5 = .ok (.isub, 1) := by decide +kernel
theorem dX9_next_6 : decode cX9_next 6 = .ok (.istore_n 2, 1) := by decide +kernel
theorem dX9_next_7 : decode cX9_next 7 = .ok (.iload_n 2, 1) := by decide +kernel
theorem dX9_next_8 : decode cX9_next 8 = .ok (.iconst 1, 1) := by decide +kernel
theorem dX9_next_9 : decode cX9_next 9 = .ok (.isub, 1) := by decide +kernel
theorem dX9_next_10 : decode cX9_next 10 = .ok (.istore_n 3, 1) := by decide +kernel
theorem dX9_next_11 : decode cX9_next 11 = .ok (.iload_n 3, 1) := by decide +kernel
theorem dX9_next_12 : decode cX9_next 12 = .ok (.ifCond .lt 37, 3) := by decide +kernel
theorem dX9_next_15 : decode cX9_next 15 = .ok (.aload_n 0, 1) := by decide +kernel
theorem dX9_next_16 : decode cX9_next 16 = .ok (.getfield 59, 3) := by decide +kernel
theorem dX9_next_19 : decode cX9_next 19 = .ok (.iload_n 2, 1) := by decide +kernel
theorem dX9_next_20 : decode cX9_next 20 = .ok (.iaload, 1) := by decide +kernel
theorem dX9_next_21 : decode cX9_next 21 = .ok (.ifCond .ne 28, 3) := by decide +kernel
theorem dX9_next_24 : decode cX9_next 24 = .ok (.aload_n 0, 1) := by decide +kernel
theorem dX9_next_25 : decode cX9_next 25 = .ok (.getfield 59, 3) := by decide +kernel
theorem dX9_next_28 : decode cX9_next 28 = .ok (.iload_n 2, 1) := by decide +kernel
theorem dX9_next_29 : decode cX9_next 29 = .ok (.aload_n 0, 1) := by decide +kernel
theorem dX9_next_30 : decode cX9_next 30 = .ok (.getfield 59, 3) := by decide +kernel
theorem dX9_next_33 : decode cX9_next 33 = .ok (.iload_n 3, 1) := by decide +kernel
theorem dX9_next_34 : decode cX9_next 34 = .ok (.iaload, 1) := by decide +kernel
theorem dX9_next_35 : decode cX9_next 35 = .ok (.iastore, 1) := by decide +kernel
theorem dX9_next_36 : decode cX9_next 36 = .ok (.aload_n 0, 1) := by decide +kernel
theorem dX9_next_37 : decode cX9_next 37 = .ok (.getfield 59, 3) := by decide +kernel
theorem dX9_next_40 : decode cX9_next 40 = .ok (.iload_n 3, 1) := by decide +kernel
theorem dX9_next_41 : decode cX9_next 41 = .ok (.iconst 0, 1) := by decide +kernel
theorem dX9_next_42 : decode cX9_next 42 = .ok (.iastore, 1) := by decide +kernel
theorem dX9_next_43 : decode cX9_next 43 = .ok (.iinc 3 (-1), 3) := by decide +kernel
theorem dX9_next_46 : decode cX9_next 46 = .ok (.goto (-35), 3) := by decide +kernel
theorem dX9_next_49 : decode cX9_next 49 = .ok (.iload_n 3, 1) := by decide +kernel
theorem dX9_next_50 : decode cX9_next 50 = .ok (.ifCond .ge 5, 3) := by decide +kernel
theorem dX9_next_53 : decode cX9_next 53 = .ok (.iconst 0, 1) := by decide +kernel
theorem dX9_next_54 : decode cX9_next 54 = .ok (.ireturn, 1) := by decide +kernel
theorem dX9_next_55 : decode cX9_next 55 = .ok (.aload_n 0, 1) := by decide +kernel
theorem dX9_next_56 : decode cX9_next 56 = .ok (.getfield 59, 3) := by decide +kernel
theorem dX9_next_59 : decode cX9_next 59 = .ok (.iload_n 3, 1) := by decide +kernel
theorem dX9_next_60 : decode cX9_next 60 = .ok (.dup2, 1) := by decide +kernel
theorem dX9_next_61 : decode cX9_next 61 = .ok (.iaload, 1) := by decide +kernel
theorem dX9_next_62 : decode cX9_next 62 = .ok (.iconst 1, 1) := by decide +kernel
theorem dX9_next_63 : decode cX9_next 63 = .ok (.iadd, 1) := by decide +kernel
theorem dX9_next_64 : decode cX9_next 64 = .ok (.iastore, 1) := by decide +kernel
theorem dX9_next_65 : decode cX9_next 65 = .ok (.aload_n 0, 1) := by decide +kernel
theorem dX9_next_66 : decode cX9_next 66 = .ok (.getfield 59, 3) := by decide +kernel
theorem dX9_next_69 : decode cX9_next 69 = .ok (.iload_n 2, 1) := by decide +kernel
theorem dX9_next_70 : decode cX9_next 70 = .ok (.dup2, 1) := by decide +kernel
theorem dX9_next_71 : decode cX9_next 71 = .ok (.iaload, 1) := by decide +kernel
theorem dX9_next_72 : decode cX9_next 72 = .ok (.iconst 1, 1) := by decide +kernel
theorem dX9_next_73 : decode cX9_next 73 = .ok (.isub, 1) := by decide +kernel
theorem dX9_next_74 : decode cX9_next 74 = .ok (.iastore, 1) := by decide +kernel
theorem dX9_next_75 : decode cX9_next 75 = .ok (.iconst 1, 1) := by decide +kernel
theorem dX9_next_76 : decode cX9_next 76 = .ok (.ireturn, 1) := by decide +kernel
theorem dX9_split_0 : decode cX9_split 0 = .ok (.iload_n 1, 1) := by decide +kernel
theorem dX9_split_1 : decode cX9_split 1 = .ok (.i2l, 1) := by decide +kernel
theorem dX9_split_2 : decode cX9_split 2 = .ok (.lconst 0, 1) := by decide +kernel
theorem dX9_split_3 : decode cX9_split 3 = .ok (.ldc2_w 168, 3) := by decide +kernel
theorem dX9_split_6 : decode cX9_split 6 = .ok (.invokestatic 115, 3) := by decide +kernel
theorem dX9_split_9 : decode cX9_split 9 = .ok (.ifCond .eq 15, 3) := by decide +kernel
theorem dX9_split_12 : decode cX9_split 12 = .ok (.iload_n 2, 1) := by decide +kernel
theorem dX9_split_13 : decode cX9_split 13 = .ok (.i2l, 1) := by decide +kernel
theorem dX9_split_14 : decode cX9_split 14 = .ok (.lconst 1, 1) := by decide +kernel
theorem dX9_split_15 : decode cX9_split 15 = .ok (.ldc2_w 170, 3) := by decide +kernel
theorem dX9_split_18 : decode cX9_split 18 = .ok (.invokestatic 115, 3) := by decide +kernel
theorem dX9_split_21 : decode cX9_split 21 = .ok (.ifCond .ne 6, 3) := by decide +kernel
theorem dX9_split_24 : decode cX9_split 24 = .ok (.bipush (-2), 2) := by decide +kernel
theorem dX9_split_26 : decode cX9_split 26 = .ok (.ireturn, 1) := by decide +kernel
theorem dX9_split_27 : decode cX9_split 27 = .ok (.aload_n 0, 1) := by decide +kernel
theorem dX9_split_28 : decode cX9_split 28 = .ok (.getfield 110, 3) := by decide +kernel
theorem dX9_split_31 : decode cX9_split 31 = .ok (.ifCond .ne 6, 3) := by decide +kernel
theorem dX9_split_34 : decode cX9_split 34 = .ok (.bipush (-3), 2) := by decide +kernel
theorem dX9_split_36 : decode cX9_split 36 = .ok (.ireturn, 1) := by decide +kernel
theorem dX9_split_37 : decode cX9_split 37 = .ok (.iconst 0, 1) := by decide +kernel
theorem dX9_split_38 : decode cX9_split 38 = .ok (.istore_n 3, 1) := by decide +kernel
theorem dX9_split_39 : decode cX9_split 39 = .ok (.iload_n 3, 1) := by decide +kernel
theorem dX9_split_40 : decode cX9_split 40 = .ok (.aload_n 0, 1) := by decide +kernel
theorem dX9_split_41 : decode cX9_split 41 = .ok (.getfield 110, 3) := by decide +kernel
theorem dX9_split_44 : decode cX9_split 44 = .ok (.if_icmp .ge 42, 3) := by decide +kernel
theorem dX9_split_47 : decode cX9_split 47 = .ok (.aload_n 0, 1) := by decide +kernel
theorem dX9_split_48 : decode cX9_split 48 = .ok (.getfield 56, 3) := by decide +kernel
theorem dX9_split_51 : decode cX9_split 51 = .ok (.iload_n 3, 1) := by decide +kernel
theorem dX9_split_52 : decode cX9_split 52 = .ok (.aload_n 0, 1) := by decide +kernel
theorem dX9_split_53 : decode cX9_split 53 = .ok (.getfield 34, 3) := by decide +kernel
theorem dX9_split_56 : decode cX9_split 56 = .ok (.iload_n 3, 1) := by decide +kernel
theorem dX9_split_57 : decode cX9_split 57 = .ok (.iaload, 1) := by decide +kernel
theorem dX9_split_58 : decode cX9_split 58 = .ok (.iastore, 1) := by decide +kernel
theorem dX9_split_59 : decode cX9_split 59 = .ok (.aload_n 0, 1) := by decide +kernel
theorem dX9_split_60 : decode cX9_split 60 = .ok (.getfield 59, 3) := by decide +kernel
theorem dX9_split_63 : decode cX9_split 63 = .ok (.iload_n 3, 1) := by decide +kernel
theorem dX9_split_64 : decode cX9_split 64 = .ok (.iload_n 3, 1) := by decide +kernel
theorem dX9_split_65 : decode cX9_split 65 = .ok (.aload_n 0, 1) := by decide +kernel
theorem dX9_split_66 : decode cX9_split 66 = .ok (.getfield 110, 3) := by decide +kernel
theorem dX9_split_69 : decode cX9_split 69 = .ok (.iconst 1, 1) := by decide +kernel
theorem dX9_split_70 : decode cX9_split 70 = .ok (.isub, 1) := by decide +kernel
theorem dX9_split_71 : decode cX9_split 71 = .ok (.if_icmp .ne 7, 3) := by decide +kernel
theorem dX9_split_74 : decode cX9_split 74 = .ok (.iload_n 1, 1) := by decide +kernel
theorem dX9_split_75 : decode cX9_split 75 = .ok (.goto 4, 3) := by decide +kernel
theorem dX9_split_78 : decode cX9_split 78 = .ok (.iconst 0, 1) := by decide +kernel
theorem dX9_split_79 : decode cX9_split 79 = .ok (.iastore, 1) := by decide +kernel
theorem dX9_split_80 : decode cX9_split 80 = .ok (.iinc 3 1, 3) := by decide +kernel
theorem dX9_split_83 : decode cX9_split 83 = .ok (.goto (-44), 3) := by decide +kernel
theorem dX9_split_86 : decode cX9_split 86 = .ok (.ldc2_w 172, 3) := by decide +kernel
theorem dX9_split_89 : decode cX9_split 89 = .ok (.lstore_n 3, 1) := by decide +kernel
theorem dX9_split_90 : decode cX9_split 90 = .ok (.iconst 1, 1) := by decide +kernel
theorem dX9_split_91 : decode cX9_split 91 = .ok (.istore 5, 2) := by decide +kernel
theorem dX9_split_93 : decode cX9_split 93 = .ok (.iload 5, 2) := by decide +kernel
theorem dX9_split_95 : decode cX9_split 95 = .ok (.ifCond .eq 96, 3) := by decide +kernel
theorem dX9_split_98 : decode cX9_split 98 = .ok (.iconst 0, 1) := by decide +kernel
theorem dX9_split_99 : decode cX9_split 99 = .ok (.istore 6, 2) := by decide +kernel
theorem dX9_split_101 : decode cX9_split 101 = .ok (.iload 6, 2) := by decide +kernel
theorem dX9_split_103 : decode cX9_split 103 = .ok (.aload_n 0, 1) := by decide +kernel
theorem dX9_split_104 : decode cX9_split 104 = .ok (.getfield 110, 3) := by decide +kernel
theorem dX9_split_107 : decode cX9_split 107 = .ok (.if_icmp .ge 25, 3) := by decide +kernel
theorem dX9_split_110 : decode cX9_split 110 = .ok (.aload_n 0, 1) := by decide +kernel
theorem dX9_split_111 : decode cX9_split 111 = .ok (.getfield 34, 3) := by decide +kernel
theorem dX9_split_114 : decode cX9_split 114 = .ok (.iload 6, 2) := by decide +kernel
theorem dX9_split_116 : decode cX9_split 116 = .ok (.aload_n 0, 1) := by decide +kernel
theorem dX9_split_117 : decode cX9_split 117 = .ok (.getfield 59, 3) := by decide +kernel
theorem dX9_split_120 : decode cX9_split 120 = .ok (.iload 6, 2) := by decide +kernel
theorem dX9_split_122 : decode cX9_split 122 = .ok (.iaload, 1) := by decide +kernel
theorem dX9_split_123 : decode cX9_split 123 = .ok (.iload_n 2, 1) := by decide +kernel
theorem dX9_split_124 : decode cX9_split 124 = .ok (.imul, 1) := by decide +kernel
theorem dX9_split_125 : decode cX9_split 125 = .ok (.iastore, 1) := by decide +kernel
theorem dX9_split_126 : decode cX9_split 126 = .ok (.iinc 6 1, 3) := by decide +kernel
theorem dX9_split_129 : decode cX9_split 129 = .ok (.goto (-28), 3) := by decide +kernel
theorem dX9_split_132 : decode cX9_split 132 = .ok (.aload_n 0, 1) := by decide +kernel
theorem dX9_split_133 : decode cX9_split 133 = .ok (.iconst 0, 1) := by decide +kernel
theorem dX9_split_134 : decode cX9_split 134 = .ok (.invokevirtual 164, 3) := by decide +kernel
theorem dX9_split_137 : decode cX9_split 137 = .ok (.lstore 6, 2) := by decide +kernel
theorem dX9_split_139 : decode cX9_split 139 = .ok (.lload 6, 2) := by decide +kernel
theorem dX9_split_141 : decode cX9_split 141 = .ok (.lload_n 3, 1) := by decide +kernel
theorem dX9_split_142 : decode cX9_split 142 = .ok (.lcmp, 1) := by decide +kernel
theorem dX9_split_143 : decode cX9_split 143 = .ok (.ifCond .le 38, 3) := by decide +kernel
theorem dX9_split_146 : decode cX9_split 146 = .ok (.lload 6, 2) := by decide +kernel
theorem dX9_split_148 : decode cX9_split 148 = .ok (.lstore_n 3, 1) := by decide +kernel
theorem dX9_split_149 : decode cX9_split 149 = .ok (.iconst 0, 1) := by decide +kernel
theorem dX9_split_150 : decode cX9_split 150 = .ok (.istore 8, 2) := by decide +kernel
theorem dX9_split_152 : decode cX9_split 152 = .ok (.iload 8, 2) := by decide +kernel
theorem dX9_split_154 : decode cX9_split 154 = .ok (.aload_n 0, 1) := by decide +kernel
theorem dX9_split_155 : decode cX9_split 155 = .ok (.getfield 110, 3) := by decide +kernel
theorem dX9_split_158 : decode cX9_split 158 = .ok (.if_icmp .ge 23, 3) := by decide +kernel
theorem dX9_split_161 : decode cX9_split 161 = .ok (.aload_n 0, 1) := by decide +kernel
theorem dX9_split_162 : decode cX9_split 162 = .ok (.getfield 62, 3) := by decide +kernel
theorem dX9_split_165 : decode cX9_split 165 = .ok (.iload 8, 2) := by decide +kernel
theorem dX9_split_167 : decode cX9_split 167 = .ok (.aload_n 0, 1) := by decide +kernel
theorem dX9_split_168 : decode cX9_split 168 = .ok (.getfield 59, 3) := by decide +kernel
theorem dX9_split_171 : decode cX9_split 171 = .ok (.iload 8, 2) := by decide +kernel
theorem dX9_split_173 : decode cX9_split 173 = .ok (.iaload, 1) := by decide +kernel
theorem dX9_split_174 : decode cX9_split 174 = .ok (.iastore, 1) := by decide +kernel
theorem dX9_split_175 : decode cX9_split 175 = .ok (.iinc 8 1, 3) := by decide +kernel
theorem dX9_split_178 : decode cX9_split 178 = .ok (.goto (-26), 3) := by decide +kernel
theorem dX9_split_181 : decode cX9_split 181 = .ok (.aload_n 0, 1) := by decide +kernel
theorem dX9_split_182 : decode cX9_split 182 = .ok (.iload_n 1, 1) := by decide +kernel
theorem dX9_split_183 : decode cX9_split 183 = .ok (.invokevirtual 174, 3) := by decide +kernel
theorem dX9_split_186 : decode cX9_split 186 = .ok (.istore 5, 2) := by decide +kernel
theorem dX9_split_188 : decode cX9_split 188 = .ok (.goto (-95), 3) := by decide +kernel
theorem dX9_split_191 : decode cX9_split 191 = .ok (.iconst 0, 1) := by decide +kernel
theorem dX9_split_192 : decode cX9_split 192 = .ok (.istore 6, 2) := by decide +kernel
theorem dX9_split_194 : decode cX9_split 194 = .ok (.iload 6, 2) := by decide +kernel
theorem dX9_split_196 : decode cX9_split 196 = .ok (.aload_n 0, 1) := by decide +kernel
theorem dX9_split_197 : decode cX9_split 197 = .ok (.getfield 110, 3) := by decide +kernel
theorem dX9_split_200 : decode cX9_split 200 = .ok (.if_icmp .ge 23, 3) := by decide +kernel
theorem dX9_split_203 : decode cX9_split 203 = .ok (.aload_n 0, 1) := by decide +kernel
theorem dX9_split_204 : decode cX9_split 204 = .ok (.getfield 34, 3) := by decide +kernel
theorem dX9_split_207 : decode cX9_split 207 = .ok (.iload 6, 2) := by decide +kernel
theorem dX9_split_209 : decode cX9_split 209 = .ok (.aload_n 0, 1) := by decide +kernel
theorem dX9_split_210 : decode cX9_split 210 = .ok (.getfield 56, 3) := by decide +kernel
theorem dX9_split_213 : decode cX9_split 213 = .ok (.iload 6, 2) := by decide +kernel
theorem dX9_split_215 : decode cX9_split 215 = .ok (.iaload, 1) := by decide +kernel
theorem dX9_split_216 : decode cX9_split 216 = .ok (.iastore, 1) := by decide +kernel
theorem dX9_split_217 : decode cX9_split 217 = .ok (.iinc 6 1, 3) := by decide +kernel
theorem dX9_split_220 : decode cX9_split 220 = .ok (.goto (-26), 3) := by decide +kernel
theorem dX9_split_223 : decode cX9_split 223 = .ok (.aload_n 0, 1) := by decide +kernel
theorem dX9_split_224 : decode cX9_split 224 = .ok (.aload_n 0, 1) := by decide +kernel
theorem dX9_split_225 : decode cX9_split 225 = .ok (.getfield 110, 3) := by decide +kernel
theorem dX9_split_228 : decode cX9_split 228 = .ok (.putfield 177, 3) := by decide +kernel
theorem dX9_split_231 : decode cX9_split 231 = .ok (.lload_n 3, 1) := by decide +kernel
theorem dX9_split_232 : decode cX9_split 232 = .ok (.l2i, 1) := by decide +kernel
theorem dX9_split_233 : decode cX9_split 233 = .ok (.ireturn, 1) := by decide +kernel
theorem dX9_lots_0 : decode cX9_lots 0 = .ok (.iload_n 1, 1) := by decide +kernel
theorem dX9_lots_1 : decode cX9_lots 1 = .ok (.i2l, 1) := by decide +kernel
theorem dX9_lots_2 : decode cX9_lots 2 = .ok (.lconst 0, 1) := by decide +kernel
theorem dX9_lots_3 : decode cX9_lots 3 = .ok (.aload_n 0, 1) := by decide +kernel
theorem dX9_lots_4 : decode cX9_lots 4 = .ok (.getfield 177, 3) := by decide +kernel
theorem dX9_lots_7 : decode cX9_lots 7 = .ok (.iconst 1, 1) := by decide +kernel
theorem dX9_lots_8 : decode cX9_lots 8 = .ok (.isub, 1) := by decide +kernel
theorem dX9_lots_9 : decode cX9_lots 9 = .ok (.i2l, 1) := by decide +kernel
theorem dX9_lots_10 : decode cX9_lots 10 = .ok (.invokestatic 115, 3) := by decide +kernel
theorem dX9_lots_13 : decode cX9_lots 13 = .ok (.ifCond .eq 12, 3) := by decide +kernel
theorem dX9_lots_16 : decode cX9_lots 16 = .ok (.aload_n 0, 1) := by decide +kernel
theorem dX9_lots_17 : decode cX9_lots 17 = .ok (.getfield 62, 3) := by decide +kernel
theorem dX9_lots_20 : decode cX9_lots 20 = .ok (.iload_n 1, 1) := by decide +kernel
theorem dX9_lots_21 : decode cX9_lots 21 = .ok (.iaload, 1) := by decide +kernel
theorem dX9_lots_22 : decode cX9_lots 22 = .ok (.goto 4, 3) := by decide +kernel
theorem dX9_lots_25 : decode cX9_lots 25 = .ok (.iconst (-1), 1) := by decide +kernel
theorem dX9_lots_26 : decode cX9_lots 26 = .ok (.ireturn, 1) := by decide +kernel
theorem dX9_puts_0 : decode cX9_puts 0 = .ok (.aload_n 0, 1) := by decide +kernel
theorem dX9_puts_1 : decode cX9_puts 1 = .ok (.getfield 68, 3) := by decide +kernel
theorem dX9_puts_4 : decode cX9_puts 4 = .ok (.iload_n 1, 1) := by decide +kernel
theorem dX9_puts_5 : decode cX9_puts 5 = .ok (.iaload, 1) := by decide +kernel
theorem dX9_puts_6 : decode cX9_puts 6 = .ok (.iconst 3, 1) := by decide +kernel
theorem dX9_puts_7 : decode cX9_puts 7 = .ok (.idiv, 1) := by decide +kernel
theorem dX9_puts_8 : decode cX9_puts 8 = .ok (.istore_n 3, 1) := by decide +kernel
theorem dX9_puts_9 : decode cX9_puts 9 = .ok (.aload_n 0, 1) := by decide +kernel
theorem dX9_puts_10 : decode cX9_puts 10 = .ok (.getfield 68, 3) := by decide +kernel
theorem dX9_puts_13 : decode cX9_puts 13 = .ok (.iload_n 1, 1) := by decide +kernel
theorem dX9_puts_14 : decode cX9_puts 14 = .ok (.iaload, 1) := by decide +kernel
theorem dX9_puts_15 : decode cX9_puts 15 = .ok (.iconst 3, 1) := by decide +kernel
theorem dX9_puts_16 : decode cX9_puts 16 = .ok (.irem, 1) := by decide +kernel
theorem dX9_puts_17 : decode cX9_puts 17 = .ok (.iconst 1, 1) := by decide +kernel
theorem dX9_puts_18 : decode cX9_puts 18 = .ok (.iadd, 1) := by decide +kernel
theorem dX9_puts_19 : decode cX9_puts 19 = .ok (.istore 4, 2) := by decide +kernel
theorem dX9_puts_21 : decode cX9_puts 21 = .ok (.aload_n 0, 1) := by decide +kernel
theorem dX9_puts_22 : decode cX9_puts 22 = .ok (.getfield 75, 3) := by decide +kernel
theorem dX9_puts_25 : decode cX9_puts 25 = .ok (.iload_n 1, 1) := by decide +kernel
theorem dX9_puts_26 : decode cX9_puts 26 = .ok (.iconst 1, 1) := by decide +kernel
theorem dX9_puts_27 : decode cX9_puts 27 = .ok (.iadd, 1) := by decide +kernel
theorem dX9_puts_28 : decode cX9_puts 28 = .ok (.laload, 1) := by decide +kernel
theorem dX9_puts_29 : decode cX9_puts 29 = .ok (.l2i, 1) := by decide +kernel
theorem dX9_puts_30 : decode cX9_puts 30 = .ok (.aload_n 0, 1) := by decide +kernel
theorem dX9_puts_31 : decode cX9_puts 31 = .ok (.getfield 16, 3) := by decide +kernel
theorem dX9_puts_34 : decode cX9_puts 34 = .ok (.iload_n 3, 1) := by decide +kernel
theorem dX9_puts_35 : decode cX9_puts 35 = .ok (.iaload, 1) := by decide +kernel
theorem dX9_puts_36 : decode cX9_puts 36 = .ok (.iload 4, 2) := by decide +kernel
theorem dX9_puts_38 : decode cX9_puts 38 = .ok (.imul, 1) := by decide +kernel
theorem dX9_puts_39 : decode cX9_puts 39 = .ok (.iadd, 1) := by decide +kernel
theorem dX9_puts_40 : decode cX9_puts 40 = .ok (.aload_n 0, 1) := by decide +kernel
theorem dX9_puts_41 : decode cX9_puts 41 = .ok (.aload_n 0, 1) := by decide +kernel
theorem dX9_puts_42 : decode cX9_puts 42 = .ok (.getfield 34, 3) := by decide +kernel
theorem dX9_puts_45 : decode cX9_puts 45 = .ok (.iload_n 1, 1) := by decide +kernel
theorem dX9_puts_46 : decode cX9_puts 46 = .ok (.iaload, 1) := by decide +kernel
theorem dX9_puts_47 : decode cX9_puts 47 = .ok (.invokevirtual 140, 3) := by decide +kernel
theorem dX9_puts_50 : decode cX9_puts 50 = .ok (.iadd, 1) := by decide +kernel
theorem dX9_puts_51 : decode cX9_puts 51 = .ok (.aload_n 0, 1) := by decide +kernel
theorem dX9_puts_52 : decode cX9_puts 52 = .ok (.getfield 37, 3) := by decide +kernel
theorem dX9_puts_55 : decode cX9_puts 55 = .ok (.iload_n 1, 1) := by decide +kernel
theorem dX9_puts_56 : decode cX9_puts 56 = .ok (.iaload, 1) := by decide +kernel
theorem dX9_puts_57 : decode cX9_puts 57 = .ok (.iadd, 1) := by decide +kernel
theorem dX9_puts_58 : decode cX9_puts 58 = .ok (.aload_n 0, 1) := by decide +kernel
theorem dX9_puts_59 : decode cX9_puts 59 = .ok (.getfield 34, 3) := by decide +kernel
theorem dX9_puts_62 : decode cX9_puts 62 = .ok (.iload_n 1, 1) := by decide +kernel
theorem dX9_puts_63 : decode cX9_puts 63 = .ok (.iaload, 1) := by decide +kernel
theorem dX9_puts_64 : decode cX9_puts 64 = .ok (.iadd, 1) := by decide +kernel
theorem dX9_puts_65 : decode cX9_puts 65 = .ok (.istore 5, 2) := by decide +kernel
theorem dX9_puts_67 : decode cX9_puts 67 = .ok (.aload_n 0, 1) := by decide +kernel
theorem dX9_puts_68 : decode cX9_puts 68 = .ok (.getfield 75, 3) := by decide +kernel
theorem dX9_puts_71 : decode cX9_puts 71 = .ok (.iload_n 1, 1) := by decide +kernel
theorem dX9_puts_72 : decode cX9_puts 72 = .ok (.iload 5, 2) := by decide +kernel
theorem dX9_puts_74 : decode cX9_puts 74 = .ok (.i2l, 1) := by decide +kernel
theorem dX9_puts_75 : decode cX9_puts 75 = .ok (.lastore, 1) := by decide +kernel
theorem dX9_puts_76 : decode cX9_puts 76 = .ok (.aload_n 0, 1) := by decide +kernel
theorem dX9_puts_77 : decode cX9_puts 77 = .ok (.getfield 71, 3) := by decide +kernel
theorem dX9_puts_80 : decode cX9_puts 80 = .ok (.iload_n 1, 1) := by decide +kernel
theorem dX9_puts_81 : decode cX9_puts 81 = .ok (.aload_n 0, 1) := by decide +kernel
theorem dX9_puts_82 : decode cX9_puts 82 = .ok (.getfield 71, 3) := by decide +kernel
theorem dX9_puts_85 : decode cX9_puts 85 = .ok (.iload_n 1, 1) := by decide +kernel
theorem dX9_puts_86 : decode cX9_puts 86 = .ok (.iconst 1, 1) := by decide +kernel
theorem dX9_puts_87 : decode cX9_puts 87 = .ok (.iadd, 1) := by decide +kernel
theorem dX9_puts_88 : decode cX9_puts 88 = .ok (.laload, 1) := by decide +kernel
theorem dX9_puts_89 : decode cX9_puts 89 = .ok (.aload_n 0, 1) := by decide +kernel
theorem dX9_puts_90 : decode cX9_puts 90 = .ok (.getfield 13, 3) := by decide +kernel
theorem dX9_puts_93 : decode cX9_puts 93 = .ok (.iload_n 3, 1) := by decide +kernel
theorem dX9_puts_94 : decode cX9_puts 94 = .ok (.iaload, 1) := by decide +kernel
theorem dX9_puts_95 : decode cX9_puts 95 = .ok (.iload 5, 2) := by decide +kernel
theorem dX9_puts_97 : decode cX9_puts 97 = .ok (.aload_n 0, 1) := by decide +kernel
theorem dX9_puts_98 : decode cX9_puts 98 = .ok (.getfield 34, 3) := by decide +kernel
theorem dX9_puts_101 : decode cX9_puts 101 = .ok (.iload_n 1, 1) := by decide +kernel
theorem dX9_puts_102 : decode cX9_puts 102 = .ok (.iaload, 1) := by decide +kernel
theorem dX9_puts_103 : decode cX9_puts 103 = .ok (.invokestatic 153, 3) := by decide +kernel
theorem dX9_puts_106 : decode cX9_puts 106 = .ok (.ladd, 1) := by decide +kernel
theorem dX9_puts_107 : decode cX9_puts 107 = .ok (.lastore, 1) := by decide +kernel
theorem dX9_puts_108 : decode cX9_puts 108 = .ok (.aload_n 0, 1) := by decide +kernel
theorem dX9_puts_109 : decode cX9_puts 109 = .ok (.getfield 78, 3) := by decide +kernel
theorem dX9_puts_112 : decode cX9_puts 112 = .ok (.iload_n 1, 1) := by decide +kernel
theorem dX9_puts_113 : decode cX9_puts 113 = .ok (.aload_n 0, 1) := by decide +kernel
theorem dX9_puts_114 : decode cX9_puts 114 = .ok (.getfield 78, 3) := by decide +kernel
theorem dX9_puts_117 : decode cX9_puts 117 = .ok (.iload_n 1, 1) := by decide +kernel
theorem dX9_puts_118 : decode cX9_puts 118 = .ok (.iconst 1, 1) := by decide +kernel
theorem dX9_puts_119 : decode cX9_puts 119 = .ok (.iadd, 1) := by decide +kernel
theorem dX9_puts_120 : decode cX9_puts 120 = .ok (.laload, 1) := by decide +kernel
theorem dX9_puts_121 : decode cX9_puts 121 = .ok (.aload_n 0, 1) := by decide +kernel
theorem dX9_puts_122 : decode cX9_puts 122 = .ok (.getfield 19, 3) := by decide +kernel
theorem dX9_puts_125 : decode cX9_puts 125 = .ok (.iload_n 3, 1) := by decide +kernel
theorem dX9_puts_126 : decode cX9_puts 126 = .ok (.iaload, 1) := by decide +kernel
theorem dX9_puts_127 : decode cX9_puts 127 = .ok (.iload 4, 2) := by decide +kernel
theorem dX9_puts_129 : decode cX9_puts 129 = .ok (.imul, 1) := by decide +kernel
theorem dX9_puts_130 : decode cX9_puts 130 = .ok (.i2l, 1) := by decide +kernel
theorem dX9_puts_131 : decode cX9_puts 131 = .ok (.ladd, 1) := by decide +kernel
theorem dX9_puts_132 : decode cX9_puts 132 = .ok (.lastore, 1) := by decide +kernel
theorem dX9_puts_133 : decode cX9_puts 133 = .ok (.aload_n 0, 1) := by decide +kernel
theorem dX9_puts_134 : decode cX9_puts 134 = .ok (.getfield 81, 3) := by decide +kernel
theorem dX9_puts_137 : decode cX9_puts 137 = .ok (.iload_n 1, 1) := by decide +kernel
theorem dX9_puts_138 : decode cX9_puts 138 = .ok (.aload_n 0, 1) := by decide +kernel
theorem dX9_puts_139 : decode cX9_puts 139 = .ok (.getfield 81, 3) := by decide +kernel
theorem dX9_puts_142 : decode cX9_puts 142 = .ok (.iload_n 1, 1) := by decide +kernel
theorem dX9_puts_143 : decode cX9_puts 143 = .ok (.iconst 1, 1) := by decide +kernel
theorem dX9_puts_144 : decode cX9_puts 144 = .ok (.iadd, 1) := by decide +kernel
theorem dX9_puts_145 : decode cX9_puts 145 = .ok (.baload, 1) := by decide +kernel
theorem dX9_puts_146 : decode cX9_puts 146 = .ok (.ifCond .eq 26, 3) := by decide +kernel
theorem dX9_puts_149 : decode cX9_puts 149 = .ok (.bipush 100, 2) := by decide +kernel
theorem dX9_puts_151 : decode cX9_puts 151 = .ok (.aload_n 0, 1) := by decide +kernel
theorem dX9_puts_152 : decode cX9_puts 152 = .ok (.getfield 7, 3) := by decide +kernel
theorem dX9_puts_155 : decode cX9_puts 155 = .ok (.iload_n 3, 1) := by decide +kernel
theorem dX9_puts_156 : decode cX9_puts 156 = .ok (.iaload, 1) := by decide +kernel
theorem dX9_puts_157 : decode cX9_puts 157 = .ok (.imul, 1) := by decide +kernel
theorem dX9_puts_158 : decode cX9_puts 158 = .ok (.iload 4, 2) := by decide +kernel
theorem dX9_puts_160 : decode cX9_puts 160 = .ok (.imul, 1) := by decide +kernel
theorem dX9_puts_161 : decode cX9_puts 161 = .ok (.iload 5, 2) := by decide +kernel
theorem dX9_puts_163 : decode cX9_puts 163 = .ok (.idiv, 1) := by decide +kernel
theorem dX9_puts_164 : decode cX9_puts 164 = .ok (.iload_n 2, 1) := by decide +kernel
theorem dX9_puts_165 : decode cX9_puts 165 = .ok (.if_icmp .lt 7, 3) := by decide +kernel
theorem dX9_puts_168 : decode cX9_puts 168 = .ok (.iconst 1, 1) := by decide +kernel
theorem dX9_puts_169 : decode cX9_puts 169 = .ok (.goto 4, 3) := by decide +kernel
theorem dX9_puts_172 : decode cX9_puts 172 = .ok (.iconst 0, 1) := by decide +kernel
theorem dX9_puts_173 : decode cX9_puts 173 = .ok (.bastore, 1) := by decide +kernel
theorem dX9_puts_174 : decode cX9_puts 174 = .ok (.return_, 1) := by decide +kernel
theorem dX9_cheapest_0 : decode cX9_cheapest 0 = .ok (.iload_n 1, 1) := by decide +kernel
theorem dX9_cheapest_1 : decode cX9_cheapest 1 = .ok (.i2l, 1) := by decide +kernel
theorem dX9_cheapest_2 : decode cX9_cheapest 2 = .ok (.lconst 0, 1) := by decide +kernel
theorem dX9_cheapest_3 : decode cX9_cheapest 3 = .ok (.ldc2_w 180, 3) := by decide +kernel
theorem dX9_cheapest_6 : decode cX9_cheapest 6 = .ok (.invokestatic 115, 3) := by decide +kernel
theorem dX9_cheapest_9 : decode cX9_cheapest 9 = .ok (.ifCond .eq 15, 3) := by decide +kernel
theorem dX9_cheapest_12 : decode cX9_cheapest 12 = .ok (.iload_n 2, 1) := by decide +kernel
theorem dX9_cheapest_13 : decode cX9_cheapest 13 = .ok (.i2l, 1) := by decide +kernel
theorem dX9_cheapest_14 : decode cX9_cheapest 14 = .ok (.lconst 0, 1) := by decide +kernel
theorem dX9_cheapest_15 : decode cX9_cheapest 15 = .ok (.ldc2_w 182, 3) := by decide +kernel
theorem dX9_cheapest_18 : decode cX9_cheapest 18 = .ok (.invokestatic 115, 3) := by decide +kernel
theorem dX9_cheapest_21 : decode cX9_cheapest 21 = .ok (.ifCond .ne 6, 3) := by decide +kernel
theorem dX9_cheapest_24 : decode cX9_cheapest 24 = .ok (.bipush (-2), 2) := by decide +kernel
theorem dX9_cheapest_26 : decode cX9_cheapest 26 = .ok (.ireturn, 1) := by decide +kernel
theorem dX9_cheapest_27 : decode cX9_cheapest 27 = .ok (.aload_n 0, 1) := by decide +kernel
theorem dX9_cheapest_28 : decode cX9_cheapest 28 = .ok (.getfield 110, 3) := by decide +kernel
theorem dX9_cheapest_31 : decode cX9_cheapest 31 = .ok (.ifCond .eq 18, 3) := by decide +kernel
theorem dX9_cheapest_34 : decode cX9_cheapest 34 = .ok (.aload_n 0, 1) := by decide +kernel
theorem dX9_cheapest_35 : decode cX9_cheapest 35 = .ok (.getfield 107, 3) := by decide +kernel
theorem dX9_cheapest_38 : decode cX9_cheapest 38 = .ok (.ifCond .eq 11, 3) := by decide +kernel
theorem dX9_cheapest_41 : decode cX9_cheapest 41 = .ok (.aload_n 0, 1) := by decide +kernel
theorem dX9_cheapest_42 : decode cX9_cheapest 42 = .ok (.getfield 110, 3) := by decide +kernel
theorem dX9_cheapest_45 : decode cX9_cheapest 45 = .ok (.iconst 4, 1) := by decide +kernel
theorem dX9_cheapest_46 : decode cX9_cheapest 46 = .ok (.if_icmp .ne 6, 3) := by decide +kernel
theorem dX9_cheapest_49 : decode cX9_cheapest 49 = .ok (.bipush (-3), 2) := by decide +kernel
theorem dX9_cheapest_51 : decode cX9_cheapest 51 = .ok (.ireturn, 1) := by decide +kernel
theorem dX9_cheapest_52 : decode cX9_cheapest 52 = .ok (.iconst 3, 1) := by decide +kernel
theorem dX9_cheapest_53 : decode cX9_cheapest 53 = .ok (.aload_n 0, 1) := by decide +kernel
theorem dX9_cheapest_54 : decode cX9_cheapest 54 = .ok (.getfield 107, 3) := by decide +kernel
theorem dX9_cheapest_57 : decode cX9_cheapest 57 = .ok (.imul, 1) := by decide +kernel
theorem dX9_cheapest_58 : decode cX9_cheapest 58 = .ok (.istore_n 3, 1) := by decide +kernel
theorem dX9_cheapest_59 : decode cX9_cheapest 59 = .ok (.aload_n 0, 1) := by decide +kernel
theorem dX9_cheapest_60 : decode cX9_cheapest 60 = .ok (.getfield 75, 3) := by decide +kernel
theorem dX9_cheapest_63 : decode cX9_cheapest 63 = .ok (.aload_n 0, 1) := by decide +kernel
theorem dX9_cheapest_64 : decode cX9_cheapest 64 = .ok (.getfield 110, 3) := by decide +kernel
theorem dX9_cheapest_67 : decode cX9_cheapest 67 = .ok (.aload_n 0, 1) := by decide +kernel
theorem dX9_cheapest_68 : decode cX9_cheapest 68 = .ok (.getfield 46, 3) := by decide +kernel
theorem dX9_cheapest_71 : decode cX9_cheapest 71 = .ok (.i2l, 1) := by decide +kernel
theorem dX9_cheapest_72 : decode cX9_cheapest 72 = .ok (.lastore, 1) := by decide +kernel
theorem dX9_cheapest_73 : decode cX9_cheapest 73 = .ok (.aload_n 0, 1) := by decide +kernel
theorem dX9_cheapest_74 : decode cX9_cheapest 74 = .ok (.getfield 71, 3) := by decide +kernel
theorem dX9_cheapest_77 : decode cX9_cheapest 77 = .ok (.aload_n 0, 1) := by decide +kernel
theorem dX9_cheapest_78 : decode cX9_cheapest 78 = .ok (.getfield 110, 3) := by decide +kernel
theorem dX9_cheapest_81 : decode cX9_cheapest 81 = .ok (.lconst 0, 1) := by decide +kernel
theorem dX9_cheapest_82 : decode cX9_cheapest 82 = .ok (.lastore, 1) := by decide +kernel
theorem dX9_cheapest_83 : decode cX9_cheapest 83 = .ok (.aload_n 0, 1) := by decide +kernel
theorem dX9_cheapest_84 : decode cX9_cheapest 84 = .ok (.getfield 78, 3) := by decide +kernel
theorem dX9_cheapest_87 : decode cX9_cheapest 87 = .ok (.aload_n 0, 1) := by decide +kernel
theorem dX9_cheapest_88 : decode cX9_cheapest 88 = .ok (.getfield 110, 3) := by decide +kernel
theorem dX9_cheapest_91 : decode cX9_cheapest 91 = .ok (.lconst 0, 1) := by decide +kernel
theorem dX9_cheapest_92 : decode cX9_cheapest 92 = .ok (.lastore, 1) := by decide +kernel
theorem dX9_cheapest_93 : decode cX9_cheapest 93 = .ok (.aload_n 0, 1) := by decide +kernel
theorem dX9_cheapest_94 : decode cX9_cheapest 94 = .ok (.getfield 81, 3) := by decide +kernel
theorem dX9_cheapest_97 : decode cX9_cheapest 97 = .ok (.aload_n 0, 1) := by decide +kernel
theorem dX9_cheapest_98 : decode cX9_cheapest 98 = .ok (.getfield 110, 3) := by decide +kernel
theorem dX9_cheapest_101 : decode cX9_cheapest 101 = .ok (.iconst 1, 1) := by decide +kernel
theorem dX9_cheapest_102 : decode cX9_cheapest 102 = .ok (.bastore, 1) := by decide +kernel
theorem dX9_cheapest_103 : decode cX9_cheapest 103 = .ok (.iconst 0, 1) := by decide +kernel
theorem dX9_cheapest_104 : decode cX9_cheapest 104 = .ok (.istore 4, 2) := by decide +kernel
theorem dX9_cheapest_106 : decode cX9_cheapest 106 = .ok (.iload 4, 2) := by decide +kernel
theorem dX9_cheapest_108 : decode cX9_cheapest 108 = .ok (.aload_n 0, 1) := by decide +kernel
theorem dX9_cheapest_109 : decode cX9_cheapest 109 = .ok (.getfield 110, 3) := by decide +kernel
theorem dX9_cheapest_112 : decode cX9_cheapest 112 = .ok (.if_icmp .ge 17, 3) := by decide +kernel
theorem dX9_cheapest_115 : decode cX9_cheapest 115 = .ok (.aload_n 0, 1) := by decide +kernel
theorem dX9_cheapest_116 : decode cX9_cheapest 116 = .ok (.getfield 68, 3) := by decide +kernel
theorem dX9_cheapest_119 : decode cX9_cheapest 119 = .ok (.iload 4, 2) := by decide +kernel
theorem dX9_cheapest_121 : decode cX9_cheapest 121 = .ok (.iconst 0, 1) := by decide +kernel
theorem dX9_cheapest_122 : decode cX9_cheapest 122 = .ok (.iastore, 1) := by decide +kernel
theorem dX9_cheapest_123 : decode cX9_cheapest 123 = .ok (.iinc 4 1, 3) := by decide +kernel
theorem dX9_cheapest_126 : decode cX9_cheapest 126 = .ok (.goto (-20), 3) := by decide +kernel
theorem dX9_cheapest_129 : decode cX9_cheapest 129 = .ok (.aload_n 0, 1) := by decide +kernel
theorem dX9_cheapest_130 : decode cX9_cheapest 130 = .ok (.getfield 110, 3) := by decide +kernel
theorem dX9_cheapest_133 : decode cX9_cheapest 133 = .ok (.iconst 1, 1) := by decide +kernel
theorem dX9_cheapest_134 : decode cX9_cheapest 134 = .ok (.isub, 1) := by decide +kernel
theorem dX9_cheapest_135 : decode cX9_cheapest 135 = .ok (.istore 4, 2) := by decide +kernel
theorem dX9_cheapest_137 : decode cX9_cheapest 137 = .ok (.iload 4, 2) := by decide +kernel
theorem dX9_cheapest_139 : decode cX9_cheapest 139 = .ok (.ifCond .lt 16, 3) := by decide +kernel
theorem dX9_cheapest_142 : decode cX9_cheapest 142 = .ok (.aload_n 0, 1) := by decide +kernel
theorem dX9_cheapest_143 : decode cX9_cheapest 143 = .ok (.iload 4, 2) := by decide +kernel
theorem dX9_cheapest_145 : decode cX9_cheapest 145 = .ok (.iload_n 2, 1) := by decide +kernel
theorem dX9_cheapest_146 : decode cX9_cheapest 146 = .ok (.invokevirtual 184, 3) := by decide +kernel
theorem dX9_cheapest_149 : decode cX9_cheapest 149 = .ok (.iinc 4 (-1), 3) := by decide +kernel
theorem dX9_cheapest_152 : decode cX9_cheapest 152 = .ok (.goto (-15), 3) := by decide +kernel
theorem dX9_cheapest_155 : decode cX9_cheapest 155 = .ok (.ldc2_w 172, 3) := by decide +kernel
theorem dX9_cheapest_158 : decode cX9_cheapest 158 = .ok (.lstore 4, 2) := by decide +kernel
theorem dX9_cheapest_160 : decode cX9_cheapest 160 = .ok (.iconst 0, 1) := by decide +kernel
theorem dX9_cheapest_161 : decode cX9_cheapest 161 = .ok (.istore 6, 2) := by decide +kernel
theorem dX9_cheapest_163 : decode cX9_cheapest 163 = .ok (.iconst 0, 1) := by decide +kernel
theorem dX9_cheapest_164 : decode cX9_cheapest 164 = .ok (.istore 7, 2) := by decide +kernel
theorem dX9_cheapest_166 : decode cX9_cheapest 166 = .ok (.iload 7, 2) := by decide +kernel
theorem dX9_cheapest_168 : decode cX9_cheapest 168 = .ok (.aload_n 0, 1) := by decide +kernel
theorem dX9_cheapest_169 : decode cX9_cheapest 169 = .ok (.getfield 110, 3) := by decide +kernel
theorem dX9_cheapest_172 : decode cX9_cheapest 172 = .ok (.if_icmp .ge 224, 3) := by decide +kernel
theorem dX9_cheapest_175 : decode cX9_cheapest 175 = .ok (.iconst 0, 1) := by decide +kernel
theorem dX9_cheapest_176 : decode cX9_cheapest 176 = .ok (.istore 8, 2) := by decide +kernel
theorem dX9_cheapest_178 : decode cX9_cheapest 178 = .ok (.iconst 0, 1) := by decide +kernel
theorem dX9_cheapest_179 : decode cX9_cheapest 179 = .ok (.istore 9, 2) := by decide +kernel
theorem dX9_cheapest_181 : decode cX9_cheapest 181 = .ok (.iload 9, 2) := by decide +kernel
theorem dX9_cheapest_183 : decode cX9_cheapest 183 = .ok (.aload_n 0, 1) := by decide +kernel
theorem dX9_cheapest_184 : decode cX9_cheapest 184 = .ok (.getfield 110, 3) := by decide +kernel
theorem dX9_cheapest_187 : decode cX9_cheapest 187 = .ok (.if_icmp .ge 24, 3) := by decide +kernel
theorem dX9_cheapest_190 : decode cX9_cheapest 190 = .ok (.bipush 18, 2) := by decide +kernel
theorem dX9_cheapest_192 : decode cX9_cheapest 192 = .ok (.iload 8, 2) := by decide +kernel
theorem dX9_cheapest_194 : decode cX9_cheapest 194 = .ok (.imul, 1) := by decide +kernel
theorem dX9_cheapest_195 : decode cX9_cheapest 195 = .ok (.aload_n 0, 1) := by decide +kernel
theorem dX9_cheapest_196 : decode cX9_cheapest 196 = .ok (.getfield 68, 3) := by decide +kernel
theorem dX9_cheapest_199 : decode cX9_cheapest 199 = .ok (.iload 9, 2) := by decide +kernel
theorem dX9_cheapest_201 : decode cX9_cheapest 201 = .ok (.iaload, 1) := by decide +kernel
theorem dX9_cheapest_202 : decode cX9_cheapest 202 = .ok (.iadd, 1) := by decide +kernel
theorem dX9_cheapest_203 : decode cX9_cheapest 203 = .ok (.istore 8, 2) := by decide +kernel
theorem dX9_cheapest_205 : decode cX9_cheapest 205 = .ok (.iinc 9 1, 3) := by decide +kernel
theorem dX9_cheapest_208 : decode cX9_cheapest 208 = .ok (.goto (-27), 3) := by decide +kernel
theorem dX9_cheapest_211 : decode cX9_cheapest 211 = .ok (.aload_n 0, 1) := by decide +kernel
theorem dX9_cheapest_212 : decode cX9_cheapest 212 = .ok (.getfield 81, 3) := by decide +kernel
theorem dX9_cheapest_215 : decode cX9_cheapest 215 = .ok (.iconst 0, 1) := by decide +kernel
theorem dX9_cheapest_216 : decode cX9_cheapest 216 = .ok (.baload, 1) := by decide +kernel
theorem dX9_cheapest_217 : decode cX9_cheapest 217 = .ok (.ifCond .eq 19, 3) := by decide +kernel
theorem dX9_cheapest_220 : decode cX9_cheapest 220 = .ok (.aload_n 0, 1) := by decide +kernel
theorem dX9_cheapest_221 : decode cX9_cheapest 221 = .ok (.getfield 71, 3) := by decide +kernel
theorem dX9_cheapest_224 : decode cX9_cheapest 224 = .ok (.iconst 0, 1) := by decide +kernel
theorem dX9_cheapest_225 : decode cX9_cheapest 225 = .ok (.laload, 1) := by decide +kernel
theorem dX9_cheapest_226 : decode cX9_cheapest 226 = .ok (.iload_n 1, 1) := by decide +kernel
theorem dX9_cheapest_227 : decode cX9_cheapest 227 = .ok (.i2l, 1) := by decide +kernel
theorem dX9_cheapest_228 : decode cX9_cheapest 228 = .ok (.lcmp, 1) := by decide +kernel
theorem dX9_cheapest_229 : decode cX9_cheapest 229 = .ok (.ifCond .lt 7, 3) := by decide +kernel
theorem dX9_cheapest_232 : decode cX9_cheapest 232 = .ok (.iconst 1, 1) := by decide +kernel
theorem dX9_cheapest_233 : decode cX9_cheapest 233 = .ok (.goto 4, 3) := by decide +kernel
theorem dX9_cheapest_236 : decode cX9_cheapest 236 = .ok (.iconst 0, 1) := by decide +kernel
theorem dX9_cheapest_237 : decode cX9_cheapest 237 = .ok (.istore 9, 2) := by decide +kernel
theorem dX9_cheapest_239 : decode cX9_cheapest 239 = .ok (.iload 9, 2) := by decide +kernel
theorem dX9_cheapest_241 : decode cX9_cheapest 241 = .ok (.ifCond .eq 53, 3) := by decide +kernel
theorem dX9_cheapest_244 : decode cX9_cheapest 244 = .ok (.lload 4, 2) := by decide +kernel
theorem dX9_cheapest_246 : decode cX9_cheapest 246 = .ok (.lconst 0, 1) := by decide +kernel
theorem dX9_cheapest_247 : decode cX9_cheapest 247 = .ok (.lcmp, 1) := by decide +kernel
end
section
theorem dX9_cheapest_248 : decode cX9_cheapest 248 = .ok (.ifCond .lt 34, 3) := by decide +kernel
theorem dX9_cheapest_251 : decode cX9_cheapest 251 = .ok (.aload_n 0, 1) := by decide +kernel
theorem dX9_cheapest_252 : decode cX9_cheapest 252 = .ok (.getfield 78, 3) := by decide +kernel
theorem dX9_cheapest_255 : decode cX9_cheapest 255 = .ok (.iconst 0, 1) := by decide +kernel
theorem dX9_cheapest_256 : decode cX9_cheapest 256 = .ok (.laload, 1) := by decide +kernel
theorem dX9_cheapest_257 : decode cX9_cheapest 257 = .ok (.lload 4, 2) := by decide +kernel
theorem dX9_cheapest_259 : decode cX9_cheapest 259 = .ok (.lcmp, 1) := by decide +kernel
theorem dX9_cheapest_260 : decode cX9_cheapest 260 = .ok (.ifCond .lt 22, 3) := by decide +kernel
theorem dX9_cheapest_263 : decode cX9_cheapest 263 = .ok (.aload_n 0, 1) := by decide +kernel
theorem dX9_cheapest_264 : decode cX9_cheapest 264 = .ok (.getfield 78, 3) := by decide +kernel
theorem dX9_cheapest_267 : decode cX9_cheapest 267 = .ok (.iconst 0, 1) := by decide +kernel
theorem dX9_cheapest_268 : decode cX9_cheapest 268 = .ok (.laload, 1) := by decide +kernel
theorem dX9_cheapest_269 : decode cX9_cheapest 269 = .ok (.lload 4, 2) := by decide +kernel
theorem dX9_cheapest_271 : decode cX9_cheapest 271 = .ok (.lcmp, 1) := by decide +kernel
theorem dX9_cheapest_272 : decode cX9_cheapest 272 = .ok (.ifCond .ne 22, 3) := by decide +kernel
theorem dX9_cheapest_275 : decode cX9_cheapest 275 = .ok (.iload 8, 2) := by decide +kernel
theorem dX9_cheapest_277 : decode cX9_cheapest 277 = .ok (.iload 6, 2) := by decide +kernel
theorem dX9_cheapest_279 : decode cX9_cheapest 279 = .ok (.if_icmp .ge 15, 3) := by decide +kernel
theorem dX9_cheapest_282 : decode cX9_cheapest 282 = .ok (.aload_n 0, 1) := by decide +kernel
theorem dX9_cheapest_283 : decode cX9_cheapest 283 = .ok (.getfield 78, 3) := by decide +kernel
theorem dX9_cheapest_286 : decode cX9_cheapest 286 = .ok (.iconst 0, 1) := by decide +kernel
theorem dX9_cheapest_287 : decode cX9_cheapest 287 = .ok (.laload, 1) := by decide +kernel
theorem dX9_cheapest_288 : decode cX9_cheapest 288 = .ok (.lstore 4, 2) := by decide +kernel
theorem dX9_cheapest_290 : decode cX9_cheapest 290 = .ok (.iload 8, 2) := by decide +kernel
theorem dX9_cheapest_292 : decode cX9_cheapest 292 = .ok (.istore 6, 2) := by decide +kernel
theorem dX9_cheapest_294 : decode cX9_cheapest 294 = .ok (.iconst 0, 1) := by decide +kernel
theorem dX9_cheapest_295 : decode cX9_cheapest 295 = .ok (.istore 7, 2) := by decide +kernel
theorem dX9_cheapest_297 : decode cX9_cheapest 297 = .ok (.iload 7, 2) := by decide +kernel
theorem dX9_cheapest_299 : decode cX9_cheapest 299 = .ok (.aload_n 0, 1) := by decide +kernel
theorem dX9_cheapest_300 : decode cX9_cheapest 300 = .ok (.getfield 110, 3) := by decide +kernel
theorem dX9_cheapest_303 : decode cX9_cheapest 303 = .ok (.if_icmp .ge 30, 3) := by decide +kernel
theorem dX9_cheapest_306 : decode cX9_cheapest 306 = .ok (.aload_n 0, 1) := by decide +kernel
theorem dX9_cheapest_307 : decode cX9_cheapest 307 = .ok (.getfield 68, 3) := by decide +kernel
theorem dX9_cheapest_310 : decode cX9_cheapest 310 = .ok (.iload 7, 2) := by decide +kernel
theorem dX9_cheapest_312 : decode cX9_cheapest 312 = .ok (.iaload, 1) := by decide +kernel
theorem dX9_cheapest_313 : decode cX9_cheapest 313 = .ok (.iload_n 3, 1) := by decide +kernel
theorem dX9_cheapest_314 : decode cX9_cheapest 314 = .ok (.iconst 1, 1) := by decide +kernel
theorem dX9_cheapest_315 : decode cX9_cheapest 315 = .ok (.isub, 1) := by decide +kernel
theorem dX9_cheapest_316 : decode cX9_cheapest 316 = .ok (.if_icmp .ne 17, 3) := by decide +kernel
theorem dX9_cheapest_319 : decode cX9_cheapest 319 = .ok (.aload_n 0, 1) := by decide +kernel
theorem dX9_cheapest_320 : decode cX9_cheapest 320 = .ok (.getfield 68, 3) := by decide +kernel
theorem dX9_cheapest_323 : decode cX9_cheapest 323 = .ok (.iload 7, 2) := by decide +kernel
theorem dX9_cheapest_325 : decode cX9_cheapest 325 = .ok (.iconst 0, 1) := by decide +kernel
theorem dX9_cheapest_326 : decode cX9_cheapest 326 = .ok (.iastore, 1) := by decide +kernel
theorem dX9_cheapest_327 : decode cX9_cheapest 327 = .ok (.iinc 7 1, 3) := by decide +kernel
theorem dX9_cheapest_330 : decode cX9_cheapest 330 = .ok (.goto (-33), 3) := by decide +kernel
theorem dX9_cheapest_333 : decode cX9_cheapest 333 = .ok (.iload 7, 2) := by decide +kernel
theorem dX9_cheapest_335 : decode cX9_cheapest 335 = .ok (.aload_n 0, 1) := by decide +kernel
theorem dX9_cheapest_336 : decode cX9_cheapest 336 = .ok (.getfield 110, 3) := by decide +kernel
theorem dX9_cheapest_339 : decode cX9_cheapest 339 = .ok (.if_icmp .ge 14, 3) := by decide +kernel
theorem dX9_cheapest_342 : decode cX9_cheapest 342 = .ok (.aload_n 0, 1) := by decide +kernel
theorem dX9_cheapest_343 : decode cX9_cheapest 343 = .ok (.getfield 68, 3) := by decide +kernel
theorem dX9_cheapest_346 : decode cX9_cheapest 346 = .ok (.iload 7, 2) := by decide +kernel
theorem dX9_cheapest_348 : decode cX9_cheapest 348 = .ok (.dup2, 1) := by decide +kernel
theorem dX9_cheapest_349 : decode cX9_cheapest 349 = .ok (.iaload, 1) := by decide +kernel
theorem dX9_cheapest_350 : decode cX9_cheapest 350 = .ok (.iconst 1, 1) := by decide +kernel
theorem dX9_cheapest_351 : decode cX9_cheapest 351 = .ok (.iadd, 1) := by decide +kernel
theorem dX9_cheapest_352 : decode cX9_cheapest 352 = .ok (.iastore, 1) := by decide +kernel
theorem dX9_cheapest_353 : decode cX9_cheapest 353 = .ok (.iload 7, 2) := by decide +kernel
theorem dX9_cheapest_355 : decode cX9_cheapest 355 = .ok (.aload_n 0, 1) := by decide +kernel
theorem dX9_cheapest_356 : decode cX9_cheapest 356 = .ok (.getfield 110, 3) := by decide +kernel
theorem dX9_cheapest_359 : decode cX9_cheapest 359 = .ok (.if_icmp .ge 8, 3) := by decide +kernel
theorem dX9_cheapest_362 : decode cX9_cheapest 362 = .ok (.iload 7, 2) := by decide +kernel
theorem dX9_cheapest_364 : decode cX9_cheapest 364 = .ok (.goto 9, 3) := by decide +kernel
theorem dX9_cheapest_367 : decode cX9_cheapest 367 = .ok (.aload_n 0, 1) := by decide +kernel
theorem dX9_cheapest_368 : decode cX9_cheapest 368 = .ok (.getfield 110, 3) := by decide +kernel
theorem dX9_cheapest_371 : decode cX9_cheapest 371 = .ok (.iconst 1, 1) := by decide +kernel
theorem dX9_cheapest_372 : decode cX9_cheapest 372 = .ok (.isub, 1) := by decide +kernel
theorem dX9_cheapest_373 : decode cX9_cheapest 373 = .ok (.istore 10, 2) := by decide +kernel
theorem dX9_cheapest_375 : decode cX9_cheapest 375 = .ok (.iload 10, 2) := by decide +kernel
theorem dX9_cheapest_377 : decode cX9_cheapest 377 = .ok (.ifCond .lt 16, 3) := by decide +kernel
theorem dX9_cheapest_380 : decode cX9_cheapest 380 = .ok (.aload_n 0, 1) := by decide +kernel
theorem dX9_cheapest_381 : decode cX9_cheapest 381 = .ok (.iload 10, 2) := by decide +kernel
theorem dX9_cheapest_383 : decode cX9_cheapest 383 = .ok (.iload_n 2, 1) := by decide +kernel
theorem dX9_cheapest_384 : decode cX9_cheapest 384 = .ok (.invokevirtual 184, 3) := by decide +kernel
theorem dX9_cheapest_387 : decode cX9_cheapest 387 = .ok (.iinc 10 (-1), 3) := by decide +kernel
theorem dX9_cheapest_390 : decode cX9_cheapest 390 = .ok (.goto (-15), 3) := by decide +kernel
theorem dX9_cheapest_393 : decode cX9_cheapest 393 = .ok (.goto (-227), 3) := by decide +kernel
theorem dX9_cheapest_396 : decode cX9_cheapest 396 = .ok (.lload 4, 2) := by decide +kernel
theorem dX9_cheapest_398 : decode cX9_cheapest 398 = .ok (.lconst 0, 1) := by decide +kernel
theorem dX9_cheapest_399 : decode cX9_cheapest 399 = .ok (.lcmp, 1) := by decide +kernel
theorem dX9_cheapest_400 : decode cX9_cheapest 400 = .ok (.ifCond .ge 6, 3) := by decide +kernel
theorem dX9_cheapest_403 : decode cX9_cheapest 403 = .ok (.bipush (-5), 2) := by decide +kernel
theorem dX9_cheapest_405 : decode cX9_cheapest 405 = .ok (.ireturn, 1) := by decide +kernel
theorem dX9_cheapest_406 : decode cX9_cheapest 406 = .ok (.aload_n 0, 1) := by decide +kernel
theorem dX9_cheapest_407 : decode cX9_cheapest 407 = .ok (.aload_n 0, 1) := by decide +kernel
theorem dX9_cheapest_408 : decode cX9_cheapest 408 = .ok (.getfield 110, 3) := by decide +kernel
theorem dX9_cheapest_411 : decode cX9_cheapest 411 = .ok (.putfield 188, 3) := by decide +kernel
theorem dX9_cheapest_414 : decode cX9_cheapest 414 = .ok (.iload 6, 2) := by decide +kernel
theorem dX9_cheapest_416 : decode cX9_cheapest 416 = .ok (.istore 8, 2) := by decide +kernel
theorem dX9_cheapest_418 : decode cX9_cheapest 418 = .ok (.aload_n 0, 1) := by decide +kernel
theorem dX9_cheapest_419 : decode cX9_cheapest 419 = .ok (.getfield 110, 3) := by decide +kernel
theorem dX9_cheapest_422 : decode cX9_cheapest 422 = .ok (.iconst 1, 1) := by decide +kernel
theorem dX9_cheapest_423 : decode cX9_cheapest 423 = .ok (.isub, 1) := by decide +kernel
theorem dX9_cheapest_424 : decode cX9_cheapest 424 = .ok (.istore 9, 2) := by decide +kernel
theorem dX9_cheapest_426 : decode cX9_cheapest 426 = .ok (.iload 9, 2) := by decide +kernel
theorem dX9_cheapest_428 : decode cX9_cheapest 428 = .ok (.ifCond .lt 28, 3) := by decide +kernel
theorem dX9_cheapest_431 : decode cX9_cheapest 431 = .ok (.aload_n 0, 1) := by decide +kernel
theorem dX9_cheapest_432 : decode cX9_cheapest 432 = .ok (.getfield 65, 3) := by decide +kernel
theorem dX9_cheapest_435 : decode cX9_cheapest 435 = .ok (.iload 9, 2) := by decide +kernel
theorem dX9_cheapest_437 : decode cX9_cheapest 437 = .ok (.iload 8, 2) := by decide +kernel
theorem dX9_cheapest_439 : decode cX9_cheapest 439 = .ok (.bipush 18, 2) := by decide +kernel
theorem dX9_cheapest_441 : decode cX9_cheapest 441 = .ok (.irem, 1) := by decide +kernel
theorem dX9_cheapest_442 : decode cX9_cheapest 442 = .ok (.iastore, 1) := by decide +kernel
theorem dX9_cheapest_443 : decode cX9_cheapest 443 = .ok (.iload 8, 2) := by decide +kernel
theorem dX9_cheapest_445 : decode cX9_cheapest 445 = .ok (.bipush 18, 2) := by decide +kernel
theorem dX9_cheapest_447 : decode cX9_cheapest 447 = .ok (.idiv, 1) := by decide +kernel
theorem dX9_cheapest_448 : decode cX9_cheapest 448 = .ok (.istore 8, 2) := by decide +kernel
theorem dX9_cheapest_450 : decode cX9_cheapest 450 = .ok (.iinc 9 (-1), 3) := by decide +kernel
theorem dX9_cheapest_453 : decode cX9_cheapest 453 = .ok (.goto (-27), 3) := by decide +kernel
theorem dX9_cheapest_456 : decode cX9_cheapest 456 = .ok (.lload 4, 2) := by decide +kernel
theorem dX9_cheapest_458 : decode cX9_cheapest 458 = .ok (.l2i, 1) := by decide +kernel
theorem dX9_cheapest_459 : decode cX9_cheapest 459 = .ok (.ireturn, 1) := by decide +kernel
theorem dX9_chosen_0 : decode cX9_chosen 0 = .ok (.iload_n 1, 1) := by decide +kernel
theorem dX9_chosen_1 : decode cX9_chosen 1 = .ok (.i2l, 1) := by decide +kernel
theorem dX9_chosen_2 : decode cX9_chosen 2 = .ok (.lconst 0, 1) := by decide +kernel
theorem dX9_chosen_3 : decode cX9_chosen 3 = .ok (.aload_n 0, 1) := by decide +kernel
theorem dX9_chosen_4 : decode cX9_chosen 4 = .ok (.getfield 188, 3) := by decide +kernel
theorem dX9_chosen_7 : decode cX9_chosen 7 = .ok (.iconst 1, 1) := by decide +kernel
theorem dX9_chosen_8 : decode cX9_chosen 8 = .ok (.isub, 1) := by decide +kernel
theorem dX9_chosen_9 : decode cX9_chosen 9 = .ok (.i2l, 1) := by decide +kernel
theorem dX9_chosen_10 : decode cX9_chosen 10 = .ok (.invokestatic 115, 3) := by decide +kernel
theorem dX9_chosen_13 : decode cX9_chosen 13 = .ok (.ifCond .eq 13, 3) := by decide +kernel
theorem dX9_chosen_16 : decode cX9_chosen 16 = .ok (.iload_n 2, 1) := by decide +kernel
theorem dX9_chosen_17 : decode cX9_chosen 17 = .ok (.i2l, 1) := by decide +kernel
theorem dX9_chosen_18 : decode cX9_chosen 18 = .ok (.lconst 0, 1) := by decide +kernel
theorem dX9_chosen_19 : decode cX9_chosen 19 = .ok (.lconst 1, 1) := by decide +kernel
theorem dX9_chosen_20 : decode cX9_chosen 20 = .ok (.invokestatic 115, 3) := by decide +kernel
theorem dX9_chosen_23 : decode cX9_chosen 23 = .ok (.ifCond .ne 5, 3) := by decide +kernel
theorem dX9_chosen_26 : decode cX9_chosen 26 = .ok (.iconst (-1), 1) := by decide +kernel
theorem dX9_chosen_27 : decode cX9_chosen 27 = .ok (.ireturn, 1) := by decide +kernel
theorem dX9_chosen_28 : decode cX9_chosen 28 = .ok (.iload_n 2, 1) := by decide +kernel
theorem dX9_chosen_29 : decode cX9_chosen 29 = .ok (.ifCond .ne 14, 3) := by decide +kernel
theorem dX9_chosen_32 : decode cX9_chosen 32 = .ok (.aload_n 0, 1) := by decide +kernel
theorem dX9_chosen_33 : decode cX9_chosen 33 = .ok (.getfield 65, 3) := by decide +kernel
theorem dX9_chosen_36 : decode cX9_chosen 36 = .ok (.iload_n 1, 1) := by decide +kernel
theorem dX9_chosen_37 : decode cX9_chosen 37 = .ok (.iaload, 1) := by decide +kernel
theorem dX9_chosen_38 : decode cX9_chosen 38 = .ok (.iconst 3, 1) := by decide +kernel
theorem dX9_chosen_39 : decode cX9_chosen 39 = .ok (.idiv, 1) := by decide +kernel
theorem dX9_chosen_40 : decode cX9_chosen 40 = .ok (.goto 13, 3) := by decide +kernel
theorem dX9_chosen_43 : decode cX9_chosen 43 = .ok (.aload_n 0, 1) := by decide +kernel
theorem dX9_chosen_44 : decode cX9_chosen 44 = .ok (.getfield 65, 3) := by decide +kernel
theorem dX9_chosen_47 : decode cX9_chosen 47 = .ok (.iload_n 1, 1) := by decide +kernel
theorem dX9_chosen_48 : decode cX9_chosen 48 = .ok (.iaload, 1) := by decide +kernel
theorem dX9_chosen_49 : decode cX9_chosen 49 = .ok (.iconst 3, 1) := by decide +kernel
theorem dX9_chosen_50 : decode cX9_chosen 50 = .ok (.irem, 1) := by decide +kernel
theorem dX9_chosen_51 : decode cX9_chosen 51 = .ok (.iconst 1, 1) := by decide +kernel
theorem dX9_chosen_52 : decode cX9_chosen 52 = .ok (.iadd, 1) := by decide +kernel
theorem dX9_chosen_53 : decode cX9_chosen 53 = .ok (.ireturn, 1) := by decide +kernel
theorem dX9_air_0 : decode cX9_air 0 = .ok (.iload_n 1, 1) := by decide +kernel
theorem dX9_air_1 : decode cX9_air 1 = .ok (.i2l, 1) := by decide +kernel
theorem dX9_air_2 : decode cX9_air 2 = .ok (.lconst 0, 1) := by decide +kernel
theorem dX9_air_3 : decode cX9_air 3 = .ok (.ldc2_w 127, 3) := by decide +kernel
theorem dX9_air_6 : decode cX9_air 6 = .ok (.invokestatic 115, 3) := by decide +kernel
theorem dX9_air_9 : decode cX9_air 9 = .ok (.ifCond .ne 5, 3) := by decide +kernel
theorem dX9_air_12 : decode cX9_air 12 = .ok (.iconst (-1), 1) := by decide +kernel
theorem dX9_air_13 : decode cX9_air 13 = .ok (.ireturn, 1) := by decide +kernel
theorem dX9_air_14 : decode cX9_air 14 = .ok (.iload_n 2, 1) := by decide +kernel
theorem dX9_air_15 : decode cX9_air 15 = .ok (.i2l, 1) := by decide +kernel
theorem dX9_air_16 : decode cX9_air 16 = .ok (.lconst 0, 1) := by decide +kernel
theorem dX9_air_17 : decode cX9_air 17 = .ok (.ldc2_w 113, 3) := by decide +kernel
theorem dX9_air_20 : decode cX9_air 20 = .ok (.invokestatic 115, 3) := by decide +kernel
theorem dX9_air_23 : decode cX9_air 23 = .ok (.ifCond .ne 6, 3) := by decide +kernel
theorem dX9_air_26 : decode cX9_air 26 = .ok (.bipush (-2), 2) := by decide +kernel
theorem dX9_air_28 : decode cX9_air 28 = .ok (.ireturn, 1) := by decide +kernel
theorem dX9_air_29 : decode cX9_air 29 = .ok (.aload_n 0, 1) := by decide +kernel
theorem dX9_air_30 : decode cX9_air 30 = .ok (.getfield 40, 3) := by decide +kernel
theorem dX9_air_33 : decode cX9_air 33 = .ok (.iload_n 1, 1) := by decide +kernel
theorem dX9_air_34 : decode cX9_air 34 = .ok (.iaload, 1) := by decide +kernel
theorem dX9_air_35 : decode cX9_air 35 = .ok (.istore_n 3, 1) := by decide +kernel
theorem dX9_air_36 : decode cX9_air 36 = .ok (.aload_n 0, 1) := by decide +kernel
theorem dX9_air_37 : decode cX9_air 37 = .ok (.getfield 40, 3) := by decide +kernel
theorem dX9_air_40 : decode cX9_air 40 = .ok (.iload_n 1, 1) := by decide +kernel
theorem dX9_air_41 : decode cX9_air 41 = .ok (.iload_n 2, 1) := by decide +kernel
theorem dX9_air_42 : decode cX9_air 42 = .ok (.iastore, 1) := by decide +kernel
theorem dX9_air_43 : decode cX9_air 43 = .ok (.iload_n 3, 1) := by decide +kernel
theorem dX9_air_44 : decode cX9_air 44 = .ok (.ireturn, 1) := by decide +kernel
theorem dX9_limit_0 : decode cX9_limit 0 = .ok (.iload_n 1, 1) := by decide +kernel
theorem dX9_limit_1 : decode cX9_limit 1 = .ok (.i2l, 1) := by decide +kernel
theorem dX9_limit_2 : decode cX9_limit 2 = .ok (.lconst 0, 1) := by decide +kernel
theorem dX9_limit_3 : decode cX9_limit 3 = .ok (.ldc2_w 134, 3) := by decide +kernel
theorem dX9_limit_6 : decode cX9_limit 6 = .ok (.invokestatic 115, 3) := by decide +kernel
theorem dX9_limit_9 : decode cX9_limit 9 = .ok (.ifCond .ne 5, 3) := by decide +kernel
theorem dX9_limit_12 : decode cX9_limit 12 = .ok (.iconst (-1), 1) := by decide +kernel
theorem dX9_limit_13 : decode cX9_limit 13 = .ok (.ireturn, 1) := by decide +kernel
theorem dX9_limit_14 : decode cX9_limit 14 = .ok (.iload_n 2, 1) := by decide +kernel
theorem dX9_limit_15 : decode cX9_limit 15 = .ok (.i2l, 1) := by decide +kernel
theorem dX9_limit_16 : decode cX9_limit 16 = .ok (.lconst 0, 1) := by decide +kernel
theorem dX9_limit_17 : decode cX9_limit 17 = .ok (.ldc2_w 180, 3) := by decide +kernel
theorem dX9_limit_20 : decode cX9_limit 20 = .ok (.invokestatic 115, 3) := by decide +kernel
theorem dX9_limit_23 : decode cX9_limit 23 = .ok (.ifCond .ne 6, 3) := by decide +kernel
theorem dX9_limit_26 : decode cX9_limit 26 = .ok (.bipush (-2), 2) := by decide +kernel
theorem dX9_limit_28 : decode cX9_limit 28 = .ok (.ireturn, 1) := by decide +kernel
theorem dX9_limit_29 : decode cX9_limit 29 = .ok (.aload_n 0, 1) := by decide +kernel
theorem dX9_limit_30 : decode cX9_limit 30 = .ok (.getfield 43, 3) := by decide +kernel
theorem dX9_limit_33 : decode cX9_limit 33 = .ok (.iload_n 1, 1) := by decide +kernel
theorem dX9_limit_34 : decode cX9_limit 34 = .ok (.iaload, 1) := by decide +kernel
theorem dX9_limit_35 : decode cX9_limit 35 = .ok (.istore_n 3, 1) := by decide +kernel
theorem dX9_limit_36 : decode cX9_limit 36 = .ok (.aload_n 0, 1) := by decide +kernel
theorem dX9_limit_37 : decode cX9_limit 37 = .ok (.getfield 43, 3) := by decide +kernel
theorem dX9_limit_40 : decode cX9_limit 40 = .ok (.iload_n 1, 1) := by decide +kernel
theorem dX9_limit_41 : decode cX9_limit 41 = .ok (.iload_n 2, 1) := by decide +kernel
theorem dX9_limit_42 : decode cX9_limit 42 = .ok (.iastore, 1) := by decide +kernel
theorem dX9_limit_43 : decode cX9_limit 43 = .ok (.iload_n 3, 1) := by decide +kernel
theorem dX9_limit_44 : decode cX9_limit 44 = .ok (.ireturn, 1) := by decide +kernel
theorem dX9_hasStuff_0 : decode cX9_hasStuff 0 = .ok (.iconst 0, 1) := by decide +kernel
theorem dX9_hasStuff_1 : decode cX9_hasStuff 1 = .ok (.istore_n 1, 1) := by decide +kernel
theorem dX9_hasStuff_2 : decode cX9_hasStuff 2 = .ok (.iconst 0, 1) := by decide +kernel
theorem dX9_hasStuff_3 : decode cX9_hasStuff 3 = .ok (.istore_n 2, 1) := by decide +kernel
theorem dX9_hasStuff_4 : decode cX9_hasStuff 4 = .ok (.iload_n 2, 1) := by decide +kernel
theorem dX9_hasStuff_5 : decode cX9_hasStuff 5 = .ok (.aload_n 0, 1) := by decide +kernel
theorem dX9_hasStuff_6 : decode cX9_hasStuff 6 = .ok (.getfield 110, 3) := by decide +kernel
theorem dX9_hasStuff_9 : decode cX9_hasStuff 9 = .ok (.if_icmp .ge 28, 3) := by decide +kernel
theorem dX9_hasStuff_12 : decode cX9_hasStuff 12 = .ok (.iload_n 1, 1) := by decide +kernel
theorem dX9_hasStuff_13 : decode cX9_hasStuff 13 = .ok (.ifCond .ne 12, 3) := by decide +kernel
theorem dX9_hasStuff_16 : decode cX9_hasStuff 16 = .ok (.aload_n 0, 1) := by decide +kernel
theorem dX9_hasStuff_17 : decode cX9_hasStuff 17 = .ok (.getfield 34, 3) := by decide +kernel
theorem dX9_hasStuff_20 : decode cX9_hasStuff 20 = .ok (.iload_n 2, 1) := by decide +kernel
theorem dX9_hasStuff_21 : decode cX9_hasStuff 21 = .ok (.iaload, 1) := by decide +kernel
theorem dX9_hasStuff_22 : decode cX9_hasStuff 22 = .ok (.ifCond .le 7, 3) := by decide +kernel
theorem dX9_hasStuff_25 : decode cX9_hasStuff 25 = .ok (.iconst 1, 1) := by decide +kernel
theorem dX9_hasStuff_26 : decode cX9_hasStuff 26 = .ok (.goto 4, 3) := by decide +kernel
theorem dX9_hasStuff_29 : decode cX9_hasStuff 29 = .ok (.iconst 0, 1) := by decide +kernel
theorem dX9_hasStuff_30 : decode cX9_hasStuff 30 = .ok (.istore_n 1, 1) := by decide +kernel
theorem dX9_hasStuff_31 : decode cX9_hasStuff 31 = .ok (.iinc 2 1, 3) := by decide +kernel
theorem dX9_hasStuff_34 : decode cX9_hasStuff 34 = .ok (.goto (-30), 3) := by decide +kernel
theorem dX9_hasStuff_37 : decode cX9_hasStuff 37 = .ok (.iload_n 1, 1) := by decide +kernel
theorem dX9_hasStuff_38 : decode cX9_hasStuff 38 = .ok (.ireturn, 1) := by decide +kernel
theorem dX9_finds_0 : decode cX9_finds 0 = .ok (.aload_n 0, 1) := by decide +kernel
theorem dX9_finds_1 : decode cX9_finds 1 = .ok (.getfield 191, 3) := by decide +kernel
theorem dX9_finds_4 : decode cX9_finds 4 = .ok (.istore_n 1, 1) := by decide +kernel
theorem dX9_finds_5 : decode cX9_finds 5 = .ok (.iload_n 1, 1) := by decide +kernel
theorem dX9_finds_6 : decode cX9_finds 6 = .ok (.aload_n 0, 1) := by decide +kernel
theorem dX9_finds_7 : decode cX9_finds 7 = .ok (.getfield 110, 3) := by decide +kernel
theorem dX9_finds_10 : decode cX9_finds 10 = .ok (.if_icmp .ge 18, 3) := by decide +kernel
theorem dX9_finds_13 : decode cX9_finds 13 = .ok (.aload_n 0, 1) := by decide +kernel
theorem dX9_finds_14 : decode cX9_finds 14 = .ok (.getfield 85, 3) := by decide +kernel
theorem dX9_finds_17 : decode cX9_finds 17 = .ok (.iload_n 1, 1) := by decide +kernel
theorem dX9_finds_18 : decode cX9_finds 18 = .ok (.iaload, 1) := by decide +kernel
theorem dX9_finds_19 : decode cX9_finds 19 = .ok (.ifCond .ne 9, 3) := by decide +kernel
theorem dX9_finds_22 : decode cX9_finds 22 = .ok (.iinc 1 1, 3) := by decide +kernel
theorem dX9_finds_25 : decode cX9_finds 25 = .ok (.goto (-20), 3) := by decide +kernel
theorem dX9_finds_28 : decode cX9_finds 28 = .ok (.iload_n 1, 1) := by decide +kernel
theorem dX9_finds_29 : decode cX9_finds 29 = .ok (.aload_n 0, 1) := by decide +kernel
theorem dX9_finds_30 : decode cX9_finds 30 = .ok (.getfield 110, 3) := by decide +kernel
theorem dX9_finds_33 : decode cX9_finds 33 = .ok (.if_icmp .ne 5, 3) := by decide +kernel
theorem dX9_finds_36 : decode cX9_finds 36 = .ok (.iconst 0, 1) := by decide +kernel
theorem dX9_finds_37 : decode cX9_finds 37 = .ok (.ireturn, 1) := by decide +kernel
theorem dX9_finds_38 : decode cX9_finds 38 = .ok (.aload_n 0, 1) := by decide +kernel
theorem dX9_finds_39 : decode cX9_finds 39 = .ok (.dup, 1) := by decide +kernel
theorem dX9_finds_40 : decode cX9_finds 40 = .ok (.getfield 194, 3) := by decide +kernel
theorem dX9_finds_43 : decode cX9_finds 43 = .ok (.iload_n 1, 1) := by decide +kernel
theorem dX9_finds_44 : decode cX9_finds 44 = .ok (.aload_n 0, 1) := by decide +kernel
theorem dX9_finds_45 : decode cX9_finds 45 = .ok (.getfield 191, 3) := by decide +kernel
theorem dX9_finds_48 : decode cX9_finds 48 = .ok (.isub, 1) := by decide +kernel
theorem dX9_finds_49 : decode cX9_finds 49 = .ok (.iadd, 1) := by decide +kernel
theorem dX9_finds_50 : decode cX9_finds 50 = .ok (.putfield 194, 3) := by decide +kernel
theorem dX9_finds_53 : decode cX9_finds 53 = .ok (.iload_n 1, 1) := by decide +kernel
theorem dX9_finds_54 : decode cX9_finds 54 = .ok (.aload_n 0, 1) := by decide +kernel
theorem dX9_finds_55 : decode cX9_finds 55 = .ok (.getfield 191, 3) := by decide +kernel
theorem dX9_finds_58 : decode cX9_finds 58 = .ok (.if_icmp .le 13, 3) := by decide +kernel
theorem dX9_finds_61 : decode cX9_finds 61 = .ok (.aload_n 0, 1) := by decide +kernel
theorem dX9_finds_62 : decode cX9_finds 62 = .ok (.aload_n 0, 1) := by decide +kernel
theorem dX9_finds_63 : decode cX9_finds 63 = .ok (.getfield 31, 3) := by decide +kernel
theorem dX9_finds_66 : decode cX9_finds 66 = .ok (.iload_n 1, 1) := by decide +kernel
theorem dX9_finds_67 : decode cX9_finds 67 = .ok (.iaload, 1) := by decide +kernel
theorem dX9_finds_68 : decode cX9_finds 68 = .ok (.putfield 197, 3) := by decide +kernel
theorem dX9_finds_71 : decode cX9_finds 71 = .ok (.aload_n 0, 1) := by decide +kernel
theorem dX9_finds_72 : decode cX9_finds 72 = .ok (.iload_n 1, 1) := by decide +kernel
theorem dX9_finds_73 : decode cX9_finds 73 = .ok (.putfield 191, 3) := by decide +kernel
theorem dX9_finds_76 : decode cX9_finds 76 = .ok (.iconst 1, 1) := by decide +kernel
theorem dX9_finds_77 : decode cX9_finds 77 = .ok (.ireturn, 1) := by decide +kernel
theorem dX9_massNow_0 : decode cX9_massNow 0 = .ok (.aload_n 0, 1) := by decide +kernel
theorem dX9_massNow_1 : decode cX9_massNow 1 = .ok (.getfield 46, 3) := by decide +kernel
theorem dX9_massNow_4 : decode cX9_massNow 4 = .ok (.istore_n 1, 1) := by decide +kernel
theorem dX9_massNow_5 : decode cX9_massNow 5 = .ok (.aload_n 0, 1) := by decide +kernel
theorem dX9_massNow_6 : decode cX9_massNow 6 = .ok (.getfield 191, 3) := by decide +kernel
theorem dX9_massNow_9 : decode cX9_massNow 9 = .ok (.istore_n 2, 1) := by decide +kernel
theorem dX9_massNow_10 : decode cX9_massNow 10 = .ok (.iload_n 2, 1) := by decide +kernel
theorem dX9_massNow_11 : decode cX9_massNow 11 = .ok (.aload_n 0, 1) := by decide +kernel
theorem dX9_massNow_12 : decode cX9_massNow 12 = .ok (.getfield 110, 3) := by decide +kernel
theorem dX9_massNow_15 : decode cX9_massNow 15 = .ok (.if_icmp .ge 24, 3) := by decide +kernel
theorem dX9_massNow_18 : decode cX9_massNow 18 = .ok (.iload_n 1, 1) := by decide +kernel
theorem dX9_massNow_19 : decode cX9_massNow 19 = .ok (.aload_n 0, 1) := by decide +kernel
theorem dX9_massNow_20 : decode cX9_massNow 20 = .ok (.iload_n 2, 1) := by decide +kernel
theorem dX9_massNow_21 : decode cX9_massNow 21 = .ok (.invokevirtual 144, 3) := by decide +kernel
theorem dX9_massNow_24 : decode cX9_massNow 24 = .ok (.aload_n 0, 1) := by decide +kernel
theorem dX9_massNow_25 : decode cX9_massNow 25 = .ok (.getfield 85, 3) := by decide +kernel
theorem dX9_massNow_28 : decode cX9_massNow 28 = .ok (.iload_n 2, 1) := by decide +kernel
theorem dX9_massNow_29 : decode cX9_massNow 29 = .ok (.iaload, 1) := by decide +kernel
theorem dX9_massNow_30 : decode cX9_massNow 30 = .ok (.iadd, 1) := by decide +kernel
theorem dX9_massNow_31 : decode cX9_massNow 31 = .ok (.iadd, 1) := by decide +kernel
theorem dX9_massNow_32 : decode cX9_massNow 32 = .ok (.istore_n 1, 1) := by decide +kernel
theorem dX9_massNow_33 : decode cX9_massNow 33 = .ok (.iinc 2 1, 3) := by decide +kernel
theorem dX9_massNow_36 : decode cX9_massNow 36 = .ok (.goto (-26), 3) := by decide +kernel
theorem dX9_massNow_39 : decode cX9_massNow 39 = .ok (.iload_n 1, 1) := by decide +kernel
theorem dX9_massNow_40 : decode cX9_massNow 40 = .ok (.ireturn, 1) := by decide +kernel
theorem dX9_ticksOnce_0 : decode cX9_ticksOnce 0 = .ok (.aload_n 0, 1) := by decide +kernel
theorem dX9_ticksOnce_1 : decode cX9_ticksOnce 1 = .ok (.getfield 197, 3) := by decide +kernel
theorem dX9_ticksOnce_4 : decode cX9_ticksOnce 4 = .ok (.aload_n 0, 1) := by decide +kernel
theorem dX9_ticksOnce_5 : decode cX9_ticksOnce 5 = .ok (.getfield 85, 3) := by decide +kernel
theorem dX9_ticksOnce_8 : decode cX9_ticksOnce 8 = .ok (.aload_n 0, 1) := by decide +kernel
theorem dX9_ticksOnce_9 : decode cX9_ticksOnce 9 = .ok (.getfield 191, 3) := by decide +kernel
theorem dX9_ticksOnce_12 : decode cX9_ticksOnce 12 = .ok (.iaload, 1) := by decide +kernel
theorem dX9_ticksOnce_13 : decode cX9_ticksOnce 13 = .ok (.if_icmp .ge 10, 3) := by decide +kernel
theorem dX9_ticksOnce_16 : decode cX9_ticksOnce 16 = .ok (.aload_n 0, 1) := by decide +kernel
theorem dX9_ticksOnce_17 : decode cX9_ticksOnce 17 = .ok (.getfield 197, 3) := by decide +kernel
theorem dX9_ticksOnce_20 : decode cX9_ticksOnce 20 = .ok (.goto 12, 3) := by decide +kernel
theorem dX9_ticksOnce_23 : decode cX9_ticksOnce 23 = .ok (.aload_n 0, 1) := by decide +kernel
theorem dX9_ticksOnce_24 : decode cX9_ticksOnce 24 = .ok (.getfield 85, 3) := by decide +kernel
theorem dX9_ticksOnce_27 : decode cX9_ticksOnce 27 = .ok (.aload_n 0, 1) := by decide +kernel
theorem dX9_ticksOnce_28 : decode cX9_ticksOnce 28 = .ok (.getfield 191, 3) := by decide +kernel
theorem dX9_ticksOnce_31 : decode cX9_ticksOnce 31 = .ok (.iaload, 1) := by decide +kernel
theorem dX9_ticksOnce_32 : decode cX9_ticksOnce 32 = .ok (.istore_n 1, 1) := by decide +kernel
theorem dX9_ticksOnce_33 : decode cX9_ticksOnce 33 = .ok (.aload_n 0, 1) := by decide +kernel
theorem dX9_ticksOnce_34 : decode cX9_ticksOnce 34 = .ok (.invokevirtual 200, 3) := by decide +kernel
theorem dX9_ticksOnce_37 : decode cX9_ticksOnce 37 = .ok (.i2l, 1) := by decide +kernel
theorem dX9_ticksOnce_38 : decode cX9_ticksOnce 38 = .ok (.lstore_n 2, 1) := by decide +kernel
theorem dX9_ticksOnce_39 : decode cX9_ticksOnce 39 = .ok (.aload_n 0, 1) := by decide +kernel
theorem dX9_ticksOnce_40 : decode cX9_ticksOnce 40 = .ok (.getfield 7, 3) := by decide +kernel
theorem dX9_ticksOnce_43 : decode cX9_ticksOnce 43 = .ok (.aload_n 0, 1) := by decide +kernel
theorem dX9_ticksOnce_44 : decode cX9_ticksOnce 44 = .ok (.getfield 28, 3) := by decide +kernel
theorem dX9_ticksOnce_47 : decode cX9_ticksOnce 47 = .ok (.aload_n 0, 1) := by decide +kernel
theorem dX9_ticksOnce_48 : decode cX9_ticksOnce 48 = .ok (.getfield 191, 3) := by decide +kernel
theorem dX9_ticksOnce_51 : decode cX9_ticksOnce 51 = .ok (.iaload, 1) := by decide +kernel
theorem dX9_ticksOnce_52 : decode cX9_ticksOnce 52 = .ok (.iaload, 1) := by decide +kernel
theorem dX9_ticksOnce_53 : decode cX9_ticksOnce 53 = .ok (.i2l, 1) := by decide +kernel
theorem dX9_ticksOnce_54 : decode cX9_ticksOnce 54 = .ok (.iload_n 1, 1) := by decide +kernel
theorem dX9_ticksOnce_55 : decode cX9_ticksOnce 55 = .ok (.i2l, 1) := by decide +kernel
theorem dX9_ticksOnce_56 : decode cX9_ticksOnce 56 = .ok (.lmul, 1) := by decide +kernel
theorem dX9_ticksOnce_57 : decode cX9_ticksOnce 57 = .ok (.lstore 4, 2) := by decide +kernel
theorem dX9_ticksOnce_59 : decode cX9_ticksOnce 59 = .ok (.aload_n 0, 1) := by decide +kernel
theorem dX9_ticksOnce_60 : decode cX9_ticksOnce 60 = .ok (.getfield 204, 3) := by decide +kernel
theorem dX9_ticksOnce_63 : decode cX9_ticksOnce 63 = .ok (.ldc2_w 182, 3) := by decide +kernel
theorem dX9_ticksOnce_66 : decode cX9_ticksOnce 66 = .ok (.ldiv, 1) := by decide +kernel
theorem dX9_ticksOnce_67 : decode cX9_ticksOnce 67 = .ok (.lstore 6, 2) := by decide +kernel
theorem dX9_ticksOnce_69 : decode cX9_ticksOnce 69 = .ok (.lload 6, 2) := by decide +kernel
theorem dX9_ticksOnce_71 : decode cX9_ticksOnce 71 = .ok (.ldc2_w 127, 3) := by decide +kernel
theorem dX9_ticksOnce_74 : decode cX9_ticksOnce 74 = .ok (.lcmp, 1) := by decide +kernel
theorem dX9_ticksOnce_75 : decode cX9_ticksOnce 75 = .ok (.ifCond .le 7, 3) := by decide +kernel
theorem dX9_ticksOnce_78 : decode cX9_ticksOnce 78 = .ok (.lconst 0, 1) := by decide +kernel
theorem dX9_ticksOnce_79 : decode cX9_ticksOnce 79 = .ok (.goto 30, 3) := by decide +kernel
theorem dX9_ticksOnce_82 : decode cX9_ticksOnce 82 = .ok (.aload_n 0, 1) := by decide +kernel
theorem dX9_ticksOnce_83 : decode cX9_ticksOnce 83 = .ok (.getfield 208, 3) := by decide +kernel
theorem dX9_ticksOnce_86 : decode cX9_ticksOnce 86 = .ok (.aload_n 0, 1) := by decide +kernel
theorem dX9_ticksOnce_87 : decode cX9_ticksOnce 87 = .ok (.getfield 208, 3) := by decide +kernel
theorem dX9_ticksOnce_90 : decode cX9_ticksOnce 90 = .ok (.lmul, 1) := by decide +kernel
theorem dX9_ticksOnce_91 : decode cX9_ticksOnce 91 = .ok (.ldc2_w 138, 3) := by decide +kernel
theorem dX9_ticksOnce_94 : decode cX9_ticksOnce 94 = .ok (.ldiv, 1) := by decide +kernel
theorem dX9_ticksOnce_95 : decode cX9_ticksOnce 95 = .ok (.aload_n 0, 1) := by decide +kernel
theorem dX9_ticksOnce_96 : decode cX9_ticksOnce 96 = .ok (.getfield 40, 3) := by decide +kernel
theorem dX9_ticksOnce_99 : decode cX9_ticksOnce 99 = .ok (.lload 6, 2) := by decide +kernel
theorem dX9_ticksOnce_101 : decode cX9_ticksOnce 101 = .ok (.l2i, 1) := by decide +kernel
theorem dX9_ticksOnce_102 : decode cX9_ticksOnce 102 = .ok (.iaload, 1) := by decide +kernel
theorem dX9_ticksOnce_103 : decode cX9_ticksOnce 103 = .ok (.i2l, 1) := by decide +kernel
theorem dX9_ticksOnce_104 : decode cX9_ticksOnce 104 = .ok (.lmul, 1) := by decide +kernel
theorem dX9_ticksOnce_105 : decode cX9_ticksOnce 105 = .ok (.ldc2_w 138, 3) := by decide +kernel
theorem dX9_ticksOnce_108 : decode cX9_ticksOnce 108 = .ok (.ldiv, 1) := by decide +kernel
theorem dX9_ticksOnce_109 : decode cX9_ticksOnce 109 = .ok (.lstore 8, 2) := by decide +kernel
theorem dX9_ticksOnce_111 : decode cX9_ticksOnce 111 = .ok (.aload_n 0, 1) := by decide +kernel
theorem dX9_ticksOnce_112 : decode cX9_ticksOnce 112 = .ok (.getfield 211, 3) := by decide +kernel
theorem dX9_ticksOnce_115 : decode cX9_ticksOnce 115 = .ok (.ifCond .eq 14, 3) := by decide +kernel
theorem dX9_ticksOnce_118 : decode cX9_ticksOnce 118 = .ok (.lload 8, 2) := by decide +kernel
theorem dX9_ticksOnce_120 : decode cX9_ticksOnce 120 = .ok (.aload_n 0, 1) := by decide +kernel
theorem dX9_ticksOnce_121 : decode cX9_ticksOnce 121 = .ok (.getfield 214, 3) := by decide +kernel
theorem dX9_ticksOnce_124 : decode cX9_ticksOnce 124 = .ok (.i2l, 1) := by decide +kernel
theorem dX9_ticksOnce_125 : decode cX9_ticksOnce 125 = .ok (.lcmp, 1) := by decide +kernel
theorem dX9_ticksOnce_126 : decode cX9_ticksOnce 126 = .ok (.ifCond .le 18, 3) := by decide +kernel
theorem dX9_ticksOnce_129 : decode cX9_ticksOnce 129 = .ok (.aload_n 0, 1) := by decide +kernel
theorem dX9_ticksOnce_130 : decode cX9_ticksOnce 130 = .ok (.lload 8, 2) := by decide +kernel
theorem dX9_ticksOnce_132 : decode cX9_ticksOnce 132 = .ok (.l2i, 1) := by decide +kernel
theorem dX9_ticksOnce_133 : decode cX9_ticksOnce 133 = .ok (.putfield 214, 3) := by decide +kernel
theorem dX9_ticksOnce_136 : decode cX9_ticksOnce 136 = .ok (.aload_n 0, 1) := by decide +kernel
theorem dX9_ticksOnce_137 : decode cX9_ticksOnce 137 = .ok (.aload_n 0, 1) := by decide +kernel
theorem dX9_ticksOnce_138 : decode cX9_ticksOnce 138 = .ok (.getfield 211, 3) := by decide +kernel
theorem dX9_ticksOnce_141 : decode cX9_ticksOnce 141 = .ok (.putfield 217, 3) := by decide +kernel
theorem dX9_ticksOnce_144 : decode cX9_ticksOnce 144 = .ok (.lload 8, 2) := by decide +kernel
theorem dX9_ticksOnce_146 : decode cX9_ticksOnce 146 = .ok (.aload_n 0, 1) := by decide +kernel
theorem dX9_ticksOnce_147 : decode cX9_ticksOnce 147 = .ok (.getfield 43, 3) := by decide +kernel
theorem dX9_ticksOnce_150 : decode cX9_ticksOnce 150 = .ok (.iconst 0, 1) := by decide +kernel
theorem dX9_ticksOnce_151 : decode cX9_ticksOnce 151 = .ok (.iaload, 1) := by decide +kernel
theorem dX9_ticksOnce_152 : decode cX9_ticksOnce 152 = .ok (.i2l, 1) := by decide +kernel
theorem dX9_ticksOnce_153 : decode cX9_ticksOnce 153 = .ok (.lcmp, 1) := by decide +kernel
theorem dX9_ticksOnce_154 : decode cX9_ticksOnce 154 = .ok (.ifCond .le 18, 3) := by decide +kernel
theorem dX9_ticksOnce_157 : decode cX9_ticksOnce 157 = .ok (.aload_n 0, 1) := by decide +kernel
theorem dX9_ticksOnce_158 : decode cX9_ticksOnce 158 = .ok (.getfield 220, 3) := by decide +kernel
theorem dX9_ticksOnce_161 : decode cX9_ticksOnce 161 = .ok (.ifCond .ge 11, 3) := by decide +kernel
theorem dX9_ticksOnce_164 : decode cX9_ticksOnce 164 = .ok (.aload_n 0, 1) := by decide +kernel
theorem dX9_ticksOnce_165 : decode cX9_ticksOnce 165 = .ok (.aload_n 0, 1) := by decide +kernel
theorem dX9_ticksOnce_166 : decode cX9_ticksOnce 166 = .ok (.getfield 211, 3) := by decide +kernel
theorem dX9_ticksOnce_169 : decode cX9_ticksOnce 169 = .ok (.putfield 220, 3) := by decide +kernel
theorem dX9_ticksOnce_172 : decode cX9_ticksOnce 172 = .ok (.ldc2_w 138, 3) := by decide +kernel
theorem dX9_ticksOnce_175 : decode cX9_ticksOnce 175 = .ok (.lload 4, 2) := by decide +kernel
theorem dX9_ticksOnce_177 : decode cX9_ticksOnce 177 = .ok (.lmul, 1) := by decide +kernel
theorem dX9_ticksOnce_178 : decode cX9_ticksOnce 178 = .ok (.ldc2_w 138, 3) := by decide +kernel
theorem dX9_ticksOnce_181 : decode cX9_ticksOnce 181 = .ok (.lload_n 2, 1) := by decide +kernel
theorem dX9_ticksOnce_182 : decode cX9_ticksOnce 182 = .ok (.lmul, 1) := by decide +kernel
theorem dX9_ticksOnce_183 : decode cX9_ticksOnce 183 = .ok (.lsub, 1) := by decide +kernel
theorem dX9_ticksOnce_184 : decode cX9_ticksOnce 184 = .ok (.aload_n 0, 1) := by decide +kernel
theorem dX9_ticksOnce_185 : decode cX9_ticksOnce 185 = .ok (.getfield 208, 3) := by decide +kernel
theorem dX9_ticksOnce_188 : decode cX9_ticksOnce 188 = .ok (.lconst 0, 1) := by decide +kernel
theorem dX9_ticksOnce_189 : decode cX9_ticksOnce 189 = .ok (.lcmp, 1) := by decide +kernel
theorem dX9_ticksOnce_190 : decode cX9_ticksOnce 190 = .ok (.ifCond .ge 8, 3) := by decide +kernel
theorem dX9_ticksOnce_193 : decode cX9_ticksOnce 193 = .ok (.lload 8, 2) := by decide +kernel
theorem dX9_ticksOnce_195 : decode cX9_ticksOnce 195 = .ok (.goto 6, 3) := by decide +kernel
theorem dX9_ticksOnce_198 : decode cX9_ticksOnce 198 = .ok (.lload 8, 2) := by decide +kernel
theorem dX9_ticksOnce_200 : decode cX9_ticksOnce 200 = .ok (.lneg, 1) := by decide +kernel
theorem dX9_ticksOnce_201 : decode cX9_ticksOnce 201 = .ok (.ladd, 1) := by decide +kernel
theorem dX9_ticksOnce_202 : decode cX9_ticksOnce 202 = .ok (.lload_n 2, 1) := by decide +kernel
theorem dX9_ticksOnce_203 : decode cX9_ticksOnce 203 = .ok (.ldiv, 1) := by decide +kernel
theorem dX9_ticksOnce_204 : decode cX9_ticksOnce 204 = .ok (.lstore 10, 2) := by decide +kernel
theorem dX9_ticksOnce_206 : decode cX9_ticksOnce 206 = .ok (.aload_n 0, 1) := by decide +kernel
theorem dX9_ticksOnce_207 : decode cX9_ticksOnce 207 = .ok (.dup, 1) := by decide +kernel
theorem dX9_ticksOnce_208 : decode cX9_ticksOnce 208 = .ok (.getfield 208, 3) := by decide +kernel
theorem dX9_ticksOnce_211 : decode cX9_ticksOnce 211 = .ok (.lload 10, 2) := by decide +kernel
theorem dX9_ticksOnce_213 : decode cX9_ticksOnce 213 = .ok (.ladd, 1) := by decide +kernel
theorem dX9_ticksOnce_214 : decode cX9_ticksOnce 214 = .ok (.putfield 208, 3) := by decide +kernel
theorem dX9_ticksOnce_217 : decode cX9_ticksOnce 217 = .ok (.aload_n 0, 1) := by decide +kernel
theorem dX9_ticksOnce_218 : decode cX9_ticksOnce 218 = .ok (.aload_n 0, 1) := by decide +kernel
theorem dX9_ticksOnce_219 : decode cX9_ticksOnce 219 = .ok (.getfield 208, 3) := by decide +kernel
theorem dX9_ticksOnce_222 : decode cX9_ticksOnce 222 = .ok (.ldc2_w 223, 3) := by decide +kernel
theorem dX9_ticksOnce_225 : decode cX9_ticksOnce 225 = .ok (.lcmp, 1) := by decide +kernel
theorem dX9_ticksOnce_226 : decode cX9_ticksOnce 226 = .ok (.ifCond .le 9, 3) := by decide +kernel
theorem dX9_ticksOnce_229 : decode cX9_ticksOnce 229 = .ok (.ldc2_w 223, 3) := by decide +kernel
theorem dX9_ticksOnce_232 : decode cX9_ticksOnce 232 = .ok (.goto 24, 3) := by decide +kernel
theorem dX9_ticksOnce_235 : decode cX9_ticksOnce 235 = .ok (.aload_n 0, 1) := by decide +kernel
theorem dX9_ticksOnce_236 : decode cX9_ticksOnce 236 = .ok (.getfield 208, 3) := by decide +kernel
theorem dX9_ticksOnce_239 : decode cX9_ticksOnce 239 = .ok (.ldc2_w 225, 3) := by decide +kernel
theorem dX9_ticksOnce_242 : decode cX9_ticksOnce 242 = .ok (.lcmp, 1) := by decide +kernel
theorem dX9_ticksOnce_243 : decode cX9_ticksOnce 243 = .ok (.ifCond .ge 9, 3) := by decide +kernel
theorem dX9_ticksOnce_246 : decode cX9_ticksOnce 246 = .ok (.ldc2_w 225, 3) := by decide +kernel
theorem dX9_ticksOnce_249 : decode cX9_ticksOnce 249 = .ok (.goto 7, 3) := by decide +kernel
theorem dX9_ticksOnce_252 : decode cX9_ticksOnce 252 = .ok (.aload_n 0, 1) := by decide +kernel
theorem dX9_ticksOnce_253 : decode cX9_ticksOnce 253 = .ok (.getfield 208, 3) := by decide +kernel
theorem dX9_ticksOnce_256 : decode cX9_ticksOnce 256 = .ok (.putfield 208, 3) := by decide +kernel
theorem dX9_ticksOnce_259 : decode cX9_ticksOnce 259 = .ok (.aload_n 0, 1) := by decide +kernel
theorem dX9_ticksOnce_260 : decode cX9_ticksOnce 260 = .ok (.dup, 1) := by decide +kernel
theorem dX9_ticksOnce_261 : decode cX9_ticksOnce 261 = .ok (.getfield 204, 3) := by decide +kernel
theorem dX9_ticksOnce_264 : decode cX9_ticksOnce 264 = .ok (.aload_n 0, 1) := by decide +kernel
theorem dX9_ticksOnce_265 : decode cX9_ticksOnce 265 = .ok (.getfield 208, 3) := by decide +kernel
theorem dX9_ticksOnce_268 : decode cX9_ticksOnce 268 = .ok (.ladd, 1) := by decide +kernel
theorem dX9_ticksOnce_269 : decode cX9_ticksOnce 269 = .ok (.putfield 204, 3) := by decide +kernel
theorem dX9_ticksOnce_272 : decode cX9_ticksOnce 272 = .ok (.aload_n 0, 1) := by decide +kernel
theorem dX9_ticksOnce_273 : decode cX9_ticksOnce 273 = .ok (.getfield 204, 3) := by decide +kernel
theorem dX9_ticksOnce_276 : decode cX9_ticksOnce 276 = .ok (.lconst 0, 1) := by decide +kernel
theorem dX9_ticksOnce_277 : decode cX9_ticksOnce 277 = .ok (.lcmp, 1) := by decide +kernel
theorem dX9_ticksOnce_278 : decode cX9_ticksOnce 278 = .ok (.ifCond .ge 13, 3) := by decide +kernel
theorem dX9_ticksOnce_281 : decode cX9_ticksOnce 281 = .ok (.aload_n 0, 1) := by decide +kernel
theorem dX9_ticksOnce_282 : decode cX9_ticksOnce 282 = .ok (.lconst 0, 1) := by decide +kernel
theorem dX9_ticksOnce_283 : decode cX9_ticksOnce 283 = .ok (.putfield 204, 3) := by decide +kernel
theorem dX9_ticksOnce_286 : decode cX9_ticksOnce 286 = .ok (.aload_n 0, 1) := by decide +kernel
theorem dX9_ticksOnce_287 : decode cX9_ticksOnce 287 = .ok (.lconst 0, 1) := by decide +kernel
theorem dX9_ticksOnce_288 : decode cX9_ticksOnce 288 = .ok (.putfield 208, 3) := by decide +kernel
theorem dX9_ticksOnce_291 : decode cX9_ticksOnce 291 = .ok (.aload_n 0, 1) := by decide +kernel
theorem dX9_ticksOnce_292 : decode cX9_ticksOnce 292 = .ok (.getfield 85, 3) := by decide +kernel
theorem dX9_ticksOnce_295 : decode cX9_ticksOnce 295 = .ok (.aload_n 0, 1) := by decide +kernel
theorem dX9_ticksOnce_296 : decode cX9_ticksOnce 296 = .ok (.getfield 191, 3) := by decide +kernel
theorem dX9_ticksOnce_299 : decode cX9_ticksOnce 299 = .ok (.dup2, 1) := by decide +kernel
theorem dX9_ticksOnce_300 : decode cX9_ticksOnce 300 = .ok (.iaload, 1) := by decide +kernel
theorem dX9_ticksOnce_301 : decode cX9_ticksOnce 301 = .ok (.iload_n 1, 1) := by decide +kernel
theorem dX9_ticksOnce_302 : decode cX9_ticksOnce 302 = .ok (.isub, 1) := by decide +kernel
theorem dX9_ticksOnce_303 : decode cX9_ticksOnce 303 = .ok (.iastore, 1) := by decide +kernel
theorem dX9_ticksOnce_304 : decode cX9_ticksOnce 304 = .ok (.aload_n 0, 1) := by decide +kernel
theorem dX9_ticksOnce_305 : decode cX9_ticksOnce 305 = .ok (.dup, 1) := by decide +kernel
theorem dX9_ticksOnce_306 : decode cX9_ticksOnce 306 = .ok (.getfield 211, 3) := by decide +kernel
theorem dX9_ticksOnce_309 : decode cX9_ticksOnce 309 = .ok (.iconst 1, 1) := by decide +kernel
theorem dX9_ticksOnce_310 : decode cX9_ticksOnce 310 = .ok (.iadd, 1) := by decide +kernel
theorem dX9_ticksOnce_311 : decode cX9_ticksOnce 311 = .ok (.putfield 211, 3) := by decide +kernel
theorem dX9_ticksOnce_314 : decode cX9_ticksOnce 314 = .ok (.aload_n 0, 1) := by decide +kernel
theorem dX9_ticksOnce_315 : decode cX9_ticksOnce 315 = .ok (.getfield 85, 3) := by decide +kernel
theorem dX9_ticksOnce_318 : decode cX9_ticksOnce 318 = .ok (.aload_n 0, 1) := by decide +kernel
theorem dX9_ticksOnce_319 : decode cX9_ticksOnce 319 = .ok (.getfield 191, 3) := by decide +kernel
theorem dX9_ticksOnce_322 : decode cX9_ticksOnce 322 = .ok (.iaload, 1) := by decide +kernel
theorem dX9_ticksOnce_323 : decode cX9_ticksOnce 323 = .ok (.ifCond .le 4, 3) := by decide +kernel
theorem dX9_ticksOnce_326 : decode cX9_ticksOnce 326 = .ok (.return_, 1) := by decide +kernel
theorem dX9_ticksOnce_327 : decode cX9_ticksOnce 327 = .ok (.aload_n 0, 1) := by decide +kernel
theorem dX9_ticksOnce_328 : decode cX9_ticksOnce 328 = .ok (.dup, 1) := by decide +kernel
theorem dX9_ticksOnce_329 : decode cX9_ticksOnce 329 = .ok (.getfield 194, 3) := by decide +kernel
theorem dX9_ticksOnce_332 : decode cX9_ticksOnce 332 = .ok (.iconst 1, 1) := by decide +kernel
theorem dX9_ticksOnce_333 : decode cX9_ticksOnce 333 = .ok (.iadd, 1) := by decide +kernel
theorem dX9_ticksOnce_334 : decode cX9_ticksOnce 334 = .ok (.putfield 194, 3) := by decide +kernel
theorem dX9_ticksOnce_337 : decode cX9_ticksOnce 337 = .ok (.aload_n 0, 1) := by decide +kernel
theorem dX9_ticksOnce_338 : decode cX9_ticksOnce 338 = .ok (.dup, 1) := by decide +kernel
theorem dX9_ticksOnce_339 : decode cX9_ticksOnce 339 = .ok (.getfield 191, 3) := by decide +kernel
theorem dX9_ticksOnce_342 : decode cX9_ticksOnce 342 = .ok (.iconst 1, 1) := by decide +kernel
theorem dX9_ticksOnce_343 : decode cX9_ticksOnce 343 = .ok (.iadd, 1) := by decide +kernel
theorem dX9_ticksOnce_344 : decode cX9_ticksOnce 344 = .ok (.putfield 191, 3) := by decide +kernel
theorem dX9_ticksOnce_347 : decode cX9_ticksOnce 347 = .ok (.aload_n 0, 1) := by decide +kernel
theorem dX9_ticksOnce_348 : decode cX9_ticksOnce 348 = .ok (.getfield 191, 3) := by decide +kernel
theorem dX9_ticksOnce_351 : decode cX9_ticksOnce 351 = .ok (.aload_n 0, 1) := by decide +kernel
theorem dX9_ticksOnce_352 : decode cX9_ticksOnce 352 = .ok (.getfield 110, 3) := by decide +kernel
theorem dX9_ticksOnce_355 : decode cX9_ticksOnce 355 = .ok (.if_icmp .ge 16, 3) := by decide +kernel
theorem dX9_ticksOnce_358 : decode cX9_ticksOnce 358 = .ok (.aload_n 0, 1) := by decide +kernel
theorem dX9_ticksOnce_359 : decode cX9_ticksOnce 359 = .ok (.aload_n 0, 1) := by decide +kernel
theorem dX9_ticksOnce_360 : decode cX9_ticksOnce 360 = .ok (.getfield 31, 3) := by decide +kernel
theorem dX9_ticksOnce_363 : decode cX9_ticksOnce 363 = .ok (.aload_n 0, 1) := by decide +kernel
theorem dX9_ticksOnce_364 : decode cX9_ticksOnce 364 = .ok (.getfield 191, 3) := by decide +kernel
theorem dX9_ticksOnce_367 : decode cX9_ticksOnce 367 = .ok (.iaload, 1) := by decide +kernel
theorem dX9_ticksOnce_368 : decode cX9_ticksOnce 368 = .ok (.putfield 197, 3) := by decide +kernel
theorem dX9_ticksOnce_371 : decode cX9_ticksOnce 371 = .ok (.return_, 1) := by decide +kernel
theorem dX9_flies_0 : decode cX9_flies 0 = .ok (.iconst 0, 1) := by decide +kernel
theorem dX9_flies_1 : decode cX9_flies 1 = .ok (.istore_n 2, 1) := by decide +kernel
theorem dX9_flies_2 : decode cX9_flies 2 = .ok (.iload_n 2, 1) := by decide +kernel
theorem dX9_flies_3 : decode cX9_flies 3 = .ok (.aload_n 0, 1) := by decide +kernel
theorem dX9_flies_4 : decode cX9_flies 4 = .ok (.getfield 110, 3) := by decide +kernel
theorem dX9_flies_7 : decode cX9_flies 7 = .ok (.if_icmp .ge 21, 3) := by decide +kernel
theorem dX9_flies_10 : decode cX9_flies 10 = .ok (.aload_n 0, 1) := by decide +kernel
theorem dX9_flies_11 : decode cX9_flies 11 = .ok (.getfield 85, 3) := by decide +kernel
theorem dX9_flies_14 : decode cX9_flies 14 = .ok (.iload_n 2, 1) := by decide +kernel
theorem dX9_flies_15 : decode cX9_flies 15 = .ok (.aload_n 0, 1) := by decide +kernel
theorem dX9_flies_16 : decode cX9_flies 16 = .ok (.getfield 34, 3) := by decide +kernel
theorem dX9_flies_19 : decode cX9_flies 19 = .ok (.iload_n 2, 1) := by decide +kernel
theorem dX9_flies_20 : decode cX9_flies 20 = .ok (.iaload, 1) := by decide +kernel
theorem dX9_flies_21 : decode cX9_flies 21 = .ok (.iastore, 1) := by decide +kernel
theorem dX9_flies_22 : decode cX9_flies 22 = .ok (.iinc 2 1, 3) := by decide +kernel
theorem dX9_flies_25 : decode cX9_flies 25 = .ok (.goto (-23), 3) := by decide +kernel
theorem dX9_flies_28 : decode cX9_flies 28 = .ok (.aload_n 0, 1) := by decide +kernel
theorem dX9_flies_29 : decode cX9_flies 29 = .ok (.iconst 0, 1) := by decide +kernel
theorem dX9_flies_30 : decode cX9_flies 30 = .ok (.putfield 191, 3) := by decide +kernel
theorem dX9_flies_33 : decode cX9_flies 33 = .ok (.aload_n 0, 1) := by decide +kernel
theorem dX9_flies_34 : decode cX9_flies 34 = .ok (.aload_n 0, 1) := by decide +kernel
theorem dX9_flies_35 : decode cX9_flies 35 = .ok (.getfield 31, 3) := by decide +kernel
theorem dX9_flies_38 : decode cX9_flies 38 = .ok (.iconst 0, 1) := by decide +kernel
theorem dX9_flies_39 : decode cX9_flies 39 = .ok (.iaload, 1) := by decide +kernel
theorem dX9_flies_40 : decode cX9_flies 40 = .ok (.putfield 197, 3) := by decide +kernel
theorem dX9_flies_43 : decode cX9_flies 43 = .ok (.aload_n 0, 1) := by decide +kernel
theorem dX9_flies_44 : decode cX9_flies 44 = .ok (.iconst 0, 1) := by decide +kernel
theorem dX9_flies_45 : decode cX9_flies 45 = .ok (.putfield 211, 3) := by decide +kernel
theorem dX9_flies_48 : decode cX9_flies 48 = .ok (.aload_n 0, 1) := by decide +kernel
theorem dX9_flies_49 : decode cX9_flies 49 = .ok (.iconst 0, 1) := by decide +kernel
theorem dX9_flies_50 : decode cX9_flies 50 = .ok (.putfield 214, 3) := by decide +kernel
theorem dX9_flies_53 : decode cX9_flies 53 = .ok (.aload_n 0, 1) := by decide +kernel
theorem dX9_flies_54 : decode cX9_flies 54 = .ok (.iconst 0, 1) := by decide +kernel
theorem dX9_flies_55 : decode cX9_flies 55 = .ok (.putfield 217, 3) := by decide +kernel
theorem dX9_flies_58 : decode cX9_flies 58 = .ok (.aload_n 0, 1) := by decide +kernel
theorem dX9_flies_59 : decode cX9_flies 59 = .ok (.iconst (-1), 1) := by decide +kernel
theorem dX9_flies_60 : decode cX9_flies 60 = .ok (.putfield 220, 3) := by decide +kernel
theorem dX9_flies_63 : decode cX9_flies 63 = .ok (.aload_n 0, 1) := by decide +kernel
theorem dX9_flies_64 : decode cX9_flies 64 = .ok (.iconst 0, 1) := by decide +kernel
theorem dX9_flies_65 : decode cX9_flies 65 = .ok (.putfield 194, 3) := by decide +kernel
theorem dX9_flies_68 : decode cX9_flies 68 = .ok (.aload_n 0, 1) := by decide +kernel
theorem dX9_flies_69 : decode cX9_flies 69 = .ok (.lconst 0, 1) := by decide +kernel
theorem dX9_flies_70 : decode cX9_flies 70 = .ok (.putfield 204, 3) := by decide +kernel
theorem dX9_flies_73 : decode cX9_flies 73 = .ok (.aload_n 0, 1) := by decide +kernel
theorem dX9_flies_74 : decode cX9_flies 74 = .ok (.lconst 0, 1) := by decide +kernel
theorem dX9_flies_75 : decode cX9_flies 75 = .ok (.putfield 208, 3) := by decide +kernel
theorem dX9_flies_78 : decode cX9_flies 78 = .ok (.aload_n 0, 1) := by decide +kernel
theorem dX9_flies_79 : decode cX9_flies 79 = .ok (.getfield 211, 3) := by decide +kernel
theorem dX9_flies_82 : decode cX9_flies 82 = .ok (.sipush 2000, 3) := by decide +kernel
theorem dX9_flies_85 : decode cX9_flies 85 = .ok (.if_icmp .ge 106, 3) := by decide +kernel
theorem dX9_flies_88 : decode cX9_flies 88 = .ok (.aload_n 0, 1) := by decide +kernel
theorem dX9_flies_89 : decode cX9_flies 89 = .ok (.invokevirtual 227, 3) := by decide +kernel
theorem dX9_flies_92 : decode cX9_flies 92 = .ok (.ifCond .eq 99, 3) := by decide +kernel
theorem dX9_flies_95 : decode cX9_flies 95 = .ok (.aload_n 0, 1) := by decide +kernel
theorem dX9_flies_96 : decode cX9_flies 96 = .ok (.getfield 211, 3) := by decide +kernel
theorem dX9_flies_99 : decode cX9_flies 99 = .ok (.iload_n 1, 1) := by decide +kernel
theorem dX9_flies_100 : decode cX9_flies 100 = .ok (.if_icmp .ne 84, 3) := by decide +kernel
theorem dX9_flies_103 : decode cX9_flies 103 = .ok (.aload_n 0, 1) := by decide +kernel
theorem dX9_flies_104 : decode cX9_flies 104 = .ok (.dup, 1) := by decide +kernel
theorem dX9_flies_105 : decode cX9_flies 105 = .ok (.getfield 197, 3) := by decide +kernel
theorem dX9_flies_108 : decode cX9_flies 108 = .ok (.iconst 1, 1) := by decide +kernel
theorem dX9_flies_109 : decode cX9_flies 109 = .ok (.isub, 1) := by decide +kernel
theorem dX9_flies_110 : decode cX9_flies 110 = .ok (.putfield 197, 3) := by decide +kernel
theorem dX9_flies_113 : decode cX9_flies 113 = .ok (.aload_n 0, 1) := by decide +kernel
theorem dX9_flies_114 : decode cX9_flies 114 = .ok (.getfield 197, 3) := by decide +kernel
theorem dX9_flies_117 : decode cX9_flies 117 = .ok (.ifCond .ne 67, 3) := by decide +kernel
theorem dX9_flies_120 : decode cX9_flies 120 = .ok (.aload_n 0, 1) := by decide +kernel
theorem dX9_flies_121 : decode cX9_flies 121 = .ok (.getfield 85, 3) := by decide +kernel
theorem dX9_flies_124 : decode cX9_flies 124 = .ok (.aload_n 0, 1) := by decide +kernel
theorem dX9_flies_125 : decode cX9_flies 125 = .ok (.getfield 191, 3) := by decide +kernel
theorem dX9_flies_128 : decode cX9_flies 128 = .ok (.iconst 0, 1) := by decide +kernel
theorem dX9_flies_129 : decode cX9_flies 129 = .ok (.iastore, 1) := by decide +kernel
theorem dX9_flies_130 : decode cX9_flies 130 = .ok (.aload_n 0, 1) := by decide +kernel
theorem dX9_flies_131 : decode cX9_flies 131 = .ok (.dup, 1) := by decide +kernel
theorem dX9_flies_132 : decode cX9_flies 132 = .ok (.getfield 194, 3) := by decide +kernel
theorem dX9_flies_135 : decode cX9_flies 135 = .ok (.iconst 1, 1) := by decide +kernel
theorem dX9_flies_136 : decode cX9_flies 136 = .ok (.iadd, 1) := by decide +kernel
theorem dX9_flies_137 : decode cX9_flies 137 = .ok (.putfield 194, 3) := by decide +kernel
theorem dX9_flies_140 : decode cX9_flies 140 = .ok (.aload_n 0, 1) := by decide +kernel
theorem dX9_flies_141 : decode cX9_flies 141 = .ok (.dup, 1) := by decide +kernel
theorem dX9_flies_142 : decode cX9_flies 142 = .ok (.getfield 191, 3) := by decide +kernel
theorem dX9_flies_145 : decode cX9_flies 145 = .ok (.iconst 1, 1) := by decide +kernel
theorem dX9_flies_146 : decode cX9_flies 146 = .ok (.iadd, 1) := by decide +kernel
theorem dX9_flies_147 : decode cX9_flies 147 = .ok (.putfield 191, 3) := by decide +kernel
theorem dX9_flies_150 : decode cX9_flies 150 = .ok (.aload_n 0, 1) := by decide +kernel
theorem dX9_flies_151 : decode cX9_flies 151 = .ok (.getfield 191, 3) := by decide +kernel
theorem dX9_flies_154 : decode cX9_flies 154 = .ok (.aload_n 0, 1) := by decide +kernel
theorem dX9_flies_155 : decode cX9_flies 155 = .ok (.getfield 110, 3) := by decide +kernel
theorem dX9_flies_158 : decode cX9_flies 158 = .ok (.if_icmp .ge 16, 3) := by decide +kernel
theorem dX9_flies_161 : decode cX9_flies 161 = .ok (.aload_n 0, 1) := by decide +kernel
theorem dX9_flies_162 : decode cX9_flies 162 = .ok (.aload_n 0, 1) := by decide +kernel
theorem dX9_flies_163 : decode cX9_flies 163 = .ok (.getfield 31, 3) := by decide +kernel
theorem dX9_flies_166 : decode cX9_flies 166 = .ok (.aload_n 0, 1) := by decide +kernel
theorem dX9_flies_167 : decode cX9_flies 167 = .ok (.getfield 191, 3) := by decide +kernel
theorem dX9_flies_170 : decode cX9_flies 170 = .ok (.iaload, 1) := by decide +kernel
theorem dX9_flies_171 : decode cX9_flies 171 = .ok (.putfield 197, 3) := by decide +kernel
theorem dX9_flies_174 : decode cX9_flies 174 = .ok (.aload_n 0, 1) := by decide +kernel
theorem dX9_flies_175 : decode cX9_flies 175 = .ok (.invokevirtual 227, 3) := by decide +kernel
theorem dX9_flies_178 : decode cX9_flies 178 = .ok (.ifCond .ne 6, 3) := by decide +kernel
theorem dX9_flies_181 : decode cX9_flies 181 = .ok (.goto 10, 3) := by decide +kernel
theorem dX9_flies_184 : decode cX9_flies 184 = .ok (.aload_n 0, 1) := by decide +kernel
theorem dX9_flies_185 : decode cX9_flies 185 = .ok (.invokevirtual 231, 3) := by decide +kernel
theorem dX9_flies_188 : decode cX9_flies 188 = .ok (.goto (-110), 3) := by decide +kernel
theorem dX9_flies_191 : decode cX9_flies 191 = .ok (.aload_n 0, 1) := by decide +kernel
theorem dX9_flies_192 : decode cX9_flies 192 = .ok (.getfield 220, 3) := by decide +kernel
theorem dX9_flies_195 : decode cX9_flies 195 = .ok (.ifCond .lt 5, 3) := by decide +kernel
theorem dX9_flies_198 : decode cX9_flies 198 = .ok (.iconst 1, 1) := by decide +kernel
theorem dX9_flies_199 : decode cX9_flies 199 = .ok (.ireturn, 1) := by decide +kernel
theorem dX9_flies_200 : decode cX9_flies 200 = .ok (.aload_n 0, 1) := by decide +kernel
theorem dX9_flies_201 : decode cX9_flies 201 = .ok (.getfield 204, 3) := by decide +kernel
theorem dX9_flies_204 : decode cX9_flies 204 = .ok (.aload_n 0, 1) := by decide +kernel
theorem dX9_flies_205 : decode cX9_flies 205 = .ok (.getfield 43, 3) := by decide +kernel
theorem dX9_flies_208 : decode cX9_flies 208 = .ok (.iconst 1, 1) := by decide +kernel
theorem dX9_flies_209 : decode cX9_flies 209 = .ok (.iaload, 1) := by decide +kernel
theorem dX9_flies_210 : decode cX9_flies 210 = .ok (.i2l, 1) := by decide +kernel
theorem dX9_flies_211 : decode cX9_flies 211 = .ok (.lcmp, 1) := by decide +kernel
theorem dX9_flies_212 : decode cX9_flies 212 = .ok (.ifCond .ge 7, 3) := by decide +kernel
theorem dX9_flies_215 : decode cX9_flies 215 = .ok (.iconst 2, 1) := by decide +kernel
theorem dX9_flies_216 : decode cX9_flies 216 = .ok (.goto 23, 3) := by decide +kernel
theorem dX9_flies_219 : decode cX9_flies 219 = .ok (.aload_n 0, 1) := by decide +kernel
theorem dX9_flies_220 : decode cX9_flies 220 = .ok (.getfield 208, 3) := by decide +kernel
theorem dX9_flies_223 : decode cX9_flies 223 = .ok (.aload_n 0, 1) := by decide +kernel
theorem dX9_flies_224 : decode cX9_flies 224 = .ok (.getfield 43, 3) := by decide +kernel
theorem dX9_flies_227 : decode cX9_flies 227 = .ok (.iconst 2, 1) := by decide +kernel
theorem dX9_flies_228 : decode cX9_flies 228 = .ok (.iaload, 1) := by decide +kernel
theorem dX9_flies_229 : decode cX9_flies 229 = .ok (.i2l, 1) := by decide +kernel
theorem dX9_flies_230 : decode cX9_flies 230 = .ok (.lcmp, 1) := by decide +kernel
theorem dX9_flies_231 : decode cX9_flies 231 = .ok (.ifCond .ge 7, 3) := by decide +kernel
theorem dX9_flies_234 : decode cX9_flies 234 = .ok (.iconst 3, 1) := by decide +kernel
theorem dX9_flies_235 : decode cX9_flies 235 = .ok (.goto 4, 3) := by decide +kernel
theorem dX9_flies_238 : decode cX9_flies 238 = .ok (.iconst 0, 1) := by decide +kernel
theorem dX9_flies_239 : decode cX9_flies 239 = .ok (.ireturn, 1) := by decide +kernel
theorem dX9_fly_0 : decode cX9_fly 0 = .ok (.aload_n 0, 1) := by decide +kernel
theorem dX9_fly_1 : decode cX9_fly 1 = .ok (.invokevirtual 234, 3) := by decide +kernel
theorem dX9_fly_4 : decode cX9_fly 4 = .ok (.ifCond .ne 6, 3) := by decide +kernel
theorem dX9_fly_7 : decode cX9_fly 7 = .ok (.bipush (-3), 2) := by decide +kernel
theorem dX9_fly_9 : decode cX9_fly 9 = .ok (.ireturn, 1) := by decide +kernel
theorem dX9_fly_10 : decode cX9_fly 10 = .ok (.aload_n 0, 1) := by decide +kernel
theorem dX9_fly_11 : decode cX9_fly 11 = .ok (.iconst (-1), 1) := by decide +kernel
theorem dX9_fly_12 : decode cX9_fly 12 = .ok (.invokevirtual 237, 3) := by decide +kernel
theorem dX9_fly_15 : decode cX9_fly 15 = .ok (.istore_n 1, 1) := by decide +kernel
theorem dX9_fly_16 : decode cX9_fly 16 = .ok (.aload_n 0, 1) := by decide +kernel
theorem dX9_fly_17 : decode cX9_fly 17 = .ok (.getfield 88, 3) := by decide +kernel
theorem dX9_fly_20 : decode cX9_fly 20 = .ok (.iconst 0, 1) := by decide +kernel
theorem dX9_fly_21 : decode cX9_fly 21 = .ok (.aload_n 0, 1) := by decide +kernel
theorem dX9_fly_22 : decode cX9_fly 22 = .ok (.getfield 211, 3) := by decide +kernel
theorem dX9_fly_25 : decode cX9_fly 25 = .ok (.iastore, 1) := by decide +kernel
theorem dX9_fly_26 : decode cX9_fly 26 = .ok (.aload_n 0, 1) := by decide +kernel
theorem dX9_fly_27 : decode cX9_fly 27 = .ok (.getfield 88, 3) := by decide +kernel
theorem dX9_fly_30 : decode cX9_fly 30 = .ok (.iconst 1, 1) := by decide +kernel
theorem dX9_fly_31 : decode cX9_fly 31 = .ok (.aload_n 0, 1) := by decide +kernel
theorem dX9_fly_32 : decode cX9_fly 32 = .ok (.getfield 204, 3) := by decide +kernel
theorem dX9_fly_35 : decode cX9_fly 35 = .ok (.l2i, 1) := by decide +kernel
theorem dX9_fly_36 : decode cX9_fly 36 = .ok (.iastore, 1) := by decide +kernel
theorem dX9_fly_37 : decode cX9_fly 37 = .ok (.aload_n 0, 1) := by decide +kernel
theorem dX9_fly_38 : decode cX9_fly 38 = .ok (.getfield 88, 3) := by decide +kernel
theorem dX9_fly_41 : decode cX9_fly 41 = .ok (.iconst 2, 1) := by decide +kernel
theorem dX9_fly_42 : decode cX9_fly 42 = .ok (.aload_n 0, 1) := by decide +kernel
theorem dX9_fly_43 : decode cX9_fly 43 = .ok (.getfield 208, 3) := by decide +kernel
theorem dX9_fly_46 : decode cX9_fly 46 = .ok (.l2i, 1) := by decide +kernel
theorem dX9_fly_47 : decode cX9_fly 47 = .ok (.iastore, 1) := by decide +kernel
theorem dX9_fly_48 : decode cX9_fly 48 = .ok (.aload_n 0, 1) := by decide +kernel
theorem dX9_fly_49 : decode cX9_fly 49 = .ok (.getfield 88, 3) := by decide +kernel
theorem dX9_fly_52 : decode cX9_fly 52 = .ok (.iconst 3, 1) := by decide +kernel
theorem dX9_fly_53 : decode cX9_fly 53 = .ok (.aload_n 0, 1) := by decide +kernel
theorem dX9_fly_54 : decode cX9_fly 54 = .ok (.getfield 214, 3) := by decide +kernel
theorem dX9_fly_57 : decode cX9_fly 57 = .ok (.iastore, 1) := by decide +kernel
theorem dX9_fly_58 : decode cX9_fly 58 = .ok (.aload_n 0, 1) := by decide +kernel
theorem dX9_fly_59 : decode cX9_fly 59 = .ok (.getfield 88, 3) := by decide +kernel
theorem dX9_fly_62 : decode cX9_fly 62 = .ok (.iconst 4, 1) := by decide +kernel
theorem dX9_fly_63 : decode cX9_fly 63 = .ok (.aload_n 0, 1) := by decide +kernel
theorem dX9_fly_64 : decode cX9_fly 64 = .ok (.getfield 217, 3) := by decide +kernel
theorem dX9_fly_67 : decode cX9_fly 67 = .ok (.iastore, 1) := by decide +kernel
theorem dX9_fly_68 : decode cX9_fly 68 = .ok (.aload_n 0, 1) := by decide +kernel
theorem dX9_fly_69 : decode cX9_fly 69 = .ok (.getfield 88, 3) := by decide +kernel
theorem dX9_fly_72 : decode cX9_fly 72 = .ok (.iconst 5, 1) := by decide +kernel
theorem dX9_fly_73 : decode cX9_fly 73 = .ok (.aload_n 0, 1) := by decide +kernel
theorem dX9_fly_74 : decode cX9_fly 74 = .ok (.getfield 220, 3) := by decide +kernel
theorem dX9_fly_77 : decode cX9_fly 77 = .ok (.ifCond .ge 7, 3) := by decide +kernel
theorem dX9_fly_80 : decode cX9_fly 80 = .ok (.iconst (-1), 1) := by decide +kernel
theorem dX9_fly_81 : decode cX9_fly 81 = .ok (.goto 7, 3) := by decide +kernel
theorem dX9_fly_84 : decode cX9_fly 84 = .ok (.aload_n 0, 1) := by decide +kernel
theorem dX9_fly_85 : decode cX9_fly 85 = .ok (.getfield 220, 3) := by decide +kernel
theorem dX9_fly_88 : decode cX9_fly 88 = .ok (.iastore, 1) := by decide +kernel
theorem dX9_fly_89 : decode cX9_fly 89 = .ok (.aload_n 0, 1) := by decide +kernel
theorem dX9_fly_90 : decode cX9_fly 90 = .ok (.getfield 88, 3) := by decide +kernel
theorem dX9_fly_93 : decode cX9_fly 93 = .ok (.bipush 6, 2) := by decide +kernel
theorem dX9_fly_95 : decode cX9_fly 95 = .ok (.aload_n 0, 1) := by decide +kernel
theorem dX9_fly_96 : decode cX9_fly 96 = .ok (.getfield 194, 3) := by decide +kernel
theorem dX9_fly_99 : decode cX9_fly 99 = .ok (.iastore, 1) := by decide +kernel
theorem dX9_fly_100 : decode cX9_fly 100 = .ok (.aload_n 0, 1) := by decide +kernel
theorem dX9_fly_101 : decode cX9_fly 101 = .ok (.iconst 1, 1) := by decide +kernel
theorem dX9_fly_102 : decode cX9_fly 102 = .ok (.putfield 240, 3) := by decide +kernel
theorem dX9_fly_105 : decode cX9_fly 105 = .ok (.iload_n 1, 1) := by decide +kernel
theorem dX9_fly_106 : decode cX9_fly 106 = .ok (.ireturn, 1) := by decide +kernel
theorem dX9_flown_0 : decode cX9_flown 0 = .ok (.aload_n 0, 1) := by decide +kernel
theorem dX9_flown_1 : decode cX9_flown 1 = .ok (.getfield 240, 3) := by decide +kernel
theorem dX9_flown_4 : decode cX9_flown 4 = .ok (.ifCond .eq 24, 3) := by decide +kernel
theorem dX9_flown_7 : decode cX9_flown 7 = .ok (.iload_n 1, 1) := by decide +kernel
theorem dX9_flown_8 : decode cX9_flown 8 = .ok (.i2l, 1) := by decide +kernel
theorem dX9_flown_9 : decode cX9_flown 9 = .ok (.lconst 0, 1) := by decide +kernel
theorem dX9_flown_10 : decode cX9_flown 10 = .ok (.ldc2_w 244, 3) := by decide +kernel
theorem dX9_flown_13 : decode cX9_flown 13 = .ok (.invokestatic 115, 3) := by decide +kernel
theorem dX9_flown_16 : decode cX9_flown 16 = .ok (.ifCond .eq 12, 3) := by decide +kernel
theorem dX9_flown_19 : decode cX9_flown 19 = .ok (.aload_n 0, 1) := by decide +kernel
theorem dX9_flown_20 : decode cX9_flown 20 = .ok (.getfield 88, 3) := by decide +kernel
theorem dX9_flown_23 : decode cX9_flown 23 = .ok (.iload_n 1, 1) := by decide +kernel
theorem dX9_flown_24 : decode cX9_flown 24 = .ok (.iaload, 1) := by decide +kernel
theorem dX9_flown_25 : decode cX9_flown 25 = .ok (.goto 4, 3) := by decide +kernel
theorem dX9_flown_28 : decode cX9_flown 28 = .ok (.iconst (-1), 1) := by decide +kernel
theorem dX9_flown_29 : decode cX9_flown 29 = .ok (.ireturn, 1) := by decide +kernel
theorem dX9_out_0 : decode cX9_out 0 = .ok (.iload_n 1, 1) := by decide +kernel
theorem dX9_out_1 : decode cX9_out 1 = .ok (.i2l, 1) := by decide +kernel
theorem dX9_out_2 : decode cX9_out 2 = .ok (.lconst 0, 1) := by decide +kernel
theorem dX9_out_3 : decode cX9_out 3 = .ok (.ldc2_w 246, 3) := by decide +kernel
theorem dX9_out_6 : decode cX9_out 6 = .ok (.invokestatic 115, 3) := by decide +kernel
theorem dX9_out_9 : decode cX9_out 9 = .ok (.ifCond .ne 6, 3) := by decide +kernel
theorem dX9_out_12 : decode cX9_out 12 = .ok (.bipush (-2), 2) := by decide +kernel
theorem dX9_out_14 : decode cX9_out 14 = .ok (.ireturn, 1) := by decide +kernel
theorem dX9_out_15 : decode cX9_out 15 = .ok (.aload_n 0, 1) := by decide +kernel
theorem dX9_out_16 : decode cX9_out 16 = .ok (.invokevirtual 234, 3) := by decide +kernel
theorem dX9_out_19 : decode cX9_out 19 = .ok (.ifCond .eq 11, 3) := by decide +kernel
theorem dX9_out_22 : decode cX9_out 22 = .ok (.aload_n 0, 1) := by decide +kernel
theorem dX9_out_23 : decode cX9_out 23 = .ok (.iload_n 1, 1) := by decide +kernel
theorem dX9_out_24 : decode cX9_out 24 = .ok (.invokevirtual 237, 3) := by decide +kernel
theorem dX9_out_27 : decode cX9_out 27 = .ok (.goto 5, 3) := by decide +kernel
theorem dX9_out_30 : decode cX9_out 30 = .ok (.bipush (-3), 2) := by decide +kernel
theorem dX9_out_32 : decode cX9_out 32 = .ok (.ireturn, 1) := by decide +kernel
theorem dX9_safe_0 : decode cX9_safe 0 = .ok (.aload_n 0, 1) := by decide +kernel
theorem dX9_safe_1 : decode cX9_safe 1 = .ok (.invokevirtual 234, 3) := by decide +kernel
theorem dX9_safe_4 : decode cX9_safe 4 = .ok (.ifCond .ne 6, 3) := by decide +kernel
theorem dX9_safe_7 : decode cX9_safe 7 = .ok (.bipush (-3), 2) := by decide +kernel
theorem dX9_safe_9 : decode cX9_safe 9 = .ok (.ireturn, 1) := by decide +kernel
theorem dX9_safe_10 : decode cX9_safe 10 = .ok (.aload_n 0, 1) := by decide +kernel
theorem dX9_safe_11 : decode cX9_safe 11 = .ok (.iconst (-1), 1) := by decide +kernel
theorem dX9_safe_12 : decode cX9_safe 12 = .ok (.invokevirtual 237, 3) := by decide +kernel
theorem dX9_safe_15 : decode cX9_safe 15 = .ok (.istore_n 1, 1) := by decide +kernel
theorem dX9_safe_16 : decode cX9_safe 16 = .ok (.aload_n 0, 1) := by decide +kernel
theorem dX9_safe_17 : decode cX9_safe 17 = .ok (.getfield 211, 3) := by decide +kernel
theorem dX9_safe_20 : decode cX9_safe 20 = .ok (.istore_n 2, 1) := by decide +kernel
theorem dX9_safe_21 : decode cX9_safe 21 = .ok (.iconst 0, 1) := by decide +kernel
theorem dX9_safe_22 : decode cX9_safe 22 = .ok (.istore_n 3, 1) := by decide +kernel
theorem dX9_safe_23 : decode cX9_safe 23 = .ok (.iconst 0, 1) := by decide +kernel
theorem dX9_safe_24 : decode cX9_safe 24 = .ok (.istore 4, 2) := by decide +kernel
theorem dX9_safe_26 : decode cX9_safe 26 = .ok (.iload 4, 2) := by decide +kernel
theorem dX9_safe_28 : decode cX9_safe 28 = .ok (.iload_n 2, 1) := by decide +kernel
theorem dX9_safe_29 : decode cX9_safe 29 = .ok (.if_icmp .ge 26, 3) := by decide +kernel
theorem dX9_safe_32 : decode cX9_safe 32 = .ok (.iload_n 3, 1) := by decide +kernel
theorem dX9_safe_33 : decode cX9_safe 33 = .ok (.aload_n 0, 1) := by decide +kernel
theorem dX9_safe_34 : decode cX9_safe 34 = .ok (.iload 4, 2) := by decide +kernel
theorem dX9_safe_36 : decode cX9_safe 36 = .ok (.invokevirtual 237, 3) := by decide +kernel
theorem dX9_safe_39 : decode cX9_safe 39 = .ok (.ifCond .ne 7, 3) := by decide +kernel
theorem dX9_safe_42 : decode cX9_safe 42 = .ok (.iconst 1, 1) := by decide +kernel
theorem dX9_safe_43 : decode cX9_safe 43 = .ok (.goto 4, 3) := by decide +kernel
theorem dX9_safe_46 : decode cX9_safe 46 = .ok (.iconst 0, 1) := by decide +kernel
theorem dX9_safe_47 : decode cX9_safe 47 = .ok (.iadd, 1) := by decide +kernel
theorem dX9_safe_48 : decode cX9_safe 48 = .ok (.istore_n 3, 1) := by decide +kernel
theorem dX9_safe_49 : decode cX9_safe 49 = .ok (.iinc 4 1, 3) := by decide +kernel
theorem dX9_safe_52 : decode cX9_safe 52 = .ok (.goto (-26), 3) := by decide +kernel
theorem dX9_safe_55 : decode cX9_safe 55 = .ok (.iload_n 3, 1) := by decide +kernel
theorem dX9_safe_56 : decode cX9_safe 56 = .ok (.ireturn, 1) := by decide +kernel
theorem dX9_costOf_0 : decode cX9_costOf 0 = .ok (.aload_n 0, 1) := by decide +kernel
theorem dX9_costOf_1 : decode cX9_costOf 1 = .ok (.getfield 19, 3) := by decide +kernel
theorem dX9_costOf_4 : decode cX9_costOf 4 = .ok (.iload_n 1, 1) := by decide +kernel
theorem dX9_costOf_5 : decode cX9_costOf 5 = .ok (.iaload, 1) := by decide +kernel
theorem dX9_costOf_6 : decode cX9_costOf 6 = .ok (.istore_n 3, 1) := by decide +kernel
theorem dX9_costOf_7 : decode cX9_costOf 7 = .ok (.iconst 0, 1) := by decide +kernel
theorem dX9_costOf_8 : decode cX9_costOf 8 = .ok (.istore 4, 2) := by decide +kernel
theorem dX9_costOf_10 : decode cX9_costOf 10 = .ok (.iload 4, 2) := by decide +kernel
theorem dX9_costOf_12 : decode cX9_costOf 12 = .ok (.iload_n 2, 1) := by decide +kernel
theorem dX9_costOf_13 : decode cX9_costOf 13 = .ok (.if_icmp .ge 23, 3) := by decide +kernel
theorem dX9_costOf_16 : decode cX9_costOf 16 = .ok (.iload_n 3, 1) := by decide +kernel
theorem dX9_costOf_17 : decode cX9_costOf 17 = .ok (.ifCond .le 19, 3) := by decide +kernel
theorem dX9_costOf_20 : decode cX9_costOf 20 = .ok (.iload_n 3, 1) := by decide +kernel
theorem dX9_costOf_21 : decode cX9_costOf 21 = .ok (.aload_n 0, 1) := by decide +kernel
theorem dX9_costOf_22 : decode cX9_costOf 22 = .ok (.getfield 53, 3) := by decide +kernel
theorem dX9_costOf_25 : decode cX9_costOf 25 = .ok (.imul, 1) := by decide +kernel
theorem dX9_costOf_26 : decode cX9_costOf 26 = .ok (.bipush 100, 2) := by decide +kernel
theorem dX9_costOf_28 : decode cX9_costOf 28 = .ok (.idiv, 1) := by decide +kernel
theorem dX9_costOf_29 : decode cX9_costOf 29 = .ok (.istore_n 3, 1) := by decide +kernel
theorem dX9_costOf_30 : decode cX9_costOf 30 = .ok (.iinc 4 1, 3) := by decide +kernel
theorem dX9_costOf_33 : decode cX9_costOf 33 = .ok (.goto (-23), 3) := by decide +kernel
theorem dX9_costOf_36 : decode cX9_costOf 36 = .ok (.iload_n 3, 1) := by decide +kernel
theorem dX9_costOf_37 : decode cX9_costOf 37 = .ok (.iconst 1, 1) := by decide +kernel
theorem dX9_costOf_38 : decode cX9_costOf 38 = .ok (.if_icmp .ge 7, 3) := by decide +kernel
theorem dX9_costOf_41 : decode cX9_costOf 41 = .ok (.iconst 1, 1) := by decide +kernel
theorem dX9_costOf_42 : decode cX9_costOf 42 = .ok (.goto 4, 3) := by decide +kernel
theorem dX9_costOf_45 : decode cX9_costOf 45 = .ok (.iload_n 3, 1) := by decide +kernel
theorem dX9_costOf_46 : decode cX9_costOf 46 = .ok (.ireturn, 1) := by decide +kernel
theorem dX9_cost_0 : decode cX9_cost 0 = .ok (.aload_n 0, 1) := by decide +kernel
theorem dX9_cost_1 : decode cX9_cost 1 = .ok (.iload_n 1, 1) := by decide +kernel
theorem dX9_cost_2 : decode cX9_cost 2 = .ok (.invokevirtual 123, 3) := by decide +kernel
theorem dX9_cost_5 : decode cX9_cost 5 = .ok (.ifCond .ne 5, 3) := by decide +kernel
theorem dX9_cost_8 : decode cX9_cost 8 = .ok (.iconst (-1), 1) := by decide +kernel
theorem dX9_cost_9 : decode cX9_cost 9 = .ok (.ireturn, 1) := by decide +kernel
theorem dX9_cost_10 : decode cX9_cost 10 = .ok (.iload_n 2, 1) := by decide +kernel
theorem dX9_cost_11 : decode cX9_cost 11 = .ok (.i2l, 1) := by decide +kernel
theorem dX9_cost_12 : decode cX9_cost 12 = .ok (.lconst 0, 1) := by decide +kernel
theorem dX9_cost_13 : decode cX9_cost 13 = .ok (.ldc2_w 113, 3) := by decide +kernel
theorem dX9_cost_16 : decode cX9_cost 16 = .ok (.invokestatic 115, 3) := by decide +kernel
theorem dX9_cost_19 : decode cX9_cost 19 = .ok (.ifCond .eq 12, 3) := by decide +kernel
theorem dX9_cost_22 : decode cX9_cost 22 = .ok (.aload_n 0, 1) := by decide +kernel
theorem dX9_cost_23 : decode cX9_cost 23 = .ok (.iload_n 1, 1) := by decide +kernel
theorem dX9_cost_24 : decode cX9_cost 24 = .ok (.iload_n 2, 1) := by decide +kernel
theorem dX9_cost_25 : decode cX9_cost 25 = .ok (.invokevirtual 248, 3) := by decide +kernel
theorem dX9_cost_28 : decode cX9_cost 28 = .ok (.goto 5, 3) := by decide +kernel
theorem dX9_cost_31 : decode cX9_cost 31 = .ok (.bipush (-2), 2) := by decide +kernel
theorem dX9_cost_33 : decode cX9_cost 33 = .ok (.ireturn, 1) := by decide +kernel
theorem dX9_costs_0 : decode cX9_costs 0 = .ok (.iconst 0, 1) := by decide +kernel
theorem dX9_costs_1 : decode cX9_costs 1 = .ok (.istore_n 1, 1) := by decide +kernel
theorem dX9_costs_2 : decode cX9_costs 2 = .ok (.iconst 0, 1) := by decide +kernel
theorem dX9_costs_3 : decode cX9_costs 3 = .ok (.istore_n 2, 1) := by decide +kernel
theorem dX9_costs_4 : decode cX9_costs 4 = .ok (.iload_n 2, 1) := by decide +kernel
theorem dX9_costs_5 : decode cX9_costs 5 = .ok (.bipush 6, 2) := by decide +kernel
theorem dX9_costs_7 : decode cX9_costs 7 = .ok (.if_icmp .ge 16, 3) := by decide +kernel
theorem dX9_costs_10 : decode cX9_costs 10 = .ok (.aload_n 0, 1) := by decide +kernel
theorem dX9_costs_11 : decode cX9_costs 11 = .ok (.getfield 91, 3) := by decide +kernel
theorem dX9_costs_14 : decode cX9_costs 14 = .ok (.iload_n 2, 1) := by decide +kernel
theorem dX9_costs_15 : decode cX9_costs 15 = .ok (.iconst 0, 1) := by decide +kernel
theorem dX9_costs_16 : decode cX9_costs 16 = .ok (.iastore, 1) := by decide +kernel
theorem dX9_costs_17 : decode cX9_costs 17 = .ok (.iinc 2 1, 3) := by decide +kernel
theorem dX9_costs_20 : decode cX9_costs 20 = .ok (.goto (-16), 3) := by decide +kernel
theorem dX9_costs_23 : decode cX9_costs 23 = .ok (.iconst 0, 1) := by decide +kernel
theorem dX9_costs_24 : decode cX9_costs 24 = .ok (.istore_n 2, 1) := by decide +kernel
theorem dX9_costs_25 : decode cX9_costs 25 = .ok (.iload_n 2, 1) := by decide +kernel
theorem dX9_costs_26 : decode cX9_costs 26 = .ok (.aload_n 0, 1) := by decide +kernel
theorem dX9_costs_27 : decode cX9_costs 27 = .ok (.getfield 110, 3) := by decide +kernel
theorem dX9_costs_30 : decode cX9_costs 30 = .ok (.if_icmp .ge 56, 3) := by decide +kernel
theorem dX9_costs_33 : decode cX9_costs 33 = .ok (.aload_n 0, 1) := by decide +kernel
theorem dX9_costs_34 : decode cX9_costs 34 = .ok (.getfield 91, 3) := by decide +kernel
theorem dX9_costs_37 : decode cX9_costs 37 = .ok (.aload_n 0, 1) := by decide +kernel
theorem dX9_costs_38 : decode cX9_costs 38 = .ok (.getfield 28, 3) := by decide +kernel
theorem dX9_costs_41 : decode cX9_costs 41 = .ok (.iload_n 2, 1) := by decide +kernel
theorem dX9_costs_42 : decode cX9_costs 42 = .ok (.iaload, 1) := by decide +kernel
theorem dX9_costs_43 : decode cX9_costs 43 = .ok (.dup2, 1) := by decide +kernel
theorem dX9_costs_44 : decode cX9_costs 44 = .ok (.iaload, 1) := by decide +kernel
theorem dX9_costs_45 : decode cX9_costs 45 = .ok (.aload_n 0, 1) := by decide +kernel
theorem dX9_costs_46 : decode cX9_costs 46 = .ok (.getfield 31, 3) := by decide +kernel
theorem dX9_costs_49 : decode cX9_costs 49 = .ok (.iload_n 2, 1) := by decide +kernel
theorem dX9_costs_50 : decode cX9_costs 50 = .ok (.iaload, 1) := by decide +kernel
theorem dX9_costs_51 : decode cX9_costs 51 = .ok (.iadd, 1) := by decide +kernel
theorem dX9_costs_52 : decode cX9_costs 52 = .ok (.iastore, 1) := by decide +kernel
theorem dX9_costs_53 : decode cX9_costs 53 = .ok (.iload_n 1, 1) := by decide +kernel
theorem dX9_costs_54 : decode cX9_costs 54 = .ok (.aload_n 0, 1) := by decide +kernel
theorem dX9_costs_55 : decode cX9_costs 55 = .ok (.getfield 37, 3) := by decide +kernel
theorem dX9_costs_58 : decode cX9_costs 58 = .ok (.iload_n 2, 1) := by decide +kernel
theorem dX9_costs_59 : decode cX9_costs 59 = .ok (.iaload, 1) := by decide +kernel
theorem dX9_costs_60 : decode cX9_costs 60 = .ok (.aload_n 0, 1) := by decide +kernel
theorem dX9_costs_61 : decode cX9_costs 61 = .ok (.getfield 34, 3) := by decide +kernel
theorem dX9_costs_64 : decode cX9_costs 64 = .ok (.iload_n 2, 1) := by decide +kernel
theorem dX9_costs_65 : decode cX9_costs 65 = .ok (.iaload, 1) := by decide +kernel
theorem dX9_costs_66 : decode cX9_costs 66 = .ok (.ifCond .le 10, 3) := by decide +kernel
theorem dX9_costs_69 : decode cX9_costs 69 = .ok (.aload_n 0, 1) := by decide +kernel
theorem dX9_costs_70 : decode cX9_costs 70 = .ok (.getfield 50, 3) := by decide +kernel
theorem dX9_costs_73 : decode cX9_costs 73 = .ok (.goto 4, 3) := by decide +kernel
theorem dX9_costs_76 : decode cX9_costs 76 = .ok (.iconst 0, 1) := by decide +kernel
theorem dX9_costs_77 : decode cX9_costs 77 = .ok (.iadd, 1) := by decide +kernel
theorem dX9_costs_78 : decode cX9_costs 78 = .ok (.iadd, 1) := by decide +kernel
theorem dX9_costs_79 : decode cX9_costs 79 = .ok (.istore_n 1, 1) := by decide +kernel
theorem dX9_costs_80 : decode cX9_costs 80 = .ok (.iinc 2 1, 3) := by decide +kernel
theorem dX9_costs_83 : decode cX9_costs 83 = .ok (.goto (-58), 3) := by decide +kernel
theorem dX9_costs_86 : decode cX9_costs 86 = .ok (.iconst 0, 1) := by decide +kernel
theorem dX9_costs_87 : decode cX9_costs 87 = .ok (.istore_n 2, 1) := by decide +kernel
theorem dX9_costs_88 : decode cX9_costs 88 = .ok (.iload_n 2, 1) := by decide +kernel
theorem dX9_costs_89 : decode cX9_costs 89 = .ok (.aload_n 0, 1) := by decide +kernel
theorem dX9_costs_90 : decode cX9_costs 90 = .ok (.getfield 107, 3) := by decide +kernel
theorem dX9_costs_93 : decode cX9_costs 93 = .ok (.if_icmp .ge 55, 3) := by decide +kernel
theorem dX9_costs_96 : decode cX9_costs 96 = .ok (.aload_n 0, 1) := by decide +kernel
theorem dX9_costs_97 : decode cX9_costs 97 = .ok (.getfield 91, 3) := by decide +kernel
theorem dX9_costs_100 : decode cX9_costs 100 = .ok (.iload_n 2, 1) := by decide +kernel
theorem dX9_costs_101 : decode cX9_costs 101 = .ok (.iaload, 1) := by decide +kernel
theorem dX9_costs_102 : decode cX9_costs 102 = .ok (.aload_n 0, 1) := by decide +kernel
theorem dX9_costs_103 : decode cX9_costs 103 = .ok (.getfield 22, 3) := by decide +kernel
theorem dX9_costs_106 : decode cX9_costs 106 = .ok (.iload_n 2, 1) := by decide +kernel
theorem dX9_costs_107 : decode cX9_costs 107 = .ok (.iaload, 1) := by decide +kernel
theorem dX9_costs_108 : decode cX9_costs 108 = .ok (.isub, 1) := by decide +kernel
theorem dX9_costs_109 : decode cX9_costs 109 = .ok (.istore_n 3, 1) := by decide +kernel
theorem dX9_costs_110 : decode cX9_costs 110 = .ok (.iconst 0, 1) := by decide +kernel
theorem dX9_costs_111 : decode cX9_costs 111 = .ok (.istore 4, 2) := by decide +kernel
theorem dX9_costs_113 : decode cX9_costs 113 = .ok (.iload 4, 2) := by decide +kernel
theorem dX9_costs_115 : decode cX9_costs 115 = .ok (.iload_n 3, 1) := by decide +kernel
theorem dX9_costs_116 : decode cX9_costs 116 = .ok (.if_icmp .ge 26, 3) := by decide +kernel
theorem dX9_costs_119 : decode cX9_costs 119 = .ok (.iload_n 1, 1) := by decide +kernel
theorem dX9_costs_120 : decode cX9_costs 120 = .ok (.aload_n 0, 1) := by decide +kernel
theorem dX9_costs_121 : decode cX9_costs 121 = .ok (.iload_n 2, 1) := by decide +kernel
theorem dX9_costs_122 : decode cX9_costs 122 = .ok (.aload_n 0, 1) := by decide +kernel
theorem dX9_costs_123 : decode cX9_costs 123 = .ok (.getfield 25, 3) := by decide +kernel
theorem dX9_costs_126 : decode cX9_costs 126 = .ok (.iload_n 2, 1) := by decide +kernel
theorem dX9_costs_127 : decode cX9_costs 127 = .ok (.iaload, 1) := by decide +kernel
theorem dX9_costs_128 : decode cX9_costs 128 = .ok (.iload 4, 2) := by decide +kernel
theorem dX9_costs_130 : decode cX9_costs 130 = .ok (.iadd, 1) := by decide +kernel
theorem dX9_costs_131 : decode cX9_costs 131 = .ok (.invokevirtual 248, 3) := by decide +kernel
theorem dX9_costs_134 : decode cX9_costs 134 = .ok (.iadd, 1) := by decide +kernel
theorem dX9_costs_135 : decode cX9_costs 135 = .ok (.istore_n 1, 1) := by decide +kernel
theorem dX9_costs_136 : decode cX9_costs 136 = .ok (.iinc 4 1, 3) := by decide +kernel
theorem dX9_costs_139 : decode cX9_costs 139 = .ok (.goto (-26), 3) := by decide +kernel
theorem dX9_costs_142 : decode cX9_costs 142 = .ok (.iinc 2 1, 3) := by decide +kernel
theorem dX9_costs_145 : decode cX9_costs 145 = .ok (.goto (-57), 3) := by decide +kernel
theorem dX9_costs_148 : decode cX9_costs 148 = .ok (.iload_n 1, 1) := by decide +kernel
theorem dX9_costs_149 : decode cX9_costs 149 = .ok (.ireturn, 1) := by decide +kernel
theorem dX9_price_0 : decode cX9_price 0 = .ok (.aload_n 0, 1) := by decide +kernel
theorem dX9_price_1 : decode cX9_price 1 = .ok (.getfield 110, 3) := by decide +kernel
theorem dX9_price_4 : decode cX9_price 4 = .ok (.ifCond .ne 8, 3) := by decide +kernel
theorem dX9_price_7 : decode cX9_price 7 = .ok (.bipush (-3), 2) := by decide +kernel
theorem dX9_price_9 : decode cX9_price 9 = .ok (.goto 7, 3) := by decide +kernel
theorem dX9_price_12 : decode cX9_price 12 = .ok (.aload_n 0, 1) := by decide +kernel
theorem dX9_price_13 : decode cX9_price 13 = .ok (.invokevirtual 252, 3) := by decide +kernel
theorem dX9_price_16 : decode cX9_price 16 = .ok (.ireturn, 1) := by decide +kernel
theorem dX9_buy_0 : decode cX9_buy 0 = .ok (.aload_n 0, 1) := by decide +kernel
theorem dX9_buy_1 : decode cX9_buy 1 = .ok (.getfield 110, 3) := by decide +kernel
theorem dX9_buy_4 : decode cX9_buy 4 = .ok (.ifCond .ne 6, 3) := by decide +kernel
theorem dX9_buy_7 : decode cX9_buy 7 = .ok (.bipush (-3), 2) := by decide +kernel
theorem dX9_buy_9 : decode cX9_buy 9 = .ok (.ireturn, 1) := by decide +kernel
theorem dX9_buy_10 : decode cX9_buy 10 = .ok (.aload_n 0, 1) := by decide +kernel
theorem dX9_buy_11 : decode cX9_buy 11 = .ok (.invokevirtual 252, 3) := by decide +kernel
theorem dX9_buy_14 : decode cX9_buy 14 = .ok (.istore_n 1, 1) := by decide +kernel
theorem dX9_buy_15 : decode cX9_buy 15 = .ok (.iconst 0, 1) := by decide +kernel
theorem dX9_buy_16 : decode cX9_buy 16 = .ok (.istore_n 2, 1) := by decide +kernel
theorem dX9_buy_17 : decode cX9_buy 17 = .ok (.iload_n 2, 1) := by decide +kernel
theorem dX9_buy_18 : decode cX9_buy 18 = .ok (.aload_n 0, 1) := by decide +kernel
theorem dX9_buy_19 : decode cX9_buy 19 = .ok (.getfield 107, 3) := by decide +kernel
theorem dX9_buy_22 : decode cX9_buy 22 = .ok (.if_icmp .ge 44, 3) := by decide +kernel
theorem dX9_buy_25 : decode cX9_buy 25 = .ok (.aload_n 0, 1) := by decide +kernel
theorem dX9_buy_26 : decode cX9_buy 26 = .ok (.getfield 91, 3) := by decide +kernel
theorem dX9_buy_29 : decode cX9_buy 29 = .ok (.iload_n 2, 1) := by decide +kernel
theorem dX9_buy_30 : decode cX9_buy 30 = .ok (.iaload, 1) := by decide +kernel
theorem dX9_buy_31 : decode cX9_buy 31 = .ok (.aload_n 0, 1) := by decide +kernel
theorem dX9_buy_32 : decode cX9_buy 32 = .ok (.getfield 22, 3) := by decide +kernel
theorem dX9_buy_35 : decode cX9_buy 35 = .ok (.iload_n 2, 1) := by decide +kernel
theorem dX9_buy_36 : decode cX9_buy 36 = .ok (.iaload, 1) := by decide +kernel
theorem dX9_buy_37 : decode cX9_buy 37 = .ok (.isub, 1) := by decide +kernel
theorem dX9_buy_38 : decode cX9_buy 38 = .ok (.istore_n 3, 1) := by decide +kernel
theorem dX9_buy_39 : decode cX9_buy 39 = .ok (.iload_n 3, 1) := by decide +kernel
theorem dX9_buy_40 : decode cX9_buy 40 = .ok (.ifCond .le 20, 3) := by decide +kernel
theorem dX9_buy_43 : decode cX9_buy 43 = .ok (.aload_n 0, 1) := by decide +kernel
theorem dX9_buy_44 : decode cX9_buy 44 = .ok (.getfield 25, 3) := by decide +kernel
theorem dX9_buy_47 : decode cX9_buy 47 = .ok (.iload_n 2, 1) := by decide +kernel
theorem dX9_buy_48 : decode cX9_buy 48 = .ok (.iaload, 1) := by decide +kernel
theorem dX9_buy_49 : decode cX9_buy 49 = .ok (.iload_n 3, 1) := by decide +kernel
theorem dX9_buy_50 : decode cX9_buy 50 = .ok (.iadd, 1) := by decide +kernel
theorem dX9_buy_51 : decode cX9_buy 51 = .ok (.sipush 900, 3) := by decide +kernel
theorem dX9_buy_54 : decode cX9_buy 54 = .ok (.if_icmp .le 6, 3) := by decide +kernel
theorem dX9_buy_57 : decode cX9_buy 57 = .ok (.bipush (-4), 2) := by decide +kernel
theorem dX9_buy_59 : decode cX9_buy 59 = .ok (.ireturn, 1) := by decide +kernel
theorem dX9_buy_60 : decode cX9_buy 60 = .ok (.iinc 2 1, 3) := by decide +kernel
theorem dX9_buy_63 : decode cX9_buy 63 = .ok (.goto (-46), 3) := by decide +kernel
theorem dX9_buy_66 : decode cX9_buy 66 = .ok (.iconst 0, 1) := by decide +kernel
theorem dX9_buy_67 : decode cX9_buy 67 = .ok (.istore_n 2, 1) := by decide +kernel
theorem dX9_buy_68 : decode cX9_buy 68 = .ok (.iload_n 2, 1) := by decide +kernel
theorem dX9_buy_69 : decode cX9_buy 69 = .ok (.aload_n 0, 1) := by decide +kernel
theorem dX9_buy_70 : decode cX9_buy 70 = .ok (.getfield 107, 3) := by decide +kernel
theorem dX9_buy_73 : decode cX9_buy 73 = .ok (.if_icmp .ge 57, 3) := by decide +kernel
theorem dX9_buy_76 : decode cX9_buy 76 = .ok (.aload_n 0, 1) := by decide +kernel
theorem dX9_buy_77 : decode cX9_buy 77 = .ok (.getfield 91, 3) := by decide +kernel
theorem dX9_buy_80 : decode cX9_buy 80 = .ok (.iload_n 2, 1) := by decide +kernel
theorem dX9_buy_81 : decode cX9_buy 81 = .ok (.iaload, 1) := by decide +kernel
theorem dX9_buy_82 : decode cX9_buy 82 = .ok (.aload_n 0, 1) := by decide +kernel
theorem dX9_buy_83 : decode cX9_buy 83 = .ok (.getfield 22, 3) := by decide +kernel
theorem dX9_buy_86 : decode cX9_buy 86 = .ok (.iload_n 2, 1) := by decide +kernel
theorem dX9_buy_87 : decode cX9_buy 87 = .ok (.iaload, 1) := by decide +kernel
theorem dX9_buy_88 : decode cX9_buy 88 = .ok (.isub, 1) := by decide +kernel
theorem dX9_buy_89 : decode cX9_buy 89 = .ok (.istore_n 3, 1) := by decide +kernel
theorem dX9_buy_90 : decode cX9_buy 90 = .ok (.aload_n 0, 1) := by decide +kernel
theorem dX9_buy_91 : decode cX9_buy 91 = .ok (.getfield 25, 3) := by decide +kernel
theorem dX9_buy_94 : decode cX9_buy 94 = .ok (.iload_n 2, 1) := by decide +kernel
theorem dX9_buy_95 : decode cX9_buy 95 = .ok (.dup2, 1) := by decide +kernel
theorem dX9_buy_96 : decode cX9_buy 96 = .ok (.iaload, 1) := by decide +kernel
theorem dX9_buy_97 : decode cX9_buy 97 = .ok (.iload_n 3, 1) := by decide +kernel
theorem dX9_buy_98 : decode cX9_buy 98 = .ok (.ifCond .le 7, 3) := by decide +kernel
theorem dX9_buy_101 : decode cX9_buy 101 = .ok (.iload_n 3, 1) := by decide +kernel
theorem dX9_buy_102 : decode cX9_buy 102 = .ok (.goto 4, 3) := by decide +kernel
theorem dX9_buy_105 : decode cX9_buy 105 = .ok (.iconst 0, 1) := by decide +kernel
theorem dX9_buy_106 : decode cX9_buy 106 = .ok (.iadd, 1) := by decide +kernel
theorem dX9_buy_107 : decode cX9_buy 107 = .ok (.iastore, 1) := by decide +kernel
theorem dX9_buy_108 : decode cX9_buy 108 = .ok (.aload_n 0, 1) := by decide +kernel
theorem dX9_buy_109 : decode cX9_buy 109 = .ok (.getfield 22, 3) := by decide +kernel
theorem dX9_buy_112 : decode cX9_buy 112 = .ok (.iload_n 2, 1) := by decide +kernel
theorem dX9_buy_113 : decode cX9_buy 113 = .ok (.iload_n 3, 1) := by decide +kernel
theorem dX9_buy_114 : decode cX9_buy 114 = .ok (.ifCond .le 7, 3) := by decide +kernel
theorem dX9_buy_117 : decode cX9_buy 117 = .ok (.iconst 0, 1) := by decide +kernel
theorem dX9_buy_118 : decode cX9_buy 118 = .ok (.goto 5, 3) := by decide +kernel
theorem dX9_buy_121 : decode cX9_buy 121 = .ok (.iload_n 3, 1) := by decide +kernel
theorem dX9_buy_122 : decode cX9_buy 122 = .ok (.ineg, 1) := by decide +kernel
theorem dX9_buy_123 : decode cX9_buy 123 = .ok (.iastore, 1) := by decide +kernel
theorem dX9_buy_124 : decode cX9_buy 124 = .ok (.iinc 2 1, 3) := by decide +kernel
theorem dX9_buy_127 : decode cX9_buy 127 = .ok (.goto (-59), 3) := by decide +kernel
theorem dX9_buy_130 : decode cX9_buy 130 = .ok (.iload_n 1, 1) := by decide +kernel
theorem dX9_buy_131 : decode cX9_buy 131 = .ok (.ireturn, 1) := by decide +kernel
theorem dX9_keeping_0 : decode cX9_keeping 0 = .ok (.aload_n 0, 1) := by decide +kernel
theorem dX9_keeping_1 : decode cX9_keeping 1 = .ok (.iload_n 1, 1) := by decide +kernel
theorem dX9_keeping_2 : decode cX9_keeping 2 = .ok (.invokevirtual 131, 3) := by decide +kernel
theorem dX9_keeping_5 : decode cX9_keeping 5 = .ok (.ifCond .ne 5, 3) := by decide +kernel
theorem dX9_keeping_8 : decode cX9_keeping 8 = .ok (.iconst (-1), 1) := by decide +kernel
theorem dX9_keeping_9 : decode cX9_keeping 9 = .ok (.ireturn, 1) := by decide +kernel
theorem dX9_keeping_10 : decode cX9_keeping 10 = .ok (.iload_n 2, 1) := by decide +kernel
theorem dX9_keeping_11 : decode cX9_keeping 11 = .ok (.i2l, 1) := by decide +kernel
theorem dX9_keeping_12 : decode cX9_keeping 12 = .ok (.lconst 0, 1) := by decide +kernel
theorem dX9_keeping_13 : decode cX9_keeping 13 = .ok (.ldc2_w 138, 3) := by decide +kernel
theorem dX9_keeping_16 : decode cX9_keeping 16 = .ok (.invokestatic 115, 3) := by decide +kernel
theorem dX9_keeping_19 : decode cX9_keeping 19 = .ok (.ifCond .eq 13, 3) := by decide +kernel
theorem dX9_keeping_22 : decode cX9_keeping 22 = .ok (.iload_n 2, 1) := by decide +kernel
theorem dX9_keeping_23 : decode cX9_keeping 23 = .ok (.aload_n 0, 1) := by decide +kernel
theorem dX9_keeping_24 : decode cX9_keeping 24 = .ok (.getfield 34, 3) := by decide +kernel
theorem dX9_keeping_27 : decode cX9_keeping 27 = .ok (.iload_n 1, 1) := by decide +kernel
theorem dX9_keeping_28 : decode cX9_keeping 28 = .ok (.iaload, 1) := by decide +kernel
theorem dX9_keeping_29 : decode cX9_keeping 29 = .ok (.if_icmp .le 6, 3) := by decide +kernel
theorem dX9_keeping_32 : decode cX9_keeping 32 = .ok (.bipush (-2), 2) := by decide +kernel
theorem dX9_keeping_34 : decode cX9_keeping 34 = .ok (.ireturn, 1) := by decide +kernel
theorem dX9_keeping_35 : decode cX9_keeping 35 = .ok (.aload_n 0, 1) := by decide +kernel
theorem dX9_keeping_36 : decode cX9_keeping 36 = .ok (.getfield 13, 3) := by decide +kernel
theorem dX9_keeping_39 : decode cX9_keeping 39 = .ok (.aload_n 0, 1) := by decide +kernel
theorem dX9_keeping_40 : decode cX9_keeping 40 = .ok (.getfield 28, 3) := by decide +kernel
theorem dX9_keeping_43 : decode cX9_keeping 43 = .ok (.iload_n 1, 1) := by decide +kernel
theorem dX9_keeping_44 : decode cX9_keeping 44 = .ok (.iaload, 1) := by decide +kernel
theorem dX9_keeping_45 : decode cX9_keeping 45 = .ok (.iaload, 1) := by decide +kernel
theorem dX9_keeping_46 : decode cX9_keeping 46 = .ok (.aload_n 0, 1) := by decide +kernel
theorem dX9_keeping_47 : decode cX9_keeping 47 = .ok (.iload_n 1, 1) := by decide +kernel
theorem dX9_keeping_48 : decode cX9_keeping 48 = .ok (.invokevirtual 150, 3) := by decide +kernel
theorem dX9_keeping_51 : decode cX9_keeping 51 = .ok (.aload_n 0, 1) := by decide +kernel
theorem dX9_keeping_52 : decode cX9_keeping 52 = .ok (.getfield 34, 3) := by decide +kernel
theorem dX9_keeping_55 : decode cX9_keeping 55 = .ok (.iload_n 1, 1) := by decide +kernel
theorem dX9_keeping_56 : decode cX9_keeping 56 = .ok (.iaload, 1) := by decide +kernel
theorem dX9_keeping_57 : decode cX9_keeping 57 = .ok (.iload_n 2, 1) := by decide +kernel
theorem dX9_keeping_58 : decode cX9_keeping 58 = .ok (.isub, 1) := by decide +kernel
theorem dX9_keeping_59 : decode cX9_keeping 59 = .ok (.invokestatic 153, 3) := by decide +kernel
theorem dX9_keeping_62 : decode cX9_keeping 62 = .ok (.l2i, 1) := by decide +kernel
theorem dX9_keeping_63 : decode cX9_keeping 63 = .ok (.ireturn, 1) := by decide +kernel
theorem dX9_even_0 : decode cX9_even 0 = .ok (.aload_n 0, 1) := by decide +kernel
theorem dX9_even_1 : decode cX9_even 1 = .ok (.iload_n 1, 1) := by decide +kernel
theorem dX9_even_2 : decode cX9_even 2 = .ok (.invokevirtual 131, 3) := by decide +kernel
theorem dX9_even_5 : decode cX9_even 5 = .ok (.ifCond .ne 5, 3) := by decide +kernel
theorem dX9_even_8 : decode cX9_even 8 = .ok (.iconst (-1), 1) := by decide +kernel
theorem dX9_even_9 : decode cX9_even 9 = .ok (.ireturn, 1) := by decide +kernel
theorem dX9_even_10 : decode cX9_even 10 = .ok (.iload_n 2, 1) := by decide +kernel
theorem dX9_even_11 : decode cX9_even 11 = .ok (.i2l, 1) := by decide +kernel
theorem dX9_even_12 : decode cX9_even 12 = .ok (.lconst 0, 1) := by decide +kernel
theorem dX9_even_13 : decode cX9_even 13 = .ok (.ldc2_w 255, 3) := by decide +kernel
theorem dX9_even_16 : decode cX9_even 16 = .ok (.invokestatic 115, 3) := by decide +kernel
theorem dX9_even_19 : decode cX9_even 19 = .ok (.ifCond .eq 15, 3) := by decide +kernel
theorem dX9_even_22 : decode cX9_even 22 = .ok (.iload_n 3, 1) := by decide +kernel
theorem dX9_even_23 : decode cX9_even 23 = .ok (.i2l, 1) := by decide +kernel
theorem dX9_even_24 : decode cX9_even 24 = .ok (.lconst 0, 1) := by decide +kernel
theorem dX9_even_25 : decode cX9_even 25 = .ok (.ldc2_w 257, 3) := by decide +kernel
theorem dX9_even_28 : decode cX9_even 28 = .ok (.invokestatic 115, 3) := by decide +kernel
theorem dX9_even_31 : decode cX9_even 31 = .ok (.ifCond .ne 6, 3) := by decide +kernel
theorem dX9_even_34 : decode cX9_even 34 = .ok (.bipush (-2), 2) := by decide +kernel
theorem dX9_even_36 : decode cX9_even 36 = .ok (.ireturn, 1) := by decide +kernel
theorem dX9_even_37 : decode cX9_even 37 = .ok (.aload_n 0, 1) := by decide +kernel
theorem dX9_even_38 : decode cX9_even 38 = .ok (.getfield 19, 3) := by decide +kernel
theorem dX9_even_41 : decode cX9_even 41 = .ok (.aload_n 0, 1) := by decide +kernel
theorem dX9_even_42 : decode cX9_even 42 = .ok (.getfield 28, 3) := by decide +kernel
theorem dX9_even_45 : decode cX9_even 45 = .ok (.iload_n 1, 1) := by decide +kernel
theorem dX9_even_46 : decode cX9_even 46 = .ok (.iaload, 1) := by decide +kernel
theorem dX9_even_47 : decode cX9_even 47 = .ok (.iaload, 1) := by decide +kernel
theorem dX9_even_48 : decode cX9_even 48 = .ok (.i2l, 1) := by decide +kernel
theorem dX9_even_49 : decode cX9_even 49 = .ok (.aload_n 0, 1) := by decide +kernel
theorem dX9_even_50 : decode cX9_even 50 = .ok (.getfield 31, 3) := by decide +kernel
theorem dX9_even_53 : decode cX9_even 53 = .ok (.iload_n 1, 1) := by decide +kernel
theorem dX9_even_54 : decode cX9_even 54 = .ok (.iaload, 1) := by decide +kernel
theorem dX9_even_55 : decode cX9_even 55 = .ok (.i2l, 1) := by decide +kernel
theorem dX9_even_56 : decode cX9_even 56 = .ok (.lmul, 1) := by decide +kernel
theorem dX9_even_57 : decode cX9_even 57 = .ok (.lstore 4, 2) := by decide +kernel
theorem dX9_even_59 : decode cX9_even 59 = .ok (.iconst 1, 1) := by decide +kernel
theorem dX9_even_60 : decode cX9_even 60 = .ok (.istore 6, 2) := by decide +kernel
theorem dX9_even_62 : decode cX9_even 62 = .ok (.iload 6, 2) := by decide +kernel
theorem dX9_even_64 : decode cX9_even 64 = .ok (.bipush 100, 2) := by decide +kernel
theorem dX9_even_66 : decode cX9_even 66 = .ok (.if_icmp .gt 50, 3) := by decide +kernel
theorem dX9_even_69 : decode cX9_even 69 = .ok (.ldc2_w 138, 3) := by decide +kernel
theorem dX9_even_72 : decode cX9_even 72 = .ok (.lload 4, 2) := by decide +kernel
theorem dX9_even_74 : decode cX9_even 74 = .ok (.lmul, 1) := by decide +kernel
theorem dX9_even_75 : decode cX9_even 75 = .ok (.ldc2_w 138, 3) := by decide +kernel
theorem dX9_even_78 : decode cX9_even 78 = .ok (.iload_n 3, 1) := by decide +kernel
theorem dX9_even_79 : decode cX9_even 79 = .ok (.i2l, 1) := by decide +kernel
theorem dX9_even_80 : decode cX9_even 80 = .ok (.lmul, 1) := by decide +kernel
theorem dX9_even_81 : decode cX9_even 81 = .ok (.ladd, 1) := by decide +kernel
theorem dX9_even_82 : decode cX9_even 82 = .ok (.iload 6, 2) := by decide +kernel
theorem dX9_even_84 : decode cX9_even 84 = .ok (.iconst 1, 1) := by decide +kernel
theorem dX9_even_85 : decode cX9_even 85 = .ok (.isub, 1) := by decide +kernel
theorem dX9_even_86 : decode cX9_even 86 = .ok (.iload_n 2, 1) := by decide +kernel
theorem dX9_even_87 : decode cX9_even 87 = .ok (.imul, 1) := by decide +kernel
theorem dX9_even_88 : decode cX9_even 88 = .ok (.i2l, 1) := by decide +kernel
theorem dX9_even_89 : decode cX9_even 89 = .ok (.lload 4, 2) := by decide +kernel
theorem dX9_even_91 : decode cX9_even 91 = .ok (.lmul, 1) := by decide +kernel
theorem dX9_even_92 : decode cX9_even 92 = .ok (.ladd, 1) := by decide +kernel
theorem dX9_even_93 : decode cX9_even 93 = .ok (.ldc2_w 138, 3) := by decide +kernel
theorem dX9_even_96 : decode cX9_even 96 = .ok (.iload 6, 2) := by decide +kernel
theorem dX9_even_98 : decode cX9_even 98 = .ok (.i2l, 1) := by decide +kernel
theorem dX9_even_99 : decode cX9_even 99 = .ok (.lmul, 1) := by decide +kernel
theorem dX9_even_100 : decode cX9_even 100 = .ok (.lload 4, 2) := by decide +kernel
theorem dX9_even_102 : decode cX9_even 102 = .ok (.lmul, 1) := by decide +kernel
theorem dX9_even_103 : decode cX9_even 103 = .ok (.lcmp, 1) := by decide +kernel
theorem dX9_even_104 : decode cX9_even 104 = .ok (.ifCond .ge 6, 3) := by decide +kernel
theorem dX9_even_107 : decode cX9_even 107 = .ok (.iload 6, 2) := by decide +kernel
theorem dX9_even_109 : decode cX9_even 109 = .ok (.ireturn, 1) := by decide +kernel
theorem dX9_even_110 : decode cX9_even 110 = .ok (.iinc 6 1, 3) := by decide +kernel
theorem dX9_even_113 : decode cX9_even 113 = .ok (.goto (-51), 3) := by decide +kernel
theorem dX9_even_116 : decode cX9_even 116 = .ok (.bipush (-5), 2) := by decide +kernel
theorem dX9_even_118 : decode cX9_even 118 = .ok (.ireturn, 1) := by decide +kernel
theorem dX9_flight_0 : decode cX9_flight 0 = .ok (.iload_n 1, 1) := by decide +kernel
theorem dX9_flight_1 : decode cX9_flight 1 = .ok (.i2l, 1) := by decide +kernel
end
section
theorem dX9_flight_2 : decode cX9_flight 2 = .ok (.lconst 0, 1) := by decide +kernel
theorem dX9_flight_3 : decode cX9_flight 3 = .ok (.ldc2_w 127, 3) := by decide +kernel
theorem dX9_flight_6 : decode cX9_flight 6 = .ok (.invokestatic 115, 3) := by decide +kernel
theorem dX9_flight_9 : decode cX9_flight 9 = .ok (.ifCond .eq 53, 3) := by decide +kernel
theorem dX9_flight_12 : decode cX9_flight 12 = .ok (.iload_n 2, 1) := by decide +kernel
theorem dX9_flight_13 : decode cX9_flight 13 = .ok (.i2l, 1) := by decide +kernel
theorem dX9_flight_14 : decode cX9_flight 14 = .ok (.lconst 0, 1) := by decide +kernel
theorem dX9_flight_15 : decode cX9_flight 15 = .ok (.ldc2_w 127, 3) := by decide +kernel
theorem dX9_flight_18 : decode cX9_flight 18 = .ok (.invokestatic 115, 3) := by decide +kernel
theorem dX9_flight_21 : decode cX9_flight 21 = .ok (.ifCond .eq 41, 3) := by decide +kernel
theorem dX9_flight_24 : decode cX9_flight 24 = .ok (.iload_n 3, 1) := by decide +kernel
theorem dX9_flight_25 : decode cX9_flight 25 = .ok (.i2l, 1) := by decide +kernel
theorem dX9_flight_26 : decode cX9_flight 26 = .ok (.lconst 0, 1) := by decide +kernel
theorem dX9_flight_27 : decode cX9_flight 27 = .ok (.ldc2_w 127, 3) := by decide +kernel
theorem dX9_flight_30 : decode cX9_flight 30 = .ok (.invokestatic 115, 3) := by decide +kernel
theorem dX9_flight_33 : decode cX9_flight 33 = .ok (.ifCond .eq 29, 3) := by decide +kernel
theorem dX9_flight_36 : decode cX9_flight 36 = .ok (.iload 4, 2) := by decide +kernel
theorem dX9_flight_38 : decode cX9_flight 38 = .ok (.i2l, 1) := by decide +kernel
theorem dX9_flight_39 : decode cX9_flight 39 = .ok (.lconst 0, 1) := by decide +kernel
theorem dX9_flight_40 : decode cX9_flight 40 = .ok (.ldc2_w 259, 3) := by decide +kernel
theorem dX9_flight_43 : decode cX9_flight 43 = .ok (.invokestatic 115, 3) := by decide +kernel
theorem dX9_flight_46 : decode cX9_flight 46 = .ok (.ifCond .eq 16, 3) := by decide +kernel
theorem dX9_flight_49 : decode cX9_flight 49 = .ok (.iload 5, 2) := by decide +kernel
theorem dX9_flight_51 : decode cX9_flight 51 = .ok (.i2l, 1) := by decide +kernel
theorem dX9_flight_52 : decode cX9_flight 52 = .ok (.lconst 0, 1) := by decide +kernel
theorem dX9_flight_53 : decode cX9_flight 53 = .ok (.ldc2_w 113, 3) := by decide +kernel
theorem dX9_flight_56 : decode cX9_flight 56 = .ok (.invokestatic 115, 3) := by decide +kernel
theorem dX9_flight_59 : decode cX9_flight 59 = .ok (.ifCond .ne 6, 3) := by decide +kernel
theorem dX9_flight_62 : decode cX9_flight 62 = .ok (.bipush (-2), 2) := by decide +kernel
theorem dX9_flight_64 : decode cX9_flight 64 = .ok (.ireturn, 1) := by decide +kernel
theorem dX9_flight_65 : decode cX9_flight 65 = .ok (.aload_n 0, 1) := by decide +kernel
theorem dX9_flight_66 : decode cX9_flight 66 = .ok (.getfield 261, 3) := by decide +kernel
theorem dX9_flight_69 : decode cX9_flight 69 = .ok (.bipush 10, 2) := by decide +kernel
theorem dX9_flight_71 : decode cX9_flight 71 = .ok (.if_icmp .ne 6, 3) := by decide +kernel
theorem dX9_flight_74 : decode cX9_flight 74 = .ok (.bipush (-4), 2) := by decide +kernel
theorem dX9_flight_76 : decode cX9_flight 76 = .ok (.ireturn, 1) := by decide +kernel
theorem dX9_flight_77 : decode cX9_flight 77 = .ok (.aload_n 0, 1) := by decide +kernel
theorem dX9_flight_78 : decode cX9_flight 78 = .ok (.getfield 94, 3) := by decide +kernel
theorem dX9_flight_81 : decode cX9_flight 81 = .ok (.iconst 3, 1) := by decide +kernel
theorem dX9_flight_82 : decode cX9_flight 82 = .ok (.aload_n 0, 1) := by decide +kernel
theorem dX9_flight_83 : decode cX9_flight 83 = .ok (.getfield 261, 3) := by decide +kernel
theorem dX9_flight_86 : decode cX9_flight 86 = .ok (.imul, 1) := by decide +kernel
theorem dX9_flight_87 : decode cX9_flight 87 = .ok (.iload_n 1, 1) := by decide +kernel
theorem dX9_flight_88 : decode cX9_flight 88 = .ok (.iastore, 1) := by decide +kernel
theorem dX9_flight_89 : decode cX9_flight 89 = .ok (.aload_n 0, 1) := by decide +kernel
theorem dX9_flight_90 : decode cX9_flight 90 = .ok (.getfield 94, 3) := by decide +kernel
theorem dX9_flight_93 : decode cX9_flight 93 = .ok (.iconst 3, 1) := by decide +kernel
theorem dX9_flight_94 : decode cX9_flight 94 = .ok (.aload_n 0, 1) := by decide +kernel
theorem dX9_flight_95 : decode cX9_flight 95 = .ok (.getfield 261, 3) := by decide +kernel
theorem dX9_flight_98 : decode cX9_flight 98 = .ok (.imul, 1) := by decide +kernel
theorem dX9_flight_99 : decode cX9_flight 99 = .ok (.iconst 1, 1) := by decide +kernel
theorem dX9_flight_100 : decode cX9_flight 100 = .ok (.iadd, 1) := by decide +kernel
theorem dX9_flight_101 : decode cX9_flight 101 = .ok (.iload_n 2, 1) := by decide +kernel
theorem dX9_flight_102 : decode cX9_flight 102 = .ok (.iastore, 1) := by decide +kernel
theorem dX9_flight_103 : decode cX9_flight 103 = .ok (.aload_n 0, 1) := by decide +kernel
theorem dX9_flight_104 : decode cX9_flight 104 = .ok (.getfield 94, 3) := by decide +kernel
theorem dX9_flight_107 : decode cX9_flight 107 = .ok (.iconst 3, 1) := by decide +kernel
theorem dX9_flight_108 : decode cX9_flight 108 = .ok (.aload_n 0, 1) := by decide +kernel
theorem dX9_flight_109 : decode cX9_flight 109 = .ok (.getfield 261, 3) := by decide +kernel
theorem dX9_flight_112 : decode cX9_flight 112 = .ok (.imul, 1) := by decide +kernel
theorem dX9_flight_113 : decode cX9_flight 113 = .ok (.iconst 2, 1) := by decide +kernel
theorem dX9_flight_114 : decode cX9_flight 114 = .ok (.iadd, 1) := by decide +kernel
theorem dX9_flight_115 : decode cX9_flight 115 = .ok (.iload_n 3, 1) := by decide +kernel
theorem dX9_flight_116 : decode cX9_flight 116 = .ok (.iastore, 1) := by decide +kernel
theorem dX9_flight_117 : decode cX9_flight 117 = .ok (.aload_n 0, 1) := by decide +kernel
theorem dX9_flight_118 : decode cX9_flight 118 = .ok (.getfield 97, 3) := by decide +kernel
theorem dX9_flight_121 : decode cX9_flight 121 = .ok (.aload_n 0, 1) := by decide +kernel
theorem dX9_flight_122 : decode cX9_flight 122 = .ok (.getfield 261, 3) := by decide +kernel
theorem dX9_flight_125 : decode cX9_flight 125 = .ok (.iload 4, 2) := by decide +kernel
theorem dX9_flight_127 : decode cX9_flight 127 = .ok (.iastore, 1) := by decide +kernel
theorem dX9_flight_128 : decode cX9_flight 128 = .ok (.aload_n 0, 1) := by decide +kernel
theorem dX9_flight_129 : decode cX9_flight 129 = .ok (.getfield 100, 3) := by decide +kernel
theorem dX9_flight_132 : decode cX9_flight 132 = .ok (.aload_n 0, 1) := by decide +kernel
theorem dX9_flight_133 : decode cX9_flight 133 = .ok (.getfield 261, 3) := by decide +kernel
theorem dX9_flight_136 : decode cX9_flight 136 = .ok (.iload 5, 2) := by decide +kernel
theorem dX9_flight_138 : decode cX9_flight 138 = .ok (.iastore, 1) := by decide +kernel
theorem dX9_flight_139 : decode cX9_flight 139 = .ok (.aload_n 0, 1) := by decide +kernel
theorem dX9_flight_140 : decode cX9_flight 140 = .ok (.dup, 1) := by decide +kernel
theorem dX9_flight_141 : decode cX9_flight 141 = .ok (.getfield 261, 3) := by decide +kernel
theorem dX9_flight_144 : decode cX9_flight 144 = .ok (.iconst 1, 1) := by decide +kernel
theorem dX9_flight_145 : decode cX9_flight 145 = .ok (.iadd, 1) := by decide +kernel
theorem dX9_flight_146 : decode cX9_flight 146 = .ok (.putfield 261, 3) := by decide +kernel
theorem dX9_flight_149 : decode cX9_flight 149 = .ok (.aload_n 0, 1) := by decide +kernel
theorem dX9_flight_150 : decode cX9_flight 150 = .ok (.getfield 261, 3) := by decide +kernel
theorem dX9_flight_153 : decode cX9_flight 153 = .ok (.iconst 1, 1) := by decide +kernel
theorem dX9_flight_154 : decode cX9_flight 154 = .ok (.isub, 1) := by decide +kernel
theorem dX9_flight_155 : decode cX9_flight 155 = .ok (.ireturn, 1) := by decide +kernel
theorem dX9_deliver_0 : decode cX9_deliver 0 = .ok (.iload_n 1, 1) := by decide +kernel
theorem dX9_deliver_1 : decode cX9_deliver 1 = .ok (.i2l, 1) := by decide +kernel
theorem dX9_deliver_2 : decode cX9_deliver 2 = .ok (.lconst 0, 1) := by decide +kernel
theorem dX9_deliver_3 : decode cX9_deliver 3 = .ok (.ldc2_w 134, 3) := by decide +kernel
theorem dX9_deliver_6 : decode cX9_deliver 6 = .ok (.invokestatic 115, 3) := by decide +kernel
theorem dX9_deliver_9 : decode cX9_deliver 9 = .ok (.ifCond .eq 15, 3) := by decide +kernel
theorem dX9_deliver_12 : decode cX9_deliver 12 = .ok (.iload_n 2, 1) := by decide +kernel
theorem dX9_deliver_13 : decode cX9_deliver 13 = .ok (.i2l, 1) := by decide +kernel
theorem dX9_deliver_14 : decode cX9_deliver 14 = .ok (.lconst 0, 1) := by decide +kernel
theorem dX9_deliver_15 : decode cX9_deliver 15 = .ok (.ldc2_w 259, 3) := by decide +kernel
theorem dX9_deliver_18 : decode cX9_deliver 18 = .ok (.invokestatic 115, 3) := by decide +kernel
theorem dX9_deliver_21 : decode cX9_deliver 21 = .ok (.ifCond .ne 5, 3) := by decide +kernel
theorem dX9_deliver_24 : decode cX9_deliver 24 = .ok (.iconst (-1), 1) := by decide +kernel
theorem dX9_deliver_25 : decode cX9_deliver 25 = .ok (.ireturn, 1) := by decide +kernel
theorem dX9_deliver_26 : decode cX9_deliver 26 = .ok (.iload_n 3, 1) := by decide +kernel
theorem dX9_deliver_27 : decode cX9_deliver 27 = .ok (.i2l, 1) := by decide +kernel
theorem dX9_deliver_28 : decode cX9_deliver 28 = .ok (.lconst 0, 1) := by decide +kernel
theorem dX9_deliver_29 : decode cX9_deliver 29 = .ok (.ldc2_w 127, 3) := by decide +kernel
theorem dX9_deliver_32 : decode cX9_deliver 32 = .ok (.invokestatic 115, 3) := by decide +kernel
theorem dX9_deliver_35 : decode cX9_deliver 35 = .ok (.ifCond .ne 6, 3) := by decide +kernel
theorem dX9_deliver_38 : decode cX9_deliver 38 = .ok (.bipush (-2), 2) := by decide +kernel
theorem dX9_deliver_40 : decode cX9_deliver 40 = .ok (.ireturn, 1) := by decide +kernel
theorem dX9_deliver_41 : decode cX9_deliver 41 = .ok (.aload_n 0, 1) := by decide +kernel
theorem dX9_deliver_42 : decode cX9_deliver 42 = .ok (.getfield 103, 3) := by decide +kernel
theorem dX9_deliver_45 : decode cX9_deliver 45 = .ok (.bipush 12, 2) := by decide +kernel
theorem dX9_deliver_47 : decode cX9_deliver 47 = .ok (.iload_n 1, 1) := by decide +kernel
theorem dX9_deliver_48 : decode cX9_deliver 48 = .ok (.imul, 1) := by decide +kernel
theorem dX9_deliver_49 : decode cX9_deliver 49 = .ok (.iload_n 2, 1) := by decide +kernel
theorem dX9_deliver_50 : decode cX9_deliver 50 = .ok (.iadd, 1) := by decide +kernel
theorem dX9_deliver_51 : decode cX9_deliver 51 = .ok (.iaload, 1) := by decide +kernel
theorem dX9_deliver_52 : decode cX9_deliver 52 = .ok (.istore 4, 2) := by decide +kernel
theorem dX9_deliver_54 : decode cX9_deliver 54 = .ok (.aload_n 0, 1) := by decide +kernel
theorem dX9_deliver_55 : decode cX9_deliver 55 = .ok (.getfield 103, 3) := by decide +kernel
theorem dX9_deliver_58 : decode cX9_deliver 58 = .ok (.bipush 12, 2) := by decide +kernel
theorem dX9_deliver_60 : decode cX9_deliver 60 = .ok (.iload_n 1, 1) := by decide +kernel
theorem dX9_deliver_61 : decode cX9_deliver 61 = .ok (.imul, 1) := by decide +kernel
theorem dX9_deliver_62 : decode cX9_deliver 62 = .ok (.iload_n 2, 1) := by decide +kernel
theorem dX9_deliver_63 : decode cX9_deliver 63 = .ok (.iadd, 1) := by decide +kernel
theorem dX9_deliver_64 : decode cX9_deliver 64 = .ok (.iload_n 3, 1) := by decide +kernel
theorem dX9_deliver_65 : decode cX9_deliver 65 = .ok (.iastore, 1) := by decide +kernel
theorem dX9_deliver_66 : decode cX9_deliver 66 = .ok (.iload 4, 2) := by decide +kernel
theorem dX9_deliver_68 : decode cX9_deliver 68 = .ok (.ireturn, 1) := by decide +kernel
theorem dX9_canFly_0 : decode cX9_canFly 0 = .ok (.iconst 0, 1) := by decide +kernel
theorem dX9_canFly_1 : decode cX9_canFly 1 = .ok (.istore_n 2, 1) := by decide +kernel
theorem dX9_canFly_2 : decode cX9_canFly 2 = .ok (.iload_n 2, 1) := by decide +kernel
theorem dX9_canFly_3 : decode cX9_canFly 3 = .ok (.iconst 3, 1) := by decide +kernel
theorem dX9_canFly_4 : decode cX9_canFly 4 = .ok (.if_icmp .ge 106, 3) := by decide +kernel
theorem dX9_canFly_7 : decode cX9_canFly 7 = .ok (.iconst 0, 1) := by decide +kernel
theorem dX9_canFly_8 : decode cX9_canFly 8 = .ok (.istore_n 3, 1) := by decide +kernel
theorem dX9_canFly_9 : decode cX9_canFly 9 = .ok (.iconst 0, 1) := by decide +kernel
theorem dX9_canFly_10 : decode cX9_canFly 10 = .ok (.istore 4, 2) := by decide +kernel
theorem dX9_canFly_12 : decode cX9_canFly 12 = .ok (.iload 4, 2) := by decide +kernel
theorem dX9_canFly_14 : decode cX9_canFly 14 = .ok (.bipush 12, 2) := by decide +kernel
theorem dX9_canFly_16 : decode cX9_canFly 16 = .ok (.if_icmp .ge 88, 3) := by decide +kernel
theorem dX9_canFly_19 : decode cX9_canFly 19 = .ok (.iload_n 3, 1) := by decide +kernel
theorem dX9_canFly_20 : decode cX9_canFly 20 = .ok (.aload_n 0, 1) := by decide +kernel
theorem dX9_canFly_21 : decode cX9_canFly 21 = .ok (.getfield 103, 3) := by decide +kernel
theorem dX9_canFly_24 : decode cX9_canFly 24 = .ok (.bipush 12, 2) := by decide +kernel
theorem dX9_canFly_26 : decode cX9_canFly 26 = .ok (.iload_n 2, 1) := by decide +kernel
theorem dX9_canFly_27 : decode cX9_canFly 27 = .ok (.imul, 1) := by decide +kernel
theorem dX9_canFly_28 : decode cX9_canFly 28 = .ok (.iload 4, 2) := by decide +kernel
theorem dX9_canFly_30 : decode cX9_canFly 30 = .ok (.iadd, 1) := by decide +kernel
theorem dX9_canFly_31 : decode cX9_canFly 31 = .ok (.iaload, 1) := by decide +kernel
theorem dX9_canFly_32 : decode cX9_canFly 32 = .ok (.iadd, 1) := by decide +kernel
theorem dX9_canFly_33 : decode cX9_canFly 33 = .ok (.istore_n 3, 1) := by decide +kernel
theorem dX9_canFly_34 : decode cX9_canFly 34 = .ok (.iconst 0, 1) := by decide +kernel
theorem dX9_canFly_35 : decode cX9_canFly 35 = .ok (.istore 5, 2) := by decide +kernel
theorem dX9_canFly_37 : decode cX9_canFly 37 = .ok (.iload 5, 2) := by decide +kernel
theorem dX9_canFly_39 : decode cX9_canFly 39 = .ok (.aload_n 0, 1) := by decide +kernel
theorem dX9_canFly_40 : decode cX9_canFly 40 = .ok (.getfield 261, 3) := by decide +kernel
theorem dX9_canFly_43 : decode cX9_canFly 43 = .ok (.if_icmp .ge 49, 3) := by decide +kernel
theorem dX9_canFly_46 : decode cX9_canFly 46 = .ok (.iload_n 3, 1) := by decide +kernel
theorem dX9_canFly_47 : decode cX9_canFly 47 = .ok (.iload_n 1, 1) := by decide +kernel
theorem dX9_canFly_48 : decode cX9_canFly 48 = .ok (.iload 5, 2) := by decide +kernel
theorem dX9_canFly_50 : decode cX9_canFly 50 = .ok (.ishr, 1) := by decide +kernel
theorem dX9_canFly_51 : decode cX9_canFly 51 = .ok (.iconst 1, 1) := by decide +kernel
theorem dX9_canFly_52 : decode cX9_canFly 52 = .ok (.iand, 1) := by decide +kernel
theorem dX9_canFly_53 : decode cX9_canFly 53 = .ok (.iconst 1, 1) := by decide +kernel
theorem dX9_canFly_54 : decode cX9_canFly 54 = .ok (.if_icmp .ne 29, 3) := by decide +kernel
theorem dX9_canFly_57 : decode cX9_canFly 57 = .ok (.aload_n 0, 1) := by decide +kernel
theorem dX9_canFly_58 : decode cX9_canFly 58 = .ok (.getfield 97, 3) := by decide +kernel
theorem dX9_canFly_61 : decode cX9_canFly 61 = .ok (.iload 5, 2) := by decide +kernel
theorem dX9_canFly_63 : decode cX9_canFly 63 = .ok (.iaload, 1) := by decide +kernel
theorem dX9_canFly_64 : decode cX9_canFly 64 = .ok (.iload 4, 2) := by decide +kernel
theorem dX9_canFly_66 : decode cX9_canFly 66 = .ok (.if_icmp .ne 17, 3) := by decide +kernel
theorem dX9_canFly_69 : decode cX9_canFly 69 = .ok (.aload_n 0, 1) := by decide +kernel
theorem dX9_canFly_70 : decode cX9_canFly 70 = .ok (.getfield 94, 3) := by decide +kernel
theorem dX9_canFly_73 : decode cX9_canFly 73 = .ok (.iconst 3, 1) := by decide +kernel
theorem dX9_canFly_74 : decode cX9_canFly 74 = .ok (.iload 5, 2) := by decide +kernel
theorem dX9_canFly_76 : decode cX9_canFly 76 = .ok (.imul, 1) := by decide +kernel
theorem dX9_canFly_77 : decode cX9_canFly 77 = .ok (.iload_n 2, 1) := by decide +kernel
theorem dX9_canFly_78 : decode cX9_canFly 78 = .ok (.iadd, 1) := by decide +kernel
theorem dX9_canFly_79 : decode cX9_canFly 79 = .ok (.iaload, 1) := by decide +kernel
theorem dX9_canFly_80 : decode cX9_canFly 80 = .ok (.goto 4, 3) := by decide +kernel
theorem dX9_canFly_83 : decode cX9_canFly 83 = .ok (.iconst 0, 1) := by decide +kernel
theorem dX9_canFly_84 : decode cX9_canFly 84 = .ok (.isub, 1) := by decide +kernel
theorem dX9_canFly_85 : decode cX9_canFly 85 = .ok (.istore_n 3, 1) := by decide +kernel
theorem dX9_canFly_86 : decode cX9_canFly 86 = .ok (.iinc 5 1, 3) := by decide +kernel
theorem dX9_canFly_89 : decode cX9_canFly 89 = .ok (.goto (-52), 3) := by decide +kernel
theorem dX9_canFly_92 : decode cX9_canFly 92 = .ok (.iload_n 3, 1) := by decide +kernel
theorem dX9_canFly_93 : decode cX9_canFly 93 = .ok (.ifCond .ge 5, 3) := by decide +kernel
theorem dX9_canFly_96 : decode cX9_canFly 96 = .ok (.iconst 0, 1) := by decide +kernel
theorem dX9_canFly_97 : decode cX9_canFly 97 = .ok (.ireturn, 1) := by decide +kernel
theorem dX9_canFly_98 : decode cX9_canFly 98 = .ok (.iinc 4 1, 3) := by decide +kernel
theorem dX9_canFly_101 : decode cX9_canFly 101 = .ok (.goto (-89), 3) := by decide +kernel
theorem dX9_canFly_104 : decode cX9_canFly 104 = .ok (.iinc 2 1, 3) := by decide +kernel
theorem dX9_canFly_107 : decode cX9_canFly 107 = .ok (.goto (-105), 3) := by decide +kernel
theorem dX9_canFly_110 : decode cX9_canFly 110 = .ok (.iconst 1, 1) := by decide +kernel
theorem dX9_canFly_111 : decode cX9_canFly 111 = .ok (.ireturn, 1) := by decide +kernel
theorem dX9_findYear_0 : decode cX9_findYear 0 = .ok (.iconst 0, 1) := by decide +kernel
theorem dX9_findYear_1 : decode cX9_findYear 1 = .ok (.istore_n 1, 1) := by decide +kernel
theorem dX9_findYear_2 : decode cX9_findYear 2 = .ok (.aload_n 0, 1) := by decide +kernel
theorem dX9_findYear_3 : decode cX9_findYear 3 = .ok (.iconst 0, 1) := by decide +kernel
theorem dX9_findYear_4 : decode cX9_findYear 4 = .ok (.putfield 264, 3) := by decide +kernel
theorem dX9_findYear_7 : decode cX9_findYear 7 = .ok (.iconst 1, 1) := by decide +kernel
theorem dX9_findYear_8 : decode cX9_findYear 8 = .ok (.istore_n 2, 1) := by decide +kernel
theorem dX9_findYear_9 : decode cX9_findYear 9 = .ok (.iload_n 2, 1) := by decide +kernel
theorem dX9_findYear_10 : decode cX9_findYear 10 = .ok (.iconst 1, 1) := by decide +kernel
theorem dX9_findYear_11 : decode cX9_findYear 11 = .ok (.aload_n 0, 1) := by decide +kernel
theorem dX9_findYear_12 : decode cX9_findYear 12 = .ok (.getfield 261, 3) := by decide +kernel
theorem dX9_findYear_15 : decode cX9_findYear 15 = .ok (.ishl, 1) := by decide +kernel
theorem dX9_findYear_16 : decode cX9_findYear 16 = .ok (.if_icmp .ge 76, 3) := by decide +kernel
theorem dX9_findYear_19 : decode cX9_findYear 19 = .ok (.iconst 0, 1) := by decide +kernel
theorem dX9_findYear_20 : decode cX9_findYear 20 = .ok (.istore_n 3, 1) := by decide +kernel
theorem dX9_findYear_21 : decode cX9_findYear 21 = .ok (.iconst 0, 1) := by decide +kernel
theorem dX9_findYear_22 : decode cX9_findYear 22 = .ok (.istore 4, 2) := by decide +kernel
theorem dX9_findYear_24 : decode cX9_findYear 24 = .ok (.iload 4, 2) := by decide +kernel
theorem dX9_findYear_26 : decode cX9_findYear 26 = .ok (.aload_n 0, 1) := by decide +kernel
theorem dX9_findYear_27 : decode cX9_findYear 27 = .ok (.getfield 261, 3) := by decide +kernel
theorem dX9_findYear_30 : decode cX9_findYear 30 = .ok (.if_icmp .ge 33, 3) := by decide +kernel
theorem dX9_findYear_33 : decode cX9_findYear 33 = .ok (.iload_n 3, 1) := by decide +kernel
theorem dX9_findYear_34 : decode cX9_findYear 34 = .ok (.iload_n 2, 1) := by decide +kernel
theorem dX9_findYear_35 : decode cX9_findYear 35 = .ok (.iload 4, 2) := by decide +kernel
theorem dX9_findYear_37 : decode cX9_findYear 37 = .ok (.ishr, 1) := by decide +kernel
theorem dX9_findYear_38 : decode cX9_findYear 38 = .ok (.iconst 1, 1) := by decide +kernel
theorem dX9_findYear_39 : decode cX9_findYear 39 = .ok (.iand, 1) := by decide +kernel
theorem dX9_findYear_40 : decode cX9_findYear 40 = .ok (.iconst 1, 1) := by decide +kernel
theorem dX9_findYear_41 : decode cX9_findYear 41 = .ok (.if_icmp .ne 13, 3) := by decide +kernel
theorem dX9_findYear_44 : decode cX9_findYear 44 = .ok (.aload_n 0, 1) := by decide +kernel
theorem dX9_findYear_45 : decode cX9_findYear 45 = .ok (.getfield 100, 3) := by decide +kernel
theorem dX9_findYear_48 : decode cX9_findYear 48 = .ok (.iload 4, 2) := by decide +kernel
theorem dX9_findYear_50 : decode cX9_findYear 50 = .ok (.iaload, 1) := by decide +kernel
theorem dX9_findYear_51 : decode cX9_findYear 51 = .ok (.goto 4, 3) := by decide +kernel
theorem dX9_findYear_54 : decode cX9_findYear 54 = .ok (.iconst 0, 1) := by decide +kernel
theorem dX9_findYear_55 : decode cX9_findYear 55 = .ok (.iadd, 1) := by decide +kernel
theorem dX9_findYear_56 : decode cX9_findYear 56 = .ok (.istore_n 3, 1) := by decide +kernel
theorem dX9_findYear_57 : decode cX9_findYear 57 = .ok (.iinc 4 1, 3) := by decide +kernel
theorem dX9_findYear_60 : decode cX9_findYear 60 = .ok (.goto (-36), 3) := by decide +kernel
theorem dX9_findYear_63 : decode cX9_findYear 63 = .ok (.iload_n 3, 1) := by decide +kernel
theorem dX9_findYear_64 : decode cX9_findYear 64 = .ok (.iload_n 1, 1) := by decide +kernel
theorem dX9_findYear_65 : decode cX9_findYear 65 = .ok (.if_icmp .le 21, 3) := by decide +kernel
theorem dX9_findYear_68 : decode cX9_findYear 68 = .ok (.aload_n 0, 1) := by decide +kernel
theorem dX9_findYear_69 : decode cX9_findYear 69 = .ok (.iload_n 2, 1) := by decide +kernel
theorem dX9_findYear_70 : decode cX9_findYear 70 = .ok (.invokevirtual 267, 3) := by decide +kernel
theorem dX9_findYear_73 : decode cX9_findYear 73 = .ok (.ifCond .ne 6, 3) := by decide +kernel
theorem dX9_findYear_76 : decode cX9_findYear 76 = .ok (.goto 10, 3) := by decide +kernel
theorem dX9_findYear_79 : decode cX9_findYear 79 = .ok (.iload_n 3, 1) := by decide +kernel
theorem dX9_findYear_80 : decode cX9_findYear 80 = .ok (.istore_n 1, 1) := by decide +kernel
theorem dX9_findYear_81 : decode cX9_findYear 81 = .ok (.aload_n 0, 1) := by decide +kernel
theorem dX9_findYear_82 : decode cX9_findYear 82 = .ok (.iload_n 2, 1) := by decide +kernel
theorem dX9_findYear_83 : decode cX9_findYear 83 = .ok (.putfield 264, 3) := by decide +kernel
theorem dX9_findYear_86 : decode cX9_findYear 86 = .ok (.iinc 2 1, 3) := by decide +kernel
theorem dX9_findYear_89 : decode cX9_findYear 89 = .ok (.goto (-80), 3) := by decide +kernel
theorem dX9_findYear_92 : decode cX9_findYear 92 = .ok (.iload_n 1, 1) := by decide +kernel
theorem dX9_findYear_93 : decode cX9_findYear 93 = .ok (.ireturn, 1) := by decide +kernel
theorem dX9_year_0 : decode cX9_year 0 = .ok (.aload_n 0, 1) := by decide +kernel
theorem dX9_year_1 : decode cX9_year 1 = .ok (.invokevirtual 270, 3) := by decide +kernel
theorem dX9_year_4 : decode cX9_year 4 = .ok (.ireturn, 1) := by decide +kernel
theorem dX9_flights_0 : decode cX9_flights 0 = .ok (.aload_n 0, 1) := by decide +kernel
theorem dX9_flights_1 : decode cX9_flights 1 = .ok (.invokevirtual 270, 3) := by decide +kernel
theorem dX9_flights_4 : decode cX9_flights 4 = .ok (.istore_n 1, 1) := by decide +kernel
theorem dX9_flights_5 : decode cX9_flights 5 = .ok (.aload_n 0, 1) := by decide +kernel
theorem dX9_flights_6 : decode cX9_flights 6 = .ok (.getfield 264, 3) := by decide +kernel
theorem dX9_flights_9 : decode cX9_flights 9 = .ok (.ireturn, 1) := by decide +kernel
theorem dX9_count_0 : decode cX9_count 0 = .ok (.iconst 0, 1) := by decide +kernel
theorem dX9_count_1 : decode cX9_count 1 = .ok (.istore_n 2, 1) := by decide +kernel
theorem dX9_count_2 : decode cX9_count 2 = .ok (.iload_n 1, 1) := by decide +kernel
theorem dX9_count_3 : decode cX9_count 3 = .ok (.tableswitch 126 0 5 #[37, 42, 47, 52, 79, 106], 37) := by decide +kernel
theorem dX9_count_40 : decode cX9_count 40 = .ok (.aload_n 0, 1) := by decide +kernel
theorem dX9_count_41 : decode cX9_count 41 = .ok (.getfield 107, 3) := by decide +kernel
theorem dX9_count_44 : decode cX9_count 44 = .ok (.ireturn, 1) := by decide +kernel
theorem dX9_count_45 : decode cX9_count 45 = .ok (.aload_n 0, 1) := by decide +kernel
theorem dX9_count_46 : decode cX9_count 46 = .ok (.getfield 110, 3) := by decide +kernel
theorem dX9_count_49 : decode cX9_count 49 = .ok (.ireturn, 1) := by decide +kernel
theorem dX9_count_50 : decode cX9_count 50 = .ok (.aload_n 0, 1) := by decide +kernel
theorem dX9_count_51 : decode cX9_count 51 = .ok (.getfield 261, 3) := by decide +kernel
theorem dX9_count_54 : decode cX9_count 54 = .ok (.ireturn, 1) := by decide +kernel
theorem dX9_count_55 : decode cX9_count 55 = .ok (.iconst 0, 1) := by decide +kernel
theorem dX9_count_56 : decode cX9_count 56 = .ok (.istore_n 3, 1) := by decide +kernel
theorem dX9_count_57 : decode cX9_count 57 = .ok (.iload_n 3, 1) := by decide +kernel
theorem dX9_count_58 : decode cX9_count 58 = .ok (.aload_n 0, 1) := by decide +kernel
theorem dX9_count_59 : decode cX9_count 59 = .ok (.getfield 107, 3) := by decide +kernel
theorem dX9_count_62 : decode cX9_count 62 = .ok (.if_icmp .ge 18, 3) := by decide +kernel
theorem dX9_count_65 : decode cX9_count 65 = .ok (.iload_n 2, 1) := by decide +kernel
theorem dX9_count_66 : decode cX9_count 66 = .ok (.aload_n 0, 1) := by decide +kernel
theorem dX9_count_67 : decode cX9_count 67 = .ok (.getfield 22, 3) := by decide +kernel
theorem dX9_count_70 : decode cX9_count 70 = .ok (.iload_n 3, 1) := by decide +kernel
theorem dX9_count_71 : decode cX9_count 71 = .ok (.iaload, 1) := by decide +kernel
theorem dX9_count_72 : decode cX9_count 72 = .ok (.iadd, 1) := by decide +kernel
theorem dX9_count_73 : decode cX9_count 73 = .ok (.istore_n 2, 1) := by decide +kernel
theorem dX9_count_74 : decode cX9_count 74 = .ok (.iinc 3 1, 3) := by decide +kernel
theorem dX9_count_77 : decode cX9_count 77 = .ok (.goto (-20), 3) := by decide +kernel
theorem dX9_count_80 : decode cX9_count 80 = .ok (.iload_n 2, 1) := by decide +kernel
theorem dX9_count_81 : decode cX9_count 81 = .ok (.ireturn, 1) := by decide +kernel
theorem dX9_count_82 : decode cX9_count 82 = .ok (.iconst 0, 1) := by decide +kernel
theorem dX9_count_83 : decode cX9_count 83 = .ok (.istore_n 3, 1) := by decide +kernel
theorem dX9_count_84 : decode cX9_count 84 = .ok (.iload_n 3, 1) := by decide +kernel
theorem dX9_count_85 : decode cX9_count 85 = .ok (.aload_n 0, 1) := by decide +kernel
theorem dX9_count_86 : decode cX9_count 86 = .ok (.getfield 107, 3) := by decide +kernel
theorem dX9_count_89 : decode cX9_count 89 = .ok (.if_icmp .ge 18, 3) := by decide +kernel
theorem dX9_count_92 : decode cX9_count 92 = .ok (.iload_n 2, 1) := by decide +kernel
theorem dX9_count_93 : decode cX9_count 93 = .ok (.aload_n 0, 1) := by decide +kernel
theorem dX9_count_94 : decode cX9_count 94 = .ok (.getfield 25, 3) := by decide +kernel
theorem dX9_count_97 : decode cX9_count 97 = .ok (.iload_n 3, 1) := by decide +kernel
theorem dX9_count_98 : decode cX9_count 98 = .ok (.iaload, 1) := by decide +kernel
theorem dX9_count_99 : decode cX9_count 99 = .ok (.iadd, 1) := by decide +kernel
theorem dX9_count_100 : decode cX9_count 100 = .ok (.istore_n 2, 1) := by decide +kernel
theorem dX9_count_101 : decode cX9_count 101 = .ok (.iinc 3 1, 3) := by decide +kernel
theorem dX9_count_104 : decode cX9_count 104 = .ok (.goto (-20), 3) := by decide +kernel
theorem dX9_count_107 : decode cX9_count 107 = .ok (.iload_n 2, 1) := by decide +kernel
theorem dX9_count_108 : decode cX9_count 108 = .ok (.ireturn, 1) := by decide +kernel
theorem dX9_count_109 : decode cX9_count 109 = .ok (.aload_n 0, 1) := by decide +kernel
theorem dX9_count_110 : decode cX9_count 110 = .ok (.getfield 110, 3) := by decide +kernel
theorem dX9_count_113 : decode cX9_count 113 = .ok (.ifCond .ne 10, 3) := by decide +kernel
theorem dX9_count_116 : decode cX9_count 116 = .ok (.aload_n 0, 1) := by decide +kernel
theorem dX9_count_117 : decode cX9_count 117 = .ok (.getfield 46, 3) := by decide +kernel
theorem dX9_count_120 : decode cX9_count 120 = .ok (.goto 8, 3) := by decide +kernel
theorem dX9_count_123 : decode cX9_count 123 = .ok (.aload_n 0, 1) := by decide +kernel
theorem dX9_count_124 : decode cX9_count 124 = .ok (.iconst 0, 1) := by decide +kernel
theorem dX9_count_125 : decode cX9_count 125 = .ok (.invokevirtual 150, 3) := by decide +kernel
theorem dX9_count_128 : decode cX9_count 128 = .ok (.ireturn, 1) := by decide +kernel
theorem dX9_count_129 : decode cX9_count 129 = .ok (.iconst (-1), 1) := by decide +kernel
theorem dX9_count_130 : decode cX9_count 130 = .ok (.ireturn, 1) := by decide +kernel
theorem dL_law_0 : decode cL_law 0 = .ok (.new 7, 3) := by decide +kernel
theorem dL_law_3 : decode cL_law 3 = .ok (.dup, 1) := by decide +kernel
theorem dL_law_4 : decode cL_law 4 = .ok (.invokespecial 9, 3) := by decide +kernel
theorem dL_law_7 : decode cL_law 7 = .ok (.astore_n 1, 1) := by decide +kernel
theorem dL_law_8 : decode cL_law 8 = .ok (.new 10, 3) := by decide +kernel
theorem dL_law_11 : decode cL_law 11 = .ok (.dup, 1) := by decide +kernel
theorem dL_law_12 : decode cL_law 12 = .ok (.invokespecial 12, 3) := by decide +kernel
theorem dL_law_15 : decode cL_law 15 = .ok (.astore_n 2, 1) := by decide +kernel
theorem dL_law_16 : decode cL_law 16 = .ok (.iconst 0, 1) := by decide +kernel
theorem dL_law_17 : decode cL_law 17 = .ok (.istore_n 3, 1) := by decide +kernel
theorem dL_law_18 : decode cL_law 18 = .ok (.iload_n 3, 1) := by decide +kernel
theorem dL_law_19 : decode cL_law 19 = .ok (.aload_n 0, 1) := by decide +kernel
theorem dL_law_20 : decode cL_law 20 = .ok (.arraylength, 1) := by decide +kernel
theorem dL_law_21 : decode cL_law 21 = .ok (.bipush 6, 2) := by decide +kernel
theorem dL_law_23 : decode cL_law 23 = .ok (.isub, 1) := by decide +kernel
theorem dL_law_24 : decode cL_law 24 = .ok (.if_icmp .gt 966, 3) := by decide +kernel
theorem dL_law_27 : decode cL_law 27 = .ok (.aload_n 0, 1) := by decide +kernel
theorem dL_law_28 : decode cL_law 28 = .ok (.iload_n 3, 1) := by decide +kernel
theorem dL_law_29 : decode cL_law 29 = .ok (.iaload, 1) := by decide +kernel
theorem dL_law_30 : decode cL_law 30 = .ok (.bipush 31, 2) := by decide +kernel
theorem dL_law_32 : decode cL_law 32 = .ok (.iand, 1) := by decide +kernel
theorem dL_law_33 : decode cL_law 33 = .ok (.tableswitch 951 0 27 #[127, 180, 213, 266, 279, 312, 345, 378, 401, 434, 457, 490, 523, 556, 589, 602, 625, 648, 661, 694, 707, 720, 753, 796, 859, 902, 915, 928], 127) := by decide +kernel
theorem dL_law_160 : decode cL_law 160 = .ok (.aload_n 1, 1) := by decide +kernel
theorem dL_law_161 : decode cL_law 161 = .ok (.aload_n 0, 1) := by decide +kernel
theorem dL_law_162 : decode cL_law 162 = .ok (.iload_n 3, 1) := by decide +kernel
theorem dL_law_163 : decode cL_law 163 = .ok (.iconst 1, 1) := by decide +kernel
theorem dL_law_164 : decode cL_law 164 = .ok (.iadd, 1) := by decide +kernel
theorem dL_law_165 : decode cL_law 165 = .ok (.iaload, 1) := by decide +kernel
theorem dL_law_166 : decode cL_law 166 = .ok (.aload_n 0, 1) := by decide +kernel
theorem dL_law_167 : decode cL_law 167 = .ok (.iload_n 3, 1) := by decide +kernel
theorem dL_law_168 : decode cL_law 168 = .ok (.iconst 2, 1) := by decide +kernel
theorem dL_law_169 : decode cL_law 169 = .ok (.iadd, 1) := by decide +kernel
theorem dL_law_170 : decode cL_law 170 = .ok (.iaload, 1) := by decide +kernel
theorem dL_law_171 : decode cL_law 171 = .ok (.aload_n 0, 1) := by decide +kernel
theorem dL_law_172 : decode cL_law 172 = .ok (.iload_n 3, 1) := by decide +kernel
theorem dL_law_173 : decode cL_law 173 = .ok (.iconst 3, 1) := by decide +kernel
theorem dL_law_174 : decode cL_law 174 = .ok (.iadd, 1) := by decide +kernel
theorem dL_law_175 : decode cL_law 175 = .ok (.iaload, 1) := by decide +kernel
theorem dL_law_176 : decode cL_law 176 = .ok (.aload_n 0, 1) := by decide +kernel
theorem dL_law_177 : decode cL_law 177 = .ok (.iload_n 3, 1) := by decide +kernel
theorem dL_law_178 : decode cL_law 178 = .ok (.iconst 4, 1) := by decide +kernel
theorem dL_law_179 : decode cL_law 179 = .ok (.iadd, 1) := by decide +kernel
theorem dL_law_180 : decode cL_law 180 = .ok (.iaload, 1) := by decide +kernel
theorem dL_law_181 : decode cL_law 181 = .ok (.invokevirtual 13, 3) := by decide +kernel
theorem dL_law_184 : decode cL_law 184 = .ok (.aload_n 2, 1) := by decide +kernel
theorem dL_law_185 : decode cL_law 185 = .ok (.aload_n 0, 1) := by decide +kernel
theorem dL_law_186 : decode cL_law 186 = .ok (.iload_n 3, 1) := by decide +kernel
theorem dL_law_187 : decode cL_law 187 = .ok (.iconst 1, 1) := by decide +kernel
theorem dL_law_188 : decode cL_law 188 = .ok (.iadd, 1) := by decide +kernel
theorem dL_law_189 : decode cL_law 189 = .ok (.iaload, 1) := by decide +kernel
theorem dL_law_190 : decode cL_law 190 = .ok (.aload_n 0, 1) := by decide +kernel
theorem dL_law_191 : decode cL_law 191 = .ok (.iload_n 3, 1) := by decide +kernel
theorem dL_law_192 : decode cL_law 192 = .ok (.iconst 2, 1) := by decide +kernel
theorem dL_law_193 : decode cL_law 193 = .ok (.iadd, 1) := by decide +kernel
theorem dL_law_194 : decode cL_law 194 = .ok (.iaload, 1) := by decide +kernel
theorem dL_law_195 : decode cL_law 195 = .ok (.aload_n 0, 1) := by decide +kernel
theorem dL_law_196 : decode cL_law 196 = .ok (.iload_n 3, 1) := by decide +kernel
theorem dL_law_197 : decode cL_law 197 = .ok (.iconst 3, 1) := by decide +kernel
theorem dL_law_198 : decode cL_law 198 = .ok (.iadd, 1) := by decide +kernel
theorem dL_law_199 : decode cL_law 199 = .ok (.iaload, 1) := by decide +kernel
theorem dL_law_200 : decode cL_law 200 = .ok (.aload_n 0, 1) := by decide +kernel
theorem dL_law_201 : decode cL_law 201 = .ok (.iload_n 3, 1) := by decide +kernel
theorem dL_law_202 : decode cL_law 202 = .ok (.iconst 4, 1) := by decide +kernel
theorem dL_law_203 : decode cL_law 203 = .ok (.iadd, 1) := by decide +kernel
theorem dL_law_204 : decode cL_law 204 = .ok (.iaload, 1) := by decide +kernel
theorem dL_law_205 : decode cL_law 205 = .ok (.invokevirtual 17, 3) := by decide +kernel
theorem dL_law_208 : decode cL_law 208 = .ok (.if_icmp .eq 776, 3) := by decide +kernel
theorem dL_law_211 : decode cL_law 211 = .ok (.iconst 0, 1) := by decide +kernel
theorem dL_law_212 : decode cL_law 212 = .ok (.ireturn, 1) := by decide +kernel
theorem dL_law_213 : decode cL_law 213 = .ok (.aload_n 1, 1) := by decide +kernel
theorem dL_law_214 : decode cL_law 214 = .ok (.aload_n 0, 1) := by decide +kernel
theorem dL_law_215 : decode cL_law 215 = .ok (.iload_n 3, 1) := by decide +kernel
theorem dL_law_216 : decode cL_law 216 = .ok (.iconst 1, 1) := by decide +kernel
theorem dL_law_217 : decode cL_law 217 = .ok (.iadd, 1) := by decide +kernel
theorem dL_law_218 : decode cL_law 218 = .ok (.iaload, 1) := by decide +kernel
theorem dL_law_219 : decode cL_law 219 = .ok (.aload_n 0, 1) := by decide +kernel
theorem dL_law_220 : decode cL_law 220 = .ok (.iload_n 3, 1) := by decide +kernel
theorem dL_law_221 : decode cL_law 221 = .ok (.iconst 2, 1) := by decide +kernel
theorem dL_law_222 : decode cL_law 222 = .ok (.iadd, 1) := by decide +kernel
theorem dL_law_223 : decode cL_law 223 = .ok (.iaload, 1) := by decide +kernel
theorem dL_law_224 : decode cL_law 224 = .ok (.invokevirtual 18, 3) := by decide +kernel
theorem dL_law_227 : decode cL_law 227 = .ok (.aload_n 2, 1) := by decide +kernel
theorem dL_law_228 : decode cL_law 228 = .ok (.aload_n 0, 1) := by decide +kernel
theorem dL_law_229 : decode cL_law 229 = .ok (.iload_n 3, 1) := by decide +kernel
theorem dL_law_230 : decode cL_law 230 = .ok (.iconst 1, 1) := by decide +kernel
theorem dL_law_231 : decode cL_law 231 = .ok (.iadd, 1) := by decide +kernel
theorem dL_law_232 : decode cL_law 232 = .ok (.iaload, 1) := by decide +kernel
theorem dL_law_233 : decode cL_law 233 = .ok (.aload_n 0, 1) := by decide +kernel
theorem dL_law_234 : decode cL_law 234 = .ok (.iload_n 3, 1) := by decide +kernel
theorem dL_law_235 : decode cL_law 235 = .ok (.iconst 2, 1) := by decide +kernel
theorem dL_law_236 : decode cL_law 236 = .ok (.iadd, 1) := by decide +kernel
theorem dL_law_237 : decode cL_law 237 = .ok (.iaload, 1) := by decide +kernel
theorem dL_law_238 : decode cL_law 238 = .ok (.invokevirtual 22, 3) := by decide +kernel
theorem dL_law_241 : decode cL_law 241 = .ok (.if_icmp .eq 743, 3) := by decide +kernel
theorem dL_law_244 : decode cL_law 244 = .ok (.iconst 0, 1) := by decide +kernel
theorem dL_law_245 : decode cL_law 245 = .ok (.ireturn, 1) := by decide +kernel
theorem dL_law_246 : decode cL_law 246 = .ok (.aload_n 1, 1) := by decide +kernel
theorem dL_law_247 : decode cL_law 247 = .ok (.aload_n 0, 1) := by decide +kernel
theorem dL_law_248 : decode cL_law 248 = .ok (.iload_n 3, 1) := by decide +kernel
theorem dL_law_249 : decode cL_law 249 = .ok (.iconst 1, 1) := by decide +kernel
theorem dL_law_250 : decode cL_law 250 = .ok (.iadd, 1) := by decide +kernel
theorem dL_law_251 : decode cL_law 251 = .ok (.iaload, 1) := by decide +kernel
theorem dL_law_252 : decode cL_law 252 = .ok (.aload_n 0, 1) := by decide +kernel
theorem dL_law_253 : decode cL_law 253 = .ok (.iload_n 3, 1) := by decide +kernel
theorem dL_law_254 : decode cL_law 254 = .ok (.iconst 2, 1) := by decide +kernel
theorem dL_law_255 : decode cL_law 255 = .ok (.iadd, 1) := by decide +kernel
theorem dL_law_256 : decode cL_law 256 = .ok (.iaload, 1) := by decide +kernel
theorem dL_law_257 : decode cL_law 257 = .ok (.aload_n 0, 1) := by decide +kernel
theorem dL_law_258 : decode cL_law 258 = .ok (.iload_n 3, 1) := by decide +kernel
theorem dL_law_259 : decode cL_law 259 = .ok (.iconst 3, 1) := by decide +kernel
theorem dL_law_260 : decode cL_law 260 = .ok (.iadd, 1) := by decide +kernel
theorem dL_law_261 : decode cL_law 261 = .ok (.iaload, 1) := by decide +kernel
theorem dL_law_262 : decode cL_law 262 = .ok (.aload_n 0, 1) := by decide +kernel
theorem dL_law_263 : decode cL_law 263 = .ok (.iload_n 3, 1) := by decide +kernel
theorem dL_law_264 : decode cL_law 264 = .ok (.iconst 4, 1) := by decide +kernel
theorem dL_law_265 : decode cL_law 265 = .ok (.iadd, 1) := by decide +kernel
theorem dL_law_266 : decode cL_law 266 = .ok (.iaload, 1) := by decide +kernel
theorem dL_law_267 : decode cL_law 267 = .ok (.invokevirtual 23, 3) := by decide +kernel
theorem dL_law_270 : decode cL_law 270 = .ok (.aload_n 2, 1) := by decide +kernel
theorem dL_law_271 : decode cL_law 271 = .ok (.aload_n 0, 1) := by decide +kernel
theorem dL_law_272 : decode cL_law 272 = .ok (.iload_n 3, 1) := by decide +kernel
theorem dL_law_273 : decode cL_law 273 = .ok (.iconst 1, 1) := by decide +kernel
theorem dL_law_274 : decode cL_law 274 = .ok (.iadd, 1) := by decide +kernel
theorem dL_law_275 : decode cL_law 275 = .ok (.iaload, 1) := by decide +kernel
theorem dL_law_276 : decode cL_law 276 = .ok (.aload_n 0, 1) := by decide +kernel
theorem dL_law_277 : decode cL_law 277 = .ok (.iload_n 3, 1) := by decide +kernel
theorem dL_law_278 : decode cL_law 278 = .ok (.iconst 2, 1) := by decide +kernel
theorem dL_law_279 : decode cL_law 279 = .ok (.iadd, 1) := by decide +kernel
theorem dL_law_280 : decode cL_law 280 = .ok (.iaload, 1) := by decide +kernel
theorem dL_law_281 : decode cL_law 281 = .ok (.aload_n 0, 1) := by decide +kernel
theorem dL_law_282 : decode cL_law 282 = .ok (.iload_n 3, 1) := by decide +kernel
theorem dL_law_283 : decode cL_law 283 = .ok (.iconst 3, 1) := by decide +kernel
theorem dL_law_284 : decode cL_law 284 = .ok (.iadd, 1) := by decide +kernel
theorem dL_law_285 : decode cL_law 285 = .ok (.iaload, 1) := by decide +kernel
theorem dL_law_286 : decode cL_law 286 = .ok (.aload_n 0, 1) := by decide +kernel
theorem dL_law_287 : decode cL_law 287 = .ok (.iload_n 3, 1) := by decide +kernel
theorem dL_law_288 : decode cL_law 288 = .ok (.iconst 4, 1) := by decide +kernel
theorem dL_law_289 : decode cL_law 289 = .ok (.iadd, 1) := by decide +kernel
theorem dL_law_290 : decode cL_law 290 = .ok (.iaload, 1) := by decide +kernel
theorem dL_law_291 : decode cL_law 291 = .ok (.invokevirtual 26, 3) := by decide +kernel
theorem dL_law_294 : decode cL_law 294 = .ok (.if_icmp .eq 690, 3) := by decide +kernel
theorem dL_law_297 : decode cL_law 297 = .ok (.iconst 0, 1) := by decide +kernel
theorem dL_law_298 : decode cL_law 298 = .ok (.ireturn, 1) := by decide +kernel
theorem dL_law_299 : decode cL_law 299 = .ok (.aload_n 1, 1) := by decide +kernel
theorem dL_law_300 : decode cL_law 300 = .ok (.invokevirtual 27, 3) := by decide +kernel
theorem dL_law_303 : decode cL_law 303 = .ok (.aload_n 2, 1) := by decide +kernel
theorem dL_law_304 : decode cL_law 304 = .ok (.invokevirtual 31, 3) := by decide +kernel
theorem dL_law_307 : decode cL_law 307 = .ok (.if_icmp .eq 677, 3) := by decide +kernel
theorem dL_law_310 : decode cL_law 310 = .ok (.iconst 0, 1) := by decide +kernel
theorem dL_law_311 : decode cL_law 311 = .ok (.ireturn, 1) := by decide +kernel
theorem dL_law_312 : decode cL_law 312 = .ok (.aload_n 1, 1) := by decide +kernel
theorem dL_law_313 : decode cL_law 313 = .ok (.aload_n 0, 1) := by decide +kernel
theorem dL_law_314 : decode cL_law 314 = .ok (.iload_n 3, 1) := by decide +kernel
theorem dL_law_315 : decode cL_law 315 = .ok (.iconst 1, 1) := by decide +kernel
theorem dL_law_316 : decode cL_law 316 = .ok (.iadd, 1) := by decide +kernel
theorem dL_law_317 : decode cL_law 317 = .ok (.iaload, 1) := by decide +kernel
theorem dL_law_318 : decode cL_law 318 = .ok (.aload_n 0, 1) := by decide +kernel
theorem dL_law_319 : decode cL_law 319 = .ok (.iload_n 3, 1) := by decide +kernel
theorem dL_law_320 : decode cL_law 320 = .ok (.iconst 2, 1) := by decide +kernel
theorem dL_law_321 : decode cL_law 321 = .ok (.iadd, 1) := by decide +kernel
theorem dL_law_322 : decode cL_law 322 = .ok (.iaload, 1) := by decide +kernel
theorem dL_law_323 : decode cL_law 323 = .ok (.invokevirtual 32, 3) := by decide +kernel
theorem dL_law_326 : decode cL_law 326 = .ok (.aload_n 2, 1) := by decide +kernel
theorem dL_law_327 : decode cL_law 327 = .ok (.aload_n 0, 1) := by decide +kernel
theorem dL_law_328 : decode cL_law 328 = .ok (.iload_n 3, 1) := by decide +kernel
theorem dL_law_329 : decode cL_law 329 = .ok (.iconst 1, 1) := by decide +kernel
theorem dL_law_330 : decode cL_law 330 = .ok (.iadd, 1) := by decide +kernel
theorem dL_law_331 : decode cL_law 331 = .ok (.iaload, 1) := by decide +kernel
theorem dL_law_332 : decode cL_law 332 = .ok (.aload_n 0, 1) := by decide +kernel
theorem dL_law_333 : decode cL_law 333 = .ok (.iload_n 3, 1) := by decide +kernel
theorem dL_law_334 : decode cL_law 334 = .ok (.iconst 2, 1) := by decide +kernel
theorem dL_law_335 : decode cL_law 335 = .ok (.iadd, 1) := by decide +kernel
theorem dL_law_336 : decode cL_law 336 = .ok (.iaload, 1) := by decide +kernel
theorem dL_law_337 : decode cL_law 337 = .ok (.invokevirtual 35, 3) := by decide +kernel
theorem dL_law_340 : decode cL_law 340 = .ok (.if_icmp .eq 644, 3) := by decide +kernel
theorem dL_law_343 : decode cL_law 343 = .ok (.iconst 0, 1) := by decide +kernel
theorem dL_law_344 : decode cL_law 344 = .ok (.ireturn, 1) := by decide +kernel
theorem dL_law_345 : decode cL_law 345 = .ok (.aload_n 1, 1) := by decide +kernel
theorem dL_law_346 : decode cL_law 346 = .ok (.aload_n 0, 1) := by decide +kernel
theorem dL_law_347 : decode cL_law 347 = .ok (.iload_n 3, 1) := by decide +kernel
theorem dL_law_348 : decode cL_law 348 = .ok (.iconst 1, 1) := by decide +kernel
theorem dL_law_349 : decode cL_law 349 = .ok (.iadd, 1) := by decide +kernel
theorem dL_law_350 : decode cL_law 350 = .ok (.iaload, 1) := by decide +kernel
theorem dL_law_351 : decode cL_law 351 = .ok (.aload_n 0, 1) := by decide +kernel
theorem dL_law_352 : decode cL_law 352 = .ok (.iload_n 3, 1) := by decide +kernel
theorem dL_law_353 : decode cL_law 353 = .ok (.iconst 2, 1) := by decide +kernel
theorem dL_law_354 : decode cL_law 354 = .ok (.iadd, 1) := by decide +kernel
theorem dL_law_355 : decode cL_law 355 = .ok (.iaload, 1) := by decide +kernel
theorem dL_law_356 : decode cL_law 356 = .ok (.invokevirtual 36, 3) := by decide +kernel
theorem dL_law_359 : decode cL_law 359 = .ok (.aload_n 2, 1) := by decide +kernel
theorem dL_law_360 : decode cL_law 360 = .ok (.aload_n 0, 1) := by decide +kernel
theorem dL_law_361 : decode cL_law 361 = .ok (.iload_n 3, 1) := by decide +kernel
theorem dL_law_362 : decode cL_law 362 = .ok (.iconst 1, 1) := by decide +kernel
theorem dL_law_363 : decode cL_law 363 = .ok (.iadd, 1) := by decide +kernel
theorem dL_law_364 : decode cL_law 364 = .ok (.iaload, 1) := by decide +kernel
theorem dL_law_365 : decode cL_law 365 = .ok (.aload_n 0, 1) := by decide +kernel
theorem dL_law_366 : decode cL_law 366 = .ok (.iload_n 3, 1) := by decide +kernel
theorem dL_law_367 : decode cL_law 367 = .ok (.iconst 2, 1) := by decide +kernel
theorem dL_law_368 : decode cL_law 368 = .ok (.iadd, 1) := by decide +kernel
theorem dL_law_369 : decode cL_law 369 = .ok (.iaload, 1) := by decide +kernel
theorem dL_law_370 : decode cL_law 370 = .ok (.invokevirtual 39, 3) := by decide +kernel
theorem dL_law_373 : decode cL_law 373 = .ok (.if_icmp .eq 611, 3) := by decide +kernel
theorem dL_law_376 : decode cL_law 376 = .ok (.iconst 0, 1) := by decide +kernel
theorem dL_law_377 : decode cL_law 377 = .ok (.ireturn, 1) := by decide +kernel
theorem dL_law_378 : decode cL_law 378 = .ok (.aload_n 1, 1) := by decide +kernel
theorem dL_law_379 : decode cL_law 379 = .ok (.aload_n 0, 1) := by decide +kernel
theorem dL_law_380 : decode cL_law 380 = .ok (.iload_n 3, 1) := by decide +kernel
theorem dL_law_381 : decode cL_law 381 = .ok (.iconst 1, 1) := by decide +kernel
theorem dL_law_382 : decode cL_law 382 = .ok (.iadd, 1) := by decide +kernel
theorem dL_law_383 : decode cL_law 383 = .ok (.iaload, 1) := by decide +kernel
theorem dL_law_384 : decode cL_law 384 = .ok (.aload_n 0, 1) := by decide +kernel
theorem dL_law_385 : decode cL_law 385 = .ok (.iload_n 3, 1) := by decide +kernel
theorem dL_law_386 : decode cL_law 386 = .ok (.iconst 2, 1) := by decide +kernel
theorem dL_law_387 : decode cL_law 387 = .ok (.iadd, 1) := by decide +kernel
theorem dL_law_388 : decode cL_law 388 = .ok (.iaload, 1) := by decide +kernel
theorem dL_law_389 : decode cL_law 389 = .ok (.invokevirtual 40, 3) := by decide +kernel
theorem dL_law_392 : decode cL_law 392 = .ok (.aload_n 2, 1) := by decide +kernel
theorem dL_law_393 : decode cL_law 393 = .ok (.aload_n 0, 1) := by decide +kernel
theorem dL_law_394 : decode cL_law 394 = .ok (.iload_n 3, 1) := by decide +kernel
theorem dL_law_395 : decode cL_law 395 = .ok (.iconst 1, 1) := by decide +kernel
theorem dL_law_396 : decode cL_law 396 = .ok (.iadd, 1) := by decide +kernel
theorem dL_law_397 : decode cL_law 397 = .ok (.iaload, 1) := by decide +kernel
theorem dL_law_398 : decode cL_law 398 = .ok (.aload_n 0, 1) := by decide +kernel
theorem dL_law_399 : decode cL_law 399 = .ok (.iload_n 3, 1) := by decide +kernel
theorem dL_law_400 : decode cL_law 400 = .ok (.iconst 2, 1) := by decide +kernel
theorem dL_law_401 : decode cL_law 401 = .ok (.iadd, 1) := by decide +kernel
theorem dL_law_402 : decode cL_law 402 = .ok (.iaload, 1) := by decide +kernel
theorem dL_law_403 : decode cL_law 403 = .ok (.invokevirtual 43, 3) := by decide +kernel
theorem dL_law_406 : decode cL_law 406 = .ok (.if_icmp .eq 578, 3) := by decide +kernel
theorem dL_law_409 : decode cL_law 409 = .ok (.iconst 0, 1) := by decide +kernel
theorem dL_law_410 : decode cL_law 410 = .ok (.ireturn, 1) := by decide +kernel
theorem dL_law_411 : decode cL_law 411 = .ok (.aload_n 1, 1) := by decide +kernel
theorem dL_law_412 : decode cL_law 412 = .ok (.aload_n 0, 1) := by decide +kernel
theorem dL_law_413 : decode cL_law 413 = .ok (.iload_n 3, 1) := by decide +kernel
theorem dL_law_414 : decode cL_law 414 = .ok (.iconst 1, 1) := by decide +kernel
theorem dL_law_415 : decode cL_law 415 = .ok (.iadd, 1) := by decide +kernel
theorem dL_law_416 : decode cL_law 416 = .ok (.iaload, 1) := by decide +kernel
theorem dL_law_417 : decode cL_law 417 = .ok (.invokevirtual 44, 3) := by decide +kernel
theorem dL_law_420 : decode cL_law 420 = .ok (.aload_n 2, 1) := by decide +kernel
theorem dL_law_421 : decode cL_law 421 = .ok (.aload_n 0, 1) := by decide +kernel
theorem dL_law_422 : decode cL_law 422 = .ok (.iload_n 3, 1) := by decide +kernel
theorem dL_law_423 : decode cL_law 423 = .ok (.iconst 1, 1) := by decide +kernel
theorem dL_law_424 : decode cL_law 424 = .ok (.iadd, 1) := by decide +kernel
theorem dL_law_425 : decode cL_law 425 = .ok (.iaload, 1) := by decide +kernel
theorem dL_law_426 : decode cL_law 426 = .ok (.invokevirtual 48, 3) := by decide +kernel
theorem dL_law_429 : decode cL_law 429 = .ok (.if_icmp .eq 555, 3) := by decide +kernel
theorem dL_law_432 : decode cL_law 432 = .ok (.iconst 0, 1) := by decide +kernel
theorem dL_law_433 : decode cL_law 433 = .ok (.ireturn, 1) := by decide +kernel
theorem dL_law_434 : decode cL_law 434 = .ok (.aload_n 1, 1) := by decide +kernel
theorem dL_law_435 : decode cL_law 435 = .ok (.aload_n 0, 1) := by decide +kernel
theorem dL_law_436 : decode cL_law 436 = .ok (.iload_n 3, 1) := by decide +kernel
theorem dL_law_437 : decode cL_law 437 = .ok (.iconst 1, 1) := by decide +kernel
theorem dL_law_438 : decode cL_law 438 = .ok (.iadd, 1) := by decide +kernel
theorem dL_law_439 : decode cL_law 439 = .ok (.iaload, 1) := by decide +kernel
theorem dL_law_440 : decode cL_law 440 = .ok (.aload_n 0, 1) := by decide +kernel
theorem dL_law_441 : decode cL_law 441 = .ok (.iload_n 3, 1) := by decide +kernel
theorem dL_law_442 : decode cL_law 442 = .ok (.iconst 2, 1) := by decide +kernel
theorem dL_law_443 : decode cL_law 443 = .ok (.iadd, 1) := by decide +kernel
theorem dL_law_444 : decode cL_law 444 = .ok (.iaload, 1) := by decide +kernel
theorem dL_law_445 : decode cL_law 445 = .ok (.invokevirtual 49, 3) := by decide +kernel
theorem dL_law_448 : decode cL_law 448 = .ok (.aload_n 2, 1) := by decide +kernel
theorem dL_law_449 : decode cL_law 449 = .ok (.aload_n 0, 1) := by decide +kernel
theorem dL_law_450 : decode cL_law 450 = .ok (.iload_n 3, 1) := by decide +kernel
theorem dL_law_451 : decode cL_law 451 = .ok (.iconst 1, 1) := by decide +kernel
theorem dL_law_452 : decode cL_law 452 = .ok (.iadd, 1) := by decide +kernel
theorem dL_law_453 : decode cL_law 453 = .ok (.iaload, 1) := by decide +kernel
theorem dL_law_454 : decode cL_law 454 = .ok (.aload_n 0, 1) := by decide +kernel
theorem dL_law_455 : decode cL_law 455 = .ok (.iload_n 3, 1) := by decide +kernel
theorem dL_law_456 : decode cL_law 456 = .ok (.iconst 2, 1) := by decide +kernel
theorem dL_law_457 : decode cL_law 457 = .ok (.iadd, 1) := by decide +kernel
theorem dL_law_458 : decode cL_law 458 = .ok (.iaload, 1) := by decide +kernel
theorem dL_law_459 : decode cL_law 459 = .ok (.invokevirtual 52, 3) := by decide +kernel
theorem dL_law_462 : decode cL_law 462 = .ok (.if_icmp .eq 522, 3) := by decide +kernel
theorem dL_law_465 : decode cL_law 465 = .ok (.iconst 0, 1) := by decide +kernel
theorem dL_law_466 : decode cL_law 466 = .ok (.ireturn, 1) := by decide +kernel
theorem dL_law_467 : decode cL_law 467 = .ok (.aload_n 1, 1) := by decide +kernel
theorem dL_law_468 : decode cL_law 468 = .ok (.aload_n 0, 1) := by decide +kernel
theorem dL_law_469 : decode cL_law 469 = .ok (.iload_n 3, 1) := by decide +kernel
theorem dL_law_470 : decode cL_law 470 = .ok (.iconst 1, 1) := by decide +kernel
theorem dL_law_471 : decode cL_law 471 = .ok (.iadd, 1) := by decide +kernel
theorem dL_law_472 : decode cL_law 472 = .ok (.iaload, 1) := by decide +kernel
theorem dL_law_473 : decode cL_law 473 = .ok (.invokevirtual 53, 3) := by decide +kernel
theorem dL_law_476 : decode cL_law 476 = .ok (.aload_n 2, 1) := by decide +kernel
theorem dL_law_477 : decode cL_law 477 = .ok (.aload_n 0, 1) := by decide +kernel
theorem dL_law_478 : decode cL_law 478 = .ok (.iload_n 3, 1) := by decide +kernel
theorem dL_law_479 : decode cL_law 479 = .ok (.iconst 1, 1) := by decide +kernel
theorem dL_law_480 : decode cL_law 480 = .ok (.iadd, 1) := by decide +kernel
theorem dL_law_481 : decode cL_law 481 = .ok (.iaload, 1) := by decide +kernel
theorem dL_law_482 : decode cL_law 482 = .ok (.invokevirtual 56, 3) := by decide +kernel
theorem dL_law_485 : decode cL_law 485 = .ok (.if_icmp .eq 499, 3) := by decide +kernel
theorem dL_law_488 : decode cL_law 488 = .ok (.iconst 0, 1) := by decide +kernel
theorem dL_law_489 : decode cL_law 489 = .ok (.ireturn, 1) := by decide +kernel
theorem dL_law_490 : decode cL_law 490 = .ok (.aload_n 1, 1) := by decide +kernel
theorem dL_law_491 : decode cL_law 491 = .ok (.aload_n 0, 1) := by decide +kernel
theorem dL_law_492 : decode cL_law 492 = .ok (.iload_n 3, 1) := by decide +kernel
theorem dL_law_493 : decode cL_law 493 = .ok (.iconst 1, 1) := by decide +kernel
theorem dL_law_494 : decode cL_law 494 = .ok (.iadd, 1) := by decide +kernel
theorem dL_law_495 : decode cL_law 495 = .ok (.iaload, 1) := by decide +kernel
theorem dL_law_496 : decode cL_law 496 = .ok (.aload_n 0, 1) := by decide +kernel
theorem dL_law_497 : decode cL_law 497 = .ok (.iload_n 3, 1) := by decide +kernel
theorem dL_law_498 : decode cL_law 498 = .ok (.iconst 2, 1) := by decide +kernel
theorem dL_law_499 : decode cL_law 499 = .ok (.iadd, 1) := by decide +kernel
theorem dL_law_500 : decode cL_law 500 = .ok (.iaload, 1) := by decide +kernel
theorem dL_law_501 : decode cL_law 501 = .ok (.invokevirtual 57, 3) := by decide +kernel
theorem dL_law_504 : decode cL_law 504 = .ok (.aload_n 2, 1) := by decide +kernel
theorem dL_law_505 : decode cL_law 505 = .ok (.aload_n 0, 1) := by decide +kernel
theorem dL_law_506 : decode cL_law 506 = .ok (.iload_n 3, 1) := by decide +kernel
theorem dL_law_507 : decode cL_law 507 = .ok (.iconst 1, 1) := by decide +kernel
theorem dL_law_508 : decode cL_law 508 = .ok (.iadd, 1) := by decide +kernel
theorem dL_law_509 : decode cL_law 509 = .ok (.iaload, 1) := by decide +kernel
theorem dL_law_510 : decode cL_law 510 = .ok (.aload_n 0, 1) := by decide +kernel
theorem dL_law_511 : decode cL_law 511 = .ok (.iload_n 3, 1) := by decide +kernel
theorem dL_law_512 : decode cL_law 512 = .ok (.iconst 2, 1) := by decide +kernel
theorem dL_law_513 : decode cL_law 513 = .ok (.iadd, 1) := by decide +kernel
theorem dL_law_514 : decode cL_law 514 = .ok (.iaload, 1) := by decide +kernel
theorem dL_law_515 : decode cL_law 515 = .ok (.invokevirtual 60, 3) := by decide +kernel
theorem dL_law_518 : decode cL_law 518 = .ok (.if_icmp .eq 466, 3) := by decide +kernel
theorem dL_law_521 : decode cL_law 521 = .ok (.iconst 0, 1) := by decide +kernel
theorem dL_law_522 : decode cL_law 522 = .ok (.ireturn, 1) := by decide +kernel
theorem dL_law_523 : decode cL_law 523 = .ok (.aload_n 1, 1) := by decide +kernel
theorem dL_law_524 : decode cL_law 524 = .ok (.aload_n 0, 1) := by decide +kernel
theorem dL_law_525 : decode cL_law 525 = .ok (.iload_n 3, 1) := by decide +kernel
theorem dL_law_526 : decode cL_law 526 = .ok (.iconst 1, 1) := by decide +kernel
theorem dL_law_527 : decode cL_law 527 = .ok (.iadd, 1) := by decide +kernel
theorem dL_law_528 : decode cL_law 528 = .ok (.iaload, 1) := by decide +kernel
theorem dL_law_529 : decode cL_law 529 = .ok (.aload_n 0, 1) := by decide +kernel
theorem dL_law_530 : decode cL_law 530 = .ok (.iload_n 3, 1) := by decide +kernel
theorem dL_law_531 : decode cL_law 531 = .ok (.iconst 2, 1) := by decide +kernel
theorem dL_law_532 : decode cL_law 532 = .ok (.iadd, 1) := by decide +kernel
theorem dL_law_533 : decode cL_law 533 = .ok (.iaload, 1) := by decide +kernel
theorem dL_law_534 : decode cL_law 534 = .ok (.invokevirtual 61, 3) := by decide +kernel
theorem dL_law_537 : decode cL_law 537 = .ok (.aload_n 2, 1) := by decide +kernel
theorem dL_law_538 : decode cL_law 538 = .ok (.aload_n 0, 1) := by decide +kernel
theorem dL_law_539 : decode cL_law 539 = .ok (.iload_n 3, 1) := by decide +kernel
theorem dL_law_540 : decode cL_law 540 = .ok (.iconst 1, 1) := by decide +kernel
theorem dL_law_541 : decode cL_law 541 = .ok (.iadd, 1) := by decide +kernel
theorem dL_law_542 : decode cL_law 542 = .ok (.iaload, 1) := by decide +kernel
theorem dL_law_543 : decode cL_law 543 = .ok (.aload_n 0, 1) := by decide +kernel
theorem dL_law_544 : decode cL_law 544 = .ok (.iload_n 3, 1) := by decide +kernel
theorem dL_law_545 : decode cL_law 545 = .ok (.iconst 2, 1) := by decide +kernel
theorem dL_law_546 : decode cL_law 546 = .ok (.iadd, 1) := by decide +kernel
theorem dL_law_547 : decode cL_law 547 = .ok (.iaload, 1) := by decide +kernel
theorem dL_law_548 : decode cL_law 548 = .ok (.invokevirtual 64, 3) := by decide +kernel
theorem dL_law_551 : decode cL_law 551 = .ok (.if_icmp .eq 433, 3) := by decide +kernel
theorem dL_law_554 : decode cL_law 554 = .ok (.iconst 0, 1) := by decide +kernel
theorem dL_law_555 : decode cL_law 555 = .ok (.ireturn, 1) := by decide +kernel
theorem dL_law_556 : decode cL_law 556 = .ok (.aload_n 1, 1) := by decide +kernel
theorem dL_law_557 : decode cL_law 557 = .ok (.aload_n 0, 1) := by decide +kernel
theorem dL_law_558 : decode cL_law 558 = .ok (.iload_n 3, 1) := by decide +kernel
theorem dL_law_559 : decode cL_law 559 = .ok (.iconst 1, 1) := by decide +kernel
theorem dL_law_560 : decode cL_law 560 = .ok (.iadd, 1) := by decide +kernel
theorem dL_law_561 : decode cL_law 561 = .ok (.iaload, 1) := by decide +kernel
theorem dL_law_562 : decode cL_law 562 = .ok (.aload_n 0, 1) := by decide +kernel
theorem dL_law_563 : decode cL_law 563 = .ok (.iload_n 3, 1) := by decide +kernel
theorem dL_law_564 : decode cL_law 564 = .ok (.iconst 2, 1) := by decide +kernel
theorem dL_law_565 : decode cL_law 565 = .ok (.iadd, 1) := by decide +kernel
theorem dL_law_566 : decode cL_law 566 = .ok (.iaload, 1) := by decide +kernel
theorem dL_law_567 : decode cL_law 567 = .ok (.invokevirtual 65, 3) := by decide +kernel
theorem dL_law_570 : decode cL_law 570 = .ok (.aload_n 2, 1) := by decide +kernel
theorem dL_law_571 : decode cL_law 571 = .ok (.aload_n 0, 1) := by decide +kernel
theorem dL_law_572 : decode cL_law 572 = .ok (.iload_n 3, 1) := by decide +kernel
theorem dL_law_573 : decode cL_law 573 = .ok (.iconst 1, 1) := by decide +kernel
theorem dL_law_574 : decode cL_law 574 = .ok (.iadd, 1) := by decide +kernel
theorem dL_law_575 : decode cL_law 575 = .ok (.iaload, 1) := by decide +kernel
theorem dL_law_576 : decode cL_law 576 = .ok (.aload_n 0, 1) := by decide +kernel
theorem dL_law_577 : decode cL_law 577 = .ok (.iload_n 3, 1) := by decide +kernel
theorem dL_law_578 : decode cL_law 578 = .ok (.iconst 2, 1) := by decide +kernel
theorem dL_law_579 : decode cL_law 579 = .ok (.iadd, 1) := by decide +kernel
theorem dL_law_580 : decode cL_law 580 = .ok (.iaload, 1) := by decide +kernel
theorem dL_law_581 : decode cL_law 581 = .ok (.invokevirtual 68, 3) := by decide +kernel
theorem dL_law_584 : decode cL_law 584 = .ok (.if_icmp .eq 400, 3) := by decide +kernel
theorem dL_law_587 : decode cL_law 587 = .ok (.iconst 0, 1) := by decide +kernel
theorem dL_law_588 : decode cL_law 588 = .ok (.ireturn, 1) := by decide +kernel
theorem dL_law_589 : decode cL_law 589 = .ok (.aload_n 1, 1) := by decide +kernel
theorem dL_law_590 : decode cL_law 590 = .ok (.aload_n 0, 1) := by decide +kernel
theorem dL_law_591 : decode cL_law 591 = .ok (.iload_n 3, 1) := by decide +kernel
theorem dL_law_592 : decode cL_law 592 = .ok (.iconst 1, 1) := by decide +kernel
theorem dL_law_593 : decode cL_law 593 = .ok (.iadd, 1) := by decide +kernel
theorem dL_law_594 : decode cL_law 594 = .ok (.iaload, 1) := by decide +kernel
theorem dL_law_595 : decode cL_law 595 = .ok (.aload_n 0, 1) := by decide +kernel
theorem dL_law_596 : decode cL_law 596 = .ok (.iload_n 3, 1) := by decide +kernel
theorem dL_law_597 : decode cL_law 597 = .ok (.iconst 2, 1) := by decide +kernel
theorem dL_law_598 : decode cL_law 598 = .ok (.iadd, 1) := by decide +kernel
theorem dL_law_599 : decode cL_law 599 = .ok (.iaload, 1) := by decide +kernel
theorem dL_law_600 : decode cL_law 600 = .ok (.invokevirtual 69, 3) := by decide +kernel
theorem dL_law_603 : decode cL_law 603 = .ok (.aload_n 2, 1) := by decide +kernel
theorem dL_law_604 : decode cL_law 604 = .ok (.aload_n 0, 1) := by decide +kernel
theorem dL_law_605 : decode cL_law 605 = .ok (.iload_n 3, 1) := by decide +kernel
theorem dL_law_606 : decode cL_law 606 = .ok (.iconst 1, 1) := by decide +kernel
theorem dL_law_607 : decode cL_law 607 = .ok (.iadd, 1) := by decide +kernel
theorem dL_law_608 : decode cL_law 608 = .ok (.iaload, 1) := by decide +kernel
theorem dL_law_609 : decode cL_law 609 = .ok (.aload_n 0, 1) := by decide +kernel
theorem dL_law_610 : decode cL_law 610 = .ok (.iload_n 3, 1) := by decide +kernel
theorem dL_law_611 : decode cL_law 611 = .ok (.iconst 2, 1) := by decide +kernel
theorem dL_law_612 : decode cL_law 612 = .ok (.iadd, 1) := by decide +kernel
theorem dL_law_613 : decode cL_law 613 = .ok (.iaload, 1) := by decide +kernel
theorem dL_law_614 : decode cL_law 614 = .ok (.invokevirtual 72, 3) := by decide +kernel
theorem dL_law_617 : decode cL_law 617 = .ok (.if_icmp .eq 367, 3) := by decide +kernel
theorem dL_law_620 : decode cL_law 620 = .ok (.iconst 0, 1) := by decide +kernel
theorem dL_law_621 : decode cL_law 621 = .ok (.ireturn, 1) := by decide +kernel
theorem dL_law_622 : decode cL_law 622 = .ok (.aload_n 1, 1) := by decide +kernel
theorem dL_law_623 : decode cL_law 623 = .ok (.invokevirtual 73, 3) := by decide +kernel
theorem dL_law_626 : decode cL_law 626 = .ok (.aload_n 2, 1) := by decide +kernel
theorem dL_law_627 : decode cL_law 627 = .ok (.invokevirtual 76, 3) := by decide +kernel
theorem dL_law_630 : decode cL_law 630 = .ok (.if_icmp .eq 354, 3) := by decide +kernel
theorem dL_law_633 : decode cL_law 633 = .ok (.iconst 0, 1) := by decide +kernel
theorem dL_law_634 : decode cL_law 634 = .ok (.ireturn, 1) := by decide +kernel
theorem dL_law_635 : decode cL_law 635 = .ok (.aload_n 1, 1) := by decide +kernel
theorem dL_law_636 : decode cL_law 636 = .ok (.aload_n 0, 1) := by decide +kernel
theorem dL_law_637 : decode cL_law 637 = .ok (.iload_n 3, 1) := by decide +kernel
theorem dL_law_638 : decode cL_law 638 = .ok (.iconst 1, 1) := by decide +kernel
theorem dL_law_639 : decode cL_law 639 = .ok (.iadd, 1) := by decide +kernel
theorem dL_law_640 : decode cL_law 640 = .ok (.iaload, 1) := by decide +kernel
theorem dL_law_641 : decode cL_law 641 = .ok (.invokevirtual 77, 3) := by decide +kernel
theorem dL_law_644 : decode cL_law 644 = .ok (.aload_n 2, 1) := by decide +kernel
theorem dL_law_645 : decode cL_law 645 = .ok (.aload_n 0, 1) := by decide +kernel
theorem dL_law_646 : decode cL_law 646 = .ok (.iload_n 3, 1) := by decide +kernel
theorem dL_law_647 : decode cL_law 647 = .ok (.iconst 1, 1) := by decide +kernel
theorem dL_law_648 : decode cL_law 648 = .ok (.iadd, 1) := by decide +kernel
theorem dL_law_649 : decode cL_law 649 = .ok (.iaload, 1) := by decide +kernel
theorem dL_law_650 : decode cL_law 650 = .ok (.invokevirtual 80, 3) := by decide +kernel
theorem dL_law_653 : decode cL_law 653 = .ok (.if_icmp .eq 331, 3) := by decide +kernel
theorem dL_law_656 : decode cL_law 656 = .ok (.iconst 0, 1) := by decide +kernel
theorem dL_law_657 : decode cL_law 657 = .ok (.ireturn, 1) := by decide +kernel
theorem dL_law_658 : decode cL_law 658 = .ok (.aload_n 1, 1) := by decide +kernel
theorem dL_law_659 : decode cL_law 659 = .ok (.aload_n 0, 1) := by decide +kernel
theorem dL_law_660 : decode cL_law 660 = .ok (.iload_n 3, 1) := by decide +kernel
theorem dL_law_661 : decode cL_law 661 = .ok (.iconst 1, 1) := by decide +kernel
theorem dL_law_662 : decode cL_law 662 = .ok (.iadd, 1) := by decide +kernel
theorem dL_law_663 : decode cL_law 663 = .ok (.iaload, 1) := by decide +kernel
theorem dL_law_664 : decode cL_law 664 = .ok (.invokevirtual 81, 3) := by decide +kernel
theorem dL_law_667 : decode cL_law 667 = .ok (.aload_n 2, 1) := by decide +kernel
theorem dL_law_668 : decode cL_law 668 = .ok (.aload_n 0, 1) := by decide +kernel
theorem dL_law_669 : decode cL_law 669 = .ok (.iload_n 3, 1) := by decide +kernel
theorem dL_law_670 : decode cL_law 670 = .ok (.iconst 1, 1) := by decide +kernel
theorem dL_law_671 : decode cL_law 671 = .ok (.iadd, 1) := by decide +kernel
theorem dL_law_672 : decode cL_law 672 = .ok (.iaload, 1) := by decide +kernel
theorem dL_law_673 : decode cL_law 673 = .ok (.invokevirtual 84, 3) := by decide +kernel
theorem dL_law_676 : decode cL_law 676 = .ok (.if_icmp .eq 308, 3) := by decide +kernel
theorem dL_law_679 : decode cL_law 679 = .ok (.iconst 0, 1) := by decide +kernel
theorem dL_law_680 : decode cL_law 680 = .ok (.ireturn, 1) := by decide +kernel
theorem dL_law_681 : decode cL_law 681 = .ok (.aload_n 1, 1) := by decide +kernel
theorem dL_law_682 : decode cL_law 682 = .ok (.invokevirtual 85, 3) := by decide +kernel
theorem dL_law_685 : decode cL_law 685 = .ok (.aload_n 2, 1) := by decide +kernel
theorem dL_law_686 : decode cL_law 686 = .ok (.invokevirtual 88, 3) := by decide +kernel
theorem dL_law_689 : decode cL_law 689 = .ok (.if_icmp .eq 295, 3) := by decide +kernel
theorem dL_law_692 : decode cL_law 692 = .ok (.iconst 0, 1) := by decide +kernel
theorem dL_law_693 : decode cL_law 693 = .ok (.ireturn, 1) := by decide +kernel
theorem dL_law_694 : decode cL_law 694 = .ok (.aload_n 1, 1) := by decide +kernel
theorem dL_law_695 : decode cL_law 695 = .ok (.aload_n 0, 1) := by decide +kernel
theorem dL_law_696 : decode cL_law 696 = .ok (.iload_n 3, 1) := by decide +kernel
theorem dL_law_697 : decode cL_law 697 = .ok (.iconst 1, 1) := by decide +kernel
theorem dL_law_698 : decode cL_law 698 = .ok (.iadd, 1) := by decide +kernel
theorem dL_law_699 : decode cL_law 699 = .ok (.iaload, 1) := by decide +kernel
theorem dL_law_700 : decode cL_law 700 = .ok (.aload_n 0, 1) := by decide +kernel
theorem dL_law_701 : decode cL_law 701 = .ok (.iload_n 3, 1) := by decide +kernel
theorem dL_law_702 : decode cL_law 702 = .ok (.iconst 2, 1) := by decide +kernel
theorem dL_law_703 : decode cL_law 703 = .ok (.iadd, 1) := by decide +kernel
theorem dL_law_704 : decode cL_law 704 = .ok (.iaload, 1) := by decide +kernel
theorem dL_law_705 : decode cL_law 705 = .ok (.invokevirtual 89, 3) := by decide +kernel
theorem dL_law_708 : decode cL_law 708 = .ok (.aload_n 2, 1) := by decide +kernel
theorem dL_law_709 : decode cL_law 709 = .ok (.aload_n 0, 1) := by decide +kernel
theorem dL_law_710 : decode cL_law 710 = .ok (.iload_n 3, 1) := by decide +kernel
theorem dL_law_711 : decode cL_law 711 = .ok (.iconst 1, 1) := by decide +kernel
theorem dL_law_712 : decode cL_law 712 = .ok (.iadd, 1) := by decide +kernel
theorem dL_law_713 : decode cL_law 713 = .ok (.iaload, 1) := by decide +kernel
theorem dL_law_714 : decode cL_law 714 = .ok (.aload_n 0, 1) := by decide +kernel
theorem dL_law_715 : decode cL_law 715 = .ok (.iload_n 3, 1) := by decide +kernel
theorem dL_law_716 : decode cL_law 716 = .ok (.iconst 2, 1) := by decide +kernel
theorem dL_law_717 : decode cL_law 717 = .ok (.iadd, 1) := by decide +kernel
theorem dL_law_718 : decode cL_law 718 = .ok (.iaload, 1) := by decide +kernel
theorem dL_law_719 : decode cL_law 719 = .ok (.invokevirtual 92, 3) := by decide +kernel
theorem dL_law_722 : decode cL_law 722 = .ok (.if_icmp .eq 262, 3) := by decide +kernel
theorem dL_law_725 : decode cL_law 725 = .ok (.iconst 0, 1) := by decide +kernel
theorem dL_law_726 : decode cL_law 726 = .ok (.ireturn, 1) := by decide +kernel
theorem dL_law_727 : decode cL_law 727 = .ok (.aload_n 1, 1) := by decide +kernel
theorem dL_law_728 : decode cL_law 728 = .ok (.invokevirtual 93, 3) := by decide +kernel
theorem dL_law_731 : decode cL_law 731 = .ok (.aload_n 2, 1) := by decide +kernel
theorem dL_law_732 : decode cL_law 732 = .ok (.invokevirtual 96, 3) := by decide +kernel
theorem dL_law_735 : decode cL_law 735 = .ok (.if_icmp .eq 249, 3) := by decide +kernel
theorem dL_law_738 : decode cL_law 738 = .ok (.iconst 0, 1) := by decide +kernel
theorem dL_law_739 : decode cL_law 739 = .ok (.ireturn, 1) := by decide +kernel
theorem dL_law_740 : decode cL_law 740 = .ok (.aload_n 1, 1) := by decide +kernel
theorem dL_law_741 : decode cL_law 741 = .ok (.invokevirtual 97, 3) := by decide +kernel
theorem dL_law_744 : decode cL_law 744 = .ok (.aload_n 2, 1) := by decide +kernel
theorem dL_law_745 : decode cL_law 745 = .ok (.invokevirtual 100, 3) := by decide +kernel
theorem dL_law_748 : decode cL_law 748 = .ok (.if_icmp .eq 236, 3) := by decide +kernel
theorem dL_law_751 : decode cL_law 751 = .ok (.iconst 0, 1) := by decide +kernel
theorem dL_law_752 : decode cL_law 752 = .ok (.ireturn, 1) := by decide +kernel
theorem dL_law_753 : decode cL_law 753 = .ok (.aload_n 1, 1) := by decide +kernel
theorem dL_law_754 : decode cL_law 754 = .ok (.aload_n 0, 1) := by decide +kernel
theorem dL_law_755 : decode cL_law 755 = .ok (.iload_n 3, 1) := by decide +kernel
theorem dL_law_756 : decode cL_law 756 = .ok (.iconst 1, 1) := by decide +kernel
theorem dL_law_757 : decode cL_law 757 = .ok (.iadd, 1) := by decide +kernel
theorem dL_law_758 : decode cL_law 758 = .ok (.iaload, 1) := by decide +kernel
theorem dL_law_759 : decode cL_law 759 = .ok (.aload_n 0, 1) := by decide +kernel
theorem dL_law_760 : decode cL_law 760 = .ok (.iload_n 3, 1) := by decide +kernel
theorem dL_law_761 : decode cL_law 761 = .ok (.iconst 2, 1) := by decide +kernel
theorem dL_law_762 : decode cL_law 762 = .ok (.iadd, 1) := by decide +kernel
theorem dL_law_763 : decode cL_law 763 = .ok (.iaload, 1) := by decide +kernel
theorem dL_law_764 : decode cL_law 764 = .ok (.invokevirtual 101, 3) := by decide +kernel
theorem dL_law_767 : decode cL_law 767 = .ok (.aload_n 2, 1) := by decide +kernel
theorem dL_law_768 : decode cL_law 768 = .ok (.aload_n 0, 1) := by decide +kernel
theorem dL_law_769 : decode cL_law 769 = .ok (.iload_n 3, 1) := by decide +kernel
theorem dL_law_770 : decode cL_law 770 = .ok (.iconst 1, 1) := by decide +kernel
theorem dL_law_771 : decode cL_law 771 = .ok (.iadd, 1) := by decide +kernel
theorem dL_law_772 : decode cL_law 772 = .ok (.iaload, 1) := by decide +kernel
theorem dL_law_773 : decode cL_law 773 = .ok (.aload_n 0, 1) := by decide +kernel
theorem dL_law_774 : decode cL_law 774 = .ok (.iload_n 3, 1) := by decide +kernel
theorem dL_law_775 : decode cL_law 775 = .ok (.iconst 2, 1) := by decide +kernel
theorem dL_law_776 : decode cL_law 776 = .ok (.iadd, 1) := by decide +kernel
theorem dL_law_777 : decode cL_law 777 = .ok (.iaload, 1) := by decide +kernel
theorem dL_law_778 : decode cL_law 778 = .ok (.invokevirtual 104, 3) := by decide +kernel
theorem dL_law_781 : decode cL_law 781 = .ok (.if_icmp .eq 203, 3) := by decide +kernel
theorem dL_law_784 : decode cL_law 784 = .ok (.iconst 0, 1) := by decide +kernel
theorem dL_law_785 : decode cL_law 785 = .ok (.ireturn, 1) := by decide +kernel
theorem dL_law_786 : decode cL_law 786 = .ok (.aload_n 1, 1) := by decide +kernel
theorem dL_law_787 : decode cL_law 787 = .ok (.aload_n 0, 1) := by decide +kernel
theorem dL_law_788 : decode cL_law 788 = .ok (.iload_n 3, 1) := by decide +kernel
theorem dL_law_789 : decode cL_law 789 = .ok (.iconst 1, 1) := by decide +kernel
theorem dL_law_790 : decode cL_law 790 = .ok (.iadd, 1) := by decide +kernel
theorem dL_law_791 : decode cL_law 791 = .ok (.iaload, 1) := by decide +kernel
theorem dL_law_792 : decode cL_law 792 = .ok (.aload_n 0, 1) := by decide +kernel
theorem dL_law_793 : decode cL_law 793 = .ok (.iload_n 3, 1) := by decide +kernel
theorem dL_law_794 : decode cL_law 794 = .ok (.iconst 2, 1) := by decide +kernel
theorem dL_law_795 : decode cL_law 795 = .ok (.iadd, 1) := by decide +kernel
theorem dL_law_796 : decode cL_law 796 = .ok (.iaload, 1) := by decide +kernel
theorem dL_law_797 : decode cL_law 797 = .ok (.aload_n 0, 1) := by decide +kernel
theorem dL_law_798 : decode cL_law 798 = .ok (.iload_n 3, 1) := by decide +kernel
theorem dL_law_799 : decode cL_law 799 = .ok (.iconst 3, 1) := by decide +kernel
theorem dL_law_800 : decode cL_law 800 = .ok (.iadd, 1) := by decide +kernel
theorem dL_law_801 : decode cL_law 801 = .ok (.iaload, 1) := by decide +kernel
theorem dL_law_802 : decode cL_law 802 = .ok (.invokevirtual 105, 3) := by decide +kernel
theorem dL_law_805 : decode cL_law 805 = .ok (.aload_n 2, 1) := by decide +kernel
theorem dL_law_806 : decode cL_law 806 = .ok (.aload_n 0, 1) := by decide +kernel
theorem dL_law_807 : decode cL_law 807 = .ok (.iload_n 3, 1) := by decide +kernel
theorem dL_law_808 : decode cL_law 808 = .ok (.iconst 1, 1) := by decide +kernel
theorem dL_law_809 : decode cL_law 809 = .ok (.iadd, 1) := by decide +kernel
theorem dL_law_810 : decode cL_law 810 = .ok (.iaload, 1) := by decide +kernel
theorem dL_law_811 : decode cL_law 811 = .ok (.aload_n 0, 1) := by decide +kernel
theorem dL_law_812 : decode cL_law 812 = .ok (.iload_n 3, 1) := by decide +kernel
theorem dL_law_813 : decode cL_law 813 = .ok (.iconst 2, 1) := by decide +kernel
theorem dL_law_814 : decode cL_law 814 = .ok (.iadd, 1) := by decide +kernel
theorem dL_law_815 : decode cL_law 815 = .ok (.iaload, 1) := by decide +kernel
theorem dL_law_816 : decode cL_law 816 = .ok (.aload_n 0, 1) := by decide +kernel
theorem dL_law_817 : decode cL_law 817 = .ok (.iload_n 3, 1) := by decide +kernel
theorem dL_law_818 : decode cL_law 818 = .ok (.iconst 3, 1) := by decide +kernel
theorem dL_law_819 : decode cL_law 819 = .ok (.iadd, 1) := by decide +kernel
theorem dL_law_820 : decode cL_law 820 = .ok (.iaload, 1) := by decide +kernel
theorem dL_law_821 : decode cL_law 821 = .ok (.invokevirtual 109, 3) := by decide +kernel
theorem dL_law_824 : decode cL_law 824 = .ok (.if_icmp .eq 160, 3) := by decide +kernel
theorem dL_law_827 : decode cL_law 827 = .ok (.iconst 0, 1) := by decide +kernel
theorem dL_law_828 : decode cL_law 828 = .ok (.ireturn, 1) := by decide +kernel
theorem dL_law_829 : decode cL_law 829 = .ok (.aload_n 1, 1) := by decide +kernel
theorem dL_law_830 : decode cL_law 830 = .ok (.aload_n 0, 1) := by decide +kernel
theorem dL_law_831 : decode cL_law 831 = .ok (.iload_n 3, 1) := by decide +kernel
theorem dL_law_832 : decode cL_law 832 = .ok (.iconst 1, 1) := by decide +kernel
theorem dL_law_833 : decode cL_law 833 = .ok (.iadd, 1) := by decide +kernel
theorem dL_law_834 : decode cL_law 834 = .ok (.iaload, 1) := by decide +kernel
theorem dL_law_835 : decode cL_law 835 = .ok (.aload_n 0, 1) := by decide +kernel
theorem dL_law_836 : decode cL_law 836 = .ok (.iload_n 3, 1) := by decide +kernel
theorem dL_law_837 : decode cL_law 837 = .ok (.iconst 2, 1) := by decide +kernel
theorem dL_law_838 : decode cL_law 838 = .ok (.iadd, 1) := by decide +kernel
theorem dL_law_839 : decode cL_law 839 = .ok (.iaload, 1) := by decide +kernel
theorem dL_law_840 : decode cL_law 840 = .ok (.aload_n 0, 1) := by decide +kernel
theorem dL_law_841 : decode cL_law 841 = .ok (.iload_n 3, 1) := by decide +kernel
theorem dL_law_842 : decode cL_law 842 = .ok (.iconst 3, 1) := by decide +kernel
theorem dL_law_843 : decode cL_law 843 = .ok (.iadd, 1) := by decide +kernel
theorem dL_law_844 : decode cL_law 844 = .ok (.iaload, 1) := by decide +kernel
theorem dL_law_845 : decode cL_law 845 = .ok (.aload_n 0, 1) := by decide +kernel
theorem dL_law_846 : decode cL_law 846 = .ok (.iload_n 3, 1) := by decide +kernel
theorem dL_law_847 : decode cL_law 847 = .ok (.iconst 4, 1) := by decide +kernel
theorem dL_law_848 : decode cL_law 848 = .ok (.iadd, 1) := by decide +kernel
theorem dL_law_849 : decode cL_law 849 = .ok (.iaload, 1) := by decide +kernel
theorem dL_law_850 : decode cL_law 850 = .ok (.aload_n 0, 1) := by decide +kernel
theorem dL_law_851 : decode cL_law 851 = .ok (.iload_n 3, 1) := by decide +kernel
theorem dL_law_852 : decode cL_law 852 = .ok (.iconst 5, 1) := by decide +kernel
theorem dL_law_853 : decode cL_law 853 = .ok (.iadd, 1) := by decide +kernel
theorem dL_law_854 : decode cL_law 854 = .ok (.iaload, 1) := by decide +kernel
theorem dL_law_855 : decode cL_law 855 = .ok (.invokevirtual 110, 3) := by decide +kernel
theorem dL_law_858 : decode cL_law 858 = .ok (.aload_n 2, 1) := by decide +kernel
theorem dL_law_859 : decode cL_law 859 = .ok (.aload_n 0, 1) := by decide +kernel
theorem dL_law_860 : decode cL_law 860 = .ok (.iload_n 3, 1) := by decide +kernel
theorem dL_law_861 : decode cL_law 861 = .ok (.iconst 1, 1) := by decide +kernel
theorem dL_law_862 : decode cL_law 862 = .ok (.iadd, 1) := by decide +kernel
theorem dL_law_863 : decode cL_law 863 = .ok (.iaload, 1) := by decide +kernel
theorem dL_law_864 : decode cL_law 864 = .ok (.aload_n 0, 1) := by decide +kernel
theorem dL_law_865 : decode cL_law 865 = .ok (.iload_n 3, 1) := by decide +kernel
theorem dL_law_866 : decode cL_law 866 = .ok (.iconst 2, 1) := by decide +kernel
theorem dL_law_867 : decode cL_law 867 = .ok (.iadd, 1) := by decide +kernel
theorem dL_law_868 : decode cL_law 868 = .ok (.iaload, 1) := by decide +kernel
theorem dL_law_869 : decode cL_law 869 = .ok (.aload_n 0, 1) := by decide +kernel
theorem dL_law_870 : decode cL_law 870 = .ok (.iload_n 3, 1) := by decide +kernel
theorem dL_law_871 : decode cL_law 871 = .ok (.iconst 3, 1) := by decide +kernel
theorem dL_law_872 : decode cL_law 872 = .ok (.iadd, 1) := by decide +kernel
theorem dL_law_873 : decode cL_law 873 = .ok (.iaload, 1) := by decide +kernel
theorem dL_law_874 : decode cL_law 874 = .ok (.aload_n 0, 1) := by decide +kernel
theorem dL_law_875 : decode cL_law 875 = .ok (.iload_n 3, 1) := by decide +kernel
theorem dL_law_876 : decode cL_law 876 = .ok (.iconst 4, 1) := by decide +kernel
theorem dL_law_877 : decode cL_law 877 = .ok (.iadd, 1) := by decide +kernel
theorem dL_law_878 : decode cL_law 878 = .ok (.iaload, 1) := by decide +kernel
theorem dL_law_879 : decode cL_law 879 = .ok (.aload_n 0, 1) := by decide +kernel
theorem dL_law_880 : decode cL_law 880 = .ok (.iload_n 3, 1) := by decide +kernel
theorem dL_law_881 : decode cL_law 881 = .ok (.iconst 5, 1) := by decide +kernel
theorem dL_law_882 : decode cL_law 882 = .ok (.iadd, 1) := by decide +kernel
theorem dL_law_883 : decode cL_law 883 = .ok (.iaload, 1) := by decide +kernel
theorem dL_law_884 : decode cL_law 884 = .ok (.invokevirtual 114, 3) := by decide +kernel
theorem dL_law_887 : decode cL_law 887 = .ok (.if_icmp .eq 97, 3) := by decide +kernel
theorem dL_law_890 : decode cL_law 890 = .ok (.iconst 0, 1) := by decide +kernel
theorem dL_law_891 : decode cL_law 891 = .ok (.ireturn, 1) := by decide +kernel
theorem dL_law_892 : decode cL_law 892 = .ok (.aload_n 1, 1) := by decide +kernel
theorem dL_law_893 : decode cL_law 893 = .ok (.aload_n 0, 1) := by decide +kernel
theorem dL_law_894 : decode cL_law 894 = .ok (.iload_n 3, 1) := by decide +kernel
theorem dL_law_895 : decode cL_law 895 = .ok (.iconst 1, 1) := by decide +kernel
theorem dL_law_896 : decode cL_law 896 = .ok (.iadd, 1) := by decide +kernel
theorem dL_law_897 : decode cL_law 897 = .ok (.iaload, 1) := by decide +kernel
theorem dL_law_898 : decode cL_law 898 = .ok (.aload_n 0, 1) := by decide +kernel
theorem dL_law_899 : decode cL_law 899 = .ok (.iload_n 3, 1) := by decide +kernel
theorem dL_law_900 : decode cL_law 900 = .ok (.iconst 2, 1) := by decide +kernel
theorem dL_law_901 : decode cL_law 901 = .ok (.iadd, 1) := by decide +kernel
theorem dL_law_902 : decode cL_law 902 = .ok (.iaload, 1) := by decide +kernel
theorem dL_law_903 : decode cL_law 903 = .ok (.aload_n 0, 1) := by decide +kernel
theorem dL_law_904 : decode cL_law 904 = .ok (.iload_n 3, 1) := by decide +kernel
theorem dL_law_905 : decode cL_law 905 = .ok (.iconst 3, 1) := by decide +kernel
theorem dL_law_906 : decode cL_law 906 = .ok (.iadd, 1) := by decide +kernel
theorem dL_law_907 : decode cL_law 907 = .ok (.iaload, 1) := by decide +kernel
theorem dL_law_908 : decode cL_law 908 = .ok (.invokevirtual 115, 3) := by decide +kernel
theorem dL_law_911 : decode cL_law 911 = .ok (.aload_n 2, 1) := by decide +kernel
theorem dL_law_912 : decode cL_law 912 = .ok (.aload_n 0, 1) := by decide +kernel
theorem dL_law_913 : decode cL_law 913 = .ok (.iload_n 3, 1) := by decide +kernel
theorem dL_law_914 : decode cL_law 914 = .ok (.iconst 1, 1) := by decide +kernel
theorem dL_law_915 : decode cL_law 915 = .ok (.iadd, 1) := by decide +kernel
theorem dL_law_916 : decode cL_law 916 = .ok (.iaload, 1) := by decide +kernel
theorem dL_law_917 : decode cL_law 917 = .ok (.aload_n 0, 1) := by decide +kernel
theorem dL_law_918 : decode cL_law 918 = .ok (.iload_n 3, 1) := by decide +kernel
theorem dL_law_919 : decode cL_law 919 = .ok (.iconst 2, 1) := by decide +kernel
theorem dL_law_920 : decode cL_law 920 = .ok (.iadd, 1) := by decide +kernel
theorem dL_law_921 : decode cL_law 921 = .ok (.iaload, 1) := by decide +kernel
theorem dL_law_922 : decode cL_law 922 = .ok (.aload_n 0, 1) := by decide +kernel
theorem dL_law_923 : decode cL_law 923 = .ok (.iload_n 3, 1) := by decide +kernel
theorem dL_law_924 : decode cL_law 924 = .ok (.iconst 3, 1) := by decide +kernel
theorem dL_law_925 : decode cL_law 925 = .ok (.iadd, 1) := by decide +kernel
theorem dL_law_926 : decode cL_law 926 = .ok (.iaload, 1) := by decide +kernel
theorem dL_law_927 : decode cL_law 927 = .ok (.invokevirtual 118, 3) := by decide +kernel
theorem dL_law_930 : decode cL_law 930 = .ok (.if_icmp .eq 54, 3) := by decide +kernel
theorem dL_law_933 : decode cL_law 933 = .ok (.iconst 0, 1) := by decide +kernel
theorem dL_law_934 : decode cL_law 934 = .ok (.ireturn, 1) := by decide +kernel
theorem dL_law_935 : decode cL_law 935 = .ok (.aload_n 1, 1) := by decide +kernel
theorem dL_law_936 : decode cL_law 936 = .ok (.invokevirtual 119, 3) := by decide +kernel
theorem dL_law_939 : decode cL_law 939 = .ok (.aload_n 2, 1) := by decide +kernel
theorem dL_law_940 : decode cL_law 940 = .ok (.invokevirtual 122, 3) := by decide +kernel
theorem dL_law_943 : decode cL_law 943 = .ok (.if_icmp .eq 41, 3) := by decide +kernel
theorem dL_law_946 : decode cL_law 946 = .ok (.iconst 0, 1) := by decide +kernel
theorem dL_law_947 : decode cL_law 947 = .ok (.ireturn, 1) := by decide +kernel
theorem dL_law_948 : decode cL_law 948 = .ok (.aload_n 1, 1) := by decide +kernel
theorem dL_law_949 : decode cL_law 949 = .ok (.invokevirtual 123, 3) := by decide +kernel
theorem dL_law_952 : decode cL_law 952 = .ok (.aload_n 2, 1) := by decide +kernel
theorem dL_law_953 : decode cL_law 953 = .ok (.invokevirtual 126, 3) := by decide +kernel
theorem dL_law_956 : decode cL_law 956 = .ok (.if_icmp .eq 28, 3) := by decide +kernel
theorem dL_law_959 : decode cL_law 959 = .ok (.iconst 0, 1) := by decide +kernel
theorem dL_law_960 : decode cL_law 960 = .ok (.ireturn, 1) := by decide +kernel
theorem dL_law_961 : decode cL_law 961 = .ok (.aload_n 1, 1) := by decide +kernel
theorem dL_law_962 : decode cL_law 962 = .ok (.aload_n 0, 1) := by decide +kernel
theorem dL_law_963 : decode cL_law 963 = .ok (.iload_n 3, 1) := by decide +kernel
theorem dL_law_964 : decode cL_law 964 = .ok (.iconst 1, 1) := by decide +kernel
theorem dL_law_965 : decode cL_law 965 = .ok (.iadd, 1) := by decide +kernel
theorem dL_law_966 : decode cL_law 966 = .ok (.iaload, 1) := by decide +kernel
theorem dL_law_967 : decode cL_law 967 = .ok (.invokevirtual 127, 3) := by decide +kernel
theorem dL_law_970 : decode cL_law 970 = .ok (.aload_n 2, 1) := by decide +kernel
theorem dL_law_971 : decode cL_law 971 = .ok (.aload_n 0, 1) := by decide +kernel
theorem dL_law_972 : decode cL_law 972 = .ok (.iload_n 3, 1) := by decide +kernel
theorem dL_law_973 : decode cL_law 973 = .ok (.iconst 1, 1) := by decide +kernel
theorem dL_law_974 : decode cL_law 974 = .ok (.iadd, 1) := by decide +kernel
theorem dL_law_975 : decode cL_law 975 = .ok (.iaload, 1) := by decide +kernel
theorem dL_law_976 : decode cL_law 976 = .ok (.invokevirtual 130, 3) := by decide +kernel
theorem dL_law_979 : decode cL_law 979 = .ok (.if_icmp .eq 5, 3) := by decide +kernel
theorem dL_law_982 : decode cL_law 982 = .ok (.iconst 0, 1) := by decide +kernel
theorem dL_law_983 : decode cL_law 983 = .ok (.ireturn, 1) := by decide +kernel
theorem dL_law_984 : decode cL_law 984 = .ok (.iinc 3 6, 3) := by decide +kernel
theorem dL_law_987 : decode cL_law 987 = .ok (.goto (-969), 3) := by decide +kernel
theorem dL_law_990 : decode cL_law 990 = .ok (.iconst 1, 1) := by decide +kernel
theorem dL_law_991 : decode cL_law 991 = .ok (.ireturn, 1) := by decide +kernel
end
section
/-! the small machine: worlds are the cells made since 'base', one beside another; a reference is its place (from 1 on) -/
abbrev mC : Type := (Nat × vp_A) ⊕ (Nat × List Value)
abbrev vAd : Type := Nat × Nat × Nat × Nat
abbrev vMt : Type := String × MethodName × ByteArray × Nat × Option FieldType
abbrev vGl : Type := Launch × Nat × (Nat → Int32)
def vi (z : Int) : Value := .int (Int32.ofInt z)
def vj (z : Int) : Value := .long (Int64.ofInt z)
def trv (a : vAd) (v : Value) : Value := match v with
  | .ref 0 => .ref a.2.1
  | .ref (k + 1) => .ref (a.1 + k)
  | .retAddr 0 => .ref a.2.2.1
  | .retAddr (_ + 1) => .ref a.2.2.2
  | v => v
theorem trv_cat (a : vAd) (v : Value) : (trv a v).category = v.category := by
  cases v with
  | ref k => cases k <;> rfl
  | retAddr k => cases k <;> rfl
  | _ => rfl
def tre (a : vAd) (cls : Nat → ClassId) (e : mC) : va_E := match e with
  | .inl x => .inl (cls x.1, x.2)
  | .inr o => .inr (o.1, o.2.map (trv a))
def vP (a : vAd) (cls : Nat → ClassId) (D : va_G) (w : List mC) (H : Heap) : Prop := H.size = a.1 + w.length ∧ ∀ (k : Nat) (e : mC), w[k]? = some e → va_at D vwCl (a.1 + k, tre a cls e) H
def vWords : List Cond := lw_tbl.filter goodWord
theorem vW {w : Cond} (i : Nat) (h : lw_tbl[i]? = some w) (hg : goodWord w = true) : w ∈ vWords := List.mem_filter.mpr ⟨List.mem_of_getElem? h, hg⟩
theorem vGood {w : Cond} (h : w ∈ vWords) : goodWord w = true := (List.mem_filter.mp h).2
def vTy (cls : Nat → ClassId) : List (ClassId × FieldType) := [(cls 0, .int), (cls 1, .long), (cls 2, .boolean)]
def vNest (own : String) (idx : Nat) (y : MethodName) : Prop := (own = RX8 ∧ idx = 15 ∧ y = yX1_init) ∨ (own = RX8 ∧ idx = 31 ∧ y = yX3_init) ∨ (own = RX8 ∧ idx = 76 ∧ y = yX7_init) ∨ (own = RX6 ∧ idx = 77 ∧ y = yX8_digitFor) ∨ (own = RX0 ∧ idx = 130 ∧ y = yX8_digitFor)
def vLeast (j : Nat) : Value := .int (if j = 0 then 0 else if j = 1 then 1 else 50)
def vMost (j : Nat) : Value := .int (if j = 0 then 999 else if j = 1 then 50 else 100)
def vG (g : vGl) (a : vAd) (cls : Nat → ClassId) (D : va_G) (U : State) (H : Heap) : Prop :=
  va_K D vwCl (vTy cls) U ∧ (∀ own idx y, vNest own idx y → va_Nw (.methodLinkNest own idx y RX8) U) ∧ va_X a.2.1 g.2.1 g.2.2 U H ∧ a.2.1 < a.1 ∧ a.1 ≤ H.size ∧
  (va_Z RX8 "SETTING_LEAST" "[I" (.ref a.2.2.1) (fun q => a.1 ≤ q) U H ∧ va_T .int a.2.2.1 3 vLeast (fun q => a.1 ≤ q) U H) ∧ va_Z RX8 "SETTING_MOST" "[I" (.ref a.2.2.2) (fun q => a.1 ≤ q) U H ∧ va_T .int a.2.2.2 3 vMost (fun q => a.1 ≤ q) U H
theorem vG.go {g : vGl} {a : vAd} {cls : Nat → ClassId} {D : va_G} {s U : State} {H : Heap} {locs : List Loc} (h : vG g a cls D s s.heap) (hS : va_S (fun q => a.1 ≤ q) s.heap H locs) (hW : s.WarmedH U.vm) : vG g a cls D U H := by
  obtain ⟨h1, h2, h3, h4, h5, ⟨h6, h7⟩, h8, h9⟩ := h
  have hq : ∀ x : Nat, x < s.heap.size → ¬ a.1 ≤ x → H[x]? = s.heap[x]? := hS.2.1
  refine ⟨va_K.moved hW.alike h1, fun own idx y hn => (h2 own idx y hn).warmM hW, (h3.kept (hq _ (by omega) (by omega))).moved hW.alike, h4, Nat.le_trans h5 hS.1, ⟨(h6.kept hq).moved hW.alike, (h7.kept hq).moved hW.alike⟩, (h8.kept hq).moved hW.alike, (h9.kept hq).moved hW.alike⟩
theorem vG.blind {g : vGl} {a : vAd} {cls : Nat → ClassId} {D : va_G} {U : State} (h : vG g a cls D U U.heap) (f : JFrame) (mk : MethodId) (x : Array Value) : vG g a cls D (U.calling f mk x) (U.calling f mk x).heap := by
  obtain ⟨h1, h2, h3, h4, h5, ⟨h6, h7⟩, h8, h9⟩ := h
  have e : U.vm.Alike (U.calling f mk x).vm := Vm.Alike.refl U.vm
  exact ⟨va_K.moved e h1, fun own idx y hn => (h2 own idx y hn).same rfl rfl, h3.moved e, h4, h5, ⟨h6.moved e, h7.moved e⟩, h8.moved e, h9.moved e⟩
def vget : List (Nat × Value) → Nat → Option Value
  | [], _ => none
  | (i, v) :: l, j => bif Nat.beq i j then some v else bif Nat.beq (i + 1) j && Nat.beq v.category 2 then none else match vget l j with
    | none => none
    | some u => bif Nat.beq (j + 1) i && Nat.beq u.category 2 then none else some u
def vL (a : vAd) (ls : Array Slot) (n : Nat) (lv : List (Nat × Value)) : Prop := lv_has ls n [] ∧ ∀ (i : Nat) (v : Value), vget lv i = some v → ls[i]? = some (.val (trv a v))
def vFx (M : vMt) (d mc ms : Nat) (p : Program) (R : Room) (s : State) (m : MethodId) (args : Array Value) (meth : Method) (c : Code) : Prop :=
  p.tables.exec = Jvm.exec ∧ c.code = M.2.2.1 ∧ c.maxLocals = M.2.2.2.1 ∧ s.vm.findClass M.1 = some m.cls ∧ (∀ w ∈ vWords, w.before args s = true) ∧ (M.2.1.name = "<init>" → meth.name = "<init>") ∧ d ≤ R.frames ∧ 100 * d ≤ R.locals ∧ R.cells = mc ∧ R.slots = ms
def vR (a : vAd) (cls : Nat → ClassId) (D : va_G) (w : List mC) (H0 H : Heap) (locs : List Loc) : Prop := vP a cls D w H ∧ a.1 ≤ H0.size ∧ va_S (fun q => a.1 ≤ q) H0 H locs
def vRt (M : vMt) (pc : Nat) (r : Option Value) : Prop :=
  (∃ x, r = some (.int x) ∧ decode M.2.2.1 pc = .ok (.ireturn, 1) ∧ ∃ ty, M.2.2.2.2 = some ty ∧ narrow ty (.int x) = .int x) ∨ (∃ x, r = some (.long x) ∧ decode M.2.2.1 pc = .ok (.lreturn, 1) ∧ M.2.2.2.2 = some .long) ∨ (r = none ∧ decode M.2.2.1 pc = .ok (.return_, 1) ∧ M.2.2.2.2 = none)
def V (g : vGl) (M : vMt) (d : Nat) (N : Nat × Nat × Nat × Nat) (Q : Option Value → List mC → Prop) (pc : Nat) (lv : List (Nat × Value)) (st : List Value) (w : List mC) : Prop :=
  ∀ (p : Program) (e : Env) (R : Room) (s : State) (m : MethodId) (args : Array Value) (below : List Frame) (meth : Method) (c : Code) (a : vAd) (cls : Nat → ClassId) (D : va_G) (H : Heap) (locs : List Loc) (ls : Array Slot) (QQ : State → Prop),
    vFx M d N.1 N.2.1 p R s m args meth c → vG g a cls D s s.heap → vR a cls D w s.heap H locs → vL a ls M.2.2.2.1 lv →
    (∀ (r : Option Value) (w' : List mC) (H' : Heap) (locs' : List Loc) (pc' : Nat) (ls' : Array Slot) (nc ns : Nat), nc ≤ N.1 → ns ≤ N.2.1 → Q r w' → vR a cls D w' s.heap H' locs' → vRt M pc' r → W p g.1 e R s m args below meth c H' locs' nc ns QQ (F0 m pc' ls' (r.map (trv a)).toList)) →
    W p g.1 e R s m args below meth c H locs N.2.2.1 N.2.2.2 QQ (F0 m pc ls (st.map (trv a)))
def vargs : Nat → List Value → List (Nat × Value)
  | _, [] => []
  | i, v :: vs => (i, v) :: vargs (bif Nat.beq v.category 2 then i + 2 else i + 1) vs
theorem vargs_lt : ∀ (vs : List Value) (i j : Nat) (v : Value), (j, v) ∈ vargs i vs → i ≤ j := by
  intro vs
  induction vs with
  | nil => intro i j v h; cases h
  | cons u vs ih =>
    intro i j v h
    rcases List.mem_cons.mp h with h | h
    · cases h; exact Nat.le_refl _
    · have := ih _ _ _ h
      cases hb : Nat.beq u.category 2 <;> rw [hb] at this <;> simp only [cond_true, cond_false] at this <;> omega
theorem vget_mem : ∀ (l : List (Nat × Value)) (i : Nat) (v : Value), vget l i = some v → (i, v) ∈ l := by
  intro l
  induction l with
  | nil => intro i v h; cases h
  | cons q l ih =>
    obtain ⟨j, u⟩ := q
    intro i v h
    rw [vget] at h
    cases h1 : Nat.beq j i with
    | true =>
      rw [h1] at h
      cases h
      rw [Nat.eq_of_beq_eq_true h1]
      exact List.mem_cons_self
    | false =>
      rw [h1, cond_false] at h
      cases h2 : Nat.beq (j + 1) i && Nat.beq u.category 2 with
      | true => rw [h2] at h; cases h
      | false =>
        rw [h2, cond_false] at h
        cases h3 : vget l i with
        | none => rw [h3] at h; cases h
        | some x =>
          rw [h3] at h
          cases h4 : Nat.beq (i + 1) j && Nat.beq x.category 2 with
          | true => simp only [h4, cond_true] at h; cases h
          | false =>
            simp only [h4, cond_false] at h
            cases h
            exact List.mem_cons_of_mem _ (ih i _ h3)
theorem vargs_tr (a : vAd) : ∀ (vs : List Value) (i : Nat), lv_args i (vs.map (trv a)) = (vargs i vs).map (fun q => (q.1, trv a q.2)) := by
  intro vs
  induction vs with
  | nil => intro i; rfl
  | cons u vs ih =>
    intro i
    show (i, trv a u) :: lv_args (if (trv a u).category = 2 then i + 2 else i + 1) (vs.map (trv a)) = (i, trv a u) :: (vargs (bif Nat.beq u.category 2 then i + 2 else i + 1) vs).map _
    rw [ih, trv_cat]
    by_cases h : u.category = 2
    · rw [if_pos h, h]; rfl
    · rw [if_neg h, show Nat.beq u.category 2 = false from by cases hb : Nat.beq u.category 2 with
        | true => exact absurd (Nat.eq_of_beq_eq_true hb) h
        | false => rfl]
      rfl
theorem vL_entry (a : vAd) (vs : List Value) {n : Nat} (h : (lg_sl (vs.map (trv a))).length ≤ n) : vL a ((lg_sl (vs.map (trv a)) ++ List.replicate (n - (lg_sl (vs.map (trv a))).length) Slot.unset).toArray) n (vargs 0 vs) := by
  have h1 := lv_entry (vs.map (trv a)) h
  refine ⟨⟨h1.1, h1.2.1, fun _ h => by cases h⟩, fun i v hv => ?_⟩
  have h2 := vget_mem _ _ _ hv
  exact h1.2.2 (i, trv a v) (by rw [vargs_tr]; exact List.mem_map.mpr ⟨(i, v), h2, rfl⟩)
def vSl (vs : List Value) : Nat := (vs.map (fun v => v.category)).sum
theorem vSl_eq (a : vAd) : ∀ vs : List Value, (lg_sl (vs.map (trv a))).length = vSl vs := by
  intro vs
  induction vs with
  | nil => rfl
  | cons u vs ih =>
    have e : (lg_sl (((u :: vs)).map (trv a))) = (if (trv a u).category = 2 then [Slot.val (trv a u), .second] else [.val (trv a u)]) ++ lg_sl (vs.map (trv a)) := rfl
    rw [e, List.length_append, ih, trv_cat]
    have e2 : vSl (u :: vs) = u.category + vSl vs := rfl
    rw [e2]
    rcases lv_cat u with h | h
    · rw [h]; rfl
    · rw [h]; rfl
def vWs (M : vMt) : List Cond := .code M.2.1 M.2.2.1 M.2.2.2.1 M.2.2.2.2 :: vWords
def vRm (d mc ms : Nat) : Room := { frames := d, cells := mc, slots := ms, locals := 100 * d }
def vPc (g : vGl) (a : vAd) (cls : Nat → ClassId) (D : va_G) (As : List Value) (w : List mC) : Array Value → State → Prop := fun v U => v = (As.map (trv a)).toArray ∧ vG g a cls D U U.heap ∧ vP a cls D w U.heap
def vQc (a : vAd) (cls : Nat → ClassId) (D : va_G) (Q : Option Value → List mC → Prop) : Array Value → State → Outcome → State → Prop := fun _ st o t => ∃ (r : Option Value) (w' : List mC), o = .returned (r.map (trv a)) ∧ Q r w' ∧ vP a cls D w' t.heap ∧ va_F (fun q => a.1 ≤ q) st t
/-- what a method must have to be called: its words, its number of parameters -/
def vCal (M : vMt) (n : Nat) : Prop := plainName M.2.1.cls = true ∧ M.2.1.cls = M.1 ∧ Cond.code M.2.1 M.2.2.1 M.2.2.2.1 M.2.2.2.2 ∈ vWords ∧ Cond.initialized M.2.1.cls ∈ vWords ∧ (M.2.1.cls ≠ "java/lang/invoke/MethodHandle" ∧ M.2.1.cls ≠ "java/lang/invoke/VarHandle" ∧ (parseMethodDescriptor M.2.1.desc).map (fun d => d.parameters.length) = some n) ∧ M.2.2.2.1 ≤ 80
set_option maxHeartbeats 1000000 in
theorem v_met {g : vGl} {M : vMt} {d mc ms n : Nat} {Q : Option Value → List mC → Prop} {As : List Value} {w : List mC} (a : vAd) (cls : Nat → ClassId) (D : va_G) (hc : vCal M n) (hn : vSl As ≤ M.2.2.2.1) (k : V g M d (mc, ms, 0, 0) Q 0 (vargs 0 As) [] w) :
    Met g.1 M.2.1 (vWs M) (vRm d mc ms) (vPc g a cls D As w) (vQc a cls D Q) mc ms (fun q => a.1 ≤ q) := by
  refine Met.ofW (cc := M.2.2.1) (maxL := M.2.2.2.1) (ret := M.2.2.2.2) hc.1 rfl ?_
  intro p e s m args below meth c s₁ B hml hv
  obtain ⟨rfl, hG, hP⟩ := hv
  have hts := atoms_spec (ws := vWs M) B.pre
  rw [lg_entry_eq]
  refine k p e _ s m _ below meth c a cls D s.heap [] _ _ ⟨B.exec, B.bytes, hml, ?_, fun w hw => hts w (List.mem_cons_of_mem _ hw), fun h => ((name_of_methodNamed B.named B.method).1).trans h, Nat.le_refl _, Nat.le_refl _, rfl, rfl⟩ hG ⟨hP, hG.2.2.2.2.1, va_S.rf⟩ (vL_entry a As (by rw [vSl_eq]; exact hn)) ?_
  · rw [← hc.2.1]; exact findClass_of_methodNamed B.named
  · intro r w' H' locs' pc' ls' nc ns h1 h2 hq hR hrt
    refine W.widen h1 h2 ?_
    rcases hrt with ⟨x, rfl, hd, ty, hty, hnn⟩ | ⟨x, rfl, hd, hty⟩ | ⟨rfl, hd, hty⟩
    · exact W.zret B.exec B.bytes (B.returns.trans hty) hnn (fun t ht hW => ⟨some (.int x), w', rfl, hq, by rw [ht]; exact hR.1, hR.2.2.F ht⟩) hR.2.2.2.2 hd
    · exact W.lret B.exec B.bytes (B.returns.trans hty) (fun t ht hW => ⟨some (.long x), w', rfl, hq, by rw [ht]; exact hR.1, hR.2.2.F ht⟩) hR.2.2.2.2 hd
    · exact W.vret B.exec B.bytes (B.returns.trans hty) (fun t ht hW => ⟨none, w', rfl, hq, by rw [ht]; exact hR.1, hR.2.2.F ht⟩) hR.2.2.2.2 hd
/-- behind a run of a callee -/
theorem v_back {g : vGl} {M : vMt} {d : Nat} {N : Nat × Nat × Nat × Nat} {Q : Option Value → List mC → Prop} {pc : Nat} {lv : List (Nat × Value)} {st : List Value} {mc ms : Nat} {x0 : Array Value} {sk : List Value}
    {p : Program} {e : Env} {R : Room} {s : State} {m : MethodId} {args : Array Value} {below : List Frame} {meth : Method} {c : Code} {a : vAd} {cls : Nat → ClassId} {D : va_G} {w : List mC} {H : Heap} {locs : List Loc} {ls : Array Slot} {QQ : State → Prop}
    (hF : vFx M d N.1 N.2.1 p R s m args meth c) (hG : vG g a cls D s s.heap) (hR : vR a cls D w s.heap H locs) (hl : vL a ls M.2.2.2.1 lv)
    (hr : ∀ (r : Option Value) (w' : List mC) (H' : Heap) (locs' : List Loc) (pc' : Nat) (ls' : Array Slot) (nc ns : Nat), nc ≤ N.1 → ns ≤ N.2.1 → Q r w' → vR a cls D w' s.heap H' locs' → vRt M pc' r → W p g.1 e R s m args below meth c H' locs' nc ns QQ (F0 m pc' ls' (r.map (trv a)).toList))
    (run : va_Run p g.1 e R s m args below meth c H locs N.2.2.1 N.2.2.2 mc ms (F0 m pc ls sk) (st.map (trv a)) (vQc a cls D (fun r w' => V g M d (N.1, N.2.1, N.2.2.1 + mc, N.2.2.2 + ms) Q (pc + 3) lv (r.toList ++ st) w') x0) (fun q => a.1 ≤ q)) :
    W p g.1 e R s m args below meth c H locs N.2.2.1 N.2.2.2 QQ (F0 m pc ls sk) := by
  intro T hT X
  obtain ⟨v, st₀, t, T', L, h0, X', hL, e1, e2, ⟨r, w', ho, hq, hP, hz, hk⟩, stp⟩ := run T hT X
  cases ho
  rw [h0] at hz hk
  have hS := hR.2.2
  have hS' : va_S (fun q => a.1 ≤ q) s.heap T'.heap (locs ++ L) := by
    refine ⟨Nat.le_trans hS.1 (by rw [e1]; exact hz), fun q h1 h2 => ?_, fun q hq => ?_⟩
    · rw [e1, hk q (Nat.lt_of_lt_of_le h1 hS.1) h2]; exact hS.2.1 q h1 h2
    · rcases List.mem_append.mp hq with h | h
      · exact hS.2.2 q h
      · exact hL q h
  obtain ⟨t2, a1, b1⟩ := hq p e R s m args below meth c a cls D T'.heap (locs ++ L) ls QQ hF hG ⟨by rw [e1]; exact hP, hR.2.1, hS'⟩ hl hr T' rfl X'
  refine ⟨t2, stp t2 ?_, b1⟩
  have e3 : ((r.toList ++ st).map (trv a)) = (r.map (trv a)).toList ++ st.map (trv a) := by cases r <;> simp
  rw [← e3]
  exact a1
end
section
/-! numbers -/
abbrev vr (x : Int) : Prop := -2147483648 ≤ x ∧ x ≤ 2147483647
abbrev vq (x : Int) : Prop := -9223372036854775808 ≤ x ∧ x ≤ 9223372036854775807
theorem vI {x : Int} (h : vr x) : (Int32.ofInt x).toInt = x := Int32.toInt_ofInt_of_le (by omega) (by omega)
theorem vJ {x : Int} (h : vq x) : (Int64.ofInt x).toInt = x := Int64.toInt_ofInt_of_le (by omega) (by omega)
theorem vI_lt {x y : Int} (hx : vr x) (hy : vr y) : Int32.ofInt x < Int32.ofInt y ↔ x < y := by rw [Int32.lt_iff_toInt_lt, vI hx, vI hy]
theorem vI_le {x y : Int} (hx : vr x) (hy : vr y) : Int32.ofInt x ≤ Int32.ofInt y ↔ x ≤ y := by rw [Int32.le_iff_toInt_le, vI hx, vI hy]
theorem vI_eq {x y : Int} (hx : vr x) (hy : vr y) : Int32.ofInt x = Int32.ofInt y ↔ x = y := by rw [← Int32.toInt_inj, vI hx, vI hy]
theorem vJ_lt {x y : Int} (hx : vq x) (hy : vq y) : Int64.ofInt x < Int64.ofInt y ↔ x < y := by rw [Int64.lt_iff_toInt_lt, vJ hx, vJ hy]
theorem vJ_eq {x y : Int} (hx : vq x) (hy : vq y) : Int64.ofInt x = Int64.ofInt y ↔ x = y := by rw [← Int64.toInt_inj, vJ hx, vJ hy]
theorem vI_0 : (0 : Int32) = Int32.ofInt 0 := by decide
theorem vI_clamp {x : Int} (h : vr x) : (Int32.ofInt x).toNatClampNeg = x.toNat := Int32.toNatClampNeg_ofInt_of_le (by omega) (by omega)
theorem vI_in {x : Int} {n : Nat} (h : 0 ≤ x) (h2 : x < n) (hn : n ≤ 2147483647) : vp_in (Int32.ofInt x) n := vp_in_iff.mpr (by rw [vI ⟨by omega, by omega⟩]; exact ⟨h, h2⟩)
theorem vI_div {x y : Int} (hx : vr x) (hy : vr y) : Int32.ofInt x / Int32.ofInt y = Int32.ofInt (x.tdiv y) := (Int32.ofInt_tdiv hx.1 hx.2 hy.1 hy.2).symm
theorem vJ_div {x y : Int} (hx : vq x) (hy : vq y) : Int64.ofInt x / Int64.ofInt y = Int64.ofInt (x.tdiv y) := (Int64.ofInt_tdiv hx.1 hx.2 hy.1 hy.2).symm
def vcmp (x y : Int) : Int := if y < x then 1 else if x = y then 0 else -1
theorem vcmp_eq {x y : Int} (hx : vq x) (hy : vq y) : lg_cmp (Int64.ofInt x) (Int64.ofInt y) = Int32.ofInt (vcmp x y) := by
  unfold lg_cmp vcmp
  by_cases h1 : y < x
  · rw [if_pos h1, if_pos (by show Int64.ofInt y < Int64.ofInt x; exact (vJ_lt hy hx).mpr h1)]; decide
  · rw [if_neg h1, if_neg (by show ¬ Int64.ofInt y < Int64.ofInt x; exact fun h => h1 ((vJ_lt hy hx).mp h))]
    by_cases h2 : x = y
    · rw [if_pos h2, if_pos ((vJ_eq hx hy).mpr h2)]; decide
    · rw [if_neg h2, if_neg (fun h => h2 ((vJ_eq hx hy).mp h))]; decide
theorem vget_cons1 {i : Nat} {v : Value} {l : List (Nat × Value)} (hv : v.category = 1) {j : Nat} {u : Value} (h : vget ((i, v) :: l) j = some u) : (j = i ∧ u = v) ∨ (j ≠ i ∧ vget l j = some u ∧ ¬ (j + 1 = i ∧ u.category = 2)) := by
  rw [vget] at h
  cases h1 : Nat.beq i j with
  | true => rw [h1] at h; cases h; exact Or.inl ⟨(Nat.eq_of_beq_eq_true h1).symm, rfl⟩
  | false =>
    rw [h1, cond_false, hv, show Nat.beq 1 2 = false from rfl, Bool.and_false, cond_false] at h
    refine Or.inr ⟨fun e => by rw [e] at h1; exact absurd h1 (by simp), ?_⟩
    cases h3 : vget l j with
    | none => rw [h3] at h; cases h
    | some y =>
      rw [h3] at h
      cases h4 : Nat.beq (j + 1) i && Nat.beq y.category 2 with
      | true => simp only [h4, cond_true] at h; cases h
      | false =>
        simp only [h4, cond_false] at h
        cases h
        refine ⟨rfl, fun e => ?_⟩
        rw [e.1, e.2] at h4
        simp at h4
theorem vget_cons2 {i : Nat} {v : Value} {l : List (Nat × Value)} (hv : v.category = 2) {j : Nat} {u : Value} (h : vget ((i, v) :: l) j = some u) : (j = i ∧ u = v) ∨ (j ≠ i ∧ j ≠ i + 1 ∧ vget l j = some u ∧ ¬ (j + 1 = i ∧ u.category = 2)) := by
  rw [vget] at h
  cases h1 : Nat.beq i j with
  | true => rw [h1] at h; cases h; exact Or.inl ⟨(Nat.eq_of_beq_eq_true h1).symm, rfl⟩
  | false =>
    rw [h1, cond_false, hv, show Nat.beq 2 2 = true from rfl, Bool.and_true] at h
    cases h5 : Nat.beq (i + 1) j with
    | true => rw [h5] at h; cases h
    | false =>
      rw [h5, cond_false] at h
      refine Or.inr ⟨fun e => by rw [e] at h1; exact absurd h1 (by simp), fun e => by rw [e] at h5; exact absurd h5 (by simp), ?_⟩
      cases h3 : vget l j with
      | none => rw [h3] at h; cases h
      | some y =>
        rw [h3] at h
        cases h4 : Nat.beq (j + 1) i && Nat.beq y.category 2 with
        | true => simp only [h4, cond_true] at h; cases h
        | false =>
          simp only [h4, cond_false] at h
          cases h
          refine ⟨rfl, fun e => ?_⟩
          rw [e.1, e.2] at h4
          simp at h4
theorem vL_put1 {a : vAd} {ls : Array Slot} {n : Nat} {lv : List (Nat × Value)} {i : Nat} {v : Value} (h : vL a ls n lv) (hi : i < n) (hv : v.category = 1) : ∃ ls', storeLocals ls i (trv a v) = some ls' ∧ vL a ls' n ((i, v) :: lv) := by
  have hL : lv_has ls n ((List.range n).filterMap (fun j => (vget lv j).map (fun u => (j, trv a u)))) := by
    refine ⟨h.1.1, h.1.2.1, fun q hq => ?_⟩
    obtain ⟨j, -, hj⟩ := List.mem_filterMap.mp hq
    cases hg : vget lv j with
    | none => rw [hg] at hj; cases hj
    | some u => rw [hg] at hj; cases hj; exact h.2 j u hg
  obtain ⟨ls', e', h'⟩ := lv_store1 (v := trv a v) hL hi (by rw [trv_cat]; exact hv)
  refine ⟨ls', e', ⟨h'.1, h'.2.1, fun _ h => by cases h⟩, fun j u hu => ?_⟩
  rcases vget_cons1 hv hu with ⟨rfl, rfl⟩ | ⟨h1, h2, h3⟩
  · exact h'.2.2 (j, trv a u) List.mem_cons_self
  · refine h'.2.2 (j, trv a u) (List.mem_cons_of_mem _ (List.mem_filter.mpr ⟨List.mem_filterMap.mpr ⟨j, List.mem_range.mpr ?_, by rw [h2]; rfl⟩, ?_⟩))
    · have := lv_lt (h.2 j u h2); rw [h.1.1] at this; exact this
    · simp only [Bool.and_eq_true, Bool.not_eq_true', beq_eq_false_iff_ne, ne_eq, Bool.and_eq_false_iff, trv_cat]
      refine ⟨h1, ?_⟩
      by_cases h4 : j + 1 = i
      · exact Or.inr (fun h5 => h3 ⟨h4, h5⟩)
      · exact Or.inl h4
theorem vL_put2 {a : vAd} {ls : Array Slot} {n : Nat} {lv : List (Nat × Value)} {i : Nat} {v : Value} (h : vL a ls n lv) (hi : i + 1 < n) (hv : v.category = 2) : ∃ ls', storeLocals ls i (trv a v) = some ls' ∧ vL a ls' n ((i, v) :: lv) := by
  have hL : lv_has ls n ((List.range n).filterMap (fun j => (vget lv j).map (fun u => (j, trv a u)))) := by
    refine ⟨h.1.1, h.1.2.1, fun q hq => ?_⟩
    obtain ⟨j, -, hj⟩ := List.mem_filterMap.mp hq
    cases hg : vget lv j with
    | none => rw [hg] at hj; cases hj
    | some u => rw [hg] at hj; cases hj; exact h.2 j u hg
  obtain ⟨ls', e', h'⟩ := lv_store2 (v := trv a v) hL hi (by rw [trv_cat]; exact hv)
  refine ⟨ls', e', ⟨h'.1, h'.2.1, fun _ h => by cases h⟩, fun j u hu => ?_⟩
  rcases vget_cons2 hv hu with ⟨rfl, rfl⟩ | ⟨h1, h6, h2, h3⟩
  · exact h'.2.2 (j, trv a u) List.mem_cons_self
  · refine h'.2.2 (j, trv a u) (List.mem_cons_of_mem _ (List.mem_filter.mpr ⟨List.mem_filterMap.mpr ⟨j, List.mem_range.mpr ?_, by rw [h2]; rfl⟩, ?_⟩))
    · have := lv_lt (h.2 j u h2); rw [h.1.1] at this; exact this
    · simp only [Bool.and_eq_true, Bool.not_eq_true', beq_eq_false_iff_ne, ne_eq, Bool.and_eq_false_iff, trv_cat]
      refine ⟨h1, h6, ?_⟩
      by_cases h4 : j + 1 = i
      · exact Or.inr (fun h5 => h3 ⟨h4, h5⟩)
      · exact Or.inl h4
section RULES
variable {g : vGl} {M : vMt} {d : Nat} {N : Nat × Nat × Nat × Nat} {Q : Option Value → List mC → Prop} {pc : Nat} {lv : List (Nat × Value)} {st : List Value} {w : List mC}
theorem v_iadd {x y : Int} (hd : decode M.2.2.1 pc = .ok (.iadd, 1))  (k : V g M d N Q (pc + 1) lv (vi (x + y) :: st) w) : V g M d N Q pc lv (vi y :: vi x :: st) w := by
  intro p e R s m args below meth c a cls D H locs ls QQ hF hG hR hl hr
  have k1 : W p g.1 e R s m args below meth c H locs N.2.2.1 N.2.2.2 QQ (F0 m (pc + 1) ls (.int (Int32.ofInt (x + y)) :: st.map (trv a))) := (k p e R s m args below meth c a cls D H locs ls QQ hF hG hR hl hr)
  show W p g.1 e R s m args below meth c H locs N.2.2.1 N.2.2.2 QQ (F0 m pc ls (.int (Int32.ofInt y) :: .int (Int32.ofInt x) :: st.map (trv a)))
  exact lv_iadd hF.1 hF.2.1 hd (by rw [← Int32.ofInt_add]; exact k1)
theorem v_isub {x y : Int} (hd : decode M.2.2.1 pc = .ok (.isub, 1))  (k : V g M d N Q (pc + 1) lv (vi (x - y) :: st) w) : V g M d N Q pc lv (vi y :: vi x :: st) w := by
  intro p e R s m args below meth c a cls D H locs ls QQ hF hG hR hl hr
  have k1 : W p g.1 e R s m args below meth c H locs N.2.2.1 N.2.2.2 QQ (F0 m (pc + 1) ls (.int (Int32.ofInt (x - y)) :: st.map (trv a))) := (k p e R s m args below meth c a cls D H locs ls QQ hF hG hR hl hr)
  show W p g.1 e R s m args below meth c H locs N.2.2.1 N.2.2.2 QQ (F0 m pc ls (.int (Int32.ofInt y) :: .int (Int32.ofInt x) :: st.map (trv a)))
  exact lv_isub hF.1 hF.2.1 hd (by rw [← Int32.ofInt_sub]; exact k1)
theorem v_imul {x y : Int} (hd : decode M.2.2.1 pc = .ok (.imul, 1))  (k : V g M d N Q (pc + 1) lv (vi (x * y) :: st) w) : V g M d N Q pc lv (vi y :: vi x :: st) w := by
  intro p e R s m args below meth c a cls D H locs ls QQ hF hG hR hl hr
  have k1 : W p g.1 e R s m args below meth c H locs N.2.2.1 N.2.2.2 QQ (F0 m (pc + 1) ls (.int (Int32.ofInt (x * y)) :: st.map (trv a))) := (k p e R s m args below meth c a cls D H locs ls QQ hF hG hR hl hr)
  show W p g.1 e R s m args below meth c H locs N.2.2.1 N.2.2.2 QQ (F0 m pc ls (.int (Int32.ofInt y) :: .int (Int32.ofInt x) :: st.map (trv a)))
  exact lv_imul hF.1 hF.2.1 hd (by rw [← Int32.ofInt_mul]; exact k1)
theorem v_ladd {x y : Int} (hd : decode M.2.2.1 pc = .ok (.ladd, 1))  (k : V g M d N Q (pc + 1) lv (vj (x + y) :: st) w) : V g M d N Q pc lv (vj y :: vj x :: st) w := by
  intro p e R s m args below meth c a cls D H locs ls QQ hF hG hR hl hr
  have k1 : W p g.1 e R s m args below meth c H locs N.2.2.1 N.2.2.2 QQ (F0 m (pc + 1) ls (.long (Int64.ofInt (x + y)) :: st.map (trv a))) := (k p e R s m args below meth c a cls D H locs ls QQ hF hG hR hl hr)
  show W p g.1 e R s m args below meth c H locs N.2.2.1 N.2.2.2 QQ (F0 m pc ls (.long (Int64.ofInt y) :: .long (Int64.ofInt x) :: st.map (trv a)))
  exact lv_ladd hF.1 hF.2.1 hd (by rw [← Int64.ofInt_add]; exact k1)
theorem v_lsub {x y : Int} (hd : decode M.2.2.1 pc = .ok (.lsub, 1))  (k : V g M d N Q (pc + 1) lv (vj (x - y) :: st) w) : V g M d N Q pc lv (vj y :: vj x :: st) w := by
  intro p e R s m args below meth c a cls D H locs ls QQ hF hG hR hl hr
  have k1 : W p g.1 e R s m args below meth c H locs N.2.2.1 N.2.2.2 QQ (F0 m (pc + 1) ls (.long (Int64.ofInt (x - y)) :: st.map (trv a))) := (k p e R s m args below meth c a cls D H locs ls QQ hF hG hR hl hr)
  show W p g.1 e R s m args below meth c H locs N.2.2.1 N.2.2.2 QQ (F0 m pc ls (.long (Int64.ofInt y) :: .long (Int64.ofInt x) :: st.map (trv a)))
  exact lv_lsub hF.1 hF.2.1 hd (by rw [← Int64.ofInt_sub]; exact k1)
theorem v_lmul {x y : Int} (hd : decode M.2.2.1 pc = .ok (.lmul, 1))  (k : V g M d N Q (pc + 1) lv (vj (x * y) :: st) w) : V g M d N Q pc lv (vj y :: vj x :: st) w := by
  intro p e R s m args below meth c a cls D H locs ls QQ hF hG hR hl hr
  have k1 : W p g.1 e R s m args below meth c H locs N.2.2.1 N.2.2.2 QQ (F0 m (pc + 1) ls (.long (Int64.ofInt (x * y)) :: st.map (trv a))) := (k p e R s m args below meth c a cls D H locs ls QQ hF hG hR hl hr)
  show W p g.1 e R s m args below meth c H locs N.2.2.1 N.2.2.2 QQ (F0 m pc ls (.long (Int64.ofInt y) :: .long (Int64.ofInt x) :: st.map (trv a)))
  exact lv_lmul hF.1 hF.2.1 hd (by rw [← Int64.ofInt_mul]; exact k1)
theorem v_idiv {x y : Int} (hd : decode M.2.2.1 pc = .ok (.idiv, 1)) (hx : vr x) (hy : vr y) (h0 : y ≠ 0) (k : V g M d N Q (pc + 1) lv (vi (x.tdiv y) :: st) w) : V g M d N Q pc lv (vi y :: vi x :: st) w := by
  intro p e R s m args below meth c a cls D H locs ls QQ hF hG hR hl hr
  have k1 : W p g.1 e R s m args below meth c H locs N.2.2.1 N.2.2.2 QQ (F0 m (pc + 1) ls (.int (Int32.ofInt (x.tdiv y)) :: st.map (trv a))) := (k p e R s m args below meth c a cls D H locs ls QQ hF hG hR hl hr)
  show W p g.1 e R s m args below meth c H locs N.2.2.1 N.2.2.2 QQ (F0 m pc ls (.int (Int32.ofInt y) :: .int (Int32.ofInt x) :: st.map (trv a)))
  exact lv_idiv hF.1 hF.2.1 hd (fun h => h0 ((vI_eq hy (by omega)).mp (by rw [h]; exact vI_0))) (by rw [vI_div hx hy]; exact k1)
theorem v_ldiv {x y : Int} (hd : decode M.2.2.1 pc = .ok (.ldiv, 1)) (hx : vq x) (hy : vq y) (h0 : y ≠ 0) (k : V g M d N Q (pc + 1) lv (vj (x.tdiv y) :: st) w) : V g M d N Q pc lv (vj y :: vj x :: st) w := by
  intro p e R s m args below meth c a cls D H locs ls QQ hF hG hR hl hr
  have k1 : W p g.1 e R s m args below meth c H locs N.2.2.1 N.2.2.2 QQ (F0 m (pc + 1) ls (.long (Int64.ofInt (x.tdiv y)) :: st.map (trv a))) := (k p e R s m args below meth c a cls D H locs ls QQ hF hG hR hl hr)
  show W p g.1 e R s m args below meth c H locs N.2.2.1 N.2.2.2 QQ (F0 m pc ls (.long (Int64.ofInt y) :: .long (Int64.ofInt x) :: st.map (trv a)))
  exact lv_ldiv hF.1 hF.2.1 hd (fun h => h0 ((vJ_eq hy (by omega)).mp (by rw [h]; decide))) (by rw [vJ_div hx hy]; exact k1)
theorem v_irem {x y : Int} (hd : decode M.2.2.1 pc = .ok (.irem, 1)) (hx : vr x) (hy : vr y) (h0 : y ≠ 0) (k : V g M d N Q (pc + 1) lv (vi (x - x.tdiv y * y) :: st) w) : V g M d N Q pc lv (vi y :: vi x :: st) w := by
  intro p e R s m args below meth c a cls D H locs ls QQ hF hG hR hl hr
  have k1 : W p g.1 e R s m args below meth c H locs N.2.2.1 N.2.2.2 QQ (F0 m (pc + 1) ls (.int (Int32.ofInt (x - x.tdiv y * y)) :: st.map (trv a))) := (k p e R s m args below meth c a cls D H locs ls QQ hF hG hR hl hr)
  show W p g.1 e R s m args below meth c H locs N.2.2.1 N.2.2.2 QQ (F0 m pc ls (.int (Int32.ofInt y) :: .int (Int32.ofInt x) :: st.map (trv a)))
  exact lv_irem hF.1 hF.2.1 hd (fun h => h0 ((vI_eq hy (by omega)).mp (by rw [h]; exact vI_0))) (by rw [vI_div hx hy, ← Int32.ofInt_mul, ← Int32.ofInt_sub]; exact k1)
theorem v_ineg {x : Int} (hd : decode M.2.2.1 pc = .ok (.ineg, 1))  (k : V g M d N Q (pc + 1) lv (vi (-x) :: st) w) : V g M d N Q pc lv (vi x :: st) w := by
  intro p e R s m args below meth c a cls D H locs ls QQ hF hG hR hl hr
  have k1 : W p g.1 e R s m args below meth c H locs N.2.2.1 N.2.2.2 QQ (F0 m (pc + 1) ls (.int (Int32.ofInt (-x)) :: st.map (trv a))) := (k p e R s m args below meth c a cls D H locs ls QQ hF hG hR hl hr)
  show W p g.1 e R s m args below meth c H locs N.2.2.1 N.2.2.2 QQ (F0 m pc ls (.int (Int32.ofInt x) :: st.map (trv a)))
  exact lv_ineg hF.1 hF.2.1 hd (by rw [← Int32.ofInt_neg]; exact k1)
theorem v_lneg {x : Int} (hd : decode M.2.2.1 pc = .ok (.lneg, 1))  (k : V g M d N Q (pc + 1) lv (vj (-x) :: st) w) : V g M d N Q pc lv (vj x :: st) w := by
  intro p e R s m args below meth c a cls D H locs ls QQ hF hG hR hl hr
  have k1 : W p g.1 e R s m args below meth c H locs N.2.2.1 N.2.2.2 QQ (F0 m (pc + 1) ls (.long (Int64.ofInt (-x)) :: st.map (trv a))) := (k p e R s m args below meth c a cls D H locs ls QQ hF hG hR hl hr)
  show W p g.1 e R s m args below meth c H locs N.2.2.1 N.2.2.2 QQ (F0 m pc ls (.long (Int64.ofInt x) :: st.map (trv a)))
  exact lv_lneg hF.1 hF.2.1 hd (by rw [← Int64.ofInt_neg]; exact k1)
theorem v_ishl {x y z : Int} (hd : decode M.2.2.1 pc = .ok (.ishl, 1)) (hz : Int32.ofInt x <<< (Int32.ofInt y &&& 31) = Int32.ofInt z) (k : V g M d N Q (pc + 1) lv (vi z :: st) w) : V g M d N Q pc lv (vi y :: vi x :: st) w := by
  intro p e R s m args below meth c a cls D H locs ls QQ hF hG hR hl hr
  have k1 : W p g.1 e R s m args below meth c H locs N.2.2.1 N.2.2.2 QQ (F0 m (pc + 1) ls (.int (Int32.ofInt z) :: st.map (trv a))) := (k p e R s m args below meth c a cls D H locs ls QQ hF hG hR hl hr)
  show W p g.1 e R s m args below meth c H locs N.2.2.1 N.2.2.2 QQ (F0 m pc ls (.int (Int32.ofInt y) :: .int (Int32.ofInt x) :: st.map (trv a)))
  exact lv_ishl hF.1 hF.2.1 hd (by rw [hz]; exact k1)
theorem v_ishr {x y z : Int} (hd : decode M.2.2.1 pc = .ok (.ishr, 1)) (hz : Int32.ofInt x >>> (Int32.ofInt y &&& 31) = Int32.ofInt z) (k : V g M d N Q (pc + 1) lv (vi z :: st) w) : V g M d N Q pc lv (vi y :: vi x :: st) w := by
  intro p e R s m args below meth c a cls D H locs ls QQ hF hG hR hl hr
  have k1 : W p g.1 e R s m args below meth c H locs N.2.2.1 N.2.2.2 QQ (F0 m (pc + 1) ls (.int (Int32.ofInt z) :: st.map (trv a))) := (k p e R s m args below meth c a cls D H locs ls QQ hF hG hR hl hr)
  show W p g.1 e R s m args below meth c H locs N.2.2.1 N.2.2.2 QQ (F0 m pc ls (.int (Int32.ofInt y) :: .int (Int32.ofInt x) :: st.map (trv a)))
  exact lv_ishr hF.1 hF.2.1 hd (by rw [hz]; exact k1)
theorem v_iand {x y z : Int} (hd : decode M.2.2.1 pc = .ok (.iand, 1)) (hz : Int32.ofInt x &&& Int32.ofInt y = Int32.ofInt z) (k : V g M d N Q (pc + 1) lv (vi z :: st) w) : V g M d N Q pc lv (vi y :: vi x :: st) w := by
  intro p e R s m args below meth c a cls D H locs ls QQ hF hG hR hl hr
  have k1 : W p g.1 e R s m args below meth c H locs N.2.2.1 N.2.2.2 QQ (F0 m (pc + 1) ls (.int (Int32.ofInt z) :: st.map (trv a))) := (k p e R s m args below meth c a cls D H locs ls QQ hF hG hR hl hr)
  show W p g.1 e R s m args below meth c H locs N.2.2.1 N.2.2.2 QQ (F0 m pc ls (.int (Int32.ofInt y) :: .int (Int32.ofInt x) :: st.map (trv a)))
  exact lv_iand hF.1 hF.2.1 hd (by rw [hz]; exact k1)
theorem v_ior {x y z : Int} (hd : decode M.2.2.1 pc = .ok (.ior, 1)) (hz : Int32.ofInt x ||| Int32.ofInt y = Int32.ofInt z) (k : V g M d N Q (pc + 1) lv (vi z :: st) w) : V g M d N Q pc lv (vi y :: vi x :: st) w := by
  intro p e R s m args below meth c a cls D H locs ls QQ hF hG hR hl hr
  have k1 : W p g.1 e R s m args below meth c H locs N.2.2.1 N.2.2.2 QQ (F0 m (pc + 1) ls (.int (Int32.ofInt z) :: st.map (trv a))) := (k p e R s m args below meth c a cls D H locs ls QQ hF hG hR hl hr)
  show W p g.1 e R s m args below meth c H locs N.2.2.1 N.2.2.2 QQ (F0 m pc ls (.int (Int32.ofInt y) :: .int (Int32.ofInt x) :: st.map (trv a)))
  exact lv_ior hF.1 hF.2.1 hd (by rw [hz]; exact k1)
theorem v_i2l {x : Int} (hd : decode M.2.2.1 pc = .ok (.i2l, 1)) (hx : vr x) (k : V g M d N Q (pc + 1) lv (vj x :: st) w) : V g M d N Q pc lv (vi x :: st) w := by
  intro p e R s m args below meth c a cls D H locs ls QQ hF hG hR hl hr
  have k1 : W p g.1 e R s m args below meth c H locs N.2.2.1 N.2.2.2 QQ (F0 m (pc + 1) ls (.long (Int64.ofInt x) :: st.map (trv a))) := (k p e R s m args below meth c a cls D H locs ls QQ hF hG hR hl hr)
  show W p g.1 e R s m args below meth c H locs N.2.2.1 N.2.2.2 QQ (F0 m pc ls (.int (Int32.ofInt x) :: st.map (trv a)))
  exact lv_i2l hF.1 hF.2.1 hd (Int32.toInt64_ofInt hx.1 hx.2) k1
theorem v_l2i {x : Int} (hd : decode M.2.2.1 pc = .ok (.l2i, 1))  (k : V g M d N Q (pc + 1) lv (vi x :: st) w) : V g M d N Q pc lv (vj x :: st) w := by
  intro p e R s m args below meth c a cls D H locs ls QQ hF hG hR hl hr
  have k1 : W p g.1 e R s m args below meth c H locs N.2.2.1 N.2.2.2 QQ (F0 m (pc + 1) ls (.int (Int32.ofInt x) :: st.map (trv a))) := (k p e R s m args below meth c a cls D H locs ls QQ hF hG hR hl hr)
  show W p g.1 e R s m args below meth c H locs N.2.2.1 N.2.2.2 QQ (F0 m pc ls (.long (Int64.ofInt x) :: st.map (trv a)))
  exact lv_l2i hF.1 hF.2.1 hd Int64.toInt32_ofInt k1
theorem v_lcmp {x y : Int} (hd : decode M.2.2.1 pc = .ok (.lcmp, 1)) (hx : vq x) (hy : vq y) (k : V g M d N Q (pc + 1) lv (vi (vcmp x y) :: st) w) : V g M d N Q pc lv (vj y :: vj x :: st) w := by
  intro p e R s m args below meth c a cls D H locs ls QQ hF hG hR hl hr
  have k1 : W p g.1 e R s m args below meth c H locs N.2.2.1 N.2.2.2 QQ (F0 m (pc + 1) ls (.int (Int32.ofInt (vcmp x y)) :: st.map (trv a))) := (k p e R s m args below meth c a cls D H locs ls QQ hF hG hR hl hr)
  show W p g.1 e R s m args below meth c H locs N.2.2.1 N.2.2.2 QQ (F0 m pc ls (.long (Int64.ofInt y) :: .long (Int64.ofInt x) :: st.map (trv a)))
  exact W.lcmp hF.1 hF.2.1 hd (by rw [vcmp_eq hx hy]; exact k1)
theorem v_dup {v : Value} (hd : decode M.2.2.1 pc = .ok (.dup, 1)) (hv : v.category = 1) (k : V g M d N Q (pc + 1) lv (v :: v :: st) w) : V g M d N Q pc lv (v :: st) w := by
  intro p e R s m args below meth c a cls D H locs ls QQ hF hG hR hl hr
  have k1 : W p g.1 e R s m args below meth c H locs N.2.2.1 N.2.2.2 QQ (F0 m (pc + 1) ls (trv a v :: trv a v :: st.map (trv a))) := (k p e R s m args below meth c a cls D H locs ls QQ hF hG hR hl hr)
  show W p g.1 e R s m args below meth c H locs N.2.2.1 N.2.2.2 QQ (F0 m pc ls (trv a v :: st.map (trv a)))
  exact lv_dup hF.1 hF.2.1 hd (by rw [trv_cat]; exact hv) k1
theorem v_dup2 {v u : Value} (hd : decode M.2.2.1 pc = .ok (.dup2, 1)) (hv : v.category = 1) (hu : u.category = 1) (k : V g M d N Q (pc + 1) lv (v :: u :: v :: u :: st) w) : V g M d N Q pc lv (v :: u :: st) w := by
  intro p e R s m args below meth c a cls D H locs ls QQ hF hG hR hl hr
  have k1 : W p g.1 e R s m args below meth c H locs N.2.2.1 N.2.2.2 QQ (F0 m (pc + 1) ls (trv a v :: trv a u :: trv a v :: trv a u :: st.map (trv a))) := (k p e R s m args below meth c a cls D H locs ls QQ hF hG hR hl hr)
  show W p g.1 e R s m args below meth c H locs N.2.2.1 N.2.2.2 QQ (F0 m pc ls (trv a v :: trv a u :: st.map (trv a)))
  exact lv_dup2_11 hF.1 hF.2.1 hd (by rw [trv_cat]; exact hv) (by rw [trv_cat]; exact hu) k1
theorem v_iconst (z : Int) {n : Int} (hd : decode M.2.2.1 pc = .ok (.iconst n, 1)) (hv : Int32.ofInt n = Int32.ofInt z) (k : V g M d N Q (pc + 1) lv (vi z :: st) w) : V g M d N Q pc lv st w := by
  intro p e R s m args below meth c a cls D H locs ls QQ hF hG hR hl hr
  have k1 : W p g.1 e R s m args below meth c H locs N.2.2.1 N.2.2.2 QQ (F0 m (pc + 1) ls (.int (Int32.ofInt z) :: st.map (trv a))) := (k p e R s m args below meth c a cls D H locs ls QQ hF hG hR hl hr)
  show W p g.1 e R s m args below meth c H locs N.2.2.1 N.2.2.2 QQ (F0 m pc ls (st.map (trv a)))
  exact lv_iconst hF.1 hF.2.1 hd hv k1
theorem v_bipush (z : Int) {n : Int} (hd : decode M.2.2.1 pc = .ok (.bipush n, 2)) (hv : (Int8.ofInt n).toInt32 = Int32.ofInt z) (k : V g M d N Q (pc + 2) lv (vi z :: st) w) : V g M d N Q pc lv st w := by
  intro p e R s m args below meth c a cls D H locs ls QQ hF hG hR hl hr
  have k1 : W p g.1 e R s m args below meth c H locs N.2.2.1 N.2.2.2 QQ (F0 m (pc + 2) ls (.int (Int32.ofInt z) :: st.map (trv a))) := (k p e R s m args below meth c a cls D H locs ls QQ hF hG hR hl hr)
  show W p g.1 e R s m args below meth c H locs N.2.2.1 N.2.2.2 QQ (F0 m pc ls (st.map (trv a)))
  exact lv_bipush hF.1 hF.2.1 hd hv k1
theorem v_sipush (z : Int) {n : Int} (hd : decode M.2.2.1 pc = .ok (.sipush n, 3)) (hv : (Int16.ofInt n).toInt32 = Int32.ofInt z) (k : V g M d N Q (pc + 3) lv (vi z :: st) w) : V g M d N Q pc lv st w := by
  intro p e R s m args below meth c a cls D H locs ls QQ hF hG hR hl hr
  have k1 : W p g.1 e R s m args below meth c H locs N.2.2.1 N.2.2.2 QQ (F0 m (pc + 3) ls (.int (Int32.ofInt z) :: st.map (trv a))) := (k p e R s m args below meth c a cls D H locs ls QQ hF hG hR hl hr)
  show W p g.1 e R s m args below meth c H locs N.2.2.1 N.2.2.2 QQ (F0 m pc ls (st.map (trv a)))
  exact lv_sipush hF.1 hF.2.1 hd hv k1
theorem v_ldc (z : Int) {n : Nat} (hd : decode M.2.2.1 pc = .ok (.ldc n, 2)) (hw : Cond.constant M.1 n (Int32.ofInt z) ∈ vWords) (k : V g M d N Q (pc + 2) lv (vi z :: st) w) : V g M d N Q pc lv st w := by
  intro p e R s m args below meth c a cls D H locs ls QQ hF hG hR hl hr
  have k1 : W p g.1 e R s m args below meth c H locs N.2.2.1 N.2.2.2 QQ (F0 m (pc + 2) ls (.int (Int32.ofInt z) :: st.map (trv a))) := (k p e R s m args below meth c a cls D H locs ls QQ hF hG hR hl hr)
  show W p g.1 e R s m args below meth c H locs N.2.2.1 N.2.2.2 QQ (F0 m pc ls (st.map (trv a)))
  exact lv_ldc hF.1 hF.2.1 hF.2.2.2.1 (hF.2.2.2.2.1 _ hw) hd k1
theorem v_ldc2 (z : Int) {n : Nat} (hd : decode M.2.2.1 pc = .ok (.ldc2_w n, 3)) (hw : Cond.constantLong M.1 n (Int64.ofInt z) ∈ vWords) (k : V g M d N Q (pc + 3) lv (vj z :: st) w) : V g M d N Q pc lv st w := by
  intro p e R s m args below meth c a cls D H locs ls QQ hF hG hR hl hr
  have k1 : W p g.1 e R s m args below meth c H locs N.2.2.1 N.2.2.2 QQ (F0 m (pc + 3) ls (.long (Int64.ofInt z) :: st.map (trv a))) := (k p e R s m args below meth c a cls D H locs ls QQ hF hG hR hl hr)
  show W p g.1 e R s m args below meth c H locs N.2.2.1 N.2.2.2 QQ (F0 m pc ls (st.map (trv a)))
  exact lv_ldc2 hF.1 hF.2.1 hF.2.2.2.1 (hF.2.2.2.2.1 _ hw) hd k1
theorem v_lconst (z : Int) {n : Fin 2} (hd : decode M.2.2.1 pc = .ok (.lconst n, 1)) (hv : Int64.ofNat (n : Nat) = Int64.ofInt z) (k : V g M d N Q (pc + 1) lv (vj z :: st) w) : V g M d N Q pc lv st w := by
  intro p e R s m args below meth c a cls D H locs ls QQ hF hG hR hl hr
  have k1 : W p g.1 e R s m args below meth c H locs N.2.2.1 N.2.2.2 QQ (F0 m (pc + 1) ls (.long (Int64.ofInt z) :: st.map (trv a))) := (k p e R s m args below meth c a cls D H locs ls QQ hF hG hR hl hr)
  show W p g.1 e R s m args below meth c H locs N.2.2.1 N.2.2.2 QQ (F0 m pc ls (st.map (trv a)))
  exact lv_lconst hF.1 hF.2.1 hd hv k1
theorem v_iload_n {n : Fin 4} {x : Int} (hd : decode M.2.2.1 pc = .ok (.iload_n n, 1)) (hv : vget lv (n : Nat) = some (vi x)) (k : V g M d N Q (pc + 1) lv (vi x :: st) w) : V g M d N Q pc lv st w := by
  intro p e R s m args below meth c a cls D H locs ls QQ hF hG hR hl hr
  have k1 : W p g.1 e R s m args below meth c H locs N.2.2.1 N.2.2.2 QQ (F0 m (pc + 1) ls (.int (Int32.ofInt x) :: st.map (trv a))) := (k p e R s m args below meth c a cls D H locs ls QQ hF hG hR hl hr)
  show W p g.1 e R s m args below meth c H locs N.2.2.1 N.2.2.2 QQ (F0 m pc ls (st.map (trv a)))
  exact lv_iload_n hF.1 hF.2.1 hd rfl (hl.2 _ _ hv) k1
theorem v_iload {i : Nat} {x : Int} (hd : decode M.2.2.1 pc = .ok (.iload i, 2)) (hv : vget lv i = some (vi x)) (k : V g M d N Q (pc + 2) lv (vi x :: st) w) : V g M d N Q pc lv st w := by
  intro p e R s m args below meth c a cls D H locs ls QQ hF hG hR hl hr
  have k1 : W p g.1 e R s m args below meth c H locs N.2.2.1 N.2.2.2 QQ (F0 m (pc + 2) ls (.int (Int32.ofInt x) :: st.map (trv a))) := (k p e R s m args below meth c a cls D H locs ls QQ hF hG hR hl hr)
  show W p g.1 e R s m args below meth c H locs N.2.2.1 N.2.2.2 QQ (F0 m pc ls (st.map (trv a)))
  exact lv_iload hF.1 hF.2.1 hd (hl.2 _ _ hv) k1
theorem v_lload_n {n : Fin 4} {x : Int} (hd : decode M.2.2.1 pc = .ok (.lload_n n, 1)) (hv : vget lv (n : Nat) = some (vj x)) (k : V g M d N Q (pc + 1) lv (vj x :: st) w) : V g M d N Q pc lv st w := by
  intro p e R s m args below meth c a cls D H locs ls QQ hF hG hR hl hr
  have k1 : W p g.1 e R s m args below meth c H locs N.2.2.1 N.2.2.2 QQ (F0 m (pc + 1) ls (.long (Int64.ofInt x) :: st.map (trv a))) := (k p e R s m args below meth c a cls D H locs ls QQ hF hG hR hl hr)
  show W p g.1 e R s m args below meth c H locs N.2.2.1 N.2.2.2 QQ (F0 m pc ls (st.map (trv a)))
  exact lv_lload_n hF.1 hF.2.1 hd rfl (hl.2 _ _ hv) k1
theorem v_lload {i : Nat} {x : Int} (hd : decode M.2.2.1 pc = .ok (.lload i, 2)) (hv : vget lv i = some (vj x)) (k : V g M d N Q (pc + 2) lv (vj x :: st) w) : V g M d N Q pc lv st w := by
  intro p e R s m args below meth c a cls D H locs ls QQ hF hG hR hl hr
  have k1 : W p g.1 e R s m args below meth c H locs N.2.2.1 N.2.2.2 QQ (F0 m (pc + 2) ls (.long (Int64.ofInt x) :: st.map (trv a))) := (k p e R s m args below meth c a cls D H locs ls QQ hF hG hR hl hr)
  show W p g.1 e R s m args below meth c H locs N.2.2.1 N.2.2.2 QQ (F0 m pc ls (st.map (trv a)))
  exact lv_lload hF.1 hF.2.1 hd (hl.2 _ _ hv) k1
theorem trv_ref (a : vAd) (x : Nat) : ∃ y, trv a (.ref x) = .ref y := by cases x <;> exact ⟨_, rfl⟩
theorem v_aload_n {n : Fin 4} {x : Nat} (hd : decode M.2.2.1 pc = .ok (.aload_n n, 1)) (hv : vget lv (n : Nat) = some (.ref x)) (k : V g M d N Q (pc + 1) lv (.ref x :: st) w) : V g M d N Q pc lv st w := by
  intro p e R s m args below meth c a cls D H locs ls QQ hF hG hR hl hr
  obtain ⟨y, hy⟩ := trv_ref a x
  have k1 : W p g.1 e R s m args below meth c H locs N.2.2.1 N.2.2.2 QQ (F0 m (pc + 1) ls (trv a (.ref x) :: st.map (trv a))) := (k p e R s m args below meth c a cls D H locs ls QQ hF hG hR hl hr)
  have h1 := hl.2 _ _ hv
  rw [hy] at k1 h1
  exact lv_aload_n hF.1 hF.2.1 hd rfl h1 k1
theorem v_istore_n {n : Fin 4} {x : Int} (hd : decode M.2.2.1 pc = .ok (.istore_n n, 1)) (hi : (n : Nat) < M.2.2.2.1) (k : V g M d N Q (pc + 1) (((n : Nat), vi x) :: lv) st w) : V g M d N Q pc lv (vi x :: st) w := by
  intro p e R s m args below meth c a cls D H locs ls QQ hF hG hR hl hr
  obtain ⟨ls', e', h'⟩ := vL_put1 (v := vi x) hl hi rfl
  intro T hT X
  obtain ⟨t, b, b2⟩ := k p e R s m args below meth c a cls D H locs ls' QQ hF hG hR h' hr T hT X
  refine ⟨t, ?_, b2⟩
  have e2 : storeLocals ls (n : Nat) (.int (Int32.ofInt x)) = some ls' := e'
  show Steps p.tables e below (T.setTop (F0 m pc ls (.int (Int32.ofInt x) :: st.map (trv a)))) t
  jvm_step X.here [X.here.top, ↓top_set X.here.top, hF.1, hF.2.1, hd, e2]
  exact b
theorem v_istore {i : Nat} {x : Int} (hd : decode M.2.2.1 pc = .ok (.istore i, 2)) (hi : i < M.2.2.2.1) (k : V g M d N Q (pc + 2) ((i, vi x) :: lv) st w) : V g M d N Q pc lv (vi x :: st) w := by
  intro p e R s m args below meth c a cls D H locs ls QQ hF hG hR hl hr
  obtain ⟨ls', e', h'⟩ := vL_put1 (v := vi x) hl hi rfl
  intro T hT X
  obtain ⟨t, b, b2⟩ := k p e R s m args below meth c a cls D H locs ls' QQ hF hG hR h' hr T hT X
  refine ⟨t, ?_, b2⟩
  have e2 : storeLocals ls i (.int (Int32.ofInt x)) = some ls' := e'
  show Steps p.tables e below (T.setTop (F0 m pc ls (.int (Int32.ofInt x) :: st.map (trv a)))) t
  jvm_step X.here [X.here.top, ↓top_set X.here.top, hF.1, hF.2.1, hd, e2]
  exact b
theorem v_lstore_n {n : Fin 4} {x : Int} (hd : decode M.2.2.1 pc = .ok (.lstore_n n, 1)) (hi : (n : Nat) + 1 < M.2.2.2.1) (k : V g M d N Q (pc + 1) (((n : Nat), vj x) :: lv) st w) : V g M d N Q pc lv (vj x :: st) w := by
  intro p e R s m args below meth c a cls D H locs ls QQ hF hG hR hl hr
  obtain ⟨ls', e', h'⟩ := vL_put2 (v := vj x) hl hi rfl
  intro T hT X
  obtain ⟨t, b, b2⟩ := k p e R s m args below meth c a cls D H locs ls' QQ hF hG hR h' hr T hT X
  refine ⟨t, ?_, b2⟩
  have e2 : storeLocals ls (n : Nat) (.long (Int64.ofInt x)) = some ls' := e'
  show Steps p.tables e below (T.setTop (F0 m pc ls (.long (Int64.ofInt x) :: st.map (trv a)))) t
  jvm_step X.here [X.here.top, ↓top_set X.here.top, hF.1, hF.2.1, hd, e2]
  exact b
theorem v_lstore {i : Nat} {x : Int} (hd : decode M.2.2.1 pc = .ok (.lstore i, 2)) (hi : i + 1 < M.2.2.2.1) (k : V g M d N Q (pc + 2) ((i, vj x) :: lv) st w) : V g M d N Q pc lv (vj x :: st) w := by
  intro p e R s m args below meth c a cls D H locs ls QQ hF hG hR hl hr
  obtain ⟨ls', e', h'⟩ := vL_put2 (v := vj x) hl hi rfl
  intro T hT X
  obtain ⟨t, b, b2⟩ := k p e R s m args below meth c a cls D H locs ls' QQ hF hG hR h' hr T hT X
  refine ⟨t, ?_, b2⟩
  have e2 : storeLocals ls i (.long (Int64.ofInt x)) = some ls' := e'
  show Steps p.tables e below (T.setTop (F0 m pc ls (.long (Int64.ofInt x) :: st.map (trv a)))) t
  jvm_step X.here [X.here.top, ↓top_set X.here.top, hF.1, hF.2.1, hd, e2]
  exact b
theorem v_astore_n {n : Fin 4} {x : Nat} (hd : decode M.2.2.1 pc = .ok (.astore_n n, 1)) (hi : (n : Nat) < M.2.2.2.1) (k : V g M d N Q (pc + 1) (((n : Nat), .ref x) :: lv) st w) : V g M d N Q pc lv (.ref x :: st) w := by
  intro p e R s m args below meth c a cls D H locs ls QQ hF hG hR hl hr
  obtain ⟨ls', e', h'⟩ := vL_put1 (v := .ref x) hl hi rfl
  obtain ⟨y, hy⟩ := trv_ref a x
  intro T hT X
  obtain ⟨t, b, b2⟩ := k p e R s m args below meth c a cls D H locs ls' QQ hF hG hR h' hr T hT X
  refine ⟨t, ?_, b2⟩
  rw [hy] at e'
  show Steps p.tables e below (T.setTop (F0 m pc ls (trv a (.ref x) :: st.map (trv a)))) t
  rw [hy]
  jvm_step X.here [X.here.top, ↓top_set X.here.top, hF.1, hF.2.1, hd, e', Value.isRef]
  exact b
theorem v_iinc (z : Int) {i : Nat} {n x : Int} (hd : decode M.2.2.1 pc = .ok (.iinc i n, 3)) (hv : vget lv i = some (vi x)) (hz : Int32.ofInt n = Int32.ofInt z) (hi : i < M.2.2.2.1) (k : V g M d N Q (pc + 3) ((i, vi (x + z)) :: lv) st w) : V g M d N Q pc lv st w := by
  intro p e R s m args below meth c a cls D H locs ls QQ hF hG hR hl hr
  obtain ⟨ls', e', h'⟩ := vL_put1 (v := vi (x + z)) hl hi rfl
  have h1 : ls[i]? = some (.val (.int (Int32.ofInt x))) := hl.2 _ _ hv
  have e2 : storeLocals ls i (.int (Int32.ofInt x + Int32.ofInt n)) = some ls' := by rw [hz, ← Int32.ofInt_add]; exact e'
  intro T hT X
  obtain ⟨t, b, b2⟩ := k p e R s m args below meth c a cls D H locs ls' QQ hF hG hR h' hr T hT X
  refine ⟨t, ?_, b2⟩
  jvm_step X.here [X.here.top, ↓top_set X.here.top, hF.1, hF.2.1, hd, h1, e2]
  exact b
theorem v_goto {off : Int} (tgt : Nat) (hd : decode M.2.2.1 pc = .ok (.goto off, 3)) (ht : (pc : Int) + off = (tgt : Int)) (k : V g M d N Q tgt lv st w) : V g M d N Q pc lv st w := by
  intro p e R s m args below meth c a cls D H locs ls QQ hF hG hR hl hr
  exact lv_goto hF.1 hF.2.1 hd ht (k p e R s m args below meth c a cls D H locs ls QQ hF hG hR hl hr)
theorem v_icmp_eq {x y off : Int} (tgt : Nat) (hd : decode M.2.2.1 pc = .ok (.if_icmp .eq off, 3)) (ht : (pc : Int) + off = (tgt : Int)) (hx : vr x) (hy : vr y) (kt : x = y → V g M d N Q tgt lv st w) (kf : ¬ x = y → V g M d N Q (pc + 3) lv st w) : V g M d N Q pc lv (vi y :: vi x :: st) w := by
  intro p e R s m args below meth c a cls D H locs ls QQ hF hG hR hl hr
  show W p g.1 e R s m args below meth c H locs N.2.2.1 N.2.2.2 QQ (F0 m pc ls (.int (Int32.ofInt y) :: .int (Int32.ofInt x) :: st.map (trv a)))
  exact lv_icmp_eq hF.1 hF.2.1 hd ht (fun h => kt ((vI_eq hx hy).mp h) p e R s m args below meth c a cls D H locs ls QQ hF hG hR hl hr) (fun h => kf (fun q => h ((vI_eq hx hy).mpr q)) p e R s m args below meth c a cls D H locs ls QQ hF hG hR hl hr)
theorem vr0 : vr 0 := by decide
theorem v_if_eq {x off : Int} (tgt : Nat) (hd : decode M.2.2.1 pc = .ok (.ifCond .eq off, 3)) (ht : (pc : Int) + off = (tgt : Int)) (hx : vr x) (kt : x = 0 → V g M d N Q tgt lv st w) (kf : ¬ x = 0 → V g M d N Q (pc + 3) lv st w) : V g M d N Q pc lv (vi x :: st) w := by
  intro p e R s m args below meth c a cls D H locs ls QQ hF hG hR hl hr
  show W p g.1 e R s m args below meth c H locs N.2.2.1 N.2.2.2 QQ (F0 m pc ls (.int (Int32.ofInt x) :: st.map (trv a)))
  exact lv_if_eq hF.1 hF.2.1 hd ht (fun h => kt ((vI_eq hx vr0).mp (by rw [← vI_0]; exact h)) p e R s m args below meth c a cls D H locs ls QQ hF hG hR hl hr) (fun h => kf (fun q => h (by rw [vI_0]; exact (vI_eq hx vr0).mpr q)) p e R s m args below meth c a cls D H locs ls QQ hF hG hR hl hr)
theorem v_icmp_ne {x y off : Int} (tgt : Nat) (hd : decode M.2.2.1 pc = .ok (.if_icmp .ne off, 3)) (ht : (pc : Int) + off = (tgt : Int)) (hx : vr x) (hy : vr y) (kt : ¬ x = y → V g M d N Q tgt lv st w) (kf : x = y → V g M d N Q (pc + 3) lv st w) : V g M d N Q pc lv (vi y :: vi x :: st) w := by
  intro p e R s m args below meth c a cls D H locs ls QQ hF hG hR hl hr
  show W p g.1 e R s m args below meth c H locs N.2.2.1 N.2.2.2 QQ (F0 m pc ls (.int (Int32.ofInt y) :: .int (Int32.ofInt x) :: st.map (trv a)))
  exact lv_icmp_ne hF.1 hF.2.1 hd ht (fun h => kt (fun q => h ((vI_eq hx hy).mpr q)) p e R s m args below meth c a cls D H locs ls QQ hF hG hR hl hr) (fun h => kf ((vI_eq hx hy).mp h) p e R s m args below meth c a cls D H locs ls QQ hF hG hR hl hr)
theorem v_if_ne {x off : Int} (tgt : Nat) (hd : decode M.2.2.1 pc = .ok (.ifCond .ne off, 3)) (ht : (pc : Int) + off = (tgt : Int)) (hx : vr x) (kt : ¬ x = 0 → V g M d N Q tgt lv st w) (kf : x = 0 → V g M d N Q (pc + 3) lv st w) : V g M d N Q pc lv (vi x :: st) w := by
  intro p e R s m args below meth c a cls D H locs ls QQ hF hG hR hl hr
  show W p g.1 e R s m args below meth c H locs N.2.2.1 N.2.2.2 QQ (F0 m pc ls (.int (Int32.ofInt x) :: st.map (trv a)))
  exact lv_if_ne hF.1 hF.2.1 hd ht (fun h => kt (fun q => h (by rw [vI_0]; exact (vI_eq hx vr0).mpr q)) p e R s m args below meth c a cls D H locs ls QQ hF hG hR hl hr) (fun h => kf ((vI_eq hx vr0).mp (by rw [← vI_0]; exact h)) p e R s m args below meth c a cls D H locs ls QQ hF hG hR hl hr)
theorem v_icmp_lt {x y off : Int} (tgt : Nat) (hd : decode M.2.2.1 pc = .ok (.if_icmp .lt off, 3)) (ht : (pc : Int) + off = (tgt : Int)) (hx : vr x) (hy : vr y) (kt : x < y → V g M d N Q tgt lv st w) (kf : ¬ x < y → V g M d N Q (pc + 3) lv st w) : V g M d N Q pc lv (vi y :: vi x :: st) w := by
  intro p e R s m args below meth c a cls D H locs ls QQ hF hG hR hl hr
  show W p g.1 e R s m args below meth c H locs N.2.2.1 N.2.2.2 QQ (F0 m pc ls (.int (Int32.ofInt y) :: .int (Int32.ofInt x) :: st.map (trv a)))
  exact lv_icmp_lt hF.1 hF.2.1 hd ht (fun h => kt ((vI_lt hx hy).mp h) p e R s m args below meth c a cls D H locs ls QQ hF hG hR hl hr) (fun h => kf (fun q => h ((vI_lt hx hy).mpr q)) p e R s m args below meth c a cls D H locs ls QQ hF hG hR hl hr)
theorem v_if_lt {x off : Int} (tgt : Nat) (hd : decode M.2.2.1 pc = .ok (.ifCond .lt off, 3)) (ht : (pc : Int) + off = (tgt : Int)) (hx : vr x) (kt : x < 0 → V g M d N Q tgt lv st w) (kf : ¬ x < 0 → V g M d N Q (pc + 3) lv st w) : V g M d N Q pc lv (vi x :: st) w := by
  intro p e R s m args below meth c a cls D H locs ls QQ hF hG hR hl hr
  show W p g.1 e R s m args below meth c H locs N.2.2.1 N.2.2.2 QQ (F0 m pc ls (.int (Int32.ofInt x) :: st.map (trv a)))
  exact lv_if_lt hF.1 hF.2.1 hd ht (fun h => kt ((vI_lt hx vr0).mp (by rw [← vI_0]; exact h)) p e R s m args below meth c a cls D H locs ls QQ hF hG hR hl hr) (fun h => kf (fun q => h (by rw [vI_0]; exact (vI_lt hx vr0).mpr q)) p e R s m args below meth c a cls D H locs ls QQ hF hG hR hl hr)
theorem v_icmp_ge {x y off : Int} (tgt : Nat) (hd : decode M.2.2.1 pc = .ok (.if_icmp .ge off, 3)) (ht : (pc : Int) + off = (tgt : Int)) (hx : vr x) (hy : vr y) (kt : y ≤ x → V g M d N Q tgt lv st w) (kf : ¬ y ≤ x → V g M d N Q (pc + 3) lv st w) : V g M d N Q pc lv (vi y :: vi x :: st) w := by
  intro p e R s m args below meth c a cls D H locs ls QQ hF hG hR hl hr
  show W p g.1 e R s m args below meth c H locs N.2.2.1 N.2.2.2 QQ (F0 m pc ls (.int (Int32.ofInt y) :: .int (Int32.ofInt x) :: st.map (trv a)))
  exact lv_icmp_ge hF.1 hF.2.1 hd ht (fun h => kt ((vI_le hy hx).mp h) p e R s m args below meth c a cls D H locs ls QQ hF hG hR hl hr) (fun h => kf (fun q => h ((vI_le hy hx).mpr q)) p e R s m args below meth c a cls D H locs ls QQ hF hG hR hl hr)
theorem v_if_ge {x off : Int} (tgt : Nat) (hd : decode M.2.2.1 pc = .ok (.ifCond .ge off, 3)) (ht : (pc : Int) + off = (tgt : Int)) (hx : vr x) (kt : 0 ≤ x → V g M d N Q tgt lv st w) (kf : ¬ 0 ≤ x → V g M d N Q (pc + 3) lv st w) : V g M d N Q pc lv (vi x :: st) w := by
  intro p e R s m args below meth c a cls D H locs ls QQ hF hG hR hl hr
  show W p g.1 e R s m args below meth c H locs N.2.2.1 N.2.2.2 QQ (F0 m pc ls (.int (Int32.ofInt x) :: st.map (trv a)))
  exact lv_if_ge hF.1 hF.2.1 hd ht (fun h => kt ((vI_le vr0 hx).mp (by rw [← vI_0]; exact h)) p e R s m args below meth c a cls D H locs ls QQ hF hG hR hl hr) (fun h => kf (fun q => h (by rw [vI_0]; exact (vI_le vr0 hx).mpr q)) p e R s m args below meth c a cls D H locs ls QQ hF hG hR hl hr)
theorem v_icmp_gt {x y off : Int} (tgt : Nat) (hd : decode M.2.2.1 pc = .ok (.if_icmp .gt off, 3)) (ht : (pc : Int) + off = (tgt : Int)) (hx : vr x) (hy : vr y) (kt : y < x → V g M d N Q tgt lv st w) (kf : ¬ y < x → V g M d N Q (pc + 3) lv st w) : V g M d N Q pc lv (vi y :: vi x :: st) w := by
  intro p e R s m args below meth c a cls D H locs ls QQ hF hG hR hl hr
  show W p g.1 e R s m args below meth c H locs N.2.2.1 N.2.2.2 QQ (F0 m pc ls (.int (Int32.ofInt y) :: .int (Int32.ofInt x) :: st.map (trv a)))
  exact lv_icmp_gt hF.1 hF.2.1 hd ht (fun h => kt ((vI_lt hy hx).mp h) p e R s m args below meth c a cls D H locs ls QQ hF hG hR hl hr) (fun h => kf (fun q => h ((vI_lt hy hx).mpr q)) p e R s m args below meth c a cls D H locs ls QQ hF hG hR hl hr)
theorem v_if_gt {x off : Int} (tgt : Nat) (hd : decode M.2.2.1 pc = .ok (.ifCond .gt off, 3)) (ht : (pc : Int) + off = (tgt : Int)) (hx : vr x) (kt : 0 < x → V g M d N Q tgt lv st w) (kf : ¬ 0 < x → V g M d N Q (pc + 3) lv st w) : V g M d N Q pc lv (vi x :: st) w := by
  intro p e R s m args below meth c a cls D H locs ls QQ hF hG hR hl hr
  show W p g.1 e R s m args below meth c H locs N.2.2.1 N.2.2.2 QQ (F0 m pc ls (.int (Int32.ofInt x) :: st.map (trv a)))
  exact lv_if_gt hF.1 hF.2.1 hd ht (fun h => kt ((vI_lt vr0 hx).mp (by rw [← vI_0]; exact h)) p e R s m args below meth c a cls D H locs ls QQ hF hG hR hl hr) (fun h => kf (fun q => h (by rw [vI_0]; exact (vI_lt vr0 hx).mpr q)) p e R s m args below meth c a cls D H locs ls QQ hF hG hR hl hr)
theorem v_icmp_le {x y off : Int} (tgt : Nat) (hd : decode M.2.2.1 pc = .ok (.if_icmp .le off, 3)) (ht : (pc : Int) + off = (tgt : Int)) (hx : vr x) (hy : vr y) (kt : x ≤ y → V g M d N Q tgt lv st w) (kf : ¬ x ≤ y → V g M d N Q (pc + 3) lv st w) : V g M d N Q pc lv (vi y :: vi x :: st) w := by
  intro p e R s m args below meth c a cls D H locs ls QQ hF hG hR hl hr
  show W p g.1 e R s m args below meth c H locs N.2.2.1 N.2.2.2 QQ (F0 m pc ls (.int (Int32.ofInt y) :: .int (Int32.ofInt x) :: st.map (trv a)))
  exact lv_icmp_le hF.1 hF.2.1 hd ht (fun h => kt ((vI_le hx hy).mp h) p e R s m args below meth c a cls D H locs ls QQ hF hG hR hl hr) (fun h => kf (fun q => h ((vI_le hx hy).mpr q)) p e R s m args below meth c a cls D H locs ls QQ hF hG hR hl hr)
theorem v_if_le {x off : Int} (tgt : Nat) (hd : decode M.2.2.1 pc = .ok (.ifCond .le off, 3)) (ht : (pc : Int) + off = (tgt : Int)) (hx : vr x) (kt : x ≤ 0 → V g M d N Q tgt lv st w) (kf : ¬ x ≤ 0 → V g M d N Q (pc + 3) lv st w) : V g M d N Q pc lv (vi x :: st) w := by
  intro p e R s m args below meth c a cls D H locs ls QQ hF hG hR hl hr
  show W p g.1 e R s m args below meth c H locs N.2.2.1 N.2.2.2 QQ (F0 m pc ls (.int (Int32.ofInt x) :: st.map (trv a)))
  exact lv_if_le hF.1 hF.2.1 hd ht (fun h => kt ((vI_le hx vr0).mp (by rw [← vI_0]; exact h)) p e R s m args below meth c a cls D H locs ls QQ hF hG hR hl hr) (fun h => kf (fun q => h (by rw [vI_0]; exact (vI_le hx vr0).mpr q)) p e R s m args below meth c a cls D H locs ls QQ hF hG hR hl hr)
theorem v_lc_eq {x y off : Int} (tgt : Nat) (hd : decode M.2.2.1 pc = .ok (.lcmp, 1)) (hd2 : decode M.2.2.1 (pc + 1) = .ok (.ifCond .eq off, 3)) (ht : ((pc + 1 : Nat) : Int) + off = (tgt : Int)) (hx : vq x) (hy : vq y) (kt : x = y → V g M d N Q tgt lv st w) (kf : ¬ x = y → V g M d N Q (pc + 4) lv st w) : V g M d N Q pc lv (vj y :: vj x :: st) w := by
  have hc : vr (vcmp x y) := by unfold vcmp; split <;> (try split) <;> omega
  refine v_lcmp hd hx hy (v_if_eq tgt hd2 ht hc (fun h => kt ?_) (fun h => kf ?_)) <;> (unfold vcmp at h; split at h <;> (try split at h) <;> omega)
theorem v_lc_ne {x y off : Int} (tgt : Nat) (hd : decode M.2.2.1 pc = .ok (.lcmp, 1)) (hd2 : decode M.2.2.1 (pc + 1) = .ok (.ifCond .ne off, 3)) (ht : ((pc + 1 : Nat) : Int) + off = (tgt : Int)) (hx : vq x) (hy : vq y) (kt : ¬ x = y → V g M d N Q tgt lv st w) (kf : x = y → V g M d N Q (pc + 4) lv st w) : V g M d N Q pc lv (vj y :: vj x :: st) w := by
  have hc : vr (vcmp x y) := by unfold vcmp; split <;> (try split) <;> omega
  refine v_lcmp hd hx hy (v_if_ne tgt hd2 ht hc (fun h => kt ?_) (fun h => kf ?_)) <;> (unfold vcmp at h; split at h <;> (try split at h) <;> omega)
theorem v_lc_lt {x y off : Int} (tgt : Nat) (hd : decode M.2.2.1 pc = .ok (.lcmp, 1)) (hd2 : decode M.2.2.1 (pc + 1) = .ok (.ifCond .lt off, 3)) (ht : ((pc + 1 : Nat) : Int) + off = (tgt : Int)) (hx : vq x) (hy : vq y) (kt : x < y → V g M d N Q tgt lv st w) (kf : ¬ x < y → V g M d N Q (pc + 4) lv st w) : V g M d N Q pc lv (vj y :: vj x :: st) w := by
  have hc : vr (vcmp x y) := by unfold vcmp; split <;> (try split) <;> omega
  refine v_lcmp hd hx hy (v_if_lt tgt hd2 ht hc (fun h => kt ?_) (fun h => kf ?_)) <;> (unfold vcmp at h; split at h <;> (try split at h) <;> omega)
theorem v_lc_ge {x y off : Int} (tgt : Nat) (hd : decode M.2.2.1 pc = .ok (.lcmp, 1)) (hd2 : decode M.2.2.1 (pc + 1) = .ok (.ifCond .ge off, 3)) (ht : ((pc + 1 : Nat) : Int) + off = (tgt : Int)) (hx : vq x) (hy : vq y) (kt : y ≤ x → V g M d N Q tgt lv st w) (kf : ¬ y ≤ x → V g M d N Q (pc + 4) lv st w) : V g M d N Q pc lv (vj y :: vj x :: st) w := by
  have hc : vr (vcmp x y) := by unfold vcmp; split <;> (try split) <;> omega
  refine v_lcmp hd hx hy (v_if_ge tgt hd2 ht hc (fun h => kt ?_) (fun h => kf ?_)) <;> (unfold vcmp at h; split at h <;> (try split at h) <;> omega)
theorem v_lc_gt {x y off : Int} (tgt : Nat) (hd : decode M.2.2.1 pc = .ok (.lcmp, 1)) (hd2 : decode M.2.2.1 (pc + 1) = .ok (.ifCond .gt off, 3)) (ht : ((pc + 1 : Nat) : Int) + off = (tgt : Int)) (hx : vq x) (hy : vq y) (kt : y < x → V g M d N Q tgt lv st w) (kf : ¬ y < x → V g M d N Q (pc + 4) lv st w) : V g M d N Q pc lv (vj y :: vj x :: st) w := by
  have hc : vr (vcmp x y) := by unfold vcmp; split <;> (try split) <;> omega
  refine v_lcmp hd hx hy (v_if_gt tgt hd2 ht hc (fun h => kt ?_) (fun h => kf ?_)) <;> (unfold vcmp at h; split at h <;> (try split at h) <;> omega)
theorem v_lc_le {x y off : Int} (tgt : Nat) (hd : decode M.2.2.1 pc = .ok (.lcmp, 1)) (hd2 : decode M.2.2.1 (pc + 1) = .ok (.ifCond .le off, 3)) (ht : ((pc + 1 : Nat) : Int) + off = (tgt : Int)) (hx : vq x) (hy : vq y) (kt : x ≤ y → V g M d N Q tgt lv st w) (kf : ¬ x ≤ y → V g M d N Q (pc + 4) lv st w) : V g M d N Q pc lv (vj y :: vj x :: st) w := by
  have hc : vr (vcmp x y) := by unfold vcmp; split <;> (try split) <;> omega
  refine v_lcmp hd hx hy (v_if_le tgt hd2 ht hc (fun h => kt ?_) (fun h => kf ?_)) <;> (unfold vcmp at h; split at h <;> (try split at h) <;> omega)
theorem v_tableIn {dflt lo hi off x : Int} {offs : Array Int} {len : Nat} (tgt : Nat) (hd : decode M.2.2.1 pc = .ok (.tableswitch dflt lo hi offs, len)) (hx : vr x) (h1 : lo ≤ x) (h2 : x ≤ hi) (ho : offs[(x - lo).toNat]? = some off) (ht : (pc : Int) + off = (tgt : Int)) (k : V g M d N Q tgt lv st w) : V g M d N Q pc lv (vi x :: st) w := by
  intro p e R s m args below meth c a cls D H locs ls QQ hF hG hR hl hr
  show W p g.1 e R s m args below meth c H locs N.2.2.1 N.2.2.2 QQ (F0 m pc ls (.int (Int32.ofInt x) :: st.map (trv a)))
  exact lv_tableIn hF.1 hF.2.1 hd (by rw [vI hx]; omega) (by rw [vI hx]; omega) (by rw [vI hx]; exact ho) ht (k p e R s m args below meth c a cls D H locs ls QQ hF hG hR hl hr)
theorem v_tableOut {dflt lo hi x : Int} {offs : Array Int} {len : Nat} (tgt : Nat) (hd : decode M.2.2.1 pc = .ok (.tableswitch dflt lo hi offs, len)) (hx : vr x) (h1 : x < lo ∨ hi < x) (ht : (pc : Int) + dflt = (tgt : Int)) (k : V g M d N Q tgt lv st w) : V g M d N Q pc lv (vi x :: st) w := by
  intro p e R s m args below meth c a cls D H locs ls QQ hF hG hR hl hr
  show W p g.1 e R s m args below meth c H locs N.2.2.1 N.2.2.2 QQ (F0 m pc ls (.int (Int32.ofInt x) :: st.map (trv a)))
  exact lv_tableOut hF.1 hF.2.1 hd (by rw [vI hx]; exact h1) ht (k p e R s m args below meth c a cls D H locs ls QQ hF hG hR hl hr)
def vsub : List (Nat × Value) → List (Nat × Value) → Prop
  | [], _ => True
  | q :: l, lv => vget lv q.1 = some q.2 ∧ vsub l lv
theorem vsub_mem : ∀ (l lv : List (Nat × Value)), vsub l lv → ∀ q ∈ l, vget lv q.1 = some q.2 := by
  intro l
  induction l with
  | nil => intro lv _ q h; cases h
  | cons x l ih =>
    intro lv h q hq
    rcases List.mem_cons.mp hq with rfl | hq
    · exact h.1
    · exact ih lv h.2 q hq
/-- fewer locals, in another order -/
theorem v_lv {lv' : List (Nat × Value)} (k : V g M d N Q pc lv' st w) (h : vsub lv' lv) : V g M d N Q pc lv st w := by
  intro p e R s m args below meth c a cls D H locs ls QQ hF hG hR hl hr
  exact k p e R s m args below meth c a cls D H locs ls QQ hF hG hR ⟨hl.1, fun i v hv => hl.2 i v (vsub_mem _ _ h (i, v) (vget_mem _ _ _ hv))⟩ hr
theorem v_cons {Q' : Option Value → List mC → Prop} (k : V g M d N Q' pc lv st w) (h : ∀ r w', Q' r w' → Q r w') : V g M d N Q pc lv st w := by
  intro p e R s m args below meth c a cls D H locs ls QQ hF hG hR hl hr
  exact k p e R s m args below meth c a cls D H locs ls QQ hF hG hR hl (fun r w' H' locs' pc' ls' nc ns h1 h2 hq h3 h4 => hr r w' H' locs' pc' ls' nc ns h1 h2 (h r w' hq) h3 h4)
theorem v_ireturn {x : Int} {ty : FieldType} (hd : decode M.2.2.1 pc = .ok (.ireturn, 1)) (hty : M.2.2.2.2 = some ty) (hn : narrow ty (.int (Int32.ofInt x)) = .int (Int32.ofInt x)) (hN : N.2.2.1 ≤ N.1 ∧ N.2.2.2 ≤ N.2.1) (k : Q (some (vi x)) w) : V g M d N Q pc lv [vi x] w := by
  intro p e R s m args below meth c a cls D H locs ls QQ hF hG hR hl hr
  exact hr (some (vi x)) w H locs pc ls _ _ hN.1 hN.2 k hR (Or.inl ⟨_, rfl, hd, ty, hty, hn⟩)
theorem vZ {x : Int} (h : x = 0 ∨ x = 1) : narrow .boolean (.int (Int32.ofInt x)) = .int (Int32.ofInt x) := by rcases h with rfl | rfl <;> decide
theorem v_lreturn {x : Int} (hd : decode M.2.2.1 pc = .ok (.lreturn, 1)) (hty : M.2.2.2.2 = some .long) (hN : N.2.2.1 ≤ N.1 ∧ N.2.2.2 ≤ N.2.1) (k : Q (some (vj x)) w) : V g M d N Q pc lv [vj x] w := by
  intro p e R s m args below meth c a cls D H locs ls QQ hF hG hR hl hr
  exact hr (some (vj x)) w H locs pc ls _ _ hN.1 hN.2 k hR (Or.inr (Or.inl ⟨_, rfl, hd, hty⟩))
theorem v_return (hd : decode M.2.2.1 pc = .ok (.return_, 1)) (hty : M.2.2.2.2 = none) (hN : N.2.2.1 ≤ N.1 ∧ N.2.2.2 ≤ N.2.1) (k : Q none w) : V g M d N Q pc lv [] w := by
  intro p e R s m args below meth c a cls D H locs ls QQ hF hG hR hl hr
  exact hr none w H locs pc ls _ _ hN.1 hN.2 k hR (Or.inr (Or.inr ⟨rfl, hd, hty⟩))
theorem v_sum (a : vAd) (st : List Value) : ((st.map (trv a)).map fun v => v.category).sum = vSl st := by
  unfold vSl
  rw [List.map_map]
  congr 1
  exact List.map_congr_left (fun v _ => trv_cat a v)
theorem v_max {x y : Int} {idx : Nat} (hd : decode M.2.2.1 pc = .ok (.invokestatic idx, 3)) (hw : Cond.methodLink M.1 idx Lib.Math.max.name ∈ vWords) (hs : Cond.static Lib.Math.max.name ∈ vWords) (hi : Cond.initialized "java/lang/Math" ∈ vWords) (hc : Cond.code Lib.Math.max.name Lib.Math.max.code 2 (some .int) ∈ vWords) (hx : vr x) (hy : vr y) (h8 : vSl st ≤ 8) (h1 : 1 ≤ d) (hN : N.2.2.1 ≤ N.1 ∧ N.2.2.2 ≤ N.2.1) (k : V g M d N Q (pc + 3) lv (vi (max x y) :: st) w) : V g M d N Q pc lv (vi y :: vi x :: st) w := by
  intro p e R s m args below meth c a cls D H locs ls QQ hF hG hR hl hr
  have hts := hF.2.2.2.2.1
  have k1 : W p g.1 e R s m args below meth c H locs N.2.2.1 N.2.2.2 QQ (F0 m (pc + 3) ls (.int (Int32.ofInt (max x y)) :: st.map (trv a))) := (k p e R s m args below meth c a cls D H locs ls QQ hF hG hR hl hr)
  have e0 : (if Int32.ofInt x < Int32.ofInt y then Int32.ofInt y else Int32.ofInt x) = Int32.ofInt (max x y) := by
    by_cases h : x < y
    · rw [if_pos ((vI_lt hx hy).mpr h), show max x y = y by omega]
    · rw [if_neg (fun q => h ((vI_lt hx hy).mp q)), show max x y = x by omega]
  have hf := hF.2.2.2.2.2.2.1
  have hlo := hF.2.2.2.2.2.2.2.1
  show W p g.1 e R s m args below meth c H locs N.2.2.1 N.2.2.2 QQ (F0 m pc ls (.int (Int32.ofInt y) :: .int (Int32.ofInt x) :: st.map (trv a)))
  exact va_mmax hF.1 hF.2.1 (by rw [hF.2.2.1]; exact hl.1.1.symm) hF.2.2.2.1 (hts _ hw) (hts _ hs) (hts _ hi) (hts _ hc) (by omega) (by rw [v_sum]; omega) (by rw [hF.2.2.2.2.2.2.2.2.1]; exact hN.1) (by rw [hF.2.2.2.2.2.2.2.2.2]; exact hN.2) hd (by rw [e0]; exact k1)
theorem v_min {x y : Int} {idx : Nat} (hd : decode M.2.2.1 pc = .ok (.invokestatic idx, 3)) (hw : Cond.methodLink M.1 idx Lib.Math.min.name ∈ vWords) (hs : Cond.static Lib.Math.min.name ∈ vWords) (hi : Cond.initialized "java/lang/Math" ∈ vWords) (hc : Cond.code Lib.Math.min.name Lib.Math.min.code 2 (some .int) ∈ vWords) (hx : vr x) (hy : vr y) (h8 : vSl st ≤ 8) (h1 : 1 ≤ d) (hN : N.2.2.1 ≤ N.1 ∧ N.2.2.2 ≤ N.2.1) (k : V g M d N Q (pc + 3) lv (vi (min x y) :: st) w) : V g M d N Q pc lv (vi y :: vi x :: st) w := by
  intro p e R s m args below meth c a cls D H locs ls QQ hF hG hR hl hr
  have hts := hF.2.2.2.2.1
  have k1 : W p g.1 e R s m args below meth c H locs N.2.2.1 N.2.2.2 QQ (F0 m (pc + 3) ls (.int (Int32.ofInt (min x y)) :: st.map (trv a))) := (k p e R s m args below meth c a cls D H locs ls QQ hF hG hR hl hr)
  have e0 : (if Int32.ofInt y < Int32.ofInt x then Int32.ofInt y else Int32.ofInt x) = Int32.ofInt (min x y) := by
    by_cases h : y < x
    · rw [if_pos ((vI_lt hy hx).mpr h), show min x y = y by omega]
    · rw [if_neg (fun q => h ((vI_lt hy hx).mp q)), show min x y = x by omega]
  have hf := hF.2.2.2.2.2.2.1
  have hlo := hF.2.2.2.2.2.2.2.1
  show W p g.1 e R s m args below meth c H locs N.2.2.1 N.2.2.2 QQ (F0 m pc ls (.int (Int32.ofInt y) :: .int (Int32.ofInt x) :: st.map (trv a)))
  exact va_mmin hF.1 hF.2.1 (by rw [hF.2.2.1]; exact hl.1.1.symm) hF.2.2.2.1 (hts _ hw) (hts _ hs) (hts _ hi) (hts _ hc) (by omega) (by rw [v_sum]; omega) (by rw [hF.2.2.2.2.2.2.2.2.1]; exact hN.1) (by rw [hF.2.2.2.2.2.2.2.2.2]; exact hN.2) hd (by rw [e0]; exact k1)
end RULES
end
section
theorem vP.one {a : vAd} {cls : Nat → ClassId} {D : va_G} {w : List mC} {H : Heap} {p0 : Nat} {e : mC} (h : vP a cls D w H) (hw : w[p0]? = some e) : va_P D vwCl [(a.1 + p0, tre a cls e)] H := by
  intro k q hk
  have hz : k < 1 := (List.getElem?_eq_some_iff.mp hk).1
  rw [show k = 0 by omega] at hk
  cases hk
  exact h.2 p0 e hw
theorem vP.set {a : vAd} {cls : Nat → ClassId} {D : va_G} {w : List mC} {H H1 : Heap} {p0 : Nat} {e e1 : mC} (h : vP a cls D w H) (hw : w[p0]? = some e) (hz : H1.size = H.size) (ho : ∀ q : Nat, q ≠ a.1 + p0 → H1[q]? = H[q]?) (hn : va_at D vwCl (a.1 + p0, tre a cls e1) H1) : vP a cls D (w.set p0 e1) H1 := by
  have hl := (List.getElem?_eq_some_iff.mp hw).1
  refine ⟨by rw [hz, h.1, List.length_set], fun k x hk => ?_⟩
  by_cases hp : k = p0
  · subst hp
    rw [List.getElem?_set_self hl] at hk
    cases hk
    exact hn
  · rw [List.getElem?_set_ne (fun q => hp q.symm)] at hk
    exact (h.2 k x hk).kept (ho _ (show a.1 + k ≠ a.1 + p0 by omega))
theorem vP.push {a : vAd} {cls : Nat → ClassId} {D : va_G} {w : List mC} {H H1 : Heap} {e1 : mC} (h : vP a cls D w H) (hz : H1.size = H.size + 1) (ho : ∀ q : Nat, q < H.size → H1[q]? = H[q]?) (hn : va_at D vwCl (a.1 + w.length, tre a cls e1) H1) : vP a cls D (w ++ [e1]) H1 := by
  refine ⟨by rw [hz, h.1, List.length_append]; simp; omega, fun k x hk => ?_⟩
  by_cases hp : k < w.length
  · rw [List.getElem?_append_left hp] at hk
    have h2 := h.2 k x hk
    exact h2.kept (ho _ (show a.1 + k < H.size by rw [h.1]; omega))
  · rw [List.getElem?_append_right (by omega)] at hk
    have hz2 : k - w.length < 1 := (List.getElem?_eq_some_iff.mp hk).1
    have hk2 : k = w.length := by omega
    subst hk2
    rw [Nat.sub_self] at hk
    cases hk
    exact hn
theorem va_S_push {A : Nat → Prop} {H0 H H1 : Heap} {locs : List Loc} (h : va_S A H0 H locs) (hz : H1.size = H.size + 1) (ho : ∀ q : Nat, q < H.size → H1[q]? = H[q]?) : va_S A H0 H1 locs :=
  ⟨Nat.le_trans h.1 (by omega), fun q h1 h2 => (ho q (Nat.lt_of_lt_of_le h1 h.1)).trans (h.2.1 q h1 h2), h.2.2⟩
set_option maxRecDepth 100000 in
theorem vgX0 : ∀ w ∈ u_ws RX0 TX0 14, goodWord w = true := by decide +kernel
theorem vinX0 : ∀ w ∈ u_ws RX0 TX0 14, w ∈ vWords := fun w h => List.mem_filter.mpr ⟨inX0 w h, vgX0 w h⟩
set_option maxRecDepth 100000 in
theorem vgX1 : ∀ w ∈ u_ws RX1 TX1 7, goodWord w = true := by decide +kernel
theorem vinX1 : ∀ w ∈ u_ws RX1 TX1 7, w ∈ vWords := fun w h => List.mem_filter.mpr ⟨inX1 w h, vgX1 w h⟩
set_option maxRecDepth 100000 in
theorem vgX2 : ∀ w ∈ u_ws RX2 TX2 14, goodWord w = true := by decide +kernel
theorem vinX2 : ∀ w ∈ u_ws RX2 TX2 14, w ∈ vWords := fun w h => List.mem_filter.mpr ⟨inX2 w h, vgX2 w h⟩
set_option maxRecDepth 100000 in
theorem vgX3 : ∀ w ∈ u_ws RX3 TX3 3, goodWord w = true := by decide +kernel
theorem vinX3 : ∀ w ∈ u_ws RX3 TX3 3, w ∈ vWords := fun w h => List.mem_filter.mpr ⟨inX3 w h, vgX3 w h⟩
set_option maxRecDepth 100000 in
theorem vgX4 : ∀ w ∈ u_ws RX4 TX4 7, goodWord w = true := by decide +kernel
theorem vinX4 : ∀ w ∈ u_ws RX4 TX4 7, w ∈ vWords := fun w h => List.mem_filter.mpr ⟨inX4 w h, vgX4 w h⟩
set_option maxRecDepth 100000 in
theorem vgX5 : ∀ w ∈ u_ws RX5 TX5 2, goodWord w = true := by decide +kernel
theorem vinX5 : ∀ w ∈ u_ws RX5 TX5 2, w ∈ vWords := fun w h => List.mem_filter.mpr ⟨inX5 w h, vgX5 w h⟩
set_option maxRecDepth 100000 in
theorem vgX6 : ∀ w ∈ u_ws RX6 TX6 7, goodWord w = true := by decide +kernel
theorem vinX6 : ∀ w ∈ u_ws RX6 TX6 7, w ∈ vWords := fun w h => List.mem_filter.mpr ⟨inX6 w h, vgX6 w h⟩
set_option maxRecDepth 100000 in
theorem vgX7 : ∀ w ∈ u_ws RX7 TX7 9, goodWord w = true := by decide +kernel
theorem vinX7 : ∀ w ∈ u_ws RX7 TX7 9, w ∈ vWords := fun w h => List.mem_filter.mpr ⟨inX7 w h, vgX7 w h⟩
set_option maxRecDepth 100000 in
theorem vgX8 : ∀ w ∈ u_ws RX8 TX8 11, goodWord w = true := by decide +kernel
theorem vinX8 : ∀ w ∈ u_ws RX8 TX8 11, w ∈ vWords := fun w h => List.mem_filter.mpr ⟨inX8 w h, vgX8 w h⟩
set_option maxRecDepth 100000 in
theorem vgX9 : ∀ w ∈ u_ws RX9 TX9 47, goodWord w = true := by decide +kernel
theorem vinX9 : ∀ w ∈ u_ws RX9 TX9 47, w ∈ vWords := fun w h => List.mem_filter.mpr ⟨inX9 w h, vgX9 w h⟩
def vTab (C : String) (T : u_T) (N : Nat) : Prop := (∀ w ∈ u_ws C T N, w ∈ vWords) ∧ (∃ ty : Nat → FieldType, ∀ k, k < N → parseFieldDescriptor (T k).2.2.1 = some (ty k)) ∧ ∀ a, a < N → ∀ b, b < N → a ≠ b → (T a).2.1 ≠ (T b).2.1
theorem vtab {ci : Nat} {C : String} {T : u_T} {n : Nat} (h : vwCl[ci]? = some (C, T, n)) : vTab C T n := by
  match ci, h with
  | 0, h => cases h; exact ⟨vinX0, ⟨tyX0, tyX0_ok⟩, nmX0⟩
  | 1, h => cases h; exact ⟨vinX1, ⟨tyX1, tyX1_ok⟩, nmX1⟩
  | 2, h => cases h; exact ⟨vinX2, ⟨tyX2, tyX2_ok⟩, nmX2⟩
  | 3, h => cases h; exact ⟨vinX3, ⟨tyX3, tyX3_ok⟩, nmX3⟩
  | 4, h => cases h; exact ⟨vinX4, ⟨tyX4, tyX4_ok⟩, nmX4⟩
  | 5, h => cases h; exact ⟨vinX5, ⟨tyX5, tyX5_ok⟩, nmX5⟩
  | 6, h => cases h; exact ⟨vinX6, ⟨tyX6, tyX6_ok⟩, nmX6⟩
  | 7, h => cases h; exact ⟨vinX7, ⟨tyX7, tyX7_ok⟩, nmX7⟩
  | 8, h => cases h; exact ⟨vinX8, ⟨tyX8, tyX8_ok⟩, nmX8⟩
  | 9, h => cases h; exact ⟨vinX9, ⟨tyX9, tyX9_ok⟩, nmX9⟩
  | k + 10, h => simp [vwCl] at h
/-- an entry of a class' constants that names field k of class ci -/
def vFl (own : String) (idx ci k : Nat) (ds : String) (fin : Bool) : Prop := ∃ (C : String) (T : u_T) (n : Nat), vwCl[ci]? = some (C, T, n) ∧ k < n ∧ Cond.fieldLink own idx C (T k).2.1 ds ∈ vWords ∧ (T k).1 = C ∧ (T k).2.2.1 = ds ∧ (T k).2.2.2 = fin
section HEAP
variable {g : vGl} {M : vMt} {d : Nat} {N : Nat × Nat × Nat × Nat} {Q : Option Value → List mC → Prop} {pc : Nat} {lv : List (Nat × Value)} {st : List Value} {w : List mC}
theorem v_getf {p0 ci k0 idx : Nat} {fs : List Value} {ds : String} {fin : Bool} {v : Value} (hd : decode M.2.2.1 pc = .ok (.getfield idx, 3)) (hf : vFl M.1 idx ci k0 ds fin) (hw : w[p0]? = some (.inr (ci, fs))) (hv : fs[k0]? = some v) (k : V g M d N Q (pc + 3) lv (v :: st) w) : V g M d N Q pc lv (.ref (p0 + 1) :: st) w := by
  intro p e R s m args below meth c a cls D H locs ls QQ hF hG hR hl hr
  obtain ⟨C, T, n, hc, hk, hlk, hC, hds, -⟩ := hf
  subst hds
  exact va_get hF.1 hF.2.1 hF.2.2.2.2.1 (vtab hc).1 hF.2.2.2.1 hG.1 (hR.1.one hw) 0 rfl hc k0 hk (hF.2.2.2.2.1 _ hlk) (fun x h => by rw [hC] at h; exact h) (v := trv a v) (by rw [List.getElem?_map, hv]; rfl) hd (k p e R s m args below meth c a cls D H locs ls QQ hF hG hR hl hr)
theorem v_putf {p0 ci k0 idx : Nat} {fs : List Value} {ds : String} {v : Value} {ty : FieldType} (hd : decode M.2.2.1 pc = .ok (.putfield idx, 3)) (hf : vFl M.1 idx ci k0 ds false) (hw : w[p0]? = some (.inr (ci, fs))) (hty : parseFieldDescriptor ds = some ty) (hn : ∀ a, narrow ty (trv a v) = trv a v) (hfit : ∀ a, fits ty (trv a v) = true) (hlen : k0 < fs.length) (k : V g M d N Q (pc + 3) lv st (w.set p0 (.inr (ci, fs.set k0 v)))) : V g M d N Q pc lv (v :: .ref (p0 + 1) :: st) w := by
  intro p e R s m args below meth c a cls D H locs ls QQ hF hG hR hl hr
  obtain ⟨C, T, n, hc, hk, hlk, hC, hds, hfin⟩ := hf
  subst hds
  have hts := hF.2.2.2.2.1
  obtain ⟨hin, ⟨ty0, hty0⟩, hnm⟩ := vtab hc
  have hap := va_apart (own := M.1) hts hin ty0 hty0 hnm hG.1 hc
  obtain ⟨r, h1, cell, q1, q2, q3, q4⟩ := hR.1.2 p0 _ hw
  have hr0 : r = (C, T, n) := Option.some.inj (h1.symm.trans hc)
  subst hr0
  obtain ⟨hS, hfc, kC, hkC, hkind⟩ := hG.1.1 ci _ hc
  obtain ⟨cf, kf, fi, f, hi, hsl⟩ := hS k0 hk
  have hlay := hts _ (hin _ (u_in_lay hk))
  unfold u_lay at hlay
  rw [if_neg (by rw [hfin]; decide)] at hlay
  have hst := (u_facts hfc hkC (u_lays hts hin hk) hi).1
  have h6 := u_store hfc hkC hkind hlay hi hty (hn a) (hfit a)
  refine W.putK hF.1 hF.2.1 (f := f) ⟨hF.2.2.2.1, hts _ hlk, ⟨_, _, _, by rw [hC] at hi; exact hi⟩, hst⟩ (by rw [q2]; exact h6) q1 q3 (by rw [hsl]; exact k2_hasslot (q4 k0 hk)) rfl rfl hd fun H' e1 e2 e3 => ?_
  rw [hsl] at e1
  refine k p e R s m args below meth c a cls D H' _ ls QQ hF hG ⟨hR.1.set hw e2 e3 ?_, hR.2.1, hR.2.2.put e2 e3 (Nat.le_add_right _ _)⟩ hl hr
  refine ⟨_, hc, t_OB.to (V := updV (vp_V (fs.map (trv a))) k0 (trv a v)) ⟨_, e1, q2, q3, t_set q4 hap hk (trv a v)⟩ (fun j _ => ?_)⟩
  rw [vp_updV_set (by rw [List.length_map]; exact hlen), List.map_set]
theorem v_putF {p0 ci k0 idx : Nat} {fs : List Value} {ds : String} {v : Value} {ty : FieldType} (hd : decode M.2.2.1 pc = .ok (.putfield idx, 3)) (hf : vFl M.1 idx ci k0 ds true) (hini : M.2.1.name = "<init>") (hdecl : ∀ C T n, vwCl[ci]? = some (C, T, n) → C = M.1) (hw : w[p0]? = some (.inr (ci, fs))) (hty : parseFieldDescriptor ds = some ty) (hn : ∀ a, narrow ty (trv a v) = trv a v) (hfit : ∀ a, fits ty (trv a v) = true) (hlen : k0 < fs.length) (k : V g M d N Q (pc + 3) lv st (w.set p0 (.inr (ci, fs.set k0 v)))) : V g M d N Q pc lv (v :: .ref (p0 + 1) :: st) w := by
  intro p e R s m args below meth c a cls D H locs ls QQ hF hG hR hl hr
  obtain ⟨C, T, n, hc, hk, hlk, hC, hds, hfin⟩ := hf
  subst hds
  have hts := hF.2.2.2.2.1
  obtain ⟨hin, ⟨ty0, hty0⟩, hnm⟩ := vtab hc
  have hap := va_apart (own := M.1) hts hin ty0 hty0 hnm hG.1 hc
  obtain ⟨r, h1, cell, q1, q2, q3, q4⟩ := hR.1.2 p0 _ hw
  have hr0 : r = (C, T, n) := Option.some.inj (h1.symm.trans hc)
  subst hr0
  obtain ⟨hS, hfc, kC, hkC, hkind⟩ := hG.1.1 ci _ hc
  obtain ⟨cf, kf, fi, f, hi, hsl⟩ := hS k0 hk
  have hlay := hts _ (hin _ (u_in_lay hk))
  unfold u_lay at hlay
  rw [if_pos hfin] at hlay
  have hst := (u_facts hfc hkC (u_lays hts hin hk) hi).1
  have hcf : m.cls = cf := by
    obtain ⟨_, _, c', _, _, _, -, -, hf', -, -, -, hown2, -⟩ := Cond.laysFinal_spec hlay
    have e1 : c' = cf := by have := hi.symm.trans hf'; simp at this; exact this.1.symm
    rw [hC, hdecl C T n hc] at hown2
    rw [← e1]; exact Option.some.inj (hF.2.2.2.1.symm.trans hown2)
  have h6 := u_fits hfc hkC hkind (Or.inr hlay) hi hty (hn a) (hfit a)
  refine W.putFinK hF.1 hF.2.1 hF.2.2.2.1 (hts _ hlk) (by rw [hC] at hi; exact hi) hst hcf (hF.2.2.2.2.2.1 hini) (by rw [q2]; exact h6) q1 q3 (by rw [hsl]; exact k2_hasslot (q4 k0 hk)) rfl rfl hd fun H' e1 e2 e3 => ?_
  rw [hsl] at e1
  refine k p e R s m args below meth c a cls D H' _ ls QQ hF hG ⟨hR.1.set hw e2 e3 ?_, hR.2.1, hR.2.2.put e2 e3 (Nat.le_add_right _ _)⟩ hl hr
  refine ⟨_, hc, t_OB.to (V := updV (vp_V (fs.map (trv a))) k0 (trv a v)) ⟨_, e1, q2, q3, t_set q4 hap hk (trv a v)⟩ (fun j _ => ?_)⟩
  rw [vp_updV_set (by rw [List.length_map]; exact hlen), List.map_set]
theorem v_iald {p0 n : Nat} {f : Nat → Int32} {x : Int} (hd : decode M.2.2.1 pc = .ok (.iaload, 1)) (hw : w[p0]? = some (.inl (0, n, .inl f))) (hx : 0 ≤ x) (hx2 : x < n) (hn : n ≤ 2147483647) (k : V g M d N Q (pc + 1) lv (.int (f x.toNat) :: st) w) : V g M d N Q pc lv (vi x :: .ref (p0 + 1) :: st) w := by
  intro p e R s m args below meth c a cls D H locs ls QQ hF hG hR hl hr
  have h1 : vr x := ⟨by omega, by omega⟩
  have k1 := (k p e R s m args below meth c a cls D H locs ls QQ hF hG hR hl hr)
  rw [← vI_clamp h1] at k1
  exact va_iald hF.1 hF.2.1 hG.1 (hR.1.one hw) 0 0 rfl rfl (vI_in hx hx2 hn) hd k1
theorem v_lald {p0 n : Nat} {f : Nat → Int64} {x : Int} (hd : decode M.2.2.1 pc = .ok (.laload, 1)) (hw : w[p0]? = some (.inl (1, n, .inr (.inl f)))) (hx : 0 ≤ x) (hx2 : x < n) (hn : n ≤ 2147483647) (k : V g M d N Q (pc + 1) lv (.long (f x.toNat) :: st) w) : V g M d N Q pc lv (vi x :: .ref (p0 + 1) :: st) w := by
  intro p e R s m args below meth c a cls D H locs ls QQ hF hG hR hl hr
  have h1 : vr x := ⟨by omega, by omega⟩
  have k1 := (k p e R s m args below meth c a cls D H locs ls QQ hF hG hR hl hr)
  rw [← vI_clamp h1] at k1
  exact va_lald hF.1 hF.2.1 hG.1 (hR.1.one hw) 0 1 rfl rfl (vI_in hx hx2 hn) hd k1
theorem v_zald {p0 n : Nat} {f : Nat → Int32} {x : Int} (hd : decode M.2.2.1 pc = .ok (.baload, 1)) (hw : w[p0]? = some (.inl (2, n, .inl f))) (hx : 0 ≤ x) (hx2 : x < n) (hn : n ≤ 2147483647) (k : V g M d N Q (pc + 1) lv (.int (f x.toNat) :: st) w) : V g M d N Q pc lv (vi x :: .ref (p0 + 1) :: st) w := by
  intro p e R s m args below meth c a cls D H locs ls QQ hF hG hR hl hr
  have h1 : vr x := ⟨by omega, by omega⟩
  have k1 := (k p e R s m args below meth c a cls D H locs ls QQ hF hG hR hl hr)
  rw [← vI_clamp h1] at k1
  exact va_zald hF.1 hF.2.1 hG.1 (hR.1.one hw) 0 2 rfl rfl (vI_in hx hx2 hn) hd k1
theorem v_iast {p0 n : Nat} {f : Nat → Int32} {x y : Int} (hd : decode M.2.2.1 pc = .ok (.iastore, 1)) (hw : w[p0]? = some (.inl (0, n, .inl f))) (hx : 0 ≤ x) (hx2 : x < n) (hn : n ≤ 2147483647) (k : V g M d N Q (pc + 1) lv st (w.set p0 (.inl (0, n, .inl (upd f x.toNat (Int32.ofInt y)))))) : V g M d N Q pc lv (vi y :: vi x :: .ref (p0 + 1) :: st) w := by
  intro p e R s m args below meth c a cls D H locs ls QQ hF hG hR hl hr
  have h1 : vr x := ⟨by omega, by omega⟩
  have hcell := hR.1.2 p0 _ hw
  refine W.iast hF.1 hF.2.1 hcell ((hG.1.2 0 _ rfl).1 n (fun j => .int (f j))) (fun q => by cases q) (by show ¬ (Int32.ofInt x < 0 ∨ (arrV _ _ _).slots.size ≤ _); rw [arrV_size]; exact vI_in hx hx2 hn) rfl rfl hd fun H1 e1 z oq => ?_
  refine k p e R s m args below meth c a cls D H1 _ ls QQ hF hG ⟨hR.1.set hw z oq ?_, hR.2.1, hR.2.2.put z oq (Nat.le_add_right _ _)⟩ hl hr
  show H1[a.1 + p0]? = some (vp_cell _ _)
  rw [e1]
  rw [vI_clamp h1]
  show some ((vp_cell _ _).setSlot _ _) = _
  rw [vp_cell_i, vp_cell_i, arrV_store]
  congr 2
  funext q
  by_cases hq : q = x.toNat
  · subst hq
    simp [updV, upd]
  · simp [updV, upd, hq]
theorem v_last {p0 n : Nat} {f : Nat → Int64} {x y : Int} (hd : decode M.2.2.1 pc = .ok (.lastore, 1)) (hw : w[p0]? = some (.inl (1, n, .inr (.inl f)))) (hx : 0 ≤ x) (hx2 : x < n) (hn : n ≤ 2147483647) (k : V g M d N Q (pc + 1) lv st (w.set p0 (.inl (1, n, .inr (.inl (vp_updL f x.toNat (Int64.ofInt y))))))) : V g M d N Q pc lv (vj y :: vi x :: .ref (p0 + 1) :: st) w := by
  intro p e R s m args below meth c a cls D H locs ls QQ hF hG hR hl hr
  have h1 : vr x := ⟨by omega, by omega⟩
  have hcell := hR.1.2 p0 _ hw
  refine W.last hF.1 hF.2.1 hcell ((hG.1.2 1 _ rfl).1 n (fun j => .long (f j))) (fun q => by cases q) (by show ¬ (Int32.ofInt x < 0 ∨ (arrV _ _ _).slots.size ≤ _); rw [arrV_size]; exact vI_in hx hx2 hn) rfl rfl hd fun H1 e1 z oq => ?_
  refine k p e R s m args below meth c a cls D H1 _ ls QQ hF hG ⟨hR.1.set hw z oq ?_, hR.2.1, hR.2.2.put z oq (Nat.le_add_right _ _)⟩ hl hr
  show H1[a.1 + p0]? = some (vp_cell _ _)
  rw [e1]
  rw [vI_clamp h1]
  show some ((vp_cell _ _).setSlot _ _) = _
  rw [vp_cell_l, vp_cell_l, arrV_store]
  congr 2
  funext q
  by_cases hq : q = x.toNat
  · subst hq
    simp [updV, vp_updL]
  · simp [updV, vp_updL, hq]
theorem v_zast {p0 n : Nat} {f : Nat → Int32} {x y : Int} (hd : decode M.2.2.1 pc = .ok (.bastore, 1)) (hw : w[p0]? = some (.inl (2, n, .inl f))) (hx : 0 ≤ x) (hx2 : x < n) (hn : n ≤ 2147483647) (hy : y = 0 ∨ y = 1) (k : V g M d N Q (pc + 1) lv st (w.set p0 (.inl (2, n, .inl (upd f x.toNat (Int32.ofInt y)))))) : V g M d N Q pc lv (vi y :: vi x :: .ref (p0 + 1) :: st) w := by
  intro p e R s m args below meth c a cls D H locs ls QQ hF hG hR hl hr
  have h1 : vr x := ⟨by omega, by omega⟩
  have hcell := hR.1.2 p0 _ hw
  refine W.zast hF.1 hF.2.1 hcell ((hG.1.2 2 _ rfl).1 n (fun j => .int (f j))) (fun q => by cases q) (by show ¬ (Int32.ofInt x < 0 ∨ (arrV _ _ _).slots.size ≤ _); rw [arrV_size]; exact vI_in hx hx2 hn) rfl rfl hd fun H1 e1 z oq => ?_
  refine k p e R s m args below meth c a cls D H1 _ ls QQ hF hG ⟨hR.1.set hw z oq ?_, hR.2.1, hR.2.2.put z oq (Nat.le_add_right _ _)⟩ hl hr
  show H1[a.1 + p0]? = some (vp_cell _ _)
  rw [e1]
  rw [vZ hy]
  rw [vI_clamp h1]
  show some ((vp_cell _ _).setSlot _ _) = _
  rw [vp_cell_i, vp_cell_i, arrV_store]
  congr 2
  funext q
  by_cases hq : q = x.toNat
  · subst hq
    simp [updV, upd]
  · simp [updV, upd, hq]
theorem v_alen {p0 t n : Nat} {f : (Nat → Int32) ⊕ (Nat → Int64) ⊕ (Nat → UInt32) ⊕ (Nat → UInt64) ⊕ (Nat → Option Nat)} (hd : decode M.2.2.1 pc = .ok (.arraylength, 1)) (hw : w[p0]? = some (.inl (t, n, f))) (ht : t < 3) (k : V g M d N Q (pc + 1) lv (vi n :: st) w) : V g M d N Q pc lv (.ref (p0 + 1) :: st) w := by
  intro p e R s m args below meth c a cls D H locs ls QQ hF hG hR hl hr
  have k1 := (k p e R s m args below meth c a cls D H locs ls QQ hF hG hR hl hr)
  have e0 : Int32.ofNat n = Int32.ofInt (n : Int) := Int32.ofInt_eq_ofNat.symm
  match t, ht with
  | 0, _ => exact va_alen (x := (n, f)) hF.1 hF.2.1 hG.1 (hR.1.one hw) 0 0 rfl (ty := .int) rfl e0 hd k1
  | 1, _ => exact va_alen (x := (n, f)) hF.1 hF.2.1 hG.1 (hR.1.one hw) 0 1 rfl (ty := .long) rfl e0 hd k1
  | 2, _ => exact va_alen (x := (n, f)) hF.1 hF.2.1 hG.1 (hR.1.one hw) 0 2 rfl (ty := .boolean) rfl e0 hd k1
theorem v_slen (hd : decode M.2.2.1 pc = .ok (.arraylength, 1)) (k : V g M d N Q (pc + 1) lv (vi g.2.1 :: st) w) : V g M d N Q pc lv (.ref 0 :: st) w := by
  intro p e R s m args below meth c a cls D H locs ls QQ hF hG hR hl hr
  have k1 := (k p e R s m args below meth c a cls D H locs ls QQ hF hG hR hl hr)
  exact va_slen hF.1 hF.2.1 hG.2.2.1 (Nat.lt_of_lt_of_le hG.2.2.2.1 hG.2.2.2.2.1) (Nat.not_le.mpr hG.2.2.2.1) hR.2.2 hd (by rw [← Int32.ofInt_eq_ofNat]; exact k1)
theorem v_sld {x : Int} (hd : decode M.2.2.1 pc = .ok (.iaload, 1)) (hx : 0 ≤ x) (hx2 : x < g.2.1) (hn : g.2.1 ≤ 2147483647) (k : V g M d N Q (pc + 1) lv (vi (g.2.2 x.toNat).toInt :: st) w) : V g M d N Q pc lv (vi x :: .ref 0 :: st) w := by
  intro p e R s m args below meth c a cls D H locs ls QQ hF hG hR hl hr
  have h1 : vr x := ⟨by omega, by omega⟩
  have k1 := (k p e R s m args below meth c a cls D H locs ls QQ hF hG hR hl hr)
  refine va_sld hF.1 hF.2.1 hG.2.2.1 (Nat.lt_of_lt_of_le hG.2.2.2.1 hG.2.2.2.2.1) (Nat.not_le.mpr hG.2.2.2.1) hR.2.2 (vI_in hx hx2 hn) hd ?_
  rw [vI_clamp h1]
  have e0 : trv a (vi (g.2.2 x.toNat).toInt) = .int (g.2.2 x.toNat) := by show Value.int (Int32.ofInt _) = _; rw [Int32.ofInt_toInt]
  have k2 : W p g.1 e R s m args below meth c H locs N.2.2.1 N.2.2.2 QQ (F0 m (pc + 1) ls (trv a (vi (g.2.2 x.toNat).toInt) :: st.map (trv a))) := k1
  rw [e0] at k2
  exact k2
theorem v_getsL {idx : Nat} (hd : decode M.2.2.1 pc = .ok (.getstatic idx, 3)) (hw : Cond.fieldLink M.1 idx RX8 "SETTING_LEAST" "[I" ∈ vWords) (k : V g M d N Q (pc + 3) lv (.retAddr 0 :: st) w) : V g M d N Q pc lv st w := by
  intro p e R s m args below meth c a cls D H locs ls QQ hF hG hR hl hr
  exact va_gets hF.1 hF.2.1 hG.2.2.2.2.2.1.1 hR.2.2 hF.2.2.2.1 (hF.2.2.2.2.1 _ hw) (fun _ h => h) hd (k p e R s m args below meth c a cls D H locs ls QQ hF hG hR hl hr)
theorem v_getsM {idx : Nat} (hd : decode M.2.2.1 pc = .ok (.getstatic idx, 3)) (hw : Cond.fieldLink M.1 idx RX8 "SETTING_MOST" "[I" ∈ vWords) (k : V g M d N Q (pc + 3) lv (.retAddr 1 :: st) w) : V g M d N Q pc lv st w := by
  intro p e R s m args below meth c a cls D H locs ls QQ hF hG hR hl hr
  exact va_gets hF.1 hF.2.1 hG.2.2.2.2.2.2.1 hR.2.2 hF.2.2.2.1 (hF.2.2.2.2.1 _ hw) (fun _ h => h) hd (k p e R s m args below meth c a cls D H locs ls QQ hF hG hR hl hr)
theorem v_tL {x : Int} (hd : decode M.2.2.1 pc = .ok (.iaload, 1)) (hx : 0 ≤ x) (hx2 : x < 3) (k : V g M d N Q (pc + 1) lv (vi (if x = 0 then 0 else if x = 1 then 1 else 50) :: st) w) : V g M d N Q pc lv (vi x :: .retAddr 0 :: st) w := by
  intro p e R s m args below meth c a cls D H locs ls QQ hF hG hR hl hr
  have h1 : vr x := ⟨by omega, by omega⟩
  refine va_ti hF.1 hF.2.1 hG.2.2.2.2.2.1.2 hR.2.2 (vI_in hx hx2 (by omega)) ?_ hd (k p e R s m args below meth c a cls D H locs ls QQ hF hG hR hl hr)
  rw [vI_clamp h1]
  rcases (show x = 0 ∨ x = 1 ∨ x = 2 by omega) with rfl | rfl | rfl <;> (show vLeast _ = vi _; decide)
theorem v_tM {x : Int} (hd : decode M.2.2.1 pc = .ok (.iaload, 1)) (hx : 0 ≤ x) (hx2 : x < 3) (k : V g M d N Q (pc + 1) lv (vi (if x = 0 then 999 else if x = 1 then 50 else 100) :: st) w) : V g M d N Q pc lv (vi x :: .retAddr 1 :: st) w := by
  intro p e R s m args below meth c a cls D H locs ls QQ hF hG hR hl hr
  have h1 : vr x := ⟨by omega, by omega⟩
  refine va_ti hF.1 hF.2.1 hG.2.2.2.2.2.2.2 hR.2.2 (vI_in hx hx2 (by omega)) ?_ hd (k p e R s m args below meth c a cls D H locs ls QQ hF hG hR hl hr)
  rw [vI_clamp h1]
  rcases (show x = 0 ∨ x = 1 ∨ x = 2 by omega) with rfl | rfl | rfl <;> (show vMost _ = vi _; decide)
theorem v_objInit {idx x : Nat} (hd : decode M.2.2.1 pc = .ok (.invokespecial idx, 3)) (hw : Cond.methodLink M.1 idx Lib.objectInit ∈ vWords) (hi : Cond.instanceMethod Lib.objectInit ∈ vWords) (hc : Cond.code Lib.objectInit ⟨#[0xb1]⟩ 1 none ∈ vWords) (h8 : vSl st ≤ 8) (h1 : 1 ≤ d) (k : V g M d N Q (pc + 3) lv st w) : V g M d N Q pc lv (.ref x :: st) w := by
  intro p e R s m args below meth c a cls D H locs ls QQ hF hG hR hl hr
  obtain ⟨y, hy⟩ := trv_ref a x
  have hts := hF.2.2.2.2.1
  have hf := hF.2.2.2.2.2.2.1
  have hlo := hF.2.2.2.2.2.2.2.1
  show W p g.1 e R s m args below meth c H locs N.2.2.1 N.2.2.2 QQ (F0 m pc ls (trv a (.ref x) :: st.map (trv a)))
  rw [hy]
  exact W.objInit hF.1 hF.2.1 hF.2.2.2.1 (hts _ hw) (hts _ hi) (hts _ hc) rfl (by rw [hF.2.2.1]; exact hl.1.1) rfl hd (by omega) (by show 2 * 0 + _ + 12 ≤ _; rw [v_sum]; omega) (k p e R s m args below meth c a cls D H locs ls QQ hF hG hR hl hr)
theorem v_newI {n : Nat} {x : Int} (hd : decode M.2.2.1 pc = .ok (.newarray .int, 2)) (hw : Cond.arrayClass .int ∈ vWords) (hx : x = n) (hn : n ≤ 100000) (hN : N.2.2.1 + 1 ≤ N.1 ∧ N.2.2.2 + n ≤ N.2.1) (k : V g M d (N.1, N.2.1, N.2.2.1 + 1, N.2.2.2 + n) Q (pc + 2) lv (.ref (w.length + 1) :: st) (w ++ [.inl (0, n, .inl (fun _ => 0))])) : V g M d N Q pc lv (vi x :: st) w := by
  intro p e R s m args below meth c a cls D H locs ls QQ hF hG hR hl hr
  subst hx
  have h1 : vr (n : Int) := ⟨by omega, by omega⟩
  have hRc := hF.2.2.2.2.2.2.2.2.1
  have hRs := hF.2.2.2.2.2.2.2.2.2
  refine va_newaK (atype := .int) hF.1 hF.2.1 (hF.2.2.2.2.1 _ hw) rfl hd rfl (by rw [Int32.lt_iff_toInt_lt, vI h1]; show ¬ (n : Int) < 0; omega) (N := n) (by rw [vI_clamp h1]; omega) ?_ (by rw [hRc]; exact hN.1) (by rw [hRs]; exact hN.2) hR.1.1 fun H1 cA e1 z1 o1 hAr hNm => ?_
  · show n * _ ≤ 536870912
    have : componentBytes (newarray.typeOf .int) ≤ 8 := by decide
    calc n * componentBytes (newarray.typeOf .int) ≤ 100000 * 8 := Nat.mul_le_mul hn this
      _ ≤ 536870912 := by decide
  · have hcA : cA = cls 0 := Option.some.inj (hNm.symm.trans (hG.1.2 0 _ rfl).2)
    rw [← hR.1.1] at z1 o1
    refine k p e R s m args below meth c a cls D H1 locs ls QQ hF hG ⟨hR.1.push z1 o1 ?_, hR.2.1, va_S_push hR.2.2 z1 o1⟩ hl hr
    show H1[a.1 + w.length]? = some (vp_cell (cls 0) (n, .inl (fun _ => 0)))
    rw [e1, hcA]
    rfl
theorem v_newJ {n : Nat} {x : Int} (hd : decode M.2.2.1 pc = .ok (.newarray .long, 2)) (hw : Cond.arrayClass .long ∈ vWords) (hx : x = n) (hn : n ≤ 100000) (hN : N.2.2.1 + 1 ≤ N.1 ∧ N.2.2.2 + n ≤ N.2.1) (k : V g M d (N.1, N.2.1, N.2.2.1 + 1, N.2.2.2 + n) Q (pc + 2) lv (.ref (w.length + 1) :: st) (w ++ [.inl (1, n, .inr (.inl (fun _ => 0)))])) : V g M d N Q pc lv (vi x :: st) w := by
  intro p e R s m args below meth c a cls D H locs ls QQ hF hG hR hl hr
  subst hx
  have h1 : vr (n : Int) := ⟨by omega, by omega⟩
  have hRc := hF.2.2.2.2.2.2.2.2.1
  have hRs := hF.2.2.2.2.2.2.2.2.2
  refine va_newaK (atype := .long) hF.1 hF.2.1 (hF.2.2.2.2.1 _ hw) rfl hd rfl (by rw [Int32.lt_iff_toInt_lt, vI h1]; show ¬ (n : Int) < 0; omega) (N := n) (by rw [vI_clamp h1]; omega) ?_ (by rw [hRc]; exact hN.1) (by rw [hRs]; exact hN.2) hR.1.1 fun H1 cA e1 z1 o1 hAr hNm => ?_
  · show n * _ ≤ 536870912
    have : componentBytes (newarray.typeOf .long) ≤ 8 := by decide
    calc n * componentBytes (newarray.typeOf .long) ≤ 100000 * 8 := Nat.mul_le_mul hn this
      _ ≤ 536870912 := by decide
  · have hcA : cA = cls 1 := Option.some.inj (hNm.symm.trans (hG.1.2 1 _ rfl).2)
    rw [← hR.1.1] at z1 o1
    refine k p e R s m args below meth c a cls D H1 locs ls QQ hF hG ⟨hR.1.push z1 o1 ?_, hR.2.1, va_S_push hR.2.2 z1 o1⟩ hl hr
    show H1[a.1 + w.length]? = some (vp_cell (cls 1) (n, .inr (.inl (fun _ => 0))))
    rw [e1, hcA]
    rfl
theorem v_newZ {n : Nat} {x : Int} (hd : decode M.2.2.1 pc = .ok (.newarray .boolean, 2)) (hw : Cond.arrayClass .boolean ∈ vWords) (hx : x = n) (hn : n ≤ 100000) (hN : N.2.2.1 + 1 ≤ N.1 ∧ N.2.2.2 + n ≤ N.2.1) (k : V g M d (N.1, N.2.1, N.2.2.1 + 1, N.2.2.2 + n) Q (pc + 2) lv (.ref (w.length + 1) :: st) (w ++ [.inl (2, n, .inl (fun _ => 0))])) : V g M d N Q pc lv (vi x :: st) w := by
  intro p e R s m args below meth c a cls D H locs ls QQ hF hG hR hl hr
  subst hx
  have h1 : vr (n : Int) := ⟨by omega, by omega⟩
  have hRc := hF.2.2.2.2.2.2.2.2.1
  have hRs := hF.2.2.2.2.2.2.2.2.2
  refine va_newaK (atype := .boolean) hF.1 hF.2.1 (hF.2.2.2.2.1 _ hw) rfl hd rfl (by rw [Int32.lt_iff_toInt_lt, vI h1]; show ¬ (n : Int) < 0; omega) (N := n) (by rw [vI_clamp h1]; omega) ?_ (by rw [hRc]; exact hN.1) (by rw [hRs]; exact hN.2) hR.1.1 fun H1 cA e1 z1 o1 hAr hNm => ?_
  · show n * _ ≤ 536870912
    have : componentBytes (newarray.typeOf .boolean) ≤ 8 := by decide
    calc n * componentBytes (newarray.typeOf .boolean) ≤ 100000 * 8 := Nat.mul_le_mul hn this
      _ ≤ 536870912 := by decide
  · have hcA : cA = cls 2 := Option.some.inj (hNm.symm.trans (hG.1.2 2 _ rfl).2)
    rw [← hR.1.1] at z1 o1
    refine k p e R s m args below meth c a cls D H1 locs ls QQ hF hG ⟨hR.1.push z1 o1 ?_, hR.2.1, va_S_push hR.2.2 z1 o1⟩ hl hr
    show H1[a.1 + w.length]? = some (vp_cell (cls 2) (n, .inl (fun _ => 0)))
    rw [e1, hcA]
    rfl
theorem v_new {ci idx n : Nat} {C : String} {T : u_T} {fs : List Value} (hd : decode M.2.2.1 pc = .ok (.new idx, 3)) (hc : vwCl[ci]? = some (C, T, n)) (hcl : Cond.classLink M.1 idx C ∈ vWords) (hins : Cond.instantiable C n ∈ vWords) (hini : Cond.initialized C ∈ vWords) (ty : Nat → FieldType) (hty : ∀ k, k < n → parseFieldDescriptor (T k).2.2.1 = some (ty k)) (hfs : ∀ a j, j < n → defaultValue (ty j) = vp_V (fs.map (trv a)) j) (hN : N.2.2.1 + 1 ≤ N.1 ∧ N.2.2.2 + n ≤ N.2.1) (k : V g M d (N.1, N.2.1, N.2.2.1 + 1, N.2.2.2 + n) Q (pc + 3) lv (.ref (w.length + 1) :: st) (w ++ [.inr (ci, fs)])) : V g M d N Q pc lv st w := by
  intro p e R s m args below meth c a cls D H locs ls QQ hF hG hR hl hr
  have hts := hF.2.2.2.2.1
  have hRc := hF.2.2.2.2.2.2.2.2.1
  have hRs := hF.2.2.2.2.2.2.2.2.2
  have hKn := hG.1.1 ci _ hc
  refine W.newcK hF.1 hF.2.1 hF.2.2.2.1 (hts _ hcl) (hts _ hins) (hts _ hini) rfl hd (by rw [hRc]; exact hN.1) (by rw [hRs]; exact hN.2) hKn.2.1 hR.1.1 fun H1 kC hkC e1 z1 o1 => ?_
  rw [← hR.1.1] at z1 o1
  refine k p e R s m args below meth c a cls D H1 locs ls QQ hF hG ⟨hR.1.push z1 o1 ?_, hR.2.1, va_S_push hR.2.2 z1 o1⟩ hl hr
  exact ⟨_, hc, (u_born ty hts (vtab hc).1 hKn hkC e1 hty).to (hfs a)⟩
theorem v_callV {M' : vMt} {d' mc ms n p0 idx : Nat} {As : List Value} {ci m0 : Nat} {fs : List Value} {T : u_T} (hd : decode M.2.2.1 pc = .ok (.invokevirtual idx, 3)) (hc : vCal M' n) (hlk : Cond.methodLink M.1 idx M'.2.1 ∈ vWords) (hi : Cond.instanceMethod M'.2.1 ∈ vWords) (hse : Cond.selects M'.2.1.cls M'.2.1 M'.2.1 ∈ vWords) (hw : w[p0]? = some (.inr (ci, fs))) (hcl : vwCl[ci]? = some (M'.2.1.cls, T, m0)) (hn : vSl (.ref (p0 + 1) :: As) ≤ M'.2.2.2.1) (hAs : As.length = n) (h8 : vSl st ≤ 8) (hdd : d' + 1 ≤ d) (hN : N.2.2.1 + mc ≤ N.1 ∧ N.2.2.2 + ms ≤ N.2.1) (k : V g M' d' (mc, ms, 0, 0) (fun r w' => V g M d (N.1, N.2.1, N.2.2.1 + mc, N.2.2.2 + ms) Q (pc + 3) lv (r.toList ++ st) w') 0 (vargs 0 (.ref (p0 + 1) :: As)) [] w) : V g M d N Q pc lv (As.reverse ++ .ref (p0 + 1) :: st) w := by
  intro p e R s m args below meth c a cls D H locs ls QQ hF hG hR hl hr
  have hM := v_met a cls D hc hn k
  have hts := hF.2.2.2.2.1
  have hf := hF.2.2.2.2.2.2.1
  have hlo := hF.2.2.2.2.2.2.2.1
  have hRc := hF.2.2.2.2.2.2.2.2.1
  have hRs := hF.2.2.2.2.2.2.2.2.2
  obtain ⟨c1, c2, c3, c4, ⟨c5, c6, c7⟩, c8⟩ := id hc
  have hws : ∀ x ∈ vWs M', ∀ (a' : Array Value) (U : State), s.WarmedH U.vm → x.before a' U = true := by
    intro x hx a' U hW
    have hx2 : x ∈ vWords := (List.mem_cons.mp hx).elim (fun h => by rw [h]; exact c3) id
    exact word_at hW (good_of_word (vGood hx2)) (hts x hx2)
  have hlen : ∀ sig, parseMethodDescriptor M'.2.1.desc = some sig → n = sig.parameters.length := fun sig h => by
    rw [h] at c7
    exact (Option.some.inj c7).symm
  have hcb : CallB R s args M.1 idx M'.2.1 M'.2.2.1 M'.2.2.2.1 M'.2.2.2.2 (vWs M') (vRm d' mc ms) mc ms n := ⟨rfl, rfl, (by show d' + 1 ≤ _; omega), (by show 8 + (_ + 11) + 100 * d' ≤ _; omega), hws, List.mem_cons_self, hts _ c3, hts _ c4, ⟨c5, c6⟩, hlen, hts _ hlk⟩
  exact v_back hF hG hR hl hr (va_runV (As := As.map (trv a)) (rest := st.map (trv a)) (b := a.1 + p0) (g := F0 m pc ls ((As.reverse ++ .ref (p0 + 1) :: st).map (trv a))) ⟨hF.1, hF.2.1, hF.2.2.1, hF.2.2.2.1, hts⟩ hM ⟨hcb, hts _ hi, hts _ hse⟩ ⟨fun x U f mk h => ⟨h.1, h.2.1.blind f mk x, h.2.2⟩, va_recv (q := (M'.2.1.cls, T, m0)) hG.1 (hR.1.one hw) hcl (q0 := 0) rfl, fun U hU hW => ⟨rfl, by rw [hU]; exact hG.go hR.2.2 hW, by rw [hU]; exact hR.1⟩⟩ rfl (by rw [List.length_map]; exact hAs) hl.1.1 (by show (As.reverse ++ .ref (p0 + 1) :: st).map (trv a) = _; simp [trv]) (lv_room (by rw [v_sum]; exact h8)) hd ⟨by rw [hRc]; exact hN.1, by rw [hRs]; exact hN.2⟩)
theorem v_callS {M' : vMt} {d' mc ms n p0 idx : Nat} {As : List Value}  (hd : decode M.2.2.1 pc = .ok (.invokestatic idx, 3)) (hc : vCal M' n) (hlk : Cond.methodLink M.1 idx M'.2.1 ∈ vWords) (hs : Cond.static M'.2.1 ∈ vWords) (hn : vSl As ≤ M'.2.2.2.1) (hAs : As.length = n) (h8 : vSl st ≤ 8) (hdd : d' + 1 ≤ d) (hN : N.2.2.1 + mc ≤ N.1 ∧ N.2.2.2 + ms ≤ N.2.1) (k : V g M' d' (mc, ms, 0, 0) (fun r w' => V g M d (N.1, N.2.1, N.2.2.1 + mc, N.2.2.2 + ms) Q (pc + 3) lv (r.toList ++ st) w') 0 (vargs 0 As) [] w) : V g M d N Q pc lv (As.reverse ++ st) w := by
  intro p e R s m args below meth c a cls D H locs ls QQ hF hG hR hl hr
  have hM := v_met a cls D hc hn k
  have hts := hF.2.2.2.2.1
  have hf := hF.2.2.2.2.2.2.1
  have hlo := hF.2.2.2.2.2.2.2.1
  have hRc := hF.2.2.2.2.2.2.2.2.1
  have hRs := hF.2.2.2.2.2.2.2.2.2
  obtain ⟨c1, c2, c3, c4, ⟨c5, c6, c7⟩, c8⟩ := id hc
  have hws : ∀ x ∈ vWs M', ∀ (a' : Array Value) (U : State), s.WarmedH U.vm → x.before a' U = true := by
    intro x hx a' U hW
    have hx2 : x ∈ vWords := (List.mem_cons.mp hx).elim (fun h => by rw [h]; exact c3) id
    exact word_at hW (good_of_word (vGood hx2)) (hts x hx2)
  have hlen : ∀ sig, parseMethodDescriptor M'.2.1.desc = some sig → n = sig.parameters.length := fun sig h => by
    rw [h] at c7
    exact (Option.some.inj c7).symm
  have hcb : CallB R s args M.1 idx M'.2.1 M'.2.2.1 M'.2.2.2.1 M'.2.2.2.2 (vWs M') (vRm d' mc ms) mc ms n := ⟨rfl, rfl, (by show d' + 1 ≤ _; omega), (by show 8 + (_ + 11) + 100 * d' ≤ _; omega), hws, List.mem_cons_self, hts _ c3, hts _ c4, ⟨c5, c6⟩, hlen, hts _ hlk⟩
  exact v_back hF hG hR hl hr (va_runS (As := As.map (trv a)) (rest := st.map (trv a)) (g := F0 m pc ls ((As.reverse ++ st).map (trv a))) ⟨hF.1, hF.2.1, hF.2.2.1, hF.2.2.2.1, hts⟩ hM ⟨hcb, hts _ hs⟩ ⟨fun x U f mk h => ⟨h.1, h.2.1.blind f mk x, h.2.2⟩, fun U hU hW => ⟨rfl, by rw [hU]; exact hG.go hR.2.2 hW, by rw [hU]; exact hR.1⟩⟩ rfl (by rw [List.length_map]; exact hAs) hl.1.1 (by show (As.reverse ++ st).map (trv a) = _; simp [trv]) (lv_room (by rw [v_sum]; exact h8)) hd ⟨by rw [hRc]; exact hN.1, by rw [hRs]; exact hN.2⟩)
theorem v_callSN {M' : vMt} {d' mc ms n p0 idx : Nat} {As : List Value}  (hd : decode M.2.2.1 pc = .ok (.invokestatic idx, 3)) (hc : vCal M' n) (hlk : vNest M.1 idx M'.2.1) (hs : Cond.static M'.2.1 ∈ vWords) (hn : vSl As ≤ M'.2.2.2.1) (hAs : As.length = n) (h8 : vSl st ≤ 8) (hdd : d' + 1 ≤ d) (hN : N.2.2.1 + mc ≤ N.1 ∧ N.2.2.2 + ms ≤ N.2.1) (k : V g M' d' (mc, ms, 0, 0) (fun r w' => V g M d (N.1, N.2.1, N.2.2.1 + mc, N.2.2.2 + ms) Q (pc + 3) lv (r.toList ++ st) w') 0 (vargs 0 As) [] w) : V g M d N Q pc lv (As.reverse ++ st) w := by
  intro p e R s m args below meth c a cls D H locs ls QQ hF hG hR hl hr
  have hM := v_met a cls D hc hn k
  have hts := hF.2.2.2.2.1
  have hf := hF.2.2.2.2.2.2.1
  have hlo := hF.2.2.2.2.2.2.2.1
  have hRc := hF.2.2.2.2.2.2.2.2.1
  have hRs := hF.2.2.2.2.2.2.2.2.2
  obtain ⟨c1, c2, c3, c4, ⟨c5, c6, c7⟩, c8⟩ := id hc
  have hws : ∀ x ∈ vWs M', ∀ (a' : Array Value) (U : State), s.WarmedH U.vm → x.before a' U = true := by
    intro x hx a' U hW
    have hx2 : x ∈ vWords := (List.mem_cons.mp hx).elim (fun h => by rw [h]; exact c3) id
    exact word_at hW (good_of_word (vGood hx2)) (hts x hx2)
  have hlen : ∀ sig, parseMethodDescriptor M'.2.1.desc = some sig → n = sig.parameters.length := fun sig h => by
    rw [h] at c7
    exact (Option.some.inj c7).symm
  have hcb : va_CN R s args M.1 idx M'.2.1 RX8 M'.2.2.1 M'.2.2.2.1 M'.2.2.2.2 (vWs M') (vRm d' mc ms) mc ms n := ⟨⟨rfl, rfl, (by show d' + 1 ≤ _; omega), (by show 8 + (_ + 11) + 100 * d' ≤ _; omega), hws, List.mem_cons_self⟩, hts _ c3, hts _ c4, ⟨c5, c6⟩, hlen, va_Nw.use rfl (hG.2.1 _ _ _ hlk)⟩
  exact v_back hF hG hR hl hr (va_runSN (As := As.map (trv a)) (rest := st.map (trv a)) (g := F0 m pc ls ((As.reverse ++ st).map (trv a))) ⟨hF.1, hF.2.1, hF.2.2.1, hF.2.2.2.1, hts⟩ hM ⟨hcb, hts _ hs, trivial⟩ ⟨fun x U f mk h => ⟨h.1, h.2.1.blind f mk x, h.2.2⟩, fun U hU hW => ⟨rfl, by rw [hU]; exact hG.go hR.2.2 hW, by rw [hU]; exact hR.1⟩⟩ rfl (by rw [List.length_map]; exact hAs) hl.1.1 (by show (As.reverse ++ st).map (trv a) = _; simp [trv]) (lv_room (by rw [v_sum]; exact h8)) hd ⟨by rw [hRc]; exact hN.1, by rw [hRs]; exact hN.2⟩)
theorem v_callI {M' : vMt} {d' mc ms n p0 idx : Nat} {As : List Value}  (hd : decode M.2.2.1 pc = .ok (.invokespecial idx, 3)) (hc : vCal M' n) (hlk : Cond.methodLink M.1 idx M'.2.1 ∈ vWords) (hret : M'.2.2.2.2 = none) (hnm : M'.2.1.name = "<init>") (hi : Cond.instanceMethod M'.2.1 ∈ vWords) (hn : vSl (.ref (p0 + 1) :: As) ≤ M'.2.2.2.1) (hAs : As.length = n) (h8 : vSl st ≤ 8) (hdd : d' + 1 ≤ d) (hN : N.2.2.1 + mc ≤ N.1 ∧ N.2.2.2 + ms ≤ N.2.1) (k : V g M' d' (mc, ms, 0, 0) (fun r w' => V g M d (N.1, N.2.1, N.2.2.1 + mc, N.2.2.2 + ms) Q (pc + 3) lv (r.toList ++ st) w') 0 (vargs 0 (.ref (p0 + 1) :: As)) [] w) : V g M d N Q pc lv (As.reverse ++ .ref (p0 + 1) :: st) w := by
  intro p e R s m args below meth c a cls D H locs ls QQ hF hG hR hl hr
  have hM := v_met a cls D hc hn k
  have hts := hF.2.2.2.2.1
  have hf := hF.2.2.2.2.2.2.1
  have hlo := hF.2.2.2.2.2.2.2.1
  have hRc := hF.2.2.2.2.2.2.2.2.1
  have hRs := hF.2.2.2.2.2.2.2.2.2
  obtain ⟨c1, c2, c3, c4, ⟨c5, c6, c7⟩, c8⟩ := id hc
  have hws : ∀ x ∈ vWs M', ∀ (a' : Array Value) (U : State), s.WarmedH U.vm → x.before a' U = true := by
    intro x hx a' U hW
    have hx2 : x ∈ vWords := (List.mem_cons.mp hx).elim (fun h => by rw [h]; exact c3) id
    exact word_at hW (good_of_word (vGood hx2)) (hts x hx2)
  have hlen : ∀ sig, parseMethodDescriptor M'.2.1.desc = some sig → n = sig.parameters.length := fun sig h => by
    rw [h] at c7
    exact (Option.some.inj c7).symm
  have hcb : CallB R s args M.1 idx M'.2.1 M'.2.2.1 M'.2.2.2.1 M'.2.2.2.2 (vWs M') (vRm d' mc ms) mc ms n := ⟨rfl, rfl, (by show d' + 1 ≤ _; omega), (by show 8 + (_ + 11) + 100 * d' ≤ _; omega), hws, List.mem_cons_self, hts _ c3, hts _ c4, ⟨c5, c6⟩, hlen, hts _ hlk⟩
  rw [hret] at hcb
  exact v_back hF hG hR hl hr (va_runI (As := As.map (trv a)) (rest := st.map (trv a)) (b := a.1 + p0) (g := F0 m pc ls ((As.reverse ++ .ref (p0 + 1) :: st).map (trv a))) ⟨hF.1, hF.2.1, hF.2.2.1, hF.2.2.2.1, hts⟩ hM ⟨hcb, hnm, hts _ hi⟩ ⟨fun x U f mk h => ⟨h.1, h.2.1.blind f mk x, h.2.2⟩, fun U hU hW => ⟨rfl, by rw [hU]; exact hG.go hR.2.2 hW, by rw [hU]; exact hR.1⟩⟩ rfl (by rw [List.length_map]; exact hAs) hl.1.1 (by show (As.reverse ++ .ref (p0 + 1) :: st).map (trv a) = _; simp [trv]) (lv_room (by rw [v_sum]; exact h8)) hd ⟨by rw [hRc]; exact hN.1, by rw [hRs]; exact hN.2⟩)
theorem v_callIN {M' : vMt} {d' mc ms n p0 idx : Nat} {As : List Value}  (hd : decode M.2.2.1 pc = .ok (.invokespecial idx, 3)) (hc : vCal M' n) (hlk : vNest M.1 idx M'.2.1) (hret : M'.2.2.2.2 = none) (hnm : M'.2.1.name = "<init>") (hi : Cond.instanceMethod M'.2.1 ∈ vWords) (hn : vSl (.ref (p0 + 1) :: As) ≤ M'.2.2.2.1) (hAs : As.length = n) (h8 : vSl st ≤ 8) (hdd : d' + 1 ≤ d) (hN : N.2.2.1 + mc ≤ N.1 ∧ N.2.2.2 + ms ≤ N.2.1) (k : V g M' d' (mc, ms, 0, 0) (fun r w' => V g M d (N.1, N.2.1, N.2.2.1 + mc, N.2.2.2 + ms) Q (pc + 3) lv (r.toList ++ st) w') 0 (vargs 0 (.ref (p0 + 1) :: As)) [] w) : V g M d N Q pc lv (As.reverse ++ .ref (p0 + 1) :: st) w := by
  intro p e R s m args below meth c a cls D H locs ls QQ hF hG hR hl hr
  have hM := v_met a cls D hc hn k
  have hts := hF.2.2.2.2.1
  have hf := hF.2.2.2.2.2.2.1
  have hlo := hF.2.2.2.2.2.2.2.1
  have hRc := hF.2.2.2.2.2.2.2.2.1
  have hRs := hF.2.2.2.2.2.2.2.2.2
  obtain ⟨c1, c2, c3, c4, ⟨c5, c6, c7⟩, c8⟩ := id hc
  have hws : ∀ x ∈ vWs M', ∀ (a' : Array Value) (U : State), s.WarmedH U.vm → x.before a' U = true := by
    intro x hx a' U hW
    have hx2 : x ∈ vWords := (List.mem_cons.mp hx).elim (fun h => by rw [h]; exact c3) id
    exact word_at hW (good_of_word (vGood hx2)) (hts x hx2)
  have hlen : ∀ sig, parseMethodDescriptor M'.2.1.desc = some sig → n = sig.parameters.length := fun sig h => by
    rw [h] at c7
    exact (Option.some.inj c7).symm
  have hcb : va_CN R s args M.1 idx M'.2.1 RX8 M'.2.2.1 M'.2.2.2.1 M'.2.2.2.2 (vWs M') (vRm d' mc ms) mc ms n := ⟨⟨rfl, rfl, (by show d' + 1 ≤ _; omega), (by show 8 + (_ + 11) + 100 * d' ≤ _; omega), hws, List.mem_cons_self⟩, hts _ c3, hts _ c4, ⟨c5, c6⟩, hlen, va_Nw.use rfl (hG.2.1 _ _ _ hlk)⟩
  rw [hret] at hcb
  exact v_back hF hG hR hl hr (va_runIN (As := As.map (trv a)) (rest := st.map (trv a)) (b := a.1 + p0) (g := F0 m pc ls ((As.reverse ++ .ref (p0 + 1) :: st).map (trv a))) ⟨hF.1, hF.2.1, hF.2.2.1, hF.2.2.2.1, hts⟩ hM ⟨hcb, hnm, hts _ hi⟩ ⟨fun x U f mk h => ⟨h.1, h.2.1.blind f mk x, h.2.2⟩, fun U hU hW => ⟨rfl, by rw [hU]; exact hG.go hR.2.2 hW, by rw [hU]; exact hR.1⟩⟩ rfl (by rw [List.length_map]; exact hAs) hl.1.1 (by show (As.reverse ++ .ref (p0 + 1) :: st).map (trv a) = _; simp [trv]) (lv_room (by rw [v_sum]; exact h8)) hd ⟨by rw [hRc]; exact hN.1, by rw [hRs]; exact hN.2⟩)
end HEAP
end
section
/-! the shape of the cells of the two objects (kind 0, 1, 2: rows of int, long, boolean; 3: an object, its class, its fields: 0 int, 1 long, 2 boolean, 3 a reference) -/
def vSh : List (Nat × Nat × List (Nat × Nat)) := [(3, 8, [(3, 2), (3, 3), (3, 10), (3, 17), (3, 20), (3, 25), (3, 28), (3, 29), (3, 30), (2, 0), (3, 31)]),
  (0, 3, []),
  (3, 1, [(3, 4), (3, 5), (3, 6), (3, 7), (3, 8), (3, 9), (0, 0)]),
  (0, 6, []),
  (0, 6, []),
  (0, 6, []),
  (0, 6, []),
  (0, 6, []),
  (0, 6, []),
  (3, 4, [(3, 3), (3, 2), (3, 11), (3, 12), (3, 13), (3, 14), (0, 0)]),
  (0, 4, []),
  (0, 4, []),
  (0, 4, []),
  (0, 4, []),
  (3, 3, [(3, 16), (0, 0), (0, 0)]),
  (0, 1492, []),
  (3, 6, [(3, 10), (3, 15), (3, 18), (3, 19), (0, 0), (0, 0), (0, 0)]),
  (0, 84, []),
  (0, 84, []),
  (3, 0, [(3, 10), (3, 3), (3, 15), (3, 21), (3, 22), (3, 23), (3, 24), (0, 0), (0, 0), (0, 0), (0, 0), (0, 0), (0, 0), (0, 0)]),
  (0, 343, []),
  (0, 343, []),
  (0, 343, []),
  (0, 343, []),
  (3, 5, [(3, 26), (3, 27)]),
  (0, 10, []),
  (0, 3, []),
  (3, 2, [(3, 10), (3, 25), (0, 0), (0, 0), (0, 0), (0, 0), (0, 0), (0, 0), (0, 0), (0, 0), (0, 0), (0, 0), (0, 0), (0, 0)]),
  (3, 2, [(3, 10), (3, 25), (0, 0), (0, 0), (0, 0), (0, 0), (0, 0), (0, 0), (0, 0), (0, 0), (0, 0), (0, 0), (0, 0), (0, 0)]),
  (3, 2, [(3, 10), (3, 25), (0, 0), (0, 0), (0, 0), (0, 0), (0, 0), (0, 0), (0, 0), (0, 0), (0, 0), (0, 0), (0, 0), (0, 0)]),
  (3, 7, [(3, 32), (3, 33), (3, 34), (3, 35), (3, 36), (3, 37), (0, 0), (0, 0), (0, 0)]),
  (0, 30, []),
  (0, 10, []),
  (0, 10, []),
  (0, 10, []),
  (0, 36, []),
  (0, 36, []),
  (3, 9, [(3, 39), (3, 40), (3, 41), (3, 42), (3, 43), (3, 44), (3, 45), (3, 46), (3, 47), (3, 48), (3, 49), (3, 50), (0, 0), (0, 0), (0, 0), (0, 0), (0, 0), (3, 51), (3, 52), (3, 53), (0, 0), (3, 54), (3, 55), (3, 56), (3, 57), (3, 58), (3, 59), (0, 0), (3, 60), (0, 0), (0, 0), (0, 0), (0, 0), (0, 0), (0, 0), (0, 0), (1, 0), (1, 0), (3, 61), (2, 0), (3, 62), (3, 63), (3, 64), (3, 65), (3, 66), (0, 0), (0, 0)]),
  (0, 6, []),
  (0, 6, []),
  (0, 6, []),
  (0, 6, []),
  (0, 6, []),
  (0, 6, []),
  (0, 4, []),
  (0, 4, []),
  (0, 4, []),
  (0, 4, []),
  (0, 10, []),
  (0, 3, []),
  (0, 4, []),
  (0, 4, []),
  (0, 4, []),
  (0, 3, []),
  (0, 3, []),
  (1, 4, []),
  (1, 4, []),
  (1, 4, []),
  (2, 4, []),
  (0, 4, []),
  (0, 7, []),
  (0, 6, []),
  (0, 30, []),
  (0, 10, []),
  (0, 10, []),
  (0, 36, [])]
abbrev vSt : Type := Nat → Nat → Int
def vfld (σ : vSt) (p k : Nat) (f : Nat × Nat) : Value := match f.1 with
  | 0 => vi (σ p k)
  | 1 => vj (σ p k)
  | 2 => vi (σ p k)
  | _ => .ref f.2
def vflds (σ : vSt) (p : Nat) : Nat → List (Nat × Nat) → List Value
  | _, [] => []
  | k, f :: l => vfld σ p k f :: vflds σ p (k + 1) l
def vcell (σ : vSt) (p : Nat) (s : Nat × Nat × List (Nat × Nat)) : mC := match s.1 with
  | 0 => .inl (0, s.2.1, .inl (fun j => Int32.ofInt (σ p j)))
  | 1 => .inl (1, s.2.1, .inr (.inl (fun j => Int64.ofInt (σ p j))))
  | 2 => .inl (2, s.2.1, .inl (fun j => Int32.ofInt (σ p j)))
  | _ => .inr (s.2.1, vflds σ p 0 s.2.2)
def vcells (σ : vSt) : Nat → List (Nat × Nat × List (Nat × Nat)) → List mC
  | _, [] => []
  | p, s :: l => vcell σ p s :: vcells σ (p + 1) l
def hp (σ : vSt) : List mC := vcells σ 1 vSh
def vU (σ : vSt) (p k : Nat) (z : Int) : vSt := fun q j => if q = p then (if j = k then z else σ q j) else σ q j
theorem vU_same (σ : vSt) (p k : Nat) (z : Int) : vU σ p k z p k = z := by simp [vU]
theorem vU_ne {σ : vSt} {p k : Nat} {z : Int} {q : Nat} (h : q ≠ p) (j : Nat) : vU σ p k z q j = σ q j := by simp [vU, h]
theorem vU_ne' {σ : vSt} {p k : Nat} {z : Int} {q : Nat} (h : q ≠ p) : vU σ p k z q = σ q := by funext j; simp [vU, h]
theorem vU_nk {σ : vSt} {p k : Nat} {z : Int} {q j : Nat} (h : j ≠ k) : vU σ p k z q j = σ q j := by simp [vU, h]
theorem vflds_get (σ : vSt) (p : Nat) : ∀ (l : List (Nat × Nat)) (k j : Nat), (vflds σ p k l)[j]? = (l[j]?).map (vfld σ p (k + j)) := by
  intro l
  induction l with
  | nil => intro k j; rfl
  | cons f l ih =>
    intro k j
    cases j with
    | zero => rfl
    | succ j =>
      show (vflds σ p (k + 1) l)[j]? = (l[j]?).map (vfld σ p (k + (j + 1)))
      rw [ih, show k + 1 + j = k + (j + 1) by omega]
theorem vflds_len (σ : vSt) (p : Nat) : ∀ (l : List (Nat × Nat)) (k : Nat), (vflds σ p k l).length = l.length := by
  intro l
  induction l with
  | nil => intro k; rfl
  | cons f l ih => intro k; show (vflds σ p (k + 1) l).length + 1 = l.length + 1; rw [ih]
theorem vcells_get (σ : vSt) : ∀ (l : List (Nat × Nat × List (Nat × Nat))) (p k : Nat), (vcells σ p l)[k]? = (l[k]?).map (vcell σ (p + k)) := by
  intro l
  induction l with
  | nil => intro k j; rfl
  | cons f l ih =>
    intro k j
    cases j with
    | zero => rfl
    | succ j =>
      show (vcells σ (k + 1) l)[j]? = (l[j]?).map (vcell σ (k + (j + 1)))
      rw [ih, show k + 1 + j = k + (j + 1) by omega]
theorem vcells_len (σ : vSt) : ∀ (l : List (Nat × Nat × List (Nat × Nat))) (p : Nat), (vcells σ p l).length = l.length := by
  intro l
  induction l with
  | nil => intro k; rfl
  | cons f l ih => intro k; show (vcells σ (k + 1) l).length + 1 = l.length + 1; rw [ih]
theorem vfld_cong {σ τ : vSt} {p : Nat} (k : Nat) (h : σ p k = τ p k) (f : Nat × Nat) : vfld σ p k f = vfld τ p k f := by
  unfold vfld
  rw [h]
theorem vcell_cong {σ τ : vSt} {p : Nat} (h : ∀ j, σ p j = τ p j) (s : Nat × Nat × List (Nat × Nat)) : vcell σ p s = vcell τ p s := by
  have e : vflds σ p 0 s.2.2 = vflds τ p 0 s.2.2 := by
    apply List.ext_getElem?
    intro j
    rw [vflds_get, vflds_get]
    cases s.2.2[j]? with
    | none => rfl
    | some f => exact congrArg some (vfld_cong _ (h _) f)
  unfold vcell
  rw [e]
  simp only [h]
/-- one cell changes -/
theorem hp_set {σ τ : vSt} {q : Nat} {s : Nat × Nat × List (Nat × Nat)} (hs : vSh[q]? = some s) (h : ∀ p j, p ≠ q + 1 → τ p j = σ p j) : (hp σ).set q (vcell τ (q + 1) s) = hp τ := by
  have hq := (List.getElem?_eq_some_iff.mp hs).1
  apply List.ext_getElem?
  intro k
  by_cases hk : k = q
  · subst hk
    rw [List.getElem?_set_self (by rw [hp, vcells_len]; exact hq), hp, vcells_get, hs, Nat.add_comm]
    rfl
  · rw [List.getElem?_set_ne (fun e => hk e.symm), hp, hp, vcells_get, vcells_get]
    cases vSh[k]? with
    | none => rfl
    | some f => exact congrArg some (vcell_cong (fun j => (h (1 + k) j (by omega)).symm) f)
def vFT (p k : Nat) : Option (Nat × Nat × Nat) := match p with
  | 0 => none
  | q + 1 => match vSh[q]? with
    | some (3, ci, l) => (l[k]?).map (fun f => (ci, f))
    | _ => none
def vAT (p : Nat) : Option (Nat × Nat) := match p with
  | 0 => none
  | q + 1 => match vSh[q]? with
    | some (0, n, _) => some (0, n)
    | some (1, n, _) => some (1, n)
    | some (2, n, _) => some (2, n)
    | _ => none
theorem vFT_of {p k ci : Nat} {f : Nat × Nat} (h : vFT p k = some (ci, f)) : ∃ (q : Nat) (l : List (Nat × Nat)), p = q + 1 ∧ vSh[q]? = some (3, ci, l) ∧ l[k]? = some f := by
  unfold vFT at h
  split at h
  · cases h
  · split at h
    · rename_i q _ ci' l e
      cases hl : l[k]? with
      | none => rw [hl] at h; cases h
      | some x => rw [hl] at h; cases h; exact ⟨q, l, rfl, e, hl⟩
    · cases h
theorem vAT_of {p t n : Nat} (h : vAT p = some (t, n)) : ∃ (q : Nat) (l : List (Nat × Nat)), p = q + 1 ∧ vSh[q]? = some (t, n, l) ∧ t < 3 := by
  unfold vAT at h
  split at h
  · cases h
  · split at h
    · rename_i e; cases h; exact ⟨_, _, rfl, e, by omega⟩
    · rename_i e; cases h; exact ⟨_, _, rfl, e, by omega⟩
    · rename_i e; cases h; exact ⟨_, _, rfl, e, by omega⟩
    · cases h
theorem vSh_small : ∀ s ∈ vSh, s.2.1 ≤ 100000 := by decide +kernel
theorem hp_at (σ : vSt) {q : Nat} {s : Nat × Nat × List (Nat × Nat)} (h : vSh[q]? = some s) : (hp σ)[q]? = some (vcell σ (q + 1) s) := by
  rw [hp, vcells_get, h, Nat.add_comm]
  rfl
section STATE
variable {g : vGl} {M : vMt} {d : Nat} {N : Nat × Nat × Nat × Nat} {Q : Option Value → List mC → Prop} {pc : Nat} {lv : List (Nat × Value)} {st : List Value} {σ : vSt}
theorem v_gI {p ci k0 idx z : Nat} {ds : String} {fin : Bool} (hd : decode M.2.2.1 pc = .ok (.getfield idx, 3)) (hf : vFl M.1 idx ci k0 ds fin) (hs : vFT p k0 = some (ci, 0, z)) (k : V g M d N Q (pc + 3) lv (vi (σ p k0) :: st) (hp σ)) : V g M d N Q pc lv (.ref p :: st) (hp σ) := by
  obtain ⟨q, l, rfl, h1, h2⟩ := vFT_of hs
  exact v_getf hd hf (hp_at σ h1) (by rw [vflds_get, h2, Nat.zero_add]; rfl) k
theorem v_gJ {p ci k0 idx z : Nat} {ds : String} {fin : Bool} (hd : decode M.2.2.1 pc = .ok (.getfield idx, 3)) (hf : vFl M.1 idx ci k0 ds fin) (hs : vFT p k0 = some (ci, 1, z)) (k : V g M d N Q (pc + 3) lv (vj (σ p k0) :: st) (hp σ)) : V g M d N Q pc lv (.ref p :: st) (hp σ) := by
  obtain ⟨q, l, rfl, h1, h2⟩ := vFT_of hs
  exact v_getf hd hf (hp_at σ h1) (by rw [vflds_get, h2, Nat.zero_add]; rfl) k
theorem v_gZ {p ci k0 idx z : Nat} {ds : String} {fin : Bool} (hd : decode M.2.2.1 pc = .ok (.getfield idx, 3)) (hf : vFl M.1 idx ci k0 ds fin) (hs : vFT p k0 = some (ci, 2, z)) (k : V g M d N Q (pc + 3) lv (vi (σ p k0) :: st) (hp σ)) : V g M d N Q pc lv (.ref p :: st) (hp σ) := by
  obtain ⟨q, l, rfl, h1, h2⟩ := vFT_of hs
  exact v_getf hd hf (hp_at σ h1) (by rw [vflds_get, h2, Nat.zero_add]; rfl) k
theorem v_gR {p ci k0 idx z : Nat} {ds : String} {fin : Bool} (hd : decode M.2.2.1 pc = .ok (.getfield idx, 3)) (hf : vFl M.1 idx ci k0 ds fin) (hs : vFT p k0 = some (ci, 3, z)) (k : V g M d N Q (pc + 3) lv (.ref z :: st) (hp σ)) : V g M d N Q pc lv (.ref p :: st) (hp σ) := by
  obtain ⟨q, l, rfl, h1, h2⟩ := vFT_of hs
  exact v_getf hd hf (hp_at σ h1) (by rw [vflds_get, h2, Nat.zero_add]; rfl) k
theorem v_pI {p ci k0 idx z : Nat} {x : Int} (hd : decode M.2.2.1 pc = .ok (.putfield idx, 3)) (hf : vFl M.1 idx ci k0 "I" false) (hs : vFT p k0 = some (ci, 0, z)) (k : V g M d N Q (pc + 3) lv st (hp (vU σ p k0 x))) : V g M d N Q pc lv (vi x :: .ref p :: st) (hp σ) := by
  obtain ⟨q, l, rfl, h1, h2⟩ := vFT_of hs
  refine v_putf (ty := .int) hd hf (hp_at σ h1) (by decide +kernel) (fun _ => rfl) (fun _ => rfl) (by rw [vflds_len]; exact (List.getElem?_eq_some_iff.mp h2).1) ?_
  have e : (.inr (ci, (vflds σ (q + 1) 0 l).set k0 (vi x)) : mC) = vcell (vU σ (q + 1) k0 x) (q + 1) (3, ci, l) := by
    show _ = Sum.inr (ci, vflds (vU σ (q + 1) k0 x) (q + 1) 0 l)
    congr 2
    apply List.ext_getElem?
    intro j
    by_cases hj : j = k0
    · subst hj
      rw [List.getElem?_set_self (by rw [vflds_len]; exact (List.getElem?_eq_some_iff.mp h2).1), vflds_get, h2, Nat.zero_add]
      show _ = some (vi (vU σ (q + 1) j x (q + 1) j))
      rw [vU_same]
    · rw [List.getElem?_set_ne (fun e => hj e.symm), vflds_get, vflds_get, Nat.zero_add]
      cases l[j]? with
      | none => rfl
      | some f => exact congrArg some (vfld_cong _ (vU_nk hj).symm f)
  rw [e, hp_set h1 (fun p j hp => vU_ne hp j)]
  exact k
theorem v_pJ {p ci k0 idx z : Nat} {x : Int} (hd : decode M.2.2.1 pc = .ok (.putfield idx, 3)) (hf : vFl M.1 idx ci k0 "J" false) (hs : vFT p k0 = some (ci, 1, z)) (k : V g M d N Q (pc + 3) lv st (hp (vU σ p k0 x))) : V g M d N Q pc lv (vj x :: .ref p :: st) (hp σ) := by
  obtain ⟨q, l, rfl, h1, h2⟩ := vFT_of hs
  refine v_putf (ty := .long) hd hf (hp_at σ h1) (by decide +kernel) (fun _ => rfl) (fun _ => rfl) (by rw [vflds_len]; exact (List.getElem?_eq_some_iff.mp h2).1) ?_
  have e : (.inr (ci, (vflds σ (q + 1) 0 l).set k0 (vj x)) : mC) = vcell (vU σ (q + 1) k0 x) (q + 1) (3, ci, l) := by
    show _ = Sum.inr (ci, vflds (vU σ (q + 1) k0 x) (q + 1) 0 l)
    congr 2
    apply List.ext_getElem?
    intro j
    by_cases hj : j = k0
    · subst hj
      rw [List.getElem?_set_self (by rw [vflds_len]; exact (List.getElem?_eq_some_iff.mp h2).1), vflds_get, h2, Nat.zero_add]
      show _ = some (vj (vU σ (q + 1) j x (q + 1) j))
      rw [vU_same]
    · rw [List.getElem?_set_ne (fun e => hj e.symm), vflds_get, vflds_get, Nat.zero_add]
      cases l[j]? with
      | none => rfl
      | some f => exact congrArg some (vfld_cong _ (vU_nk hj).symm f)
  rw [e, hp_set h1 (fun p j hp => vU_ne hp j)]
  exact k
theorem v_pZ {p ci k0 idx z : Nat} {x : Int} (hd : decode M.2.2.1 pc = .ok (.putfield idx, 3)) (hf : vFl M.1 idx ci k0 "Z" false) (hs : vFT p k0 = some (ci, 2, z)) (hz : x = 0 ∨ x = 1) (k : V g M d N Q (pc + 3) lv st (hp (vU σ p k0 x))) : V g M d N Q pc lv (vi x :: .ref p :: st) (hp σ) := by
  obtain ⟨q, l, rfl, h1, h2⟩ := vFT_of hs
  refine v_putf (ty := .boolean) hd hf (hp_at σ h1) (by decide +kernel) (fun _ => vZ hz) (fun _ => by rcases hz with rfl | rfl <;> (show fits .boolean (.int _) = true; decide)) (by rw [vflds_len]; exact (List.getElem?_eq_some_iff.mp h2).1) ?_
  have e : (.inr (ci, (vflds σ (q + 1) 0 l).set k0 (vi x)) : mC) = vcell (vU σ (q + 1) k0 x) (q + 1) (3, ci, l) := by
    show _ = Sum.inr (ci, vflds (vU σ (q + 1) k0 x) (q + 1) 0 l)
    congr 2
    apply List.ext_getElem?
    intro j
    by_cases hj : j = k0
    · subst hj
      rw [List.getElem?_set_self (by rw [vflds_len]; exact (List.getElem?_eq_some_iff.mp h2).1), vflds_get, h2, Nat.zero_add]
      show _ = some (vi (vU σ (q + 1) j x (q + 1) j))
      rw [vU_same]
    · rw [List.getElem?_set_ne (fun e => hj e.symm), vflds_get, vflds_get, Nat.zero_add]
      cases l[j]? with
      | none => rfl
      | some f => exact congrArg some (vfld_cong _ (vU_nk hj).symm f)
  rw [e, hp_set h1 (fun p j hp => vU_ne hp j)]
  exact k
theorem v_aI {p n j : Nat} {x : Int} (hd : decode M.2.2.1 pc = .ok (.iaload, 1)) (hs : vAT p = some (0, n)) (hj : x.toNat = j) (hx : 0 ≤ x) (hx2 : x < n) (k : V g M d N Q (pc + 1) lv (vi (σ p j) :: st) (hp σ)) : V g M d N Q pc lv (vi x :: .ref p :: st) (hp σ) := by
  subst hj
  obtain ⟨q, l, rfl, h1, -⟩ := vAT_of hs
  exact v_iald hd (hp_at σ h1) hx hx2 (Nat.le_trans (vSh_small _ (List.mem_of_getElem? h1)) (by decide)) k
theorem v_aJ {p n j : Nat} {x : Int} (hd : decode M.2.2.1 pc = .ok (.laload, 1)) (hs : vAT p = some (1, n)) (hj : x.toNat = j) (hx : 0 ≤ x) (hx2 : x < n) (k : V g M d N Q (pc + 1) lv (vj (σ p j) :: st) (hp σ)) : V g M d N Q pc lv (vi x :: .ref p :: st) (hp σ) := by
  subst hj
  obtain ⟨q, l, rfl, h1, -⟩ := vAT_of hs
  exact v_lald hd (hp_at σ h1) hx hx2 (Nat.le_trans (vSh_small _ (List.mem_of_getElem? h1)) (by decide)) k
theorem v_aZ {p n j : Nat} {x : Int} (hd : decode M.2.2.1 pc = .ok (.baload, 1)) (hs : vAT p = some (2, n)) (hj : x.toNat = j) (hx : 0 ≤ x) (hx2 : x < n) (k : V g M d N Q (pc + 1) lv (vi (σ p j) :: st) (hp σ)) : V g M d N Q pc lv (vi x :: .ref p :: st) (hp σ) := by
  subst hj
  obtain ⟨q, l, rfl, h1, -⟩ := vAT_of hs
  exact v_zald hd (hp_at σ h1) hx hx2 (Nat.le_trans (vSh_small _ (List.mem_of_getElem? h1)) (by decide)) k
theorem v_sI {p n j : Nat} {x y : Int} (hd : decode M.2.2.1 pc = .ok (.iastore, 1)) (hs : vAT p = some (0, n)) (hj : x.toNat = j) (hx : 0 ≤ x) (hx2 : x < n) (k : V g M d N Q (pc + 1) lv st (hp (vU σ p j y))) : V g M d N Q pc lv (vi y :: vi x :: .ref p :: st) (hp σ) := by
  subst hj
  obtain ⟨q, l, rfl, h1, -⟩ := vAT_of hs
  refine v_iast hd (hp_at σ h1) hx hx2 (Nat.le_trans (vSh_small _ (List.mem_of_getElem? h1)) (by decide)) ?_
  have e : (.inl (0, n, .inl (upd (fun j => Int32.ofInt (σ (q + 1) j)) x.toNat (Int32.ofInt y))) : mC) = vcell (vU σ (q + 1) x.toNat y) (q + 1) (0, n, l) := by
    show _ = (Sum.inl (0, n, .inl (fun j => Int32.ofInt (vU σ (q + 1) x.toNat y (q + 1) j))) : mC)
    congr
    funext j
    unfold upd vU
    by_cases hj : j = x.toNat
    · simp [hj]
    · simp [hj]
  rw [e, hp_set h1 (fun p j hp => vU_ne hp j)]
  exact k
theorem v_sJ {p n j : Nat} {x y : Int} (hd : decode M.2.2.1 pc = .ok (.lastore, 1)) (hs : vAT p = some (1, n)) (hj : x.toNat = j) (hx : 0 ≤ x) (hx2 : x < n) (k : V g M d N Q (pc + 1) lv st (hp (vU σ p j y))) : V g M d N Q pc lv (vj y :: vi x :: .ref p :: st) (hp σ) := by
  subst hj
  obtain ⟨q, l, rfl, h1, -⟩ := vAT_of hs
  refine v_last hd (hp_at σ h1) hx hx2 (Nat.le_trans (vSh_small _ (List.mem_of_getElem? h1)) (by decide)) ?_
  have e : (.inl (1, n, .inr (.inl (vp_updL (fun j => Int64.ofInt (σ (q + 1) j)) x.toNat (Int64.ofInt y)))) : mC) = vcell (vU σ (q + 1) x.toNat y) (q + 1) (1, n, l) := by
    show _ = (Sum.inl (1, n, .inr (.inl (fun j => Int64.ofInt (vU σ (q + 1) x.toNat y (q + 1) j)))) : mC)
    congr
    funext j
    unfold vp_updL vU
    by_cases hj : j = x.toNat
    · simp [hj]
    · simp [hj]
  rw [e, hp_set h1 (fun p j hp => vU_ne hp j)]
  exact k
theorem v_sZ {p n j : Nat} {x y : Int} (hd : decode M.2.2.1 pc = .ok (.bastore, 1)) (hs : vAT p = some (2, n)) (hj : x.toNat = j) (hx : 0 ≤ x) (hx2 : x < n) (hy : y = 0 ∨ y = 1) (k : V g M d N Q (pc + 1) lv st (hp (vU σ p j y))) : V g M d N Q pc lv (vi y :: vi x :: .ref p :: st) (hp σ) := by
  subst hj
  obtain ⟨q, l, rfl, h1, -⟩ := vAT_of hs
  refine v_zast hd (hp_at σ h1) hx hx2 (Nat.le_trans (vSh_small _ (List.mem_of_getElem? h1)) (by decide)) hy ?_
  have e : (.inl (2, n, .inl (upd (fun j => Int32.ofInt (σ (q + 1) j)) x.toNat (Int32.ofInt y))) : mC) = vcell (vU σ (q + 1) x.toNat y) (q + 1) (2, n, l) := by
    show _ = (Sum.inl (2, n, .inl (fun j => Int32.ofInt (vU σ (q + 1) x.toNat y (q + 1) j))) : mC)
    congr
    funext j
    unfold upd vU
    by_cases hj : j = x.toNat
    · simp [hj]
    · simp [hj]
  rw [e, hp_set h1 (fun p j hp => vU_ne hp j)]
  exact k
theorem v_len {p n : Nat} (hd : decode M.2.2.1 pc = .ok (.arraylength, 1)) (hs : vAT p = some (0, n)) (k : V g M d N Q (pc + 1) lv (vi n :: st) (hp σ)) : V g M d N Q pc lv (.ref p :: st) (hp σ) := by
  obtain ⟨q, l, rfl, h1, ht⟩ := vAT_of hs
  exact v_alen hd (hp_at σ h1) ht k
theorem v_cVi0 {M' : vMt} {d' idx : Nat} {p ci z m0 : Nat} {f : Nat × Nat} {T : u_T} (hd : decode M.2.2.1 pc = .ok (.invokevirtual idx, 3)) (hc : vCal M' 0) (hlk : Cond.methodLink M.1 idx M'.2.1 ∈ vWords) (hi : Cond.instanceMethod M'.2.1 ∈ vWords) (hse : Cond.selects M'.2.1.cls M'.2.1 M'.2.1 ∈ vWords) (hp0 : vFT p 0 = some (ci, f)) (hcl : vwCl[ci]? = some (M'.2.1.cls, T, m0)) (hn : vSl [.ref p] ≤ M'.2.2.2.1) (h8 : vSl st ≤ 8) (hdd : d' + 1 ≤ d) (hN : N.2.2.1 ≤ N.1 ∧ N.2.2.2 ≤ N.2.1) (k : V g M' d' (0, 0, 0, 0) (fun r w' => ∃ z, r = some (vi z) ∧ V g M d N Q (pc + 3) lv (vi z :: st) w') 0 (vargs 0 [.ref p]) [] (hp σ)) : V g M d N Q pc lv (.ref p :: st) (hp σ) := by
  obtain ⟨q, l, rfl, h1, -⟩ := vFT_of hp0
  exact v_callV (As := []) (mc := 0) (ms := 0) hd hc hlk hi hse (hp_at σ h1) hcl hn rfl h8 hdd hN (v_cons k (fun r w' h => by obtain ⟨z, rfl, h⟩ := h; exact h))
theorem v_cVi1 {M' : vMt} {d' idx : Nat} {a1 : Value} {p ci z m0 : Nat} {f : Nat × Nat} {T : u_T} (hd : decode M.2.2.1 pc = .ok (.invokevirtual idx, 3)) (hc : vCal M' 1) (hlk : Cond.methodLink M.1 idx M'.2.1 ∈ vWords) (hi : Cond.instanceMethod M'.2.1 ∈ vWords) (hse : Cond.selects M'.2.1.cls M'.2.1 M'.2.1 ∈ vWords) (hp0 : vFT p 0 = some (ci, f)) (hcl : vwCl[ci]? = some (M'.2.1.cls, T, m0)) (hn : vSl [.ref p, a1] ≤ M'.2.2.2.1) (h8 : vSl st ≤ 8) (hdd : d' + 1 ≤ d) (hN : N.2.2.1 ≤ N.1 ∧ N.2.2.2 ≤ N.2.1) (k : V g M' d' (0, 0, 0, 0) (fun r w' => ∃ z, r = some (vi z) ∧ V g M d N Q (pc + 3) lv (vi z :: st) w') 0 (vargs 0 [.ref p, a1]) [] (hp σ)) : V g M d N Q pc lv (a1 :: .ref p :: st) (hp σ) := by
  obtain ⟨q, l, rfl, h1, -⟩ := vFT_of hp0
  exact v_callV (As := [a1]) (mc := 0) (ms := 0) hd hc hlk hi hse (hp_at σ h1) hcl hn rfl h8 hdd hN (v_cons k (fun r w' h => by obtain ⟨z, rfl, h⟩ := h; exact h))
theorem v_cVi2 {M' : vMt} {d' idx : Nat} {a1 a2 : Value} {p ci z m0 : Nat} {f : Nat × Nat} {T : u_T} (hd : decode M.2.2.1 pc = .ok (.invokevirtual idx, 3)) (hc : vCal M' 2) (hlk : Cond.methodLink M.1 idx M'.2.1 ∈ vWords) (hi : Cond.instanceMethod M'.2.1 ∈ vWords) (hse : Cond.selects M'.2.1.cls M'.2.1 M'.2.1 ∈ vWords) (hp0 : vFT p 0 = some (ci, f)) (hcl : vwCl[ci]? = some (M'.2.1.cls, T, m0)) (hn : vSl [.ref p, a1, a2] ≤ M'.2.2.2.1) (h8 : vSl st ≤ 8) (hdd : d' + 1 ≤ d) (hN : N.2.2.1 ≤ N.1 ∧ N.2.2.2 ≤ N.2.1) (k : V g M' d' (0, 0, 0, 0) (fun r w' => ∃ z, r = some (vi z) ∧ V g M d N Q (pc + 3) lv (vi z :: st) w') 0 (vargs 0 [.ref p, a1, a2]) [] (hp σ)) : V g M d N Q pc lv (a2 :: a1 :: .ref p :: st) (hp σ) := by
  obtain ⟨q, l, rfl, h1, -⟩ := vFT_of hp0
  exact v_callV (As := [a1, a2]) (mc := 0) (ms := 0) hd hc hlk hi hse (hp_at σ h1) hcl hn rfl h8 hdd hN (v_cons k (fun r w' h => by obtain ⟨z, rfl, h⟩ := h; exact h))
theorem v_cVi3 {M' : vMt} {d' idx : Nat} {a1 a2 a3 : Value} {p ci z m0 : Nat} {f : Nat × Nat} {T : u_T} (hd : decode M.2.2.1 pc = .ok (.invokevirtual idx, 3)) (hc : vCal M' 3) (hlk : Cond.methodLink M.1 idx M'.2.1 ∈ vWords) (hi : Cond.instanceMethod M'.2.1 ∈ vWords) (hse : Cond.selects M'.2.1.cls M'.2.1 M'.2.1 ∈ vWords) (hp0 : vFT p 0 = some (ci, f)) (hcl : vwCl[ci]? = some (M'.2.1.cls, T, m0)) (hn : vSl [.ref p, a1, a2, a3] ≤ M'.2.2.2.1) (h8 : vSl st ≤ 8) (hdd : d' + 1 ≤ d) (hN : N.2.2.1 ≤ N.1 ∧ N.2.2.2 ≤ N.2.1) (k : V g M' d' (0, 0, 0, 0) (fun r w' => ∃ z, r = some (vi z) ∧ V g M d N Q (pc + 3) lv (vi z :: st) w') 0 (vargs 0 [.ref p, a1, a2, a3]) [] (hp σ)) : V g M d N Q pc lv (a3 :: a2 :: a1 :: .ref p :: st) (hp σ) := by
  obtain ⟨q, l, rfl, h1, -⟩ := vFT_of hp0
  exact v_callV (As := [a1, a2, a3]) (mc := 0) (ms := 0) hd hc hlk hi hse (hp_at σ h1) hcl hn rfl h8 hdd hN (v_cons k (fun r w' h => by obtain ⟨z, rfl, h⟩ := h; exact h))
theorem v_cVi4 {M' : vMt} {d' idx : Nat} {a1 a2 a3 a4 : Value} {p ci z m0 : Nat} {f : Nat × Nat} {T : u_T} (hd : decode M.2.2.1 pc = .ok (.invokevirtual idx, 3)) (hc : vCal M' 4) (hlk : Cond.methodLink M.1 idx M'.2.1 ∈ vWords) (hi : Cond.instanceMethod M'.2.1 ∈ vWords) (hse : Cond.selects M'.2.1.cls M'.2.1 M'.2.1 ∈ vWords) (hp0 : vFT p 0 = some (ci, f)) (hcl : vwCl[ci]? = some (M'.2.1.cls, T, m0)) (hn : vSl [.ref p, a1, a2, a3, a4] ≤ M'.2.2.2.1) (h8 : vSl st ≤ 8) (hdd : d' + 1 ≤ d) (hN : N.2.2.1 ≤ N.1 ∧ N.2.2.2 ≤ N.2.1) (k : V g M' d' (0, 0, 0, 0) (fun r w' => ∃ z, r = some (vi z) ∧ V g M d N Q (pc + 3) lv (vi z :: st) w') 0 (vargs 0 [.ref p, a1, a2, a3, a4]) [] (hp σ)) : V g M d N Q pc lv (a4 :: a3 :: a2 :: a1 :: .ref p :: st) (hp σ) := by
  obtain ⟨q, l, rfl, h1, -⟩ := vFT_of hp0
  exact v_callV (As := [a1, a2, a3, a4]) (mc := 0) (ms := 0) hd hc hlk hi hse (hp_at σ h1) hcl hn rfl h8 hdd hN (v_cons k (fun r w' h => by obtain ⟨z, rfl, h⟩ := h; exact h))
theorem v_cVi5 {M' : vMt} {d' idx : Nat} {a1 a2 a3 a4 a5 : Value} {p ci z m0 : Nat} {f : Nat × Nat} {T : u_T} (hd : decode M.2.2.1 pc = .ok (.invokevirtual idx, 3)) (hc : vCal M' 5) (hlk : Cond.methodLink M.1 idx M'.2.1 ∈ vWords) (hi : Cond.instanceMethod M'.2.1 ∈ vWords) (hse : Cond.selects M'.2.1.cls M'.2.1 M'.2.1 ∈ vWords) (hp0 : vFT p 0 = some (ci, f)) (hcl : vwCl[ci]? = some (M'.2.1.cls, T, m0)) (hn : vSl [.ref p, a1, a2, a3, a4, a5] ≤ M'.2.2.2.1) (h8 : vSl st ≤ 8) (hdd : d' + 1 ≤ d) (hN : N.2.2.1 ≤ N.1 ∧ N.2.2.2 ≤ N.2.1) (k : V g M' d' (0, 0, 0, 0) (fun r w' => ∃ z, r = some (vi z) ∧ V g M d N Q (pc + 3) lv (vi z :: st) w') 0 (vargs 0 [.ref p, a1, a2, a3, a4, a5]) [] (hp σ)) : V g M d N Q pc lv (a5 :: a4 :: a3 :: a2 :: a1 :: .ref p :: st) (hp σ) := by
  obtain ⟨q, l, rfl, h1, -⟩ := vFT_of hp0
  exact v_callV (As := [a1, a2, a3, a4, a5]) (mc := 0) (ms := 0) hd hc hlk hi hse (hp_at σ h1) hcl hn rfl h8 hdd hN (v_cons k (fun r w' h => by obtain ⟨z, rfl, h⟩ := h; exact h))
theorem v_cVi6 {M' : vMt} {d' idx : Nat} {a1 a2 a3 a4 a5 a6 : Value} {p ci z m0 : Nat} {f : Nat × Nat} {T : u_T} (hd : decode M.2.2.1 pc = .ok (.invokevirtual idx, 3)) (hc : vCal M' 6) (hlk : Cond.methodLink M.1 idx M'.2.1 ∈ vWords) (hi : Cond.instanceMethod M'.2.1 ∈ vWords) (hse : Cond.selects M'.2.1.cls M'.2.1 M'.2.1 ∈ vWords) (hp0 : vFT p 0 = some (ci, f)) (hcl : vwCl[ci]? = some (M'.2.1.cls, T, m0)) (hn : vSl [.ref p, a1, a2, a3, a4, a5, a6] ≤ M'.2.2.2.1) (h8 : vSl st ≤ 8) (hdd : d' + 1 ≤ d) (hN : N.2.2.1 ≤ N.1 ∧ N.2.2.2 ≤ N.2.1) (k : V g M' d' (0, 0, 0, 0) (fun r w' => ∃ z, r = some (vi z) ∧ V g M d N Q (pc + 3) lv (vi z :: st) w') 0 (vargs 0 [.ref p, a1, a2, a3, a4, a5, a6]) [] (hp σ)) : V g M d N Q pc lv (a6 :: a5 :: a4 :: a3 :: a2 :: a1 :: .ref p :: st) (hp σ) := by
  obtain ⟨q, l, rfl, h1, -⟩ := vFT_of hp0
  exact v_callV (As := [a1, a2, a3, a4, a5, a6]) (mc := 0) (ms := 0) hd hc hlk hi hse (hp_at σ h1) hcl hn rfl h8 hdd hN (v_cons k (fun r w' h => by obtain ⟨z, rfl, h⟩ := h; exact h))
theorem v_cVl0 {M' : vMt} {d' idx : Nat} {p ci z m0 : Nat} {f : Nat × Nat} {T : u_T} (hd : decode M.2.2.1 pc = .ok (.invokevirtual idx, 3)) (hc : vCal M' 0) (hlk : Cond.methodLink M.1 idx M'.2.1 ∈ vWords) (hi : Cond.instanceMethod M'.2.1 ∈ vWords) (hse : Cond.selects M'.2.1.cls M'.2.1 M'.2.1 ∈ vWords) (hp0 : vFT p 0 = some (ci, f)) (hcl : vwCl[ci]? = some (M'.2.1.cls, T, m0)) (hn : vSl [.ref p] ≤ M'.2.2.2.1) (h8 : vSl st ≤ 8) (hdd : d' + 1 ≤ d) (hN : N.2.2.1 ≤ N.1 ∧ N.2.2.2 ≤ N.2.1) (k : V g M' d' (0, 0, 0, 0) (fun r w' => ∃ z, r = some (vj z) ∧ V g M d N Q (pc + 3) lv (vj z :: st) w') 0 (vargs 0 [.ref p]) [] (hp σ)) : V g M d N Q pc lv (.ref p :: st) (hp σ) := by
  obtain ⟨q, l, rfl, h1, -⟩ := vFT_of hp0
  exact v_callV (As := []) (mc := 0) (ms := 0) hd hc hlk hi hse (hp_at σ h1) hcl hn rfl h8 hdd hN (v_cons k (fun r w' h => by obtain ⟨z, rfl, h⟩ := h; exact h))
theorem v_cVl1 {M' : vMt} {d' idx : Nat} {a1 : Value} {p ci z m0 : Nat} {f : Nat × Nat} {T : u_T} (hd : decode M.2.2.1 pc = .ok (.invokevirtual idx, 3)) (hc : vCal M' 1) (hlk : Cond.methodLink M.1 idx M'.2.1 ∈ vWords) (hi : Cond.instanceMethod M'.2.1 ∈ vWords) (hse : Cond.selects M'.2.1.cls M'.2.1 M'.2.1 ∈ vWords) (hp0 : vFT p 0 = some (ci, f)) (hcl : vwCl[ci]? = some (M'.2.1.cls, T, m0)) (hn : vSl [.ref p, a1] ≤ M'.2.2.2.1) (h8 : vSl st ≤ 8) (hdd : d' + 1 ≤ d) (hN : N.2.2.1 ≤ N.1 ∧ N.2.2.2 ≤ N.2.1) (k : V g M' d' (0, 0, 0, 0) (fun r w' => ∃ z, r = some (vj z) ∧ V g M d N Q (pc + 3) lv (vj z :: st) w') 0 (vargs 0 [.ref p, a1]) [] (hp σ)) : V g M d N Q pc lv (a1 :: .ref p :: st) (hp σ) := by
  obtain ⟨q, l, rfl, h1, -⟩ := vFT_of hp0
  exact v_callV (As := [a1]) (mc := 0) (ms := 0) hd hc hlk hi hse (hp_at σ h1) hcl hn rfl h8 hdd hN (v_cons k (fun r w' h => by obtain ⟨z, rfl, h⟩ := h; exact h))
theorem v_cVl2 {M' : vMt} {d' idx : Nat} {a1 a2 : Value} {p ci z m0 : Nat} {f : Nat × Nat} {T : u_T} (hd : decode M.2.2.1 pc = .ok (.invokevirtual idx, 3)) (hc : vCal M' 2) (hlk : Cond.methodLink M.1 idx M'.2.1 ∈ vWords) (hi : Cond.instanceMethod M'.2.1 ∈ vWords) (hse : Cond.selects M'.2.1.cls M'.2.1 M'.2.1 ∈ vWords) (hp0 : vFT p 0 = some (ci, f)) (hcl : vwCl[ci]? = some (M'.2.1.cls, T, m0)) (hn : vSl [.ref p, a1, a2] ≤ M'.2.2.2.1) (h8 : vSl st ≤ 8) (hdd : d' + 1 ≤ d) (hN : N.2.2.1 ≤ N.1 ∧ N.2.2.2 ≤ N.2.1) (k : V g M' d' (0, 0, 0, 0) (fun r w' => ∃ z, r = some (vj z) ∧ V g M d N Q (pc + 3) lv (vj z :: st) w') 0 (vargs 0 [.ref p, a1, a2]) [] (hp σ)) : V g M d N Q pc lv (a2 :: a1 :: .ref p :: st) (hp σ) := by
  obtain ⟨q, l, rfl, h1, -⟩ := vFT_of hp0
  exact v_callV (As := [a1, a2]) (mc := 0) (ms := 0) hd hc hlk hi hse (hp_at σ h1) hcl hn rfl h8 hdd hN (v_cons k (fun r w' h => by obtain ⟨z, rfl, h⟩ := h; exact h))
theorem v_cVl3 {M' : vMt} {d' idx : Nat} {a1 a2 a3 : Value} {p ci z m0 : Nat} {f : Nat × Nat} {T : u_T} (hd : decode M.2.2.1 pc = .ok (.invokevirtual idx, 3)) (hc : vCal M' 3) (hlk : Cond.methodLink M.1 idx M'.2.1 ∈ vWords) (hi : Cond.instanceMethod M'.2.1 ∈ vWords) (hse : Cond.selects M'.2.1.cls M'.2.1 M'.2.1 ∈ vWords) (hp0 : vFT p 0 = some (ci, f)) (hcl : vwCl[ci]? = some (M'.2.1.cls, T, m0)) (hn : vSl [.ref p, a1, a2, a3] ≤ M'.2.2.2.1) (h8 : vSl st ≤ 8) (hdd : d' + 1 ≤ d) (hN : N.2.2.1 ≤ N.1 ∧ N.2.2.2 ≤ N.2.1) (k : V g M' d' (0, 0, 0, 0) (fun r w' => ∃ z, r = some (vj z) ∧ V g M d N Q (pc + 3) lv (vj z :: st) w') 0 (vargs 0 [.ref p, a1, a2, a3]) [] (hp σ)) : V g M d N Q pc lv (a3 :: a2 :: a1 :: .ref p :: st) (hp σ) := by
  obtain ⟨q, l, rfl, h1, -⟩ := vFT_of hp0
  exact v_callV (As := [a1, a2, a3]) (mc := 0) (ms := 0) hd hc hlk hi hse (hp_at σ h1) hcl hn rfl h8 hdd hN (v_cons k (fun r w' h => by obtain ⟨z, rfl, h⟩ := h; exact h))
theorem v_cVl4 {M' : vMt} {d' idx : Nat} {a1 a2 a3 a4 : Value} {p ci z m0 : Nat} {f : Nat × Nat} {T : u_T} (hd : decode M.2.2.1 pc = .ok (.invokevirtual idx, 3)) (hc : vCal M' 4) (hlk : Cond.methodLink M.1 idx M'.2.1 ∈ vWords) (hi : Cond.instanceMethod M'.2.1 ∈ vWords) (hse : Cond.selects M'.2.1.cls M'.2.1 M'.2.1 ∈ vWords) (hp0 : vFT p 0 = some (ci, f)) (hcl : vwCl[ci]? = some (M'.2.1.cls, T, m0)) (hn : vSl [.ref p, a1, a2, a3, a4] ≤ M'.2.2.2.1) (h8 : vSl st ≤ 8) (hdd : d' + 1 ≤ d) (hN : N.2.2.1 ≤ N.1 ∧ N.2.2.2 ≤ N.2.1) (k : V g M' d' (0, 0, 0, 0) (fun r w' => ∃ z, r = some (vj z) ∧ V g M d N Q (pc + 3) lv (vj z :: st) w') 0 (vargs 0 [.ref p, a1, a2, a3, a4]) [] (hp σ)) : V g M d N Q pc lv (a4 :: a3 :: a2 :: a1 :: .ref p :: st) (hp σ) := by
  obtain ⟨q, l, rfl, h1, -⟩ := vFT_of hp0
  exact v_callV (As := [a1, a2, a3, a4]) (mc := 0) (ms := 0) hd hc hlk hi hse (hp_at σ h1) hcl hn rfl h8 hdd hN (v_cons k (fun r w' h => by obtain ⟨z, rfl, h⟩ := h; exact h))
theorem v_cVl5 {M' : vMt} {d' idx : Nat} {a1 a2 a3 a4 a5 : Value} {p ci z m0 : Nat} {f : Nat × Nat} {T : u_T} (hd : decode M.2.2.1 pc = .ok (.invokevirtual idx, 3)) (hc : vCal M' 5) (hlk : Cond.methodLink M.1 idx M'.2.1 ∈ vWords) (hi : Cond.instanceMethod M'.2.1 ∈ vWords) (hse : Cond.selects M'.2.1.cls M'.2.1 M'.2.1 ∈ vWords) (hp0 : vFT p 0 = some (ci, f)) (hcl : vwCl[ci]? = some (M'.2.1.cls, T, m0)) (hn : vSl [.ref p, a1, a2, a3, a4, a5] ≤ M'.2.2.2.1) (h8 : vSl st ≤ 8) (hdd : d' + 1 ≤ d) (hN : N.2.2.1 ≤ N.1 ∧ N.2.2.2 ≤ N.2.1) (k : V g M' d' (0, 0, 0, 0) (fun r w' => ∃ z, r = some (vj z) ∧ V g M d N Q (pc + 3) lv (vj z :: st) w') 0 (vargs 0 [.ref p, a1, a2, a3, a4, a5]) [] (hp σ)) : V g M d N Q pc lv (a5 :: a4 :: a3 :: a2 :: a1 :: .ref p :: st) (hp σ) := by
  obtain ⟨q, l, rfl, h1, -⟩ := vFT_of hp0
  exact v_callV (As := [a1, a2, a3, a4, a5]) (mc := 0) (ms := 0) hd hc hlk hi hse (hp_at σ h1) hcl hn rfl h8 hdd hN (v_cons k (fun r w' h => by obtain ⟨z, rfl, h⟩ := h; exact h))
theorem v_cVl6 {M' : vMt} {d' idx : Nat} {a1 a2 a3 a4 a5 a6 : Value} {p ci z m0 : Nat} {f : Nat × Nat} {T : u_T} (hd : decode M.2.2.1 pc = .ok (.invokevirtual idx, 3)) (hc : vCal M' 6) (hlk : Cond.methodLink M.1 idx M'.2.1 ∈ vWords) (hi : Cond.instanceMethod M'.2.1 ∈ vWords) (hse : Cond.selects M'.2.1.cls M'.2.1 M'.2.1 ∈ vWords) (hp0 : vFT p 0 = some (ci, f)) (hcl : vwCl[ci]? = some (M'.2.1.cls, T, m0)) (hn : vSl [.ref p, a1, a2, a3, a4, a5, a6] ≤ M'.2.2.2.1) (h8 : vSl st ≤ 8) (hdd : d' + 1 ≤ d) (hN : N.2.2.1 ≤ N.1 ∧ N.2.2.2 ≤ N.2.1) (k : V g M' d' (0, 0, 0, 0) (fun r w' => ∃ z, r = some (vj z) ∧ V g M d N Q (pc + 3) lv (vj z :: st) w') 0 (vargs 0 [.ref p, a1, a2, a3, a4, a5, a6]) [] (hp σ)) : V g M d N Q pc lv (a6 :: a5 :: a4 :: a3 :: a2 :: a1 :: .ref p :: st) (hp σ) := by
  obtain ⟨q, l, rfl, h1, -⟩ := vFT_of hp0
  exact v_callV (As := [a1, a2, a3, a4, a5, a6]) (mc := 0) (ms := 0) hd hc hlk hi hse (hp_at σ h1) hcl hn rfl h8 hdd hN (v_cons k (fun r w' h => by obtain ⟨z, rfl, h⟩ := h; exact h))
theorem v_cVv0 {M' : vMt} {d' idx : Nat} {p ci z m0 : Nat} {f : Nat × Nat} {T : u_T} (hd : decode M.2.2.1 pc = .ok (.invokevirtual idx, 3)) (hc : vCal M' 0) (hlk : Cond.methodLink M.1 idx M'.2.1 ∈ vWords) (hi : Cond.instanceMethod M'.2.1 ∈ vWords) (hse : Cond.selects M'.2.1.cls M'.2.1 M'.2.1 ∈ vWords) (hp0 : vFT p 0 = some (ci, f)) (hcl : vwCl[ci]? = some (M'.2.1.cls, T, m0)) (hn : vSl [.ref p] ≤ M'.2.2.2.1) (h8 : vSl st ≤ 8) (hdd : d' + 1 ≤ d) (hN : N.2.2.1 ≤ N.1 ∧ N.2.2.2 ≤ N.2.1) (k : V g M' d' (0, 0, 0, 0) (fun r w' => r = none ∧ V g M d N Q (pc + 3) lv st w') 0 (vargs 0 [.ref p]) [] (hp σ)) : V g M d N Q pc lv (.ref p :: st) (hp σ) := by
  obtain ⟨q, l, rfl, h1, -⟩ := vFT_of hp0
  exact v_callV (As := []) (mc := 0) (ms := 0) hd hc hlk hi hse (hp_at σ h1) hcl hn rfl h8 hdd hN (v_cons k (fun r w' h => by obtain ⟨rfl, h⟩ := h; exact h))
theorem v_cVv1 {M' : vMt} {d' idx : Nat} {a1 : Value} {p ci z m0 : Nat} {f : Nat × Nat} {T : u_T} (hd : decode M.2.2.1 pc = .ok (.invokevirtual idx, 3)) (hc : vCal M' 1) (hlk : Cond.methodLink M.1 idx M'.2.1 ∈ vWords) (hi : Cond.instanceMethod M'.2.1 ∈ vWords) (hse : Cond.selects M'.2.1.cls M'.2.1 M'.2.1 ∈ vWords) (hp0 : vFT p 0 = some (ci, f)) (hcl : vwCl[ci]? = some (M'.2.1.cls, T, m0)) (hn : vSl [.ref p, a1] ≤ M'.2.2.2.1) (h8 : vSl st ≤ 8) (hdd : d' + 1 ≤ d) (hN : N.2.2.1 ≤ N.1 ∧ N.2.2.2 ≤ N.2.1) (k : V g M' d' (0, 0, 0, 0) (fun r w' => r = none ∧ V g M d N Q (pc + 3) lv st w') 0 (vargs 0 [.ref p, a1]) [] (hp σ)) : V g M d N Q pc lv (a1 :: .ref p :: st) (hp σ) := by
  obtain ⟨q, l, rfl, h1, -⟩ := vFT_of hp0
  exact v_callV (As := [a1]) (mc := 0) (ms := 0) hd hc hlk hi hse (hp_at σ h1) hcl hn rfl h8 hdd hN (v_cons k (fun r w' h => by obtain ⟨rfl, h⟩ := h; exact h))
theorem v_cVv2 {M' : vMt} {d' idx : Nat} {a1 a2 : Value} {p ci z m0 : Nat} {f : Nat × Nat} {T : u_T} (hd : decode M.2.2.1 pc = .ok (.invokevirtual idx, 3)) (hc : vCal M' 2) (hlk : Cond.methodLink M.1 idx M'.2.1 ∈ vWords) (hi : Cond.instanceMethod M'.2.1 ∈ vWords) (hse : Cond.selects M'.2.1.cls M'.2.1 M'.2.1 ∈ vWords) (hp0 : vFT p 0 = some (ci, f)) (hcl : vwCl[ci]? = some (M'.2.1.cls, T, m0)) (hn : vSl [.ref p, a1, a2] ≤ M'.2.2.2.1) (h8 : vSl st ≤ 8) (hdd : d' + 1 ≤ d) (hN : N.2.2.1 ≤ N.1 ∧ N.2.2.2 ≤ N.2.1) (k : V g M' d' (0, 0, 0, 0) (fun r w' => r = none ∧ V g M d N Q (pc + 3) lv st w') 0 (vargs 0 [.ref p, a1, a2]) [] (hp σ)) : V g M d N Q pc lv (a2 :: a1 :: .ref p :: st) (hp σ) := by
  obtain ⟨q, l, rfl, h1, -⟩ := vFT_of hp0
  exact v_callV (As := [a1, a2]) (mc := 0) (ms := 0) hd hc hlk hi hse (hp_at σ h1) hcl hn rfl h8 hdd hN (v_cons k (fun r w' h => by obtain ⟨rfl, h⟩ := h; exact h))
theorem v_cVv3 {M' : vMt} {d' idx : Nat} {a1 a2 a3 : Value} {p ci z m0 : Nat} {f : Nat × Nat} {T : u_T} (hd : decode M.2.2.1 pc = .ok (.invokevirtual idx, 3)) (hc : vCal M' 3) (hlk : Cond.methodLink M.1 idx M'.2.1 ∈ vWords) (hi : Cond.instanceMethod M'.2.1 ∈ vWords) (hse : Cond.selects M'.2.1.cls M'.2.1 M'.2.1 ∈ vWords) (hp0 : vFT p 0 = some (ci, f)) (hcl : vwCl[ci]? = some (M'.2.1.cls, T, m0)) (hn : vSl [.ref p, a1, a2, a3] ≤ M'.2.2.2.1) (h8 : vSl st ≤ 8) (hdd : d' + 1 ≤ d) (hN : N.2.2.1 ≤ N.1 ∧ N.2.2.2 ≤ N.2.1) (k : V g M' d' (0, 0, 0, 0) (fun r w' => r = none ∧ V g M d N Q (pc + 3) lv st w') 0 (vargs 0 [.ref p, a1, a2, a3]) [] (hp σ)) : V g M d N Q pc lv (a3 :: a2 :: a1 :: .ref p :: st) (hp σ) := by
  obtain ⟨q, l, rfl, h1, -⟩ := vFT_of hp0
  exact v_callV (As := [a1, a2, a3]) (mc := 0) (ms := 0) hd hc hlk hi hse (hp_at σ h1) hcl hn rfl h8 hdd hN (v_cons k (fun r w' h => by obtain ⟨rfl, h⟩ := h; exact h))
theorem v_cVv4 {M' : vMt} {d' idx : Nat} {a1 a2 a3 a4 : Value} {p ci z m0 : Nat} {f : Nat × Nat} {T : u_T} (hd : decode M.2.2.1 pc = .ok (.invokevirtual idx, 3)) (hc : vCal M' 4) (hlk : Cond.methodLink M.1 idx M'.2.1 ∈ vWords) (hi : Cond.instanceMethod M'.2.1 ∈ vWords) (hse : Cond.selects M'.2.1.cls M'.2.1 M'.2.1 ∈ vWords) (hp0 : vFT p 0 = some (ci, f)) (hcl : vwCl[ci]? = some (M'.2.1.cls, T, m0)) (hn : vSl [.ref p, a1, a2, a3, a4] ≤ M'.2.2.2.1) (h8 : vSl st ≤ 8) (hdd : d' + 1 ≤ d) (hN : N.2.2.1 ≤ N.1 ∧ N.2.2.2 ≤ N.2.1) (k : V g M' d' (0, 0, 0, 0) (fun r w' => r = none ∧ V g M d N Q (pc + 3) lv st w') 0 (vargs 0 [.ref p, a1, a2, a3, a4]) [] (hp σ)) : V g M d N Q pc lv (a4 :: a3 :: a2 :: a1 :: .ref p :: st) (hp σ) := by
  obtain ⟨q, l, rfl, h1, -⟩ := vFT_of hp0
  exact v_callV (As := [a1, a2, a3, a4]) (mc := 0) (ms := 0) hd hc hlk hi hse (hp_at σ h1) hcl hn rfl h8 hdd hN (v_cons k (fun r w' h => by obtain ⟨rfl, h⟩ := h; exact h))
theorem v_cVv5 {M' : vMt} {d' idx : Nat} {a1 a2 a3 a4 a5 : Value} {p ci z m0 : Nat} {f : Nat × Nat} {T : u_T} (hd : decode M.2.2.1 pc = .ok (.invokevirtual idx, 3)) (hc : vCal M' 5) (hlk : Cond.methodLink M.1 idx M'.2.1 ∈ vWords) (hi : Cond.instanceMethod M'.2.1 ∈ vWords) (hse : Cond.selects M'.2.1.cls M'.2.1 M'.2.1 ∈ vWords) (hp0 : vFT p 0 = some (ci, f)) (hcl : vwCl[ci]? = some (M'.2.1.cls, T, m0)) (hn : vSl [.ref p, a1, a2, a3, a4, a5] ≤ M'.2.2.2.1) (h8 : vSl st ≤ 8) (hdd : d' + 1 ≤ d) (hN : N.2.2.1 ≤ N.1 ∧ N.2.2.2 ≤ N.2.1) (k : V g M' d' (0, 0, 0, 0) (fun r w' => r = none ∧ V g M d N Q (pc + 3) lv st w') 0 (vargs 0 [.ref p, a1, a2, a3, a4, a5]) [] (hp σ)) : V g M d N Q pc lv (a5 :: a4 :: a3 :: a2 :: a1 :: .ref p :: st) (hp σ) := by
  obtain ⟨q, l, rfl, h1, -⟩ := vFT_of hp0
  exact v_callV (As := [a1, a2, a3, a4, a5]) (mc := 0) (ms := 0) hd hc hlk hi hse (hp_at σ h1) hcl hn rfl h8 hdd hN (v_cons k (fun r w' h => by obtain ⟨rfl, h⟩ := h; exact h))
theorem v_cVv6 {M' : vMt} {d' idx : Nat} {a1 a2 a3 a4 a5 a6 : Value} {p ci z m0 : Nat} {f : Nat × Nat} {T : u_T} (hd : decode M.2.2.1 pc = .ok (.invokevirtual idx, 3)) (hc : vCal M' 6) (hlk : Cond.methodLink M.1 idx M'.2.1 ∈ vWords) (hi : Cond.instanceMethod M'.2.1 ∈ vWords) (hse : Cond.selects M'.2.1.cls M'.2.1 M'.2.1 ∈ vWords) (hp0 : vFT p 0 = some (ci, f)) (hcl : vwCl[ci]? = some (M'.2.1.cls, T, m0)) (hn : vSl [.ref p, a1, a2, a3, a4, a5, a6] ≤ M'.2.2.2.1) (h8 : vSl st ≤ 8) (hdd : d' + 1 ≤ d) (hN : N.2.2.1 ≤ N.1 ∧ N.2.2.2 ≤ N.2.1) (k : V g M' d' (0, 0, 0, 0) (fun r w' => r = none ∧ V g M d N Q (pc + 3) lv st w') 0 (vargs 0 [.ref p, a1, a2, a3, a4, a5, a6]) [] (hp σ)) : V g M d N Q pc lv (a6 :: a5 :: a4 :: a3 :: a2 :: a1 :: .ref p :: st) (hp σ) := by
  obtain ⟨q, l, rfl, h1, -⟩ := vFT_of hp0
  exact v_callV (As := [a1, a2, a3, a4, a5, a6]) (mc := 0) (ms := 0) hd hc hlk hi hse (hp_at σ h1) hcl hn rfl h8 hdd hN (v_cons k (fun r w' h => by obtain ⟨rfl, h⟩ := h; exact h))
theorem v_cSi1 {M' : vMt} {d' idx : Nat} {a1 : Value} (hd : decode M.2.2.1 pc = .ok (.invokestatic idx, 3)) (hc : vCal M' 1) (hlk : Cond.methodLink M.1 idx M'.2.1 ∈ vWords) (hs : Cond.static M'.2.1 ∈ vWords) (hn : vSl [a1] ≤ M'.2.2.2.1) (h8 : vSl st ≤ 8) (hdd : d' + 1 ≤ d) (hN : N.2.2.1 ≤ N.1 ∧ N.2.2.2 ≤ N.2.1) (k : V g M' d' (0, 0, 0, 0) (fun r w' => ∃ z, r = some (vi z) ∧ V g M d N Q (pc + 3) lv (vi z :: st) w') 0 (vargs 0 [a1]) [] (hp σ)) : V g M d N Q pc lv (a1 :: st) (hp σ) := by
  exact v_callS (p0 := 0) (As := [a1]) (mc := 0) (ms := 0) hd hc hlk hs hn rfl h8 hdd hN (v_cons k (fun r w' h => by obtain ⟨z, rfl, h⟩ := h; exact h))
theorem v_cSi2 {M' : vMt} {d' idx : Nat} {a1 a2 : Value} (hd : decode M.2.2.1 pc = .ok (.invokestatic idx, 3)) (hc : vCal M' 2) (hlk : Cond.methodLink M.1 idx M'.2.1 ∈ vWords) (hs : Cond.static M'.2.1 ∈ vWords) (hn : vSl [a1, a2] ≤ M'.2.2.2.1) (h8 : vSl st ≤ 8) (hdd : d' + 1 ≤ d) (hN : N.2.2.1 ≤ N.1 ∧ N.2.2.2 ≤ N.2.1) (k : V g M' d' (0, 0, 0, 0) (fun r w' => ∃ z, r = some (vi z) ∧ V g M d N Q (pc + 3) lv (vi z :: st) w') 0 (vargs 0 [a1, a2]) [] (hp σ)) : V g M d N Q pc lv (a2 :: a1 :: st) (hp σ) := by
  exact v_callS (p0 := 0) (As := [a1, a2]) (mc := 0) (ms := 0) hd hc hlk hs hn rfl h8 hdd hN (v_cons k (fun r w' h => by obtain ⟨z, rfl, h⟩ := h; exact h))
theorem v_cSi3 {M' : vMt} {d' idx : Nat} {a1 a2 a3 : Value} (hd : decode M.2.2.1 pc = .ok (.invokestatic idx, 3)) (hc : vCal M' 3) (hlk : Cond.methodLink M.1 idx M'.2.1 ∈ vWords) (hs : Cond.static M'.2.1 ∈ vWords) (hn : vSl [a1, a2, a3] ≤ M'.2.2.2.1) (h8 : vSl st ≤ 8) (hdd : d' + 1 ≤ d) (hN : N.2.2.1 ≤ N.1 ∧ N.2.2.2 ≤ N.2.1) (k : V g M' d' (0, 0, 0, 0) (fun r w' => ∃ z, r = some (vi z) ∧ V g M d N Q (pc + 3) lv (vi z :: st) w') 0 (vargs 0 [a1, a2, a3]) [] (hp σ)) : V g M d N Q pc lv (a3 :: a2 :: a1 :: st) (hp σ) := by
  exact v_callS (p0 := 0) (As := [a1, a2, a3]) (mc := 0) (ms := 0) hd hc hlk hs hn rfl h8 hdd hN (v_cons k (fun r w' h => by obtain ⟨z, rfl, h⟩ := h; exact h))
theorem v_cSl1 {M' : vMt} {d' idx : Nat} {a1 : Value} (hd : decode M.2.2.1 pc = .ok (.invokestatic idx, 3)) (hc : vCal M' 1) (hlk : Cond.methodLink M.1 idx M'.2.1 ∈ vWords) (hs : Cond.static M'.2.1 ∈ vWords) (hn : vSl [a1] ≤ M'.2.2.2.1) (h8 : vSl st ≤ 8) (hdd : d' + 1 ≤ d) (hN : N.2.2.1 ≤ N.1 ∧ N.2.2.2 ≤ N.2.1) (k : V g M' d' (0, 0, 0, 0) (fun r w' => ∃ z, r = some (vj z) ∧ V g M d N Q (pc + 3) lv (vj z :: st) w') 0 (vargs 0 [a1]) [] (hp σ)) : V g M d N Q pc lv (a1 :: st) (hp σ) := by
  exact v_callS (p0 := 0) (As := [a1]) (mc := 0) (ms := 0) hd hc hlk hs hn rfl h8 hdd hN (v_cons k (fun r w' h => by obtain ⟨z, rfl, h⟩ := h; exact h))
theorem v_cSl2 {M' : vMt} {d' idx : Nat} {a1 a2 : Value} (hd : decode M.2.2.1 pc = .ok (.invokestatic idx, 3)) (hc : vCal M' 2) (hlk : Cond.methodLink M.1 idx M'.2.1 ∈ vWords) (hs : Cond.static M'.2.1 ∈ vWords) (hn : vSl [a1, a2] ≤ M'.2.2.2.1) (h8 : vSl st ≤ 8) (hdd : d' + 1 ≤ d) (hN : N.2.2.1 ≤ N.1 ∧ N.2.2.2 ≤ N.2.1) (k : V g M' d' (0, 0, 0, 0) (fun r w' => ∃ z, r = some (vj z) ∧ V g M d N Q (pc + 3) lv (vj z :: st) w') 0 (vargs 0 [a1, a2]) [] (hp σ)) : V g M d N Q pc lv (a2 :: a1 :: st) (hp σ) := by
  exact v_callS (p0 := 0) (As := [a1, a2]) (mc := 0) (ms := 0) hd hc hlk hs hn rfl h8 hdd hN (v_cons k (fun r w' h => by obtain ⟨z, rfl, h⟩ := h; exact h))
theorem v_cSl3 {M' : vMt} {d' idx : Nat} {a1 a2 a3 : Value} (hd : decode M.2.2.1 pc = .ok (.invokestatic idx, 3)) (hc : vCal M' 3) (hlk : Cond.methodLink M.1 idx M'.2.1 ∈ vWords) (hs : Cond.static M'.2.1 ∈ vWords) (hn : vSl [a1, a2, a3] ≤ M'.2.2.2.1) (h8 : vSl st ≤ 8) (hdd : d' + 1 ≤ d) (hN : N.2.2.1 ≤ N.1 ∧ N.2.2.2 ≤ N.2.1) (k : V g M' d' (0, 0, 0, 0) (fun r w' => ∃ z, r = some (vj z) ∧ V g M d N Q (pc + 3) lv (vj z :: st) w') 0 (vargs 0 [a1, a2, a3]) [] (hp σ)) : V g M d N Q pc lv (a3 :: a2 :: a1 :: st) (hp σ) := by
  exact v_callS (p0 := 0) (As := [a1, a2, a3]) (mc := 0) (ms := 0) hd hc hlk hs hn rfl h8 hdd hN (v_cons k (fun r w' h => by obtain ⟨z, rfl, h⟩ := h; exact h))
theorem v_cSNi2 {M' : vMt} {d' idx : Nat} {a1 a2 : Value} (hd : decode M.2.2.1 pc = .ok (.invokestatic idx, 3)) (hc : vCal M' 2) (hlk : vNest M.1 idx M'.2.1) (hs : Cond.static M'.2.1 ∈ vWords) (hn : vSl [a1, a2] ≤ M'.2.2.2.1) (h8 : vSl st ≤ 8) (hdd : d' + 1 ≤ d) (hN : N.2.2.1 ≤ N.1 ∧ N.2.2.2 ≤ N.2.1) (k : V g M' d' (0, 0, 0, 0) (fun r w' => ∃ z, r = some (vi z) ∧ V g M d N Q (pc + 3) lv (vi z :: st) w') 0 (vargs 0 [a1, a2]) [] (hp σ)) : V g M d N Q pc lv (a2 :: a1 :: st) (hp σ) := by
  exact v_callSN (p0 := 0) (As := [a1, a2]) (mc := 0) (ms := 0) hd hc hlk hs hn rfl h8 hdd hN (v_cons k (fun r w' h => by obtain ⟨z, rfl, h⟩ := h; exact h))
end STATE
end
section
abbrev mX8_init : vMt := (RX8, yX8_init, cX8_init, 2, none)
theorem kX8_init : vCal mX8_init 0 := ⟨by decide, rfl, vW 50 (by decide +kernel) (by decide +kernel), vW 35 (by decide +kernel) (by decide +kernel), by decide +kernel, by decide⟩
theorem iwX8_init : Cond.instanceMethod yX8_init ∈ vWords := vW 49 (by decide +kernel) (by decide +kernel)
abbrev mX1_init : vMt := (RX1, yX1_init, cX1_init, 1, none)
theorem kX1_init : vCal mX1_init 0 := ⟨by decide, rfl, vW 58 (by decide +kernel) (by decide +kernel), vW 36 (by decide +kernel) (by decide +kernel), by decide +kernel, by decide⟩
theorem iwX1_init : Cond.instanceMethod yX1_init ∈ vWords := vW 57 (by decide +kernel) (by decide +kernel)
abbrev mX4_init : vMt := (RX4, yX4_init, cX4_init, 3, none)
theorem kX4_init : vCal mX4_init 2 := ⟨by decide, rfl, vW 101 (by decide +kernel) (by decide +kernel), vW 37 (by decide +kernel) (by decide +kernel), by decide +kernel, by decide⟩
theorem iwX4_init : Cond.instanceMethod yX4_init ∈ vWords := vW 100 (by decide +kernel) (by decide +kernel)
abbrev mX3_init : vMt := (RX3, yX3_init, cX3_init, 1, none)
theorem kX3_init : vCal mX3_init 0 := ⟨by decide, rfl, vW 143 (by decide +kernel) (by decide +kernel), vW 38 (by decide +kernel) (by decide +kernel), by decide +kernel, by decide⟩
theorem iwX3_init : Cond.instanceMethod yX3_init ∈ vWords := vW 142 (by decide +kernel) (by decide +kernel)
abbrev mX6_init : vMt := (RX6, yX6_init, cX6_init, 3, none)
theorem kX6_init : vCal mX6_init 2 := ⟨by decide, rfl, vW 159 (by decide +kernel) (by decide +kernel), vW 39 (by decide +kernel) (by decide +kernel), by decide +kernel, by decide⟩
theorem iwX6_init : Cond.instanceMethod yX6_init ∈ vWords := vW 158 (by decide +kernel) (by decide +kernel)
abbrev mX0_init : vMt := (RX0, yX0_init, cX0_init, 3, none)
theorem kX0_init : vCal mX0_init 2 := ⟨by decide, rfl, vW 189 (by decide +kernel) (by decide +kernel), vW 40 (by decide +kernel) (by decide +kernel), by decide +kernel, by decide⟩
theorem iwX0_init : Cond.instanceMethod yX0_init ∈ vWords := vW 188 (by decide +kernel) (by decide +kernel)
abbrev mX5_init : vMt := (RX5, yX5_init, cX5_init, 2, none)
theorem kX5_init : vCal mX5_init 0 := ⟨by decide, rfl, vW 241 (by decide +kernel) (by decide +kernel), vW 41 (by decide +kernel) (by decide +kernel), by decide +kernel, by decide⟩
theorem iwX5_init : Cond.instanceMethod yX5_init ∈ vWords := vW 240 (by decide +kernel) (by decide +kernel)
abbrev mX2_init : vMt := (RX2, yX2_init, cX2_init, 3, none)
theorem kX2_init : vCal mX2_init 2 := ⟨by decide, rfl, vW 258 (by decide +kernel) (by decide +kernel), vW 42 (by decide +kernel) (by decide +kernel), by decide +kernel, by decide⟩
theorem iwX2_init : Cond.instanceMethod yX2_init ∈ vWords := vW 257 (by decide +kernel) (by decide +kernel)
abbrev mX7_init : vMt := (RX7, yX7_init, cX7_init, 1, none)
theorem kX7_init : vCal mX7_init 0 := ⟨by decide, rfl, vW 314 (by decide +kernel) (by decide +kernel), vW 43 (by decide +kernel) (by decide +kernel), by decide +kernel, by decide⟩
theorem iwX7_init : Cond.instanceMethod yX7_init ∈ vWords := vW 313 (by decide +kernel) (by decide +kernel)
abbrev mX8_engine : vMt := (RX8, yX8_engine, cX8_engine, 5, (some .int))
theorem kX8_engine : vCal mX8_engine 4 := ⟨by decide, rfl, vW 385 (by decide +kernel) (by decide +kernel), vW 35 (by decide +kernel) (by decide +kernel), by decide +kernel, by decide⟩
theorem iwX8_engine : Cond.instanceMethod yX8_engine ∈ vWords := vW 383 (by decide +kernel) (by decide +kernel)
theorem swX8_engine : Cond.selects RX8 yX8_engine yX8_engine ∈ vWords := vW 384 (by decide +kernel) (by decide +kernel)
abbrev mX8_within : vMt := (RX8, yX8_within, cX8_within, 3, (some .boolean))
theorem kX8_within : vCal mX8_within 3 := ⟨by decide, rfl, vW 388 (by decide +kernel) (by decide +kernel), vW 35 (by decide +kernel) (by decide +kernel), by decide +kernel, by decide⟩
theorem stX8_within : Cond.static yX8_within ∈ vWords := vW 387 (by decide +kernel) (by decide +kernel)
abbrev mX1_add : vMt := (RX1, yX1_add, cX1_add, 5, (some .int))
theorem kX1_add : vCal mX1_add 4 := ⟨by decide, rfl, vW 392 (by decide +kernel) (by decide +kernel), vW 36 (by decide +kernel) (by decide +kernel), by decide +kernel, by decide⟩
theorem iwX1_add : Cond.instanceMethod yX1_add ∈ vWords := vW 390 (by decide +kernel) (by decide +kernel)
theorem swX1_add : Cond.selects RX1 yX1_add yX1_add ∈ vWords := vW 391 (by decide +kernel) (by decide +kernel)
abbrev mX8_store : vMt := (RX8, yX8_store, cX8_store, 4, (some .int))
theorem kX8_store : vCal mX8_store 2 := ⟨by decide, rfl, vW 396 (by decide +kernel) (by decide +kernel), vW 35 (by decide +kernel) (by decide +kernel), by decide +kernel, by decide⟩
theorem iwX8_store : Cond.instanceMethod yX8_store ∈ vWords := vW 394 (by decide +kernel) (by decide +kernel)
theorem swX8_store : Cond.selects RX8 yX8_store yX8_store ∈ vWords := vW 395 (by decide +kernel) (by decide +kernel)
abbrev mX1_has : vMt := (RX1, yX1_has, cX1_has, 2, (some .boolean))
theorem kX1_has : vCal mX1_has 1 := ⟨by decide, rfl, vW 400 (by decide +kernel) (by decide +kernel), vW 36 (by decide +kernel) (by decide +kernel), by decide +kernel, by decide⟩
theorem iwX1_has : Cond.instanceMethod yX1_has ∈ vWords := vW 398 (by decide +kernel) (by decide +kernel)
theorem swX1_has : Cond.selects RX1 yX1_has yX1_has ∈ vWords := vW 399 (by decide +kernel) (by decide +kernel)
abbrev mX8_stage : vMt := (RX8, yX8_stage, cX8_stage, 5, (some .int))
theorem kX8_stage : vCal mX8_stage 4 := ⟨by decide, rfl, vW 404 (by decide +kernel) (by decide +kernel), vW 35 (by decide +kernel) (by decide +kernel), by decide +kernel, by decide⟩
theorem iwX8_stage : Cond.instanceMethod yX8_stage ∈ vWords := vW 402 (by decide +kernel) (by decide +kernel)
theorem swX8_stage : Cond.selects RX8 yX8_stage yX8_stage ∈ vWords := vW 403 (by decide +kernel) (by decide +kernel)
abbrev mX4_addOnTop : vMt := (RX4, yX4_addOnTop, cX4_addOnTop, 5, (some .int))
theorem kX4_addOnTop : vCal mX4_addOnTop 4 := ⟨by decide, rfl, vW 408 (by decide +kernel) (by decide +kernel), vW 37 (by decide +kernel) (by decide +kernel), by decide +kernel, by decide⟩
theorem iwX4_addOnTop : Cond.instanceMethod yX4_addOnTop ∈ vWords := vW 406 (by decide +kernel) (by decide +kernel)
theorem swX4_addOnTop : Cond.selects RX4 yX4_addOnTop yX4_addOnTop ∈ vWords := vW 407 (by decide +kernel) (by decide +kernel)
abbrev mX8_undo : vMt := (RX8, yX8_undo, cX8_undo, 1, (some .int))
theorem kX8_undo : vCal mX8_undo 0 := ⟨by decide, rfl, vW 412 (by decide +kernel) (by decide +kernel), vW 35 (by decide +kernel) (by decide +kernel), by decide +kernel, by decide⟩
theorem iwX8_undo : Cond.instanceMethod yX8_undo ∈ vWords := vW 410 (by decide +kernel) (by decide +kernel)
theorem swX8_undo : Cond.selects RX8 yX8_undo yX8_undo ∈ vWords := vW 411 (by decide +kernel) (by decide +kernel)
abbrev mX8_stuff : vMt := (RX8, yX8_stuff, cX8_stuff, 3, (some .int))
theorem kX8_stuff : vCal mX8_stuff 2 := ⟨by decide, rfl, vW 416 (by decide +kernel) (by decide +kernel), vW 35 (by decide +kernel) (by decide +kernel), by decide +kernel, by decide⟩
theorem iwX8_stuff : Cond.instanceMethod yX8_stuff ∈ vWords := vW 414 (by decide +kernel) (by decide +kernel)
theorem swX8_stuff : Cond.selects RX8 yX8_stuff yX8_stuff ∈ vWords := vW 415 (by decide +kernel) (by decide +kernel)
abbrev mX4_has : vMt := (RX4, yX4_has, cX4_has, 2, (some .boolean))
theorem kX4_has : vCal mX4_has 1 := ⟨by decide, rfl, vW 420 (by decide +kernel) (by decide +kernel), vW 37 (by decide +kernel) (by decide +kernel), by decide +kernel, by decide⟩
theorem iwX4_has : Cond.instanceMethod yX4_has ∈ vWords := vW 418 (by decide +kernel) (by decide +kernel)
theorem swX4_has : Cond.selects RX4 yX4_has yX4_has ∈ vWords := vW 419 (by decide +kernel) (by decide +kernel)
abbrev mX8_put : vMt := (RX8, yX8_put, cX8_put, 4, (some .int))
theorem kX8_put : vCal mX8_put 3 := ⟨by decide, rfl, vW 423 (by decide +kernel) (by decide +kernel), vW 35 (by decide +kernel) (by decide +kernel), by decide +kernel, by decide⟩
theorem stX8_put : Cond.static yX8_put ∈ vWords := vW 422 (by decide +kernel) (by decide +kernel)
abbrev mX8_set : vMt := (RX8, yX8_set, cX8_set, 3, (some .int))
theorem kX8_set : vCal mX8_set 2 := ⟨by decide, rfl, vW 427 (by decide +kernel) (by decide +kernel), vW 35 (by decide +kernel) (by decide +kernel), by decide +kernel, by decide⟩
theorem iwX8_set : Cond.instanceMethod yX8_set ∈ vWords := vW 425 (by decide +kernel) (by decide +kernel)
theorem swX8_set : Cond.selects RX8 yX8_set yX8_set ∈ vWords := vW 426 (by decide +kernel) (by decide +kernel)
abbrev mX8_about : vMt := (RX8, yX8_about, cX8_about, 3, (some .int))
theorem kX8_about : vCal mX8_about 2 := ⟨by decide, rfl, vW 435 (by decide +kernel) (by decide +kernel), vW 35 (by decide +kernel) (by decide +kernel), by decide +kernel, by decide⟩
theorem iwX8_about : Cond.instanceMethod yX8_about ∈ vWords := vW 433 (by decide +kernel) (by decide +kernel)
theorem swX8_about : Cond.selects RX8 yX8_about yX8_about ∈ vWords := vW 434 (by decide +kernel) (by decide +kernel)
abbrev mX4_dryOf : vMt := (RX4, yX4_dryOf, cX4_dryOf, 2, (some .int))
theorem kX4_dryOf : vCal mX4_dryOf 1 := ⟨by decide, rfl, vW 439 (by decide +kernel) (by decide +kernel), vW 37 (by decide +kernel) (by decide +kernel), by decide +kernel, by decide⟩
theorem iwX4_dryOf : Cond.instanceMethod yX4_dryOf ∈ vWords := vW 437 (by decide +kernel) (by decide +kernel)
theorem swX4_dryOf : Cond.selects RX4 yX4_dryOf yX4_dryOf ∈ vWords := vW 438 (by decide +kernel) (by decide +kernel)
abbrev mX4_bareOf : vMt := (RX4, yX4_bareOf, cX4_bareOf, 2, (some .int))
theorem kX4_bareOf : vCal mX4_bareOf 1 := ⟨by decide, rfl, vW 444 (by decide +kernel) (by decide +kernel), vW 37 (by decide +kernel) (by decide +kernel), by decide +kernel, by decide⟩
theorem iwX4_bareOf : Cond.instanceMethod yX4_bareOf ∈ vWords := vW 442 (by decide +kernel) (by decide +kernel)
theorem swX4_bareOf : Cond.selects RX4 yX4_bareOf yX4_bareOf ∈ vWords := vW 443 (by decide +kernel) (by decide +kernel)
abbrev mX4_tankFor : vMt := (RX4, yX4_tankFor, cX4_tankFor, 2, (some .int))
theorem kX4_tankFor : vCal mX4_tankFor 1 := ⟨by decide, rfl, vW 448 (by decide +kernel) (by decide +kernel), vW 37 (by decide +kernel) (by decide +kernel), by decide +kernel, by decide⟩
theorem iwX4_tankFor : Cond.instanceMethod yX4_tankFor ∈ vWords := vW 446 (by decide +kernel) (by decide +kernel)
theorem swX4_tankFor : Cond.selects RX4 yX4_tankFor yX4_tankFor ∈ vWords := vW 447 (by decide +kernel) (by decide +kernel)
abbrev mX4_massFrom : vMt := (RX4, yX4_massFrom, cX4_massFrom, 4, (some .int))
theorem kX4_massFrom : vCal mX4_massFrom 1 := ⟨by decide, rfl, vW 452 (by decide +kernel) (by decide +kernel), vW 37 (by decide +kernel) (by decide +kernel), by decide +kernel, by decide⟩
theorem iwX4_massFrom : Cond.instanceMethod yX4_massFrom ∈ vWords := vW 450 (by decide +kernel) (by decide +kernel)
theorem swX4_massFrom : Cond.selects RX4 yX4_massFrom yX4_massFrom ∈ vWords := vW 451 (by decide +kernel) (by decide +kernel)
abbrev mX4_load : vMt := (RX4, yX4_load, cX4_load, 1, (some .int))
theorem kX4_load : vCal mX4_load 0 := ⟨by decide, rfl, vW 456 (by decide +kernel) (by decide +kernel), vW 37 (by decide +kernel) (by decide +kernel), by decide +kernel, by decide⟩
theorem iwX4_load : Cond.instanceMethod yX4_load ∈ vWords := vW 454 (by decide +kernel) (by decide +kernel)
theorem swX4_load : Cond.selects RX4 yX4_load yX4_load ∈ vWords := vW 455 (by decide +kernel) (by decide +kernel)
abbrev mX4_lowOf : vMt := (RX4, yX4_lowOf, cX4_lowOf, 7, (some .int))
theorem kX4_lowOf : vCal mX4_lowOf 2 := ⟨by decide, rfl, vW 464 (by decide +kernel) (by decide +kernel), vW 37 (by decide +kernel) (by decide +kernel), by decide +kernel, by decide⟩
theorem iwX4_lowOf : Cond.instanceMethod yX4_lowOf ∈ vWords := vW 462 (by decide +kernel) (by decide +kernel)
theorem swX4_lowOf : Cond.selects RX4 yX4_lowOf yX4_lowOf ∈ vWords := vW 463 (by decide +kernel) (by decide +kernel)
abbrev mX4_exhaustOf : vMt := (RX4, yX4_exhaustOf, cX4_exhaustOf, 2, (some .int))
theorem kX4_exhaustOf : vCal mX4_exhaustOf 1 := ⟨by decide, rfl, vW 468 (by decide +kernel) (by decide +kernel), vW 37 (by decide +kernel) (by decide +kernel), by decide +kernel, by decide⟩
theorem iwX4_exhaustOf : Cond.instanceMethod yX4_exhaustOf ∈ vWords := vW 466 (by decide +kernel) (by decide +kernel)
theorem swX4_exhaustOf : Cond.selects RX4 yX4_exhaustOf yX4_exhaustOf ∈ vWords := vW 467 (by decide +kernel) (by decide +kernel)
abbrev mX4_highOf : vMt := (RX4, yX4_highOf, cX4_highOf, 6, (some .int))
theorem kX4_highOf : vCal mX4_highOf 1 := ⟨by decide, rfl, vW 473 (by decide +kernel) (by decide +kernel), vW 37 (by decide +kernel) (by decide +kernel), by decide +kernel, by decide⟩
theorem iwX4_highOf : Cond.instanceMethod yX4_highOf ∈ vWords := vW 471 (by decide +kernel) (by decide +kernel)
theorem swX4_highOf : Cond.selects RX4 yX4_highOf yX4_highOf ∈ vWords := vW 472 (by decide +kernel) (by decide +kernel)
abbrev mX4_liftOf : vMt := (RX4, yX4_liftOf, cX4_liftOf, 3, (some .int))
theorem kX4_liftOf : vCal mX4_liftOf 1 := ⟨by decide, rfl, vW 477 (by decide +kernel) (by decide +kernel), vW 37 (by decide +kernel) (by decide +kernel), by decide +kernel, by decide⟩
theorem iwX4_liftOf : Cond.instanceMethod yX4_liftOf ∈ vWords := vW 475 (by decide +kernel) (by decide +kernel)
theorem swX4_liftOf : Cond.selects RX4 yX4_liftOf yX4_liftOf ∈ vWords := vW 476 (by decide +kernel) (by decide +kernel)
abbrev mX8_speed : vMt := (RX8, yX8_speed, cX8_speed, 4, (some .int))
theorem kX8_speed : vCal mX8_speed 1 := ⟨by decide, rfl, vW 481 (by decide +kernel) (by decide +kernel), vW 35 (by decide +kernel) (by decide +kernel), by decide +kernel, by decide⟩
theorem iwX8_speed : Cond.instanceMethod yX8_speed ∈ vWords := vW 479 (by decide +kernel) (by decide +kernel)
theorem swX8_speed : Cond.selects RX8 yX8_speed yX8_speed ∈ vWords := vW 480 (by decide +kernel) (by decide +kernel)
abbrev mX8_split : vMt := (RX8, yX8_split, cX8_split, 3, (some .int))
theorem kX8_split : vCal mX8_split 2 := ⟨by decide, rfl, vW 485 (by decide +kernel) (by decide +kernel), vW 35 (by decide +kernel) (by decide +kernel), by decide +kernel, by decide⟩
theorem iwX8_split : Cond.instanceMethod yX8_split ∈ vWords := vW 483 (by decide +kernel) (by decide +kernel)
theorem swX8_split : Cond.selects RX8 yX8_split yX8_split ∈ vWords := vW 484 (by decide +kernel) (by decide +kernel)
abbrev mX6_search : vMt := (RX6, yX6_search, cX6_search, 7, (some .int))
theorem kX6_search : vCal mX6_search 2 := ⟨by decide, rfl, vW 489 (by decide +kernel) (by decide +kernel), vW 39 (by decide +kernel) (by decide +kernel), by decide +kernel, by decide⟩
theorem iwX6_search : Cond.instanceMethod yX6_search ∈ vWords := vW 487 (by decide +kernel) (by decide +kernel)
theorem swX6_search : Cond.selects RX6 yX6_search yX6_search ∈ vWords := vW 488 (by decide +kernel) (by decide +kernel)
abbrev mX6_tankFor : vMt := (RX6, yX6_tankFor, cX6_tankFor, 2, (some .int))
theorem kX6_tankFor : vCal mX6_tankFor 1 := ⟨by decide, rfl, vW 495 (by decide +kernel) (by decide +kernel), vW 39 (by decide +kernel) (by decide +kernel), by decide +kernel, by decide⟩
theorem iwX6_tankFor : Cond.instanceMethod yX6_tankFor ∈ vWords := vW 494 (by decide +kernel) (by decide +kernel)
theorem swX6_tankFor : Cond.selects RX6 yX6_tankFor yX6_tankFor ∈ vWords := vW 0 (by decide +kernel) (by decide +kernel)
abbrev mX3_ready : vMt := (RX3, yX3_ready, cX3_ready, 7, none)
theorem kX3_ready : vCal mX3_ready 3 := ⟨by decide, rfl, vW 501 (by decide +kernel) (by decide +kernel), vW 38 (by decide +kernel) (by decide +kernel), by decide +kernel, by decide⟩
theorem iwX3_ready : Cond.instanceMethod yX3_ready ∈ vWords := vW 499 (by decide +kernel) (by decide +kernel)
theorem swX3_ready : Cond.selects RX3 yX3_ready yX3_ready ∈ vWords := vW 500 (by decide +kernel) (by decide +kernel)
abbrev mX6_fill : vMt := (RX6, yX6_fill, cX6_fill, 13, none)
theorem kX6_fill : vCal mX6_fill 3 := ⟨by decide, rfl, vW 510 (by decide +kernel) (by decide +kernel), vW 39 (by decide +kernel) (by decide +kernel), by decide +kernel, by decide⟩
theorem iwX6_fill : Cond.instanceMethod yX6_fill ∈ vWords := vW 509 (by decide +kernel) (by decide +kernel)
theorem swX6_fill : Cond.selects RX6 yX6_fill yX6_fill ∈ vWords := vW 1 (by decide +kernel) (by decide +kernel)
abbrev mX3_between : vMt := (RX3, yX3_between, cX3_between, 3, (some .int))
theorem kX3_between : vCal mX3_between 2 := ⟨by decide, rfl, vW 514 (by decide +kernel) (by decide +kernel), vW 38 (by decide +kernel) (by decide +kernel), by decide +kernel, by decide⟩
theorem iwX3_between : Cond.instanceMethod yX3_between ∈ vWords := vW 512 (by decide +kernel) (by decide +kernel)
theorem swX3_between : Cond.selects RX3 yX3_between yX3_between ∈ vWords := vW 513 (by decide +kernel) (by decide +kernel)
abbrev mX8_digitFor : vMt := (RX8, yX8_digitFor, cX8_digitFor, 2, (some .int))
theorem kX8_digitFor : vCal mX8_digitFor 2 := ⟨by decide, rfl, vW 517 (by decide +kernel) (by decide +kernel), vW 35 (by decide +kernel) (by decide +kernel), by decide +kernel, by decide⟩
theorem stX8_digitFor : Cond.static yX8_digitFor ∈ vWords := vW 516 (by decide +kernel) (by decide +kernel)
abbrev mX6_offer : vMt := (RX6, yX6_offer, cX6_offer, 4, none)
theorem kX6_offer : vCal mX6_offer 3 := ⟨by decide, rfl, vW 521 (by decide +kernel) (by decide +kernel), vW 39 (by decide +kernel) (by decide +kernel), by decide +kernel, by decide⟩
theorem iwX6_offer : Cond.instanceMethod yX6_offer ∈ vWords := vW 520 (by decide +kernel) (by decide +kernel)
theorem swX6_offer : Cond.selects RX6 yX6_offer yX6_offer ∈ vWords := vW 2 (by decide +kernel) (by decide +kernel)
abbrev mX6_tellBest : vMt := (RX6, yX6_tellBest, cX6_tellBest, 5, (some .int))
theorem kX6_tellBest : vCal mX6_tellBest 1 := ⟨by decide, rfl, vW 525 (by decide +kernel) (by decide +kernel), vW 39 (by decide +kernel) (by decide +kernel), by decide +kernel, by decide⟩
theorem iwX6_tellBest : Cond.instanceMethod yX6_tellBest ∈ vWords := vW 524 (by decide +kernel) (by decide +kernel)
theorem swX6_tellBest : Cond.selects RX6 yX6_tellBest yX6_tellBest ∈ vWords := vW 3 (by decide +kernel) (by decide +kernel)
abbrev mX8_lots : vMt := (RX8, yX8_lots, cX8_lots, 2, (some .int))
theorem kX8_lots : vCal mX8_lots 1 := ⟨by decide, rfl, vW 529 (by decide +kernel) (by decide +kernel), vW 35 (by decide +kernel) (by decide +kernel), by decide +kernel, by decide⟩
theorem iwX8_lots : Cond.instanceMethod yX8_lots ∈ vWords := vW 527 (by decide +kernel) (by decide +kernel)
theorem swX8_lots : Cond.selects RX8 yX8_lots yX8_lots ∈ vWords := vW 528 (by decide +kernel) (by decide +kernel)
abbrev mX8_digitIn : vMt := (RX8, yX8_digitIn, cX8_digitIn, 2, (some .int))
theorem kX8_digitIn : vCal mX8_digitIn 2 := ⟨by decide, rfl, vW 532 (by decide +kernel) (by decide +kernel), vW 35 (by decide +kernel) (by decide +kernel), by decide +kernel, by decide⟩
theorem stX8_digitIn : Cond.static yX8_digitIn ∈ vWords := vW 531 (by decide +kernel) (by decide +kernel)
abbrev mX8_cheapest : vMt := (RX8, yX8_cheapest, cX8_cheapest, 3, (some .int))
theorem kX8_cheapest : vCal mX8_cheapest 2 := ⟨by decide, rfl, vW 536 (by decide +kernel) (by decide +kernel), vW 35 (by decide +kernel) (by decide +kernel), by decide +kernel, by decide⟩
theorem iwX8_cheapest : Cond.instanceMethod yX8_cheapest ∈ vWords := vW 534 (by decide +kernel) (by decide +kernel)
theorem swX8_cheapest : Cond.selects RX8 yX8_cheapest yX8_cheapest ∈ vWords := vW 535 (by decide +kernel) (by decide +kernel)
abbrev mX0_search : vMt := (RX0, yX0_search, cX0_search, 6, (some .int))
theorem kX0_search : vCal mX0_search 2 := ⟨by decide, rfl, vW 541 (by decide +kernel) (by decide +kernel), vW 40 (by decide +kernel) (by decide +kernel), by decide +kernel, by decide⟩
theorem iwX0_search : Cond.instanceMethod yX0_search ∈ vWords := vW 539 (by decide +kernel) (by decide +kernel)
theorem swX0_search : Cond.selects RX0 yX0_search yX0_search ∈ vWords := vW 540 (by decide +kernel) (by decide +kernel)
abbrev mX0_keep : vMt := (RX0, yX0_keep, cX0_keep, 5, none)
theorem kX0_keep : vCal mX0_keep 4 := ⟨by decide, rfl, vW 546 (by decide +kernel) (by decide +kernel), vW 40 (by decide +kernel) (by decide +kernel), by decide +kernel, by decide⟩
theorem iwX0_keep : Cond.instanceMethod yX0_keep ∈ vWords := vW 545 (by decide +kernel) (by decide +kernel)
theorem swX0_keep : Cond.selects RX0 yX0_keep yX0_keep ∈ vWords := vW 4 (by decide +kernel) (by decide +kernel)
abbrev mX0_chooseFor : vMt := (RX0, yX0_chooseFor, cX0_chooseFor, 10, none)
theorem kX0_chooseFor : vCal mX0_chooseFor 3 := ⟨by decide, rfl, vW 550 (by decide +kernel) (by decide +kernel), vW 40 (by decide +kernel) (by decide +kernel), by decide +kernel, by decide⟩
theorem iwX0_chooseFor : Cond.instanceMethod yX0_chooseFor ∈ vWords := vW 549 (by decide +kernel) (by decide +kernel)
theorem swX0_chooseFor : Cond.selects RX0 yX0_chooseFor yX0_chooseFor ∈ vWords := vW 5 (by decide +kernel) (by decide +kernel)
abbrev mX0_chooseEngine : vMt := (RX0, yX0_chooseEngine, cX0_chooseEngine, 11, none)
theorem kX0_chooseEngine : vCal mX0_chooseEngine 4 := ⟨by decide, rfl, vW 559 (by decide +kernel) (by decide +kernel), vW 40 (by decide +kernel) (by decide +kernel), by decide +kernel, by decide⟩
theorem iwX0_chooseEngine : Cond.instanceMethod yX0_chooseEngine ∈ vWords := vW 558 (by decide +kernel) (by decide +kernel)
theorem swX0_chooseEngine : Cond.selects RX0 yX0_chooseEngine yX0_chooseEngine ∈ vWords := vW 6 (by decide +kernel) (by decide +kernel)
abbrev mX0_lifts : vMt := (RX0, yX0_lifts, cX0_lifts, 4, (some .boolean))
theorem kX0_lifts : vCal mX0_lifts 3 := ⟨by decide, rfl, vW 563 (by decide +kernel) (by decide +kernel), vW 40 (by decide +kernel) (by decide +kernel), by decide +kernel, by decide⟩
theorem iwX0_lifts : Cond.instanceMethod yX0_lifts ∈ vWords := vW 562 (by decide +kernel) (by decide +kernel)
theorem swX0_lifts : Cond.selects RX0 yX0_lifts yX0_lifts ∈ vWords := vW 7 (by decide +kernel) (by decide +kernel)
abbrev mX0_optionOf : vMt := (RX0, yX0_optionOf, cX0_optionOf, 2, (some .int))
theorem kX0_optionOf : vCal mX0_optionOf 2 := ⟨by decide, rfl, vW 567 (by decide +kernel) (by decide +kernel), vW 40 (by decide +kernel) (by decide +kernel), by decide +kernel, by decide⟩
theorem stX0_optionOf : Cond.static yX0_optionOf ∈ vWords := vW 566 (by decide +kernel) (by decide +kernel)
abbrev mX0_offer : vMt := (RX0, yX0_offer, cX0_offer, 4, none)
theorem kX0_offer : vCal mX0_offer 3 := ⟨by decide, rfl, vW 572 (by decide +kernel) (by decide +kernel), vW 40 (by decide +kernel) (by decide +kernel), by decide +kernel, by decide⟩
theorem iwX0_offer : Cond.instanceMethod yX0_offer ∈ vWords := vW 571 (by decide +kernel) (by decide +kernel)
theorem swX0_offer : Cond.selects RX0 yX0_offer yX0_offer ∈ vWords := vW 8 (by decide +kernel) (by decide +kernel)
abbrev mX8_chosen : vMt := (RX8, yX8_chosen, cX8_chosen, 4, (some .int))
theorem kX8_chosen : vCal mX8_chosen 2 := ⟨by decide, rfl, vW 576 (by decide +kernel) (by decide +kernel), vW 35 (by decide +kernel) (by decide +kernel), by decide +kernel, by decide⟩
theorem iwX8_chosen : Cond.instanceMethod yX8_chosen ∈ vWords := vW 574 (by decide +kernel) (by decide +kernel)
theorem swX8_chosen : Cond.selects RX8 yX8_chosen yX8_chosen ∈ vWords := vW 575 (by decide +kernel) (by decide +kernel)
abbrev mX0_engineIn : vMt := (RX0, yX0_engineIn, cX0_engineIn, 1, (some .int))
theorem kX0_engineIn : vCal mX0_engineIn 1 := ⟨by decide, rfl, vW 579 (by decide +kernel) (by decide +kernel), vW 40 (by decide +kernel) (by decide +kernel), by decide +kernel, by decide⟩
theorem stX0_engineIn : Cond.static yX0_engineIn ∈ vWords := vW 578 (by decide +kernel) (by decide +kernel)
abbrev mX0_manyIn : vMt := (RX0, yX0_manyIn, cX0_manyIn, 1, (some .int))
theorem kX0_manyIn : vCal mX0_manyIn 1 := ⟨by decide, rfl, vW 582 (by decide +kernel) (by decide +kernel), vW 40 (by decide +kernel) (by decide +kernel), by decide +kernel, by decide⟩
theorem stX0_manyIn : Cond.static yX0_manyIn ∈ vWords := vW 581 (by decide +kernel) (by decide +kernel)
abbrev mX8_air : vMt := (RX8, yX8_air, cX8_air, 3, (some .int))
theorem kX8_air : vCal mX8_air 2 := ⟨by decide, rfl, vW 586 (by decide +kernel) (by decide +kernel), vW 35 (by decide +kernel) (by decide +kernel), by decide +kernel, by decide⟩
theorem iwX8_air : Cond.instanceMethod yX8_air ∈ vWords := vW 584 (by decide +kernel) (by decide +kernel)
theorem swX8_air : Cond.selects RX8 yX8_air yX8_air ∈ vWords := vW 585 (by decide +kernel) (by decide +kernel)
abbrev mX8_limit : vMt := (RX8, yX8_limit, cX8_limit, 3, (some .int))
theorem kX8_limit : vCal mX8_limit 2 := ⟨by decide, rfl, vW 590 (by decide +kernel) (by decide +kernel), vW 35 (by decide +kernel) (by decide +kernel), by decide +kernel, by decide⟩
theorem iwX8_limit : Cond.instanceMethod yX8_limit ∈ vWords := vW 588 (by decide +kernel) (by decide +kernel)
theorem swX8_limit : Cond.selects RX8 yX8_limit yX8_limit ∈ vWords := vW 589 (by decide +kernel) (by decide +kernel)
abbrev mX8_fly : vMt := (RX8, yX8_fly, cX8_fly, 1, (some .int))
theorem kX8_fly : vCal mX8_fly 0 := ⟨by decide, rfl, vW 594 (by decide +kernel) (by decide +kernel), vW 35 (by decide +kernel) (by decide +kernel), by decide +kernel, by decide⟩
theorem iwX8_fly : Cond.instanceMethod yX8_fly ∈ vWords := vW 592 (by decide +kernel) (by decide +kernel)
theorem swX8_fly : Cond.selects RX8 yX8_fly yX8_fly ∈ vWords := vW 593 (by decide +kernel) (by decide +kernel)
abbrev mX4_allStuff : vMt := (RX4, yX4_allStuff, cX4_allStuff, 3, (some .int))
theorem kX4_allStuff : vCal mX4_allStuff 0 := ⟨by decide, rfl, vW 598 (by decide +kernel) (by decide +kernel), vW 37 (by decide +kernel) (by decide +kernel), by decide +kernel, by decide⟩
theorem iwX4_allStuff : Cond.instanceMethod yX4_allStuff ∈ vWords := vW 596 (by decide +kernel) (by decide +kernel)
theorem swX4_allStuff : Cond.selects RX4 yX4_allStuff yX4_allStuff ∈ vWords := vW 597 (by decide +kernel) (by decide +kernel)
abbrev mX2_begin : vMt := (RX2, yX2_begin, cX2_begin, 1, none)
theorem kX2_begin : vCal mX2_begin 0 := ⟨by decide, rfl, vW 602 (by decide +kernel) (by decide +kernel), vW 42 (by decide +kernel) (by decide +kernel), by decide +kernel, by decide⟩
theorem iwX2_begin : Cond.instanceMethod yX2_begin ∈ vWords := vW 600 (by decide +kernel) (by decide +kernel)
theorem swX2_begin : Cond.selects RX2 yX2_begin yX2_begin ∈ vWords := vW 601 (by decide +kernel) (by decide +kernel)
abbrev mX2_readyLowest : vMt := (RX2, yX2_readyLowest, cX2_readyLowest, 2, none)
theorem kX2_readyLowest : vCal mX2_readyLowest 0 := ⟨by decide, rfl, vW 608 (by decide +kernel) (by decide +kernel), vW 42 (by decide +kernel) (by decide +kernel), by decide +kernel, by decide⟩
theorem iwX2_readyLowest : Cond.instanceMethod yX2_readyLowest ∈ vWords := vW 607 (by decide +kernel) (by decide +kernel)
theorem swX2_readyLowest : Cond.selects RX2 yX2_readyLowest yX2_readyLowest ∈ vWords := vW 9 (by decide +kernel) (by decide +kernel)
abbrev mX2_goOn : vMt := (RX2, yX2_goOn, cX2_goOn, 4, none)
theorem kX2_goOn : vCal mX2_goOn 2 := ⟨by decide, rfl, vW 613 (by decide +kernel) (by decide +kernel), vW 42 (by decide +kernel) (by decide +kernel), by decide +kernel, by decide⟩
theorem iwX2_goOn : Cond.instanceMethod yX2_goOn ∈ vWords := vW 611 (by decide +kernel) (by decide +kernel)
theorem swX2_goOn : Cond.selects RX2 yX2_goOn yX2_goOn ∈ vWords := vW 612 (by decide +kernel) (by decide +kernel)
abbrev mX2_goesOn : vMt := (RX2, yX2_goesOn, cX2_goesOn, 1, (some .boolean))
theorem kX2_goesOn : vCal mX2_goesOn 0 := ⟨by decide, rfl, vW 617 (by decide +kernel) (by decide +kernel), vW 42 (by decide +kernel) (by decide +kernel), by decide +kernel, by decide⟩
theorem iwX2_goesOn : Cond.instanceMethod yX2_goesOn ∈ vWords := vW 615 (by decide +kernel) (by decide +kernel)
theorem swX2_goesOn : Cond.selects RX2 yX2_goesOn yX2_goesOn ∈ vWords := vW 616 (by decide +kernel) (by decide +kernel)
abbrev mX2_burnLowest : vMt := (RX2, yX2_burnLowest, cX2_burnLowest, 11, none)
theorem kX2_burnLowest : vCal mX2_burnLowest 2 := ⟨by decide, rfl, vW 621 (by decide +kernel) (by decide +kernel), vW 42 (by decide +kernel) (by decide +kernel), by decide +kernel, by decide⟩
theorem iwX2_burnLowest : Cond.instanceMethod yX2_burnLowest ∈ vWords := vW 620 (by decide +kernel) (by decide +kernel)
theorem swX2_burnLowest : Cond.selects RX2 yX2_burnLowest yX2_burnLowest ∈ vWords := vW 10 (by decide +kernel) (by decide +kernel)
abbrev mX5_dragOf : vMt := (RX5, yX5_dragOf, cX5_dragOf, 5, (some .int))
theorem kX5_dragOf : vCal mX5_dragOf 2 := ⟨by decide, rfl, vW 626 (by decide +kernel) (by decide +kernel), vW 41 (by decide +kernel) (by decide +kernel), by decide +kernel, by decide⟩
theorem iwX5_dragOf : Cond.instanceMethod yX5_dragOf ∈ vWords := vW 624 (by decide +kernel) (by decide +kernel)
theorem swX5_dragOf : Cond.selects RX5 yX5_dragOf yX5_dragOf ∈ vWords := vW 625 (by decide +kernel) (by decide +kernel)
abbrev mX2_noteLoading : vMt := (RX2, yX2_noteLoading, cX2_noteLoading, 3, none)
theorem kX2_noteLoading : vCal mX2_noteLoading 2 := ⟨by decide, rfl, vW 631 (by decide +kernel) (by decide +kernel), vW 42 (by decide +kernel) (by decide +kernel), by decide +kernel, by decide⟩
theorem iwX2_noteLoading : Cond.instanceMethod yX2_noteLoading ∈ vWords := vW 630 (by decide +kernel) (by decide +kernel)
theorem swX2_noteLoading : Cond.selects RX2 yX2_noteLoading yX2_noteLoading ∈ vWords := vW 11 (by decide +kernel) (by decide +kernel)
abbrev mX2_dropLowest : vMt := (RX2, yX2_dropLowest, cX2_dropLowest, 1, none)
theorem kX2_dropLowest : vCal mX2_dropLowest 0 := ⟨by decide, rfl, vW 638 (by decide +kernel) (by decide +kernel), vW 42 (by decide +kernel) (by decide +kernel), by decide +kernel, by decide⟩
theorem iwX2_dropLowest : Cond.instanceMethod yX2_dropLowest ∈ vWords := vW 637 (by decide +kernel) (by decide +kernel)
theorem swX2_dropLowest : Cond.selects RX2 yX2_dropLowest yX2_dropLowest ∈ vWords := vW 12 (by decide +kernel) (by decide +kernel)
abbrev mX2_breakNow : vMt := (RX2, yX2_breakNow, cX2_breakNow, 1, (some .int))
theorem kX2_breakNow : vCal mX2_breakNow 0 := ⟨by decide, rfl, vW 643 (by decide +kernel) (by decide +kernel), vW 42 (by decide +kernel) (by decide +kernel), by decide +kernel, by decide⟩
theorem iwX2_breakNow : Cond.instanceMethod yX2_breakNow ∈ vWords := vW 641 (by decide +kernel) (by decide +kernel)
theorem swX2_breakNow : Cond.selects RX2 yX2_breakNow yX2_breakNow ∈ vWords := vW 642 (by decide +kernel) (by decide +kernel)
abbrev mX8_flown : vMt := (RX8, yX8_flown, cX8_flown, 2, (some .int))
theorem kX8_flown : vCal mX8_flown 1 := ⟨by decide, rfl, vW 647 (by decide +kernel) (by decide +kernel), vW 35 (by decide +kernel) (by decide +kernel), by decide +kernel, by decide⟩
theorem iwX8_flown : Cond.instanceMethod yX8_flown ∈ vWords := vW 645 (by decide +kernel) (by decide +kernel)
theorem swX8_flown : Cond.selects RX8 yX8_flown yX8_flown ∈ vWords := vW 646 (by decide +kernel) (by decide +kernel)
abbrev mX8_out : vMt := (RX8, yX8_out, cX8_out, 2, (some .int))
theorem kX8_out : vCal mX8_out 1 := ⟨by decide, rfl, vW 651 (by decide +kernel) (by decide +kernel), vW 35 (by decide +kernel) (by decide +kernel), by decide +kernel, by decide⟩
theorem iwX8_out : Cond.instanceMethod yX8_out ∈ vWords := vW 649 (by decide +kernel) (by decide +kernel)
theorem swX8_out : Cond.selects RX8 yX8_out yX8_out ∈ vWords := vW 650 (by decide +kernel) (by decide +kernel)
abbrev mX2_loseEngine : vMt := (RX2, yX2_loseEngine, cX2_loseEngine, 2, none)
theorem kX2_loseEngine : vCal mX2_loseEngine 0 := ⟨by decide, rfl, vW 655 (by decide +kernel) (by decide +kernel), vW 42 (by decide +kernel) (by decide +kernel), by decide +kernel, by decide⟩
theorem iwX2_loseEngine : Cond.instanceMethod yX2_loseEngine ∈ vWords := vW 653 (by decide +kernel) (by decide +kernel)
theorem swX2_loseEngine : Cond.selects RX2 yX2_loseEngine yX2_loseEngine ∈ vWords := vW 654 (by decide +kernel) (by decide +kernel)
abbrev mX8_safe : vMt := (RX8, yX8_safe, cX8_safe, 3, (some .int))
theorem kX8_safe : vCal mX8_safe 0 := ⟨by decide, rfl, vW 659 (by decide +kernel) (by decide +kernel), vW 35 (by decide +kernel) (by decide +kernel), by decide +kernel, by decide⟩
theorem iwX8_safe : Cond.instanceMethod yX8_safe ∈ vWords := vW 657 (by decide +kernel) (by decide +kernel)
theorem swX8_safe : Cond.selects RX8 yX8_safe yX8_safe ∈ vWords := vW 658 (by decide +kernel) (by decide +kernel)
abbrev mX2_copyOf : vMt := (RX2, yX2_copyOf, cX2_copyOf, 2, none)
theorem kX2_copyOf : vCal mX2_copyOf 1 := ⟨by decide, rfl, vW 664 (by decide +kernel) (by decide +kernel), vW 42 (by decide +kernel) (by decide +kernel), by decide +kernel, by decide⟩
theorem iwX2_copyOf : Cond.instanceMethod yX2_copyOf ∈ vWords := vW 662 (by decide +kernel) (by decide +kernel)
theorem swX2_copyOf : Cond.selects RX2 yX2_copyOf yX2_copyOf ∈ vWords := vW 663 (by decide +kernel) (by decide +kernel)
abbrev mX8_cost : vMt := (RX8, yX8_cost, cX8_cost, 3, (some .int))
theorem kX8_cost : vCal mX8_cost 2 := ⟨by decide, rfl, vW 668 (by decide +kernel) (by decide +kernel), vW 35 (by decide +kernel) (by decide +kernel), by decide +kernel, by decide⟩
theorem iwX8_cost : Cond.instanceMethod yX8_cost ∈ vWords := vW 666 (by decide +kernel) (by decide +kernel)
theorem swX8_cost : Cond.selects RX8 yX8_cost yX8_cost ∈ vWords := vW 667 (by decide +kernel) (by decide +kernel)
abbrev mX1_costAt : vMt := (RX1, yX1_costAt, cX1_costAt, 6, (some .int))
theorem kX1_costAt : vCal mX1_costAt 3 := ⟨by decide, rfl, vW 672 (by decide +kernel) (by decide +kernel), vW 36 (by decide +kernel) (by decide +kernel), by decide +kernel, by decide⟩
theorem iwX1_costAt : Cond.instanceMethod yX1_costAt ∈ vWords := vW 670 (by decide +kernel) (by decide +kernel)
theorem swX1_costAt : Cond.selects RX1 yX1_costAt yX1_costAt ∈ vWords := vW 671 (by decide +kernel) (by decide +kernel)
abbrev mX1_nextCost : vMt := (RX1, yX1_nextCost, cX1_nextCost, 2, (some .int))
theorem kX1_nextCost : vCal mX1_nextCost 2 := ⟨by decide, rfl, vW 676 (by decide +kernel) (by decide +kernel), vW 36 (by decide +kernel) (by decide +kernel), by decide +kernel, by decide⟩
theorem stX1_nextCost : Cond.static yX1_nextCost ∈ vWords := vW 675 (by decide +kernel) (by decide +kernel)
abbrev mX8_price : vMt := (RX8, yX8_price, cX8_price, 1, (some .int))
theorem kX8_price : vCal mX8_price 0 := ⟨by decide, rfl, vW 681 (by decide +kernel) (by decide +kernel), vW 35 (by decide +kernel) (by decide +kernel), by decide +kernel, by decide⟩
theorem iwX8_price : Cond.instanceMethod yX8_price ∈ vWords := vW 679 (by decide +kernel) (by decide +kernel)
theorem swX8_price : Cond.selects RX8 yX8_price yX8_price ∈ vWords := vW 680 (by decide +kernel) (by decide +kernel)
abbrev mX4_priceNow : vMt := (RX4, yX4_priceNow, cX4_priceNow, 3, (some .int))
theorem kX4_priceNow : vCal mX4_priceNow 0 := ⟨by decide, rfl, vW 685 (by decide +kernel) (by decide +kernel), vW 37 (by decide +kernel) (by decide +kernel), by decide +kernel, by decide⟩
theorem iwX4_priceNow : Cond.instanceMethod yX4_priceNow ∈ vWords := vW 683 (by decide +kernel) (by decide +kernel)
theorem swX4_priceNow : Cond.selects RX4 yX4_priceNow yX4_priceNow ∈ vWords := vW 684 (by decide +kernel) (by decide +kernel)
abbrev mX4_neededOf : vMt := (RX4, yX4_neededOf, cX4_neededOf, 4, (some .int))
theorem kX4_neededOf : vCal mX4_neededOf 1 := ⟨by decide, rfl, vW 689 (by decide +kernel) (by decide +kernel), vW 37 (by decide +kernel) (by decide +kernel), by decide +kernel, by decide⟩
theorem iwX4_neededOf : Cond.instanceMethod yX4_neededOf ∈ vWords := vW 687 (by decide +kernel) (by decide +kernel)
theorem swX4_neededOf : Cond.selects RX4 yX4_neededOf yX4_neededOf ∈ vWords := vW 688 (by decide +kernel) (by decide +kernel)
abbrev mX1_costOfMissing : vMt := (RX1, yX1_costOfMissing, cX1_costOfMissing, 8, (some .int))
theorem kX1_costOfMissing : vCal mX1_costOfMissing 3 := ⟨by decide, rfl, vW 693 (by decide +kernel) (by decide +kernel), vW 36 (by decide +kernel) (by decide +kernel), by decide +kernel, by decide⟩
theorem iwX1_costOfMissing : Cond.instanceMethod yX1_costOfMissing ∈ vWords := vW 691 (by decide +kernel) (by decide +kernel)
theorem swX1_costOfMissing : Cond.selects RX1 yX1_costOfMissing yX1_costOfMissing ∈ vWords := vW 692 (by decide +kernel) (by decide +kernel)
abbrev mX1_missing : vMt := (RX1, yX1_missing, cX1_missing, 3, (some .int))
theorem kX1_missing : vCal mX1_missing 2 := ⟨by decide, rfl, vW 697 (by decide +kernel) (by decide +kernel), vW 36 (by decide +kernel) (by decide +kernel), by decide +kernel, by decide⟩
theorem iwX1_missing : Cond.instanceMethod yX1_missing ∈ vWords := vW 695 (by decide +kernel) (by decide +kernel)
theorem swX1_missing : Cond.selects RX1 yX1_missing yX1_missing ∈ vWords := vW 696 (by decide +kernel) (by decide +kernel)
abbrev mX8_buy : vMt := (RX8, yX8_buy, cX8_buy, 3, (some .int))
theorem kX8_buy : vCal mX8_buy 0 := ⟨by decide, rfl, vW 702 (by decide +kernel) (by decide +kernel), vW 35 (by decide +kernel) (by decide +kernel), by decide +kernel, by decide⟩
theorem iwX8_buy : Cond.instanceMethod yX8_buy ∈ vWords := vW 700 (by decide +kernel) (by decide +kernel)
theorem swX8_buy : Cond.selects RX8 yX8_buy yX8_buy ∈ vWords := vW 701 (by decide +kernel) (by decide +kernel)
abbrev mX1_take : vMt := (RX1, yX1_take, cX1_take, 4, none)
theorem kX1_take : vCal mX1_take 2 := ⟨by decide, rfl, vW 708 (by decide +kernel) (by decide +kernel), vW 36 (by decide +kernel) (by decide +kernel), by decide +kernel, by decide⟩
theorem iwX1_take : Cond.instanceMethod yX1_take ∈ vWords := vW 706 (by decide +kernel) (by decide +kernel)
theorem swX1_take : Cond.selects RX1 yX1_take yX1_take ∈ vWords := vW 707 (by decide +kernel) (by decide +kernel)
abbrev mX8_keeping : vMt := (RX8, yX8_keeping, cX8_keeping, 3, (some .int))
theorem kX8_keeping : vCal mX8_keeping 2 := ⟨by decide, rfl, vW 712 (by decide +kernel) (by decide +kernel), vW 35 (by decide +kernel) (by decide +kernel), by decide +kernel, by decide⟩
theorem iwX8_keeping : Cond.instanceMethod yX8_keeping ∈ vWords := vW 710 (by decide +kernel) (by decide +kernel)
theorem swX8_keeping : Cond.selects RX8 yX8_keeping yX8_keeping ∈ vWords := vW 711 (by decide +kernel) (by decide +kernel)
abbrev mX8_even : vMt := (RX8, yX8_even, cX8_even, 9, (some .int))
theorem kX8_even : vCal mX8_even 3 := ⟨by decide, rfl, vW 716 (by decide +kernel) (by decide +kernel), vW 35 (by decide +kernel) (by decide +kernel), by decide +kernel, by decide⟩
theorem iwX8_even : Cond.instanceMethod yX8_even ∈ vWords := vW 714 (by decide +kernel) (by decide +kernel)
theorem swX8_even : Cond.selects RX8 yX8_even yX8_even ∈ vWords := vW 715 (by decide +kernel) (by decide +kernel)
abbrev mX4_enginesCost : vMt := (RX4, yX4_enginesCost, cX4_enginesCost, 2, (some .int))
theorem kX4_enginesCost : vCal mX4_enginesCost 1 := ⟨by decide, rfl, vW 721 (by decide +kernel) (by decide +kernel), vW 37 (by decide +kernel) (by decide +kernel), by decide +kernel, by decide⟩
theorem iwX4_enginesCost : Cond.instanceMethod yX4_enginesCost ∈ vWords := vW 719 (by decide +kernel) (by decide +kernel)
theorem swX4_enginesCost : Cond.selects RX4 yX4_enginesCost yX4_enginesCost ∈ vWords := vW 720 (by decide +kernel) (by decide +kernel)
abbrev mX8_flight : vMt := (RX8, yX8_flight, cX8_flight, 6, (some .int))
theorem kX8_flight : vCal mX8_flight 5 := ⟨by decide, rfl, vW 726 (by decide +kernel) (by decide +kernel), vW 35 (by decide +kernel) (by decide +kernel), by decide +kernel, by decide⟩
theorem iwX8_flight : Cond.instanceMethod yX8_flight ∈ vWords := vW 724 (by decide +kernel) (by decide +kernel)
theorem swX8_flight : Cond.selects RX8 yX8_flight yX8_flight ∈ vWords := vW 725 (by decide +kernel) (by decide +kernel)
abbrev mX7_add : vMt := (RX7, yX7_add, cX7_add, 7, (some .int))
theorem kX7_add : vCal mX7_add 5 := ⟨by decide, rfl, vW 730 (by decide +kernel) (by decide +kernel), vW 43 (by decide +kernel) (by decide +kernel), by decide +kernel, by decide⟩
theorem iwX7_add : Cond.instanceMethod yX7_add ∈ vWords := vW 728 (by decide +kernel) (by decide +kernel)
theorem swX7_add : Cond.selects RX7 yX7_add yX7_add ∈ vWords := vW 729 (by decide +kernel) (by decide +kernel)
abbrev mX8_deliver : vMt := (RX8, yX8_deliver, cX8_deliver, 4, (some .int))
theorem kX8_deliver : vCal mX8_deliver 3 := ⟨by decide, rfl, vW 734 (by decide +kernel) (by decide +kernel), vW 35 (by decide +kernel) (by decide +kernel), by decide +kernel, by decide⟩
theorem iwX8_deliver : Cond.instanceMethod yX8_deliver ∈ vWords := vW 732 (by decide +kernel) (by decide +kernel)
theorem swX8_deliver : Cond.selects RX8 yX8_deliver yX8_deliver ∈ vWords := vW 733 (by decide +kernel) (by decide +kernel)
abbrev mX8_year : vMt := (RX8, yX8_year, cX8_year, 1, (some .int))
theorem kX8_year : vCal mX8_year 0 := ⟨by decide, rfl, vW 738 (by decide +kernel) (by decide +kernel), vW 35 (by decide +kernel) (by decide +kernel), by decide +kernel, by decide⟩
theorem iwX8_year : Cond.instanceMethod yX8_year ∈ vWords := vW 736 (by decide +kernel) (by decide +kernel)
theorem swX8_year : Cond.selects RX8 yX8_year yX8_year ∈ vWords := vW 737 (by decide +kernel) (by decide +kernel)
abbrev mX7_search : vMt := (RX7, yX7_search, cX7_search, 4, none)
theorem kX7_search : vCal mX7_search 0 := ⟨by decide, rfl, vW 742 (by decide +kernel) (by decide +kernel), vW 43 (by decide +kernel) (by decide +kernel), by decide +kernel, by decide⟩
theorem iwX7_search : Cond.instanceMethod yX7_search ∈ vWords := vW 740 (by decide +kernel) (by decide +kernel)
theorem swX7_search : Cond.selects RX7 yX7_search yX7_search ∈ vWords := vW 741 (by decide +kernel) (by decide +kernel)
abbrev mX7_choose : vMt := (RX7, yX7_choose, cX7_choose, 12, none)
theorem kX7_choose : vCal mX7_choose 6 := ⟨by decide, rfl, vW 746 (by decide +kernel) (by decide +kernel), vW 43 (by decide +kernel) (by decide +kernel), by decide +kernel, by decide⟩
theorem iwX7_choose : Cond.instanceMethod yX7_choose ∈ vWords := vW 745 (by decide +kernel) (by decide +kernel)
theorem swX7_choose : Cond.selects RX7 yX7_choose yX7_choose ∈ vWords := vW 13 (by decide +kernel) (by decide +kernel)
abbrev mX7_offer : vMt := (RX7, yX7_offer, cX7_offer, 3, none)
theorem kX7_offer : vCal mX7_offer 2 := ⟨by decide, rfl, vW 750 (by decide +kernel) (by decide +kernel), vW 43 (by decide +kernel) (by decide +kernel), by decide +kernel, by decide⟩
theorem iwX7_offer : Cond.instanceMethod yX7_offer ∈ vWords := vW 749 (by decide +kernel) (by decide +kernel)
theorem swX7_offer : Cond.selects RX7 yX7_offer yX7_offer ∈ vWords := vW 14 (by decide +kernel) (by decide +kernel)
abbrev mX8_flights : vMt := (RX8, yX8_flights, cX8_flights, 1, (some .int))
theorem kX8_flights : vCal mX8_flights 0 := ⟨by decide, rfl, vW 754 (by decide +kernel) (by decide +kernel), vW 35 (by decide +kernel) (by decide +kernel), by decide +kernel, by decide⟩
theorem iwX8_flights : Cond.instanceMethod yX8_flights ∈ vWords := vW 752 (by decide +kernel) (by decide +kernel)
theorem swX8_flights : Cond.selects RX8 yX8_flights yX8_flights ∈ vWords := vW 753 (by decide +kernel) (by decide +kernel)
abbrev mX8_count : vMt := (RX8, yX8_count, cX8_count, 2, (some .int))
theorem kX8_count : vCal mX8_count 1 := ⟨by decide, rfl, vW 758 (by decide +kernel) (by decide +kernel), vW 35 (by decide +kernel) (by decide +kernel), by decide +kernel, by decide⟩
theorem iwX8_count : Cond.instanceMethod yX8_count ∈ vWords := vW 756 (by decide +kernel) (by decide +kernel)
theorem swX8_count : Cond.selects RX8 yX8_count yX8_count ∈ vWords := vW 757 (by decide +kernel) (by decide +kernel)
abbrev mX8_sumOf : vMt := (RX8, yX8_sumOf, cX8_sumOf, 6, (some .int))
theorem kX8_sumOf : vCal mX8_sumOf 1 := ⟨by decide, rfl, vW 761 (by decide +kernel) (by decide +kernel), vW 35 (by decide +kernel) (by decide +kernel), by decide +kernel, by decide⟩
theorem stX8_sumOf : Cond.static yX8_sumOf ∈ vWords := vW 760 (by decide +kernel) (by decide +kernel)
abbrev mX9_init : vMt := (RX9, yX9_init, cX9_init, 2, none)
theorem kX9_init : vCal mX9_init 0 := ⟨by decide, rfl, vW 766 (by decide +kernel) (by decide +kernel), vW 44 (by decide +kernel) (by decide +kernel), by decide +kernel, by decide⟩
theorem iwX9_init : Cond.instanceMethod yX9_init ∈ vWords := vW 765 (by decide +kernel) (by decide +kernel)
abbrev mX9_engine : vMt := (RX9, yX9_engine, cX9_engine, 5, (some .int))
theorem kX9_engine : vCal mX9_engine 4 := ⟨by decide, rfl, vW 916 (by decide +kernel) (by decide +kernel), vW 44 (by decide +kernel) (by decide +kernel), by decide +kernel, by decide⟩
theorem iwX9_engine : Cond.instanceMethod yX9_engine ∈ vWords := vW 914 (by decide +kernel) (by decide +kernel)
theorem swX9_engine : Cond.selects RX9 yX9_engine yX9_engine ∈ vWords := vW 915 (by decide +kernel) (by decide +kernel)
abbrev mX9_isIn : vMt := (RX9, yX9_isIn, cX9_isIn, 6, (some .boolean))
theorem kX9_isIn : vCal mX9_isIn 3 := ⟨by decide, rfl, vW 920 (by decide +kernel) (by decide +kernel), vW 44 (by decide +kernel) (by decide +kernel), by decide +kernel, by decide⟩
theorem stX9_isIn : Cond.static yX9_isIn ∈ vWords := vW 919 (by decide +kernel) (by decide +kernel)
abbrev mX9_store : vMt := (RX9, yX9_store, cX9_store, 3, (some .int))
theorem kX9_store : vCal mX9_store 2 := ⟨by decide, rfl, vW 926 (by decide +kernel) (by decide +kernel), vW 44 (by decide +kernel) (by decide +kernel), by decide +kernel, by decide⟩
theorem iwX9_store : Cond.instanceMethod yX9_store ∈ vWords := vW 924 (by decide +kernel) (by decide +kernel)
theorem swX9_store : Cond.selects RX9 yX9_store yX9_store ∈ vWords := vW 925 (by decide +kernel) (by decide +kernel)
abbrev mX9_isEngine : vMt := (RX9, yX9_isEngine, cX9_isEngine, 2, (some .boolean))
theorem kX9_isEngine : vCal mX9_isEngine 1 := ⟨by decide, rfl, vW 930 (by decide +kernel) (by decide +kernel), vW 44 (by decide +kernel) (by decide +kernel), by decide +kernel, by decide⟩
theorem iwX9_isEngine : Cond.instanceMethod yX9_isEngine ∈ vWords := vW 929 (by decide +kernel) (by decide +kernel)
theorem swX9_isEngine : Cond.selects RX9 yX9_isEngine yX9_isEngine ∈ vWords := vW 15 (by decide +kernel) (by decide +kernel)
abbrev mX9_stage : vMt := (RX9, yX9_stage, cX9_stage, 5, (some .int))
theorem kX9_stage : vCal mX9_stage 4 := ⟨by decide, rfl, vW 934 (by decide +kernel) (by decide +kernel), vW 44 (by decide +kernel) (by decide +kernel), by decide +kernel, by decide⟩
theorem iwX9_stage : Cond.instanceMethod yX9_stage ∈ vWords := vW 932 (by decide +kernel) (by decide +kernel)
theorem swX9_stage : Cond.selects RX9 yX9_stage yX9_stage ∈ vWords := vW 933 (by decide +kernel) (by decide +kernel)
abbrev mX9_undo : vMt := (RX9, yX9_undo, cX9_undo, 1, (some .int))
theorem kX9_undo : vCal mX9_undo 0 := ⟨by decide, rfl, vW 940 (by decide +kernel) (by decide +kernel), vW 44 (by decide +kernel) (by decide +kernel), by decide +kernel, by decide⟩
theorem iwX9_undo : Cond.instanceMethod yX9_undo ∈ vWords := vW 938 (by decide +kernel) (by decide +kernel)
theorem swX9_undo : Cond.selects RX9 yX9_undo yX9_undo ∈ vWords := vW 939 (by decide +kernel) (by decide +kernel)
abbrev mX9_stuff : vMt := (RX9, yX9_stuff, cX9_stuff, 4, (some .int))
theorem kX9_stuff : vCal mX9_stuff 2 := ⟨by decide, rfl, vW 944 (by decide +kernel) (by decide +kernel), vW 44 (by decide +kernel) (by decide +kernel), by decide +kernel, by decide⟩
theorem iwX9_stuff : Cond.instanceMethod yX9_stuff ∈ vWords := vW 942 (by decide +kernel) (by decide +kernel)
theorem swX9_stuff : Cond.selects RX9 yX9_stuff yX9_stuff ∈ vWords := vW 943 (by decide +kernel) (by decide +kernel)
abbrev mX9_isStage : vMt := (RX9, yX9_isStage, cX9_isStage, 2, (some .boolean))
theorem kX9_isStage : vCal mX9_isStage 1 := ⟨by decide, rfl, vW 948 (by decide +kernel) (by decide +kernel), vW 44 (by decide +kernel) (by decide +kernel), by decide +kernel, by decide⟩
theorem iwX9_isStage : Cond.instanceMethod yX9_isStage ∈ vWords := vW 947 (by decide +kernel) (by decide +kernel)
theorem swX9_isStage : Cond.selects RX9 yX9_isStage yX9_isStage ∈ vWords := vW 16 (by decide +kernel) (by decide +kernel)
abbrev mX9_set : vMt := (RX9, yX9_set, cX9_set, 4, (some .int))
theorem kX9_set : vCal mX9_set 2 := ⟨by decide, rfl, vW 952 (by decide +kernel) (by decide +kernel), vW 44 (by decide +kernel) (by decide +kernel), by decide +kernel, by decide⟩
theorem iwX9_set : Cond.instanceMethod yX9_set ∈ vWords := vW 950 (by decide +kernel) (by decide +kernel)
theorem swX9_set : Cond.selects RX9 yX9_set yX9_set ∈ vWords := vW 951 (by decide +kernel) (by decide +kernel)
abbrev mX9_about : vMt := (RX9, yX9_about, cX9_about, 3, (some .int))
theorem kX9_about : vCal mX9_about 2 := ⟨by decide, rfl, vW 959 (by decide +kernel) (by decide +kernel), vW 44 (by decide +kernel) (by decide +kernel), by decide +kernel, by decide⟩
theorem iwX9_about : Cond.instanceMethod yX9_about ∈ vWords := vW 957 (by decide +kernel) (by decide +kernel)
theorem swX9_about : Cond.selects RX9 yX9_about yX9_about ∈ vWords := vW 958 (by decide +kernel) (by decide +kernel)
abbrev mX9_dry : vMt := (RX9, yX9_dry, cX9_dry, 2, (some .int))
theorem kX9_dry : vCal mX9_dry 1 := ⟨by decide, rfl, vW 963 (by decide +kernel) (by decide +kernel), vW 44 (by decide +kernel) (by decide +kernel), by decide +kernel, by decide⟩
theorem iwX9_dry : Cond.instanceMethod yX9_dry ∈ vWords := vW 962 (by decide +kernel) (by decide +kernel)
theorem swX9_dry : Cond.selects RX9 yX9_dry yX9_dry ∈ vWords := vW 17 (by decide +kernel) (by decide +kernel)
abbrev mX9_tank : vMt := (RX9, yX9_tank, cX9_tank, 2, (some .int))
theorem kX9_tank : vCal mX9_tank 1 := ⟨by decide, rfl, vW 967 (by decide +kernel) (by decide +kernel), vW 44 (by decide +kernel) (by decide +kernel), by decide +kernel, by decide⟩
theorem iwX9_tank : Cond.instanceMethod yX9_tank ∈ vWords := vW 966 (by decide +kernel) (by decide +kernel)
theorem swX9_tank : Cond.selects RX9 yX9_tank yX9_tank ∈ vWords := vW 18 (by decide +kernel) (by decide +kernel)
abbrev mX9_ahead : vMt := (RX9, yX9_ahead, cX9_ahead, 2, (some .int))
theorem kX9_ahead : vCal mX9_ahead 1 := ⟨by decide, rfl, vW 971 (by decide +kernel) (by decide +kernel), vW 44 (by decide +kernel) (by decide +kernel), by decide +kernel, by decide⟩
theorem iwX9_ahead : Cond.instanceMethod yX9_ahead ∈ vWords := vW 970 (by decide +kernel) (by decide +kernel)
theorem swX9_ahead : Cond.selects RX9 yX9_ahead yX9_ahead ∈ vWords := vW 19 (by decide +kernel) (by decide +kernel)
abbrev mX9_above : vMt := (RX9, yX9_above, cX9_above, 4, (some .int))
theorem kX9_above : vCal mX9_above 1 := ⟨by decide, rfl, vW 975 (by decide +kernel) (by decide +kernel), vW 44 (by decide +kernel) (by decide +kernel), by decide +kernel, by decide⟩
theorem iwX9_above : Cond.instanceMethod yX9_above ∈ vWords := vW 974 (by decide +kernel) (by decide +kernel)
theorem swX9_above : Cond.selects RX9 yX9_above yX9_above ∈ vWords := vW 20 (by decide +kernel) (by decide +kernel)
abbrev mX9_speedOf : vMt := (RX9, yX9_speedOf, cX9_speedOf, 3, (some .long))
theorem kX9_speedOf : vCal mX9_speedOf 2 := ⟨by decide, rfl, vW 979 (by decide +kernel) (by decide +kernel), vW 44 (by decide +kernel) (by decide +kernel), by decide +kernel, by decide⟩
theorem iwX9_speedOf : Cond.instanceMethod yX9_speedOf ∈ vWords := vW 978 (by decide +kernel) (by decide +kernel)
theorem swX9_speedOf : Cond.selects RX9 yX9_speedOf yX9_speedOf ∈ vWords := vW 21 (by decide +kernel) (by decide +kernel)
abbrev mX9_low : vMt := (RX9, yX9_low, cX9_low, 6, (some .long))
theorem kX9_low : vCal mX9_low 3 := ⟨by decide, rfl, vW 982 (by decide +kernel) (by decide +kernel), vW 44 (by decide +kernel) (by decide +kernel), by decide +kernel, by decide⟩
theorem stX9_low : Cond.static yX9_low ∈ vWords := vW 981 (by decide +kernel) (by decide +kernel)
abbrev mX9_high : vMt := (RX9, yX9_high, cX9_high, 6, (some .long))
theorem kX9_high : vCal mX9_high 3 := ⟨by decide, rfl, vW 985 (by decide +kernel) (by decide +kernel), vW 44 (by decide +kernel) (by decide +kernel), by decide +kernel, by decide⟩
theorem stX9_high : Cond.static yX9_high ∈ vWords := vW 984 (by decide +kernel) (by decide +kernel)
abbrev mX9_speed : vMt := (RX9, yX9_speed, cX9_speed, 2, (some .int))
theorem kX9_speed : vCal mX9_speed 1 := ⟨by decide, rfl, vW 989 (by decide +kernel) (by decide +kernel), vW 44 (by decide +kernel) (by decide +kernel), by decide +kernel, by decide⟩
theorem iwX9_speed : Cond.instanceMethod yX9_speed ∈ vWords := vW 987 (by decide +kernel) (by decide +kernel)
theorem swX9_speed : Cond.selects RX9 yX9_speed yX9_speed ∈ vWords := vW 988 (by decide +kernel) (by decide +kernel)
abbrev mX9_speedOfAll : vMt := (RX9, yX9_speedOfAll, cX9_speedOfAll, 5, (some .long))
theorem kX9_speedOfAll : vCal mX9_speedOfAll 1 := ⟨by decide, rfl, vW 993 (by decide +kernel) (by decide +kernel), vW 44 (by decide +kernel) (by decide +kernel), by decide +kernel, by decide⟩
theorem iwX9_speedOfAll : Cond.instanceMethod yX9_speedOfAll ∈ vWords := vW 992 (by decide +kernel) (by decide +kernel)
theorem swX9_speedOfAll : Cond.selects RX9 yX9_speedOfAll yX9_speedOfAll ∈ vWords := vW 22 (by decide +kernel) (by decide +kernel)
abbrev mX9_split : vMt := (RX9, yX9_split, cX9_split, 9, (some .int))
theorem kX9_split : vCal mX9_split 2 := ⟨by decide, rfl, vW 997 (by decide +kernel) (by decide +kernel), vW 44 (by decide +kernel) (by decide +kernel), by decide +kernel, by decide⟩
theorem iwX9_split : Cond.instanceMethod yX9_split ∈ vWords := vW 995 (by decide +kernel) (by decide +kernel)
theorem swX9_split : Cond.selects RX9 yX9_split yX9_split ∈ vWords := vW 996 (by decide +kernel) (by decide +kernel)
abbrev mX9_next : vMt := (RX9, yX9_next, cX9_next, 4, (some .boolean))
theorem kX9_next : vCal mX9_next 1 := ⟨by decide, rfl, vW 1004 (by decide +kernel) (by decide +kernel), vW 44 (by decide +kernel) (by decide +kernel), by decide +kernel, by decide⟩
theorem iwX9_next : Cond.instanceMethod yX9_next ∈ vWords := vW 1003 (by decide +kernel) (by decide +kernel)
theorem swX9_next : Cond.selects RX9 yX9_next yX9_next ∈ vWords := vW 23 (by decide +kernel) (by decide +kernel)
abbrev mX9_lots : vMt := (RX9, yX9_lots, cX9_lots, 2, (some .int))
theorem kX9_lots : vCal mX9_lots 1 := ⟨by decide, rfl, vW 1008 (by decide +kernel) (by decide +kernel), vW 44 (by decide +kernel) (by decide +kernel), by decide +kernel, by decide⟩
theorem iwX9_lots : Cond.instanceMethod yX9_lots ∈ vWords := vW 1006 (by decide +kernel) (by decide +kernel)
theorem swX9_lots : Cond.selects RX9 yX9_lots yX9_lots ∈ vWords := vW 1007 (by decide +kernel) (by decide +kernel)
abbrev mX9_cheapest : vMt := (RX9, yX9_cheapest, cX9_cheapest, 11, (some .int))
theorem kX9_cheapest : vCal mX9_cheapest 2 := ⟨by decide, rfl, vW 1012 (by decide +kernel) (by decide +kernel), vW 44 (by decide +kernel) (by decide +kernel), by decide +kernel, by decide⟩
theorem iwX9_cheapest : Cond.instanceMethod yX9_cheapest ∈ vWords := vW 1010 (by decide +kernel) (by decide +kernel)
theorem swX9_cheapest : Cond.selects RX9 yX9_cheapest yX9_cheapest ∈ vWords := vW 1011 (by decide +kernel) (by decide +kernel)
abbrev mX9_puts : vMt := (RX9, yX9_puts, cX9_puts, 6, none)
theorem kX9_puts : vCal mX9_puts 2 := ⟨by decide, rfl, vW 1018 (by decide +kernel) (by decide +kernel), vW 44 (by decide +kernel) (by decide +kernel), by decide +kernel, by decide⟩
theorem iwX9_puts : Cond.instanceMethod yX9_puts ∈ vWords := vW 1017 (by decide +kernel) (by decide +kernel)
theorem swX9_puts : Cond.selects RX9 yX9_puts yX9_puts ∈ vWords := vW 24 (by decide +kernel) (by decide +kernel)
abbrev mX9_chosen : vMt := (RX9, yX9_chosen, cX9_chosen, 3, (some .int))
theorem kX9_chosen : vCal mX9_chosen 2 := ⟨by decide, rfl, vW 1022 (by decide +kernel) (by decide +kernel), vW 44 (by decide +kernel) (by decide +kernel), by decide +kernel, by decide⟩
theorem iwX9_chosen : Cond.instanceMethod yX9_chosen ∈ vWords := vW 1020 (by decide +kernel) (by decide +kernel)
theorem swX9_chosen : Cond.selects RX9 yX9_chosen yX9_chosen ∈ vWords := vW 1021 (by decide +kernel) (by decide +kernel)
abbrev mX9_air : vMt := (RX9, yX9_air, cX9_air, 4, (some .int))
theorem kX9_air : vCal mX9_air 2 := ⟨by decide, rfl, vW 1026 (by decide +kernel) (by decide +kernel), vW 44 (by decide +kernel) (by decide +kernel), by decide +kernel, by decide⟩
theorem iwX9_air : Cond.instanceMethod yX9_air ∈ vWords := vW 1024 (by decide +kernel) (by decide +kernel)
theorem swX9_air : Cond.selects RX9 yX9_air yX9_air ∈ vWords := vW 1025 (by decide +kernel) (by decide +kernel)
abbrev mX9_limit : vMt := (RX9, yX9_limit, cX9_limit, 4, (some .int))
theorem kX9_limit : vCal mX9_limit 2 := ⟨by decide, rfl, vW 1030 (by decide +kernel) (by decide +kernel), vW 44 (by decide +kernel) (by decide +kernel), by decide +kernel, by decide⟩
theorem iwX9_limit : Cond.instanceMethod yX9_limit ∈ vWords := vW 1028 (by decide +kernel) (by decide +kernel)
theorem swX9_limit : Cond.selects RX9 yX9_limit yX9_limit ∈ vWords := vW 1029 (by decide +kernel) (by decide +kernel)
abbrev mX9_fly : vMt := (RX9, yX9_fly, cX9_fly, 2, (some .int))
theorem kX9_fly : vCal mX9_fly 0 := ⟨by decide, rfl, vW 1034 (by decide +kernel) (by decide +kernel), vW 44 (by decide +kernel) (by decide +kernel), by decide +kernel, by decide⟩
theorem iwX9_fly : Cond.instanceMethod yX9_fly ∈ vWords := vW 1032 (by decide +kernel) (by decide +kernel)
theorem swX9_fly : Cond.selects RX9 yX9_fly yX9_fly ∈ vWords := vW 1033 (by decide +kernel) (by decide +kernel)
abbrev mX9_hasStuff : vMt := (RX9, yX9_hasStuff, cX9_hasStuff, 3, (some .boolean))
theorem kX9_hasStuff : vCal mX9_hasStuff 0 := ⟨by decide, rfl, vW 1038 (by decide +kernel) (by decide +kernel), vW 44 (by decide +kernel) (by decide +kernel), by decide +kernel, by decide⟩
theorem iwX9_hasStuff : Cond.instanceMethod yX9_hasStuff ∈ vWords := vW 1037 (by decide +kernel) (by decide +kernel)
theorem swX9_hasStuff : Cond.selects RX9 yX9_hasStuff yX9_hasStuff ∈ vWords := vW 25 (by decide +kernel) (by decide +kernel)
abbrev mX9_flies : vMt := (RX9, yX9_flies, cX9_flies, 3, (some .int))
theorem kX9_flies : vCal mX9_flies 1 := ⟨by decide, rfl, vW 1042 (by decide +kernel) (by decide +kernel), vW 44 (by decide +kernel) (by decide +kernel), by decide +kernel, by decide⟩
theorem iwX9_flies : Cond.instanceMethod yX9_flies ∈ vWords := vW 1041 (by decide +kernel) (by decide +kernel)
theorem swX9_flies : Cond.selects RX9 yX9_flies yX9_flies ∈ vWords := vW 26 (by decide +kernel) (by decide +kernel)
abbrev mX9_finds : vMt := (RX9, yX9_finds, cX9_finds, 2, (some .boolean))
theorem kX9_finds : vCal mX9_finds 0 := ⟨by decide, rfl, vW 1046 (by decide +kernel) (by decide +kernel), vW 44 (by decide +kernel) (by decide +kernel), by decide +kernel, by decide⟩
theorem iwX9_finds : Cond.instanceMethod yX9_finds ∈ vWords := vW 1045 (by decide +kernel) (by decide +kernel)
theorem swX9_finds : Cond.selects RX9 yX9_finds yX9_finds ∈ vWords := vW 27 (by decide +kernel) (by decide +kernel)
abbrev mX9_ticksOnce : vMt := (RX9, yX9_ticksOnce, cX9_ticksOnce, 12, none)
theorem kX9_ticksOnce : vCal mX9_ticksOnce 0 := ⟨by decide, rfl, vW 1050 (by decide +kernel) (by decide +kernel), vW 44 (by decide +kernel) (by decide +kernel), by decide +kernel, by decide⟩
theorem iwX9_ticksOnce : Cond.instanceMethod yX9_ticksOnce ∈ vWords := vW 1049 (by decide +kernel) (by decide +kernel)
theorem swX9_ticksOnce : Cond.selects RX9 yX9_ticksOnce yX9_ticksOnce ∈ vWords := vW 28 (by decide +kernel) (by decide +kernel)
abbrev mX9_massNow : vMt := (RX9, yX9_massNow, cX9_massNow, 3, (some .int))
theorem kX9_massNow : vCal mX9_massNow 0 := ⟨by decide, rfl, vW 1054 (by decide +kernel) (by decide +kernel), vW 44 (by decide +kernel) (by decide +kernel), by decide +kernel, by decide⟩
theorem iwX9_massNow : Cond.instanceMethod yX9_massNow ∈ vWords := vW 1053 (by decide +kernel) (by decide +kernel)
theorem swX9_massNow : Cond.selects RX9 yX9_massNow yX9_massNow ∈ vWords := vW 29 (by decide +kernel) (by decide +kernel)
abbrev mX9_flown : vMt := (RX9, yX9_flown, cX9_flown, 2, (some .int))
theorem kX9_flown : vCal mX9_flown 1 := ⟨by decide, rfl, vW 1060 (by decide +kernel) (by decide +kernel), vW 44 (by decide +kernel) (by decide +kernel), by decide +kernel, by decide⟩
theorem iwX9_flown : Cond.instanceMethod yX9_flown ∈ vWords := vW 1058 (by decide +kernel) (by decide +kernel)
theorem swX9_flown : Cond.selects RX9 yX9_flown yX9_flown ∈ vWords := vW 1059 (by decide +kernel) (by decide +kernel)
abbrev mX9_out : vMt := (RX9, yX9_out, cX9_out, 2, (some .int))
theorem kX9_out : vCal mX9_out 1 := ⟨by decide, rfl, vW 1065 (by decide +kernel) (by decide +kernel), vW 44 (by decide +kernel) (by decide +kernel), by decide +kernel, by decide⟩
theorem iwX9_out : Cond.instanceMethod yX9_out ∈ vWords := vW 1063 (by decide +kernel) (by decide +kernel)
theorem swX9_out : Cond.selects RX9 yX9_out yX9_out ∈ vWords := vW 1064 (by decide +kernel) (by decide +kernel)
abbrev mX9_safe : vMt := (RX9, yX9_safe, cX9_safe, 5, (some .int))
theorem kX9_safe : vCal mX9_safe 0 := ⟨by decide, rfl, vW 1070 (by decide +kernel) (by decide +kernel), vW 44 (by decide +kernel) (by decide +kernel), by decide +kernel, by decide⟩
theorem iwX9_safe : Cond.instanceMethod yX9_safe ∈ vWords := vW 1068 (by decide +kernel) (by decide +kernel)
theorem swX9_safe : Cond.selects RX9 yX9_safe yX9_safe ∈ vWords := vW 1069 (by decide +kernel) (by decide +kernel)
abbrev mX9_cost : vMt := (RX9, yX9_cost, cX9_cost, 3, (some .int))
theorem kX9_cost : vCal mX9_cost 2 := ⟨by decide, rfl, vW 1074 (by decide +kernel) (by decide +kernel), vW 44 (by decide +kernel) (by decide +kernel), by decide +kernel, by decide⟩
theorem iwX9_cost : Cond.instanceMethod yX9_cost ∈ vWords := vW 1072 (by decide +kernel) (by decide +kernel)
theorem swX9_cost : Cond.selects RX9 yX9_cost yX9_cost ∈ vWords := vW 1073 (by decide +kernel) (by decide +kernel)
abbrev mX9_costOf : vMt := (RX9, yX9_costOf, cX9_costOf, 5, (some .int))
theorem kX9_costOf : vCal mX9_costOf 2 := ⟨by decide, rfl, vW 1078 (by decide +kernel) (by decide +kernel), vW 44 (by decide +kernel) (by decide +kernel), by decide +kernel, by decide⟩
theorem iwX9_costOf : Cond.instanceMethod yX9_costOf ∈ vWords := vW 1077 (by decide +kernel) (by decide +kernel)
theorem swX9_costOf : Cond.selects RX9 yX9_costOf yX9_costOf ∈ vWords := vW 30 (by decide +kernel) (by decide +kernel)
abbrev mX9_price : vMt := (RX9, yX9_price, cX9_price, 1, (some .int))
theorem kX9_price : vCal mX9_price 0 := ⟨by decide, rfl, vW 1082 (by decide +kernel) (by decide +kernel), vW 44 (by decide +kernel) (by decide +kernel), by decide +kernel, by decide⟩
theorem iwX9_price : Cond.instanceMethod yX9_price ∈ vWords := vW 1080 (by decide +kernel) (by decide +kernel)
theorem swX9_price : Cond.selects RX9 yX9_price yX9_price ∈ vWords := vW 1081 (by decide +kernel) (by decide +kernel)
abbrev mX9_costs : vMt := (RX9, yX9_costs, cX9_costs, 5, (some .int))
theorem kX9_costs : vCal mX9_costs 0 := ⟨by decide, rfl, vW 1086 (by decide +kernel) (by decide +kernel), vW 44 (by decide +kernel) (by decide +kernel), by decide +kernel, by decide⟩
theorem iwX9_costs : Cond.instanceMethod yX9_costs ∈ vWords := vW 1085 (by decide +kernel) (by decide +kernel)
theorem swX9_costs : Cond.selects RX9 yX9_costs yX9_costs ∈ vWords := vW 31 (by decide +kernel) (by decide +kernel)
abbrev mX9_buy : vMt := (RX9, yX9_buy, cX9_buy, 4, (some .int))
theorem kX9_buy : vCal mX9_buy 0 := ⟨by decide, rfl, vW 1090 (by decide +kernel) (by decide +kernel), vW 44 (by decide +kernel) (by decide +kernel), by decide +kernel, by decide⟩
theorem iwX9_buy : Cond.instanceMethod yX9_buy ∈ vWords := vW 1088 (by decide +kernel) (by decide +kernel)
theorem swX9_buy : Cond.selects RX9 yX9_buy yX9_buy ∈ vWords := vW 1089 (by decide +kernel) (by decide +kernel)
abbrev mX9_keeping : vMt := (RX9, yX9_keeping, cX9_keeping, 3, (some .int))
theorem kX9_keeping : vCal mX9_keeping 2 := ⟨by decide, rfl, vW 1094 (by decide +kernel) (by decide +kernel), vW 44 (by decide +kernel) (by decide +kernel), by decide +kernel, by decide⟩
theorem iwX9_keeping : Cond.instanceMethod yX9_keeping ∈ vWords := vW 1092 (by decide +kernel) (by decide +kernel)
theorem swX9_keeping : Cond.selects RX9 yX9_keeping yX9_keeping ∈ vWords := vW 1093 (by decide +kernel) (by decide +kernel)
abbrev mX9_even : vMt := (RX9, yX9_even, cX9_even, 7, (some .int))
theorem kX9_even : vCal mX9_even 3 := ⟨by decide, rfl, vW 1098 (by decide +kernel) (by decide +kernel), vW 44 (by decide +kernel) (by decide +kernel), by decide +kernel, by decide⟩
theorem iwX9_even : Cond.instanceMethod yX9_even ∈ vWords := vW 1096 (by decide +kernel) (by decide +kernel)
theorem swX9_even : Cond.selects RX9 yX9_even yX9_even ∈ vWords := vW 1097 (by decide +kernel) (by decide +kernel)
abbrev mX9_flight : vMt := (RX9, yX9_flight, cX9_flight, 6, (some .int))
theorem kX9_flight : vCal mX9_flight 5 := ⟨by decide, rfl, vW 1104 (by decide +kernel) (by decide +kernel), vW 44 (by decide +kernel) (by decide +kernel), by decide +kernel, by decide⟩
theorem iwX9_flight : Cond.instanceMethod yX9_flight ∈ vWords := vW 1102 (by decide +kernel) (by decide +kernel)
theorem swX9_flight : Cond.selects RX9 yX9_flight yX9_flight ∈ vWords := vW 1103 (by decide +kernel) (by decide +kernel)
abbrev mX9_deliver : vMt := (RX9, yX9_deliver, cX9_deliver, 5, (some .int))
theorem kX9_deliver : vCal mX9_deliver 3 := ⟨by decide, rfl, vW 1109 (by decide +kernel) (by decide +kernel), vW 44 (by decide +kernel) (by decide +kernel), by decide +kernel, by decide⟩
theorem iwX9_deliver : Cond.instanceMethod yX9_deliver ∈ vWords := vW 1107 (by decide +kernel) (by decide +kernel)
theorem swX9_deliver : Cond.selects RX9 yX9_deliver yX9_deliver ∈ vWords := vW 1108 (by decide +kernel) (by decide +kernel)
abbrev mX9_year : vMt := (RX9, yX9_year, cX9_year, 1, (some .int))
theorem kX9_year : vCal mX9_year 0 := ⟨by decide, rfl, vW 1113 (by decide +kernel) (by decide +kernel), vW 44 (by decide +kernel) (by decide +kernel), by decide +kernel, by decide⟩
theorem iwX9_year : Cond.instanceMethod yX9_year ∈ vWords := vW 1111 (by decide +kernel) (by decide +kernel)
theorem swX9_year : Cond.selects RX9 yX9_year yX9_year ∈ vWords := vW 1112 (by decide +kernel) (by decide +kernel)
abbrev mX9_findYear : vMt := (RX9, yX9_findYear, cX9_findYear, 5, (some .int))
theorem kX9_findYear : vCal mX9_findYear 0 := ⟨by decide, rfl, vW 1117 (by decide +kernel) (by decide +kernel), vW 44 (by decide +kernel) (by decide +kernel), by decide +kernel, by decide⟩
theorem iwX9_findYear : Cond.instanceMethod yX9_findYear ∈ vWords := vW 1116 (by decide +kernel) (by decide +kernel)
theorem swX9_findYear : Cond.selects RX9 yX9_findYear yX9_findYear ∈ vWords := vW 32 (by decide +kernel) (by decide +kernel)
abbrev mX9_canFly : vMt := (RX9, yX9_canFly, cX9_canFly, 6, (some .boolean))
theorem kX9_canFly : vCal mX9_canFly 1 := ⟨by decide, rfl, vW 1121 (by decide +kernel) (by decide +kernel), vW 44 (by decide +kernel) (by decide +kernel), by decide +kernel, by decide⟩
theorem iwX9_canFly : Cond.instanceMethod yX9_canFly ∈ vWords := vW 1120 (by decide +kernel) (by decide +kernel)
theorem swX9_canFly : Cond.selects RX9 yX9_canFly yX9_canFly ∈ vWords := vW 33 (by decide +kernel) (by decide +kernel)
abbrev mX9_flights : vMt := (RX9, yX9_flights, cX9_flights, 2, (some .int))
theorem kX9_flights : vCal mX9_flights 0 := ⟨by decide, rfl, vW 1125 (by decide +kernel) (by decide +kernel), vW 44 (by decide +kernel) (by decide +kernel), by decide +kernel, by decide⟩
theorem iwX9_flights : Cond.instanceMethod yX9_flights ∈ vWords := vW 1123 (by decide +kernel) (by decide +kernel)
theorem swX9_flights : Cond.selects RX9 yX9_flights yX9_flights ∈ vWords := vW 1124 (by decide +kernel) (by decide +kernel)
abbrev mX9_count : vMt := (RX9, yX9_count, cX9_count, 4, (some .int))
theorem kX9_count : vCal mX9_count 1 := ⟨by decide, rfl, vW 1129 (by decide +kernel) (by decide +kernel), vW 44 (by decide +kernel) (by decide +kernel), by decide +kernel, by decide⟩
theorem iwX9_count : Cond.instanceMethod yX9_count ∈ vWords := vW 1127 (by decide +kernel) (by decide +kernel)
theorem swX9_count : Cond.selects RX9 yX9_count yX9_count ∈ vWords := vW 1128 (by decide +kernel) (by decide +kernel)
theorem it_L : Cond.initialized RL ∈ vWords := vW 34 (by decide +kernel) (by decide +kernel)
theorem it_X8 : Cond.initialized RX8 ∈ vWords := vW 35 (by decide +kernel) (by decide +kernel)
theorem it_X1 : Cond.initialized RX1 ∈ vWords := vW 36 (by decide +kernel) (by decide +kernel)
theorem it_X4 : Cond.initialized RX4 ∈ vWords := vW 37 (by decide +kernel) (by decide +kernel)
theorem it_X3 : Cond.initialized RX3 ∈ vWords := vW 38 (by decide +kernel) (by decide +kernel)
theorem it_X6 : Cond.initialized RX6 ∈ vWords := vW 39 (by decide +kernel) (by decide +kernel)
theorem it_X0 : Cond.initialized RX0 ∈ vWords := vW 40 (by decide +kernel) (by decide +kernel)
theorem it_X5 : Cond.initialized RX5 ∈ vWords := vW 41 (by decide +kernel) (by decide +kernel)
theorem it_X2 : Cond.initialized RX2 ∈ vWords := vW 42 (by decide +kernel) (by decide +kernel)
theorem it_X7 : Cond.initialized RX7 ∈ vWords := vW 43 (by decide +kernel) (by decide +kernel)
theorem it_X9 : Cond.initialized RX9 ∈ vWords := vW 44 (by decide +kernel) (by decide +kernel)
theorem it_Math : Cond.initialized "java/lang/Math" ∈ vWords := vW 45 (by decide +kernel) (by decide +kernel)
theorem cl_L_7 : Cond.classLink RL 7 RX8 ∈ vWords := vW 46 (by decide +kernel) (by decide +kernel)
theorem in_X8 : Cond.instantiable RX8 11 ∈ vWords := vW 47 (by decide +kernel) (by decide +kernel)
theorem ml_L_9 : Cond.methodLink RL 9 yX8_init ∈ vWords := vW 48 (by decide +kernel) (by decide +kernel)
theorem ml_X8_1 : Cond.methodLink RX8 1 Lib.objectInit ∈ vWords := vW 51 (by decide +kernel) (by decide +kernel)
theorem cl_X8_13 : Cond.classLink RX8 13 RX1 ∈ vWords := vW 54 (by decide +kernel) (by decide +kernel)
theorem in_X1 : Cond.instantiable RX1 7 ∈ vWords := vW 55 (by decide +kernel) (by decide +kernel)
theorem ml_X1_3 : Cond.methodLink RX1 3 Lib.objectInit ∈ vWords := vW 59 (by decide +kernel) (by decide +kernel)
theorem fl_X1_9 : vFl RX1 9 1 0 "[I" true := ⟨RX1, TX1, 7, rfl, by decide, vW 60 (by decide +kernel) (by decide +kernel), rfl, rfl, rfl⟩
theorem fl_X2_84 : vFl RX2 84 1 0 "[I" true := ⟨RX1, TX1, 7, rfl, by decide, vW 61 (by decide +kernel) (by decide +kernel), rfl, rfl, rfl⟩
theorem fl_X0_136 : vFl RX0 136 1 0 "[I" true := ⟨RX1, TX1, 7, rfl, by decide, vW 62 (by decide +kernel) (by decide +kernel), rfl, rfl, rfl⟩
theorem fl_X4_73 : vFl RX4 73 1 0 "[I" true := ⟨RX1, TX1, 7, rfl, by decide, vW 63 (by decide +kernel) (by decide +kernel), rfl, rfl, rfl⟩
theorem fl_X1_15 : vFl RX1 15 1 1 "[I" true := ⟨RX1, TX1, 7, rfl, by decide, vW 64 (by decide +kernel) (by decide +kernel), rfl, rfl, rfl⟩
theorem fl_X0_106 : vFl RX0 106 1 1 "[I" true := ⟨RX1, TX1, 7, rfl, by decide, vW 65 (by decide +kernel) (by decide +kernel), rfl, rfl, rfl⟩
theorem fl_X4_51 : vFl RX4 51 1 1 "[I" true := ⟨RX1, TX1, 7, rfl, by decide, vW 66 (by decide +kernel) (by decide +kernel), rfl, rfl, rfl⟩
theorem fl_X1_18 : vFl RX1 18 1 2 "[I" true := ⟨RX1, TX1, 7, rfl, by decide, vW 67 (by decide +kernel) (by decide +kernel), rfl, rfl, rfl⟩
theorem fl_X0_103 : vFl RX0 103 1 2 "[I" true := ⟨RX1, TX1, 7, rfl, by decide, vW 68 (by decide +kernel) (by decide +kernel), rfl, rfl, rfl⟩
theorem fl_X4_46 : vFl RX4 46 1 2 "[I" true := ⟨RX1, TX1, 7, rfl, by decide, vW 69 (by decide +kernel) (by decide +kernel), rfl, rfl, rfl⟩
theorem fl_X1_21 : vFl RX1 21 1 3 "[I" true := ⟨RX1, TX1, 7, rfl, by decide, vW 70 (by decide +kernel) (by decide +kernel), rfl, rfl, rfl⟩
theorem fl_X0_117 : vFl RX0 117 1 3 "[I" true := ⟨RX1, TX1, 7, rfl, by decide, vW 71 (by decide +kernel) (by decide +kernel), rfl, rfl, rfl⟩
theorem fl_X4_76 : vFl RX4 76 1 3 "[I" true := ⟨RX1, TX1, 7, rfl, by decide, vW 72 (by decide +kernel) (by decide +kernel), rfl, rfl, rfl⟩
theorem fl_X1_24 : vFl RX1 24 1 4 "[I" true := ⟨RX1, TX1, 7, rfl, by decide, vW 73 (by decide +kernel) (by decide +kernel), rfl, rfl, rfl⟩
theorem fl_X8_93 : vFl RX8 93 1 4 "[I" true := ⟨RX1, TX1, 7, rfl, by decide, vW 74 (by decide +kernel) (by decide +kernel), rfl, rfl, rfl⟩
theorem fl_X1_27 : vFl RX1 27 1 5 "[I" true := ⟨RX1, TX1, 7, rfl, by decide, vW 75 (by decide +kernel) (by decide +kernel), rfl, rfl, rfl⟩
theorem fl_X8_227 : vFl RX8 227 1 5 "[I" true := ⟨RX1, TX1, 7, rfl, by decide, vW 76 (by decide +kernel) (by decide +kernel), rfl, rfl, rfl⟩
theorem fl_X1_30 : vFl RX1 30 1 6 "I" false := ⟨RX1, TX1, 7, rfl, by decide, vW 77 (by decide +kernel) (by decide +kernel), rfl, rfl, rfl⟩
theorem fl_X0_100 : vFl RX0 100 1 6 "I" false := ⟨RX1, TX1, 7, rfl, by decide, vW 78 (by decide +kernel) (by decide +kernel), rfl, rfl, rfl⟩
theorem fl_X8_156 : vFl RX8 156 1 6 "I" false := ⟨RX1, TX1, 7, rfl, by decide, vW 79 (by decide +kernel) (by decide +kernel), rfl, rfl, rfl⟩
theorem fl_X4_79 : vFl RX4 79 1 6 "I" false := ⟨RX1, TX1, 7, rfl, by decide, vW 80 (by decide +kernel) (by decide +kernel), rfl, rfl, rfl⟩
theorem ac_int : Cond.arrayClass .int ∈ vWords := vW 96 (by decide +kernel) (by decide +kernel)
theorem cl_X8_20 : Cond.classLink RX8 20 RX4 ∈ vWords := vW 97 (by decide +kernel) (by decide +kernel)
theorem in_X4 : Cond.instantiable RX4 7 ∈ vWords := vW 98 (by decide +kernel) (by decide +kernel)
theorem ml_X8_22 : Cond.methodLink RX8 22 yX4_init ∈ vWords := vW 99 (by decide +kernel) (by decide +kernel)
theorem ml_X4_3 : Cond.methodLink RX4 3 Lib.objectInit ∈ vWords := vW 102 (by decide +kernel) (by decide +kernel)
theorem fl_X4_28 : vFl RX4 28 4 0 "LStageYard$Engines;" true := ⟨RX4, TX4, 7, rfl, by decide, vW 103 (by decide +kernel) (by decide +kernel), rfl, rfl, rfl⟩
theorem fl_X0_51 : vFl RX0 51 4 0 "LStageYard$Engines;" true := ⟨RX4, TX4, 7, rfl, by decide, vW 104 (by decide +kernel) (by decide +kernel), rfl, rfl, rfl⟩
theorem fl_X2_80 : vFl RX2 80 4 0 "LStageYard$Engines;" true := ⟨RX4, TX4, 7, rfl, by decide, vW 105 (by decide +kernel) (by decide +kernel), rfl, rfl, rfl⟩
theorem fl_X4_32 : vFl RX4 32 4 1 "[I" true := ⟨RX4, TX4, 7, rfl, by decide, vW 106 (by decide +kernel) (by decide +kernel), rfl, rfl, rfl⟩
theorem fl_X4_9 : vFl RX4 9 4 2 "[I" true := ⟨RX4, TX4, 7, rfl, by decide, vW 107 (by decide +kernel) (by decide +kernel), rfl, rfl, rfl⟩
theorem fl_X2_88 : vFl RX2 88 4 2 "[I" true := ⟨RX4, TX4, 7, rfl, by decide, vW 108 (by decide +kernel) (by decide +kernel), rfl, rfl, rfl⟩
theorem fl_X8_117 : vFl RX8 117 4 2 "[I" true := ⟨RX4, TX4, 7, rfl, by decide, vW 109 (by decide +kernel) (by decide +kernel), rfl, rfl, rfl⟩
theorem fl_X4_15 : vFl RX4 15 4 3 "[I" true := ⟨RX4, TX4, 7, rfl, by decide, vW 110 (by decide +kernel) (by decide +kernel), rfl, rfl, rfl⟩
theorem fl_X2_77 : vFl RX2 77 4 3 "[I" true := ⟨RX4, TX4, 7, rfl, by decide, vW 111 (by decide +kernel) (by decide +kernel), rfl, rfl, rfl⟩
theorem fl_X8_120 : vFl RX8 120 4 3 "[I" true := ⟨RX4, TX4, 7, rfl, by decide, vW 112 (by decide +kernel) (by decide +kernel), rfl, rfl, rfl⟩
theorem fl_X4_18 : vFl RX4 18 4 4 "[I" true := ⟨RX4, TX4, 7, rfl, by decide, vW 113 (by decide +kernel) (by decide +kernel), rfl, rfl, rfl⟩
theorem fl_X2_73 : vFl RX2 73 4 4 "[I" true := ⟨RX4, TX4, 7, rfl, by decide, vW 114 (by decide +kernel) (by decide +kernel), rfl, rfl, rfl⟩
theorem fl_X8_104 : vFl RX8 104 4 4 "[I" true := ⟨RX4, TX4, 7, rfl, by decide, vW 115 (by decide +kernel) (by decide +kernel), rfl, rfl, rfl⟩
theorem fl_X0_84 : vFl RX0 84 4 4 "[I" true := ⟨RX4, TX4, 7, rfl, by decide, vW 116 (by decide +kernel) (by decide +kernel), rfl, rfl, rfl⟩
theorem fl_X4_21 : vFl RX4 21 4 5 "[I" true := ⟨RX4, TX4, 7, rfl, by decide, vW 117 (by decide +kernel) (by decide +kernel), rfl, rfl, rfl⟩
theorem fl_X0_81 : vFl RX0 81 4 5 "[I" true := ⟨RX4, TX4, 7, rfl, by decide, vW 118 (by decide +kernel) (by decide +kernel), rfl, rfl, rfl⟩
theorem fl_X8_123 : vFl RX8 123 4 5 "[I" true := ⟨RX4, TX4, 7, rfl, by decide, vW 119 (by decide +kernel) (by decide +kernel), rfl, rfl, rfl⟩
theorem fl_X4_24 : vFl RX4 24 4 6 "I" false := ⟨RX4, TX4, 7, rfl, by decide, vW 120 (by decide +kernel) (by decide +kernel), rfl, rfl, rfl⟩
theorem fl_X6_36 : vFl RX6 36 4 6 "I" false := ⟨RX4, TX4, 7, rfl, by decide, vW 121 (by decide +kernel) (by decide +kernel), rfl, rfl, rfl⟩
theorem fl_X8_99 : vFl RX8 99 4 6 "I" false := ⟨RX4, TX4, 7, rfl, by decide, vW 122 (by decide +kernel) (by decide +kernel), rfl, rfl, rfl⟩
theorem fl_X0_70 : vFl RX0 70 4 6 "I" false := ⟨RX4, TX4, 7, rfl, by decide, vW 123 (by decide +kernel) (by decide +kernel), rfl, rfl, rfl⟩
theorem cl_X8_29 : Cond.classLink RX8 29 RX3 ∈ vWords := vW 139 (by decide +kernel) (by decide +kernel)
theorem in_X3 : Cond.instantiable RX3 3 ∈ vWords := vW 140 (by decide +kernel) (by decide +kernel)
theorem ml_X3_3 : Cond.methodLink RX3 3 Lib.objectInit ∈ vWords := vW 144 (by decide +kernel) (by decide +kernel)
theorem fl_X3_11 : vFl RX3 11 3 0 "[I" true := ⟨RX3, TX3, 3, rfl, by decide, vW 145 (by decide +kernel) (by decide +kernel), rfl, rfl, rfl⟩
theorem fl_X3_15 : vFl RX3 15 3 1 "I" false := ⟨RX3, TX3, 3, rfl, by decide, vW 146 (by decide +kernel) (by decide +kernel), rfl, rfl, rfl⟩
theorem fl_X3_19 : vFl RX3 19 3 2 "I" false := ⟨RX3, TX3, 3, rfl, by decide, vW 147 (by decide +kernel) (by decide +kernel), rfl, rfl, rfl⟩
theorem cl_X8_32 : Cond.classLink RX8 32 RX6 ∈ vWords := vW 155 (by decide +kernel) (by decide +kernel)
theorem in_X6 : Cond.instantiable RX6 7 ∈ vWords := vW 156 (by decide +kernel) (by decide +kernel)
theorem ml_X8_34 : Cond.methodLink RX8 34 yX6_init ∈ vWords := vW 157 (by decide +kernel) (by decide +kernel)
theorem ml_X6_3 : Cond.methodLink RX6 3 Lib.objectInit ∈ vWords := vW 160 (by decide +kernel) (by decide +kernel)
theorem fl_X6_28 : vFl RX6 28 6 0 "LStageYard$Rocket;" true := ⟨RX6, TX6, 7, rfl, by decide, vW 161 (by decide +kernel) (by decide +kernel), rfl, rfl, rfl⟩
theorem fl_X6_32 : vFl RX6 32 6 1 "LStageYard$LowSums;" true := ⟨RX6, TX6, 7, rfl, by decide, vW 162 (by decide +kernel) (by decide +kernel), rfl, rfl, rfl⟩
theorem fl_X6_11 : vFl RX6 11 6 2 "[I" true := ⟨RX6, TX6, 7, rfl, by decide, vW 163 (by decide +kernel) (by decide +kernel), rfl, rfl, rfl⟩
theorem fl_X6_15 : vFl RX6 15 6 3 "[I" true := ⟨RX6, TX6, 7, rfl, by decide, vW 164 (by decide +kernel) (by decide +kernel), rfl, rfl, rfl⟩
theorem fl_X6_18 : vFl RX6 18 6 4 "I" false := ⟨RX6, TX6, 7, rfl, by decide, vW 165 (by decide +kernel) (by decide +kernel), rfl, rfl, rfl⟩
theorem fl_X6_22 : vFl RX6 22 6 5 "I" false := ⟨RX6, TX6, 7, rfl, by decide, vW 166 (by decide +kernel) (by decide +kernel), rfl, rfl, rfl⟩
theorem fl_X8_149 : vFl RX8 149 6 5 "I" false := ⟨RX6, TX6, 7, rfl, by decide, vW 167 (by decide +kernel) (by decide +kernel), rfl, rfl, rfl⟩
theorem fl_X6_25 : vFl RX6 25 6 6 "I" false := ⟨RX6, TX6, 7, rfl, by decide, vW 168 (by decide +kernel) (by decide +kernel), rfl, rfl, rfl⟩
theorem fl_X8_146 : vFl RX8 146 6 6 "I" false := ⟨RX6, TX6, 7, rfl, by decide, vW 169 (by decide +kernel) (by decide +kernel), rfl, rfl, rfl⟩
theorem cl_X8_41 : Cond.classLink RX8 41 RX0 ∈ vWords := vW 185 (by decide +kernel) (by decide +kernel)
theorem in_X0 : Cond.instantiable RX0 14 ∈ vWords := vW 186 (by decide +kernel) (by decide +kernel)
theorem ml_X8_43 : Cond.methodLink RX8 43 yX0_init ∈ vWords := vW 187 (by decide +kernel) (by decide +kernel)
theorem ml_X0_5 : Cond.methodLink RX0 5 Lib.objectInit ∈ vWords := vW 190 (by decide +kernel) (by decide +kernel)
theorem kc_X0_34 : Cond.constant RX0 34 (Int32.ofInt (1000000)) ∈ vWords := vW 191 (by decide +kernel) (by decide +kernel)
theorem fl_X0_47 : vFl RX0 47 0 0 "LStageYard$Rocket;" true := ⟨RX0, TX0, 14, rfl, by decide, vW 192 (by decide +kernel) (by decide +kernel), rfl, rfl, rfl⟩
theorem fl_X0_57 : vFl RX0 57 0 1 "LStageYard$Engines;" true := ⟨RX0, TX0, 14, rfl, by decide, vW 193 (by decide +kernel) (by decide +kernel), rfl, rfl, rfl⟩
theorem fl_X0_58 : vFl RX0 58 0 2 "LStageYard$LowSums;" true := ⟨RX0, TX0, 14, rfl, by decide, vW 194 (by decide +kernel) (by decide +kernel), rfl, rfl, rfl⟩
theorem fl_X0_11 : vFl RX0 11 0 3 "[I" true := ⟨RX0, TX0, 14, rfl, by decide, vW 195 (by decide +kernel) (by decide +kernel), rfl, rfl, rfl⟩
theorem fl_X0_15 : vFl RX0 15 0 4 "[I" true := ⟨RX0, TX0, 14, rfl, by decide, vW 196 (by decide +kernel) (by decide +kernel), rfl, rfl, rfl⟩
theorem fl_X0_18 : vFl RX0 18 0 5 "[I" true := ⟨RX0, TX0, 14, rfl, by decide, vW 197 (by decide +kernel) (by decide +kernel), rfl, rfl, rfl⟩
theorem fl_X0_21 : vFl RX0 21 0 6 "[I" true := ⟨RX0, TX0, 14, rfl, by decide, vW 198 (by decide +kernel) (by decide +kernel), rfl, rfl, rfl⟩
theorem fl_X0_24 : vFl RX0 24 0 7 "I" false := ⟨RX0, TX0, 14, rfl, by decide, vW 199 (by decide +kernel) (by decide +kernel), rfl, rfl, rfl⟩
theorem fl_X0_28 : vFl RX0 28 0 8 "I" false := ⟨RX0, TX0, 14, rfl, by decide, vW 200 (by decide +kernel) (by decide +kernel), rfl, rfl, rfl⟩
theorem fl_X0_31 : vFl RX0 31 0 9 "I" false := ⟨RX0, TX0, 14, rfl, by decide, vW 201 (by decide +kernel) (by decide +kernel), rfl, rfl, rfl⟩
theorem fl_X0_35 : vFl RX0 35 0 10 "I" false := ⟨RX0, TX0, 14, rfl, by decide, vW 202 (by decide +kernel) (by decide +kernel), rfl, rfl, rfl⟩
theorem fl_X0_38 : vFl RX0 38 0 11 "I" false := ⟨RX0, TX0, 14, rfl, by decide, vW 203 (by decide +kernel) (by decide +kernel), rfl, rfl, rfl⟩
theorem fl_X0_41 : vFl RX0 41 0 12 "I" false := ⟨RX0, TX0, 14, rfl, by decide, vW 204 (by decide +kernel) (by decide +kernel), rfl, rfl, rfl⟩
theorem fl_X8_159 : vFl RX8 159 0 12 "I" false := ⟨RX0, TX0, 14, rfl, by decide, vW 205 (by decide +kernel) (by decide +kernel), rfl, rfl, rfl⟩
theorem fl_X0_44 : vFl RX0 44 0 13 "I" false := ⟨RX0, TX0, 14, rfl, by decide, vW 206 (by decide +kernel) (by decide +kernel), rfl, rfl, rfl⟩
theorem fl_X8_158 : vFl RX8 158 0 13 "I" false := ⟨RX0, TX0, 14, rfl, by decide, vW 207 (by decide +kernel) (by decide +kernel), rfl, rfl, rfl⟩
theorem cl_X8_48 : Cond.classLink RX8 48 RX5 ∈ vWords := vW 237 (by decide +kernel) (by decide +kernel)
theorem in_X5 : Cond.instantiable RX5 2 ∈ vWords := vW 238 (by decide +kernel) (by decide +kernel)
theorem ml_X8_50 : Cond.methodLink RX8 50 yX5_init ∈ vWords := vW 239 (by decide +kernel) (by decide +kernel)
theorem ml_X5_3 : Cond.methodLink RX5 3 Lib.objectInit ∈ vWords := vW 242 (by decide +kernel) (by decide +kernel)
theorem kc_X5_15 : Cond.constant RX5 15 (Int32.ofInt (1000000)) ∈ vWords := vW 243 (by decide +kernel) (by decide +kernel)
theorem fl_X5_9 : vFl RX5 9 5 0 "[I" true := ⟨RX5, TX5, 2, rfl, by decide, vW 244 (by decide +kernel) (by decide +kernel), rfl, rfl, rfl⟩
theorem fl_X8_168 : vFl RX8 168 5 0 "[I" true := ⟨RX5, TX5, 2, rfl, by decide, vW 245 (by decide +kernel) (by decide +kernel), rfl, rfl, rfl⟩
theorem fl_X5_16 : vFl RX5 16 5 1 "[I" true := ⟨RX5, TX5, 2, rfl, by decide, vW 246 (by decide +kernel) (by decide +kernel), rfl, rfl, rfl⟩
theorem fl_X2_125 : vFl RX2 125 5 1 "[I" true := ⟨RX5, TX5, 2, rfl, by decide, vW 247 (by decide +kernel) (by decide +kernel), rfl, rfl, rfl⟩
theorem fl_X8_171 : vFl RX8 171 5 1 "[I" true := ⟨RX5, TX5, 2, rfl, by decide, vW 248 (by decide +kernel) (by decide +kernel), rfl, rfl, rfl⟩
theorem cl_X8_55 : Cond.classLink RX8 55 RX2 ∈ vWords := vW 254 (by decide +kernel) (by decide +kernel)
theorem in_X2 : Cond.instantiable RX2 14 ∈ vWords := vW 255 (by decide +kernel) (by decide +kernel)
theorem ml_X8_57 : Cond.methodLink RX8 57 yX2_init ∈ vWords := vW 256 (by decide +kernel) (by decide +kernel)
theorem ml_X2_3 : Cond.methodLink RX2 3 Lib.objectInit ∈ vWords := vW 259 (by decide +kernel) (by decide +kernel)
theorem fl_X2_48 : vFl RX2 48 2 0 "LStageYard$Rocket;" true := ⟨RX2, TX2, 14, rfl, by decide, vW 260 (by decide +kernel) (by decide +kernel), rfl, rfl, rfl⟩
theorem fl_X2_52 : vFl RX2 52 2 1 "LStageYard$Sky;" true := ⟨RX2, TX2, 14, rfl, by decide, vW 261 (by decide +kernel) (by decide +kernel), rfl, rfl, rfl⟩
theorem fl_X2_9 : vFl RX2 9 2 2 "I" false := ⟨RX2, TX2, 14, rfl, by decide, vW 262 (by decide +kernel) (by decide +kernel), rfl, rfl, rfl⟩
theorem fl_X8_206 : vFl RX8 206 2 2 "I" false := ⟨RX2, TX2, 14, rfl, by decide, vW 263 (by decide +kernel) (by decide +kernel), rfl, rfl, rfl⟩
theorem fl_X2_15 : vFl RX2 15 2 3 "I" false := ⟨RX2, TX2, 14, rfl, by decide, vW 264 (by decide +kernel) (by decide +kernel), rfl, rfl, rfl⟩
theorem fl_X2_18 : vFl RX2 18 2 4 "I" false := ⟨RX2, TX2, 14, rfl, by decide, vW 265 (by decide +kernel) (by decide +kernel), rfl, rfl, rfl⟩
theorem fl_X2_21 : vFl RX2 21 2 5 "I" false := ⟨RX2, TX2, 14, rfl, by decide, vW 266 (by decide +kernel) (by decide +kernel), rfl, rfl, rfl⟩
theorem fl_X2_24 : vFl RX2 24 2 6 "I" false := ⟨RX2, TX2, 14, rfl, by decide, vW 267 (by decide +kernel) (by decide +kernel), rfl, rfl, rfl⟩
theorem fl_X2_27 : vFl RX2 27 2 7 "I" false := ⟨RX2, TX2, 14, rfl, by decide, vW 268 (by decide +kernel) (by decide +kernel), rfl, rfl, rfl⟩
theorem fl_X2_30 : vFl RX2 30 2 8 "I" false := ⟨RX2, TX2, 14, rfl, by decide, vW 269 (by decide +kernel) (by decide +kernel), rfl, rfl, rfl⟩
theorem fl_X8_188 : vFl RX8 188 2 8 "I" false := ⟨RX2, TX2, 14, rfl, by decide, vW 270 (by decide +kernel) (by decide +kernel), rfl, rfl, rfl⟩
theorem fl_X2_33 : vFl RX2 33 2 9 "I" false := ⟨RX2, TX2, 14, rfl, by decide, vW 271 (by decide +kernel) (by decide +kernel), rfl, rfl, rfl⟩
theorem fl_X8_191 : vFl RX8 191 2 9 "I" false := ⟨RX2, TX2, 14, rfl, by decide, vW 272 (by decide +kernel) (by decide +kernel), rfl, rfl, rfl⟩
theorem fl_X2_36 : vFl RX2 36 2 10 "I" false := ⟨RX2, TX2, 14, rfl, by decide, vW 273 (by decide +kernel) (by decide +kernel), rfl, rfl, rfl⟩
theorem fl_X8_194 : vFl RX8 194 2 10 "I" false := ⟨RX2, TX2, 14, rfl, by decide, vW 274 (by decide +kernel) (by decide +kernel), rfl, rfl, rfl⟩
theorem fl_X2_39 : vFl RX2 39 2 11 "I" false := ⟨RX2, TX2, 14, rfl, by decide, vW 275 (by decide +kernel) (by decide +kernel), rfl, rfl, rfl⟩
theorem fl_X8_197 : vFl RX8 197 2 11 "I" false := ⟨RX2, TX2, 14, rfl, by decide, vW 276 (by decide +kernel) (by decide +kernel), rfl, rfl, rfl⟩
theorem fl_X2_42 : vFl RX2 42 2 12 "I" false := ⟨RX2, TX2, 14, rfl, by decide, vW 277 (by decide +kernel) (by decide +kernel), rfl, rfl, rfl⟩
theorem fl_X8_200 : vFl RX8 200 2 12 "I" false := ⟨RX2, TX2, 14, rfl, by decide, vW 278 (by decide +kernel) (by decide +kernel), rfl, rfl, rfl⟩
theorem fl_X2_45 : vFl RX2 45 2 13 "I" false := ⟨RX2, TX2, 14, rfl, by decide, vW 279 (by decide +kernel) (by decide +kernel), rfl, rfl, rfl⟩
theorem fl_X8_203 : vFl RX8 203 2 13 "I" false := ⟨RX2, TX2, 14, rfl, by decide, vW 280 (by decide +kernel) (by decide +kernel), rfl, rfl, rfl⟩
theorem cl_X8_74 : Cond.classLink RX8 74 RX7 ∈ vWords := vW 310 (by decide +kernel) (by decide +kernel)
theorem in_X7 : Cond.instantiable RX7 9 ∈ vWords := vW 311 (by decide +kernel) (by decide +kernel)
theorem ml_X7_3 : Cond.methodLink RX7 3 Lib.objectInit ∈ vWords := vW 315 (by decide +kernel) (by decide +kernel)
theorem fl_X7_9 : vFl RX7 9 7 0 "[I" true := ⟨RX7, TX7, 9, rfl, by decide, vW 316 (by decide +kernel) (by decide +kernel), rfl, rfl, rfl⟩
theorem fl_X7_15 : vFl RX7 15 7 1 "[I" true := ⟨RX7, TX7, 9, rfl, by decide, vW 317 (by decide +kernel) (by decide +kernel), rfl, rfl, rfl⟩
theorem fl_X7_18 : vFl RX7 18 7 2 "[I" true := ⟨RX7, TX7, 9, rfl, by decide, vW 318 (by decide +kernel) (by decide +kernel), rfl, rfl, rfl⟩
theorem fl_X7_21 : vFl RX7 21 7 3 "[I" true := ⟨RX7, TX7, 9, rfl, by decide, vW 319 (by decide +kernel) (by decide +kernel), rfl, rfl, rfl⟩
theorem fl_X7_24 : vFl RX7 24 7 4 "[I" true := ⟨RX7, TX7, 9, rfl, by decide, vW 320 (by decide +kernel) (by decide +kernel), rfl, rfl, rfl⟩
theorem fl_X8_249 : vFl RX8 249 7 4 "[I" true := ⟨RX7, TX7, 9, rfl, by decide, vW 321 (by decide +kernel) (by decide +kernel), rfl, rfl, rfl⟩
theorem fl_X7_27 : vFl RX7 27 7 5 "[I" true := ⟨RX7, TX7, 9, rfl, by decide, vW 322 (by decide +kernel) (by decide +kernel), rfl, rfl, rfl⟩
theorem fl_X7_30 : vFl RX7 30 7 6 "I" false := ⟨RX7, TX7, 9, rfl, by decide, vW 323 (by decide +kernel) (by decide +kernel), rfl, rfl, rfl⟩
theorem fl_X8_260 : vFl RX8 260 7 6 "I" false := ⟨RX7, TX7, 9, rfl, by decide, vW 324 (by decide +kernel) (by decide +kernel), rfl, rfl, rfl⟩
theorem fl_X7_34 : vFl RX7 34 7 7 "I" false := ⟨RX7, TX7, 9, rfl, by decide, vW 325 (by decide +kernel) (by decide +kernel), rfl, rfl, rfl⟩
theorem fl_X8_254 : vFl RX8 254 7 7 "I" false := ⟨RX7, TX7, 9, rfl, by decide, vW 326 (by decide +kernel) (by decide +kernel), rfl, rfl, rfl⟩
theorem fl_X7_37 : vFl RX7 37 7 8 "I" false := ⟨RX7, TX7, 9, rfl, by decide, vW 327 (by decide +kernel) (by decide +kernel), rfl, rfl, rfl⟩
theorem fl_X8_257 : vFl RX8 257 7 8 "I" false := ⟨RX7, TX7, 9, rfl, by decide, vW 328 (by decide +kernel) (by decide +kernel), rfl, rfl, rfl⟩
theorem fl_X8_7 : vFl RX8 7 8 0 "[I" true := ⟨RX8, TX8, 11, rfl, by decide, vW 348 (by decide +kernel) (by decide +kernel), rfl, rfl, rfl⟩
theorem fl_X8_16 : vFl RX8 16 8 1 "LStageYard$Engines;" true := ⟨RX8, TX8, 11, rfl, by decide, vW 349 (by decide +kernel) (by decide +kernel), rfl, rfl, rfl⟩
theorem fl_X8_25 : vFl RX8 25 8 2 "LStageYard$Rocket;" true := ⟨RX8, TX8, 11, rfl, by decide, vW 350 (by decide +kernel) (by decide +kernel), rfl, rfl, rfl⟩
theorem fl_X8_37 : vFl RX8 37 8 3 "LStageYard$SplitSearch;" true := ⟨RX8, TX8, 11, rfl, by decide, vW 351 (by decide +kernel) (by decide +kernel), rfl, rfl, rfl⟩
theorem fl_X8_44 : vFl RX8 44 8 4 "LStageYard$CheapestSearch;" true := ⟨RX8, TX8, 11, rfl, by decide, vW 352 (by decide +kernel) (by decide +kernel), rfl, rfl, rfl⟩
theorem fl_X8_51 : vFl RX8 51 8 5 "LStageYard$Sky;" true := ⟨RX8, TX8, 11, rfl, by decide, vW 353 (by decide +kernel) (by decide +kernel), rfl, rfl, rfl⟩
theorem fl_X8_60 : vFl RX8 60 8 6 "LStageYard$Flight;" true := ⟨RX8, TX8, 11, rfl, by decide, vW 354 (by decide +kernel) (by decide +kernel), rfl, rfl, rfl⟩
theorem fl_X8_64 : vFl RX8 64 8 7 "LStageYard$Flight;" true := ⟨RX8, TX8, 11, rfl, by decide, vW 355 (by decide +kernel) (by decide +kernel), rfl, rfl, rfl⟩
theorem fl_X8_67 : vFl RX8 67 8 8 "LStageYard$Flight;" true := ⟨RX8, TX8, 11, rfl, by decide, vW 356 (by decide +kernel) (by decide +kernel), rfl, rfl, rfl⟩
theorem fl_X8_70 : vFl RX8 70 8 9 "Z" false := ⟨RX8, TX8, 11, rfl, by decide, vW 357 (by decide +kernel) (by decide +kernel), rfl, rfl, rfl⟩
theorem fl_X8_77 : vFl RX8 77 8 10 "LStageYard$Year;" true := ⟨RX8, TX8, 11, rfl, by decide, vW 358 (by decide +kernel) (by decide +kernel), rfl, rfl, rfl⟩
theorem ml_L_13 : Cond.methodLink RL 13 yX8_engine ∈ vWords := vW 382 (by decide +kernel) (by decide +kernel)
theorem ml_X8_81 : Cond.methodLink RX8 81 yX8_within ∈ vWords := vW 386 (by decide +kernel) (by decide +kernel)
theorem ml_X8_85 : Cond.methodLink RX8 85 yX1_add ∈ vWords := vW 389 (by decide +kernel) (by decide +kernel)
theorem ml_L_18 : Cond.methodLink RL 18 yX8_store ∈ vWords := vW 393 (by decide +kernel) (by decide +kernel)
theorem ml_X8_89 : Cond.methodLink RX8 89 yX1_has ∈ vWords := vW 397 (by decide +kernel) (by decide +kernel)
theorem ml_L_23 : Cond.methodLink RL 23 yX8_stage ∈ vWords := vW 401 (by decide +kernel) (by decide +kernel)
theorem ml_X8_96 : Cond.methodLink RX8 96 yX4_addOnTop ∈ vWords := vW 405 (by decide +kernel) (by decide +kernel)
theorem ml_L_27 : Cond.methodLink RL 27 yX8_undo ∈ vWords := vW 409 (by decide +kernel) (by decide +kernel)
theorem ml_L_32 : Cond.methodLink RL 32 yX8_stuff ∈ vWords := vW 413 (by decide +kernel) (by decide +kernel)
theorem ml_X8_103 : Cond.methodLink RX8 103 yX4_has ∈ vWords := vW 417 (by decide +kernel) (by decide +kernel)
theorem ml_X8_107 : Cond.methodLink RX8 107 yX8_put ∈ vWords := vW 421 (by decide +kernel) (by decide +kernel)
theorem ml_L_36 : Cond.methodLink RL 36 yX8_set ∈ vWords := vW 424 (by decide +kernel) (by decide +kernel)
theorem fs_X8_111 : Cond.fieldLink RX8 111 RX8 "SETTING_LEAST" "[I" ∈ vWords := vW 428 (by decide +kernel) (by decide +kernel)
theorem fs_X8_114 : Cond.fieldLink RX8 114 RX8 "SETTING_MOST" "[I" ∈ vWords := vW 430 (by decide +kernel) (by decide +kernel)
theorem ml_L_40 : Cond.methodLink RL 40 yX8_about ∈ vWords := vW 432 (by decide +kernel) (by decide +kernel)
theorem ml_X8_126 : Cond.methodLink RX8 126 yX4_dryOf ∈ vWords := vW 436 (by decide +kernel) (by decide +kernel)
theorem ml_X4_35 : Cond.methodLink RX4 35 yX4_has ∈ vWords := vW 440 (by decide +kernel) (by decide +kernel)
theorem ml_X4_39 : Cond.methodLink RX4 39 yX4_bareOf ∈ vWords := vW 441 (by decide +kernel) (by decide +kernel)
theorem ml_X4_43 : Cond.methodLink RX4 43 yX4_tankFor ∈ vWords := vW 445 (by decide +kernel) (by decide +kernel)
theorem ml_X8_130 : Cond.methodLink RX8 130 yX4_massFrom ∈ vWords := vW 449 (by decide +kernel) (by decide +kernel)
theorem ml_X4_54 : Cond.methodLink RX4 54 yX4_load ∈ vWords := vW 453 (by decide +kernel) (by decide +kernel)
theorem ml_X4_58 : Cond.methodLink RX4 58 Lib.Math.max.name ∈ vWords := vW 457 (by decide +kernel) (by decide +kernel)
theorem ml_X4_64 : Cond.methodLink RX4 64 yX4_dryOf ∈ vWords := vW 460 (by decide +kernel) (by decide +kernel)
theorem ml_X8_133 : Cond.methodLink RX8 133 yX4_lowOf ∈ vWords := vW 461 (by decide +kernel) (by decide +kernel)
theorem ml_X4_67 : Cond.methodLink RX4 67 yX4_exhaustOf ∈ vWords := vW 465 (by decide +kernel) (by decide +kernel)
theorem ml_X4_70 : Cond.methodLink RX4 70 yX4_massFrom ∈ vWords := vW 469 (by decide +kernel) (by decide +kernel)
theorem ml_X8_137 : Cond.methodLink RX8 137 yX4_highOf ∈ vWords := vW 470 (by decide +kernel) (by decide +kernel)
theorem ml_X8_140 : Cond.methodLink RX8 140 yX4_liftOf ∈ vWords := vW 474 (by decide +kernel) (by decide +kernel)
theorem ml_L_44 : Cond.methodLink RL 44 yX8_speed ∈ vWords := vW 478 (by decide +kernel) (by decide +kernel)
theorem ml_L_49 : Cond.methodLink RL 49 yX8_split ∈ vWords := vW 482 (by decide +kernel) (by decide +kernel)
theorem ml_X8_143 : Cond.methodLink RX8 143 yX6_search ∈ vWords := vW 486 (by decide +kernel) (by decide +kernel)
theorem ml_X6_41 : Cond.methodLink RX6 41 yX4_load ∈ vWords := vW 490 (by decide +kernel) (by decide +kernel)
theorem ml_X6_45 : Cond.methodLink RX6 45 yX4_bareOf ∈ vWords := vW 491 (by decide +kernel) (by decide +kernel)
theorem ml_X6_49 : Cond.methodLink RX6 49 yX6_tankFor ∈ vWords := vW 492 (by decide +kernel) (by decide +kernel)
theorem ml_X6_73 : Cond.methodLink RX6 73 yX4_tankFor ∈ vWords := vW 496 (by decide +kernel) (by decide +kernel)
theorem ml_X6_52 : Cond.methodLink RX6 52 yX4_exhaustOf ∈ vWords := vW 497 (by decide +kernel) (by decide +kernel)
theorem ml_X6_55 : Cond.methodLink RX6 55 yX3_ready ∈ vWords := vW 498 (by decide +kernel) (by decide +kernel)
theorem ml_X3_22 : Cond.methodLink RX3 22 Lib.Math.max.name ∈ vWords := vW 502 (by decide +kernel) (by decide +kernel)
theorem ml_X3_28 : Cond.methodLink RX3 28 Lib.Math.min.name ∈ vWords := vW 503 (by decide +kernel) (by decide +kernel)
theorem ml_X6_61 : Cond.methodLink RX6 61 Lib.Math.min.name ∈ vWords := vW 506 (by decide +kernel) (by decide +kernel)
theorem ml_X6_67 : Cond.methodLink RX6 67 yX6_fill ∈ vWords := vW 507 (by decide +kernel) (by decide +kernel)
theorem ml_X6_74 : Cond.methodLink RX6 74 yX3_between ∈ vWords := vW 511 (by decide +kernel) (by decide +kernel)
theorem ml_X6_80 : Cond.methodLink RX6 80 yX6_offer ∈ vWords := vW 518 (by decide +kernel) (by decide +kernel)
theorem ml_X6_70 : Cond.methodLink RX6 70 yX6_tellBest ∈ vWords := vW 522 (by decide +kernel) (by decide +kernel)
theorem ml_L_53 : Cond.methodLink RL 53 yX8_lots ∈ vWords := vW 526 (by decide +kernel) (by decide +kernel)
theorem ml_X8_152 : Cond.methodLink RX8 152 yX8_digitIn ∈ vWords := vW 530 (by decide +kernel) (by decide +kernel)
theorem ml_L_57 : Cond.methodLink RL 57 yX8_cheapest ∈ vWords := vW 533 (by decide +kernel) (by decide +kernel)
theorem kc_X8_155 : Cond.constant RX8 155 (Int32.ofInt (1000000)) ∈ vWords := vW 537 (by decide +kernel) (by decide +kernel)
theorem ml_X8_157 : Cond.methodLink RX8 157 yX0_search ∈ vWords := vW 538 (by decide +kernel) (by decide +kernel)
theorem ml_X0_62 : Cond.methodLink RX0 62 yX4_load ∈ vWords := vW 542 (by decide +kernel) (by decide +kernel)
theorem ml_X0_66 : Cond.methodLink RX0 66 yX0_keep ∈ vWords := vW 543 (by decide +kernel) (by decide +kernel)
theorem ml_X0_73 : Cond.methodLink RX0 73 yX0_chooseFor ∈ vWords := vW 547 (by decide +kernel) (by decide +kernel)
theorem ml_X0_77 : Cond.methodLink RX0 77 yX4_has ∈ vWords := vW 551 (by decide +kernel) (by decide +kernel)
theorem ml_X0_87 : Cond.methodLink RX0 87 yX4_tankFor ∈ vWords := vW 552 (by decide +kernel) (by decide +kernel)
theorem ml_X0_91 : Cond.methodLink RX0 91 Lib.Math.min.name ∈ vWords := vW 553 (by decide +kernel) (by decide +kernel)
theorem ml_X0_97 : Cond.methodLink RX0 97 Lib.Math.max.name ∈ vWords := vW 554 (by decide +kernel) (by decide +kernel)
theorem ml_X0_109 : Cond.methodLink RX0 109 yX3_ready ∈ vWords := vW 555 (by decide +kernel) (by decide +kernel)
theorem ml_X0_114 : Cond.methodLink RX0 114 yX0_chooseEngine ∈ vWords := vW 556 (by decide +kernel) (by decide +kernel)
theorem ml_X0_120 : Cond.methodLink RX0 120 yX0_lifts ∈ vWords := vW 560 (by decide +kernel) (by decide +kernel)
theorem ml_X0_124 : Cond.methodLink RX0 124 yX3_between ∈ vWords := vW 564 (by decide +kernel) (by decide +kernel)
theorem ml_X0_127 : Cond.methodLink RX0 127 yX0_optionOf ∈ vWords := vW 565 (by decide +kernel) (by decide +kernel)
theorem ml_X0_133 : Cond.methodLink RX0 133 yX0_offer ∈ vWords := vW 569 (by decide +kernel) (by decide +kernel)
theorem ml_L_61 : Cond.methodLink RL 61 yX8_chosen ∈ vWords := vW 573 (by decide +kernel) (by decide +kernel)
theorem ml_X8_162 : Cond.methodLink RX8 162 yX0_engineIn ∈ vWords := vW 577 (by decide +kernel) (by decide +kernel)
theorem ml_X8_165 : Cond.methodLink RX8 165 yX0_manyIn ∈ vWords := vW 580 (by decide +kernel) (by decide +kernel)
theorem ml_L_65 : Cond.methodLink RL 65 yX8_air ∈ vWords := vW 583 (by decide +kernel) (by decide +kernel)
theorem ml_L_69 : Cond.methodLink RL 69 yX8_limit ∈ vWords := vW 587 (by decide +kernel) (by decide +kernel)
theorem ml_L_73 : Cond.methodLink RL 73 yX8_fly ∈ vWords := vW 591 (by decide +kernel) (by decide +kernel)
theorem ml_X8_174 : Cond.methodLink RX8 174 yX4_allStuff ∈ vWords := vW 595 (by decide +kernel) (by decide +kernel)
theorem ml_X8_178 : Cond.methodLink RX8 178 yX2_begin ∈ vWords := vW 599 (by decide +kernel) (by decide +kernel)
theorem ml_X2_56 : Cond.methodLink RX2 56 yX4_massFrom ∈ vWords := vW 603 (by decide +kernel) (by decide +kernel)
theorem ml_X2_62 : Cond.methodLink RX2 62 yX4_allStuff ∈ vWords := vW 604 (by decide +kernel) (by decide +kernel)
theorem ml_X2_66 : Cond.methodLink RX2 66 yX2_readyLowest ∈ vWords := vW 605 (by decide +kernel) (by decide +kernel)
theorem ml_X2_69 : Cond.methodLink RX2 69 yX4_has ∈ vWords := vW 609 (by decide +kernel) (by decide +kernel)
theorem ml_X8_181 : Cond.methodLink RX8 181 yX2_goOn ∈ vWords := vW 610 (by decide +kernel) (by decide +kernel)
theorem ml_X2_94 : Cond.methodLink RX2 94 yX2_goesOn ∈ vWords := vW 614 (by decide +kernel) (by decide +kernel)
theorem ml_X2_101 : Cond.methodLink RX2 101 yX2_burnLowest ∈ vWords := vW 618 (by decide +kernel) (by decide +kernel)
theorem ml_X2_105 : Cond.methodLink RX2 105 Lib.Math.min.name ∈ vWords := vW 622 (by decide +kernel) (by decide +kernel)
theorem ml_X2_111 : Cond.methodLink RX2 111 yX5_dragOf ∈ vWords := vW 623 (by decide +kernel) (by decide +kernel)
theorem kc_X5_19 : Cond.constantLong RX5 19 (Int64.ofInt (100)) ∈ vWords := vW 627 (by decide +kernel) (by decide +kernel)
theorem ml_X2_116 : Cond.methodLink RX2 116 yX2_noteLoading ∈ vWords := vW 628 (by decide +kernel) (by decide +kernel)
theorem kc_X2_120 : Cond.constant RX2 120 (Int32.ofInt (-100000)) ∈ vWords := vW 632 (by decide +kernel) (by decide +kernel)
theorem kc_X2_121 : Cond.constant RX2 121 (Int32.ofInt (100000)) ∈ vWords := vW 633 (by decide +kernel) (by decide +kernel)
theorem ml_X2_122 : Cond.methodLink RX2 122 Lib.Math.max.name ∈ vWords := vW 634 (by decide +kernel) (by decide +kernel)
theorem ml_X2_98 : Cond.methodLink RX2 98 yX2_dropLowest ∈ vWords := vW 635 (by decide +kernel) (by decide +kernel)
theorem ml_X2_91 : Cond.methodLink RX2 91 yX4_dryOf ∈ vWords := vW 639 (by decide +kernel) (by decide +kernel)
theorem ml_X8_185 : Cond.methodLink RX8 185 yX2_breakNow ∈ vWords := vW 640 (by decide +kernel) (by decide +kernel)
theorem ml_L_77 : Cond.methodLink RL 77 yX8_flown ∈ vWords := vW 644 (by decide +kernel) (by decide +kernel)
theorem ml_L_81 : Cond.methodLink RL 81 yX8_out ∈ vWords := vW 648 (by decide +kernel) (by decide +kernel)
theorem ml_X8_209 : Cond.methodLink RX8 209 yX2_loseEngine ∈ vWords := vW 652 (by decide +kernel) (by decide +kernel)
theorem ml_L_85 : Cond.methodLink RL 85 yX8_safe ∈ vWords := vW 656 (by decide +kernel) (by decide +kernel)
theorem ml_X8_212 : Cond.methodLink RX8 212 yX2_goesOn ∈ vWords := vW 660 (by decide +kernel) (by decide +kernel)
theorem ml_X8_216 : Cond.methodLink RX8 216 yX2_copyOf ∈ vWords := vW 661 (by decide +kernel) (by decide +kernel)
theorem ml_L_89 : Cond.methodLink RL 89 yX8_cost ∈ vWords := vW 665 (by decide +kernel) (by decide +kernel)
theorem ml_X8_220 : Cond.methodLink RX8 220 yX1_costAt ∈ vWords := vW 669 (by decide +kernel) (by decide +kernel)
theorem ml_X1_34 : Cond.methodLink RX1 34 yX1_has ∈ vWords := vW 673 (by decide +kernel) (by decide +kernel)
theorem ml_X1_38 : Cond.methodLink RX1 38 yX1_nextCost ∈ vWords := vW 674 (by decide +kernel) (by decide +kernel)
theorem ml_X1_42 : Cond.methodLink RX1 42 Lib.Math.max.name ∈ vWords := vW 677 (by decide +kernel) (by decide +kernel)
theorem ml_L_93 : Cond.methodLink RL 93 yX8_price ∈ vWords := vW 678 (by decide +kernel) (by decide +kernel)
theorem ml_X8_224 : Cond.methodLink RX8 224 yX4_priceNow ∈ vWords := vW 682 (by decide +kernel) (by decide +kernel)
theorem ml_X4_80 : Cond.methodLink RX4 80 yX4_neededOf ∈ vWords := vW 686 (by decide +kernel) (by decide +kernel)
theorem ml_X4_83 : Cond.methodLink RX4 83 yX1_costOfMissing ∈ vWords := vW 690 (by decide +kernel) (by decide +kernel)
theorem ml_X1_47 : Cond.methodLink RX1 47 yX1_missing ∈ vWords := vW 694 (by decide +kernel) (by decide +kernel)
theorem ml_X1_50 : Cond.methodLink RX1 50 yX1_costAt ∈ vWords := vW 698 (by decide +kernel) (by decide +kernel)
theorem ml_L_97 : Cond.methodLink RL 97 yX8_buy ∈ vWords := vW 699 (by decide +kernel) (by decide +kernel)
theorem ml_X8_230 : Cond.methodLink RX8 230 yX4_neededOf ∈ vWords := vW 703 (by decide +kernel) (by decide +kernel)
theorem ml_X8_233 : Cond.methodLink RX8 233 yX1_missing ∈ vWords := vW 704 (by decide +kernel) (by decide +kernel)
theorem ml_X8_236 : Cond.methodLink RX8 236 yX1_take ∈ vWords := vW 705 (by decide +kernel) (by decide +kernel)
theorem ml_L_101 : Cond.methodLink RL 101 yX8_keeping ∈ vWords := vW 709 (by decide +kernel) (by decide +kernel)
theorem ml_L_105 : Cond.methodLink RL 105 yX8_even ∈ vWords := vW 713 (by decide +kernel) (by decide +kernel)
theorem kc_X8_240 : Cond.constant RX8 240 (Int32.ofInt (99999)) ∈ vWords := vW 717 (by decide +kernel) (by decide +kernel)
theorem ml_X8_241 : Cond.methodLink RX8 241 yX4_enginesCost ∈ vWords := vW 718 (by decide +kernel) (by decide +kernel)
theorem kc_X8_244 : Cond.constantLong RX8 244 (Int64.ofInt (100)) ∈ vWords := vW 722 (by decide +kernel) (by decide +kernel)
theorem ml_L_110 : Cond.methodLink RL 110 yX8_flight ∈ vWords := vW 723 (by decide +kernel) (by decide +kernel)
theorem ml_X8_246 : Cond.methodLink RX8 246 yX7_add ∈ vWords := vW 727 (by decide +kernel) (by decide +kernel)
theorem ml_L_115 : Cond.methodLink RL 115 yX8_deliver ∈ vWords := vW 731 (by decide +kernel) (by decide +kernel)
theorem ml_L_119 : Cond.methodLink RL 119 yX8_year ∈ vWords := vW 735 (by decide +kernel) (by decide +kernel)
theorem ml_X8_252 : Cond.methodLink RX8 252 yX7_search ∈ vWords := vW 739 (by decide +kernel) (by decide +kernel)
theorem ml_X7_40 : Cond.methodLink RX7 40 yX7_choose ∈ vWords := vW 743 (by decide +kernel) (by decide +kernel)
theorem ml_X7_44 : Cond.methodLink RX7 44 yX7_offer ∈ vWords := vW 747 (by decide +kernel) (by decide +kernel)
theorem ml_L_123 : Cond.methodLink RL 123 yX8_flights ∈ vWords := vW 751 (by decide +kernel) (by decide +kernel)
theorem ml_L_127 : Cond.methodLink RL 127 yX8_count ∈ vWords := vW 755 (by decide +kernel) (by decide +kernel)
theorem ml_X8_261 : Cond.methodLink RX8 261 yX8_sumOf ∈ vWords := vW 759 (by decide +kernel) (by decide +kernel)
theorem cl_L_10 : Cond.classLink RL 10 RX9 ∈ vWords := vW 762 (by decide +kernel) (by decide +kernel)
theorem in_X9 : Cond.instantiable RX9 47 ∈ vWords := vW 763 (by decide +kernel) (by decide +kernel)
theorem ml_L_12 : Cond.methodLink RL 12 yX9_init ∈ vWords := vW 764 (by decide +kernel) (by decide +kernel)
theorem ml_X9_1 : Cond.methodLink RX9 1 Lib.objectInit ∈ vWords := vW 767 (by decide +kernel) (by decide +kernel)
theorem kc_X9_106 : Cond.constant RX9 106 (Int32.ofInt (1000000)) ∈ vWords := vW 768 (by decide +kernel) (by decide +kernel)
theorem fl_X9_7 : vFl RX9 7 9 0 "[I" true := ⟨RX9, TX9, 47, rfl, by decide, vW 769 (by decide +kernel) (by decide +kernel), rfl, rfl, rfl⟩
theorem fl_X9_13 : vFl RX9 13 9 1 "[I" true := ⟨RX9, TX9, 47, rfl, by decide, vW 770 (by decide +kernel) (by decide +kernel), rfl, rfl, rfl⟩
theorem fl_X9_16 : vFl RX9 16 9 2 "[I" true := ⟨RX9, TX9, 47, rfl, by decide, vW 771 (by decide +kernel) (by decide +kernel), rfl, rfl, rfl⟩
theorem fl_X9_19 : vFl RX9 19 9 3 "[I" true := ⟨RX9, TX9, 47, rfl, by decide, vW 772 (by decide +kernel) (by decide +kernel), rfl, rfl, rfl⟩
theorem fl_X9_22 : vFl RX9 22 9 4 "[I" true := ⟨RX9, TX9, 47, rfl, by decide, vW 773 (by decide +kernel) (by decide +kernel), rfl, rfl, rfl⟩
theorem fl_X9_25 : vFl RX9 25 9 5 "[I" true := ⟨RX9, TX9, 47, rfl, by decide, vW 774 (by decide +kernel) (by decide +kernel), rfl, rfl, rfl⟩
theorem fl_X9_28 : vFl RX9 28 9 6 "[I" true := ⟨RX9, TX9, 47, rfl, by decide, vW 775 (by decide +kernel) (by decide +kernel), rfl, rfl, rfl⟩
theorem fl_X9_31 : vFl RX9 31 9 7 "[I" true := ⟨RX9, TX9, 47, rfl, by decide, vW 776 (by decide +kernel) (by decide +kernel), rfl, rfl, rfl⟩
theorem fl_X9_34 : vFl RX9 34 9 8 "[I" true := ⟨RX9, TX9, 47, rfl, by decide, vW 777 (by decide +kernel) (by decide +kernel), rfl, rfl, rfl⟩
theorem fl_X9_37 : vFl RX9 37 9 9 "[I" true := ⟨RX9, TX9, 47, rfl, by decide, vW 778 (by decide +kernel) (by decide +kernel), rfl, rfl, rfl⟩
theorem fl_X9_40 : vFl RX9 40 9 10 "[I" true := ⟨RX9, TX9, 47, rfl, by decide, vW 779 (by decide +kernel) (by decide +kernel), rfl, rfl, rfl⟩
theorem fl_X9_43 : vFl RX9 43 9 11 "[I" true := ⟨RX9, TX9, 47, rfl, by decide, vW 780 (by decide +kernel) (by decide +kernel), rfl, rfl, rfl⟩
theorem fl_X9_107 : vFl RX9 107 9 12 "I" false := ⟨RX9, TX9, 47, rfl, by decide, vW 781 (by decide +kernel) (by decide +kernel), rfl, rfl, rfl⟩
theorem fl_X9_110 : vFl RX9 110 9 13 "I" false := ⟨RX9, TX9, 47, rfl, by decide, vW 782 (by decide +kernel) (by decide +kernel), rfl, rfl, rfl⟩
theorem fl_X9_46 : vFl RX9 46 9 14 "I" false := ⟨RX9, TX9, 47, rfl, by decide, vW 783 (by decide +kernel) (by decide +kernel), rfl, rfl, rfl⟩
theorem fl_X9_50 : vFl RX9 50 9 15 "I" false := ⟨RX9, TX9, 47, rfl, by decide, vW 784 (by decide +kernel) (by decide +kernel), rfl, rfl, rfl⟩
theorem fl_X9_53 : vFl RX9 53 9 16 "I" false := ⟨RX9, TX9, 47, rfl, by decide, vW 785 (by decide +kernel) (by decide +kernel), rfl, rfl, rfl⟩
theorem fl_X9_56 : vFl RX9 56 9 17 "[I" true := ⟨RX9, TX9, 47, rfl, by decide, vW 786 (by decide +kernel) (by decide +kernel), rfl, rfl, rfl⟩
theorem fl_X9_59 : vFl RX9 59 9 18 "[I" true := ⟨RX9, TX9, 47, rfl, by decide, vW 787 (by decide +kernel) (by decide +kernel), rfl, rfl, rfl⟩
theorem fl_X9_62 : vFl RX9 62 9 19 "[I" true := ⟨RX9, TX9, 47, rfl, by decide, vW 788 (by decide +kernel) (by decide +kernel), rfl, rfl, rfl⟩
theorem fl_X9_177 : vFl RX9 177 9 20 "I" false := ⟨RX9, TX9, 47, rfl, by decide, vW 789 (by decide +kernel) (by decide +kernel), rfl, rfl, rfl⟩
theorem fl_X9_65 : vFl RX9 65 9 21 "[I" true := ⟨RX9, TX9, 47, rfl, by decide, vW 790 (by decide +kernel) (by decide +kernel), rfl, rfl, rfl⟩
theorem fl_X9_68 : vFl RX9 68 9 22 "[I" true := ⟨RX9, TX9, 47, rfl, by decide, vW 791 (by decide +kernel) (by decide +kernel), rfl, rfl, rfl⟩
theorem fl_X9_71 : vFl RX9 71 9 23 "[J" true := ⟨RX9, TX9, 47, rfl, by decide, vW 792 (by decide +kernel) (by decide +kernel), rfl, rfl, rfl⟩
theorem fl_X9_75 : vFl RX9 75 9 24 "[J" true := ⟨RX9, TX9, 47, rfl, by decide, vW 793 (by decide +kernel) (by decide +kernel), rfl, rfl, rfl⟩
theorem fl_X9_78 : vFl RX9 78 9 25 "[J" true := ⟨RX9, TX9, 47, rfl, by decide, vW 794 (by decide +kernel) (by decide +kernel), rfl, rfl, rfl⟩
theorem fl_X9_81 : vFl RX9 81 9 26 "[Z" true := ⟨RX9, TX9, 47, rfl, by decide, vW 795 (by decide +kernel) (by decide +kernel), rfl, rfl, rfl⟩
theorem fl_X9_188 : vFl RX9 188 9 27 "I" false := ⟨RX9, TX9, 47, rfl, by decide, vW 796 (by decide +kernel) (by decide +kernel), rfl, rfl, rfl⟩
theorem fl_X9_85 : vFl RX9 85 9 28 "[I" true := ⟨RX9, TX9, 47, rfl, by decide, vW 797 (by decide +kernel) (by decide +kernel), rfl, rfl, rfl⟩
theorem fl_X9_191 : vFl RX9 191 9 29 "I" false := ⟨RX9, TX9, 47, rfl, by decide, vW 798 (by decide +kernel) (by decide +kernel), rfl, rfl, rfl⟩
theorem fl_X9_197 : vFl RX9 197 9 30 "I" false := ⟨RX9, TX9, 47, rfl, by decide, vW 799 (by decide +kernel) (by decide +kernel), rfl, rfl, rfl⟩
theorem fl_X9_211 : vFl RX9 211 9 31 "I" false := ⟨RX9, TX9, 47, rfl, by decide, vW 800 (by decide +kernel) (by decide +kernel), rfl, rfl, rfl⟩
theorem fl_X9_214 : vFl RX9 214 9 32 "I" false := ⟨RX9, TX9, 47, rfl, by decide, vW 801 (by decide +kernel) (by decide +kernel), rfl, rfl, rfl⟩
theorem fl_X9_217 : vFl RX9 217 9 33 "I" false := ⟨RX9, TX9, 47, rfl, by decide, vW 802 (by decide +kernel) (by decide +kernel), rfl, rfl, rfl⟩
theorem fl_X9_220 : vFl RX9 220 9 34 "I" false := ⟨RX9, TX9, 47, rfl, by decide, vW 803 (by decide +kernel) (by decide +kernel), rfl, rfl, rfl⟩
theorem fl_X9_194 : vFl RX9 194 9 35 "I" false := ⟨RX9, TX9, 47, rfl, by decide, vW 804 (by decide +kernel) (by decide +kernel), rfl, rfl, rfl⟩
theorem fl_X9_204 : vFl RX9 204 9 36 "J" false := ⟨RX9, TX9, 47, rfl, by decide, vW 805 (by decide +kernel) (by decide +kernel), rfl, rfl, rfl⟩
theorem fl_X9_208 : vFl RX9 208 9 37 "J" false := ⟨RX9, TX9, 47, rfl, by decide, vW 806 (by decide +kernel) (by decide +kernel), rfl, rfl, rfl⟩
theorem fl_X9_88 : vFl RX9 88 9 38 "[I" true := ⟨RX9, TX9, 47, rfl, by decide, vW 807 (by decide +kernel) (by decide +kernel), rfl, rfl, rfl⟩
theorem fl_X9_240 : vFl RX9 240 9 39 "Z" false := ⟨RX9, TX9, 47, rfl, by decide, vW 808 (by decide +kernel) (by decide +kernel), rfl, rfl, rfl⟩
theorem fl_X9_91 : vFl RX9 91 9 40 "[I" true := ⟨RX9, TX9, 47, rfl, by decide, vW 809 (by decide +kernel) (by decide +kernel), rfl, rfl, rfl⟩
theorem fl_X9_94 : vFl RX9 94 9 41 "[I" true := ⟨RX9, TX9, 47, rfl, by decide, vW 810 (by decide +kernel) (by decide +kernel), rfl, rfl, rfl⟩
theorem fl_X9_97 : vFl RX9 97 9 42 "[I" true := ⟨RX9, TX9, 47, rfl, by decide, vW 811 (by decide +kernel) (by decide +kernel), rfl, rfl, rfl⟩
theorem fl_X9_100 : vFl RX9 100 9 43 "[I" true := ⟨RX9, TX9, 47, rfl, by decide, vW 812 (by decide +kernel) (by decide +kernel), rfl, rfl, rfl⟩
theorem fl_X9_103 : vFl RX9 103 9 44 "[I" true := ⟨RX9, TX9, 47, rfl, by decide, vW 813 (by decide +kernel) (by decide +kernel), rfl, rfl, rfl⟩
theorem fl_X9_261 : vFl RX9 261 9 45 "I" false := ⟨RX9, TX9, 47, rfl, by decide, vW 814 (by decide +kernel) (by decide +kernel), rfl, rfl, rfl⟩
theorem fl_X9_264 : vFl RX9 264 9 46 "I" false := ⟨RX9, TX9, 47, rfl, by decide, vW 815 (by decide +kernel) (by decide +kernel), rfl, rfl, rfl⟩
theorem ac_long : Cond.arrayClass .long ∈ vWords := vW 911 (by decide +kernel) (by decide +kernel)
theorem ac_boolean : Cond.arrayClass .boolean ∈ vWords := vW 912 (by decide +kernel) (by decide +kernel)
theorem ml_L_17 : Cond.methodLink RL 17 yX9_engine ∈ vWords := vW 913 (by decide +kernel) (by decide +kernel)
theorem kc_X9_113 : Cond.constantLong RX9 113 (Int64.ofInt (999)) ∈ vWords := vW 917 (by decide +kernel) (by decide +kernel)
theorem ml_X9_115 : Cond.methodLink RX9 115 yX9_isIn ∈ vWords := vW 918 (by decide +kernel) (by decide +kernel)
theorem kc_X9_119 : Cond.constantLong RX9 119 (Int64.ofInt (99)) ∈ vWords := vW 921 (by decide +kernel) (by decide +kernel)
theorem kc_X9_121 : Cond.constantLong RX9 121 (Int64.ofInt (9999)) ∈ vWords := vW 922 (by decide +kernel) (by decide +kernel)
theorem ml_L_22 : Cond.methodLink RL 22 yX9_store ∈ vWords := vW 923 (by decide +kernel) (by decide +kernel)
theorem ml_X9_123 : Cond.methodLink RX9 123 yX9_isEngine ∈ vWords := vW 927 (by decide +kernel) (by decide +kernel)
theorem ml_L_26 : Cond.methodLink RL 26 yX9_stage ∈ vWords := vW 931 (by decide +kernel) (by decide +kernel)
theorem kc_X9_127 : Cond.constantLong RX9 127 (Int64.ofInt (9)) ∈ vWords := vW 935 (by decide +kernel) (by decide +kernel)
theorem kc_X9_129 : Cond.constantLong RX9 129 (Int64.ofInt (600)) ∈ vWords := vW 936 (by decide +kernel) (by decide +kernel)
theorem ml_L_31 : Cond.methodLink RL 31 yX9_undo ∈ vWords := vW 937 (by decide +kernel) (by decide +kernel)
theorem ml_L_35 : Cond.methodLink RL 35 yX9_stuff ∈ vWords := vW 941 (by decide +kernel) (by decide +kernel)
theorem ml_X9_131 : Cond.methodLink RX9 131 yX9_isStage ∈ vWords := vW 945 (by decide +kernel) (by decide +kernel)
theorem ml_L_39 : Cond.methodLink RL 39 yX9_set ∈ vWords := vW 949 (by decide +kernel) (by decide +kernel)
theorem kc_X9_134 : Cond.constantLong RX9 134 (Int64.ofInt (2)) ∈ vWords := vW 953 (by decide +kernel) (by decide +kernel)
theorem kc_X9_136 : Cond.constantLong RX9 136 (Int64.ofInt (50)) ∈ vWords := vW 954 (by decide +kernel) (by decide +kernel)
theorem kc_X9_138 : Cond.constantLong RX9 138 (Int64.ofInt (100)) ∈ vWords := vW 955 (by decide +kernel) (by decide +kernel)
theorem ml_L_43 : Cond.methodLink RL 43 yX9_about ∈ vWords := vW 956 (by decide +kernel) (by decide +kernel)
theorem ml_X9_144 : Cond.methodLink RX9 144 yX9_dry ∈ vWords := vW 960 (by decide +kernel) (by decide +kernel)
theorem ml_X9_140 : Cond.methodLink RX9 140 yX9_tank ∈ vWords := vW 964 (by decide +kernel) (by decide +kernel)
theorem ml_X9_150 : Cond.methodLink RX9 150 yX9_ahead ∈ vWords := vW 968 (by decide +kernel) (by decide +kernel)
theorem ml_X9_147 : Cond.methodLink RX9 147 yX9_above ∈ vWords := vW 972 (by decide +kernel) (by decide +kernel)
theorem ml_X9_160 : Cond.methodLink RX9 160 yX9_speedOf ∈ vWords := vW 976 (by decide +kernel) (by decide +kernel)
theorem ml_X9_153 : Cond.methodLink RX9 153 yX9_low ∈ vWords := vW 980 (by decide +kernel) (by decide +kernel)
theorem ml_X9_157 : Cond.methodLink RX9 157 yX9_high ∈ vWords := vW 983 (by decide +kernel) (by decide +kernel)
theorem ml_L_48 : Cond.methodLink RL 48 yX9_speed ∈ vWords := vW 986 (by decide +kernel) (by decide +kernel)
theorem ml_X9_164 : Cond.methodLink RX9 164 yX9_speedOfAll ∈ vWords := vW 990 (by decide +kernel) (by decide +kernel)
theorem ml_L_52 : Cond.methodLink RL 52 yX9_split ∈ vWords := vW 994 (by decide +kernel) (by decide +kernel)
theorem kc_X9_168 : Cond.constantLong RX9 168 (Int64.ofInt (20)) ∈ vWords := vW 998 (by decide +kernel) (by decide +kernel)
theorem kc_X9_170 : Cond.constantLong RX9 170 (Int64.ofInt (30)) ∈ vWords := vW 999 (by decide +kernel) (by decide +kernel)
theorem kc_X9_172 : Cond.constantLong RX9 172 (Int64.ofInt (-1)) ∈ vWords := vW 1000 (by decide +kernel) (by decide +kernel)
theorem ml_X9_174 : Cond.methodLink RX9 174 yX9_next ∈ vWords := vW 1001 (by decide +kernel) (by decide +kernel)
theorem ml_L_56 : Cond.methodLink RL 56 yX9_lots ∈ vWords := vW 1005 (by decide +kernel) (by decide +kernel)
theorem ml_L_60 : Cond.methodLink RL 60 yX9_cheapest ∈ vWords := vW 1009 (by decide +kernel) (by decide +kernel)
theorem kc_X9_180 : Cond.constantLong RX9 180 (Int64.ofInt (1000000)) ∈ vWords := vW 1013 (by decide +kernel) (by decide +kernel)
theorem kc_X9_182 : Cond.constantLong RX9 182 (Int64.ofInt (1000)) ∈ vWords := vW 1014 (by decide +kernel) (by decide +kernel)
theorem ml_X9_184 : Cond.methodLink RX9 184 yX9_puts ∈ vWords := vW 1015 (by decide +kernel) (by decide +kernel)
theorem ml_L_64 : Cond.methodLink RL 64 yX9_chosen ∈ vWords := vW 1019 (by decide +kernel) (by decide +kernel)
theorem ml_L_68 : Cond.methodLink RL 68 yX9_air ∈ vWords := vW 1023 (by decide +kernel) (by decide +kernel)
theorem ml_L_72 : Cond.methodLink RL 72 yX9_limit ∈ vWords := vW 1027 (by decide +kernel) (by decide +kernel)
theorem ml_L_76 : Cond.methodLink RL 76 yX9_fly ∈ vWords := vW 1031 (by decide +kernel) (by decide +kernel)
theorem ml_X9_234 : Cond.methodLink RX9 234 yX9_hasStuff ∈ vWords := vW 1035 (by decide +kernel) (by decide +kernel)
theorem ml_X9_237 : Cond.methodLink RX9 237 yX9_flies ∈ vWords := vW 1039 (by decide +kernel) (by decide +kernel)
theorem ml_X9_227 : Cond.methodLink RX9 227 yX9_finds ∈ vWords := vW 1043 (by decide +kernel) (by decide +kernel)
theorem ml_X9_231 : Cond.methodLink RX9 231 yX9_ticksOnce ∈ vWords := vW 1047 (by decide +kernel) (by decide +kernel)
theorem ml_X9_200 : Cond.methodLink RX9 200 yX9_massNow ∈ vWords := vW 1051 (by decide +kernel) (by decide +kernel)
theorem kc_X9_223 : Cond.constantLong RX9 223 (Int64.ofInt (100000)) ∈ vWords := vW 1055 (by decide +kernel) (by decide +kernel)
theorem kc_X9_225 : Cond.constantLong RX9 225 (Int64.ofInt (-100000)) ∈ vWords := vW 1056 (by decide +kernel) (by decide +kernel)
theorem ml_L_80 : Cond.methodLink RL 80 yX9_flown ∈ vWords := vW 1057 (by decide +kernel) (by decide +kernel)
theorem kc_X9_244 : Cond.constantLong RX9 244 (Int64.ofInt (6)) ∈ vWords := vW 1061 (by decide +kernel) (by decide +kernel)
theorem ml_L_84 : Cond.methodLink RL 84 yX9_out ∈ vWords := vW 1062 (by decide +kernel) (by decide +kernel)
theorem kc_X9_246 : Cond.constantLong RX9 246 (Int64.ofInt (1999)) ∈ vWords := vW 1066 (by decide +kernel) (by decide +kernel)
theorem ml_L_88 : Cond.methodLink RL 88 yX9_safe ∈ vWords := vW 1067 (by decide +kernel) (by decide +kernel)
theorem ml_L_92 : Cond.methodLink RL 92 yX9_cost ∈ vWords := vW 1071 (by decide +kernel) (by decide +kernel)
theorem ml_X9_248 : Cond.methodLink RX9 248 yX9_costOf ∈ vWords := vW 1075 (by decide +kernel) (by decide +kernel)
theorem ml_L_96 : Cond.methodLink RL 96 yX9_price ∈ vWords := vW 1079 (by decide +kernel) (by decide +kernel)
theorem ml_X9_252 : Cond.methodLink RX9 252 yX9_costs ∈ vWords := vW 1083 (by decide +kernel) (by decide +kernel)
theorem ml_L_100 : Cond.methodLink RL 100 yX9_buy ∈ vWords := vW 1087 (by decide +kernel) (by decide +kernel)
theorem ml_L_104 : Cond.methodLink RL 104 yX9_keeping ∈ vWords := vW 1091 (by decide +kernel) (by decide +kernel)
theorem ml_L_109 : Cond.methodLink RL 109 yX9_even ∈ vWords := vW 1095 (by decide +kernel) (by decide +kernel)
theorem kc_X9_255 : Cond.constantLong RX9 255 (Int64.ofInt (200)) ∈ vWords := vW 1099 (by decide +kernel) (by decide +kernel)
theorem kc_X9_257 : Cond.constantLong RX9 257 (Int64.ofInt (99999)) ∈ vWords := vW 1100 (by decide +kernel) (by decide +kernel)
theorem ml_L_114 : Cond.methodLink RL 114 yX9_flight ∈ vWords := vW 1101 (by decide +kernel) (by decide +kernel)
theorem kc_X9_259 : Cond.constantLong RX9 259 (Int64.ofInt (11)) ∈ vWords := vW 1105 (by decide +kernel) (by decide +kernel)
theorem ml_L_118 : Cond.methodLink RL 118 yX9_deliver ∈ vWords := vW 1106 (by decide +kernel) (by decide +kernel)
theorem ml_L_122 : Cond.methodLink RL 122 yX9_year ∈ vWords := vW 1110 (by decide +kernel) (by decide +kernel)
theorem ml_X9_270 : Cond.methodLink RX9 270 yX9_findYear ∈ vWords := vW 1114 (by decide +kernel) (by decide +kernel)
theorem ml_X9_267 : Cond.methodLink RX9 267 yX9_canFly ∈ vWords := vW 1118 (by decide +kernel) (by decide +kernel)
theorem ml_L_126 : Cond.methodLink RL 126 yX9_flights ∈ vWords := vW 1122 (by decide +kernel) (by decide +kernel)
theorem ml_L_130 : Cond.methodLink RL 130 yX9_count ∈ vWords := vW 1126 (by decide +kernel) (by decide +kernel)
theorem st_max : Cond.static Lib.Math.max.name ∈ vWords := vW 458 (by decide +kernel) (by decide +kernel)
theorem co_max : Cond.code Lib.Math.max.name Lib.Math.max.code 2 (some .int) ∈ vWords := vW 459 (by decide +kernel) (by decide +kernel)
theorem st_min : Cond.static Lib.Math.min.name ∈ vWords := vW 504 (by decide +kernel) (by decide +kernel)
theorem co_min : Cond.code Lib.Math.min.name Lib.Math.min.code 2 (some .int) ∈ vWords := vW 505 (by decide +kernel) (by decide +kernel)
theorem iw_obj : Cond.instanceMethod Lib.objectInit ∈ vWords := vW 52 (by decide +kernel) (by decide +kernel)
theorem co_obj : Cond.code Lib.objectInit ⟨#[0xb1]⟩ 1 none ∈ vWords := vW 53 (by decide +kernel) (by decide +kernel)
end
section
/-! plain numbers: what stages weigh and gain -/
def qTank (sr z : Int) : Int := (z * sr + 99) / 100
def qBare (wt kd mn fr : Nat → Int) (k : Nat) : Int := mn k * wt (kd k).toNat + fr k
def qDry (sr : Int) (wt kd mn sf fr : Nat → Int) (k : Nat) : Int := qBare wt kd mn fr k + qTank sr (sf k)
def qSum (f : Nat → Int) : Nat → Nat → Int
  | 0, _ => 0
  | n + 1, j => f j + qSum f n (j + 1)
def qMass (ld sr : Int) (wt kd mn sf fr : Nat → Int) (n k : Nat) : Int := ld + qSum (fun j => qDry sr wt kd mn sf fr j + sf j) (n - k) k
def qLow (top : Int) : Nat → Int → Int
  | 0, _ => 0
  | n + 1, m => top / m + qLow top n (m - 1)
def qHigh (top : Int) : Nat → Int → Int
  | 0, _ => 0
  | n + 1, b => (top + b - 1) / b + qHigh top n (b - 1)
abbrev yTank (σ : vSt) (z : Int) : Int := qTank (σ 2 1) z
abbrev yBare (σ : vSt) (k : Nat) : Int := qBare (σ 6) (σ 11) (σ 12) (σ 14) k
abbrev yDry (σ : vSt) (k : Nat) : Int := qDry (σ 2 1) (σ 6) (σ 11) (σ 12) (σ 13) (σ 14) k
abbrev yMass (σ : vSt) (k : Nat) : Int := qMass (σ 2 0) (σ 2 1) (σ 6) (σ 11) (σ 12) (σ 13) (σ 14) (σ 10 6).toNat k
/-- the bounds of what the class keeps of engines and stages -/
def YR (σ : vSt) : Prop := (0 ≤ σ 2 0 ∧ σ 2 0 ≤ 999 ∧ 1 ≤ σ 2 1 ∧ σ 2 1 ≤ 50 ∧ 50 ≤ σ 2 2 ∧ σ 2 2 ≤ 100 ∧ 0 ≤ σ 3 6 ∧ σ 3 6 ≤ 6 ∧ 0 ≤ σ 10 6 ∧ σ 10 6 ≤ 4) ∧
  (∀ j : Nat, 0 ≤ σ 4 j ∧ σ 4 j ≤ 999 ∧ 0 ≤ σ 5 j ∧ σ 5 j ≤ 999 ∧ 0 ≤ σ 6 j ∧ σ 6 j ≤ 99 ∧ 0 ≤ σ 7 j ∧ σ 7 j ≤ 9999 ∧ 0 ≤ σ 8 j ∧ σ 8 j ≤ 99 ∧ 0 ≤ σ 9 j ∧ σ 9 j ≤ 900) ∧
  (∀ j : Nat, 0 ≤ σ 11 j ∧ σ 11 j ≤ 5 ∧ 0 ≤ σ 12 j ∧ σ 12 j ≤ 9 ∧ 0 ≤ σ 13 j ∧ σ 13 j ≤ 600 ∧ 0 ≤ σ 14 j ∧ σ 14 j ≤ 99) ∧
  (∀ j : Nat, (j : Int) < σ 10 6 → σ 11 j < σ 3 6 ∧ 1 ≤ σ 12 j) ∧ ∀ j : Nat, (j : Int) < σ 3 6 → 1 ≤ σ 4 j ∧ 1 ≤ σ 5 j ∧ 1 ≤ σ 6 j ∧ 1 ≤ σ 7 j
theorem tdiv_pos {x y : Int} (hx : 0 ≤ x) : x.tdiv y = x / y := Int.tdiv_eq_ediv_of_nonneg hx
theorem qTank_le {sr z : Int} (h1 : 0 ≤ sr) (h2 : sr ≤ 50) (h3 : 0 ≤ z) (h4 : z ≤ 600) : 0 ≤ qTank sr z ∧ qTank sr z ≤ 300 := by
  have a : 0 ≤ z * sr := Int.mul_nonneg h3 h1
  have b : z * sr ≤ 600 * 50 := Int.mul_le_mul h4 h2 h1 (by omega)
  unfold qTank
  omega
theorem mul_le {a b A B : Int} (h1 : 0 ≤ a) (h2 : a ≤ A) (h3 : 0 ≤ b) (h4 : b ≤ B) : 0 ≤ a * b ∧ a * b ≤ A * B := ⟨Int.mul_nonneg h1 h3, Int.mul_le_mul h2 h4 h3 (by omega)⟩
theorem YR.bare {σ : vSt} (h : YR σ) (k : Nat) : 0 ≤ yBare σ k ∧ yBare σ k ≤ 990 := by
  obtain ⟨-, hE, hS, -⟩ := h
  have a := hS k
  have b := hE (σ 11 k).toNat
  have c := mul_le (a := σ 12 k) (b := σ 6 (σ 11 k).toNat) (A := 9) (B := 99) (by omega) (by omega) (by omega) (by omega)
  unfold yBare qBare
  omega
theorem YR.bare1 {σ : vSt} (h : YR σ) {k : Nat} (hk : (k : Int) < σ 10 6) : 1 ≤ yBare σ k := by
  obtain ⟨-, hE, hS, h1, h2⟩ := h
  have a := hS k
  have b := h1 k hk
  have c := h2 (σ 11 k).toNat (by omega)
  have e : 1 * 1 ≤ σ 12 k * σ 6 (σ 11 k).toNat := Int.mul_le_mul b.2 c.2.2.1 (by omega) (by omega)
  unfold yBare qBare
  omega
theorem YR.dry {σ : vSt} (h : YR σ) (k : Nat) : 0 ≤ yDry σ k ∧ yDry σ k ≤ 1290 := by
  have a := h.bare k
  obtain ⟨h0, -, hS, -⟩ := h
  have b := qTank_le (sr := σ 2 1) (z := σ 13 k) (by omega) (by omega) (hS k).2.2.2.2.1 (hS k).2.2.2.2.2.1
  unfold yDry qDry
  unfold yBare at a
  omega
theorem qSum_bound {f : Nat → Int} {B : Int} (h : ∀ j, 0 ≤ f j ∧ f j ≤ B) : ∀ n j : Nat, 0 ≤ qSum f n j ∧ qSum f n j ≤ n * B := by
  intro n
  induction n with
  | zero => intro j; exact ⟨Int.le_refl _, by simp [qSum]⟩
  | succ n ih =>
    intro j
    have a := ih (j + 1)
    have b := h j
    have e : ((n + 1 : Nat) : Int) * B = n * B + B := by rw [Int.natCast_add, Int.add_mul]; simp
    show 0 ≤ f j + qSum f n (j + 1) ∧ f j + qSum f n (j + 1) ≤ _
    rw [e]
    omega
theorem qSum_snoc (f : Nat → Int) : ∀ n j : Nat, qSum f (n + 1) j = qSum f n j + f (j + n) := by
  intro n
  induction n with
  | zero => intro j; show f j + 0 = 0 + f j; omega
  | succ n ih =>
    intro j
    show f j + qSum f (n + 1) (j + 1) = f j + qSum f n (j + 1) + f (j + (n + 1))
    rw [ih, show j + 1 + n = j + (n + 1) by omega]
    omega
theorem YR.mass {σ : vSt} (h : YR σ) (k : Nat) : 0 ≤ yMass σ k ∧ yMass σ k ≤ 8559 := by
  have a := qSum_bound (f := fun j => qDry (σ 2 1) (σ 6) (σ 11) (σ 12) (σ 13) (σ 14) j + σ 13 j) (B := 1890) (fun j => by
    have b := h.dry j
    have c := h.2.2.1 j
    unfold yDry at b
    exact ⟨by omega, by omega⟩) ((σ 10 6).toNat - k) k
  obtain ⟨h0, -⟩ := h
  unfold yMass qMass
  have e : (((σ 10 6).toNat - k : Nat) : Int) ≤ 4 := by omega
  have e2 : (((σ 10 6).toNat - k : Nat) : Int) * 1890 ≤ 4 * 1890 := Int.mul_le_mul_of_nonneg_right e (by omega)
  omega
/-- a stage's mass is its own and what is above it -/
theorem YR.massS {σ : vSt} {k : Nat} (hk : (k : Int) < σ 10 6) : yMass σ k = yDry σ k + σ 13 k + yMass σ (k + 1) := by
  unfold yMass qMass yDry
  have e : (σ 10 6).toNat - k = ((σ 10 6).toNat - (k + 1)) + 1 := by omega
  rw [e]
  show σ 2 0 + ((qDry (σ 2 1) (σ 6) (σ 11) (σ 12) (σ 13) (σ 14) k + σ 13 k) + qSum _ _ (k + 1)) = _
  omega
theorem YR.mass1 {σ : vSt} (h : YR σ) {k : Nat} (hk : (k : Int) < σ 10 6) : 1 + σ 13 k ≤ yMass σ k := by
  rw [YR.massS hk]
  have a := h.bare1 hk
  have b := h.mass (k + 1)
  obtain ⟨h0, -, hS, -⟩ := h
  have c := qTank_le (sr := σ 2 1) (z := σ 13 k) (by omega) (by omega) (hS k).2.2.2.2.1 (hS k).2.2.2.2.2.1
  unfold yDry qDry
  unfold yBare at a
  omega
theorem ite_test (k s : Int) (h : (if 0 ≤ k ∧ k < s then (1 : Int) else 0) = 0) (h2 : 0 ≤ k) : s ≤ k := by omega
end
section
def qNext (lr c : Int) : Int := max (c * lr / 100) 1
def qCost (lr : Int) : Int → Nat → Int
  | c, 0 => c
  | c, n + 1 => qCost lr (qNext lr c) n
def qCosts (lr : Int) : Int → Nat → Int
  | _, 0 => 0
  | c, n + 1 => c + qCosts lr (qNext lr c) n
theorem qNext_le {lr c : Int} (h1 : 0 ≤ lr) (h2 : lr ≤ 100) (h3 : 0 ≤ c) (h4 : c ≤ 9999) : 1 ≤ qNext lr c ∧ qNext lr c ≤ 9999 ∧ 0 ≤ c * lr ∧ c * lr ≤ 9999 * 100 := by
  have a := mul_le (a := c) (b := lr) (A := 9999) (B := 100) h3 h4 h1 h2
  unfold qNext
  omega
theorem qNext_one {lr : Int} (h2 : lr ≤ 100) : qNext lr 1 = 1 := by
  unfold qNext
  omega
theorem qCost_one {lr : Int} (h2 : lr ≤ 100) : ∀ n, qCost lr 1 n = 1 := by
  intro n
  induction n with
  | zero => rfl
  | succ n ih => show qCost lr (qNext lr 1) n = 1; rw [qNext_one h2]; exact ih
theorem qCost_le {lr : Int} (h1 : 0 ≤ lr) (h2 : lr ≤ 100) : ∀ (n : Nat) (c : Int), 1 ≤ c → c ≤ 9999 → 1 ≤ qCost lr c n ∧ qCost lr c n ≤ 9999 := by
  intro n
  induction n with
  | zero => intro c h3 h4; exact ⟨h3, h4⟩
  | succ n ih => intro c h3 h4; have a := qNext_le h1 h2 (c := c) (by omega) h4; exact ih _ a.1 a.2.1
set_option maxHeartbeats 4000000 in
set_option maxRecDepth 100000 in
theorem c_X4_has {g : vGl} {d : Nat} {Q : Option Value → List mC → Prop} {σ : vSt} {k : Int} (hk : vr k) (hs : vr (σ 10 6)) (hQ : Q (some (vi (if 0 ≤ k ∧ k < σ 10 6 then 1 else 0))) (hp σ)) : V g mX4_has d (0, 0, 0, 0) Q 0 [(0, .ref 10), (1, vi k)] [] (hp σ) := by
  refine v_iload_n (pc := 0) dX4_has_0 rfl ?_
  refine v_if_lt (pc := 1) 16 dX4_has_1 (by decide) (by omega) (fun h1 => ?_) (fun h1 => ?_)
  · refine v_iconst (pc := 16) (0) dX4_has_16 (by decide) ?_
    refine v_ireturn (pc := 17) dX4_has_17 rfl (vZ (by omega)) ⟨Nat.le_refl _, Nat.le_refl _⟩ ?_
    first | (rw [if_pos (by omega)] at hQ; exact hQ) | (rw [if_neg (by omega)] at hQ; exact hQ)
  · refine v_iload_n (pc := 4) dX4_has_4 rfl ?_
    refine v_aload_n (pc := 5) dX4_has_5 rfl ?_
    refine v_gI (pc := 6) dX4_has_6 fl_X4_24 rfl ?_
    refine v_icmp_ge (pc := 9) 16 dX4_has_9 (by decide) (by omega) (by omega) (fun h9 => ?_) (fun h9 => ?_)
    · refine v_iconst (pc := 16) (0) dX4_has_16 (by decide) ?_
      refine v_ireturn (pc := 17) dX4_has_17 rfl (vZ (by omega)) ⟨Nat.le_refl _, Nat.le_refl _⟩ ?_
      first | (rw [if_pos (by omega)] at hQ; exact hQ) | (rw [if_neg (by omega)] at hQ; exact hQ)
    · refine v_iconst (pc := 12) (1) dX4_has_12 (by decide) ?_
      refine v_goto (pc := 13) 17 dX4_has_13 (by decide) ?_
      refine v_ireturn (pc := 17) dX4_has_17 rfl (vZ (by omega)) ⟨Nat.le_refl _, Nat.le_refl _⟩ ?_
      first | (rw [if_pos (by omega)] at hQ; exact hQ) | (rw [if_neg (by omega)] at hQ; exact hQ)
theorem c_X4_has1 {g : vGl} {d : Nat} {Q : Option Value → List mC → Prop} {σ : vSt} {x : Int} (hR : YR σ) (h0 : 0 ≤ x) (h1 : x < σ 10 6) (hQ : Q (some (vi 1)) (hp σ)) : V g mX4_has d (0, 0, 0, 0) Q 0 [(0, .ref 10), (1, vi x)] [] (hp σ) := by
  have r := hR.1
  refine c_X4_has (by omega) (by omega) ?_
  rw [if_pos ⟨h0, h1⟩]; exact hQ
set_option maxHeartbeats 4000000 in
set_option maxRecDepth 100000 in
theorem c_X4_load {g : vGl} {d : Nat} {Q : Option Value → List mC → Prop} {σ : vSt} (hQ : Q (some (vi (σ 2 0))) (hp σ)) : V g mX4_load d (0, 0, 0, 0) Q 0 [(0, .ref 10)] [] (hp σ) := by
  refine v_aload_n (pc := 0) dX4_load_0 rfl ?_
  refine v_gR (pc := 1) dX4_load_1 fl_X4_32 rfl ?_
  refine v_iconst (pc := 4) (0) dX4_load_4 (by decide) ?_
  refine v_aI (pc := 5) (j := 0) dX4_load_5 rfl rfl (by omega) (by omega) ?_
  refine v_ireturn (pc := 6) dX4_load_6 rfl rfl ⟨Nat.le_refl _, Nat.le_refl _⟩ ?_
  exact hQ
set_option maxHeartbeats 4000000 in
set_option maxRecDepth 100000 in
theorem c_X4_tankFor {g : vGl} {d : Nat} {Q : Option Value → List mC → Prop} {σ : vSt} {z : Int} (hz : 0 ≤ z ∧ z ≤ 100000) (hs : 0 ≤ σ 2 1 ∧ σ 2 1 ≤ 100) (hQ : Q (some (vi (yTank σ z))) (hp σ)) : V g mX4_tankFor d (0, 0, 0, 0) Q 0 [(0, .ref 10), (1, vi z)] [] (hp σ) := by
  have h1 := mul_le hz.1 hz.2 hs.1 hs.2
  refine v_iload_n (pc := 0) dX4_tankFor_0 rfl ?_
  refine v_aload_n (pc := 1) dX4_tankFor_1 rfl ?_
  refine v_gR (pc := 2) dX4_tankFor_2 fl_X4_32 rfl ?_
  refine v_iconst (pc := 5) (1) dX4_tankFor_5 (by decide) ?_
  refine v_aI (pc := 6) (j := 1) dX4_tankFor_6 rfl rfl (by omega) (by omega) ?_
  refine v_imul (pc := 7) dX4_tankFor_7 ?_
  refine v_bipush (pc := 8) (99) dX4_tankFor_8 (by decide) ?_
  refine v_iadd (pc := 10) dX4_tankFor_10 ?_
  refine v_bipush (pc := 11) (100) dX4_tankFor_11 (by decide) ?_
  refine v_idiv (pc := 13) dX4_tankFor_13 (by omega) (by omega) (by omega) ?_
  refine v_ireturn (pc := 14) dX4_tankFor_14 rfl rfl ⟨Nat.le_refl _, Nat.le_refl _⟩ ?_
  rw [tdiv_pos (by omega)]; exact hQ
set_option maxHeartbeats 4000000 in
set_option maxRecDepth 100000 in
theorem c_X4_bareOf {g : vGl} {d : Nat} {Q : Option Value → List mC → Prop} {σ : vSt} {x : Int} {k : Nat} (hd : 1 ≤ d) (hR : YR σ) (hx : x = k) (hk : (k : Int) < σ 10 6) (hQ : Q (some (vi (yBare σ k))) (hp σ)) : V g mX4_bareOf d (0, 0, 0, 0) Q 0 [(0, .ref 10), (1, vi x)] [] (hp σ) := by
  obtain ⟨⟨r0, r1, r2, r3, r4, r5, r6, r7, r8, r9⟩, rE, rS, rT, rF⟩ := id hR
  have s1 := rS k
  have s2 := rE (σ 11 k).toNat
  refine v_aload_n (pc := 0) dX4_bareOf_0 rfl ?_
  refine v_iload_n (pc := 1) dX4_bareOf_1 rfl ?_
  refine v_cVi1 (pc := 2) (z := 0) (d' := d - 1) dX4_bareOf_2 kX4_has ml_X4_35 iwX4_has swX4_has rfl rfl (Nat.le_of_ble_eq_true rfl) (Nat.le_of_ble_eq_true rfl) (by omega) ⟨Nat.le_refl _, Nat.le_refl _⟩ ?_
  refine c_X4_has1 hR (by omega) (by omega) ?_
  refine ⟨_, rfl, ?_⟩
  refine v_if_eq (pc := 5) 39 dX4_bareOf_5 (by decide) (by omega) (fun h5 => by exfalso; omega) (fun h5 => ?_)
  refine v_aload_n (pc := 8) dX4_bareOf_8 rfl ?_
  refine v_gR (pc := 9) dX4_bareOf_9 fl_X4_15 rfl ?_
  refine v_iload_n (pc := 12) dX4_bareOf_12 rfl ?_
  refine v_aI (pc := 13) (j := k) dX4_bareOf_13 rfl (by omega) (by omega) (by omega) ?_
  refine v_aload_n (pc := 14) dX4_bareOf_14 rfl ?_
  refine v_gR (pc := 15) dX4_bareOf_15 fl_X4_28 rfl ?_
  refine v_gR (pc := 18) dX4_bareOf_18 fl_X4_46 rfl ?_
  refine v_aload_n (pc := 21) dX4_bareOf_21 rfl ?_
  refine v_gR (pc := 22) dX4_bareOf_22 fl_X4_9 rfl ?_
  refine v_iload_n (pc := 25) dX4_bareOf_25 rfl ?_
  refine v_aI (pc := 26) (j := k) dX4_bareOf_26 rfl (by omega) (by omega) (by omega) ?_
  refine v_aI (pc := 27) (j := (σ 11 k).toNat) dX4_bareOf_27 rfl rfl (by omega) (by omega) ?_
  refine v_imul (pc := 28) dX4_bareOf_28 ?_
  refine v_aload_n (pc := 29) dX4_bareOf_29 rfl ?_
  refine v_gR (pc := 30) dX4_bareOf_30 fl_X4_21 rfl ?_
  refine v_iload_n (pc := 33) dX4_bareOf_33 rfl ?_
  refine v_aI (pc := 34) (j := k) dX4_bareOf_34 rfl (by omega) (by omega) (by omega) ?_
  refine v_iadd (pc := 35) dX4_bareOf_35 ?_
  refine v_goto (pc := 36) 40 dX4_bareOf_36 (by decide) ?_
  refine v_ireturn (pc := 40) dX4_bareOf_40 rfl rfl ⟨Nat.le_refl _, Nat.le_refl _⟩ ?_
  exact hQ
set_option maxHeartbeats 4000000 in
set_option maxRecDepth 100000 in
theorem c_X4_dryOf {g : vGl} {d : Nat} {Q : Option Value → List mC → Prop} {σ : vSt} {x : Int} {k : Nat} (hd : 2 ≤ d) (hR : YR σ) (hx : x = k) (hk : (k : Int) < σ 10 6) (hQ : Q (some (vi (yDry σ k))) (hp σ)) : V g mX4_dryOf d (0, 0, 0, 0) Q 0 [(0, .ref 10), (1, vi x)] [] (hp σ) := by
  obtain ⟨⟨r0, r1, r2, r3, r4, r5, r6, r7, r8, r9⟩, rE, rS, rT, rF⟩ := id hR
  have s1 := rS k
  have s2 := rE (σ 11 k).toNat
  refine v_aload_n (pc := 0) dX4_dryOf_0 rfl ?_
  refine v_iload_n (pc := 1) dX4_dryOf_1 rfl ?_
  refine v_cVi1 (pc := 2) (z := 0) (d' := d - 1) dX4_dryOf_2 kX4_has ml_X4_35 iwX4_has swX4_has rfl rfl (Nat.le_of_ble_eq_true rfl) (Nat.le_of_ble_eq_true rfl) (by omega) ⟨Nat.le_refl _, Nat.le_refl _⟩ ?_
  refine c_X4_has1 hR (by omega) (by omega) ?_
  refine ⟨_, rfl, ?_⟩
  refine v_if_eq (pc := 5) 27 dX4_dryOf_5 (by decide) (by omega) (fun h5 => by exfalso; omega) (fun h5 => ?_)
  refine v_aload_n (pc := 8) dX4_dryOf_8 rfl ?_
  refine v_iload_n (pc := 9) dX4_dryOf_9 rfl ?_
  refine v_cVi1 (pc := 10) (z := 0) (d' := d - 1) dX4_dryOf_10 kX4_bareOf ml_X4_39 iwX4_bareOf swX4_bareOf rfl rfl (Nat.le_of_ble_eq_true rfl) (Nat.le_of_ble_eq_true rfl) (by omega) ⟨Nat.le_refl _, Nat.le_refl _⟩ ?_
  refine c_X4_bareOf (k := k) (by omega) hR (by omega) (by omega) ?_
  refine ⟨_, rfl, ?_⟩
  refine v_aload_n (pc := 13) dX4_dryOf_13 rfl ?_
  refine v_aload_n (pc := 14) dX4_dryOf_14 rfl ?_
  refine v_gR (pc := 15) dX4_dryOf_15 fl_X4_18 rfl ?_
  refine v_iload_n (pc := 18) dX4_dryOf_18 rfl ?_
  refine v_aI (pc := 19) (j := k) dX4_dryOf_19 rfl (by omega) (by omega) (by omega) ?_
  refine v_cVi1 (pc := 20) (z := 0) (d' := d - 1) dX4_dryOf_20 kX4_tankFor ml_X4_43 iwX4_tankFor swX4_tankFor rfl rfl (Nat.le_of_ble_eq_true rfl) (Nat.le_of_ble_eq_true rfl) (by omega) ⟨Nat.le_refl _, Nat.le_refl _⟩ ?_
  refine c_X4_tankFor (by omega) (by omega) ?_
  refine ⟨_, rfl, ?_⟩
  refine v_iadd (pc := 23) dX4_dryOf_23 ?_
  refine v_goto (pc := 24) 28 dX4_dryOf_24 (by decide) ?_
  refine v_ireturn (pc := 28) dX4_dryOf_28 rfl rfl ⟨Nat.le_refl _, Nat.le_refl _⟩ ?_
  exact hQ
set_option maxHeartbeats 4000000 in
set_option maxRecDepth 100000 in
theorem c_X4_exhaustOf {g : vGl} {d : Nat} {Q : Option Value → List mC → Prop} {σ : vSt} {x : Int} {k : Nat} (hd : 1 ≤ d) (hR : YR σ) (hx : x = k) (hk : (k : Int) < σ 10 6) (hQ : Q (some (vi (σ 5 (σ 11 k).toNat))) (hp σ)) : V g mX4_exhaustOf d (0, 0, 0, 0) Q 0 [(0, .ref 10), (1, vi x)] [] (hp σ) := by
  obtain ⟨⟨r0, r1, r2, r3, r4, r5, r6, r7, r8, r9⟩, rE, rS, rT, rF⟩ := id hR
  have s1 := rS k
  have s2 := rE (σ 11 k).toNat
  refine v_aload_n (pc := 0) dX4_exhaustOf_0 rfl ?_
  refine v_iload_n (pc := 1) dX4_exhaustOf_1 rfl ?_
  refine v_cVi1 (pc := 2) (z := 0) (d' := d - 1) dX4_exhaustOf_2 kX4_has ml_X4_35 iwX4_has swX4_has rfl rfl (Nat.le_of_ble_eq_true rfl) (Nat.le_of_ble_eq_true rfl) (by omega) ⟨Nat.le_refl _, Nat.le_refl _⟩ ?_
  refine c_X4_has1 hR (by omega) (by omega) ?_
  refine ⟨_, rfl, ?_⟩
  refine v_if_eq (pc := 5) 25 dX4_exhaustOf_5 (by decide) (by omega) (fun h5 => by exfalso; omega) (fun h5 => ?_)
  refine v_aload_n (pc := 8) dX4_exhaustOf_8 rfl ?_
  refine v_gR (pc := 9) dX4_exhaustOf_9 fl_X4_28 rfl ?_
  refine v_gR (pc := 12) dX4_exhaustOf_12 fl_X4_51 rfl ?_
  refine v_aload_n (pc := 15) dX4_exhaustOf_15 rfl ?_
  refine v_gR (pc := 16) dX4_exhaustOf_16 fl_X4_9 rfl ?_
  refine v_iload_n (pc := 19) dX4_exhaustOf_19 rfl ?_
  refine v_aI (pc := 20) (j := k) dX4_exhaustOf_20 rfl (by omega) (by omega) (by omega) ?_
  refine v_aI (pc := 21) (j := (σ 11 k).toNat) dX4_exhaustOf_21 rfl rfl (by omega) (by omega) ?_
  refine v_goto (pc := 22) 26 dX4_exhaustOf_22 (by decide) ?_
  refine v_ireturn (pc := 26) dX4_exhaustOf_26 rfl rfl ⟨Nat.le_refl _, Nat.le_refl _⟩ ?_
  exact hQ
set_option maxHeartbeats 4000000 in
set_option maxRecDepth 100000 in
theorem l_X4_massFrom {g : vGl} {d : Nat} {Q : Option Value → List mC → Prop} {σ : vSt} (hd : 3 ≤ d) (hR : YR σ) : ∀ (n : Nat) (j : Nat) (x s : Int) (hx : x = j) (hn : (j : Int) + n = σ 10 6) (hQ : Q (some (vi (s + qSum (fun j => qDry (σ 2 1) (σ 6) (σ 11) (σ 12) (σ 13) (σ 14) j + σ 13 j) n j))) (hp σ)), V g mX4_massFrom d (0, 0, 0, 0) Q 11 [(0, .ref 10), (2, vi s), (3, vi x)] [] (hp σ) := by
  intro n
  induction n with
  | zero =>
    intro j x s hx hn hQ
    obtain ⟨⟨r0, r1, r2, r3, r4, r5, r6, r7, r8, r9⟩, rE, rS, rT, rF⟩ := id hR
    refine v_iload_n (pc := 11) dX4_massFrom_11 rfl ?_
    refine v_aload_n (pc := 12) dX4_massFrom_12 rfl ?_
    refine v_gI (pc := 13) dX4_massFrom_13 fl_X4_24 rfl ?_
    refine v_icmp_ge (pc := 16) 40 dX4_massFrom_16 (by decide) (by omega) (by omega) (fun h16 => ?_) (fun h16 => by exfalso; omega)
    refine v_iload_n (pc := 40) dX4_massFrom_40 rfl ?_
    refine v_ireturn (pc := 41) dX4_massFrom_41 rfl rfl ⟨Nat.le_refl _, Nat.le_refl _⟩ ?_
    simpa [qSum] using hQ
  | succ n ih =>
    intro j x s hx hn hQ
    obtain ⟨⟨r0, r1, r2, r3, r4, r5, r6, r7, r8, r9⟩, rE, rS, rT, rF⟩ := id hR
    have s1 := rS j
    refine v_iload_n (pc := 11) dX4_massFrom_11 rfl ?_
    refine v_aload_n (pc := 12) dX4_massFrom_12 rfl ?_
    refine v_gI (pc := 13) dX4_massFrom_13 fl_X4_24 rfl ?_
    refine v_icmp_ge (pc := 16) 40 dX4_massFrom_16 (by decide) (by omega) (by omega) (fun h16 => by exfalso; omega) (fun h16 => ?_)
    refine v_iload_n (pc := 19) dX4_massFrom_19 rfl ?_
    refine v_aload_n (pc := 20) dX4_massFrom_20 rfl ?_
    refine v_iload_n (pc := 21) dX4_massFrom_21 rfl ?_
    refine v_cVi1 (pc := 22) (z := 0) (d' := d - 1) dX4_massFrom_22 kX4_dryOf ml_X4_64 iwX4_dryOf swX4_dryOf rfl rfl (Nat.le_of_ble_eq_true rfl) (Nat.le_of_ble_eq_true rfl) (by omega) ⟨Nat.le_refl _, Nat.le_refl _⟩ ?_
    refine c_X4_dryOf (k := j) (by omega) hR (by omega) (by omega) ?_
    refine ⟨_, rfl, ?_⟩
    refine v_aload_n (pc := 25) dX4_massFrom_25 rfl ?_
    refine v_gR (pc := 26) dX4_massFrom_26 fl_X4_18 rfl ?_
    refine v_iload_n (pc := 29) dX4_massFrom_29 rfl ?_
    refine v_aI (pc := 30) (j := j) dX4_massFrom_30 rfl (by omega) (by omega) (by omega) ?_
    refine v_iadd (pc := 31) dX4_massFrom_31 ?_
    refine v_iadd (pc := 32) dX4_massFrom_32 ?_
    refine v_istore_n (pc := 33) dX4_massFrom_33 (by decide) ?_
    refine v_iinc (pc := 34) (1) dX4_massFrom_34 rfl (by decide) (by decide) ?_
    refine v_goto (pc := 37) 11 dX4_massFrom_37 (by decide) ?_
    refine v_lv (ih (j + 1) (x + 1) _ (by omega) (by omega) ?_) ⟨rfl, rfl, rfl, trivial⟩
    rw [show s + qSum (fun j => qDry (σ 2 1) (σ 6) (σ 11) (σ 12) (σ 13) (σ 14) j + σ 13 j) (n + 1) j = s + ((fun j => qDry (σ 2 1) (σ 6) (σ 11) (σ 12) (σ 13) (σ 14) j + σ 13 j) j + qSum (fun j => qDry (σ 2 1) (σ 6) (σ 11) (σ 12) (σ 13) (σ 14) j + σ 13 j) n (j + 1)) from rfl, ← Int.add_assoc] at hQ
    exact hQ
set_option maxHeartbeats 4000000 in
set_option maxRecDepth 100000 in
theorem c_X4_massFrom {g : vGl} {d : Nat} {Q : Option Value → List mC → Prop} {σ : vSt} {x : Int} {k : Nat} (hd : 3 ≤ d) (hR : YR σ) (hx : x = k) (hk : (k : Int) ≤ σ 10 6) (hQ : Q (some (vi (yMass σ k))) (hp σ)) : V g mX4_massFrom d (0, 0, 0, 0) Q 0 [(0, .ref 10), (1, vi x)] [] (hp σ) := by
  obtain ⟨⟨r0, r1, r2, r3, r4, r5, r6, r7, r8, r9⟩, rE, rS, rT, rF⟩ := id hR
  refine v_aload_n (pc := 0) dX4_massFrom_0 rfl ?_
  refine v_cVi0 (pc := 1) (z := 0) (d' := d - 1) dX4_massFrom_1 kX4_load ml_X4_54 iwX4_load swX4_load rfl rfl (Nat.le_of_ble_eq_true rfl) (Nat.le_of_ble_eq_true rfl) (by omega) ⟨Nat.le_refl _, Nat.le_refl _⟩ ?_
  refine c_X4_load ?_
  refine ⟨_, rfl, ?_⟩
  refine v_istore_n (pc := 4) dX4_massFrom_4 (by decide) ?_
  refine v_iload_n (pc := 5) dX4_massFrom_5 rfl ?_
  refine v_iconst (pc := 6) (0) dX4_massFrom_6 (by decide) ?_
  refine v_max (pc := 7) dX4_massFrom_7 ml_X4_58 st_max it_Math co_max (by omega) (by omega) (Nat.le_of_ble_eq_true rfl) (by omega) ⟨Nat.le_refl _, Nat.le_refl _⟩ ?_
  refine v_istore_n (pc := 10) dX4_massFrom_10 (by decide) ?_
  refine v_lv (l_X4_massFrom hd hR ((σ 10 6).toNat - k) k (max x 0) (σ 2 0) (by omega) (by omega) hQ) ⟨rfl, rfl, rfl, trivial⟩
set_option maxHeartbeats 4000000 in
set_option maxRecDepth 100000 in
theorem l_X4_allStuff {g : vGl} {d : Nat} {Q : Option Value → List mC → Prop} {σ : vSt} (hR : YR σ) : ∀ (n : Nat) (j : Nat) (x s : Int) (hx : x = j) (hn : (j : Int) + n = σ 10 6) (hQ : Q (some (vi (s + qSum (σ 13) n j))) (hp σ)), V g mX4_allStuff d (0, 0, 0, 0) Q 4 [(0, .ref 10), (1, vi s), (2, vi x)] [] (hp σ) := by
  intro n
  induction n with
  | zero =>
    intro j x s hx hn hQ
    obtain ⟨⟨r0, r1, r2, r3, r4, r5, r6, r7, r8, r9⟩, rE, rS, rT, rF⟩ := id hR
    refine v_iload_n (pc := 4) dX4_allStuff_4 rfl ?_
    refine v_aload_n (pc := 5) dX4_allStuff_5 rfl ?_
    refine v_gI (pc := 6) dX4_allStuff_6 fl_X4_24 rfl ?_
    refine v_icmp_ge (pc := 9) 27 dX4_allStuff_9 (by decide) (by omega) (by omega) (fun h9 => ?_) (fun h9 => by exfalso; omega)
    refine v_iload_n (pc := 27) dX4_allStuff_27 rfl ?_
    refine v_ireturn (pc := 28) dX4_allStuff_28 rfl rfl ⟨Nat.le_refl _, Nat.le_refl _⟩ ?_
    simpa [qSum] using hQ
  | succ n ih =>
    intro j x s hx hn hQ
    obtain ⟨⟨r0, r1, r2, r3, r4, r5, r6, r7, r8, r9⟩, rE, rS, rT, rF⟩ := id hR
    refine v_iload_n (pc := 4) dX4_allStuff_4 rfl ?_
    refine v_aload_n (pc := 5) dX4_allStuff_5 rfl ?_
    refine v_gI (pc := 6) dX4_allStuff_6 fl_X4_24 rfl ?_
    refine v_icmp_ge (pc := 9) 27 dX4_allStuff_9 (by decide) (by omega) (by omega) (fun h9 => by exfalso; omega) (fun h9 => ?_)
    refine v_iload_n (pc := 12) dX4_allStuff_12 rfl ?_
    refine v_aload_n (pc := 13) dX4_allStuff_13 rfl ?_
    refine v_gR (pc := 14) dX4_allStuff_14 fl_X4_18 rfl ?_
    refine v_iload_n (pc := 17) dX4_allStuff_17 rfl ?_
    refine v_aI (pc := 18) (j := j) dX4_allStuff_18 rfl (by omega) (by omega) (by omega) ?_
    refine v_iadd (pc := 19) dX4_allStuff_19 ?_
    refine v_istore_n (pc := 20) dX4_allStuff_20 (by decide) ?_
    refine v_iinc (pc := 21) (1) dX4_allStuff_21 rfl (by decide) (by decide) ?_
    refine v_goto (pc := 24) 4 dX4_allStuff_24 (by decide) ?_
    refine v_lv (ih (j + 1) (x + 1) _ (by omega) (by omega) ?_) ⟨rfl, rfl, rfl, trivial⟩
    rw [show s + qSum (σ 13) (n + 1) j = s + (σ 13 j + qSum (σ 13) n (j + 1)) from rfl, ← Int.add_assoc] at hQ
    exact hQ
set_option maxHeartbeats 4000000 in
set_option maxRecDepth 100000 in
theorem c_X4_allStuff {g : vGl} {d : Nat} {Q : Option Value → List mC → Prop} {σ : vSt} (hR : YR σ) (hQ : Q (some (vi (qSum (σ 13) (σ 10 6).toNat 0))) (hp σ)) : V g mX4_allStuff d (0, 0, 0, 0) Q 0 [(0, .ref 10)] [] (hp σ) := by
  obtain ⟨⟨r0, r1, r2, r3, r4, r5, r6, r7, r8, r9⟩, rE, rS, rT, rF⟩ := id hR
  refine v_iconst (pc := 0) (0) dX4_allStuff_0 (by decide) ?_
  refine v_istore_n (pc := 1) dX4_allStuff_1 (by decide) ?_
  refine v_iconst (pc := 2) (0) dX4_allStuff_2 (by decide) ?_
  refine v_istore_n (pc := 3) dX4_allStuff_3 (by decide) ?_
  refine v_lv (l_X4_allStuff hR (σ 10 6).toNat 0 0 0 rfl (by omega) (by rw [Int.zero_add]; exact hQ)) ⟨rfl, rfl, rfl, trivial⟩
set_option maxHeartbeats 4000000 in
set_option maxRecDepth 100000 in
theorem l_X4_lowOf {g : vGl} {d : Nat} {Q : Option Value → List mC → Prop} {σ : vSt} {y : Int} {k : Nat} {top : Int} (hR : YR σ) (hy : y = k) (hk : k < 4) (ht : 0 ≤ top ∧ top ≤ 999000) : ∀ (n : Nat) (b m s : Int) (hb : b + n = σ 13 k) (hb0 : -1 ≤ b) (hm : 1 ≤ m - n ∧ m ≤ 10000) (hQ : Q (some (vi (s + qLow top n m))) (hp σ)), V g mX4_lowOf d (0, 0, 0, 0) Q 33 [(0, .ref 10), (1, vi y), (3, vi top), (4, vi m), (5, vi s), (6, vi b)] [] (hp σ) := by
  intro n
  induction n with
  | zero =>
    intro b m s hb hb0 hm hQ
    obtain ⟨⟨r0, r1, r2, r3, r4, r5, r6, r7, r8, r9⟩, rE, rS, rT, rF⟩ := id hR
    have s1 := rS k
    refine v_iload (pc := 33) dX4_lowOf_33 rfl ?_
    refine v_aload_n (pc := 35) dX4_lowOf_35 rfl ?_
    refine v_gR (pc := 36) dX4_lowOf_36 fl_X4_18 rfl ?_
    refine v_iload_n (pc := 39) dX4_lowOf_39 rfl ?_
    refine v_aI (pc := 40) (j := k) dX4_lowOf_40 rfl (by omega) (by omega) (by omega) ?_
    refine v_icmp_ge (pc := 41) 67 dX4_lowOf_41 (by decide) (by omega) (by omega) (fun h41 => ?_) (fun h41 => by exfalso; omega)
    refine v_iload (pc := 67) dX4_lowOf_67 rfl ?_
    refine v_ireturn (pc := 69) dX4_lowOf_69 rfl rfl ⟨Nat.le_refl _, Nat.le_refl _⟩ ?_
    simpa [qLow] using hQ
  | succ n ih =>
    intro b m s hb hb0 hm hQ
    obtain ⟨⟨r0, r1, r2, r3, r4, r5, r6, r7, r8, r9⟩, rE, rS, rT, rF⟩ := id hR
    have s1 := rS k
    refine v_iload (pc := 33) dX4_lowOf_33 rfl ?_
    refine v_aload_n (pc := 35) dX4_lowOf_35 rfl ?_
    refine v_gR (pc := 36) dX4_lowOf_36 fl_X4_18 rfl ?_
    refine v_iload_n (pc := 39) dX4_lowOf_39 rfl ?_
    refine v_aI (pc := 40) (j := k) dX4_lowOf_40 rfl (by omega) (by omega) (by omega) ?_
    refine v_icmp_ge (pc := 41) 67 dX4_lowOf_41 (by decide) (by omega) (by omega) (fun h41 => by exfalso; omega) (fun h41 => ?_)
    refine v_iload (pc := 44) dX4_lowOf_44 rfl ?_
    refine v_if_le (pc := 46) 67 dX4_lowOf_46 (by decide) (by omega) (fun h46 => by exfalso; omega) (fun h46 => ?_)
    refine v_iload (pc := 49) dX4_lowOf_49 rfl ?_
    refine v_iload_n (pc := 51) dX4_lowOf_51 rfl ?_
    refine v_iload (pc := 52) dX4_lowOf_52 rfl ?_
    refine v_idiv (pc := 54) dX4_lowOf_54 (by omega) (by omega) (by omega) ?_
    refine v_iadd (pc := 55) dX4_lowOf_55 ?_
    refine v_istore (pc := 56) dX4_lowOf_56 (by decide) ?_
    refine v_iinc (pc := 58) (-1) dX4_lowOf_58 rfl (by decide) (by decide) ?_
    refine v_iinc (pc := 61) (1) dX4_lowOf_61 rfl (by decide) (by decide) ?_
    refine v_goto (pc := 64) 33 dX4_lowOf_64 (by decide) ?_
    refine v_lv (ih (b + 1) (m + -1) _ (by omega) (by omega) (by omega) ?_) ⟨rfl, rfl, rfl, rfl, rfl, rfl, trivial⟩
    rw [show s + qLow top (n + 1) m = s + (top / m + qLow top n (m - 1)) from rfl, ← Int.add_assoc] at hQ
    rw [tdiv_pos ht.1]
    exact hQ
set_option maxHeartbeats 4000000 in
set_option maxRecDepth 100000 in
theorem c_X4_lowOf {g : vGl} {d : Nat} {Q : Option Value → List mC → Prop} {σ : vSt} {x y : Int} {k : Nat} (hd : 4 ≤ d) (hR : YR σ) (hx : x = k) (hk : (k : Int) < σ 10 6) (hy : 0 ≤ y ∧ y ≤ σ 13 k) (hQ : Q (some (vi (qLow (1000 * σ 5 (σ 11 k).toNat) (σ 13 k - y).toNat (yMass σ k)))) (hp σ)) : V g mX4_lowOf d (0, 0, 0, 0) Q 0 [(0, .ref 10), (1, vi x), (2, vi y)] [] (hp σ) := by
  obtain ⟨⟨r0, r1, r2, r3, r4, r5, r6, r7, r8, r9⟩, rE, rS, rT, rF⟩ := id hR
  have s1 := rS k
  have s2 := rE (σ 11 k).toNat
  have s3 := hR.mass1 hk
  have s4 := hR.mass k
  have s5 := rF (σ 11 k).toNat (by have := rT k hk; omega)
  refine v_aload_n (pc := 0) dX4_lowOf_0 rfl ?_
  refine v_iload_n (pc := 1) dX4_lowOf_1 rfl ?_
  refine v_cVi1 (pc := 2) (z := 0) (d' := d - 1) dX4_lowOf_2 kX4_has ml_X4_35 iwX4_has swX4_has rfl rfl (Nat.le_of_ble_eq_true rfl) (Nat.le_of_ble_eq_true rfl) (by omega) ⟨Nat.le_refl _, Nat.le_refl _⟩ ?_
  refine c_X4_has1 hR (by omega) (by omega) ?_
  refine ⟨_, rfl, ?_⟩
  refine v_if_ne (pc := 5) 10 dX4_lowOf_5 (by decide) (by omega) (fun h5 => ?_) (fun h5 => by exfalso; omega)
  refine v_sipush (pc := 10) (1000) dX4_lowOf_10 (by decide) ?_
  refine v_aload_n (pc := 13) dX4_lowOf_13 rfl ?_
  refine v_iload_n (pc := 14) dX4_lowOf_14 rfl ?_
  refine v_cVi1 (pc := 15) (z := 0) (d' := d - 1) dX4_lowOf_15 kX4_exhaustOf ml_X4_67 iwX4_exhaustOf swX4_exhaustOf rfl rfl (Nat.le_of_ble_eq_true rfl) (Nat.le_of_ble_eq_true rfl) (by omega) ⟨Nat.le_refl _, Nat.le_refl _⟩ ?_
  refine c_X4_exhaustOf (k := k) (by omega) hR (by omega) (by omega) ?_
  refine ⟨_, rfl, ?_⟩
  refine v_imul (pc := 18) dX4_lowOf_18 ?_
  refine v_istore_n (pc := 19) dX4_lowOf_19 (by decide) ?_
  refine v_aload_n (pc := 20) dX4_lowOf_20 rfl ?_
  refine v_iload_n (pc := 21) dX4_lowOf_21 rfl ?_
  refine v_cVi1 (pc := 22) (z := 0) (d' := d - 1) dX4_lowOf_22 kX4_massFrom ml_X4_70 iwX4_massFrom swX4_massFrom rfl rfl (Nat.le_of_ble_eq_true rfl) (Nat.le_of_ble_eq_true rfl) (by omega) ⟨Nat.le_refl _, Nat.le_refl _⟩ ?_
  refine c_X4_massFrom (k := k) (by omega) hR (by omega) (by omega) ?_
  refine ⟨_, rfl, ?_⟩
  refine v_istore (pc := 25) dX4_lowOf_25 (by decide) ?_
  refine v_iconst (pc := 27) (0) dX4_lowOf_27 (by decide) ?_
  refine v_istore (pc := 28) dX4_lowOf_28 (by decide) ?_
  refine v_iload_n (pc := 30) dX4_lowOf_30 rfl ?_
  refine v_istore (pc := 31) dX4_lowOf_31 (by decide) ?_
  refine v_lv (l_X4_lowOf (y := x) (k := k) hR hx (by omega) (by omega) (σ 13 k - y).toNat y (yMass σ k) 0 (by omega) (by omega) (by omega) (by rw [Int.zero_add]; exact hQ)) ⟨rfl, rfl, rfl, rfl, rfl, rfl, trivial⟩
set_option maxHeartbeats 4000000 in
set_option maxRecDepth 100000 in
theorem l_X4_highOf {g : vGl} {d : Nat} {Q : Option Value → List mC → Prop} {σ : vSt} {y : Int} {k : Nat} {top : Int} (hR : YR σ) (hy : y = k) (hk : k < 4) (ht : 0 ≤ top ∧ top ≤ 999000) : ∀ (n : Nat) (b m s : Int) (hb : b + n = σ 13 k) (hb0 : -1 ≤ b) (hm : 1 ≤ m + 1 - n ∧ m ≤ 10000) (hQ : Q (some (vi (s + qHigh top n m))) (hp σ)), V g mX4_highOf d (0, 0, 0, 0) Q 34 [(0, .ref 10), (1, vi y), (2, vi top), (3, vi m), (4, vi s), (5, vi b)] [] (hp σ) := by
  intro n
  induction n with
  | zero =>
    intro b m s hb hb0 hm hQ
    obtain ⟨⟨r0, r1, r2, r3, r4, r5, r6, r7, r8, r9⟩, rE, rS, rT, rF⟩ := id hR
    have s1 := rS k
    refine v_iload (pc := 34) dX4_highOf_34 rfl ?_
    refine v_aload_n (pc := 36) dX4_highOf_36 rfl ?_
    refine v_gR (pc := 37) dX4_highOf_37 fl_X4_18 rfl ?_
    refine v_iload_n (pc := 40) dX4_highOf_40 rfl ?_
    refine v_aI (pc := 41) (j := k) dX4_highOf_41 rfl (by omega) (by omega) (by omega) ?_
    refine v_icmp_ge (pc := 42) 70 dX4_highOf_42 (by decide) (by omega) (by omega) (fun h42 => ?_) (fun h42 => by exfalso; omega)
    refine v_iload (pc := 70) dX4_highOf_70 rfl ?_
    refine v_ireturn (pc := 72) dX4_highOf_72 rfl rfl ⟨Nat.le_refl _, Nat.le_refl _⟩ ?_
    simpa [qHigh] using hQ
  | succ n ih =>
    intro b m s hb hb0 hm hQ
    obtain ⟨⟨r0, r1, r2, r3, r4, r5, r6, r7, r8, r9⟩, rE, rS, rT, rF⟩ := id hR
    have s1 := rS k
    refine v_iload (pc := 34) dX4_highOf_34 rfl ?_
    refine v_aload_n (pc := 36) dX4_highOf_36 rfl ?_
    refine v_gR (pc := 37) dX4_highOf_37 fl_X4_18 rfl ?_
    refine v_iload_n (pc := 40) dX4_highOf_40 rfl ?_
    refine v_aI (pc := 41) (j := k) dX4_highOf_41 rfl (by omega) (by omega) (by omega) ?_
    refine v_icmp_ge (pc := 42) 70 dX4_highOf_42 (by decide) (by omega) (by omega) (fun h42 => by exfalso; omega) (fun h42 => ?_)
    refine v_iload_n (pc := 45) dX4_highOf_45 rfl ?_
    refine v_if_le (pc := 46) 70 dX4_highOf_46 (by decide) (by omega) (fun h46 => by exfalso; omega) (fun h46 => ?_)
    refine v_iload (pc := 49) dX4_highOf_49 rfl ?_
    refine v_iload_n (pc := 51) dX4_highOf_51 rfl ?_
    refine v_iload_n (pc := 52) dX4_highOf_52 rfl ?_
    refine v_iadd (pc := 53) dX4_highOf_53 ?_
    refine v_iconst (pc := 54) (1) dX4_highOf_54 (by decide) ?_
    refine v_isub (pc := 55) dX4_highOf_55 ?_
    refine v_iload_n (pc := 56) dX4_highOf_56 rfl ?_
    refine v_idiv (pc := 57) dX4_highOf_57 (by omega) (by omega) (by omega) ?_
    refine v_iadd (pc := 58) dX4_highOf_58 ?_
    refine v_istore (pc := 59) dX4_highOf_59 (by decide) ?_
    refine v_iinc (pc := 61) (-1) dX4_highOf_61 rfl (by decide) (by decide) ?_
    refine v_iinc (pc := 64) (1) dX4_highOf_64 rfl (by decide) (by decide) ?_
    refine v_goto (pc := 67) 34 dX4_highOf_67 (by decide) ?_
    refine v_lv (ih (b + 1) (m + -1) _ (by omega) (by omega) (by omega) ?_) ⟨rfl, rfl, rfl, rfl, rfl, rfl, trivial⟩
    rw [show s + qHigh top (n + 1) m = s + ((top + m - 1) / m + qHigh top n (m - 1)) from rfl, ← Int.add_assoc] at hQ
    rw [tdiv_pos (by omega)]
    exact hQ
set_option maxHeartbeats 4000000 in
set_option maxRecDepth 100000 in
theorem c_X4_highOf {g : vGl} {d : Nat} {Q : Option Value → List mC → Prop} {σ : vSt} {x : Int} {k : Nat} (hd : 4 ≤ d) (hR : YR σ) (hx : x = k) (hk : (k : Int) < σ 10 6) (hQ : Q (some (vi (qHigh (1000 * σ 5 (σ 11 k).toNat) (σ 13 k).toNat (yMass σ k - 1)))) (hp σ)) : V g mX4_highOf d (0, 0, 0, 0) Q 0 [(0, .ref 10), (1, vi x)] [] (hp σ) := by
  obtain ⟨⟨r0, r1, r2, r3, r4, r5, r6, r7, r8, r9⟩, rE, rS, rT, rF⟩ := id hR
  have s1 := rS k
  have s2 := rE (σ 11 k).toNat
  have s3 := hR.mass1 hk
  have s4 := hR.mass k
  have s5 := rF (σ 11 k).toNat (by have := rT k hk; omega)
  refine v_aload_n (pc := 0) dX4_highOf_0 rfl ?_
  refine v_iload_n (pc := 1) dX4_highOf_1 rfl ?_
  refine v_cVi1 (pc := 2) (z := 0) (d' := d - 1) dX4_highOf_2 kX4_has ml_X4_35 iwX4_has swX4_has rfl rfl (Nat.le_of_ble_eq_true rfl) (Nat.le_of_ble_eq_true rfl) (by omega) ⟨Nat.le_refl _, Nat.le_refl _⟩ ?_
  refine c_X4_has1 hR (by omega) (by omega) ?_
  refine ⟨_, rfl, ?_⟩
  refine v_if_ne (pc := 5) 10 dX4_highOf_5 (by decide) (by omega) (fun h5 => ?_) (fun h5 => by exfalso; omega)
  refine v_sipush (pc := 10) (1000) dX4_highOf_10 (by decide) ?_
  refine v_aload_n (pc := 13) dX4_highOf_13 rfl ?_
  refine v_iload_n (pc := 14) dX4_highOf_14 rfl ?_
  refine v_cVi1 (pc := 15) (z := 0) (d' := d - 1) dX4_highOf_15 kX4_exhaustOf ml_X4_67 iwX4_exhaustOf swX4_exhaustOf rfl rfl (Nat.le_of_ble_eq_true rfl) (Nat.le_of_ble_eq_true rfl) (by omega) ⟨Nat.le_refl _, Nat.le_refl _⟩ ?_
  refine c_X4_exhaustOf (k := k) (by omega) hR (by omega) (by omega) ?_
  refine ⟨_, rfl, ?_⟩
  refine v_imul (pc := 18) dX4_highOf_18 ?_
  refine v_istore_n (pc := 19) dX4_highOf_19 (by decide) ?_
  refine v_aload_n (pc := 20) dX4_highOf_20 rfl ?_
  refine v_iload_n (pc := 21) dX4_highOf_21 rfl ?_
  refine v_cVi1 (pc := 22) (z := 0) (d' := d - 1) dX4_highOf_22 kX4_massFrom ml_X4_70 iwX4_massFrom swX4_massFrom rfl rfl (Nat.le_of_ble_eq_true rfl) (Nat.le_of_ble_eq_true rfl) (by omega) ⟨Nat.le_refl _, Nat.le_refl _⟩ ?_
  refine c_X4_massFrom (k := k) (by omega) hR (by omega) (by omega) ?_
  refine ⟨_, rfl, ?_⟩
  refine v_iconst (pc := 25) (1) dX4_highOf_25 (by decide) ?_
  refine v_isub (pc := 26) dX4_highOf_26 ?_
  refine v_istore_n (pc := 27) dX4_highOf_27 (by decide) ?_
  refine v_iconst (pc := 28) (0) dX4_highOf_28 (by decide) ?_
  refine v_istore (pc := 29) dX4_highOf_29 (by decide) ?_
  refine v_iconst (pc := 31) (0) dX4_highOf_31 (by decide) ?_
  refine v_istore (pc := 32) dX4_highOf_32 (by decide) ?_
  refine v_lv (l_X4_highOf (y := x) (k := k) hR hx (by omega) (by omega) (σ 13 k).toNat 0 (yMass σ k - 1) 0 (by omega) (by omega) (by omega) (by rw [Int.zero_add]; exact hQ)) ⟨rfl, rfl, rfl, rfl, rfl, rfl, trivial⟩
set_option maxHeartbeats 4000000 in
set_option maxRecDepth 100000 in
theorem c_X4_liftOf {g : vGl} {d : Nat} {Q : Option Value → List mC → Prop} {σ : vSt} {x : Int} {k : Nat} (hd : 4 ≤ d) (hR : YR σ) (hx : x = k) (hk : (k : Int) < σ 10 6) (hQ : Q (some (vi (100 * σ 4 (σ 11 k).toNat * σ 12 k / yMass σ k))) (hp σ)) : V g mX4_liftOf d (0, 0, 0, 0) Q 0 [(0, .ref 10), (1, vi x)] [] (hp σ) := by
  obtain ⟨⟨r0, r1, r2, r3, r4, r5, r6, r7, r8, r9⟩, rE, rS, rT, rF⟩ := id hR
  have s1 := rS k
  have s2 := rE (σ 11 k).toNat
  have s3 := hR.mass1 hk
  have s4 := hR.mass k
  have s5 := rF (σ 11 k).toNat (by have := rT k hk; omega)
  have s6 := mul_le (a := 100 * σ 4 (σ 11 k).toNat) (b := σ 12 k) (A := 99900) (B := 9) (by omega) (by omega) (by omega) (by omega)
  refine v_aload_n (pc := 0) dX4_liftOf_0 rfl ?_
  refine v_iload_n (pc := 1) dX4_liftOf_1 rfl ?_
  refine v_cVi1 (pc := 2) (z := 0) (d' := d - 1) dX4_liftOf_2 kX4_has ml_X4_35 iwX4_has swX4_has rfl rfl (Nat.le_of_ble_eq_true rfl) (Nat.le_of_ble_eq_true rfl) (by omega) ⟨Nat.le_refl _, Nat.le_refl _⟩ ?_
  refine c_X4_has1 hR (by omega) (by omega) ?_
  refine ⟨_, rfl, ?_⟩
  refine v_if_ne (pc := 5) 10 dX4_liftOf_5 (by decide) (by omega) (fun h5 => ?_) (fun h5 => by exfalso; omega)
  refine v_aload_n (pc := 10) dX4_liftOf_10 rfl ?_
  refine v_iload_n (pc := 11) dX4_liftOf_11 rfl ?_
  refine v_cVi1 (pc := 12) (z := 0) (d' := d - 1) dX4_liftOf_12 kX4_massFrom ml_X4_70 iwX4_massFrom swX4_massFrom rfl rfl (Nat.le_of_ble_eq_true rfl) (Nat.le_of_ble_eq_true rfl) (by omega) ⟨Nat.le_refl _, Nat.le_refl _⟩ ?_
  refine c_X4_massFrom (k := k) (by omega) hR (by omega) (by omega) ?_
  refine ⟨_, rfl, ?_⟩
  refine v_istore_n (pc := 15) dX4_liftOf_15 (by decide) ?_
  refine v_iload_n (pc := 16) dX4_liftOf_16 rfl ?_
  refine v_iconst (pc := 17) (1) dX4_liftOf_17 (by decide) ?_
  refine v_icmp_ge (pc := 18) 25 dX4_liftOf_18 (by decide) (by omega) (by omega) (fun h18 => ?_) (fun h18 => by exfalso; omega)
  refine v_bipush (pc := 25) (100) dX4_liftOf_25 (by decide) ?_
  refine v_aload_n (pc := 27) dX4_liftOf_27 rfl ?_
  refine v_gR (pc := 28) dX4_liftOf_28 fl_X4_28 rfl ?_
  refine v_gR (pc := 31) dX4_liftOf_31 fl_X4_73 rfl ?_
  refine v_aload_n (pc := 34) dX4_liftOf_34 rfl ?_
  refine v_gR (pc := 35) dX4_liftOf_35 fl_X4_9 rfl ?_
  refine v_iload_n (pc := 38) dX4_liftOf_38 rfl ?_
  refine v_aI (pc := 39) (j := k) dX4_liftOf_39 rfl (by omega) (by omega) (by omega) ?_
  refine v_aI (pc := 40) (j := (σ 11 k).toNat) dX4_liftOf_40 rfl rfl (by omega) (by omega) ?_
  refine v_imul (pc := 41) dX4_liftOf_41 ?_
  refine v_aload_n (pc := 42) dX4_liftOf_42 rfl ?_
  refine v_gR (pc := 43) dX4_liftOf_43 fl_X4_15 rfl ?_
  refine v_iload_n (pc := 46) dX4_liftOf_46 rfl ?_
  refine v_aI (pc := 47) (j := k) dX4_liftOf_47 rfl (by omega) (by omega) (by omega) ?_
  refine v_imul (pc := 48) dX4_liftOf_48 ?_
  refine v_iload_n (pc := 49) dX4_liftOf_49 rfl ?_
  refine v_idiv (pc := 50) dX4_liftOf_50 (by omega) (by omega) (by omega) ?_
  refine v_ireturn (pc := 51) dX4_liftOf_51 rfl rfl ⟨Nat.le_refl _, Nat.le_refl _⟩ ?_
  rw [tdiv_pos (by omega)]; exact hQ
set_option maxHeartbeats 4000000 in
set_option maxRecDepth 100000 in
theorem c_X4_enginesCost {g : vGl} {d : Nat} {Q : Option Value → List mC → Prop} {σ : vSt} {x : Int} {k : Nat} (hd : 1 ≤ d) (hR : YR σ) (hx : x = k) (hk : (k : Int) < σ 10 6) (hQ : Q (some (vi (σ 12 k * σ 7 (σ 11 k).toNat))) (hp σ)) : V g mX4_enginesCost d (0, 0, 0, 0) Q 0 [(0, .ref 10), (1, vi x)] [] (hp σ) := by
  obtain ⟨⟨r0, r1, r2, r3, r4, r5, r6, r7, r8, r9⟩, rE, rS, rT, rF⟩ := id hR
  have s1 := rS k
  have s2 := rE (σ 11 k).toNat
  refine v_aload_n (pc := 0) dX4_enginesCost_0 rfl ?_
  refine v_iload_n (pc := 1) dX4_enginesCost_1 rfl ?_
  refine v_cVi1 (pc := 2) (z := 0) (d' := d - 1) dX4_enginesCost_2 kX4_has ml_X4_35 iwX4_has swX4_has rfl rfl (Nat.le_of_ble_eq_true rfl) (Nat.le_of_ble_eq_true rfl) (by omega) ⟨Nat.le_refl _, Nat.le_refl _⟩ ?_
  refine c_X4_has1 hR (by omega) (by omega) ?_
  refine ⟨_, rfl, ?_⟩
  refine v_if_eq (pc := 5) 32 dX4_enginesCost_5 (by decide) (by omega) (fun h5 => by exfalso; omega) (fun h5 => ?_)
  refine v_aload_n (pc := 8) dX4_enginesCost_8 rfl ?_
  refine v_gR (pc := 9) dX4_enginesCost_9 fl_X4_15 rfl ?_
  refine v_iload_n (pc := 12) dX4_enginesCost_12 rfl ?_
  refine v_aI (pc := 13) (j := k) dX4_enginesCost_13 rfl (by omega) (by omega) (by omega) ?_
  refine v_aload_n (pc := 14) dX4_enginesCost_14 rfl ?_
  refine v_gR (pc := 15) dX4_enginesCost_15 fl_X4_28 rfl ?_
  refine v_gR (pc := 18) dX4_enginesCost_18 fl_X4_76 rfl ?_
  refine v_aload_n (pc := 21) dX4_enginesCost_21 rfl ?_
  refine v_gR (pc := 22) dX4_enginesCost_22 fl_X4_9 rfl ?_
  refine v_iload_n (pc := 25) dX4_enginesCost_25 rfl ?_
  refine v_aI (pc := 26) (j := k) dX4_enginesCost_26 rfl (by omega) (by omega) (by omega) ?_
  refine v_aI (pc := 27) (j := (σ 11 k).toNat) dX4_enginesCost_27 rfl rfl (by omega) (by omega) ?_
  refine v_imul (pc := 28) dX4_enginesCost_28 ?_
  refine v_goto (pc := 29) 33 dX4_enginesCost_29 (by decide) ?_
  refine v_ireturn (pc := 33) dX4_enginesCost_33 rfl rfl ⟨Nat.le_refl _, Nat.le_refl _⟩ ?_
  exact hQ
set_option maxHeartbeats 4000000 in
set_option maxRecDepth 100000 in
theorem l_X4_neededOf {g : vGl} {d : Nat} {Q : Option Value → List mC → Prop} {σ : vSt} {e : Int} (hR : YR σ) (he : vr e) : ∀ (n : Nat) (j : Nat) (x s : Int) (hx : x = j) (hn : (j : Int) + n = σ 10 6) (hQ : Q (some (vi (s + qSum (fun k => if σ 11 k = e then σ 12 k else 0) n j))) (hp σ)), V g mX4_neededOf d (0, 0, 0, 0) Q 4 [(0, .ref 10), (1, vi e), (2, vi s), (3, vi x)] [] (hp σ) := by
  intro n
  induction n with
  | zero =>
    intro j x s hx hn hQ
    obtain ⟨⟨r0, r1, r2, r3, r4, r5, r6, r7, r8, r9⟩, rE, rS, rT, rF⟩ := id hR
    refine v_iload_n (pc := 4) dX4_neededOf_4 rfl ?_
    refine v_aload_n (pc := 5) dX4_neededOf_5 rfl ?_
    refine v_gI (pc := 6) dX4_neededOf_6 fl_X4_24 rfl ?_
    refine v_icmp_ge (pc := 9) 37 dX4_neededOf_9 (by decide) (by omega) (by omega) (fun h9 => ?_) (fun h9 => by exfalso; omega)
    refine v_iload_n (pc := 37) dX4_neededOf_37 rfl ?_
    refine v_ireturn (pc := 38) dX4_neededOf_38 rfl rfl ⟨Nat.le_refl _, Nat.le_refl _⟩ ?_
    simpa [qSum] using hQ
  | succ n ih =>
    intro j x s hx hn hQ
    obtain ⟨⟨r0, r1, r2, r3, r4, r5, r6, r7, r8, r9⟩, rE, rS, rT, rF⟩ := id hR
    have s1 := rS j
    refine v_iload_n (pc := 4) dX4_neededOf_4 rfl ?_
    refine v_aload_n (pc := 5) dX4_neededOf_5 rfl ?_
    refine v_gI (pc := 6) dX4_neededOf_6 fl_X4_24 rfl ?_
    refine v_icmp_ge (pc := 9) 37 dX4_neededOf_9 (by decide) (by omega) (by omega) (fun h9 => by exfalso; omega) (fun h9 => ?_)
    refine v_aload_n (pc := 12) dX4_neededOf_12 rfl ?_
    refine v_gR (pc := 13) dX4_neededOf_13 fl_X4_9 rfl ?_
    refine v_iload_n (pc := 16) dX4_neededOf_16 rfl ?_
    refine v_aI (pc := 17) (j := j) dX4_neededOf_17 rfl (by omega) (by omega) (by omega) ?_
    refine v_iload_n (pc := 18) dX4_neededOf_18 rfl ?_
    refine v_icmp_ne (pc := 19) 31 dX4_neededOf_19 (by decide) (by omega) (by omega) (fun h19 => ?_) (fun h19 => ?_)
    · refine v_iinc (pc := 31) (1) dX4_neededOf_31 rfl (by decide) (by decide) ?_
      refine v_goto (pc := 34) 4 dX4_neededOf_34 (by decide) ?_
      refine v_lv (ih (j + 1) (x + 1) _ (by omega) (by omega) ?_) ⟨rfl, rfl, rfl, rfl, trivial⟩
      rw [show s + qSum (fun k => if σ 11 k = e then σ 12 k else 0) (n + 1) j = s + ((if σ 11 j = e then σ 12 j else 0) + qSum (fun k => if σ 11 k = e then σ 12 k else 0) n (j + 1)) from rfl, ← Int.add_assoc] at hQ
      first | (rw [if_pos (by omega)] at hQ; exact hQ) | (rw [if_neg (by omega), Int.add_zero] at hQ; exact hQ)
    · refine v_iload_n (pc := 22) dX4_neededOf_22 rfl ?_
      refine v_aload_n (pc := 23) dX4_neededOf_23 rfl ?_
      refine v_gR (pc := 24) dX4_neededOf_24 fl_X4_15 rfl ?_
      refine v_iload_n (pc := 27) dX4_neededOf_27 rfl ?_
      refine v_aI (pc := 28) (j := j) dX4_neededOf_28 rfl (by omega) (by omega) (by omega) ?_
      refine v_iadd (pc := 29) dX4_neededOf_29 ?_
      refine v_istore_n (pc := 30) dX4_neededOf_30 (by decide) ?_
      refine v_iinc (pc := 31) (1) dX4_neededOf_31 rfl (by decide) (by decide) ?_
      refine v_goto (pc := 34) 4 dX4_neededOf_34 (by decide) ?_
      refine v_lv (ih (j + 1) (x + 1) _ (by omega) (by omega) ?_) ⟨rfl, rfl, rfl, rfl, trivial⟩
      rw [show s + qSum (fun k => if σ 11 k = e then σ 12 k else 0) (n + 1) j = s + ((if σ 11 j = e then σ 12 j else 0) + qSum (fun k => if σ 11 k = e then σ 12 k else 0) n (j + 1)) from rfl, ← Int.add_assoc] at hQ
      first | (rw [if_pos (by omega)] at hQ; exact hQ) | (rw [if_neg (by omega), Int.add_zero] at hQ; exact hQ)
def yNeed (σ : vSt) (e : Int) : Int := qSum (fun k => if σ 11 k = e then σ 12 k else 0) (σ 10 6).toNat 0
set_option maxHeartbeats 4000000 in
set_option maxRecDepth 100000 in
theorem c_X4_neededOf {g : vGl} {d : Nat} {Q : Option Value → List mC → Prop} {σ : vSt} {e : Int} (hR : YR σ) (he : vr e) (hQ : Q (some (vi (yNeed σ e))) (hp σ)) : V g mX4_neededOf d (0, 0, 0, 0) Q 0 [(0, .ref 10), (1, vi e)] [] (hp σ) := by
  obtain ⟨⟨r0, r1, r2, r3, r4, r5, r6, r7, r8, r9⟩, rE, rS, rT, rF⟩ := id hR
  refine v_iconst (pc := 0) (0) dX4_neededOf_0 (by decide) ?_
  refine v_istore_n (pc := 1) dX4_neededOf_1 (by decide) ?_
  refine v_iconst (pc := 2) (0) dX4_neededOf_2 (by decide) ?_
  refine v_istore_n (pc := 3) dX4_neededOf_3 (by decide) ?_
  refine v_lv (l_X4_neededOf hR he (σ 10 6).toNat 0 0 0 rfl (by omega) (by rw [Int.zero_add]; exact hQ)) ⟨rfl, rfl, rfl, rfl, trivial⟩
end
section
set_option maxHeartbeats 4000000 in
set_option maxRecDepth 100000 in
theorem c_X1_has {g : vGl} {d : Nat} {Q : Option Value → List mC → Prop} {σ : vSt} {k : Int} (hk : vr k) (hs : vr (σ 3 6)) (hQ : Q (some (vi (if 0 ≤ k ∧ k < σ 3 6 then 1 else 0))) (hp σ)) : V g mX1_has d (0, 0, 0, 0) Q 0 [(0, .ref 3), (1, vi k)] [] (hp σ) := by
  refine v_iload_n (pc := 0) dX1_has_0 rfl ?_
  refine v_if_lt (pc := 1) 16 dX1_has_1 (by decide) (by omega) (fun h1 => ?_) (fun h1 => ?_)
  · refine v_iconst (pc := 16) (0) dX1_has_16 (by decide) ?_
    refine v_ireturn (pc := 17) dX1_has_17 rfl (vZ (by omega)) ⟨Nat.le_refl _, Nat.le_refl _⟩ ?_
    first | (rw [if_pos (by omega)] at hQ; exact hQ) | (rw [if_neg (by omega)] at hQ; exact hQ)
  · refine v_iload_n (pc := 4) dX1_has_4 rfl ?_
    refine v_aload_n (pc := 5) dX1_has_5 rfl ?_
    refine v_gI (pc := 6) dX1_has_6 fl_X1_30 rfl ?_
    refine v_icmp_ge (pc := 9) 16 dX1_has_9 (by decide) (by omega) (by omega) (fun h9 => ?_) (fun h9 => ?_)
    · refine v_iconst (pc := 16) (0) dX1_has_16 (by decide) ?_
      refine v_ireturn (pc := 17) dX1_has_17 rfl (vZ (by omega)) ⟨Nat.le_refl _, Nat.le_refl _⟩ ?_
      first | (rw [if_pos (by omega)] at hQ; exact hQ) | (rw [if_neg (by omega)] at hQ; exact hQ)
    · refine v_iconst (pc := 12) (1) dX1_has_12 (by decide) ?_
      refine v_goto (pc := 13) 17 dX1_has_13 (by decide) ?_
      refine v_ireturn (pc := 17) dX1_has_17 rfl (vZ (by omega)) ⟨Nat.le_refl _, Nat.le_refl _⟩ ?_
      first | (rw [if_pos (by omega)] at hQ; exact hQ) | (rw [if_neg (by omega)] at hQ; exact hQ)
theorem c_X1_has1 {g : vGl} {d : Nat} {Q : Option Value → List mC → Prop} {σ : vSt} {x : Int} (hR : YR σ) (h0 : 0 ≤ x) (h1 : x < σ 3 6) (hQ : Q (some (vi 1)) (hp σ)) : V g mX1_has d (0, 0, 0, 0) Q 0 [(0, .ref 3), (1, vi x)] [] (hp σ) := by
  have r := hR.1
  refine c_X1_has (by omega) (by omega) ?_
  rw [if_pos ⟨h0, h1⟩]; exact hQ
set_option maxHeartbeats 4000000 in
set_option maxRecDepth 100000 in
theorem c_X1_nextCost {g : vGl} {d : Nat} {Q : Option Value → List mC → Prop} {σ : vSt} {c lr : Int} (hd : 1 ≤ d) (h1 : 0 ≤ lr) (h2 : lr ≤ 100) (h3 : 0 ≤ c) (h4 : c ≤ 9999) (hQ : Q (some (vi (qNext lr c))) (hp σ)) : V g mX1_nextCost d (0, 0, 0, 0) Q 0 [(0, vi c), (1, vi lr)] [] (hp σ) := by
  have a := qNext_le h1 h2 h3 h4
  have e : (c * lr).tdiv 100 = c * lr / 100 := tdiv_pos a.2.2.1
  refine v_iload_n (pc := 0) dX1_nextCost_0 rfl ?_
  refine v_iload_n (pc := 1) dX1_nextCost_1 rfl ?_
  refine v_imul (pc := 2) dX1_nextCost_2 ?_
  refine v_bipush (pc := 3) (100) dX1_nextCost_3 (by decide) ?_
  refine v_idiv (pc := 5) dX1_nextCost_5 (by omega) (by omega) (by omega) ?_
  refine v_iconst (pc := 6) (1) dX1_nextCost_6 (by decide) ?_
  refine v_max (pc := 7) dX1_nextCost_7 ml_X1_42 st_max it_Math co_max (by omega) (by omega) (Nat.le_of_ble_eq_true rfl) (by omega) ⟨Nat.le_refl _, Nat.le_refl _⟩ ?_
  refine v_ireturn (pc := 10) dX1_nextCost_10 rfl rfl ⟨Nat.le_refl _, Nat.le_refl _⟩ ?_
  rw [e]; exact hQ
set_option maxHeartbeats 4000000 in
set_option maxRecDepth 100000 in
theorem l_X1_costAt {g : vGl} {d : Nat} {Q : Option Value → List mC → Prop} {σ : vSt} {i lr : Int} (hd : 2 ≤ d) (hi : vr i) (h1 : 0 ≤ lr) (h2 : lr ≤ 100) : ∀ (n : Nat) (b c : Int) (hb : b + n = i) (hb0 : -1 ≤ b) (h3 : 1 ≤ c) (h4 : c ≤ 9999) (hQ : Q (some (vi (qCost lr c n))) (hp σ)), V g mX1_costAt d (0, 0, 0, 0) Q 21 [(0, .ref 3), (2, vi i), (3, vi lr), (4, vi c), (5, vi b)] [] (hp σ) := by
  intro n
  induction n with
  | zero =>
    intro b c hb hb0 h3 h4 hQ
    refine v_iload (pc := 21) dX1_costAt_21 rfl ?_
    refine v_iload_n (pc := 23) dX1_costAt_23 rfl ?_
    refine v_icmp_ge (pc := 24) 47 dX1_costAt_24 (by decide) (by omega) (by omega) (fun h24 => ?_) (fun h24 => by exfalso; omega)
    refine v_iload (pc := 47) dX1_costAt_47 rfl ?_
    refine v_ireturn (pc := 49) dX1_costAt_49 rfl rfl ⟨Nat.le_refl _, Nat.le_refl _⟩ ?_
    first | exact hQ | (obtain rfl : c = 1 := (by omega); rw [qCost_one h2] at hQ; exact hQ)
  | succ n ih =>
    intro b c hb hb0 h3 h4 hQ
    refine v_iload (pc := 21) dX1_costAt_21 rfl ?_
    refine v_iload_n (pc := 23) dX1_costAt_23 rfl ?_
    refine v_icmp_ge (pc := 24) 47 dX1_costAt_24 (by decide) (by omega) (by omega) (fun h24 => by exfalso; omega) (fun h24 => ?_)
    refine v_iload (pc := 27) dX1_costAt_27 rfl ?_
    refine v_iconst (pc := 29) (1) dX1_costAt_29 (by decide) ?_
    refine v_icmp_le (pc := 30) 47 dX1_costAt_30 (by decide) (by omega) (by omega) (fun h30 => ?_) (fun h30 => ?_)
    · refine v_iload (pc := 47) dX1_costAt_47 rfl ?_
      refine v_ireturn (pc := 49) dX1_costAt_49 rfl rfl ⟨Nat.le_refl _, Nat.le_refl _⟩ ?_
      first | exact hQ | (obtain rfl : c = 1 := (by omega); rw [qCost_one h2] at hQ; exact hQ)
    · refine v_iload (pc := 33) dX1_costAt_33 rfl ?_
      refine v_iload_n (pc := 35) dX1_costAt_35 rfl ?_
      refine v_cSi2 (pc := 36) (d' := d - 1) dX1_costAt_36 kX1_nextCost ml_X1_38 stX1_nextCost (Nat.le_of_ble_eq_true rfl) (Nat.le_of_ble_eq_true rfl) (by omega) ⟨Nat.le_refl _, Nat.le_refl _⟩ ?_
      refine c_X1_nextCost (by omega) h1 h2 (by omega) (by omega) ?_
      refine ⟨_, rfl, ?_⟩
      refine v_istore (pc := 39) dX1_costAt_39 (by decide) ?_
      refine v_iinc (pc := 41) (1) dX1_costAt_41 rfl (by decide) (by decide) ?_
      refine v_goto (pc := 44) 21 dX1_costAt_44 (by decide) ?_
      have a := qNext_le h1 h2 (c := c) (by omega) h4
      exact v_lv (ih (b + 1) _ (by omega) (by omega) a.1 a.2.1 hQ) ⟨rfl, rfl, rfl, rfl, rfl, trivial⟩
set_option maxHeartbeats 4000000 in
set_option maxRecDepth 100000 in
theorem c_X1_costAt {g : vGl} {d : Nat} {Q : Option Value → List mC → Prop} {σ : vSt} {x : Int} {k : Nat} (hd : 3 ≤ d) (hR : YR σ) (hx : x = k) (hk : (k : Int) < σ 3 6) {i lr : Int} (hi : 0 ≤ i ∧ i ≤ 2147483647) (h1 : 0 ≤ lr) (h2 : lr ≤ 100) (hQ : Q (some (vi (qCost lr (σ 7 k) i.toNat))) (hp σ)) : V g mX1_costAt d (0, 0, 0, 0) Q 0 [(0, .ref 3), (1, vi x), (2, vi i), (3, vi lr)] [] (hp σ) := by
  obtain ⟨⟨r0, r1, r2, r3, r4, r5, r6, r7, r8, r9⟩, rE, rS, rT, rF⟩ := id hR
  have s1 := rE k
  have s2 := rF k hk
  refine v_aload_n (pc := 0) dX1_costAt_0 rfl ?_
  refine v_iload_n (pc := 1) dX1_costAt_1 rfl ?_
  refine v_cVi1 (pc := 2) (z := 0) (d' := d - 1) dX1_costAt_2 kX1_has ml_X1_34 iwX1_has swX1_has rfl rfl (Nat.le_of_ble_eq_true rfl) (Nat.le_of_ble_eq_true rfl) (by omega) ⟨Nat.le_refl _, Nat.le_refl _⟩ ?_
  refine c_X1_has1 hR (by omega) (by omega) ?_
  refine ⟨_, rfl, ?_⟩
  refine v_if_ne (pc := 5) 10 dX1_costAt_5 (by decide) (by omega) (fun h5 => ?_) (fun h5 => by exfalso; omega)
  refine v_aload_n (pc := 10) dX1_costAt_10 rfl ?_
  refine v_gR (pc := 11) dX1_costAt_11 fl_X1_21 rfl ?_
  refine v_iload_n (pc := 14) dX1_costAt_14 rfl ?_
  refine v_aI (pc := 15) (j := k) dX1_costAt_15 rfl (by omega) (by omega) (by omega) ?_
  refine v_istore (pc := 16) dX1_costAt_16 (by decide) ?_
  refine v_iconst (pc := 18) (0) dX1_costAt_18 (by decide) ?_
  refine v_istore (pc := 19) dX1_costAt_19 (by decide) ?_
  exact v_lv (l_X1_costAt (by omega) (by omega) h1 h2 i.toNat 0 (σ 7 k) (by omega) (by omega) (by omega) (by omega) hQ) ⟨rfl, rfl, rfl, rfl, rfl, trivial⟩
set_option maxHeartbeats 4000000 in
set_option maxRecDepth 100000 in
theorem c_X1_missing {g : vGl} {d : Nat} {Q : Option Value → List mC → Prop} {σ : vSt} {x : Int} {k : Nat} (hd : 1 ≤ d) (hR : YR σ) (hx : x = k) (hk : (k : Int) < σ 3 6) {nd : Int} (hn : 0 ≤ nd ∧ nd ≤ 1000000) (hQ : Q (some (vi (max (nd - σ 8 k) 0))) (hp σ)) : V g mX1_missing d (0, 0, 0, 0) Q 0 [(0, .ref 3), (1, vi x), (2, vi nd)] [] (hp σ) := by
  obtain ⟨⟨r0, r1, r2, r3, r4, r5, r6, r7, r8, r9⟩, rE, rS, rT, rF⟩ := id hR
  have s1 := rE k
  have s2 := rF k hk
  refine v_aload_n (pc := 0) dX1_missing_0 rfl ?_
  refine v_iload_n (pc := 1) dX1_missing_1 rfl ?_
  refine v_cVi1 (pc := 2) (z := 0) (d' := d - 1) dX1_missing_2 kX1_has ml_X1_34 iwX1_has swX1_has rfl rfl (Nat.le_of_ble_eq_true rfl) (Nat.le_of_ble_eq_true rfl) (by omega) ⟨Nat.le_refl _, Nat.le_refl _⟩ ?_
  refine c_X1_has1 hR (by omega) (by omega) ?_
  refine ⟨_, rfl, ?_⟩
  refine v_if_eq (pc := 5) 23 dX1_missing_5 (by decide) (by omega) (fun h5 => by exfalso; omega) (fun h5 => ?_)
  refine v_iload_n (pc := 8) dX1_missing_8 rfl ?_
  refine v_aload_n (pc := 9) dX1_missing_9 rfl ?_
  refine v_gR (pc := 10) dX1_missing_10 fl_X1_24 rfl ?_
  refine v_iload_n (pc := 13) dX1_missing_13 rfl ?_
  refine v_aI (pc := 14) (j := k) dX1_missing_14 rfl (by omega) (by omega) (by omega) ?_
  refine v_isub (pc := 15) dX1_missing_15 ?_
  refine v_iconst (pc := 16) (0) dX1_missing_16 (by decide) ?_
  refine v_max (pc := 17) dX1_missing_17 ml_X1_42 st_max it_Math co_max (by omega) (by omega) (Nat.le_of_ble_eq_true rfl) (by omega) ⟨Nat.le_refl _, Nat.le_refl _⟩ ?_
  refine v_goto (pc := 20) 24 dX1_missing_20 (by decide) ?_
  refine v_ireturn (pc := 24) dX1_missing_24 rfl rfl ⟨Nat.le_refl _, Nat.le_refl _⟩ ?_
  exact hQ
set_option maxHeartbeats 4000000 in
set_option maxRecDepth 100000 in
theorem l_X1_costOfMissing {g : vGl} {d : Nat} {Q : Option Value → List mC → Prop} {σ : vSt} {m lr : Int} (hd : 2 ≤ d) (hm : vr m) (h1 : 0 ≤ lr) (h2 : lr ≤ 100) : ∀ (n : Nat) (b c s : Int) (hb : b + n = m) (hb0 : -1 ≤ b) (h3 : 1 ≤ c) (h4 : c ≤ 9999) (hQ : Q (some (vi (s + qCosts lr c n))) (hp σ)), V g mX1_costOfMissing d (0, 0, 0, 0) Q 35 [(3, vi lr), (4, vi m), (5, vi c), (6, vi s), (7, vi b)] [] (hp σ) := by
  intro n
  induction n with
  | zero =>
    intro b c s hb hb0 h3 h4 hQ
    refine v_iload (pc := 35) dX1_costOfMissing_35 rfl ?_
    refine v_iload (pc := 37) dX1_costOfMissing_37 rfl ?_
    refine v_icmp_ge (pc := 39) 63 dX1_costOfMissing_39 (by decide) (by omega) (by omega) (fun h39 => ?_) (fun h39 => by exfalso; omega)
    refine v_iload (pc := 63) dX1_costOfMissing_63 rfl ?_
    refine v_ireturn (pc := 65) dX1_costOfMissing_65 rfl rfl ⟨Nat.le_refl _, Nat.le_refl _⟩ ?_
    simpa [qCosts] using hQ
  | succ n ih =>
    intro b c s hb hb0 h3 h4 hQ
    refine v_iload (pc := 35) dX1_costOfMissing_35 rfl ?_
    refine v_iload (pc := 37) dX1_costOfMissing_37 rfl ?_
    refine v_icmp_ge (pc := 39) 63 dX1_costOfMissing_39 (by decide) (by omega) (by omega) (fun h39 => by exfalso; omega) (fun h39 => ?_)
    refine v_iload (pc := 42) dX1_costOfMissing_42 rfl ?_
    refine v_iload (pc := 44) dX1_costOfMissing_44 rfl ?_
    refine v_iadd (pc := 46) dX1_costOfMissing_46 ?_
    refine v_istore (pc := 47) dX1_costOfMissing_47 (by decide) ?_
    refine v_iload (pc := 49) dX1_costOfMissing_49 rfl ?_
    refine v_iload_n (pc := 51) dX1_costOfMissing_51 rfl ?_
    refine v_cSi2 (pc := 52) (d' := d - 1) dX1_costOfMissing_52 kX1_nextCost ml_X1_38 stX1_nextCost (Nat.le_of_ble_eq_true rfl) (Nat.le_of_ble_eq_true rfl) (by omega) ⟨Nat.le_refl _, Nat.le_refl _⟩ ?_
    refine c_X1_nextCost (by omega) h1 h2 (by omega) (by omega) ?_
    refine ⟨_, rfl, ?_⟩
    refine v_istore (pc := 55) dX1_costOfMissing_55 (by decide) ?_
    refine v_iinc (pc := 57) (1) dX1_costOfMissing_57 rfl (by decide) (by decide) ?_
    refine v_goto (pc := 60) 35 dX1_costOfMissing_60 (by decide) ?_
    have a := qNext_le h1 h2 (c := c) (by omega) h4
    refine v_lv (ih (b + 1) _ _ (by omega) (by omega) a.1 a.2.1 ?_) ⟨rfl, rfl, rfl, rfl, rfl, trivial⟩
    rw [show s + qCosts lr c (n + 1) = s + (c + qCosts lr (qNext lr c) n) from rfl, ← Int.add_assoc] at hQ
    exact hQ
set_option maxHeartbeats 4000000 in
set_option maxRecDepth 100000 in
theorem c_X1_costOfMissing {g : vGl} {d : Nat} {Q : Option Value → List mC → Prop} {σ : vSt} {x : Int} {k : Nat} (hd : 4 ≤ d) (hR : YR σ) (hx : x = k) (hk : (k : Int) < σ 3 6) {nd lr : Int} (hn : 0 ≤ nd ∧ nd ≤ 1000000) (h1 : 0 ≤ lr) (h2 : lr ≤ 100) (hQ : Q (some (vi (qCosts lr (qCost lr (σ 7 k) (σ 9 k).toNat) (nd - σ 8 k).toNat))) (hp σ)) : V g mX1_costOfMissing d (0, 0, 0, 0) Q 0 [(0, .ref 3), (1, vi x), (2, vi nd), (3, vi lr)] [] (hp σ) := by
  obtain ⟨⟨r0, r1, r2, r3, r4, r5, r6, r7, r8, r9⟩, rE, rS, rT, rF⟩ := id hR
  have s1 := rE k
  have s2 := rF k hk
  refine v_aload_n (pc := 0) dX1_costOfMissing_0 rfl ?_
  refine v_iload_n (pc := 1) dX1_costOfMissing_1 rfl ?_
  refine v_iload_n (pc := 2) dX1_costOfMissing_2 rfl ?_
  refine v_cVi2 (pc := 3) (z := 0) (d' := d - 1) dX1_costOfMissing_3 kX1_missing ml_X1_47 iwX1_missing swX1_missing rfl rfl (Nat.le_of_ble_eq_true rfl) (Nat.le_of_ble_eq_true rfl) (by omega) ⟨Nat.le_refl _, Nat.le_refl _⟩ ?_
  refine c_X1_missing (k := k) (by omega) hR (by omega) (by omega) (by omega) ?_
  refine ⟨_, rfl, ?_⟩
  refine v_istore (pc := 6) dX1_costOfMissing_6 (by decide) ?_
  refine v_iload (pc := 8) dX1_costOfMissing_8 rfl ?_
  refine v_if_ne (pc := 10) 15 dX1_costOfMissing_10 (by decide) (by omega) (fun h10 => ?_) (fun h10 => ?_)
  · refine v_aload_n (pc := 15) dX1_costOfMissing_15 rfl ?_
    refine v_iload_n (pc := 16) dX1_costOfMissing_16 rfl ?_
    refine v_aload_n (pc := 17) dX1_costOfMissing_17 rfl ?_
    refine v_gR (pc := 18) dX1_costOfMissing_18 fl_X1_27 rfl ?_
    refine v_iload_n (pc := 21) dX1_costOfMissing_21 rfl ?_
    refine v_aI (pc := 22) (j := k) dX1_costOfMissing_22 rfl (by omega) (by omega) (by omega) ?_
    refine v_iload_n (pc := 23) dX1_costOfMissing_23 rfl ?_
    refine v_cVi3 (pc := 24) (z := 0) (d' := d - 1) dX1_costOfMissing_24 kX1_costAt ml_X1_50 iwX1_costAt swX1_costAt rfl rfl (Nat.le_of_ble_eq_true rfl) (Nat.le_of_ble_eq_true rfl) (by omega) ⟨Nat.le_refl _, Nat.le_refl _⟩ ?_
    refine c_X1_costAt (k := k) (by omega) hR (by omega) (by omega) (by omega) h1 h2 ?_
    refine ⟨_, rfl, ?_⟩
    refine v_istore (pc := 27) dX1_costOfMissing_27 (by decide) ?_
    refine v_iconst (pc := 29) (0) dX1_costOfMissing_29 (by decide) ?_
    refine v_istore (pc := 30) dX1_costOfMissing_30 (by decide) ?_
    refine v_iconst (pc := 32) (0) dX1_costOfMissing_32 (by decide) ?_
    refine v_istore (pc := 33) dX1_costOfMissing_33 (by decide) ?_
    have a := qCost_le h1 h2 (σ 9 k).toNat (σ 7 k) (by omega) (by omega)
    refine v_lv (l_X1_costOfMissing (by omega) (by omega) h1 h2 (nd - σ 8 k).toNat 0 _ 0 (by omega) (by omega) a.1 a.2 ?_) ⟨rfl, rfl, rfl, rfl, rfl, trivial⟩
    rw [Int.zero_add]; exact hQ
  · refine v_iconst (pc := 13) (0) dX1_costOfMissing_13 (by decide) ?_
    refine v_ireturn (pc := 14) dX1_costOfMissing_14 rfl rfl ⟨Nat.le_refl _, Nat.le_refl _⟩ ?_
    rw [show (nd - σ 8 k).toNat = 0 by omega] at hQ; exact hQ
set_option maxHeartbeats 4000000 in
set_option maxRecDepth 100000 in
theorem c_X1_take {g : vGl} {d : Nat} {Q : Option Value → List mC → Prop} {σ : vSt} {x : Int} {k : Nat} (hd : 2 ≤ d) (hR : YR σ) (hx : x = k) (hk : (k : Int) < σ 3 6) {nd : Int} (hn : 0 ≤ nd ∧ nd ≤ 1000000) (hQ : Q none (hp (vU (vU σ 8 k (σ 8 k - (nd - max (nd - σ 8 k) 0))) 9 k (σ 9 k + max (nd - σ 8 k) 0)))) : V g mX1_take d (0, 0, 0, 0) Q 0 [(0, .ref 3), (1, vi x), (2, vi nd)] [] (hp σ) := by
  obtain ⟨⟨r0, r1, r2, r3, r4, r5, r6, r7, r8, r9⟩, rE, rS, rT, rF⟩ := id hR
  have s1 := rE k
  have s2 := rF k hk
  refine v_aload_n (pc := 0) dX1_take_0 rfl ?_
  refine v_iload_n (pc := 1) dX1_take_1 rfl ?_
  refine v_cVi1 (pc := 2) (z := 0) (d' := d - 1) dX1_take_2 kX1_has ml_X1_34 iwX1_has swX1_has rfl rfl (Nat.le_of_ble_eq_true rfl) (Nat.le_of_ble_eq_true rfl) (by omega) ⟨Nat.le_refl _, Nat.le_refl _⟩ ?_
  refine c_X1_has1 hR (by omega) (by omega) ?_
  refine ⟨_, rfl, ?_⟩
  refine v_if_ne (pc := 5) 9 dX1_take_5 (by decide) (by omega) (fun h5 => ?_) (fun h5 => by exfalso; omega)
  refine v_aload_n (pc := 9) dX1_take_9 rfl ?_
  refine v_iload_n (pc := 10) dX1_take_10 rfl ?_
  refine v_iload_n (pc := 11) dX1_take_11 rfl ?_
  refine v_cVi2 (pc := 12) (z := 0) (d' := d - 1) dX1_take_12 kX1_missing ml_X1_47 iwX1_missing swX1_missing rfl rfl (Nat.le_of_ble_eq_true rfl) (Nat.le_of_ble_eq_true rfl) (by omega) ⟨Nat.le_refl _, Nat.le_refl _⟩ ?_
  refine c_X1_missing (k := k) (by omega) hR (by omega) (by omega) (by omega) ?_
  refine ⟨_, rfl, ?_⟩
  refine v_istore_n (pc := 15) dX1_take_15 (by decide) ?_
  refine v_aload_n (pc := 16) dX1_take_16 rfl ?_
  refine v_gR (pc := 17) dX1_take_17 fl_X1_24 rfl ?_
  refine v_iload_n (pc := 20) dX1_take_20 rfl ?_
  refine v_dup2 (pc := 21) dX1_take_21 rfl rfl ?_
  refine v_aI (pc := 22) (j := k) dX1_take_22 rfl (by omega) (by omega) (by omega) ?_
  refine v_iload_n (pc := 23) dX1_take_23 rfl ?_
  refine v_iload_n (pc := 24) dX1_take_24 rfl ?_
  refine v_isub (pc := 25) dX1_take_25 ?_
  refine v_isub (pc := 26) dX1_take_26 ?_
  refine v_sI (pc := 27) (j := k) dX1_take_27 rfl (by omega) (by omega) (by omega) ?_
  refine v_aload_n (pc := 28) dX1_take_28 rfl ?_
  refine v_gR (pc := 29) dX1_take_29 fl_X1_27 rfl ?_
  refine v_iload_n (pc := 32) dX1_take_32 rfl ?_
  refine v_dup2 (pc := 33) dX1_take_33 rfl rfl ?_
  refine v_aI (pc := 34) (j := k) dX1_take_34 rfl (by omega) (by omega) (by omega) ?_
  refine v_iload_n (pc := 35) dX1_take_35 rfl ?_
  refine v_iadd (pc := 36) dX1_take_36 ?_
  refine v_sI (pc := 37) (j := k) dX1_take_37 rfl (by omega) (by omega) (by omega) ?_
  refine v_return (pc := 38) dX1_take_38 rfl ⟨Nat.le_refl _, Nat.le_refl _⟩ ?_
  exact hQ
set_option maxHeartbeats 4000000 in
set_option maxRecDepth 100000 in
theorem c_X1_add {g : vGl} {d : Nat} {Q : Option Value → List mC → Prop} {σ : vSt} {t e m q : Int} (hs : 0 ≤ σ 3 6 ∧ σ 3 6 ≤ 6) (hF : σ 3 6 = 6 → Q (some (vi (-4))) (hp σ)) (hQ : σ 3 6 < 6 → ∀ z : Nat, σ 3 6 = z → Q (some (vi z)) (hp (vU (vU (vU (vU (vU σ 4 z t) 5 z e) 6 z m) 7 z q) 3 6 (z + 1)))) : V g mX1_add d (0, 0, 0, 0) Q 0 [(0, .ref 3), (1, vi t), (2, vi e), (3, vi m), (4, vi q)] [] (hp σ) := by
  refine v_aload_n (pc := 0) dX1_add_0 rfl ?_
  refine v_gI (pc := 1) dX1_add_1 fl_X1_30 rfl ?_
  refine v_bipush (pc := 4) (6) dX1_add_4 (by decide) ?_
  refine v_icmp_lt (pc := 6) 12 dX1_add_6 (by decide) (by omega) (by omega) (fun h6 => ?_) (fun h6 => ?_)
  · obtain ⟨z, ez⟩ : ∃ z : Nat, σ 3 6 = z := ⟨(σ 3 6).toNat, by omega⟩
    have hz := hQ (by omega) z ez
    refine v_aload_n (pc := 12) dX1_add_12 rfl ?_
    refine v_gR (pc := 13) dX1_add_13 fl_X1_9 rfl ?_
    refine v_aload_n (pc := 16) dX1_add_16 rfl ?_
    refine v_gI (pc := 17) dX1_add_17 fl_X1_30 rfl ?_
    refine v_iload_n (pc := 20) dX1_add_20 rfl ?_
    refine v_sI (pc := 21) (j := z) dX1_add_21 rfl (by omega) (by omega) (by omega) ?_
    refine v_aload_n (pc := 22) dX1_add_22 rfl ?_
    refine v_gR (pc := 23) dX1_add_23 fl_X1_15 rfl ?_
    refine v_aload_n (pc := 26) dX1_add_26 rfl ?_
    refine v_gI (pc := 27) dX1_add_27 fl_X1_30 rfl ?_
    refine v_iload_n (pc := 30) dX1_add_30 rfl ?_
    refine v_sI (pc := 31) (j := z) dX1_add_31 rfl (by show (σ 3 6).toNat = z; omega) (by show 0 ≤ σ 3 6; omega) (by show σ 3 6 < 6; omega) ?_
    refine v_aload_n (pc := 32) dX1_add_32 rfl ?_
    refine v_gR (pc := 33) dX1_add_33 fl_X1_18 rfl ?_
    refine v_aload_n (pc := 36) dX1_add_36 rfl ?_
    refine v_gI (pc := 37) dX1_add_37 fl_X1_30 rfl ?_
    refine v_iload_n (pc := 40) dX1_add_40 rfl ?_
    refine v_sI (pc := 41) (j := z) dX1_add_41 rfl (by show (σ 3 6).toNat = z; omega) (by show 0 ≤ σ 3 6; omega) (by show σ 3 6 < 6; omega) ?_
    refine v_aload_n (pc := 42) dX1_add_42 rfl ?_
    refine v_gR (pc := 43) dX1_add_43 fl_X1_21 rfl ?_
    refine v_aload_n (pc := 46) dX1_add_46 rfl ?_
    refine v_gI (pc := 47) dX1_add_47 fl_X1_30 rfl ?_
    refine v_iload (pc := 50) dX1_add_50 rfl ?_
    refine v_sI (pc := 52) (j := z) dX1_add_52 rfl (by show (σ 3 6).toNat = z; omega) (by show 0 ≤ σ 3 6; omega) (by show σ 3 6 < 6; omega) ?_
    refine v_aload_n (pc := 53) dX1_add_53 rfl ?_
    refine v_dup (pc := 54) dX1_add_54 rfl ?_
    refine v_gI (pc := 55) dX1_add_55 fl_X1_30 rfl ?_
    refine v_iconst (pc := 58) (1) dX1_add_58 (by decide) ?_
    refine v_iadd (pc := 59) dX1_add_59 ?_
    refine v_pI (pc := 60) dX1_add_60 fl_X1_30 rfl ?_
    refine v_aload_n (pc := 63) dX1_add_63 rfl ?_
    refine v_gI (pc := 64) dX1_add_64 fl_X1_30 rfl ?_
    refine v_iconst (pc := 67) (1) dX1_add_67 (by decide) ?_
    refine v_isub (pc := 68) dX1_add_68 ?_
    refine v_ireturn (pc := 69) dX1_add_69 rfl rfl ⟨Nat.le_refl _, Nat.le_refl _⟩ ?_
    have e1 : vU (vU (vU (vU σ 4 z t) 5 z e) 6 z m) 7 z q 3 6 = z := ez
    rw [vU_same, e1, Int.add_sub_cancel]
    exact hz
  · refine v_bipush (pc := 9) (-4) dX1_add_9 (by decide) ?_
    refine v_ireturn (pc := 11) dX1_add_11 rfl rfl ⟨Nat.le_refl _, Nat.le_refl _⟩ ?_
    exact hF (by omega)
end
section
theorem q_eq {Q : Option Value → List mC → Prop} {w : List mC} {a b : Int} (h : Q (some (vi b)) w) (e : a = b) : Q (some (vi a)) w := e ▸ h
theorem q_eqj {Q : Option Value → List mC → Prop} {w : List mC} {a b : Int} (h : Q (some (vj b)) w) (e : a = b) : Q (some (vj a)) w := e ▸ h
theorem div_le {t m : Int} (h : 0 ≤ t) (h1 : 1 ≤ m) : 0 ≤ t / m ∧ t / m ≤ t := ⟨Int.ediv_nonneg h (by omega), Int.ediv_le_self m h⟩
/-- the reference's rows, under the class' places -/
def mY (σ : vSt) : vSt := fun p => match p with
  | 2 => fun k => σ 38 (14 + k)
  | 3 => fun _ => σ 38 12
  | 4 => σ 39
  | 5 => σ 40
  | 6 => σ 41
  | 7 => σ 42
  | 8 => σ 43
  | 9 => σ 44
  | 10 => fun _ => σ 38 13
  | 11 => σ 45
  | 12 => σ 46
  | 13 => σ 47
  | 14 => σ 48
  | _ => fun _ => 0
def MR (σ : vSt) : Prop := (0 ≤ σ 38 14 ∧ σ 38 14 ≤ 999 ∧ 1 ≤ σ 38 15 ∧ σ 38 15 ≤ 50 ∧ 50 ≤ σ 38 16 ∧ σ 38 16 ≤ 100 ∧ 0 ≤ σ 38 12 ∧ σ 38 12 ≤ 6 ∧ 0 ≤ σ 38 13 ∧ σ 38 13 ≤ 4) ∧
  (∀ j : Nat, 0 ≤ σ 39 j ∧ σ 39 j ≤ 999 ∧ 0 ≤ σ 40 j ∧ σ 40 j ≤ 999 ∧ 0 ≤ σ 41 j ∧ σ 41 j ≤ 99 ∧ 0 ≤ σ 42 j ∧ σ 42 j ≤ 9999 ∧ 0 ≤ σ 43 j ∧ σ 43 j ≤ 99 ∧ 0 ≤ σ 44 j ∧ σ 44 j ≤ 900) ∧
  (∀ j : Nat, 0 ≤ σ 45 j ∧ σ 45 j ≤ 5 ∧ 0 ≤ σ 46 j ∧ σ 46 j ≤ 9 ∧ 0 ≤ σ 47 j ∧ σ 47 j ≤ 600 ∧ 0 ≤ σ 48 j ∧ σ 48 j ≤ 99) ∧
  (∀ j : Nat, (j : Int) < σ 38 13 → σ 45 j < σ 38 12 ∧ 1 ≤ σ 46 j) ∧ ∀ j : Nat, (j : Int) < σ 38 12 → 1 ≤ σ 39 j ∧ 1 ≤ σ 40 j ∧ 1 ≤ σ 41 j ∧ 1 ≤ σ 42 j
theorem MR.y {σ : vSt} (h : MR σ) : YR (mY σ) := h
def yLow (σ : vSt) (k : Nat) : Int := qLow (1000 * σ 5 (σ 11 k).toNat) (σ 13 k).toNat (yMass σ k)
def yHigh (σ : vSt) (k : Nat) : Int := qHigh (1000 * σ 5 (σ 11 k).toNat) (σ 13 k).toNat (yMass σ k - 1)
def yGain (σ : vSt) (what : Int) (k : Nat) : Int := if what = 0 then yLow σ k else yHigh σ k
set_option maxHeartbeats 4000000 in
set_option maxRecDepth 100000 in
theorem c_X9_isIn {g : vGl} {d : Nat} {Q : Option Value → List mC → Prop} {σ : vSt} {a b c : Int} (ha : vq a) (hb : vq b) (hc : vq c) (hQ : Q (some (vi (if b ≤ a ∧ a ≤ c then 1 else 0))) (hp σ)) : V g mX9_isIn d (0, 0, 0, 0) Q 0 [(0, vj a), (2, vj b), (4, vj c)] [] (hp σ) := by
  refine v_lload_n (pc := 0) dX9_isIn_0 rfl ?_
  refine v_lload_n (pc := 1) dX9_isIn_1 rfl ?_
  refine v_lc_lt (pc := 2) 17 dX9_isIn_2 dX9_isIn_3 (by decide) (by omega) (by omega) (fun h2 => ?_) (fun h2 => ?_)
  · refine v_iconst (pc := 17) (0) dX9_isIn_17 (by decide) ?_
    refine v_ireturn (pc := 18) dX9_isIn_18 rfl (vZ (by omega)) ⟨Nat.le_refl _, Nat.le_refl _⟩ ?_
    first | (rw [if_pos (by omega)] at hQ; exact hQ) | (rw [if_neg (by omega)] at hQ; exact hQ)
  · refine v_lload_n (pc := 6) dX9_isIn_6 rfl ?_
    refine v_lload (pc := 7) dX9_isIn_7 rfl ?_
    refine v_lc_gt (pc := 9) 17 dX9_isIn_9 dX9_isIn_10 (by decide) (by omega) (by omega) (fun h9 => ?_) (fun h9 => ?_)
    · refine v_iconst (pc := 17) (0) dX9_isIn_17 (by decide) ?_
      refine v_ireturn (pc := 18) dX9_isIn_18 rfl (vZ (by omega)) ⟨Nat.le_refl _, Nat.le_refl _⟩ ?_
      first | (rw [if_pos (by omega)] at hQ; exact hQ) | (rw [if_neg (by omega)] at hQ; exact hQ)
    · refine v_iconst (pc := 13) (1) dX9_isIn_13 (by decide) ?_
      refine v_goto (pc := 14) 18 dX9_isIn_14 (by decide) ?_
      refine v_ireturn (pc := 18) dX9_isIn_18 rfl (vZ (by omega)) ⟨Nat.le_refl _, Nat.le_refl _⟩ ?_
      first | (rw [if_pos (by omega)] at hQ; exact hQ) | (rw [if_neg (by omega)] at hQ; exact hQ)
set_option maxHeartbeats 4000000 in
set_option maxRecDepth 100000 in
theorem c_X9_isEngine {g : vGl} {d : Nat} {Q : Option Value → List mC → Prop} {σ : vSt} {k : Int} (hk : vr k) (hs : vr (σ 38 12)) (hQ : Q (some (vi (if 0 ≤ k ∧ k < σ 38 12 then 1 else 0))) (hp σ)) : V g mX9_isEngine d (0, 0, 0, 0) Q 0 [(0, .ref 38), (1, vi k)] [] (hp σ) := by
  refine v_iload_n (pc := 0) dX9_isEngine_0 rfl ?_
  refine v_if_lt (pc := 1) 16 dX9_isEngine_1 (by decide) (by omega) (fun h1 => ?_) (fun h1 => ?_)
  · refine v_iconst (pc := 16) (0) dX9_isEngine_16 (by decide) ?_
    refine v_ireturn (pc := 17) dX9_isEngine_17 rfl (vZ (by omega)) ⟨Nat.le_refl _, Nat.le_refl _⟩ ?_
    first | (rw [if_pos (by omega)] at hQ; exact hQ) | (rw [if_neg (by omega)] at hQ; exact hQ)
  · refine v_iload_n (pc := 4) dX9_isEngine_4 rfl ?_
    refine v_aload_n (pc := 5) dX9_isEngine_5 rfl ?_
    refine v_gI (pc := 6) dX9_isEngine_6 fl_X9_107 rfl ?_
    refine v_icmp_ge (pc := 9) 16 dX9_isEngine_9 (by decide) (by omega) (by omega) (fun h9 => ?_) (fun h9 => ?_)
    · refine v_iconst (pc := 16) (0) dX9_isEngine_16 (by decide) ?_
      refine v_ireturn (pc := 17) dX9_isEngine_17 rfl (vZ (by omega)) ⟨Nat.le_refl _, Nat.le_refl _⟩ ?_
      first | (rw [if_pos (by omega)] at hQ; exact hQ) | (rw [if_neg (by omega)] at hQ; exact hQ)
    · refine v_iconst (pc := 12) (1) dX9_isEngine_12 (by decide) ?_
      refine v_goto (pc := 13) 17 dX9_isEngine_13 (by decide) ?_
      refine v_ireturn (pc := 17) dX9_isEngine_17 rfl (vZ (by omega)) ⟨Nat.le_refl _, Nat.le_refl _⟩ ?_
      first | (rw [if_pos (by omega)] at hQ; exact hQ) | (rw [if_neg (by omega)] at hQ; exact hQ)
set_option maxHeartbeats 4000000 in
set_option maxRecDepth 100000 in
theorem c_X9_isStage {g : vGl} {d : Nat} {Q : Option Value → List mC → Prop} {σ : vSt} {k : Int} (hk : vr k) (hs : vr (σ 38 13)) (hQ : Q (some (vi (if 0 ≤ k ∧ k < σ 38 13 then 1 else 0))) (hp σ)) : V g mX9_isStage d (0, 0, 0, 0) Q 0 [(0, .ref 38), (1, vi k)] [] (hp σ) := by
  refine v_iload_n (pc := 0) dX9_isStage_0 rfl ?_
  refine v_if_lt (pc := 1) 16 dX9_isStage_1 (by decide) (by omega) (fun h1 => ?_) (fun h1 => ?_)
  · refine v_iconst (pc := 16) (0) dX9_isStage_16 (by decide) ?_
    refine v_ireturn (pc := 17) dX9_isStage_17 rfl (vZ (by omega)) ⟨Nat.le_refl _, Nat.le_refl _⟩ ?_
    first | (rw [if_pos (by omega)] at hQ; exact hQ) | (rw [if_neg (by omega)] at hQ; exact hQ)
  · refine v_iload_n (pc := 4) dX9_isStage_4 rfl ?_
    refine v_aload_n (pc := 5) dX9_isStage_5 rfl ?_
    refine v_gI (pc := 6) dX9_isStage_6 fl_X9_110 rfl ?_
    refine v_icmp_ge (pc := 9) 16 dX9_isStage_9 (by decide) (by omega) (by omega) (fun h9 => ?_) (fun h9 => ?_)
    · refine v_iconst (pc := 16) (0) dX9_isStage_16 (by decide) ?_
      refine v_ireturn (pc := 17) dX9_isStage_17 rfl (vZ (by omega)) ⟨Nat.le_refl _, Nat.le_refl _⟩ ?_
      first | (rw [if_pos (by omega)] at hQ; exact hQ) | (rw [if_neg (by omega)] at hQ; exact hQ)
    · refine v_iconst (pc := 12) (1) dX9_isStage_12 (by decide) ?_
      refine v_goto (pc := 13) 17 dX9_isStage_13 (by decide) ?_
      refine v_ireturn (pc := 17) dX9_isStage_17 rfl (vZ (by omega)) ⟨Nat.le_refl _, Nat.le_refl _⟩ ?_
      first | (rw [if_pos (by omega)] at hQ; exact hQ) | (rw [if_neg (by omega)] at hQ; exact hQ)
set_option maxHeartbeats 4000000 in
set_option maxRecDepth 100000 in
theorem c_X9_tank {g : vGl} {d : Nat} {Q : Option Value → List mC → Prop} {σ : vSt} {z : Int} (hz : 0 ≤ z ∧ z ≤ 100000) (hs : 0 ≤ σ 38 15 ∧ σ 38 15 ≤ 100) (hQ : Q (some (vi (yTank (mY σ) z))) (hp σ)) : V g mX9_tank d (0, 0, 0, 0) Q 0 [(0, .ref 38), (1, vi z)] [] (hp σ) := by
  have h1 := mul_le hz.1 hz.2 hs.1 hs.2
  refine v_iload_n (pc := 0) dX9_tank_0 rfl ?_
  refine v_aload_n (pc := 1) dX9_tank_1 rfl ?_
  refine v_gI (pc := 2) dX9_tank_2 fl_X9_50 rfl ?_
  refine v_imul (pc := 5) dX9_tank_5 ?_
  refine v_bipush (pc := 6) (99) dX9_tank_6 (by decide) ?_
  refine v_iadd (pc := 8) dX9_tank_8 ?_
  refine v_bipush (pc := 9) (100) dX9_tank_9 (by decide) ?_
  refine v_idiv (pc := 11) dX9_tank_11 (by omega) (by omega) (by omega) ?_
  refine v_ireturn (pc := 12) dX9_tank_12 rfl rfl ⟨Nat.le_refl _, Nat.le_refl _⟩ ?_
  rw [tdiv_pos (by omega)]; exact hQ
set_option maxHeartbeats 4000000 in
set_option maxRecDepth 100000 in
theorem c_X9_dry {g : vGl} {d : Nat} {Q : Option Value → List mC → Prop} {σ : vSt} {x : Int} {k : Nat} (hd : 1 ≤ d) (hR : MR σ) (hx : x = k) (hk : (k : Int) < σ 38 13) (hQ : Q (some (vi (yDry (mY σ) k))) (hp σ)) : V g mX9_dry d (0, 0, 0, 0) Q 0 [(0, .ref 38), (1, vi x)] [] (hp σ) := by
  obtain ⟨⟨r0, r1, r2, r3, r4, r5, r6, r7, r8, r9⟩, rE, rS, rT, rF⟩ := id hR
  have s1 := rS k
  have s2 := rE (σ 45 k).toNat
  refine v_aload_n (pc := 0) dX9_dry_0 rfl ?_
  refine v_gR (pc := 1) dX9_dry_1 fl_X9_16 rfl ?_
  refine v_aload_n (pc := 4) dX9_dry_4 rfl ?_
  refine v_gR (pc := 5) dX9_dry_5 fl_X9_28 rfl ?_
  refine v_iload_n (pc := 8) dX9_dry_8 rfl ?_
  refine v_aI (pc := 9) (j := k) dX9_dry_9 rfl (by omega) (by omega) (by omega) ?_
  refine v_aI (pc := 10) (j := (σ 45 k).toNat) dX9_dry_10 rfl rfl (by omega) (by omega) ?_
  refine v_aload_n (pc := 11) dX9_dry_11 rfl ?_
  refine v_gR (pc := 12) dX9_dry_12 fl_X9_31 rfl ?_
  refine v_iload_n (pc := 15) dX9_dry_15 rfl ?_
  refine v_aI (pc := 16) (j := k) dX9_dry_16 rfl (by omega) (by omega) (by omega) ?_
  refine v_imul (pc := 17) dX9_dry_17 ?_
  refine v_aload_n (pc := 18) dX9_dry_18 rfl ?_
  refine v_aload_n (pc := 19) dX9_dry_19 rfl ?_
  refine v_gR (pc := 20) dX9_dry_20 fl_X9_34 rfl ?_
  refine v_iload_n (pc := 23) dX9_dry_23 rfl ?_
  refine v_aI (pc := 24) (j := k) dX9_dry_24 rfl (by omega) (by omega) (by omega) ?_
  refine v_cVi1 (pc := 25) (z := 0) (d' := d - 1) dX9_dry_25 kX9_tank ml_X9_140 iwX9_tank swX9_tank rfl rfl (Nat.le_of_ble_eq_true rfl) (Nat.le_of_ble_eq_true rfl) (by omega) ⟨Nat.le_refl _, Nat.le_refl _⟩ ?_
  refine c_X9_tank (by omega) (by omega) ?_
  refine ⟨_, rfl, ?_⟩
  refine v_iadd (pc := 28) dX9_dry_28 ?_
  refine v_aload_n (pc := 29) dX9_dry_29 rfl ?_
  refine v_gR (pc := 30) dX9_dry_30 fl_X9_37 rfl ?_
  refine v_iload_n (pc := 33) dX9_dry_33 rfl ?_
  refine v_aI (pc := 34) (j := k) dX9_dry_34 rfl (by omega) (by omega) (by omega) ?_
  refine v_iadd (pc := 35) dX9_dry_35 ?_
  refine v_ireturn (pc := 36) dX9_dry_36 rfl rfl ⟨Nat.le_refl _, Nat.le_refl _⟩ ?_
  refine q_eq hQ ?_
  show σ 41 (σ 45 k).toNat * σ 46 k + yTank (mY σ) (σ 47 k) + σ 48 k = σ 46 k * σ 41 (σ 45 k).toNat + σ 48 k + yTank (mY σ) (σ 47 k)
  rw [Int.mul_comm (σ 41 (σ 45 k).toNat)]
  omega
set_option maxHeartbeats 4000000 in
set_option maxRecDepth 100000 in
theorem l_X9_above {g : vGl} {d : Nat} {Q : Option Value → List mC → Prop} {σ : vSt} (hd : 2 ≤ d) (hR : MR σ) : ∀ (n : Nat) (j : Nat) (x s : Int) (hx : x = j) (hn : (j : Int) + n = σ 38 13) (hQ : Q (some (vi (s + qSum (fun j => qDry (mY σ 2 1) (mY σ 6) (mY σ 11) (mY σ 12) (mY σ 13) (mY σ 14) j + mY σ 13 j) n j))) (hp σ)), V g mX9_above d (0, 0, 0, 0) Q 9 [(0, .ref 38), (2, vi s), (3, vi x)] [] (hp σ) := by
  intro n
  induction n with
  | zero =>
    intro j x s hx hn hQ
    obtain ⟨⟨r0, r1, r2, r3, r4, r5, r6, r7, r8, r9⟩, rE, rS, rT, rF⟩ := id hR
    refine v_iload_n (pc := 9) dX9_above_9 rfl ?_
    refine v_aload_n (pc := 10) dX9_above_10 rfl ?_
    refine v_gI (pc := 11) dX9_above_11 fl_X9_110 rfl ?_
    refine v_icmp_ge (pc := 14) 38 dX9_above_14 (by decide) (by omega) (by omega) (fun h14 => ?_) (fun h14 => by exfalso; omega)
    refine v_iload_n (pc := 38) dX9_above_38 rfl ?_
    refine v_ireturn (pc := 39) dX9_above_39 rfl rfl ⟨Nat.le_refl _, Nat.le_refl _⟩ ?_
    simpa [qSum] using hQ
  | succ n ih =>
    intro j x s hx hn hQ
    obtain ⟨⟨r0, r1, r2, r3, r4, r5, r6, r7, r8, r9⟩, rE, rS, rT, rF⟩ := id hR
    have s1 := rS j
    refine v_iload_n (pc := 9) dX9_above_9 rfl ?_
    refine v_aload_n (pc := 10) dX9_above_10 rfl ?_
    refine v_gI (pc := 11) dX9_above_11 fl_X9_110 rfl ?_
    refine v_icmp_ge (pc := 14) 38 dX9_above_14 (by decide) (by omega) (by omega) (fun h14 => by exfalso; omega) (fun h14 => ?_)
    refine v_iload_n (pc := 17) dX9_above_17 rfl ?_
    refine v_aload_n (pc := 18) dX9_above_18 rfl ?_
    refine v_iload_n (pc := 19) dX9_above_19 rfl ?_
    refine v_cVi1 (pc := 20) (z := 0) (d' := d - 1) dX9_above_20 kX9_dry ml_X9_144 iwX9_dry swX9_dry rfl rfl (Nat.le_of_ble_eq_true rfl) (Nat.le_of_ble_eq_true rfl) (by omega) ⟨Nat.le_refl _, Nat.le_refl _⟩ ?_
    refine c_X9_dry (k := j) (by omega) hR (by omega) (by omega) ?_
    refine ⟨_, rfl, ?_⟩
    refine v_aload_n (pc := 23) dX9_above_23 rfl ?_
    refine v_gR (pc := 24) dX9_above_24 fl_X9_34 rfl ?_
    refine v_iload_n (pc := 27) dX9_above_27 rfl ?_
    refine v_aI (pc := 28) (j := j) dX9_above_28 rfl (by omega) (by omega) (by omega) ?_
    refine v_iadd (pc := 29) dX9_above_29 ?_
    refine v_iadd (pc := 30) dX9_above_30 ?_
    refine v_istore_n (pc := 31) dX9_above_31 (by decide) ?_
    refine v_iinc (pc := 32) (1) dX9_above_32 rfl (by decide) (by decide) ?_
    refine v_goto (pc := 35) 9 dX9_above_35 (by decide) ?_
    refine v_lv (ih (j + 1) (x + 1) _ (by omega) (by omega) ?_) ⟨rfl, rfl, rfl, trivial⟩
    rw [show s + qSum (fun j => qDry (mY σ 2 1) (mY σ 6) (mY σ 11) (mY σ 12) (mY σ 13) (mY σ 14) j + mY σ 13 j) (n + 1) j = s + ((fun j => qDry (mY σ 2 1) (mY σ 6) (mY σ 11) (mY σ 12) (mY σ 13) (mY σ 14) j + mY σ 13 j) j + qSum (fun j => qDry (mY σ 2 1) (mY σ 6) (mY σ 11) (mY σ 12) (mY σ 13) (mY σ 14) j + mY σ 13 j) n (j + 1)) from rfl, ← Int.add_assoc] at hQ
    exact hQ
set_option maxHeartbeats 4000000 in
set_option maxRecDepth 100000 in
theorem c_X9_above {g : vGl} {d : Nat} {Q : Option Value → List mC → Prop} {σ : vSt} {x : Int} {k : Nat} (hd : 2 ≤ d) (hR : MR σ) (hx : x = k) (hk : (k : Int) < σ 38 13) (hQ : Q (some (vi (yMass (mY σ) (k + 1)))) (hp σ)) : V g mX9_above d (0, 0, 0, 0) Q 0 [(0, .ref 38), (1, vi x)] [] (hp σ) := by
  obtain ⟨⟨r0, r1, r2, r3, r4, r5, r6, r7, r8, r9⟩, rE, rS, rT, rF⟩ := id hR
  refine v_aload_n (pc := 0) dX9_above_0 rfl ?_
  refine v_gI (pc := 1) dX9_above_1 fl_X9_46 rfl ?_
  refine v_istore_n (pc := 4) dX9_above_4 (by decide) ?_
  refine v_iload_n (pc := 5) dX9_above_5 rfl ?_
  refine v_iconst (pc := 6) (1) dX9_above_6 (by decide) ?_
  refine v_iadd (pc := 7) dX9_above_7 ?_
  refine v_istore_n (pc := 8) dX9_above_8 (by decide) ?_
  refine v_lv (l_X9_above hd hR ((σ 38 13).toNat - (k + 1)) (k + 1) (x + 1) (σ 38 14) (by omega) (by omega) hQ) ⟨rfl, rfl, rfl, trivial⟩
set_option maxHeartbeats 4000000 in
set_option maxRecDepth 100000 in
theorem c_X9_ahead {g : vGl} {d : Nat} {Q : Option Value → List mC → Prop} {σ : vSt} {x : Int} {k : Nat} (hd : 3 ≤ d) (hR : MR σ) (hx : x = k) (hk : (k : Int) < σ 38 13) (hQ : Q (some (vi (yMass (mY σ) k))) (hp σ)) : V g mX9_ahead d (0, 0, 0, 0) Q 0 [(0, .ref 38), (1, vi x)] [] (hp σ) := by
  obtain ⟨⟨r0, r1, r2, r3, r4, r5, r6, r7, r8, r9⟩, rE, rS, rT, rF⟩ := id hR
  have s1 := rS k
  have s2 := rE (σ 45 k).toNat
  refine v_aload_n (pc := 0) dX9_ahead_0 rfl ?_
  refine v_iload_n (pc := 1) dX9_ahead_1 rfl ?_
  refine v_cVi1 (pc := 2) (z := 0) (d' := d - 1) dX9_ahead_2 kX9_above ml_X9_147 iwX9_above swX9_above rfl rfl (Nat.le_of_ble_eq_true rfl) (Nat.le_of_ble_eq_true rfl) (by omega) ⟨Nat.le_refl _, Nat.le_refl _⟩ ?_
  refine c_X9_above (k := k) (by omega) hR (by omega) (by omega) ?_
  refine ⟨_, rfl, ?_⟩
  refine v_aload_n (pc := 5) dX9_ahead_5 rfl ?_
  refine v_iload_n (pc := 6) dX9_ahead_6 rfl ?_
  refine v_cVi1 (pc := 7) (z := 0) (d' := d - 1) dX9_ahead_7 kX9_dry ml_X9_144 iwX9_dry swX9_dry rfl rfl (Nat.le_of_ble_eq_true rfl) (Nat.le_of_ble_eq_true rfl) (by omega) ⟨Nat.le_refl _, Nat.le_refl _⟩ ?_
  refine c_X9_dry (k := k) (by omega) hR (by omega) (by omega) ?_
  refine ⟨_, rfl, ?_⟩
  refine v_iadd (pc := 10) dX9_ahead_10 ?_
  refine v_aload_n (pc := 11) dX9_ahead_11 rfl ?_
  refine v_gR (pc := 12) dX9_ahead_12 fl_X9_34 rfl ?_
  refine v_iload_n (pc := 15) dX9_ahead_15 rfl ?_
  refine v_aI (pc := 16) (j := k) dX9_ahead_16 rfl (by omega) (by omega) (by omega) ?_
  refine v_iadd (pc := 17) dX9_ahead_17 ?_
  refine v_ireturn (pc := 18) dX9_ahead_18 rfl rfl ⟨Nat.le_refl _, Nat.le_refl _⟩ ?_
  refine q_eq hQ ?_
  rw [YR.massS (σ := mY σ) hk]
  show yMass (mY σ) (k + 1) + yDry (mY σ) k + σ 47 k = yDry (mY σ) k + σ 47 k + yMass (mY σ) (k + 1)
  omega
set_option maxHeartbeats 4000000 in
set_option maxRecDepth 100000 in
theorem l_X9_low {g : vGl} {d : Nat} {Q : Option Value → List mC → Prop} {σ : vSt} {ex m bu : Int} (he : 0 ≤ ex ∧ ex ≤ 999) (hm : m ≤ 100000) (hbu : bu ≤ 100000) : ∀ (n : Nat) (b s : Int) (hb : b + n = bu) (hb0 : -1 ≤ b) (hm1 : 1 ≤ m - bu) (hQ : Q (some (vj (s + qLow (ex * 1000) n (m - b)))) (hp σ)), V g mX9_low d (0, 0, 0, 0) Q 5 [(0, vi ex), (1, vi m), (2, vi bu), (3, vj s), (5, vi b)] [] (hp σ) := by
  intro n
  induction n with
  | zero =>
    intro b s hb hb0 hm1 hQ
    refine v_iload (pc := 5) dX9_low_5 rfl ?_
    refine v_iload_n (pc := 7) dX9_low_7 rfl ?_
    refine v_icmp_ge (pc := 8) 31 dX9_low_8 (by decide) (by omega) (by omega) (fun h8 => ?_) (fun h8 => by exfalso; omega)
    refine v_lload_n (pc := 31) dX9_low_31 rfl ?_
    refine v_lreturn (pc := 32) dX9_low_32 rfl ⟨Nat.le_refl _, Nat.le_refl _⟩ ?_
    simpa [qLow] using hQ
  | succ n ih =>
    intro b s hb hb0 hm1 hQ
    have t1 := div_le (t := ex * 1000) (m := m - b) (by omega) (by omega)
    refine v_iload (pc := 5) dX9_low_5 rfl ?_
    refine v_iload_n (pc := 7) dX9_low_7 rfl ?_
    refine v_icmp_ge (pc := 8) 31 dX9_low_8 (by decide) (by omega) (by omega) (fun h8 => by exfalso; omega) (fun h8 => ?_)
    refine v_lload_n (pc := 11) dX9_low_11 rfl ?_
    refine v_iload_n (pc := 12) dX9_low_12 rfl ?_
    refine v_sipush (pc := 13) (1000) dX9_low_13 (by decide) ?_
    refine v_imul (pc := 16) dX9_low_16 ?_
    refine v_iload_n (pc := 17) dX9_low_17 rfl ?_
    refine v_iload (pc := 18) dX9_low_18 rfl ?_
    refine v_isub (pc := 20) dX9_low_20 ?_
    refine v_idiv (pc := 21) dX9_low_21 (by omega) (by omega) (by omega) ?_
    refine v_i2l (pc := 22) dX9_low_22 (by rw [tdiv_pos (by omega)]; omega) ?_
    refine v_ladd (pc := 23) dX9_low_23 ?_
    refine v_lstore_n (pc := 24) dX9_low_24 (by decide) ?_
    refine v_iinc (pc := 25) (1) dX9_low_25 rfl (by decide) (by decide) ?_
    refine v_goto (pc := 28) 5 dX9_low_28 (by decide) ?_
    refine v_lv (ih (b + 1) _ (by omega) (by omega) hm1 ?_) ⟨rfl, rfl, rfl, rfl, rfl, trivial⟩
    rw [show s + qLow (ex * 1000) (n + 1) (m - b) = s + (ex * 1000 / (m - b) + qLow (ex * 1000) n (m - b - 1)) from rfl, ← Int.add_assoc] at hQ
    rw [tdiv_pos (by omega), show m - (b + 1) = m - b - 1 by omega]
    exact hQ
set_option maxHeartbeats 4000000 in
set_option maxRecDepth 100000 in
theorem c_X9_low {g : vGl} {d : Nat} {Q : Option Value → List mC → Prop} {σ : vSt} {ex m bu : Int} (he : 0 ≤ ex ∧ ex ≤ 999) (hm : m ≤ 100000) (hbu : 0 ≤ bu ∧ bu ≤ 100000) (hm1 : 1 ≤ m - bu) (hQ : Q (some (vj (qLow (1000 * ex) bu.toNat m))) (hp σ)) : V g mX9_low d (0, 0, 0, 0) Q 0 [(0, vi ex), (1, vi m), (2, vi bu)] [] (hp σ) := by
  refine v_lconst (pc := 0) (0) dX9_low_0 (by decide) ?_
  refine v_lstore_n (pc := 1) dX9_low_1 (by decide) ?_
  refine v_iconst (pc := 2) (0) dX9_low_2 (by decide) ?_
  refine v_istore (pc := 3) dX9_low_3 (by decide) ?_
  refine v_lv (l_X9_low he hm hbu.2 bu.toNat 0 0 (by omega) (by omega) hm1 ?_) ⟨rfl, rfl, rfl, rfl, rfl, trivial⟩
  rw [Int.zero_add, Int.sub_zero, Int.mul_comm]; exact hQ
set_option maxHeartbeats 4000000 in
set_option maxRecDepth 100000 in
theorem l_X9_high {g : vGl} {d : Nat} {Q : Option Value → List mC → Prop} {σ : vSt} {ex m bu : Int} (he : 0 ≤ ex ∧ ex ≤ 999) (hm : m ≤ 100000) (hbu : bu ≤ 100000) : ∀ (n : Nat) (b s : Int) (hb : b + n = bu) (hb0 : -1 ≤ b) (hm1 : 1 ≤ m - bu) (hQ : Q (some (vj (s + qHigh (ex * 1000) n (m - b - 1)))) (hp σ)), V g mX9_high d (0, 0, 0, 0) Q 5 [(0, vi ex), (1, vi m), (2, vi bu), (3, vj s), (5, vi b)] [] (hp σ) := by
  intro n
  induction n with
  | zero =>
    intro b s hb hb0 hm1 hQ
    refine v_iload (pc := 5) dX9_high_5 rfl ?_
    refine v_iload_n (pc := 7) dX9_high_7 rfl ?_
    refine v_icmp_ge (pc := 8) 40 dX9_high_8 (by decide) (by omega) (by omega) (fun h8 => ?_) (fun h8 => by exfalso; omega)
    refine v_lload_n (pc := 40) dX9_high_40 rfl ?_
    refine v_lreturn (pc := 41) dX9_high_41 rfl ⟨Nat.le_refl _, Nat.le_refl _⟩ ?_
    simpa [qHigh] using hQ
  | succ n ih =>
    intro b s hb hb0 hm1 hQ
    have t1 := div_le (t := ex * 1000 + m - b - 2) (m := m - b - 1) (by omega) (by omega)
    refine v_iload (pc := 5) dX9_high_5 rfl ?_
    refine v_iload_n (pc := 7) dX9_high_7 rfl ?_
    refine v_icmp_ge (pc := 8) 40 dX9_high_8 (by decide) (by omega) (by omega) (fun h8 => by exfalso; omega) (fun h8 => ?_)
    refine v_lload_n (pc := 11) dX9_high_11 rfl ?_
    refine v_iload_n (pc := 12) dX9_high_12 rfl ?_
    refine v_sipush (pc := 13) (1000) dX9_high_13 (by decide) ?_
    refine v_imul (pc := 16) dX9_high_16 ?_
    refine v_iload_n (pc := 17) dX9_high_17 rfl ?_
    refine v_iadd (pc := 18) dX9_high_18 ?_
    refine v_iload (pc := 19) dX9_high_19 rfl ?_
    refine v_isub (pc := 21) dX9_high_21 ?_
    refine v_iconst (pc := 22) (2) dX9_high_22 (by decide) ?_
    refine v_isub (pc := 23) dX9_high_23 ?_
    refine v_iload_n (pc := 24) dX9_high_24 rfl ?_
    refine v_iload (pc := 25) dX9_high_25 rfl ?_
    refine v_isub (pc := 27) dX9_high_27 ?_
    refine v_iconst (pc := 28) (1) dX9_high_28 (by decide) ?_
    refine v_isub (pc := 29) dX9_high_29 ?_
    refine v_idiv (pc := 30) dX9_high_30 (by omega) (by omega) (by omega) ?_
    refine v_i2l (pc := 31) dX9_high_31 (by rw [tdiv_pos (by omega)]; omega) ?_
    refine v_ladd (pc := 32) dX9_high_32 ?_
    refine v_lstore_n (pc := 33) dX9_high_33 (by decide) ?_
    refine v_iinc (pc := 34) (1) dX9_high_34 rfl (by decide) (by decide) ?_
    refine v_goto (pc := 37) 5 dX9_high_37 (by decide) ?_
    refine v_lv (ih (b + 1) _ (by omega) (by omega) hm1 ?_) ⟨rfl, rfl, rfl, rfl, rfl, trivial⟩
    rw [show s + qHigh (ex * 1000) (n + 1) (m - b - 1) = s + ((ex * 1000 + (m - b - 1) - 1) / (m - b - 1) + qHigh (ex * 1000) n (m - b - 1 - 1)) from rfl, ← Int.add_assoc] at hQ
    rw [tdiv_pos (by omega), show m - (b + 1) - 1 = m - b - 1 - 1 by omega, show ex * 1000 + m - b - 2 = ex * 1000 + (m - b - 1) - 1 by omega]
    exact hQ
set_option maxHeartbeats 4000000 in
set_option maxRecDepth 100000 in
theorem c_X9_high {g : vGl} {d : Nat} {Q : Option Value → List mC → Prop} {σ : vSt} {ex m bu : Int} (he : 0 ≤ ex ∧ ex ≤ 999) (hm : m ≤ 100000) (hbu : 0 ≤ bu ∧ bu ≤ 100000) (hm1 : 1 ≤ m - bu) (hQ : Q (some (vj (qHigh (1000 * ex) bu.toNat (m - 1)))) (hp σ)) : V g mX9_high d (0, 0, 0, 0) Q 0 [(0, vi ex), (1, vi m), (2, vi bu)] [] (hp σ) := by
  refine v_lconst (pc := 0) (0) dX9_high_0 (by decide) ?_
  refine v_lstore_n (pc := 1) dX9_high_1 (by decide) ?_
  refine v_iconst (pc := 2) (0) dX9_high_2 (by decide) ?_
  refine v_istore (pc := 3) dX9_high_3 (by decide) ?_
  refine v_lv (l_X9_high he hm hbu.2 bu.toNat 0 0 (by omega) (by omega) hm1 ?_) ⟨rfl, rfl, rfl, rfl, rfl, trivial⟩
  rw [Int.zero_add, Int.sub_zero, Int.mul_comm]; exact hQ
set_option maxHeartbeats 4000000 in
set_option maxRecDepth 100000 in
theorem c_X9_speedOf {g : vGl} {d : Nat} {Q : Option Value → List mC → Prop} {σ : vSt} {x : Int} {k : Nat} (hd : 4 ≤ d) (hR : MR σ) (hx : x = k) (hk : (k : Int) < σ 38 13) {wh : Int} (hw : vr wh) (hQ : Q (some (vj (yGain (mY σ) wh k))) (hp σ)) : V g mX9_speedOf d (0, 0, 0, 0) Q 0 [(0, .ref 38), (1, vi x), (2, vi wh)] [] (hp σ) := by
  obtain ⟨⟨r0, r1, r2, r3, r4, r5, r6, r7, r8, r9⟩, rE, rS, rT, rF⟩ := id hR
  have s1 := rS k
  have s2 := rE (σ 45 k).toNat
  have s3 := hR.y.mass1 (k := k) hk
  have s4 := hR.y.mass k
  have e3 : mY σ 13 k = σ 47 k := rfl
  refine v_iload_n (pc := 0) dX9_speedOf_0 rfl ?_
  refine v_if_ne (pc := 1) 32 dX9_speedOf_1 (by decide) (by omega) (fun h1 => ?_) (fun h1 => ?_)
  · refine v_aload_n (pc := 32) dX9_speedOf_32 rfl ?_
    refine v_gR (pc := 33) dX9_speedOf_33 fl_X9_13 rfl ?_
    refine v_aload_n (pc := 36) dX9_speedOf_36 rfl ?_
    refine v_gR (pc := 37) dX9_speedOf_37 fl_X9_28 rfl ?_
    refine v_iload_n (pc := 40) dX9_speedOf_40 rfl ?_
    refine v_aI (pc := 41) (j := k) dX9_speedOf_41 rfl (by omega) (by omega) (by omega) ?_
    refine v_aI (pc := 42) (j := (σ 45 k).toNat) dX9_speedOf_42 rfl rfl (by omega) (by omega) ?_
    refine v_aload_n (pc := 43) dX9_speedOf_43 rfl ?_
    refine v_iload_n (pc := 44) dX9_speedOf_44 rfl ?_
    refine v_cVi1 (pc := 45) (z := 0) (d' := d - 1) dX9_speedOf_45 kX9_ahead ml_X9_150 iwX9_ahead swX9_ahead rfl rfl (Nat.le_of_ble_eq_true rfl) (Nat.le_of_ble_eq_true rfl) (by omega) ⟨Nat.le_refl _, Nat.le_refl _⟩ ?_
    refine c_X9_ahead (k := k) (by omega) hR (by omega) (by omega) ?_
    refine ⟨_, rfl, ?_⟩
    refine v_aload_n (pc := 48) dX9_speedOf_48 rfl ?_
    refine v_gR (pc := 49) dX9_speedOf_49 fl_X9_34 rfl ?_
    refine v_iload_n (pc := 52) dX9_speedOf_52 rfl ?_
    refine v_aI (pc := 53) (j := k) dX9_speedOf_53 rfl (by omega) (by omega) (by omega) ?_
    refine v_cSl3 (pc := 54) (d' := d - 1) dX9_speedOf_54 kX9_high ml_X9_157 stX9_high (Nat.le_of_ble_eq_true rfl) (Nat.le_of_ble_eq_true rfl) (by omega) ⟨Nat.le_refl _, Nat.le_refl _⟩ ?_
    refine c_X9_high (by omega) (by omega) (by omega) (by omega) ?_
    refine ⟨_, rfl, ?_⟩
    refine v_lreturn (pc := 57) dX9_speedOf_57 rfl ⟨Nat.le_refl _, Nat.le_refl _⟩ ?_
    first | (rw [yGain, if_pos (by omega)] at hQ; exact hQ) | (rw [yGain, if_neg (by omega)] at hQ; exact hQ)
  · refine v_aload_n (pc := 4) dX9_speedOf_4 rfl ?_
    refine v_gR (pc := 5) dX9_speedOf_5 fl_X9_13 rfl ?_
    refine v_aload_n (pc := 8) dX9_speedOf_8 rfl ?_
    refine v_gR (pc := 9) dX9_speedOf_9 fl_X9_28 rfl ?_
    refine v_iload_n (pc := 12) dX9_speedOf_12 rfl ?_
    refine v_aI (pc := 13) (j := k) dX9_speedOf_13 rfl (by omega) (by omega) (by omega) ?_
    refine v_aI (pc := 14) (j := (σ 45 k).toNat) dX9_speedOf_14 rfl rfl (by omega) (by omega) ?_
    refine v_aload_n (pc := 15) dX9_speedOf_15 rfl ?_
    refine v_iload_n (pc := 16) dX9_speedOf_16 rfl ?_
    refine v_cVi1 (pc := 17) (z := 0) (d' := d - 1) dX9_speedOf_17 kX9_ahead ml_X9_150 iwX9_ahead swX9_ahead rfl rfl (Nat.le_of_ble_eq_true rfl) (Nat.le_of_ble_eq_true rfl) (by omega) ⟨Nat.le_refl _, Nat.le_refl _⟩ ?_
    refine c_X9_ahead (k := k) (by omega) hR (by omega) (by omega) ?_
    refine ⟨_, rfl, ?_⟩
    refine v_aload_n (pc := 20) dX9_speedOf_20 rfl ?_
    refine v_gR (pc := 21) dX9_speedOf_21 fl_X9_34 rfl ?_
    refine v_iload_n (pc := 24) dX9_speedOf_24 rfl ?_
    refine v_aI (pc := 25) (j := k) dX9_speedOf_25 rfl (by omega) (by omega) (by omega) ?_
    refine v_cSl3 (pc := 26) (d' := d - 1) dX9_speedOf_26 kX9_low ml_X9_153 stX9_low (Nat.le_of_ble_eq_true rfl) (Nat.le_of_ble_eq_true rfl) (by omega) ⟨Nat.le_refl _, Nat.le_refl _⟩ ?_
    refine c_X9_low (by omega) (by omega) (by omega) (by omega) ?_
    refine ⟨_, rfl, ?_⟩
    refine v_goto (pc := 29) 57 dX9_speedOf_29 (by decide) ?_
    refine v_lreturn (pc := 57) dX9_speedOf_57 rfl ⟨Nat.le_refl _, Nat.le_refl _⟩ ?_
    first | (rw [yGain, if_pos (by omega)] at hQ; exact hQ) | (rw [yGain, if_neg (by omega)] at hQ; exact hQ)
set_option maxHeartbeats 4000000 in
set_option maxRecDepth 100000 in
theorem l_X9_speedOfAll {g : vGl} {d : Nat} {Q : Option Value → List mC → Prop} {σ : vSt} {wh : Int} (hd : 5 ≤ d) (hR : MR σ) (hw : vr wh) : ∀ (n : Nat) (j : Nat) (x s : Int) (hx : x = j) (hn : (j : Int) + n = σ 38 13) (hQ : Q (some (vj (s + qSum (yGain (mY σ) wh) n j))) (hp σ)), V g mX9_speedOfAll d (0, 0, 0, 0) Q 5 [(0, .ref 38), (1, vi wh), (2, vj s), (4, vi x)] [] (hp σ) := by
  intro n
  induction n with
  | zero =>
    intro j x s hx hn hQ
    obtain ⟨⟨r0, r1, r2, r3, r4, r5, r6, r7, r8, r9⟩, rE, rS, rT, rF⟩ := id hR
    refine v_iload (pc := 5) dX9_speedOfAll_5 rfl ?_
    refine v_aload_n (pc := 7) dX9_speedOfAll_7 rfl ?_
    refine v_gI (pc := 8) dX9_speedOfAll_8 fl_X9_110 rfl ?_
    refine v_icmp_ge (pc := 11) 30 dX9_speedOfAll_11 (by decide) (by omega) (by omega) (fun h11 => ?_) (fun h11 => by exfalso; omega)
    refine v_lload_n (pc := 30) dX9_speedOfAll_30 rfl ?_
    refine v_lreturn (pc := 31) dX9_speedOfAll_31 rfl ⟨Nat.le_refl _, Nat.le_refl _⟩ ?_
    simpa [qSum] using hQ
  | succ n ih =>
    intro j x s hx hn hQ
    obtain ⟨⟨r0, r1, r2, r3, r4, r5, r6, r7, r8, r9⟩, rE, rS, rT, rF⟩ := id hR
    refine v_iload (pc := 5) dX9_speedOfAll_5 rfl ?_
    refine v_aload_n (pc := 7) dX9_speedOfAll_7 rfl ?_
    refine v_gI (pc := 8) dX9_speedOfAll_8 fl_X9_110 rfl ?_
    refine v_icmp_ge (pc := 11) 30 dX9_speedOfAll_11 (by decide) (by omega) (by omega) (fun h11 => by exfalso; omega) (fun h11 => ?_)
    refine v_lload_n (pc := 14) dX9_speedOfAll_14 rfl ?_
    refine v_aload_n (pc := 15) dX9_speedOfAll_15 rfl ?_
    refine v_iload (pc := 16) dX9_speedOfAll_16 rfl ?_
    refine v_iload_n (pc := 18) dX9_speedOfAll_18 rfl ?_
    refine v_cVl2 (pc := 19) (z := 0) (d' := d - 1) dX9_speedOfAll_19 kX9_speedOf ml_X9_160 iwX9_speedOf swX9_speedOf rfl rfl (Nat.le_of_ble_eq_true rfl) (Nat.le_of_ble_eq_true rfl) (by omega) ⟨Nat.le_refl _, Nat.le_refl _⟩ ?_
    refine c_X9_speedOf (k := j) (by omega) hR (by omega) (by omega) hw ?_
    refine ⟨_, rfl, ?_⟩
    refine v_ladd (pc := 22) dX9_speedOfAll_22 ?_
    refine v_lstore_n (pc := 23) dX9_speedOfAll_23 (by decide) ?_
    refine v_iinc (pc := 24) (1) dX9_speedOfAll_24 rfl (by decide) (by decide) ?_
    refine v_goto (pc := 27) 5 dX9_speedOfAll_27 (by decide) ?_
    refine v_lv (ih (j + 1) (x + 1) _ (by omega) (by omega) ?_) ⟨rfl, rfl, rfl, rfl, trivial⟩
    rw [show s + qSum (yGain (mY σ) wh) (n + 1) j = s + (yGain (mY σ) wh j + qSum (yGain (mY σ) wh) n (j + 1)) from rfl, ← Int.add_assoc] at hQ
    exact hQ
set_option maxHeartbeats 4000000 in
set_option maxRecDepth 100000 in
theorem c_X9_speedOfAll {g : vGl} {d : Nat} {Q : Option Value → List mC → Prop} {σ : vSt} {wh : Int} (hd : 5 ≤ d) (hR : MR σ) (hw : vr wh) (hQ : Q (some (vj (qSum (yGain (mY σ) wh) (σ 38 13).toNat 0))) (hp σ)) : V g mX9_speedOfAll d (0, 0, 0, 0) Q 0 [(0, .ref 38), (1, vi wh)] [] (hp σ) := by
  obtain ⟨⟨r0, r1, r2, r3, r4, r5, r6, r7, r8, r9⟩, rE, rS, rT, rF⟩ := id hR
  refine v_lconst (pc := 0) (0) dX9_speedOfAll_0 (by decide) ?_
  refine v_lstore_n (pc := 1) dX9_speedOfAll_1 (by decide) ?_
  refine v_iconst (pc := 2) (0) dX9_speedOfAll_2 (by decide) ?_
  refine v_istore (pc := 3) dX9_speedOfAll_3 (by decide) ?_
  refine v_lv (l_X9_speedOfAll hd hR hw (σ 38 13).toNat 0 0 0 rfl (by omega) (by rw [Int.zero_add]; exact hQ)) ⟨rfl, rfl, rfl, rfl, trivial⟩
end
