section
-- ===== PART A: goes FIRST, ahead of the names: the tables' words, and 'selects' of the private methods out of them =====
/-- a private method of a class that the tables say can be made, by its rows of tables_1 -/
def lw_okq (q : MethodName × Nat) : Prop := (q.1.cls ≠ "java/lang/invoke/MethodHandle" ∧ q.1.cls ≠ "java/lang/invoke/VarHandle") ∧ Cond.instantiable q.1.cls q.2 ∈ tables_1 ∧ Cond.privateMethod q.1 ∈ tables_1 ∧ Cond.instanceMethod q.1 ∈ tables_1
theorem lw_p0 : lw_okq (⟨"StoryCoroner", "begin", "()V"⟩, 9) := ⟨⟨by decide +kernel, by decide +kernel⟩, List.mem_of_getElem? (i := 18) (by decide +kernel), List.mem_of_getElem? (i := 274) (by decide +kernel), List.mem_of_getElem? (i := 275) (by decide +kernel)⟩
theorem lw_p1 : lw_okq (⟨"StoryCoroner$History", "isInRing", "(I)Z"⟩, 5) := ⟨⟨by decide +kernel, by decide +kernel⟩, List.mem_of_getElem? (i := 172) (by decide +kernel), List.mem_of_getElem? (i := 286) (by decide +kernel), List.mem_of_getElem? (i := 287) (by decide +kernel)⟩
theorem lw_p2 : lw_okq (⟨"StoryCoroner", "finish", "(I)I"⟩, 9) := ⟨⟨by decide +kernel, by decide +kernel⟩, List.mem_of_getElem? (i := 18) (by decide +kernel), List.mem_of_getElem? (i := 312) (by decide +kernel), List.mem_of_getElem? (i := 313) (by decide +kernel)⟩
theorem lw_p3 : lw_okq (⟨"StoryCoroner$Changes", "canTurn", "(II)Z"⟩, 4) := ⟨⟨by decide +kernel, by decide +kernel⟩, List.mem_of_getElem? (i := 153) (by decide +kernel), List.mem_of_getElem? (i := 359) (by decide +kernel), List.mem_of_getElem? (i := 360) (by decide +kernel)⟩
theorem lw_p4 : lw_okq (⟨"StoryCoroner$Jury", "voteOn", "(II)I"⟩, 1) := ⟨⟨by decide +kernel, by decide +kernel⟩, List.mem_of_getElem? (i := 109) (by decide +kernel), List.mem_of_getElem? (i := 536) (by decide +kernel), List.mem_of_getElem? (i := 537) (by decide +kernel)⟩
theorem lw_p5 : lw_okq (⟨"StoryCoroner$Counts", "isDeathBy", "(III)Z"⟩, 2) := ⟨⟨by decide +kernel, by decide +kernel⟩, List.mem_of_getElem? (i := 138) (by decide +kernel), List.mem_of_getElem? (i := 608) (by decide +kernel), List.mem_of_getElem? (i := 609) (by decide +kernel)⟩
theorem lw_p6 : lw_okq (⟨"StoryCoroner$Inquest", "afterChapter", "(II)I"⟩, 1) := ⟨⟨by decide +kernel, by decide +kernel⟩, List.mem_of_getElem? (i := 99) (by decide +kernel), List.mem_of_getElem? (i := 638) (by decide +kernel), List.mem_of_getElem? (i := 639) (by decide +kernel)⟩
theorem lw_p7 : lw_okq (⟨"StoryCoroner$Counts", "key", "(II)I"⟩, 2) := ⟨⟨by decide +kernel, by decide +kernel⟩, List.mem_of_getElem? (i := 138) (by decide +kernel), List.mem_of_getElem? (i := 701) (by decide +kernel), List.mem_of_getElem? (i := 702) (by decide +kernel)⟩
theorem lw_p8 : lw_okq (⟨"StoryCoroner$Counts", "aheadOf", "(II)I"⟩, 2) := ⟨⟨by decide +kernel, by decide +kernel⟩, List.mem_of_getElem? (i := 138) (by decide +kernel), List.mem_of_getElem? (i := 709) (by decide +kernel), List.mem_of_getElem? (i := 710) (by decide +kernel)⟩
theorem lw_p9 : lw_okq (⟨"StoryCoroner", "addTurn", "(II)V"⟩, 9) := ⟨⟨by decide +kernel, by decide +kernel⟩, List.mem_of_getElem? (i := 18) (by decide +kernel), List.mem_of_getElem? (i := 731) (by decide +kernel), List.mem_of_getElem? (i := 732) (by decide +kernel)⟩
theorem lw_p10 : lw_okq (⟨"StoryCoroner", "addWriter", "(I)V"⟩, 9) := ⟨⟨by decide +kernel, by decide +kernel⟩, List.mem_of_getElem? (i := 18) (by decide +kernel), List.mem_of_getElem? (i := 745) (by decide +kernel), List.mem_of_getElem? (i := 746) (by decide +kernel)⟩
theorem lw_p11 : lw_okq (⟨"StoryCoroner", "addDead", "(I)V"⟩, 9) := ⟨⟨by decide +kernel, by decide +kernel⟩, List.mem_of_getElem? (i := 18) (by decide +kernel), List.mem_of_getElem? (i := 750) (by decide +kernel), List.mem_of_getElem? (i := 751) (by decide +kernel)⟩
theorem lw_p12 : lw_okq (⟨"StoryCoroner$Text", "takeCommand", "()Z"⟩, 7) := ⟨⟨by decide +kernel, by decide +kernel⟩, List.mem_of_getElem? (i := 197) (by decide +kernel), List.mem_of_getElem? (i := 789) (by decide +kernel), List.mem_of_getElem? (i := 790) (by decide +kernel)⟩
theorem lw_p13 : lw_okq (⟨"StoryCoroner$Text", "ahead", "()I"⟩, 7) := ⟨⟨by decide +kernel, by decide +kernel⟩, List.mem_of_getElem? (i := 197) (by decide +kernel), List.mem_of_getElem? (i := 793) (by decide +kernel), List.mem_of_getElem? (i := 794) (by decide +kernel)⟩
theorem lw_p14 : lw_okq (⟨"StoryCoroner$Text", "take", "(I)Z"⟩, 7) := ⟨⟨by decide +kernel, by decide +kernel⟩, List.mem_of_getElem? (i := 197) (by decide +kernel), List.mem_of_getElem? (i := 798) (by decide +kernel), List.mem_of_getElem? (i := 799) (by decide +kernel)⟩
theorem lw_p15 : lw_okq (⟨"StoryCoroner$Text", "takeDigit", "()Z"⟩, 7) := ⟨⟨by decide +kernel, by decide +kernel⟩, List.mem_of_getElem? (i := 197) (by decide +kernel), List.mem_of_getElem? (i := 802) (by decide +kernel), List.mem_of_getElem? (i := 803) (by decide +kernel)⟩
def lw_privs_1 : List (MethodName × Nat) := [(⟨"StoryCoroner", "begin", "()V"⟩, 9), (⟨"StoryCoroner$History", "isInRing", "(I)Z"⟩, 5), (⟨"StoryCoroner", "finish", "(I)I"⟩, 9), (⟨"StoryCoroner$Changes", "canTurn", "(II)Z"⟩, 4), (⟨"StoryCoroner$Jury", "voteOn", "(II)I"⟩, 1), (⟨"StoryCoroner$Counts", "isDeathBy", "(III)Z"⟩, 2), (⟨"StoryCoroner$Inquest", "afterChapter", "(II)I"⟩, 1), (⟨"StoryCoroner$Counts", "key", "(II)I"⟩, 2), (⟨"StoryCoroner$Counts", "aheadOf", "(II)I"⟩, 2), (⟨"StoryCoroner", "addTurn", "(II)V"⟩, 9), (⟨"StoryCoroner", "addWriter", "(I)V"⟩, 9), (⟨"StoryCoroner", "addDead", "(I)V"⟩, 9), (⟨"StoryCoroner$Text", "takeCommand", "()Z"⟩, 7), (⟨"StoryCoroner$Text", "ahead", "()I"⟩, 7), (⟨"StoryCoroner$Text", "take", "(I)Z"⟩, 7), (⟨"StoryCoroner$Text", "takeDigit", "()Z"⟩, 7)]
theorem lw_r1 : ∀ q ∈ lw_privs_1, lw_okq q := List.forall_mem_cons.mpr ⟨lw_p0, List.forall_mem_cons.mpr ⟨lw_p1, List.forall_mem_cons.mpr ⟨lw_p2, List.forall_mem_cons.mpr ⟨lw_p3, List.forall_mem_cons.mpr ⟨lw_p4, List.forall_mem_cons.mpr ⟨lw_p5, List.forall_mem_cons.mpr ⟨lw_p6, List.forall_mem_cons.mpr ⟨lw_p7, List.forall_mem_cons.mpr ⟨lw_p8, List.forall_mem_cons.mpr ⟨lw_p9, List.forall_mem_cons.mpr ⟨lw_p10, List.forall_mem_cons.mpr ⟨lw_p11, List.forall_mem_cons.mpr ⟨lw_p12, List.forall_mem_cons.mpr ⟨lw_p13, List.forall_mem_cons.mpr ⟨lw_p14, List.forall_mem_cons.mpr ⟨lw_p15, fun _ h => absurd h List.not_mem_nil⟩⟩⟩⟩⟩⟩⟩⟩⟩⟩⟩⟩⟩⟩⟩⟩
theorem lw_p16 : lw_okq (⟨"StoryCoroner$Text", "give", "(I)V"⟩, 7) := ⟨⟨by decide +kernel, by decide +kernel⟩, List.mem_of_getElem? (i := 197) (by decide +kernel), List.mem_of_getElem? (i := 809) (by decide +kernel), List.mem_of_getElem? (i := 810) (by decide +kernel)⟩
theorem lw_p17 : lw_okq (⟨"StoryCoroner$Text", "takeNumber", "()Z"⟩, 7) := ⟨⟨by decide +kernel, by decide +kernel⟩, List.mem_of_getElem? (i := 197) (by decide +kernel), List.mem_of_getElem? (i := 813) (by decide +kernel), List.mem_of_getElem? (i := 814) (by decide +kernel)⟩
theorem lw_p18 : lw_okq (⟨"StoryCoroner$Text", "takePlusOrMinus", "()Z"⟩, 7) := ⟨⟨by decide +kernel, by decide +kernel⟩, List.mem_of_getElem? (i := 197) (by decide +kernel), List.mem_of_getElem? (i := 817) (by decide +kernel), List.mem_of_getElem? (i := 818) (by decide +kernel)⟩
theorem lw_p19 : lw_okq (⟨"StoryCoroner$Text", "takeSeverityOrMinus", "()Z"⟩, 7) := ⟨⟨by decide +kernel, by decide +kernel⟩, List.mem_of_getElem? (i := 197) (by decide +kernel), List.mem_of_getElem? (i := 821) (by decide +kernel), List.mem_of_getElem? (i := 822) (by decide +kernel)⟩
theorem lw_p20 : lw_okq (⟨"StoryCoroner", "carryOut", "(I)I"⟩, 9) := ⟨⟨by decide +kernel, by decide +kernel⟩, List.mem_of_getElem? (i := 18) (by decide +kernel), List.mem_of_getElem? (i := 833) (by decide +kernel), List.mem_of_getElem? (i := 834) (by decide +kernel)⟩
theorem lw_p21 : lw_okq (⟨"StoryCoronerModel", "keeps", "()V"⟩, 16) := ⟨⟨by decide +kernel, by decide +kernel⟩, List.mem_of_getElem? (i := 938) (by decide +kernel), List.mem_of_getElem? (i := 997) (by decide +kernel), List.mem_of_getElem? (i := 998) (by decide +kernel)⟩
theorem lw_p22 : lw_okq (⟨"StoryCoronerModel", "comes", "()I"⟩, 16) := ⟨⟨by decide +kernel, by decide +kernel⟩, List.mem_of_getElem? (i := 938) (by decide +kernel), List.mem_of_getElem? (i := 1004) (by decide +kernel), List.mem_of_getElem? (i := 1005) (by decide +kernel)⟩
theorem lw_p23 : lw_okq (⟨"StoryCoronerModel", "isRefused", "(ZII)Z"⟩, 16) := ⟨⟨by decide +kernel, by decide +kernel⟩, List.mem_of_getElem? (i := 938) (by decide +kernel), List.mem_of_getElem? (i := 1008) (by decide +kernel), List.mem_of_getElem? (i := 1009) (by decide +kernel)⟩
theorem lw_p24 : lw_okq (⟨"StoryCoronerModel", "sets", "(III)V"⟩, 16) := ⟨⟨by decide +kernel, by decide +kernel⟩, List.mem_of_getElem? (i := 938) (by decide +kernel), List.mem_of_getElem? (i := 1012) (by decide +kernel), List.mem_of_getElem? (i := 1013) (by decide +kernel)⟩
theorem lw_p25 : lw_okq (⟨"StoryCoronerModel", "ends", "(I)I"⟩, 16) := ⟨⟨by decide +kernel, by decide +kernel⟩, List.mem_of_getElem? (i := 938) (by decide +kernel), List.mem_of_getElem? (i := 1016) (by decide +kernel), List.mem_of_getElem? (i := 1017) (by decide +kernel)⟩
theorem lw_p26 : lw_okq (⟨"StoryCoronerModel", "changed", "()V"⟩, 16) := ⟨⟨by decide +kernel, by decide +kernel⟩, List.mem_of_getElem? (i := 938) (by decide +kernel), List.mem_of_getElem? (i := 1023) (by decide +kernel), List.mem_of_getElem? (i := 1024) (by decide +kernel)⟩
theorem lw_p27 : lw_okq (⟨"StoryCoronerModel", "tellsAuthor", "()I"⟩, 16) := ⟨⟨by decide +kernel, by decide +kernel⟩, List.mem_of_getElem? (i := 938) (by decide +kernel), List.mem_of_getElem? (i := 1031) (by decide +kernel), List.mem_of_getElem? (i := 1032) (by decide +kernel)⟩
theorem lw_p28 : lw_okq (⟨"StoryCoronerModel", "dies", "(II)I"⟩, 16) := ⟨⟨by decide +kernel, by decide +kernel⟩, List.mem_of_getElem? (i := 938) (by decide +kernel), List.mem_of_getElem? (i := 1039) (by decide +kernel), List.mem_of_getElem? (i := 1040) (by decide +kernel)⟩
theorem lw_p29 : lw_okq (⟨"StoryCoronerModel", "isCharacter", "(I)Z"⟩, 16) := ⟨⟨by decide +kernel, by decide +kernel⟩, List.mem_of_getElem? (i := 938) (by decide +kernel), List.mem_of_getElem? (i := 1043) (by decide +kernel), List.mem_of_getElem? (i := 1044) (by decide +kernel)⟩
theorem lw_p30 : lw_okq (⟨"StoryCoronerModel", "isDeadNow", "(I)Z"⟩, 16) := ⟨⟨by decide +kernel, by decide +kernel⟩, List.mem_of_getElem? (i := 938) (by decide +kernel), List.mem_of_getElem? (i := 1053) (by decide +kernel), List.mem_of_getElem? (i := 1054) (by decide +kernel)⟩
theorem lw_p31 : lw_okq (⟨"StoryCoronerModel", "of", "(II)I"⟩, 16) := ⟨⟨by decide +kernel, by decide +kernel⟩, List.mem_of_getElem? (i := 938) (by decide +kernel), List.mem_of_getElem? (i := 1057) (by decide +kernel), List.mem_of_getElem? (i := 1058) (by decide +kernel)⟩
def lw_privs_2 : List (MethodName × Nat) := [(⟨"StoryCoroner$Text", "give", "(I)V"⟩, 7), (⟨"StoryCoroner$Text", "takeNumber", "()Z"⟩, 7), (⟨"StoryCoroner$Text", "takePlusOrMinus", "()Z"⟩, 7), (⟨"StoryCoroner$Text", "takeSeverityOrMinus", "()Z"⟩, 7), (⟨"StoryCoroner", "carryOut", "(I)I"⟩, 9), (⟨"StoryCoronerModel", "keeps", "()V"⟩, 16), (⟨"StoryCoronerModel", "comes", "()I"⟩, 16), (⟨"StoryCoronerModel", "isRefused", "(ZII)Z"⟩, 16), (⟨"StoryCoronerModel", "sets", "(III)V"⟩, 16), (⟨"StoryCoronerModel", "ends", "(I)I"⟩, 16), (⟨"StoryCoronerModel", "changed", "()V"⟩, 16), (⟨"StoryCoronerModel", "tellsAuthor", "()I"⟩, 16), (⟨"StoryCoronerModel", "dies", "(II)I"⟩, 16), (⟨"StoryCoronerModel", "isCharacter", "(I)Z"⟩, 16), (⟨"StoryCoronerModel", "isDeadNow", "(I)Z"⟩, 16), (⟨"StoryCoronerModel", "of", "(II)I"⟩, 16)]
theorem lw_r2 : ∀ q ∈ lw_privs_2, lw_okq q := List.forall_mem_cons.mpr ⟨lw_p16, List.forall_mem_cons.mpr ⟨lw_p17, List.forall_mem_cons.mpr ⟨lw_p18, List.forall_mem_cons.mpr ⟨lw_p19, List.forall_mem_cons.mpr ⟨lw_p20, List.forall_mem_cons.mpr ⟨lw_p21, List.forall_mem_cons.mpr ⟨lw_p22, List.forall_mem_cons.mpr ⟨lw_p23, List.forall_mem_cons.mpr ⟨lw_p24, List.forall_mem_cons.mpr ⟨lw_p25, List.forall_mem_cons.mpr ⟨lw_p26, List.forall_mem_cons.mpr ⟨lw_p27, List.forall_mem_cons.mpr ⟨lw_p28, List.forall_mem_cons.mpr ⟨lw_p29, List.forall_mem_cons.mpr ⟨lw_p30, List.forall_mem_cons.mpr ⟨lw_p31, fun _ h => absurd h List.not_mem_nil⟩⟩⟩⟩⟩⟩⟩⟩⟩⟩⟩⟩⟩⟩⟩⟩
theorem lw_p32 : lw_okq (⟨"StoryCoronerModel", "deathsOf", "(I)I"⟩, 16) := ⟨⟨by decide +kernel, by decide +kernel⟩, List.mem_of_getElem? (i := 938) (by decide +kernel), List.mem_of_getElem? (i := 1061) (by decide +kernel), List.mem_of_getElem? (i := 1062) (by decide +kernel)⟩
theorem lw_p33 : lw_okq (⟨"StoryCoronerModel", "isTooEarly", "(II)Z"⟩, 16) := ⟨⟨by decide +kernel, by decide +kernel⟩, List.mem_of_getElem? (i := 938) (by decide +kernel), List.mem_of_getElem? (i := 1065) (by decide +kernel), List.mem_of_getElem? (i := 1066) (by decide +kernel)⟩
theorem lw_p34 : lw_okq (⟨"StoryCoronerModel", "lastChapter", "(I)I"⟩, 16) := ⟨⟨by decide +kernel, by decide +kernel⟩, List.mem_of_getElem? (i := 938) (by decide +kernel), List.mem_of_getElem? (i := 1069) (by decide +kernel), List.mem_of_getElem? (i := 1070) (by decide +kernel)⟩
theorem lw_p35 : lw_okq (⟨"StoryCoronerModel", "adds", "(II)V"⟩, 16) := ⟨⟨by decide +kernel, by decide +kernel⟩, List.mem_of_getElem? (i := 938) (by decide +kernel), List.mem_of_getElem? (i := 1073) (by decide +kernel), List.mem_of_getElem? (i := 1074) (by decide +kernel)⟩
theorem lw_p36 : lw_okq (⟨"StoryCoronerModel", "rises", "(II)I"⟩, 16) := ⟨⟨by decide +kernel, by decide +kernel⟩, List.mem_of_getElem? (i := 938) (by decide +kernel), List.mem_of_getElem? (i := 1081) (by decide +kernel), List.mem_of_getElem? (i := 1082) (by decide +kernel)⟩
theorem lw_p37 : lw_okq (⟨"StoryCoronerModel", "strikes", "(I)I"⟩, 16) := ⟨⟨by decide +kernel, by decide +kernel⟩, List.mem_of_getElem? (i := 938) (by decide +kernel), List.mem_of_getElem? (i := 1089) (by decide +kernel), List.mem_of_getElem? (i := 1090) (by decide +kernel)⟩
theorem lw_p38 : lw_okq (⟨"StoryCoronerModel", "writes", "(II)I"⟩, 16) := ⟨⟨by decide +kernel, by decide +kernel⟩, List.mem_of_getElem? (i := 938) (by decide +kernel), List.mem_of_getElem? (i := 1097) (by decide +kernel), List.mem_of_getElem? (i := 1098) (by decide +kernel)⟩
theorem lw_p39 : lw_okq (⟨"StoryCoronerModel", "isAuthor", "(I)Z"⟩, 16) := ⟨⟨by decide +kernel, by decide +kernel⟩, List.mem_of_getElem? (i := 938) (by decide +kernel), List.mem_of_getElem? (i := 1101) (by decide +kernel), List.mem_of_getElem? (i := 1102) (by decide +kernel)⟩
theorem lw_p40 : lw_okq (⟨"StoryCoronerModel", "swears", "(II)I"⟩, 16) := ⟨⟨by decide +kernel, by decide +kernel⟩, List.mem_of_getElem? (i := 938) (by decide +kernel), List.mem_of_getElem? (i := 1109) (by decide +kernel), List.mem_of_getElem? (i := 1110) (by decide +kernel)⟩
theorem lw_p41 : lw_okq (⟨"StoryCoronerModel", "swornMany", "()I"⟩, 16) := ⟨⟨by decide +kernel, by decide +kernel⟩, List.mem_of_getElem? (i := 938) (by decide +kernel), List.mem_of_getElem? (i := 1113) (by decide +kernel), List.mem_of_getElem? (i := 1114) (by decide +kernel)⟩
theorem lw_p42 : lw_okq (⟨"StoryCoronerModel", "tellsMotive", "(III)I"⟩, 16) := ⟨⟨by decide +kernel, by decide +kernel⟩, List.mem_of_getElem? (i := 938) (by decide +kernel), List.mem_of_getElem? (i := 1121) (by decide +kernel), List.mem_of_getElem? (i := 1122) (by decide +kernel)⟩
theorem lw_p43 : lw_okq (⟨"StoryCoronerModel", "pagesOf", "(II)I"⟩, 16) := ⟨⟨by decide +kernel, by decide +kernel⟩, List.mem_of_getElem? (i := 938) (by decide +kernel), List.mem_of_getElem? (i := 1125) (by decide +kernel), List.mem_of_getElem? (i := 1126) (by decide +kernel)⟩
theorem lw_p44 : lw_okq (⟨"StoryCoronerModel", "seats", "(II)I"⟩, 16) := ⟨⟨by decide +kernel, by decide +kernel⟩, List.mem_of_getElem? (i := 938) (by decide +kernel), List.mem_of_getElem? (i := 1133) (by decide +kernel), List.mem_of_getElem? (i := 1134) (by decide +kernel)⟩
theorem lw_p45 : lw_okq (⟨"StoryCoronerModel", "sitting", "()I"⟩, 16) := ⟨⟨by decide +kernel, by decide +kernel⟩, List.mem_of_getElem? (i := 938) (by decide +kernel), List.mem_of_getElem? (i := 1140) (by decide +kernel), List.mem_of_getElem? (i := 1141) (by decide +kernel)⟩
theorem lw_p46 : lw_okq (⟨"StoryCoronerModel", "lets", "(I)I"⟩, 16) := ⟨⟨by decide +kernel, by decide +kernel⟩, List.mem_of_getElem? (i := 938) (by decide +kernel), List.mem_of_getElem? (i := 1148) (by decide +kernel), List.mem_of_getElem? (i := 1149) (by decide +kernel)⟩
theorem lw_p47 : lw_okq (⟨"StoryCoronerModel", "tries", "(III)I"⟩, 16) := ⟨⟨by decide +kernel, by decide +kernel⟩, List.mem_of_getElem? (i := 938) (by decide +kernel), List.mem_of_getElem? (i := 1156) (by decide +kernel), List.mem_of_getElem? (i := 1157) (by decide +kernel)⟩
def lw_privs_3 : List (MethodName × Nat) := [(⟨"StoryCoronerModel", "deathsOf", "(I)I"⟩, 16), (⟨"StoryCoronerModel", "isTooEarly", "(II)Z"⟩, 16), (⟨"StoryCoronerModel", "lastChapter", "(I)I"⟩, 16), (⟨"StoryCoronerModel", "adds", "(II)V"⟩, 16), (⟨"StoryCoronerModel", "rises", "(II)I"⟩, 16), (⟨"StoryCoronerModel", "strikes", "(I)I"⟩, 16), (⟨"StoryCoronerModel", "writes", "(II)I"⟩, 16), (⟨"StoryCoronerModel", "isAuthor", "(I)Z"⟩, 16), (⟨"StoryCoronerModel", "swears", "(II)I"⟩, 16), (⟨"StoryCoronerModel", "swornMany", "()I"⟩, 16), (⟨"StoryCoronerModel", "tellsMotive", "(III)I"⟩, 16), (⟨"StoryCoronerModel", "pagesOf", "(II)I"⟩, 16), (⟨"StoryCoronerModel", "seats", "(II)I"⟩, 16), (⟨"StoryCoronerModel", "sitting", "()I"⟩, 16), (⟨"StoryCoronerModel", "lets", "(I)I"⟩, 16), (⟨"StoryCoronerModel", "tries", "(III)I"⟩, 16)]
theorem lw_r3 : ∀ q ∈ lw_privs_3, lw_okq q := List.forall_mem_cons.mpr ⟨lw_p32, List.forall_mem_cons.mpr ⟨lw_p33, List.forall_mem_cons.mpr ⟨lw_p34, List.forall_mem_cons.mpr ⟨lw_p35, List.forall_mem_cons.mpr ⟨lw_p36, List.forall_mem_cons.mpr ⟨lw_p37, List.forall_mem_cons.mpr ⟨lw_p38, List.forall_mem_cons.mpr ⟨lw_p39, List.forall_mem_cons.mpr ⟨lw_p40, List.forall_mem_cons.mpr ⟨lw_p41, List.forall_mem_cons.mpr ⟨lw_p42, List.forall_mem_cons.mpr ⟨lw_p43, List.forall_mem_cons.mpr ⟨lw_p44, List.forall_mem_cons.mpr ⟨lw_p45, List.forall_mem_cons.mpr ⟨lw_p46, List.forall_mem_cons.mpr ⟨lw_p47, fun _ h => absurd h List.not_mem_nil⟩⟩⟩⟩⟩⟩⟩⟩⟩⟩⟩⟩⟩⟩⟩⟩
theorem lw_p48 : lw_okq (⟨"StoryCoronerModel", "isDeath", "(II)Z"⟩, 16) := ⟨⟨by decide +kernel, by decide +kernel⟩, List.mem_of_getElem? (i := 938) (by decide +kernel), List.mem_of_getElem? (i := 1160) (by decide +kernel), List.mem_of_getElem? (i := 1161) (by decide +kernel)⟩
theorem lw_p49 : lw_okq (⟨"StoryCoronerModel", "culprit", "(II)I"⟩, 16) := ⟨⟨by decide +kernel, by decide +kernel⟩, List.mem_of_getElem? (i := 938) (by decide +kernel), List.mem_of_getElem? (i := 1164) (by decide +kernel), List.mem_of_getElem? (i := 1165) (by decide +kernel)⟩
theorem lw_p50 : lw_okq (⟨"StoryCoronerModel", "could", "(III)Z"⟩, 16) := ⟨⟨by decide +kernel, by decide +kernel⟩, List.mem_of_getElem? (i := 938) (by decide +kernel), List.mem_of_getElem? (i := 1168) (by decide +kernel), List.mem_of_getElem? (i := 1169) (by decide +kernel)⟩
theorem lw_p51 : lw_okq (⟨"StoryCoronerModel", "chapterOf", "(II)I"⟩, 16) := ⟨⟨by decide +kernel, by decide +kernel⟩, List.mem_of_getElem? (i := 938) (by decide +kernel), List.mem_of_getElem? (i := 1172) (by decide +kernel), List.mem_of_getElem? (i := 1173) (by decide +kernel)⟩
theorem lw_p52 : lw_okq (⟨"StoryCoronerModel", "isDeadIn", "(II)Z"⟩, 16) := ⟨⟨by decide +kernel, by decide +kernel⟩, List.mem_of_getElem? (i := 938) (by decide +kernel), List.mem_of_getElem? (i := 1176) (by decide +kernel), List.mem_of_getElem? (i := 1177) (by decide +kernel)⟩
theorem lw_p53 : lw_okq (⟨"StoryCoronerModel", "isFound", "(III)Z"⟩, 16) := ⟨⟨by decide +kernel, by decide +kernel⟩, List.mem_of_getElem? (i := 938) (by decide +kernel), List.mem_of_getElem? (i := 1180) (by decide +kernel), List.mem_of_getElem? (i := 1181) (by decide +kernel)⟩
theorem lw_p54 : lw_okq (⟨"StoryCoronerModel", "guiltyMany", "(III)I"⟩, 16) := ⟨⟨by decide +kernel, by decide +kernel⟩, List.mem_of_getElem? (i := 938) (by decide +kernel), List.mem_of_getElem? (i := 1184) (by decide +kernel), List.mem_of_getElem? (i := 1185) (by decide +kernel)⟩
theorem lw_p55 : lw_okq (⟨"StoryCoronerModel", "weight", "(III)I"⟩, 16) := ⟨⟨by decide +kernel, by decide +kernel⟩, List.mem_of_getElem? (i := 938) (by decide +kernel), List.mem_of_getElem? (i := 1188) (by decide +kernel), List.mem_of_getElem? (i := 1189) (by decide +kernel)⟩
theorem lw_p56 : lw_okq (⟨"StoryCoronerModel", "risingsOf", "(I)I"⟩, 16) := ⟨⟨by decide +kernel, by decide +kernel⟩, List.mem_of_getElem? (i := 938) (by decide +kernel), List.mem_of_getElem? (i := 1204) (by decide +kernel), List.mem_of_getElem? (i := 1205) (by decide +kernel)⟩
theorem lw_p57 : lw_okq (⟨"StoryCoronerModel", "lives", "(I)I"⟩, 16) := ⟨⟨by decide +kernel, by decide +kernel⟩, List.mem_of_getElem? (i := 938) (by decide +kernel), List.mem_of_getElem? (i := 1208) (by decide +kernel), List.mem_of_getElem? (i := 1209) (by decide +kernel)⟩
theorem lw_p58 : lw_okq (⟨"StoryCoronerModel", "solvedOf", "(I)I"⟩, 16) := ⟨⟨by decide +kernel, by decide +kernel⟩, List.mem_of_getElem? (i := 938) (by decide +kernel), List.mem_of_getElem? (i := 1212) (by decide +kernel), List.mem_of_getElem? (i := 1213) (by decide +kernel)⟩
theorem lw_p59 : lw_okq (⟨"StoryCoronerModel", "culpritMany", "(I)I"⟩, 16) := ⟨⟨by decide +kernel, by decide +kernel⟩, List.mem_of_getElem? (i := 938) (by decide +kernel), List.mem_of_getElem? (i := 1216) (by decide +kernel), List.mem_of_getElem? (i := 1217) (by decide +kernel)⟩
theorem lw_p60 : lw_okq (⟨"StoryCoronerModel", "motives", "(IZ)I"⟩, 16) := ⟨⟨by decide +kernel, by decide +kernel⟩, List.mem_of_getElem? (i := 938) (by decide +kernel), List.mem_of_getElem? (i := 1220) (by decide +kernel), List.mem_of_getElem? (i := 1221) (by decide +kernel)⟩
theorem lw_p61 : lw_okq (⟨"StoryCoronerModel", "causers", "(II)I"⟩, 16) := ⟨⟨by decide +kernel, by decide +kernel⟩, List.mem_of_getElem? (i := 938) (by decide +kernel), List.mem_of_getElem? (i := 1228) (by decide +kernel), List.mem_of_getElem? (i := 1229) (by decide +kernel)⟩
theorem lw_p62 : lw_okq (⟨"StoryCoronerModel", "chaptersBy", "(I)I"⟩, 16) := ⟨⟨by decide +kernel, by decide +kernel⟩, List.mem_of_getElem? (i := 938) (by decide +kernel), List.mem_of_getElem? (i := 1236) (by decide +kernel), List.mem_of_getElem? (i := 1237) (by decide +kernel)⟩
theorem lw_p63 : lw_okq (⟨"StoryCoronerModel", "deathsBy", "(IZ)I"⟩, 16) := ⟨⟨by decide +kernel, by decide +kernel⟩, List.mem_of_getElem? (i := 938) (by decide +kernel), List.mem_of_getElem? (i := 1240) (by decide +kernel), List.mem_of_getElem? (i := 1241) (by decide +kernel)⟩
def lw_privs_4 : List (MethodName × Nat) := [(⟨"StoryCoronerModel", "isDeath", "(II)Z"⟩, 16), (⟨"StoryCoronerModel", "culprit", "(II)I"⟩, 16), (⟨"StoryCoronerModel", "could", "(III)Z"⟩, 16), (⟨"StoryCoronerModel", "chapterOf", "(II)I"⟩, 16), (⟨"StoryCoronerModel", "isDeadIn", "(II)Z"⟩, 16), (⟨"StoryCoronerModel", "isFound", "(III)Z"⟩, 16), (⟨"StoryCoronerModel", "guiltyMany", "(III)I"⟩, 16), (⟨"StoryCoronerModel", "weight", "(III)I"⟩, 16), (⟨"StoryCoronerModel", "risingsOf", "(I)I"⟩, 16), (⟨"StoryCoronerModel", "lives", "(I)I"⟩, 16), (⟨"StoryCoronerModel", "solvedOf", "(I)I"⟩, 16), (⟨"StoryCoronerModel", "culpritMany", "(I)I"⟩, 16), (⟨"StoryCoronerModel", "motives", "(IZ)I"⟩, 16), (⟨"StoryCoronerModel", "causers", "(II)I"⟩, 16), (⟨"StoryCoronerModel", "chaptersBy", "(I)I"⟩, 16), (⟨"StoryCoronerModel", "deathsBy", "(IZ)I"⟩, 16)]
theorem lw_r4 : ∀ q ∈ lw_privs_4, lw_okq q := List.forall_mem_cons.mpr ⟨lw_p48, List.forall_mem_cons.mpr ⟨lw_p49, List.forall_mem_cons.mpr ⟨lw_p50, List.forall_mem_cons.mpr ⟨lw_p51, List.forall_mem_cons.mpr ⟨lw_p52, List.forall_mem_cons.mpr ⟨lw_p53, List.forall_mem_cons.mpr ⟨lw_p54, List.forall_mem_cons.mpr ⟨lw_p55, List.forall_mem_cons.mpr ⟨lw_p56, List.forall_mem_cons.mpr ⟨lw_p57, List.forall_mem_cons.mpr ⟨lw_p58, List.forall_mem_cons.mpr ⟨lw_p59, List.forall_mem_cons.mpr ⟨lw_p60, List.forall_mem_cons.mpr ⟨lw_p61, List.forall_mem_cons.mpr ⟨lw_p62, List.forall_mem_cons.mpr ⟨lw_p63, fun _ h => absurd h List.not_mem_nil⟩⟩⟩⟩⟩⟩⟩⟩⟩⟩⟩⟩⟩⟩⟩⟩
theorem lw_p64 : lw_okq (⟨"StoryCoronerModel", "deadIn", "(I)I"⟩, 16) := ⟨⟨by decide +kernel, by decide +kernel⟩, List.mem_of_getElem? (i := 938) (by decide +kernel), List.mem_of_getElem? (i := 1252) (by decide +kernel), List.mem_of_getElem? (i := 1253) (by decide +kernel)⟩
theorem lw_p65 : lw_okq (⟨"StoryCoronerModel", "deadMany", "(I)I"⟩, 16) := ⟨⟨by decide +kernel, by decide +kernel⟩, List.mem_of_getElem? (i := 938) (by decide +kernel), List.mem_of_getElem? (i := 1265) (by decide +kernel), List.mem_of_getElem? (i := 1266) (by decide +kernel)⟩
theorem lw_p66 : lw_okq (⟨"StoryCoronerModel", "isAhead", "(III)Z"⟩, 16) := ⟨⟨by decide +kernel, by decide +kernel⟩, List.mem_of_getElem? (i := 938) (by decide +kernel), List.mem_of_getElem? (i := 1282) (by decide +kernel), List.mem_of_getElem? (i := 1283) (by decide +kernel)⟩
theorem lw_p67 : lw_okq (⟨"StoryCoronerModel", "number", "(I)V"⟩, 16) := ⟨⟨by decide +kernel, by decide +kernel⟩, List.mem_of_getElem? (i := 938) (by decide +kernel), List.mem_of_getElem? (i := 1290) (by decide +kernel), List.mem_of_getElem? (i := 1291) (by decide +kernel)⟩
theorem lw_p68 : lw_okq (⟨"StoryCoronerModel", "puts", "(I)V"⟩, 16) := ⟨⟨by decide +kernel, by decide +kernel⟩, List.mem_of_getElem? (i := 938) (by decide +kernel), List.mem_of_getElem? (i := 1294) (by decide +kernel), List.mem_of_getElem? (i := 1295) (by decide +kernel)⟩
theorem lw_p69 : lw_okq (⟨"StoryCoronerModel", "isText", "()Z"⟩, 16) := ⟨⟨by decide +kernel, by decide +kernel⟩, List.mem_of_getElem? (i := 938) (by decide +kernel), List.mem_of_getElem? (i := 1318) (by decide +kernel), List.mem_of_getElem? (i := 1319) (by decide +kernel)⟩
theorem lw_p70 : lw_okq (⟨"StoryCoronerModel", "readsCommand", "()Z"⟩, 16) := ⟨⟨by decide +kernel, by decide +kernel⟩, List.mem_of_getElem? (i := 938) (by decide +kernel), List.mem_of_getElem? (i := 1322) (by decide +kernel), List.mem_of_getElem? (i := 1323) (by decide +kernel)⟩
theorem lw_p71 : lw_okq (⟨"StoryCoronerModel", "signHere", "()I"⟩, 16) := ⟨⟨by decide +kernel, by decide +kernel⟩, List.mem_of_getElem? (i := 938) (by decide +kernel), List.mem_of_getElem? (i := 1326) (by decide +kernel), List.mem_of_getElem? (i := 1327) (by decide +kernel)⟩
theorem lw_p72 : lw_okq (⟨"StoryCoronerModel", "isNumber", "(II)Z"⟩, 16) := ⟨⟨by decide +kernel, by decide +kernel⟩, List.mem_of_getElem? (i := 938) (by decide +kernel), List.mem_of_getElem? (i := 1333) (by decide +kernel), List.mem_of_getElem? (i := 1334) (by decide +kernel)⟩
theorem lw_p73 : lw_okq (⟨"StoryCoronerModel", "isHere", "(I)Z"⟩, 16) := ⟨⟨by decide +kernel, by decide +kernel⟩, List.mem_of_getElem? (i := 938) (by decide +kernel), List.mem_of_getElem? (i := 1337) (by decide +kernel), List.mem_of_getElem? (i := 1338) (by decide +kernel)⟩
theorem lw_p74 : lw_okq (⟨"StoryCoronerModel", "isOath", "(I)Z"⟩, 16) := ⟨⟨by decide +kernel, by decide +kernel⟩, List.mem_of_getElem? (i := 938) (by decide +kernel), List.mem_of_getElem? (i := 1341) (by decide +kernel), List.mem_of_getElem? (i := 1342) (by decide +kernel)⟩
theorem lw_p75 : lw_okq (⟨"StoryCoronerModel", "isReader", "(I)Z"⟩, 16) := ⟨⟨by decide +kernel, by decide +kernel⟩, List.mem_of_getElem? (i := 938) (by decide +kernel), List.mem_of_getElem? (i := 1345) (by decide +kernel), List.mem_of_getElem? (i := 1346) (by decide +kernel)⟩
theorem lw_p76 : lw_okq (⟨"StoryCoronerModel", "does", "(I)I"⟩, 16) := ⟨⟨by decide +kernel, by decide +kernel⟩, List.mem_of_getElem? (i := 938) (by decide +kernel), List.mem_of_getElem? (i := 1349) (by decide +kernel), List.mem_of_getElem? (i := 1350) (by decide +kernel)⟩
theorem lw_p77 : lw_okq (⟨"StoryCoronerModel", "allDeaths", "()I"⟩, 16) := ⟨⟨by decide +kernel, by decide +kernel⟩, List.mem_of_getElem? (i := 938) (by decide +kernel), List.mem_of_getElem? (i := 1361) (by decide +kernel), List.mem_of_getElem? (i := 1362) (by decide +kernel)⟩
theorem lw_p78 : lw_okq (⟨"StoryCoronerModel", "allRisings", "()I"⟩, 16) := ⟨⟨by decide +kernel, by decide +kernel⟩, List.mem_of_getElem? (i := 938) (by decide +kernel), List.mem_of_getElem? (i := 1365) (by decide +kernel), List.mem_of_getElem? (i := 1366) (by decide +kernel)⟩
theorem lw_p79 : lw_okq (⟨"StoryCoronerModel", "allSolved", "()I"⟩, 16) := ⟨⟨by decide +kernel, by decide +kernel⟩, List.mem_of_getElem? (i := 938) (by decide +kernel), List.mem_of_getElem? (i := 1369) (by decide +kernel), List.mem_of_getElem? (i := 1370) (by decide +kernel)⟩
def lw_privs_5 : List (MethodName × Nat) := [(⟨"StoryCoronerModel", "deadIn", "(I)I"⟩, 16), (⟨"StoryCoronerModel", "deadMany", "(I)I"⟩, 16), (⟨"StoryCoronerModel", "isAhead", "(III)Z"⟩, 16), (⟨"StoryCoronerModel", "number", "(I)V"⟩, 16), (⟨"StoryCoronerModel", "puts", "(I)V"⟩, 16), (⟨"StoryCoronerModel", "isText", "()Z"⟩, 16), (⟨"StoryCoronerModel", "readsCommand", "()Z"⟩, 16), (⟨"StoryCoronerModel", "signHere", "()I"⟩, 16), (⟨"StoryCoronerModel", "isNumber", "(II)Z"⟩, 16), (⟨"StoryCoronerModel", "isHere", "(I)Z"⟩, 16), (⟨"StoryCoronerModel", "isOath", "(I)Z"⟩, 16), (⟨"StoryCoronerModel", "isReader", "(I)Z"⟩, 16), (⟨"StoryCoronerModel", "does", "(I)I"⟩, 16), (⟨"StoryCoronerModel", "allDeaths", "()I"⟩, 16), (⟨"StoryCoronerModel", "allRisings", "()I"⟩, 16), (⟨"StoryCoronerModel", "allSolved", "()I"⟩, 16)]
theorem lw_r5 : ∀ q ∈ lw_privs_5, lw_okq q := List.forall_mem_cons.mpr ⟨lw_p64, List.forall_mem_cons.mpr ⟨lw_p65, List.forall_mem_cons.mpr ⟨lw_p66, List.forall_mem_cons.mpr ⟨lw_p67, List.forall_mem_cons.mpr ⟨lw_p68, List.forall_mem_cons.mpr ⟨lw_p69, List.forall_mem_cons.mpr ⟨lw_p70, List.forall_mem_cons.mpr ⟨lw_p71, List.forall_mem_cons.mpr ⟨lw_p72, List.forall_mem_cons.mpr ⟨lw_p73, List.forall_mem_cons.mpr ⟨lw_p74, List.forall_mem_cons.mpr ⟨lw_p75, List.forall_mem_cons.mpr ⟨lw_p76, List.forall_mem_cons.mpr ⟨lw_p77, List.forall_mem_cons.mpr ⟨lw_p78, List.forall_mem_cons.mpr ⟨lw_p79, fun _ h => absurd h List.not_mem_nil⟩⟩⟩⟩⟩⟩⟩⟩⟩⟩⟩⟩⟩⟩⟩⟩
theorem lw_p80 : lw_okq (⟨"StoryCoronerModel", "written", "()I"⟩, 16) := ⟨⟨by decide +kernel, by decide +kernel⟩, List.mem_of_getElem? (i := 938) (by decide +kernel), List.mem_of_getElem? (i := 1373) (by decide +kernel), List.mem_of_getElem? (i := 1374) (by decide +kernel)⟩
def lw_privs_6 : List (MethodName × Nat) := [(⟨"StoryCoronerModel", "written", "()I"⟩, 16)]
theorem lw_r6 : ∀ q ∈ lw_privs_6, lw_okq q := List.forall_mem_cons.mpr ⟨lw_p80, fun _ h => absurd h List.not_mem_nil⟩
def lw_privs : List (MethodName × Nat) := lw_privs_1 ++ (lw_privs_2 ++ (lw_privs_3 ++ (lw_privs_4 ++ (lw_privs_5 ++ (lw_privs_6)))))
def lw_tbl : List Cond := k2_sels lw_privs ++ tables_1
theorem lw_privs_ok : ∀ q ∈ lw_privs, lw_okq q := by
  show ∀ q ∈ lw_privs_1 ++ (lw_privs_2 ++ (lw_privs_3 ++ (lw_privs_4 ++ (lw_privs_5 ++ (lw_privs_6))))), lw_okq q
  exact List.forall_mem_append.mpr ⟨lw_r1, List.forall_mem_append.mpr ⟨lw_r2, List.forall_mem_append.mpr ⟨lw_r3, List.forall_mem_append.mpr ⟨lw_r4, List.forall_mem_append.mpr ⟨lw_r5, lw_r6⟩⟩⟩⟩⟩
/-- the streams that the claim lets the run draw from -/
abbrev lw_cs : List Choice := [Jvm.Choice.named "NaN.bits"]
theorem lw_bits : nanBits ∈ lw_cs := by first | decide | exact List.mem_cons_self | simp [lw_cs, nanBits]
-- ===== end of PART A; then your names; then what follows =====

/-! names: printed by the kit, sorted by gen1.py; tables by gen1.py -/
def RX0 : String := "StoryCoroner$Book"
def TX0 : u_T := fun k => match k with
  | 0 => ("StoryCoroner$Book", "characters", "I", false)
  | 1 => ("StoryCoroner$Book", "authors", "I", false)
  | 2 => ("StoryCoroner$Book", "trials", "I", false)
  | 3 => ("StoryCoroner$Book", "turns", "LStoryCoroner$Row;", true)
  | 4 => ("StoryCoroner$Book", "chapters", "LStoryCoroner$Row;", true)
  | 5 => ("StoryCoroner$Book", "culprits", "LStoryCoroner$Row;", true)
  | 6 => ("StoryCoroner$Book", "writers", "LStoryCoroner$Row;", true)
  | 7 => ("StoryCoroner$Book", "sworn", "LStoryCoroner$Row;", true)
  | 8 => ("StoryCoroner$Book", "motives", "LStoryCoroner$Row;", true)
  | _ => ("StoryCoroner$Book", "severities", "LStoryCoroner$Row;", true)
abbrev cX0_init : ByteArray := prog_2_method_1_code
abbrev cX0_isChapter : ByteArray := prog_2_method_2_code
abbrev cX0_isCharacter : ByteArray := prog_2_method_3_code
abbrev cX0_isAuthor : ByteArray := prog_2_method_4_code
abbrev cX0_isDeath : ByteArray := prog_2_method_5_code
abbrev cX0_isCase : ByteArray := prog_2_method_6_code
abbrev cX0_deaths : ByteArray := prog_2_method_7_code
abbrev cX0_risings : ByteArray := prog_2_method_8_code
abbrev cX0_isDeadAtLast : ByteArray := prog_2_method_9_code
abbrev cX0_turnChapter : ByteArray := prog_2_method_10_code
abbrev cX0_lastChapter : ByteArray := prog_2_method_11_code
abbrev cX0_deathChapter : ByteArray := prog_2_method_12_code
abbrev cX0_nextRising : ByteArray := prog_2_method_13_code
abbrev cX0_culprit : ByteArray := prog_2_method_14_code
abbrev cX0_isSolved : ByteArray := prog_2_method_15_code
abbrev cX0_setCulprit : ByteArray := prog_2_method_16_code
abbrev cX0_addTurn : ByteArray := prog_2_method_17_code
abbrev cX0_removeLastTurn : ByteArray := prog_2_method_18_code
abbrev cX0_motivePages : ByteArray := prog_2_method_19_code
abbrev cX0_isBySworn : ByteArray := prog_2_method_20_code
abbrev cX0_swornAuthors : ByteArray := prog_2_method_21_code
abbrev cX0_copyFrom : ByteArray := prog_2_method_22_code
def RX1 : String := "StoryCoroner$Changes"
def TX1 : u_T := fun k => match k with
  | 0 => ("StoryCoroner$Changes", "book", "LStoryCoroner$Book;", true)
  | 1 => ("StoryCoroner$Changes", "inquest", "LStoryCoroner$Inquest;", true)
  | 2 => ("StoryCoroner$Changes", "jury", "LStoryCoroner$Jury;", true)
  | _ => ("StoryCoroner$Changes", "refusals", "LStoryCoroner$Refusals;", true)
abbrev cX1_init : ByteArray := prog_3_method_1_code
abbrev cX1_addCharacter : ByteArray := prog_3_method_2_code
abbrev cX1_addAuthor : ByteArray := prog_3_method_3_code
abbrev cX1_letDie : ByteArray := prog_3_method_4_code
abbrev cX1_letRise : ByteArray := prog_3_method_5_code
abbrev cX1_canTurn : ByteArray := prog_3_method_6_code
abbrev cX1_strikeOut : ByteArray := prog_3_method_7_code
abbrev cX1_setWriter : ByteArray := prog_3_method_8_code
abbrev cX1_setSworn : ByteArray := prog_3_method_9_code
abbrev cX1_setMotive : ByteArray := prog_3_method_10_code
abbrev cX1_seatReader : ByteArray := prog_3_method_11_code
abbrev cX1_letGo : ByteArray := prog_3_method_12_code
abbrev cX1_holdTrial : ByteArray := prog_3_method_13_code
def RX2 : String := "StoryCoroner$Counts"
def TX2 : u_T := fun k => match k with
  | 0 => ("StoryCoroner$Counts", "book", "LStoryCoroner$Book;", true)
  | _ => ("StoryCoroner$Counts", "keys", "LStoryCoroner$Row;", true)
abbrev cX2_init : ByteArray := prog_4_method_1_code
abbrev cX2_chaptersLived : ByteArray := prog_4_method_2_code
abbrev cX2_solvedDeaths : ByteArray := prog_4_method_3_code
abbrev cX2_deathsCausedBy : ByteArray := prog_4_method_4_code
abbrev cX2_pagesHeldBy : ByteArray := prog_4_method_5_code
abbrev cX2_pagesAgainst : ByteArray := prog_4_method_6_code
abbrev cX2_chaptersBy : ByteArray := prog_4_method_7_code
abbrev cX2_writtenChapters : ByteArray := prog_4_method_8_code
abbrev cX2_deathsBy : ByteArray := prog_4_method_9_code
abbrev cX2_solvedDeathsBy : ByteArray := prog_4_method_10_code
abbrev cX2_isDeathBy : ByteArray := prog_4_method_11_code
abbrev cX2_allDeaths : ByteArray := prog_4_method_12_code
abbrev cX2_allRisings : ByteArray := prog_4_method_13_code
abbrev cX2_allSolvedDeaths : ByteArray := prog_4_method_14_code
abbrev cX2_atPlace : ByteArray := prog_4_method_15_code
abbrev cX2_key : ByteArray := prog_4_method_16_code
abbrev cX2_aheadOf : ByteArray := prog_4_method_17_code
def RX3 : String := "StoryCoroner$History"
def TX3 : u_T := fun k => match k with
  | 0 => ("StoryCoroner$History", "states", "[LStoryCoroner$Book;", true)
  | 1 => ("StoryCoroner$History", "snapshot", "LStoryCoroner$Book;", true)
  | 2 => ("StoryCoroner$History", "next", "I", false)
  | 3 => ("StoryCoroner$History", "many", "I", false)
  | _ => ("StoryCoroner$History", "isSaved", "Z", false)
abbrev cX3_init : ByteArray := prog_5_method_1_code
abbrev cX3_size : ByteArray := prog_5_method_2_code
abbrev cX3_keep : ByteArray := prog_5_method_3_code
abbrev cX3_confirm : ByteArray := prog_5_method_4_code
abbrev cX3_takeBack : ByteArray := prog_5_method_5_code
abbrev cX3_stepBack : ByteArray := prog_5_method_6_code
abbrev cX3_saveSnapshot : ByteArray := prog_5_method_7_code
abbrev cX3_restoreSnapshot : ByteArray := prog_5_method_8_code
abbrev cX3_isInRing : ByteArray := prog_5_method_9_code
def RX4 : String := "StoryCoroner$Inquest"
def TX4 : u_T := fun k => match k with
  | _ => ("StoryCoroner$Inquest", "book", "LStoryCoroner$Book;", true)
abbrev cX4_init : ByteArray := prog_6_method_1_code
abbrev cX4_isDeadIn : ByteArray := prog_6_method_2_code
abbrev cX4_deadByLatest : ByteArray := prog_6_method_3_code
abbrev cX4_deadByChapters : ByteArray := prog_6_method_4_code
abbrev cX4_afterChapter : ByteArray := prog_6_method_5_code
abbrev cX4_darkestChapter : ByteArray := prog_6_method_6_code
abbrev cX4_couldCause : ByteArray := prog_6_method_7_code
abbrev cX4_possibleCulprits : ByteArray := prog_6_method_8_code
abbrev cX4_suspectByCharacters : ByteArray := prog_6_method_9_code
abbrev cX4_suspectByPages : ByteArray := prog_6_method_10_code
abbrev cX4_weight : ByteArray := prog_6_method_11_code
abbrev cX4_deadAgree : ByteArray := prog_6_method_12_code
abbrev cX4_suspectsAgree : ByteArray := prog_6_method_13_code
abbrev cX4_turnsAreInOrder : ByteArray := prog_6_method_14_code
def RX5 : String := "StoryCoroner$Jury"
def TX5 : u_T := fun k => match k with
  | _ => ("StoryCoroner$Jury", "book", "LStoryCoroner$Book;", true)
abbrev cX5_init : ByteArray := prog_7_method_1_code
abbrev cX5_isSeat : ByteArray := prog_7_method_2_code
abbrev cX5_isSeverity : ByteArray := prog_7_method_3_code
abbrev cX5_isTaken : ByteArray := prog_7_method_4_code
abbrev cX5_sitting : ByteArray := prog_7_method_5_code
abbrev cX5_votes : ByteArray := prog_7_method_6_code
abbrev cX5_voteOn : ByteArray := prog_7_method_7_code
abbrev cX5_findsGuilty : ByteArray := prog_7_method_8_code
abbrev cX5_wouldFindGuilty : ByteArray := prog_7_method_9_code
def RX6 : String := "StoryCoroner$Line"
def TX6 : u_T := fun k => match k with
  | 0 => ("StoryCoroner$Line", "codes", "LStoryCoroner$Row;", true)
  | _ => ("StoryCoroner$Line", "length", "I", false)
abbrev cX6_init : ByteArray := prog_8_method_1_code
abbrev cX6_size : ByteArray := prog_8_method_2_code
abbrev cX6_clear : ByteArray := prog_8_method_3_code
abbrev cX6_codeAt : ByteArray := prog_8_method_4_code
abbrev cX6_addCode : ByteArray := prog_8_method_5_code
abbrev cX6_addNumber : ByteArray := prog_8_method_6_code
def RX7 : String := "StoryCoroner$Refusals"
def TX7 : u_T := fun k => match k with
  | 0 => ("StoryCoroner$Refusals", "commandNow", "I", false)
  | 1 => ("StoryCoroner$Refusals", "reason", "I", false)
  | 2 => ("StoryCoroner$Refusals", "detail", "I", false)
  | _ => ("StoryCoroner$Refusals", "command", "I", false)
abbrev cX7_init : ByteArray := prog_9_method_1_code
abbrev cX7_setCommand : ByteArray := prog_9_method_2_code
abbrev cX7_refuse : ByteArray := prog_9_method_3_code
abbrev cX7_tell : ByteArray := prog_9_method_4_code
def RX8 : String := "StoryCoroner$Row"
def TX8 : u_T := fun k => match k with
  | _ => ("StoryCoroner$Row", "cells", "[I", true)
abbrev cX8_init : ByteArray := prog_10_method_1_code
abbrev cX8_get : ByteArray := prog_10_method_2_code
abbrev cX8_set : ByteArray := prog_10_method_3_code
abbrev cX8_copyFrom : ByteArray := prog_10_method_4_code
def RX9 : String := "StoryCoroner$Text"
def TX9 : u_T := fun k => match k with
  | 0 => ("StoryCoroner$Text", "codes", "LStoryCoroner$Row;", true)
  | 1 => ("StoryCoroner$Text", "kinds", "LStoryCoroner$Row;", true)
  | 2 => ("StoryCoroner$Text", "arguments", "LStoryCoroner$Row;", true)
  | 3 => ("StoryCoroner$Text", "length", "I", false)
  | 4 => ("StoryCoroner$Text", "commands", "I", false)
  | 5 => ("StoryCoroner$Text", "position", "I", false)
  | _ => ("StoryCoroner$Text", "given", "I", false)
abbrev cX9_init : ByteArray := prog_11_method_1_code
abbrev cX9_size : ByteArray := prog_11_method_2_code
abbrev cX9_clear : ByteArray := prog_11_method_3_code
abbrev cX9_addCode : ByteArray := prog_11_method_4_code
abbrev cX9_commands : ByteArray := prog_11_method_5_code
abbrev cX9_kind : ByteArray := prog_11_method_6_code
abbrev cX9_argument : ByteArray := prog_11_method_7_code
abbrev cX9_parse : ByteArray := prog_11_method_8_code
abbrev cX9_takeCommand : ByteArray := prog_11_method_9_code
abbrev cX9_ahead : ByteArray := prog_11_method_10_code
abbrev cX9_isDigit : ByteArray := prog_11_method_11_code
abbrev cX9_take : ByteArray := prog_11_method_12_code
abbrev cX9_takeDigit : ByteArray := prog_11_method_13_code
abbrev cX9_takeNumber : ByteArray := prog_11_method_14_code
abbrev cX9_takePlusOrMinus : ByteArray := prog_11_method_15_code
abbrev cX9_takeSeverityOrMinus : ByteArray := prog_11_method_16_code
abbrev cX9_give : ByteArray := prog_11_method_17_code
def RX10 : String := "StoryCoroner"
def TX10 : u_T := fun k => match k with
  | 0 => ("StoryCoroner", "book", "LStoryCoroner$Book;", true)
  | 1 => ("StoryCoroner", "inquest", "LStoryCoroner$Inquest;", true)
  | 2 => ("StoryCoroner", "jury", "LStoryCoroner$Jury;", true)
  | 3 => ("StoryCoroner", "counts", "LStoryCoroner$Counts;", true)
  | 4 => ("StoryCoroner", "refusals", "LStoryCoroner$Refusals;", true)
  | 5 => ("StoryCoroner", "changes", "LStoryCoroner$Changes;", true)
  | 6 => ("StoryCoroner", "history", "LStoryCoroner$History;", true)
  | 7 => ("StoryCoroner", "text", "LStoryCoroner$Text;", true)
  | _ => ("StoryCoroner", "line", "LStoryCoroner$Line;", true)
abbrev cX10_init : ByteArray := prog_1_method_1_code
abbrev cX10_character : ByteArray := prog_1_method_2_code
abbrev cX10_author : ByteArray := prog_1_method_3_code
abbrev cX10_die : ByteArray := prog_1_method_4_code
abbrev cX10_rise : ByteArray := prog_1_method_5_code
abbrev cX10_strike : ByteArray := prog_1_method_6_code
abbrev cX10_write : ByteArray := prog_1_method_7_code
abbrev cX10_swear : ByteArray := prog_1_method_8_code
abbrev cX10_motive : ByteArray := prog_1_method_9_code
abbrev cX10_seat : ByteArray := prog_1_method_10_code
abbrev cX10_leave : ByteArray := prog_1_method_11_code
abbrev cX10_trial : ByteArray := prog_1_method_12_code
abbrev cX10_characterOf : ByteArray := prog_1_method_13_code
abbrev cX10_deathOf : ByteArray := prog_1_method_14_code
abbrev cX10_authorOf : ByteArray := prog_1_method_15_code
abbrev cX10_pages : ByteArray := prog_1_method_16_code
abbrev cX10_dead : ByteArray := prog_1_method_17_code
abbrev cX10_deadAgain : ByteArray := prog_1_method_18_code
abbrev cX10_darkest : ByteArray := prog_1_method_19_code
abbrev cX10_suspect : ByteArray := prog_1_method_20_code
abbrev cX10_suspectAgain : ByteArray := prog_1_method_21_code
abbrev cX10_guilty : ByteArray := prog_1_method_22_code
abbrev cX10_would : ByteArray := prog_1_method_23_code
abbrev cX10_ranked : ByteArray := prog_1_method_24_code
abbrev cX10_tellCharacter : ByteArray := prog_1_method_25_code
abbrev cX10_tellChapter : ByteArray := prog_1_method_26_code
abbrev cX10_tellJury : ByteArray := prog_1_method_27_code
abbrev cX10_sign : ByteArray := prog_1_method_28_code
abbrev cX10_append : ByteArray := prog_1_method_29_code
abbrev cX10_read : ByteArray := prog_1_method_30_code
abbrev cX10_refusal : ByteArray := prog_1_method_31_code
abbrev cX10_account : ByteArray := prog_1_method_32_code
abbrev cX10_isWell : ByteArray := prog_1_method_33_code
abbrev cX10_share : ByteArray := prog_1_method_34_code
abbrev cX10_undo : ByteArray := prog_1_method_35_code
abbrev cX10_save : ByteArray := prog_1_method_36_code
abbrev cX10_restore : ByteArray := prog_1_method_37_code
abbrev cX10_isYesOrNo : ByteArray := prog_1_method_38_code
abbrev cX10_isError : ByteArray := prog_1_method_39_code
abbrev cX10_begin : ByteArray := prog_1_method_40_code
abbrev cX10_finish : ByteArray := prog_1_method_41_code
abbrev cX10_carryOut : ByteArray := prog_1_method_42_code
abbrev cX10_addTurn : ByteArray := prog_1_method_43_code
abbrev cX10_addWriter : ByteArray := prog_1_method_44_code
abbrev cX10_addDead : ByteArray := prog_1_method_45_code
abbrev cX10_bitsOfShare : ByteArray := prog_1_method_46_code
def RX11 : String := "StoryCoronerModel"
def TX11 : u_T := fun k => match k with
  | 0 => ("StoryCoronerModel", "s", "[I", true)
  | 1 => ("StoryCoronerModel", "was", "[I", true)
  | 2 => ("StoryCoronerModel", "saved", "[I", true)
  | 3 => ("StoryCoronerModel", "past", "[I", true)
  | 4 => ("StoryCoronerModel", "changes", "I", false)
  | 5 => ("StoryCoronerModel", "reason", "I", false)
  | 6 => ("StoryCoronerModel", "detail", "I", false)
  | 7 => ("StoryCoronerModel", "refusedAt", "I", false)
  | 8 => ("StoryCoronerModel", "isSaved", "Z", false)
  | 9 => ("StoryCoronerModel", "line", "[I", true)
  | 10 => ("StoryCoronerModel", "lined", "I", false)
  | 11 => ("StoryCoronerModel", "tape", "[I", true)
  | 12 => ("StoryCoronerModel", "commands", "[I", true)
  | 13 => ("StoryCoronerModel", "taped", "I", false)
  | 14 => ("StoryCoronerModel", "here", "I", false)
  | _ => ("StoryCoronerModel", "commandMany", "I", false)
abbrev cX11_init : ByteArray := prog_13_method_1_code
abbrev cX11_isIn : ByteArray := prog_13_method_2_code
abbrev cX11_copies : ByteArray := prog_13_method_3_code
abbrev cX11_keeps : ByteArray := prog_13_method_4_code
abbrev cX11_changed : ByteArray := prog_13_method_5_code
abbrev cX11_isError : ByteArray := prog_13_method_6_code
abbrev cX11_ends : ByteArray := prog_13_method_7_code
abbrev cX11_isRefused : ByteArray := prog_13_method_8_code
abbrev cX11_of : ByteArray := prog_13_method_9_code
abbrev cX11_sets : ByteArray := prog_13_method_10_code
abbrev cX11_isCharacter : ByteArray := prog_13_method_11_code
abbrev cX11_isAuthor : ByteArray := prog_13_method_12_code
abbrev cX11_isChapter : ByteArray := prog_13_method_13_code
abbrev cX11_isSeat : ByteArray := prog_13_method_14_code
abbrev cX11_deathsOf : ByteArray := prog_13_method_15_code
abbrev cX11_risingsOf : ByteArray := prog_13_method_16_code
abbrev cX11_isDeath : ByteArray := prog_13_method_17_code
abbrev cX11_chapterOf : ByteArray := prog_13_method_18_code
abbrev cX11_culprit : ByteArray := prog_13_method_19_code
abbrev cX11_isDeadNow : ByteArray := prog_13_method_20_code
abbrev cX11_lastChapter : ByteArray := prog_13_method_21_code
abbrev cX11_isDeadIn : ByteArray := prog_13_method_22_code
abbrev cX11_comes : ByteArray := prog_13_method_23_code
abbrev cX11_character : ByteArray := prog_13_method_24_code
abbrev cX11_tellsAuthor : ByteArray := prog_13_method_25_code
abbrev cX11_author : ByteArray := prog_13_method_26_code
abbrev cX11_adds : ByteArray := prog_13_method_27_code
abbrev cX11_isTooEarly : ByteArray := prog_13_method_28_code
abbrev cX11_dies : ByteArray := prog_13_method_29_code
abbrev cX11_die : ByteArray := prog_13_method_30_code
abbrev cX11_rises : ByteArray := prog_13_method_31_code
abbrev cX11_rise : ByteArray := prog_13_method_32_code
abbrev cX11_strikes : ByteArray := prog_13_method_33_code
abbrev cX11_strike : ByteArray := prog_13_method_34_code
abbrev cX11_writes : ByteArray := prog_13_method_35_code
abbrev cX11_write : ByteArray := prog_13_method_36_code
abbrev cX11_swornMany : ByteArray := prog_13_method_37_code
abbrev cX11_swears : ByteArray := prog_13_method_38_code
abbrev cX11_swear : ByteArray := prog_13_method_39_code
abbrev cX11_pagesOf : ByteArray := prog_13_method_40_code
abbrev cX11_tellsMotive : ByteArray := prog_13_method_41_code
abbrev cX11_motive : ByteArray := prog_13_method_42_code
abbrev cX11_sitting : ByteArray := prog_13_method_43_code
abbrev cX11_seats : ByteArray := prog_13_method_44_code
abbrev cX11_seat : ByteArray := prog_13_method_45_code
abbrev cX11_lets : ByteArray := prog_13_method_46_code
abbrev cX11_leave : ByteArray := prog_13_method_47_code
abbrev cX11_could : ByteArray := prog_13_method_48_code
abbrev cX11_weight : ByteArray := prog_13_method_49_code
abbrev cX11_guiltyMany : ByteArray := prog_13_method_50_code
abbrev cX11_isFound : ByteArray := prog_13_method_51_code
abbrev cX11_tries : ByteArray := prog_13_method_52_code
abbrev cX11_trial : ByteArray := prog_13_method_53_code
abbrev cX11_guilty : ByteArray := prog_13_method_54_code
abbrev cX11_would : ByteArray := prog_13_method_55_code
abbrev cX11_lives : ByteArray := prog_13_method_56_code
abbrev cX11_solvedOf : ByteArray := prog_13_method_57_code
abbrev cX11_culpritMany : ByteArray := prog_13_method_58_code
abbrev cX11_motives : ByteArray := prog_13_method_59_code
abbrev cX11_characterOf : ByteArray := prog_13_method_60_code
abbrev cX11_causers : ByteArray := prog_13_method_61_code
abbrev cX11_deathOf : ByteArray := prog_13_method_62_code
abbrev cX11_chaptersBy : ByteArray := prog_13_method_63_code
abbrev cX11_deathsBy : ByteArray := prog_13_method_64_code
abbrev cX11_authorOf : ByteArray := prog_13_method_65_code
abbrev cX11_pages : ByteArray := prog_13_method_66_code
abbrev cX11_deadIn : ByteArray := prog_13_method_67_code
abbrev cX11_dead : ByteArray := prog_13_method_68_code
abbrev cX11_deadAgain : ByteArray := prog_13_method_69_code
abbrev cX11_deadMany : ByteArray := prog_13_method_70_code
abbrev cX11_darkest : ByteArray := prog_13_method_71_code
abbrev cX11_suspect : ByteArray := prog_13_method_72_code
abbrev cX11_suspectAgain : ByteArray := prog_13_method_73_code
abbrev cX11_isAhead : ByteArray := prog_13_method_74_code
abbrev cX11_ranked : ByteArray := prog_13_method_75_code
abbrev cX11_puts : ByteArray := prog_13_method_76_code
abbrev cX11_number : ByteArray := prog_13_method_77_code
abbrev cX11_tellCharacter : ByteArray := prog_13_method_78_code
abbrev cX11_tellChapter : ByteArray := prog_13_method_79_code
abbrev cX11_tellJury : ByteArray := prog_13_method_80_code
abbrev cX11_sign : ByteArray := prog_13_method_81_code
abbrev cX11_append : ByteArray := prog_13_method_82_code
abbrev cX11_signHere : ByteArray := prog_13_method_83_code
abbrev cX11_isHere : ByteArray := prog_13_method_84_code
abbrev cX11_isNumber : ByteArray := prog_13_method_85_code
abbrev cX11_isOath : ByteArray := prog_13_method_86_code
abbrev cX11_isReader : ByteArray := prog_13_method_87_code
abbrev cX11_isKind : ByteArray := prog_13_method_88_code
abbrev cX11_readsCommand : ByteArray := prog_13_method_89_code
abbrev cX11_isText : ByteArray := prog_13_method_90_code
abbrev cX11_does : ByteArray := prog_13_method_91_code
abbrev cX11_read : ByteArray := prog_13_method_92_code
abbrev cX11_refusal : ByteArray := prog_13_method_93_code
abbrev cX11_allDeaths : ByteArray := prog_13_method_94_code
abbrev cX11_allRisings : ByteArray := prog_13_method_95_code
abbrev cX11_allSolved : ByteArray := prog_13_method_96_code
abbrev cX11_written : ByteArray := prog_13_method_97_code
abbrev cX11_account : ByteArray := prog_13_method_98_code
abbrev cX11_isWell : ByteArray := prog_13_method_99_code
abbrev cX11_share : ByteArray := prog_13_method_100_code
abbrev cX11_undo : ByteArray := prog_13_method_101_code
abbrev cX11_save : ByteArray := prog_13_method_102_code
abbrev cX11_restore : ByteArray := prog_13_method_103_code
def RJxf58ca : String := "java/lang/Float"
abbrev cJxf58ca_isNaN_12338 : ByteArray := prog_14_method_6_code
abbrev cJxf58ca_floatToIntBits_5c35a : ByteArray := prog_14_method_24_code
def RJ6 : String := "java/lang/Integer"
abbrev cJ6_bitCount_0f7a4 : ByteArray := prog_15_method_49_code
def RJ9 : String := "java/lang/Math"
abbrev cJ9_max_7cf53 : ByteArray := prog_16_method_65_code
abbrev cJ9_min_7cf53 : ByteArray := prog_16_method_69_code
def RJ10 : String := "java/lang/System"
def RL : String := "StoryCoronerLaw"
abbrev cL_law : ByteArray := code
abbrev vwCl : List vw_C := [(RX0, TX0, 10), (RX1, TX1, 4), (RX2, TX2, 2), (RX3, TX3, 5), (RX4, TX4, 1), (RX5, TX5, 1), (RX6, TX6, 2), (RX7, TX7, 4), (RX8, TX8, 1), (RX9, TX9, 7), (RX10, TX10, 9), (RX11, TX11, 16)]
/-- a method: name, code, locals, return type, parameters, kind (0 static, 1 instance, 2 constructor), class among vwCl, view -/
abbrev ai_MI : Type := MethodName × ByteArray × Nat × Option FieldType × Nat × Nat × Nat × Nat
def ai_mt : List ai_MI := [
  (⟨"java/lang/Math", "max", "(II)I"⟩, prog_16_method_65_code, 2, some .int, 2, 0, 99, 13),
  (⟨"StoryCoroner$Row", "<init>", "(II)V"⟩, prog_10_method_1_code, 4, none, 2, 2, 8, 8),
  (⟨"StoryCoroner$Book", "<init>", "()V"⟩, prog_2_method_1_code, 1, none, 0, 2, 0, 0),
  (⟨"StoryCoroner$Inquest", "<init>", "(LStoryCoroner$Book;)V"⟩, prog_6_method_1_code, 2, none, 1, 2, 4, 4),
  (⟨"StoryCoroner$Jury", "<init>", "(LStoryCoroner$Book;)V"⟩, prog_7_method_1_code, 2, none, 1, 2, 5, 5),
  (⟨"StoryCoroner$Refusals", "<init>", "()V"⟩, prog_9_method_1_code, 1, none, 0, 2, 7, 7),
  (⟨"StoryCoroner$Counts", "<init>", "(LStoryCoroner$Book;)V"⟩, prog_4_method_1_code, 2, none, 1, 2, 2, 2),
  (⟨"StoryCoroner$Changes", "<init>", "(LStoryCoroner$Book;LStoryCoroner$Inquest;LStoryCoroner$Jury;LStoryCoroner$Refusals;)V"⟩, prog_3_method_1_code, 5, none, 4, 2, 1, 1),
  (⟨"StoryCoroner$History", "<init>", "()V"⟩, prog_5_method_1_code, 2, none, 0, 2, 3, 3),
  (⟨"StoryCoroner$Text", "<init>", "()V"⟩, prog_11_method_1_code, 1, none, 0, 2, 9, 9),
  (⟨"StoryCoroner$Line", "<init>", "()V"⟩, prog_8_method_1_code, 1, none, 0, 2, 6, 6),
  (⟨"StoryCoroner", "<init>", "()V"⟩, prog_1_method_1_code, 5, none, 0, 2, 10, 10),
  (⟨"StoryCoroner$Row", "get", "(I)I"⟩, prog_10_method_2_code, 2, some .int, 1, 1, 8, 8),
  (⟨"StoryCoroner$Book", "deaths", "(I)I"⟩, prog_2_method_7_code, 2, some .int, 1, 1, 0, 0),
  (⟨"StoryCoroner$Counts", "allDeaths", "()I"⟩, prog_4_method_12_code, 3, some .int, 0, 1, 2, 2),
  (⟨"StoryCoroner$Book", "risings", "(I)I"⟩, prog_2_method_8_code, 2, some .int, 1, 1, 0, 0),
  (⟨"StoryCoroner$Counts", "allRisings", "()I"⟩, prog_4_method_13_code, 3, some .int, 0, 1, 2, 2),
  (⟨"StoryCoroner$Book", "culprit", "(II)I"⟩, prog_2_method_14_code, 3, some .int, 2, 1, 0, 0),
  (⟨"StoryCoroner$Book", "isSolved", "(II)Z"⟩, prog_2_method_15_code, 3, some .boolean, 2, 1, 0, 0),
  (⟨"StoryCoroner$Counts", "solvedDeaths", "(I)I"⟩, prog_4_method_3_code, 4, some .int, 1, 1, 2, 2),
  (⟨"StoryCoroner$Counts", "allSolvedDeaths", "()I"⟩, prog_4_method_14_code, 3, some .int, 0, 1, 2, 2),
  (⟨"StoryCoroner$Jury", "isTaken", "(I)Z"⟩, prog_7_method_4_code, 2, some .boolean, 1, 1, 5, 5),
  (⟨"StoryCoroner$Jury", "sitting", "()I"⟩, prog_7_method_5_code, 3, some .int, 0, 1, 5, 5),
  (⟨"StoryCoroner$Counts", "chaptersBy", "(I)I"⟩, prog_4_method_7_code, 4, some .int, 1, 1, 2, 2),
  (⟨"StoryCoroner$Counts", "writtenChapters", "()I"⟩, prog_4_method_8_code, 1, some .int, 0, 1, 2, 2),
  (⟨"StoryCoroner$Book", "swornAuthors", "()I"⟩, prog_2_method_21_code, 3, some .int, 0, 1, 0, 0),
  (⟨"StoryCoroner$Text", "size", "()I"⟩, prog_11_method_2_code, 1, some .int, 0, 1, 9, 9),
  (⟨"StoryCoroner$History", "size", "()I"⟩, prog_5_method_2_code, 1, some .int, 0, 1, 3, 3),
  (⟨"StoryCoroner", "account", "(I)I"⟩, prog_1_method_32_code, 2, some .int, 1, 1, 10, 10),
  (⟨"StoryCoroner$Row", "set", "(II)V"⟩, prog_10_method_3_code, 3, none, 2, 1, 8, 8),
  (⟨"StoryCoroner$Line", "addCode", "(I)V"⟩, prog_8_method_5_code, 2, none, 1, 1, 6, 6),
  (⟨"StoryCoroner$Line", "addNumber", "(I)V"⟩, prog_8_method_6_code, 2, none, 1, 1, 6, 6),
  (⟨"StoryCoroner", "addDead", "(I)V"⟩, prog_1_method_45_code, 4, none, 1, 1, 10, 10),
  (⟨"StoryCoroner$Book", "turnChapter", "(II)I"⟩, prog_2_method_10_code, 3, some .int, 2, 1, 0, 0),
  (⟨"StoryCoroner", "addTurn", "(II)V"⟩, prog_1_method_43_code, 4, none, 2, 1, 10, 10),
  (⟨"StoryCoroner$Book", "isAuthor", "(I)Z"⟩, prog_2_method_4_code, 2, some .boolean, 1, 1, 0, 0),
  (⟨"StoryCoroner$Book", "isBySworn", "(I)Z"⟩, prog_2_method_20_code, 3, some .boolean, 1, 1, 0, 0),
  (⟨"StoryCoroner", "addWriter", "(I)V"⟩, prog_1_method_44_code, 3, none, 1, 1, 10, 10),
  (⟨"StoryCoroner$Text", "addCode", "(I)Z"⟩, prog_11_method_4_code, 2, some .boolean, 1, 1, 9, 9),
  (⟨"StoryCoroner", "append", "(I)I"⟩, prog_1_method_29_code, 2, some .int, 1, 1, 10, 10),
  (⟨"StoryCoroner$Refusals", "setCommand", "(I)V"⟩, prog_9_method_2_code, 2, none, 1, 1, 7, 7),
  (⟨"StoryCoroner$History", "isInRing", "(I)Z"⟩, prog_5_method_9_code, 2, some .boolean, 1, 1, 3, 3),
  (⟨"java/lang/Math", "min", "(II)I"⟩, prog_16_method_69_code, 2, some .int, 2, 0, 99, 13),
  (⟨"StoryCoroner$Row", "copyFrom", "(LStoryCoroner$Row;)V"⟩, prog_10_method_4_code, 3, none, 1, 1, 8, 8),
  (⟨"StoryCoroner$Book", "copyFrom", "(LStoryCoroner$Book;)V"⟩, prog_2_method_22_code, 2, none, 1, 1, 0, 0),
  (⟨"StoryCoroner$History", "keep", "(LStoryCoroner$Book;)V"⟩, prog_5_method_3_code, 2, none, 1, 1, 3, 3),
  (⟨"StoryCoroner", "begin", "()V"⟩, prog_1_method_40_code, 1, none, 0, 1, 10, 10),
  (⟨"StoryCoroner$Refusals", "refuse", "(II)I"⟩, prog_9_method_3_code, 3, some .int, 2, 1, 7, 7),
  (⟨"StoryCoroner$Changes", "addAuthor", "()I"⟩, prog_3_method_3_code, 2, some .int, 0, 1, 1, 1),
  (⟨"StoryCoroner", "isError", "(I)Z"⟩, prog_1_method_39_code, 1, some .boolean, 1, 0, 10, 10),
  (⟨"StoryCoroner$History", "confirm", "()V"⟩, prog_5_method_4_code, 1, none, 0, 1, 3, 3),
  (⟨"StoryCoroner", "finish", "(I)I"⟩, prog_1_method_41_code, 2, some .int, 1, 1, 10, 10),
  (⟨"StoryCoroner", "author", "()I"⟩, prog_1_method_3_code, 1, some .int, 0, 1, 10, 10),
  (⟨"StoryCoroner$Book", "deathChapter", "(II)I"⟩, prog_2_method_12_code, 3, some .int, 2, 1, 0, 0),
  (⟨"StoryCoroner$Counts", "isDeathBy", "(III)Z"⟩, prog_4_method_11_code, 4, some .boolean, 3, 1, 2, 2),
  (⟨"StoryCoroner$Counts", "deathsBy", "(I)I"⟩, prog_4_method_9_code, 5, some .int, 1, 1, 2, 2),
  (⟨"StoryCoroner$Counts", "solvedDeathsBy", "(I)I"⟩, prog_4_method_10_code, 5, some .int, 1, 1, 2, 2),
  (⟨"StoryCoroner", "authorOf", "(II)I"⟩, prog_1_method_15_code, 3, some .int, 2, 1, 10, 10),
  (⟨"StoryCoroner", "bitsOfShare", "(F)I"⟩, prog_1_method_46_code, 4, some .int, 1, 0, 10, 10),
  (⟨"StoryCoroner$Text", "argument", "(II)I"⟩, prog_11_method_7_code, 3, some .int, 2, 1, 9, 9),
  (⟨"StoryCoroner$Text", "kind", "(I)I"⟩, prog_11_method_6_code, 2, some .int, 1, 1, 9, 9),
  (⟨"StoryCoroner$Changes", "addCharacter", "()I"⟩, prog_3_method_2_code, 2, some .int, 0, 1, 1, 1),
  (⟨"StoryCoroner$Book", "isCharacter", "(I)Z"⟩, prog_2_method_3_code, 2, some .boolean, 1, 1, 0, 0),
  (⟨"StoryCoroner$Book", "isChapter", "(I)Z"⟩, prog_2_method_2_code, 1, some .boolean, 1, 0, 0, 0),
  (⟨"StoryCoroner$Book", "isDeadAtLast", "(I)Z"⟩, prog_2_method_9_code, 2, some .boolean, 1, 1, 0, 0),
  (⟨"StoryCoroner$Book", "lastChapter", "(I)I"⟩, prog_2_method_11_code, 3, some .int, 1, 1, 0, 0),
  (⟨"StoryCoroner$Changes", "canTurn", "(II)Z"⟩, prog_3_method_6_code, 5, some .boolean, 2, 1, 1, 1),
  (⟨"StoryCoroner$Book", "addTurn", "(II)V"⟩, prog_2_method_17_code, 4, none, 2, 1, 0, 0),
  (⟨"StoryCoroner$Changes", "letDie", "(II)I"⟩, prog_3_method_4_code, 3, some .int, 2, 1, 1, 1),
  (⟨"StoryCoroner$Changes", "letRise", "(II)I"⟩, prog_3_method_5_code, 4, some .int, 2, 1, 1, 1),
  (⟨"StoryCoroner$Book", "setCulprit", "(III)V"⟩, prog_2_method_16_code, 4, none, 3, 1, 0, 0),
  (⟨"StoryCoroner$Book", "removeLastTurn", "(I)V"⟩, prog_2_method_18_code, 3, none, 1, 1, 0, 0),
  (⟨"StoryCoroner$Changes", "strikeOut", "(I)I"⟩, prog_3_method_7_code, 3, some .int, 1, 1, 1, 1),
  (⟨"StoryCoroner$Changes", "setWriter", "(II)I"⟩, prog_3_method_8_code, 4, some .int, 2, 1, 1, 1),
  (⟨"StoryCoroner", "isYesOrNo", "(I)Z"⟩, prog_1_method_38_code, 1, some .boolean, 1, 0, 10, 10),
  (⟨"StoryCoroner$Changes", "setSworn", "(II)I"⟩, prog_3_method_9_code, 3, some .int, 2, 1, 1, 1),
  (⟨"StoryCoroner$Book", "motivePages", "(II)I"⟩, prog_2_method_19_code, 3, some .int, 2, 1, 0, 0),
  (⟨"StoryCoroner$Changes", "setMotive", "(III)I"⟩, prog_3_method_10_code, 5, some .int, 3, 1, 1, 1),
  (⟨"StoryCoroner$Jury", "isSeat", "(I)Z"⟩, prog_7_method_2_code, 1, some .boolean, 1, 0, 5, 5),
  (⟨"StoryCoroner$Changes", "letGo", "(I)I"⟩, prog_3_method_12_code, 2, some .int, 1, 1, 1, 1),
  (⟨"StoryCoroner$Jury", "isSeverity", "(I)Z"⟩, prog_7_method_3_code, 1, some .boolean, 1, 0, 5, 5),
  (⟨"StoryCoroner$Changes", "seatReader", "(II)I"⟩, prog_3_method_11_code, 3, some .int, 2, 1, 1, 1),
  (⟨"StoryCoroner$Book", "isDeath", "(II)Z"⟩, prog_2_method_5_code, 3, some .boolean, 2, 1, 0, 0),
  (⟨"StoryCoroner$Book", "isCase", "(III)Z"⟩, prog_2_method_6_code, 4, some .boolean, 3, 1, 0, 0),
  (⟨"StoryCoroner$Inquest", "isDeadIn", "(II)Z"⟩, prog_6_method_2_code, 6, some .boolean, 2, 1, 4, 4),
  (⟨"StoryCoroner$Inquest", "couldCause", "(III)Z"⟩, prog_6_method_7_code, 4, some .boolean, 3, 1, 4, 4),
  (⟨"StoryCoroner$Inquest", "weight", "(III)I"⟩, prog_6_method_11_code, 5, some .int, 3, 1, 4, 4),
  (⟨"StoryCoroner$Jury", "voteOn", "(II)I"⟩, prog_7_method_7_code, 4, some .int, 2, 1, 5, 5),
  (⟨"StoryCoroner$Jury", "votes", "(I)I"⟩, prog_7_method_6_code, 4, some .int, 1, 1, 5, 5),
  (⟨"StoryCoroner$Jury", "findsGuilty", "(I)Z"⟩, prog_7_method_8_code, 2, some .boolean, 1, 1, 5, 5),
  (⟨"StoryCoroner$Changes", "holdTrial", "(III)I"⟩, prog_3_method_13_code, 4, some .int, 3, 1, 1, 1),
  (⟨"StoryCoroner", "carryOut", "(I)I"⟩, prog_1_method_42_code, 5, some .int, 1, 1, 10, 10),
  (⟨"StoryCoroner", "character", "()I"⟩, prog_1_method_2_code, 1, some .int, 0, 1, 10, 10),
  (⟨"StoryCoroner$Book", "nextRising", "(II)I"⟩, prog_2_method_13_code, 4, some .int, 2, 1, 0, 0),
  (⟨"StoryCoroner$Counts", "chaptersLived", "(I)I"⟩, prog_4_method_2_code, 6, some .int, 1, 1, 2, 2),
  (⟨"StoryCoroner$Counts", "deathsCausedBy", "(I)I"⟩, prog_4_method_4_code, 5, some .int, 1, 1, 2, 2),
  (⟨"StoryCoroner$Counts", "pagesHeldBy", "(I)I"⟩, prog_4_method_5_code, 4, some .int, 1, 1, 2, 2),
  (⟨"StoryCoroner$Counts", "pagesAgainst", "(I)I"⟩, prog_4_method_6_code, 4, some .int, 1, 1, 2, 2),
  (⟨"StoryCoroner", "characterOf", "(II)I"⟩, prog_1_method_13_code, 3, some .int, 2, 1, 10, 10),
  (⟨"StoryCoroner$Inquest", "deadByLatest", "(I)I"⟩, prog_6_method_3_code, 4, some .int, 1, 1, 4, 4),
  (⟨"java/lang/Integer", "bitCount", "(I)I"⟩, prog_15_method_49_code, 1, some .int, 1, 0, 99, 12),
  (⟨"StoryCoroner$Inquest", "darkestChapter", "()I"⟩, prog_6_method_6_code, 5, some .int, 0, 1, 4, 4),
  (⟨"StoryCoroner", "darkest", "(I)I"⟩, prog_1_method_19_code, 3, some .int, 1, 1, 10, 10),
  (⟨"StoryCoroner", "dead", "(I)I"⟩, prog_1_method_17_code, 2, some .int, 1, 1, 10, 10),
  (⟨"StoryCoroner$Inquest", "afterChapter", "(II)I"⟩, prog_6_method_5_code, 7, some .int, 2, 1, 4, 4),
  (⟨"StoryCoroner$Inquest", "deadByChapters", "(I)I"⟩, prog_6_method_4_code, 4, some .int, 1, 1, 4, 4),
  (⟨"StoryCoroner", "deadAgain", "(I)I"⟩, prog_1_method_18_code, 2, some .int, 1, 1, 10, 10),
  (⟨"StoryCoroner$Inquest", "possibleCulprits", "(II)I"⟩, prog_6_method_8_code, 5, some .int, 2, 1, 4, 4),
  (⟨"StoryCoroner", "deathOf", "(III)I"⟩, prog_1_method_14_code, 4, some .int, 3, 1, 10, 10),
  (⟨"StoryCoroner", "die", "(II)I"⟩, prog_1_method_4_code, 3, some .int, 2, 1, 10, 10),
  (⟨"StoryCoroner", "guilty", "(III)I"⟩, prog_1_method_22_code, 4, some .int, 3, 1, 10, 10),
  (⟨"StoryCoroner$Inquest", "deadAgree", "()Z"⟩, prog_6_method_12_code, 3, some .boolean, 0, 1, 4, 4),
  (⟨"StoryCoroner$Inquest", "suspectByCharacters", "(II)I"⟩, prog_6_method_9_code, 7, some .int, 2, 1, 4, 4),
  (⟨"StoryCoroner$Inquest", "suspectByPages", "(II)I"⟩, prog_6_method_10_code, 5, some .int, 2, 1, 4, 4),
  (⟨"StoryCoroner$Inquest", "suspectsAgree", "()Z"⟩, prog_6_method_13_code, 3, some .boolean, 0, 1, 4, 4),
  (⟨"StoryCoroner$Inquest", "turnsAreInOrder", "()Z"⟩, prog_6_method_14_code, 5, some .boolean, 0, 1, 4, 4),
  (⟨"StoryCoroner", "isWell", "()I"⟩, prog_1_method_33_code, 1, some .int, 0, 1, 10, 10),
  (⟨"StoryCoroner", "leave", "(I)I"⟩, prog_1_method_11_code, 2, some .int, 1, 1, 10, 10),
  (⟨"StoryCoroner", "motive", "(III)I"⟩, prog_1_method_9_code, 4, some .int, 3, 1, 10, 10),
  (⟨"StoryCoroner", "pages", "(II)I"⟩, prog_1_method_16_code, 3, some .int, 2, 1, 10, 10),
  (⟨"StoryCoroner$Counts", "key", "(II)I"⟩, prog_4_method_16_code, 3, some .int, 2, 1, 2, 2),
  (⟨"StoryCoroner$Counts", "aheadOf", "(II)I"⟩, prog_4_method_17_code, 7, some .int, 2, 1, 2, 2),
  (⟨"StoryCoroner$Counts", "atPlace", "(II)I"⟩, prog_4_method_15_code, 5, some .int, 2, 1, 2, 2),
  (⟨"StoryCoroner", "ranked", "(II)I"⟩, prog_1_method_24_code, 3, some .int, 2, 1, 10, 10),
  (⟨"StoryCoroner$Text", "ahead", "()I"⟩, prog_11_method_10_code, 1, some .int, 0, 1, 9, 9),
  (⟨"StoryCoroner$Text", "take", "(I)Z"⟩, prog_11_method_12_code, 2, some .boolean, 1, 1, 9, 9),
  (⟨"StoryCoroner$Text", "isDigit", "(I)Z"⟩, prog_11_method_11_code, 1, some .boolean, 1, 0, 9, 9),
  (⟨"StoryCoroner$Text", "give", "(I)V"⟩, prog_11_method_17_code, 2, none, 1, 1, 9, 9),
  (⟨"StoryCoroner$Text", "takeDigit", "()Z"⟩, prog_11_method_13_code, 2, some .boolean, 0, 1, 9, 9),
  (⟨"StoryCoroner$Text", "takeNumber", "()Z"⟩, prog_11_method_14_code, 4, some .boolean, 0, 1, 9, 9),
  (⟨"StoryCoroner$Text", "takePlusOrMinus", "()Z"⟩, prog_11_method_15_code, 1, some .boolean, 0, 1, 9, 9),
  (⟨"StoryCoroner$Text", "takeSeverityOrMinus", "()Z"⟩, prog_11_method_16_code, 1, some .boolean, 0, 1, 9, 9),
  (⟨"StoryCoroner$Text", "takeCommand", "()Z"⟩, prog_11_method_9_code, 2, some .boolean, 0, 1, 9, 9),
  (⟨"StoryCoroner$Text", "parse", "()I"⟩, prog_11_method_8_code, 2, some .int, 0, 1, 9, 9),
  (⟨"StoryCoroner$Text", "clear", "()V"⟩, prog_11_method_3_code, 1, none, 0, 1, 9, 9),
  (⟨"StoryCoroner$Text", "commands", "()I"⟩, prog_11_method_5_code, 1, some .int, 0, 1, 9, 9),
  (⟨"StoryCoroner$History", "takeBack", "(LStoryCoroner$Book;)V"⟩, prog_5_method_5_code, 2, none, 1, 1, 3, 3),
  (⟨"StoryCoroner", "read", "()I"⟩, prog_1_method_30_code, 5, some .int, 0, 1, 10, 10),
  (⟨"StoryCoroner$Refusals", "tell", "(I)I"⟩, prog_9_method_4_code, 2, some .int, 1, 1, 7, 7),
  (⟨"StoryCoroner", "refusal", "(I)I"⟩, prog_1_method_31_code, 2, some .int, 1, 1, 10, 10),
  (⟨"StoryCoroner$History", "restoreSnapshot", "(LStoryCoroner$Book;)Z"⟩, prog_5_method_8_code, 2, some .boolean, 1, 1, 3, 3),
  (⟨"StoryCoroner", "restore", "()I"⟩, prog_1_method_37_code, 1, some .int, 0, 1, 10, 10),
  (⟨"StoryCoroner", "rise", "(II)I"⟩, prog_1_method_5_code, 3, some .int, 2, 1, 10, 10),
  (⟨"StoryCoroner$History", "saveSnapshot", "(LStoryCoroner$Book;)V"⟩, prog_5_method_7_code, 2, none, 1, 1, 3, 3),
  (⟨"StoryCoroner", "save", "()I"⟩, prog_1_method_36_code, 1, some .int, 0, 1, 10, 10),
  (⟨"StoryCoroner", "seat", "(II)I"⟩, prog_1_method_10_code, 3, some .int, 2, 1, 10, 10),
  (⟨"StoryCoroner", "share", "()I"⟩, prog_1_method_34_code, 2, some .int, 0, 1, 10, 10),
  (⟨"StoryCoroner$Line", "codeAt", "(I)I"⟩, prog_8_method_4_code, 2, some .int, 1, 1, 6, 6),
  (⟨"StoryCoroner", "sign", "(I)I"⟩, prog_1_method_28_code, 2, some .int, 1, 1, 10, 10),
  (⟨"StoryCoroner", "strike", "(I)I"⟩, prog_1_method_6_code, 2, some .int, 1, 1, 10, 10),
  (⟨"StoryCoroner", "suspect", "(II)I"⟩, prog_1_method_20_code, 3, some .int, 2, 1, 10, 10),
  (⟨"StoryCoroner", "suspectAgain", "(II)I"⟩, prog_1_method_21_code, 3, some .int, 2, 1, 10, 10),
  (⟨"StoryCoroner", "swear", "(II)I"⟩, prog_1_method_8_code, 3, some .int, 2, 1, 10, 10),
  (⟨"StoryCoroner$Line", "clear", "()V"⟩, prog_8_method_3_code, 1, none, 0, 1, 6, 6),
  (⟨"StoryCoroner$Line", "size", "()I"⟩, prog_8_method_2_code, 1, some .int, 0, 1, 6, 6),
  (⟨"StoryCoroner", "tellChapter", "(I)I"⟩, prog_1_method_26_code, 2, some .int, 1, 1, 10, 10),
  (⟨"StoryCoroner", "tellCharacter", "(I)I"⟩, prog_1_method_25_code, 3, some .int, 1, 1, 10, 10),
  (⟨"StoryCoroner", "tellJury", "()I"⟩, prog_1_method_27_code, 2, some .int, 0, 1, 10, 10),
  (⟨"StoryCoroner", "trial", "(III)I"⟩, prog_1_method_12_code, 4, some .int, 3, 1, 10, 10),
  (⟨"StoryCoroner$History", "stepBack", "(LStoryCoroner$Book;)Z"⟩, prog_5_method_6_code, 2, some .boolean, 1, 1, 3, 3),
  (⟨"StoryCoroner", "undo", "()I"⟩, prog_1_method_35_code, 1, some .int, 0, 1, 10, 10),
  (⟨"StoryCoroner$Jury", "wouldFindGuilty", "(III)Z"⟩, prog_7_method_9_code, 7, some .boolean, 3, 1, 5, 5),
  (⟨"StoryCoroner", "would", "(IIIII)I"⟩, prog_1_method_23_code, 7, some .int, 5, 1, 10, 10),
  (⟨"StoryCoroner", "write", "(II)I"⟩, prog_1_method_7_code, 3, some .int, 2, 1, 10, 10),
  (⟨"StoryCoronerModel", "<init>", "()V"⟩, prog_13_method_1_code, 2, none, 0, 2, 11, 11),
  (⟨"StoryCoronerModel", "of", "(II)I"⟩, prog_13_method_9_code, 3, some .int, 2, 1, 11, 11),
  (⟨"StoryCoronerModel", "deathsOf", "(I)I"⟩, prog_13_method_15_code, 2, some .int, 1, 1, 11, 11),
  (⟨"StoryCoronerModel", "allDeaths", "()I"⟩, prog_13_method_94_code, 3, some .int, 0, 1, 11, 11),
  (⟨"StoryCoronerModel", "risingsOf", "(I)I"⟩, prog_13_method_16_code, 2, some .int, 1, 1, 11, 11),
  (⟨"StoryCoronerModel", "allRisings", "()I"⟩, prog_13_method_95_code, 3, some .int, 0, 1, 11, 11),
  (⟨"StoryCoronerModel", "culprit", "(II)I"⟩, prog_13_method_19_code, 3, some .int, 2, 1, 11, 11),
  (⟨"StoryCoronerModel", "solvedOf", "(I)I"⟩, prog_13_method_57_code, 4, some .int, 1, 1, 11, 11),
  (⟨"StoryCoronerModel", "allSolved", "()I"⟩, prog_13_method_96_code, 3, some .int, 0, 1, 11, 11),
  (⟨"StoryCoronerModel", "sitting", "()I"⟩, prog_13_method_43_code, 3, some .int, 0, 1, 11, 11),
  (⟨"StoryCoronerModel", "written", "()I"⟩, prog_13_method_97_code, 3, some .int, 0, 1, 11, 11),
  (⟨"StoryCoronerModel", "swornMany", "()I"⟩, prog_13_method_37_code, 3, some .int, 0, 1, 11, 11),
  (⟨"StoryCoronerModel", "account", "(I)I"⟩, prog_13_method_98_code, 2, some .int, 1, 1, 11, 11),
  (⟨"StoryCoronerModel", "sets", "(III)V"⟩, prog_13_method_10_code, 4, none, 3, 1, 11, 11),
  (⟨"StoryCoronerModel", "adds", "(II)V"⟩, prog_13_method_27_code, 4, none, 2, 1, 11, 11),
  (⟨"StoryCoronerModel", "isIn", "(III)Z"⟩, prog_13_method_2_code, 3, some .boolean, 3, 0, 11, 11),
  (⟨"StoryCoronerModel", "append", "(I)I"⟩, prog_13_method_82_code, 2, some .int, 1, 1, 11, 11),
  (⟨"StoryCoronerModel", "copies", "([II[II)V"⟩, prog_13_method_3_code, 5, none, 4, 0, 11, 11),
  (⟨"StoryCoronerModel", "keeps", "()V"⟩, prog_13_method_4_code, 1, none, 0, 1, 11, 11),
  (⟨"StoryCoronerModel", "isRefused", "(ZII)Z"⟩, prog_13_method_8_code, 4, some .boolean, 3, 1, 11, 11),
  (⟨"StoryCoronerModel", "tellsAuthor", "()I"⟩, prog_13_method_25_code, 1, some .int, 0, 1, 11, 11),
  (⟨"StoryCoronerModel", "isError", "(I)Z"⟩, prog_13_method_6_code, 1, some .boolean, 1, 0, 11, 11),
  (⟨"StoryCoronerModel", "changed", "()V"⟩, prog_13_method_5_code, 2, none, 0, 1, 11, 11),
  (⟨"StoryCoronerModel", "ends", "(I)I"⟩, prog_13_method_7_code, 2, some .int, 1, 1, 11, 11),
  (⟨"StoryCoronerModel", "author", "()I"⟩, prog_13_method_26_code, 1, some .int, 0, 1, 11, 11),
  (⟨"StoryCoronerModel", "isAuthor", "(I)Z"⟩, prog_13_method_12_code, 2, some .boolean, 1, 1, 11, 11),
  (⟨"StoryCoronerModel", "chaptersBy", "(I)I"⟩, prog_13_method_63_code, 4, some .int, 1, 1, 11, 11),
  (⟨"StoryCoronerModel", "chapterOf", "(II)I"⟩, prog_13_method_18_code, 3, some .int, 2, 1, 11, 11),
  (⟨"StoryCoronerModel", "deathsBy", "(IZ)I"⟩, prog_13_method_64_code, 7, some .int, 2, 1, 11, 11),
  (⟨"StoryCoronerModel", "authorOf", "(II)I"⟩, prog_13_method_65_code, 3, some .int, 2, 1, 11, 11),
  (⟨"StoryCoronerModel", "pagesOf", "(II)I"⟩, prog_13_method_40_code, 3, some .int, 2, 1, 11, 11),
  (⟨"StoryCoronerModel", "isDeadIn", "(II)Z"⟩, prog_13_method_22_code, 4, some .boolean, 2, 1, 11, 11),
  (⟨"StoryCoronerModel", "could", "(III)Z"⟩, prog_13_method_48_code, 4, some .boolean, 3, 1, 11, 11),
  (⟨"StoryCoronerModel", "causers", "(II)I"⟩, prog_13_method_61_code, 5, some .int, 2, 1, 11, 11),
  (⟨"StoryCoronerModel", "comes", "()I"⟩, prog_13_method_23_code, 2, some .int, 0, 1, 11, 11),
  (⟨"StoryCoronerModel", "character", "()I"⟩, prog_13_method_24_code, 1, some .int, 0, 1, 11, 11),
  (⟨"StoryCoronerModel", "isCharacter", "(I)Z"⟩, prog_13_method_11_code, 2, some .boolean, 1, 1, 11, 11),
  (⟨"StoryCoronerModel", "lives", "(I)I"⟩, prog_13_method_56_code, 4, some .int, 1, 1, 11, 11),
  (⟨"StoryCoronerModel", "culpritMany", "(I)I"⟩, prog_13_method_58_code, 5, some .int, 1, 1, 11, 11),
  (⟨"StoryCoronerModel", "motives", "(IZ)I"⟩, prog_13_method_59_code, 5, some .int, 2, 1, 11, 11),
  (⟨"StoryCoronerModel", "characterOf", "(II)I"⟩, prog_13_method_60_code, 3, some .int, 2, 1, 11, 11),
  (⟨"StoryCoronerModel", "deadMany", "(I)I"⟩, prog_13_method_70_code, 4, some .int, 1, 1, 11, 11),
  (⟨"StoryCoronerModel", "darkest", "(I)I"⟩, prog_13_method_71_code, 4, some .int, 1, 1, 11, 11),
  (⟨"StoryCoronerModel", "isChapter", "(I)Z"⟩, prog_13_method_13_code, 1, some .boolean, 1, 0, 11, 11),
  (⟨"StoryCoronerModel", "deadIn", "(I)I"⟩, prog_13_method_67_code, 4, some .int, 1, 1, 11, 11),
  (⟨"StoryCoronerModel", "dead", "(I)I"⟩, prog_13_method_68_code, 2, some .int, 1, 1, 11, 11),
  (⟨"StoryCoronerModel", "deadAgain", "(I)I"⟩, prog_13_method_69_code, 2, some .int, 1, 1, 11, 11),
  (⟨"StoryCoronerModel", "isDeath", "(II)Z"⟩, prog_13_method_17_code, 3, some .boolean, 2, 1, 11, 11),
  (⟨"StoryCoronerModel", "deathOf", "(III)I"⟩, prog_13_method_62_code, 4, some .int, 3, 1, 11, 11),
  (⟨"StoryCoronerModel", "isDeadNow", "(I)Z"⟩, prog_13_method_20_code, 2, some .boolean, 1, 1, 11, 11),
  (⟨"StoryCoronerModel", "lastChapter", "(I)I"⟩, prog_13_method_21_code, 3, some .int, 1, 1, 11, 11),
  (⟨"StoryCoronerModel", "isTooEarly", "(II)Z"⟩, prog_13_method_28_code, 4, some .boolean, 2, 1, 11, 11),
  (⟨"StoryCoronerModel", "dies", "(II)I"⟩, prog_13_method_29_code, 3, some .int, 2, 1, 11, 11),
  (⟨"StoryCoronerModel", "die", "(II)I"⟩, prog_13_method_30_code, 3, some .int, 2, 1, 11, 11),
  (⟨"StoryCoronerModel", "rises", "(II)I"⟩, prog_13_method_31_code, 4, some .int, 2, 1, 11, 11),
  (⟨"StoryCoronerModel", "strikes", "(I)I"⟩, prog_13_method_33_code, 4, some .int, 1, 1, 11, 11),
  (⟨"StoryCoronerModel", "writes", "(II)I"⟩, prog_13_method_35_code, 4, some .int, 2, 1, 11, 11),
  (⟨"StoryCoronerModel", "swears", "(II)I"⟩, prog_13_method_38_code, 3, some .int, 2, 1, 11, 11),
  (⟨"StoryCoronerModel", "tellsMotive", "(III)I"⟩, prog_13_method_41_code, 5, some .int, 3, 1, 11, 11),
  (⟨"StoryCoronerModel", "isSeat", "(I)Z"⟩, prog_13_method_14_code, 1, some .boolean, 1, 0, 11, 11),
  (⟨"StoryCoronerModel", "lets", "(I)I"⟩, prog_13_method_46_code, 2, some .int, 1, 1, 11, 11),
  (⟨"StoryCoronerModel", "seats", "(II)I"⟩, prog_13_method_44_code, 3, some .int, 2, 1, 11, 11),
  (⟨"StoryCoronerModel", "weight", "(III)I"⟩, prog_13_method_49_code, 5, some .int, 3, 1, 11, 11),
  (⟨"StoryCoronerModel", "guiltyMany", "(III)I"⟩, prog_13_method_50_code, 6, some .int, 3, 1, 11, 11),
  (⟨"StoryCoronerModel", "isFound", "(III)Z"⟩, prog_13_method_51_code, 4, some .boolean, 3, 1, 11, 11),
  (⟨"StoryCoronerModel", "tries", "(III)I"⟩, prog_13_method_52_code, 5, some .int, 3, 1, 11, 11),
  (⟨"StoryCoronerModel", "does", "(I)I"⟩, prog_13_method_91_code, 5, some .int, 1, 1, 11, 11),
  (⟨"StoryCoronerModel", "guilty", "(III)I"⟩, prog_13_method_54_code, 4, some .int, 3, 1, 11, 11),
  (⟨"StoryCoronerModel", "isAhead", "(III)Z"⟩, prog_13_method_74_code, 5, some .boolean, 3, 1, 11, 11),
  (⟨"StoryCoronerModel", "signHere", "()I"⟩, prog_13_method_83_code, 1, some .int, 0, 1, 11, 11),
  (⟨"StoryCoronerModel", "isHere", "(I)Z"⟩, prog_13_method_84_code, 3, some .boolean, 1, 1, 11, 11),
  (⟨"StoryCoronerModel", "isKind", "(I)Z"⟩, prog_13_method_88_code, 1, some .boolean, 1, 0, 11, 11),
  (⟨"StoryCoronerModel", "isNumber", "(II)Z"⟩, prog_13_method_85_code, 5, some .boolean, 2, 1, 11, 11),
  (⟨"StoryCoronerModel", "isOath", "(I)Z"⟩, prog_13_method_86_code, 2, some .boolean, 1, 1, 11, 11),
  (⟨"StoryCoronerModel", "isReader", "(I)Z"⟩, prog_13_method_87_code, 2, some .boolean, 1, 1, 11, 11),
  (⟨"StoryCoronerModel", "readsCommand", "()Z"⟩, prog_13_method_89_code, 3, some .boolean, 0, 1, 11, 11),
  (⟨"StoryCoronerModel", "isText", "()Z"⟩, prog_13_method_90_code, 2, some .boolean, 0, 1, 11, 11),
  (⟨"StoryCoronerModel", "isWell", "()I"⟩, prog_13_method_99_code, 4, some .int, 0, 1, 11, 11),
  (⟨"StoryCoronerModel", "leave", "(I)I"⟩, prog_13_method_47_code, 2, some .int, 1, 1, 11, 11),
  (⟨"StoryCoronerModel", "motive", "(III)I"⟩, prog_13_method_42_code, 4, some .int, 3, 1, 11, 11),
  (⟨"StoryCoronerModel", "puts", "(I)V"⟩, prog_13_method_76_code, 2, none, 1, 1, 11, 11),
  (⟨"StoryCoronerModel", "number", "(I)V"⟩, prog_13_method_77_code, 2, none, 1, 1, 11, 15),
  (⟨"StoryCoronerModel", "number", "(I)V"⟩, prog_13_method_77_code, 2, none, 1, 1, 11, 16),
  (⟨"StoryCoronerModel", "pages", "(II)I"⟩, prog_13_method_66_code, 3, some .int, 2, 1, 11, 11),
  (⟨"StoryCoronerModel", "ranked", "(II)I"⟩, prog_13_method_75_code, 7, some .int, 2, 1, 11, 11),
  (⟨"StoryCoronerModel", "read", "()I"⟩, prog_13_method_92_code, 4, some .int, 0, 1, 11, 11),
  (⟨"StoryCoronerModel", "refusal", "(I)I"⟩, prog_13_method_93_code, 2, some .int, 1, 1, 11, 11),
  (⟨"StoryCoronerModel", "restore", "()I"⟩, prog_13_method_103_code, 1, some .int, 0, 1, 11, 11),
  (⟨"StoryCoronerModel", "rise", "(II)I"⟩, prog_13_method_32_code, 3, some .int, 2, 1, 11, 11),
  (⟨"StoryCoronerModel", "save", "()I"⟩, prog_13_method_102_code, 1, some .int, 0, 1, 11, 11),
  (⟨"StoryCoronerModel", "seat", "(II)I"⟩, prog_13_method_45_code, 3, some .int, 2, 1, 11, 11),
  (⟨"java/lang/Float", "isNaN", "(F)Z"⟩, prog_14_method_6_code, 1, some .boolean, 1, 0, 99, 14),
  (⟨"java/lang/Float", "floatToIntBits", "(F)I"⟩, prog_14_method_24_code, 1, some .int, 1, 0, 99, 14),
  (⟨"StoryCoronerModel", "share", "()I"⟩, prog_13_method_100_code, 2, some .int, 0, 1, 11, 11),
  (⟨"StoryCoronerModel", "sign", "(I)I"⟩, prog_13_method_81_code, 2, some .int, 1, 1, 11, 11),
  (⟨"StoryCoronerModel", "strike", "(I)I"⟩, prog_13_method_34_code, 2, some .int, 1, 1, 11, 11),
  (⟨"StoryCoronerModel", "suspect", "(II)I"⟩, prog_13_method_72_code, 6, some .int, 2, 1, 11, 11),
  (⟨"StoryCoronerModel", "suspectAgain", "(II)I"⟩, prog_13_method_73_code, 3, some .int, 2, 1, 11, 11),
  (⟨"StoryCoronerModel", "swear", "(II)I"⟩, prog_13_method_39_code, 3, some .int, 2, 1, 11, 11),
  (⟨"StoryCoronerModel", "tellChapter", "(I)I"⟩, prog_13_method_79_code, 5, some .int, 1, 1, 11, 11),
  (⟨"StoryCoronerModel", "tellCharacter", "(I)I"⟩, prog_13_method_78_code, 3, some .int, 1, 1, 11, 11),
  (⟨"StoryCoronerModel", "tellJury", "()I"⟩, prog_13_method_80_code, 2, some .int, 0, 1, 11, 11),
  (⟨"StoryCoronerModel", "trial", "(III)I"⟩, prog_13_method_53_code, 4, some .int, 3, 1, 11, 11),
  (⟨"StoryCoronerModel", "undo", "()I"⟩, prog_13_method_101_code, 1, some .int, 0, 1, 11, 11),
  (⟨"StoryCoronerModel", "would", "(IIIII)I"⟩, prog_13_method_55_code, 8, some .int, 5, 1, 11, 11),
  (⟨"StoryCoronerModel", "write", "(II)I"⟩, prog_13_method_36_code, 3, some .int, 2, 1, 11, 11)]
def ai_mw : List (Nat × Nat × Nat × Nat) := [(120, 85, 119, 0), (116, 84, 115, 0), (110, 83, 109, 0), (183, 86, 182, 0), (193, 87, 192, 0), (203, 88, 202, 0), (222, 89, 221, 0), (237, 90, 236, 0), (256, 91, 255, 0), (281, 92, 280, 0), (311, 93, 310, 0), (102, 82, 101, 0), (434, 84, 432, 433), (438, 83, 436, 437), (944, 89, 942, 943), (631, 83, 629, 630), (948, 89, 946, 947), (581, 83, 579, 580), (577, 83, 575, 576), (645, 89, 643, 644), (953, 89, 951, 952), (541, 87, 539, 540), (546, 87, 544, 545), (682, 89, 680, 681), (959, 89, 957, 958), (511, 83, 509, 510), (860, 92, 858, 859), (965, 91, 963, 964), (940, 82, 938, 939), (459, 84, 457, 458), (808, 93, 806, 807), (804, 93, 802, 803), (833, 82, 832, 11), (450, 83, 448, 449), (814, 82, 813, 9), (495, 83, 493, 494), (606, 83, 604, 605), (828, 82, 827, 10), (855, 92, 853, 854), (851, 82, 849, 850), (361, 88, 359, 360), (369, 91, 368, 1), (380, 85, 379, 0), (377, 84, 375, 376), (373, 83, 371, 372), (365, 91, 363, 364), (357, 82, 356, 0), (391, 88, 389, 390), (411, 90, 409, 410), (398, 82, 397, 0), (402, 91, 400, 401), (395, 82, 394, 2), (407, 82, 405, 406), (591, 83, 589, 590), (691, 89, 690, 5), (687, 89, 685, 686), (695, 89, 693, 694), (677, 82, 675, 676), (991, 82, 990, 0), (920, 92, 918, 919), (924, 92, 922, 923), (387, 90, 385, 386), (423, 83, 421, 422), (426, 83, 425, 0), (430, 83, 428, 429), (446, 83, 444, 445), (442, 90, 441, 3), (455, 83, 453, 454), (419, 90, 417, 418), (467, 90, 465, 466), (483, 83, 481, 482), (479, 83, 477, 478), (475, 90, 473, 474), (491, 90, 489, 490), (507, 82, 506, 0), (504, 90, 502, 503), (523, 83, 521, 522), (519, 90, 517, 518), (534, 87, 533, 0), (555, 90, 553, 554), (537, 87, 536, 0), (531, 90, 529, 530), (572, 83, 570, 571), (567, 83, 565, 566), (595, 86, 593, 594), (586, 86, 584, 585), (601, 86, 599, 600), (619, 87, 618, 4), (615, 87, 613, 614), (611, 87, 609, 610), (563, 90, 561, 562), (916, 82, 915, 20), (353, 82, 351, 352), (640, 83, 638, 639), (635, 89, 633, 634), (650, 89, 648, 649), (655, 89, 653, 654), (660, 89, 658, 659), (625, 82, 623, 624), (709, 86, 707, 708), (735, 96, 734, 0), (731, 86, 729, 730), (726, 82, 724, 725), (704, 82, 702, 703), (721, 86, 720, 6), (717, 86, 715, 716), (713, 82, 711, 712), (672, 86, 670, 671), (664, 82, 662, 663), (415, 82, 413, 414), (759, 82, 757, 758), (973, 86, 971, 972), (747, 86, 745, 746), (755, 86, 753, 754), (977, 86, 975, 976), (984, 86, 982, 983), (969, 82, 967, 968), (551, 82, 549, 550), (515, 82, 513, 514), (699, 82, 697, 698), (784, 89, 783, 7), (792, 89, 791, 8), (780, 89, 778, 779), (776, 82, 774, 775), (876, 92, 875, 13), (881, 92, 880, 14), (888, 92, 887, 0), (892, 92, 891, 16), (885, 92, 884, 15), (896, 92, 895, 17), (900, 92, 899, 18), (904, 92, 903, 19), (872, 92, 871, 12), (868, 92, 866, 867), (908, 92, 906, 907), (912, 92, 910, 911), (928, 91, 926, 927), (864, 82, 862, 863), (936, 88, 934, 935), (932, 82, 930, 931), (1017, 91, 1015, 1016), (1013, 82, 1011, 1012), (463, 82, 461, 462), (1009, 91, 1007, 1008), (1005, 82, 1003, 1004), (527, 82, 525, 526), (988, 82, 986, 987), (846, 93, 844, 845), (842, 82, 840, 841), (471, 82, 469, 470), (743, 82, 741, 742), (751, 82, 749, 750), (500, 82, 498, 499), (800, 93, 798, 799), (820, 93, 818, 819), (824, 82, 822, 823), (796, 82, 794, 795), (837, 82, 835, 836), (559, 82, 557, 558), (1000, 91, 998, 999), (996, 82, 994, 995), (772, 87, 770, 771), (766, 82, 764, 765), (487, 82, 485, 486), (1022, 94, 1021, 0), (1140, 94, 1139, 31), (1144, 94, 1143, 32), (1444, 94, 1443, 77), (1287, 94, 1286, 56), (1448, 94, 1447, 78), (1247, 94, 1246, 49), (1295, 94, 1294, 58), (1452, 94, 1451, 79), (1223, 94, 1222, 45), (1456, 94, 1455, 80), (1196, 94, 1195, 41), (1440, 94, 1438, 1439), (1095, 94, 1094, 24), (1156, 94, 1155, 35), (1129, 94, 1128, 0), (1393, 94, 1391, 1392), (1083, 94, 1082, 0), (1080, 94, 1079, 21), (1091, 94, 1090, 23), (1114, 94, 1113, 27), (1102, 94, 1101, 0), (1106, 94, 1105, 26), (1099, 94, 1098, 25), (1110, 94, 1108, 1109), (1184, 94, 1183, 39), (1319, 94, 1318, 62), (1255, 94, 1254, 51), (1323, 94, 1322, 63), (1315, 94, 1313, 1314), (1208, 94, 1207, 43), (1259, 94, 1258, 52), (1251, 94, 1250, 50), (1311, 94, 1310, 61), (1087, 94, 1086, 22), (1076, 94, 1074, 1075), (1126, 94, 1125, 29), (1291, 94, 1290, 57), (1299, 94, 1298, 59), (1303, 94, 1302, 60), (1283, 94, 1281, 1282), (1348, 94, 1347, 65), (1344, 94, 1342, 1343), (1132, 94, 1131, 0), (1335, 94, 1334, 64), (1331, 94, 1329, 1330), (1339, 94, 1337, 1338), (1243, 94, 1242, 48), (1307, 94, 1305, 1306), (1136, 94, 1135, 30), (1152, 94, 1151, 34), (1148, 94, 1147, 33), (1122, 94, 1121, 28), (1118, 94, 1116, 1117), (1164, 94, 1163, 36), (1172, 94, 1171, 37), (1180, 94, 1179, 38), (1192, 94, 1191, 40), (1204, 94, 1203, 42), (1219, 94, 1218, 0), (1231, 94, 1230, 46), (1216, 94, 1215, 44), (1271, 94, 1270, 55), (1267, 94, 1266, 54), (1263, 94, 1262, 53), (1239, 94, 1238, 47), (1432, 94, 1431, 76), (1275, 94, 1273, 1274), (1365, 94, 1364, 66), (1409, 94, 1408, 71), (1420, 94, 1419, 73), (1412, 94, 1411, 0), (1416, 94, 1415, 72), (1424, 94, 1423, 74), (1428, 94, 1427, 75), (1405, 94, 1404, 70), (1401, 94, 1400, 69), (1460, 94, 1458, 1459), (1227, 94, 1225, 1226), (1200, 94, 1198, 1199), (1377, 94, 1376, 68), (1373, 94, 1372, 67), (1373, 94, 1372, 67), (1327, 94, 1325, 1326), (1361, 94, 1359, 1360), (1397, 94, 1395, 1396), (1436, 94, 1434, 1435), (1486, 94, 1484, 1485), (1160, 94, 1158, 1159), (1482, 94, 1480, 1481), (1212, 94, 1210, 1211), (1470, 97, 1469, 0), (1467, 97, 1466, 0), (1464, 94, 1462, 1463), (1389, 94, 1387, 1388), (1168, 94, 1166, 1167), (1352, 94, 1350, 1351), (1356, 94, 1354, 1355), (1188, 94, 1186, 1187), (1381, 94, 1379, 1380), (1369, 94, 1367, 1368), (1385, 94, 1383, 1384), (1235, 94, 1233, 1234), (1478, 94, 1476, 1477), (1279, 94, 1277, 1278), (1176, 94, 1174, 1175)]
/-- the classes of the views -/
def ai_vc : List String := ["StoryCoroner$Book", "StoryCoroner$Changes", "StoryCoroner$Counts", "StoryCoroner$History", "StoryCoroner$Inquest", "StoryCoroner$Jury", "StoryCoroner$Line", "StoryCoroner$Refusals", "StoryCoroner$Row", "StoryCoroner$Text", "StoryCoroner", "StoryCoronerModel", "java/lang/Integer", "java/lang/Math", "java/lang/Float", "StoryCoronerModel", "StoryCoronerModel"]
/-- calls: a view, a place in the pool: kind (0 virtual, 1 static, 2 special, 3 static among nest mates, 4 special among nest mates, 5 Object, 6 arraycopy, 7 floatToRawIntBits), callee, place of the word -/
def ai_vm : List (List (Nat × (Nat × Nat × Nat))) := [
  [(3, (5, 0, 111)), (11, (2, 1, 114)), (45, (0, 13, 573)), (49, (0, 62, 568)), (53, (0, 82, 569)), (57, (0, 12, 431)), (60, (0, 33, 447)), (64, (0, 17, 578)), (67, (0, 29, 456)), (70, (0, 70, 480)), (74, (0, 35, 607)), (80, (0, 43, 374))],
  [(3, (5, 0, 238)), (33, (0, 47, 388)), (42, (0, 62, 420)), (46, (1, 63, 424)), (49, (0, 64, 427)), (52, (0, 13, 435)), (56, (0, 66, 439)), (60, (0, 67, 452)), (64, (0, 65, 443)), (71, (0, 12, 451)), (76, (0, 71, 476)), (80, (0, 35, 492)), (86, (0, 29, 496)), (95, (0, 25, 508)), (99, (0, 76, 520)), (105, (1, 78, 532)), (110, (1, 80, 535)), (113, (0, 21, 538)), (119, (0, 22, 543)), (122, (0, 83, 564)), (126, (0, 18, 574)), (129, (0, 17, 582)), (132, (0, 85, 583)), (137, (0, 53, 597)), (143, (0, 86, 598)), (147, (0, 89, 608)), (150, (0, 70, 621)), (89, (3, 74, 505))],
  [(3, (5, 0, 223)), (11, (2, 1, 225)), (24, (0, 13, 636)), (30, (0, 93, 637)), (34, (0, 53, 641)), (37, (0, 18, 646)), (45, (0, 17, 651)), (48, (0, 76, 656)), (54, (0, 12, 683)), (57, (0, 23, 960)), (60, (0, 54, 688)), (64, (0, 15, 949)), (67, (0, 19, 954)), (73, (0, 120, 781)), (76, (0, 29, 788)), (79, (0, 121, 789)), (82, (0, 94, 785)), (85, (0, 95, 786)), (88, (0, 55, 787))],
  [(3, (5, 0, 257)), (29, (0, 41, 366)), (33, (0, 44, 370)), (37, (1, 42, 403)), (43, (0, 136, 1001)), (17, (4, 2, 260))],
  [(3, (5, 0, 184)), (21, (0, 12, 596)), (34, (0, 84, 592)), (38, (0, 104, 718)), (42, (0, 33, 722)), (45, (0, 99, 732)), (48, (1, 100, 733)), (53, (0, 76, 587)), (56, (0, 53, 588)), (59, (0, 85, 602)), (63, (0, 36, 603)), (67, (0, 13, 978)), (70, (0, 112, 979)), (73, (0, 113, 980))],
  [(3, (5, 0, 194)), (21, (0, 12, 542)), (27, (0, 21, 547)), (31, (0, 87, 616)), (35, (0, 88, 612)), (38, (0, 22, 620))],
  [(3, (5, 0, 312)), (11, (2, 1, 314)), (24, (0, 12, 847)), (28, (0, 29, 809)), (31, (0, 30, 805))],
  [(3, (5, 0, 204))],
  [(1, (5, 0, 117)), (7, (1, 0, 118)), (19, (1, 42, 378)), (22, (6, 0, 381))],
  [(3, (5, 0, 282)), (11, (2, 1, 284)), (30, (0, 29, 856)), (36, (0, 12, 877)), (43, (0, 132, 869)), (47, (0, 125, 878)), (51, (0, 124, 873)), (58, (0, 128, 882)), (61, (0, 129, 893)), (64, (0, 130, 897)), (67, (0, 131, 901)), (70, (1, 126, 886)), (73, (0, 127, 889))],
  [(1, (5, 0, 103)), (12, (2, 3, 181)), (17, (2, 4, 191)), (37, (2, 6, 220)), (48, (2, 7, 235)), (57, (2, 8, 254)), (76, (0, 46, 354)), (79, (0, 61, 384)), (83, (0, 51, 392)), (87, (0, 48, 408)), (90, (0, 68, 416)), (94, (0, 69, 464)), (97, (0, 72, 472)), (100, (0, 73, 488)), (103, (0, 75, 501)), (106, (0, 77, 516)), (110, (0, 81, 528)), (113, (0, 79, 552)), (116, (0, 90, 560)), (119, (0, 62, 626)), (123, (0, 13, 627)), (126, (0, 15, 628)), (129, (0, 94, 632)), (132, (0, 19, 642)), (135, (0, 95, 647)), (138, (0, 96, 652)), (141, (0, 97, 657)), (144, (0, 82, 665)), (148, (0, 53, 666)), (151, (0, 17, 667)), (158, (0, 12, 668)), (163, (0, 107, 669)), (166, (0, 93, 673)), (169, (0, 35, 678)), (175, (0, 23, 679)), (178, (0, 55, 684)), (181, (0, 56, 692)), (184, (0, 76, 700)), (187, (1, 63, 705)), (190, (0, 99, 706)), (193, (0, 105, 714)), (196, (1, 74, 727)), (199, (0, 101, 728)), (202, (1, 100, 739)), (207, (0, 112, 744)), (210, (0, 113, 752)), (213, (0, 83, 760)), (217, (0, 86, 761)), (220, (0, 88, 762)), (223, (1, 78, 767)), (226, (1, 80, 768)), (229, (0, 161, 769)), (232, (0, 122, 777)), (235, (0, 153, 797)), (238, (0, 31, 801)), (242, (0, 30, 810)), (248, (0, 34, 811)), (252, (0, 154, 817)), (255, (0, 37, 825)), (258, (0, 32, 830)), (261, (0, 21, 838)), (267, (0, 147, 843)), (270, (0, 38, 852)), (272, (0, 26, 857)), (273, (0, 133, 865)), (276, (0, 134, 905)), (277, (0, 45, 362)), (280, (0, 135, 909)), (283, (0, 40, 358)), (286, (0, 91, 913)), (289, (1, 49, 396)), (292, (0, 136, 925)), (295, (0, 50, 399)), (298, (0, 138, 933)), (308, (0, 14, 941)), (311, (0, 16, 945)), (314, (0, 20, 950)), (317, (0, 22, 955)), (323, (0, 24, 956)), (326, (0, 25, 961)), (329, (0, 27, 962)), (330, (0, 111, 970)), (334, (0, 114, 974)), (337, (0, 115, 981)), (340, (1, 58, 989)), (344, (0, 159, 997)), (348, (0, 143, 1006)), (351, (0, 140, 1014)), (354, (0, 59, 917)), (357, (0, 60, 921)), (360, (0, 33, 815)), (363, (0, 18, 816)), (366, (0, 36, 829)), (9, (4, 2, 108)), (20, (4, 5, 201)), (64, (4, 9, 279)), (71, (4, 10, 309))],
  [(3, (5, 0, 1023)), (35, (1, 181, 1081)), (42, (1, 185, 1100)), (46, (0, 186, 1103)), (55, (1, 179, 1127)), (59, (0, 165, 1137)), (63, (0, 200, 1123)), (66, (0, 166, 1141)), (70, (0, 183, 1088)), (74, (0, 177, 1092)), (78, (0, 182, 1077)), (81, (0, 198, 1084)), (85, (0, 187, 1096)), (88, (0, 184, 1111)), (91, (0, 214, 1149)), (94, (1, 207, 1130)), (97, (0, 213, 1133)), (100, (0, 215, 1145)), (104, (0, 178, 1153)), (108, (0, 216, 1119)), (111, (0, 218, 1161)), (114, (0, 219, 1169)), (117, (0, 189, 1181)), (120, (0, 220, 1177)), (123, (0, 175, 1193)), (126, (0, 221, 1189)), (129, (0, 194, 1205)), (132, (0, 222, 1201)), (136, (1, 223, 1217)), (139, (0, 173, 1220)), (142, (0, 225, 1213)), (145, (0, 224, 1228)), (148, (0, 191, 1252)), (151, (0, 195, 1256)), (154, (0, 196, 1248)), (157, (0, 226, 1268)), (160, (0, 227, 1264)), (163, (0, 211, 1240)), (166, (0, 170, 1244)), (169, (0, 228, 1260)), (172, (0, 229, 1236)), (175, (0, 168, 1284)), (178, (0, 201, 1288)), (181, (0, 171, 1292)), (184, (0, 202, 1296)), (187, (0, 203, 1300)), (191, (0, 197, 1308)), (194, (0, 190, 1316)), (197, (0, 192, 1320)), (200, (0, 208, 1332)), (203, (0, 209, 1340)), (206, (0, 205, 1345)), (209, (0, 260, 1357)), (212, (0, 232, 1362)), (218, (0, 246, 1370)), (222, (0, 244, 1374)), (231, (0, 233, 1406)), (234, (0, 234, 1417)), (237, (0, 236, 1413)), (243, (1, 235, 1410)), (246, (0, 237, 1421)), (249, (0, 238, 1425)), (252, (0, 239, 1402)), (256, (0, 240, 1398)), (259, (0, 230, 1429)), (262, (0, 167, 1441)), (265, (0, 169, 1445)), (268, (0, 172, 1449)), (271, (0, 174, 1453)), (274, (1, 256, 1465))],
  [],
  [],
  [(59, (1, 255, 1468)), (74, (7, 0, 1471))],
  [(3, (5, 0, 1023)), (35, (1, 181, 1081)), (42, (1, 185, 1100)), (46, (0, 186, 1103)), (55, (1, 179, 1127)), (59, (0, 165, 1137)), (63, (0, 200, 1123)), (66, (0, 166, 1141)), (70, (0, 183, 1088)), (74, (0, 177, 1092)), (78, (0, 182, 1077)), (81, (0, 198, 1084)), (85, (0, 187, 1096)), (88, (0, 184, 1111)), (91, (0, 214, 1149)), (94, (1, 207, 1130)), (97, (0, 213, 1133)), (100, (0, 215, 1145)), (104, (0, 178, 1153)), (108, (0, 216, 1119)), (111, (0, 218, 1161)), (114, (0, 219, 1169)), (117, (0, 189, 1181)), (120, (0, 220, 1177)), (123, (0, 175, 1193)), (126, (0, 221, 1189)), (129, (0, 194, 1205)), (132, (0, 222, 1201)), (136, (1, 223, 1217)), (139, (0, 173, 1220)), (142, (0, 225, 1213)), (145, (0, 224, 1228)), (148, (0, 191, 1252)), (151, (0, 195, 1256)), (154, (0, 196, 1248)), (157, (0, 226, 1268)), (160, (0, 227, 1264)), (163, (0, 211, 1240)), (166, (0, 170, 1244)), (169, (0, 228, 1260)), (172, (0, 229, 1236)), (175, (0, 168, 1284)), (178, (0, 201, 1288)), (181, (0, 171, 1292)), (184, (0, 202, 1296)), (187, (0, 203, 1300)), (191, (0, 197, 1308)), (194, (0, 190, 1316)), (197, (0, 192, 1320)), (200, (0, 208, 1332)), (203, (0, 209, 1340)), (206, (0, 205, 1345)), (209, (0, 260, 1357)), (212, (0, 232, 1362)), (222, (0, 244, 1374)), (231, (0, 233, 1406)), (234, (0, 234, 1417)), (237, (0, 236, 1413)), (243, (1, 235, 1410)), (246, (0, 237, 1421)), (249, (0, 238, 1425)), (252, (0, 239, 1402)), (256, (0, 240, 1398)), (259, (0, 230, 1429)), (262, (0, 167, 1441)), (265, (0, 169, 1445)), (268, (0, 172, 1449)), (271, (0, 174, 1453)), (274, (1, 256, 1465))],
  [(3, (5, 0, 1023)), (35, (1, 181, 1081)), (42, (1, 185, 1100)), (46, (0, 186, 1103)), (55, (1, 179, 1127)), (59, (0, 165, 1137)), (63, (0, 200, 1123)), (66, (0, 166, 1141)), (70, (0, 183, 1088)), (74, (0, 177, 1092)), (78, (0, 182, 1077)), (81, (0, 198, 1084)), (85, (0, 187, 1096)), (88, (0, 184, 1111)), (91, (0, 214, 1149)), (94, (1, 207, 1130)), (97, (0, 213, 1133)), (100, (0, 215, 1145)), (104, (0, 178, 1153)), (108, (0, 216, 1119)), (111, (0, 218, 1161)), (114, (0, 219, 1169)), (117, (0, 189, 1181)), (120, (0, 220, 1177)), (123, (0, 175, 1193)), (126, (0, 221, 1189)), (129, (0, 194, 1205)), (132, (0, 222, 1201)), (136, (1, 223, 1217)), (139, (0, 173, 1220)), (142, (0, 225, 1213)), (145, (0, 224, 1228)), (148, (0, 191, 1252)), (151, (0, 195, 1256)), (154, (0, 196, 1248)), (157, (0, 226, 1268)), (160, (0, 227, 1264)), (163, (0, 211, 1240)), (166, (0, 170, 1244)), (169, (0, 228, 1260)), (172, (0, 229, 1236)), (175, (0, 168, 1284)), (178, (0, 201, 1288)), (181, (0, 171, 1292)), (184, (0, 202, 1296)), (187, (0, 203, 1300)), (191, (0, 197, 1308)), (194, (0, 190, 1316)), (197, (0, 192, 1320)), (200, (0, 208, 1332)), (203, (0, 209, 1340)), (206, (0, 205, 1345)), (209, (0, 260, 1357)), (212, (0, 232, 1362)), (218, (0, 245, 1370)), (222, (0, 244, 1374)), (231, (0, 233, 1406)), (234, (0, 234, 1417)), (237, (0, 236, 1413)), (243, (1, 235, 1410)), (246, (0, 237, 1421)), (249, (0, 238, 1425)), (252, (0, 239, 1402)), (256, (0, 240, 1398)), (259, (0, 230, 1429)), (262, (0, 167, 1441)), (265, (0, 169, 1445)), (268, (0, 172, 1449)), (271, (0, 174, 1453)), (274, (1, 256, 1465))]]
/-- fields: class, slot, place of the word -/
def ai_vf : List (List (Nat × (Nat × Nat × Nat))) := [
  [(14, (0, 3, 138)), (20, (0, 4, 142)), (23, (0, 5, 144)), (26, (0, 6, 145)), (29, (0, 7, 149)), (32, (0, 8, 152)), (35, (0, 9, 154)), (38, (0, 0, 127)), (42, (0, 1, 132)), (77, (0, 2, 136))],
  [(9, (1, 0, 239)), (15, (1, 1, 240)), (19, (1, 2, 241)), (23, (1, 3, 242)), (27, (0, 0, 126)), (39, (0, 1, 131)), (67, (0, 3, 140)), (83, (0, 6, 147)), (92, (0, 7, 150)), (102, (0, 8, 153)), (116, (0, 9, 156)), (140, (0, 2, 135))],
  [(14, (2, 1, 227)), (20, (2, 0, 226)), (41, (0, 0, 129)), (51, (0, 6, 146)), (70, (0, 1, 133))],
  [(11, (3, 0, 261)), (18, (3, 1, 262)), (22, (3, 3, 264)), (26, (3, 2, 263)), (46, (3, 4, 265))],
  [(9, (4, 0, 185)), (15, (0, 3, 139)), (27, (0, 4, 143)), (30, (0, 0, 128))],
  [(9, (5, 0, 195)), (15, (0, 9, 155))],
  [(14, (6, 0, 315)), (20, (6, 1, 316))],
  [(9, (7, 0, 205)), (15, (7, 1, 206)), (18, (7, 2, 207)), (21, (7, 3, 208))],
  [(13, (8, 0, 121))],
  [(14, (9, 0, 285)), (20, (9, 1, 286)), (23, (9, 2, 287)), (26, (9, 3, 288)), (33, (9, 4, 289)), (40, (9, 5, 290)), (55, (9, 6, 291))],
  [(21, (10, 0, 322)), (27, (10, 1, 323)), (31, (10, 2, 324)), (38, (10, 3, 325)), (42, (10, 4, 326)), (51, (10, 5, 327)), (58, (10, 6, 328)), (65, (10, 7, 329)), (72, (10, 8, 330)), (154, (0, 6, 148)), (172, (0, 7, 151)), (245, (0, 3, 141)), (264, (0, 9, 157)), (301, (0, 0, 130)), (305, (0, 1, 134)), (320, (0, 2, 137))],
  [(9, (11, 0, 1024)), (13, (11, 1, 1025)), (16, (11, 2, 1026)), (19, (11, 3, 1027)), (22, (11, 7, 1031)), (26, (11, 9, 1033)), (29, (11, 11, 1035)), (32, (11, 12, 1036)), (39, (11, 4, 1028)), (49, (11, 5, 1029)), (52, (11, 6, 1030)), (215, (11, 10, 1034)), (225, (11, 13, 1037)), (228, (11, 14, 1038)), (240, (11, 15, 1039)), (280, (11, 8, 1032))],
  [],
  [],
  [],
  [(9, (11, 0, 1024)), (13, (11, 1, 1025)), (16, (11, 2, 1026)), (19, (11, 3, 1027)), (22, (11, 7, 1031)), (26, (11, 9, 1033)), (29, (11, 11, 1035)), (32, (11, 12, 1036)), (39, (11, 4, 1028)), (49, (11, 5, 1029)), (52, (11, 6, 1030)), (215, (11, 10, 1034)), (225, (11, 13, 1037)), (228, (11, 14, 1038)), (240, (11, 15, 1039)), (280, (11, 8, 1032))],
  [(9, (11, 0, 1024)), (13, (11, 1, 1025)), (16, (11, 2, 1026)), (19, (11, 3, 1027)), (22, (11, 7, 1031)), (26, (11, 9, 1033)), (29, (11, 11, 1035)), (32, (11, 12, 1036)), (39, (11, 4, 1028)), (49, (11, 5, 1029)), (52, (11, 6, 1030)), (215, (11, 10, 1034)), (225, (11, 13, 1037)), (228, (11, 14, 1038)), (240, (11, 15, 1039)), (280, (11, 8, 1032))]]
/-- new: class, places of the words -/
def ai_vn : List (List (Nat × (Nat × Nat × Nat × Nat))) := [
  [(9, (8, 112, 113, 84))],
  [],
  [(9, (8, 224, 113, 84))],
  [(9, (0, 258, 107, 83))],
  [],
  [],
  [(9, (8, 313, 113, 84))],
  [],
  [],
  [(9, (8, 283, 113, 84))],
  [(7, (0, 106, 107, 83)), (10, (4, 179, 180, 86)), (15, (5, 189, 190, 87)), (18, (7, 199, 200, 88)), (35, (2, 218, 219, 89)), (46, (1, 233, 234, 90)), (55, (3, 252, 253, 91)), (62, (9, 277, 278, 92)), (69, (6, 307, 308, 93))],
  [],
  [],
  [],
  [],
  [],
  []]
/-- constants -/
def ai_vk : List (List (Nat × ((Int32 ⊕ UInt32) × Nat))) := [
  [],
  [],
  [],
  [],
  [],
  [],
  [],
  [],
  [],
  [],
  [(369, (.inr 1258291200, 992))],
  [],
  [(265, (.inl (1431655765), 736)), (266, (.inl (858993459), 737)), (267, (.inl (252645135), 738))],
  [],
  [(77, (.inl (2143289344), 1474))],
  [],
  []]
-- places: arrayClass int 125, arrayOver 259, native arraycopy 383, native floatToRawIntBits 1473
def ai_wp : Nat × Nat × Nat × Nat := (125, 259, 383, 1473)
def ai_w_obji : Nat := 104
def ai_w_objc : Nat := 105
def ai_w_syss : Nat := 382
def ai_w_sysi : Nat := 95
def ai_w_fls : Nat := 1472
def ai_w_fli : Nat := 97
end
section
/-! The tables: every row that the plain machine looks up has its word in the Statement. -/
def ai_find {β : Type} : List (Nat × β) → Nat → Option β
  | [], _ => none
  | (k, v) :: l, c => if k = c then some v else ai_find l c
def ai_lk {β : Type} (t : List (List (Nat × β))) (v cp : Nat) : Option β := match t[v]? with
  | some l => ai_find l cp
  | none => none
def ai_m (y : Nat) : ai_MI := (ai_mt[y]?).getD (⟨"", "", ""⟩, ⟨#[]⟩, 0, none, 0, 0, 0, 0)
def ai_name (y : Nat) : MethodName := (ai_m y).1
def ai_code (y : Nat) : ByteArray := (ai_m y).2.1
def ai_L (y : Nat) : Nat := (ai_m y).2.2.1
def ai_ret (y : Nat) : Option FieldType := (ai_m y).2.2.2.1
def ai_n (y : Nat) : Nat := (ai_m y).2.2.2.2.1
def ai_kind (y : Nat) : Nat := (ai_m y).2.2.2.2.2.1
def ai_ci (y : Nat) : Nat := (ai_m y).2.2.2.2.2.2.1
def ai_view (y : Nat) : Nat := (ai_m y).2.2.2.2.2.2.2
theorem ai_find_mem {β : Type} {l : List (Nat × β)} {c : Nat} {v : β} (h : ai_find l c = some v) : (c, v) ∈ l := by
  induction l with
  | nil => cases h
  | cons a l ih =>
    obtain ⟨k, w⟩ := a
    unfold ai_find at h
    by_cases hk : k = c
    · rw [if_pos hk] at h
      cases h
      subst hk
      exact List.mem_cons_self
    · rw [if_neg hk] at h
      exact List.mem_cons_of_mem _ (ih h)
theorem ai_lk_mem {β : Type} {t : List (List (Nat × β))} {v c : Nat} {r : β} (h : ai_lk t v c = some r) : ∃ l, t[v]? = some l ∧ (c, r) ∈ l := by
  unfold ai_lk at h
  split at h
  · rename_i l hl
    exact ⟨l, hl, ai_find_mem h⟩
  · cases h
-- the words
def ai_T : List Cond := lw_tbl.filter goodWord
def ai_has (i : Nat) (w : Cond) : Bool := (match lw_tbl[i]? with
  | some v => decide (v = w)
  | none => false) && goodWord w
theorem ai_has_in {i : Nat} {w : Cond} (h : ai_has i w = true) : w ∈ ai_T := by
  unfold ai_has at h
  rw [Bool.and_eq_true] at h
  refine List.mem_filter.mpr ⟨?_, h.2⟩
  have h1 := h.1
  split at h1
  · rename_i v hv
    rw [decide_eq_true_eq] at h1
    subst h1
    exact List.mem_of_getElem? hv
  · cases h1
theorem ai_T_in : ∀ w ∈ ai_T, w ∈ lw_tbl := fun w h => (List.mem_filter.mp h).1
theorem ai_T_good : ∀ w ∈ ai_T, goodWord w = true := fun w h => (List.mem_filter.mp h).2
def ai_jdk : List MethodName := (ai_mt.filter fun q => decide (q.2.2.2.2.2.2.1 = 99)).map fun q => q.1
theorem ai_jdk_ok : ai_jdk.all plainFor = true := by decide +kernel
def ai_okm (y : Nat) : Bool := match ai_mt[y]?, ai_mw[y]? with
  | some q, some (_, b, c, d) => ai_has b (.initialized q.1.cls) && decide (q.1.cls ≠ "java/lang/invoke/MethodHandle") && decide (q.1.cls ≠ "java/lang/invoke/VarHandle") && (Jvm.plainName q.1.cls || decide (q.2.2.2.2.2.2.1 = 99)) && decide ((parseMethodDescriptor q.1.desc).map (fun d => d.parameters.length) = some q.2.2.2.2.1) && decide (q.2.2.1 ≤ 20)
    && (if q.2.2.2.2.2.1 = 0 then ai_has c (.static q.1) else ai_has c (.instanceMethod q.1) && decide (((vwCl[q.2.2.2.2.2.2.1]?).map fun r => r.1) = some q.1.cls) && (if q.2.2.2.2.2.1 = 1 then ai_has d (.selects q.1.cls q.1 q.1) else decide (q.1.name = "<init>") && decide (q.2.2.2.1 = none)))
    && decide (ai_vc[q.2.2.2.2.2.2.2]? = some q.1.cls)
  | _, _ => false
theorem ai_okm_all : (List.range 270).all ai_okm = true := by decide +kernel
def ai_okd (y : Nat) : Bool := match ai_mt[y]?, ai_mw[y]? with
  | some q, some w => ai_has w.1 (.code q.1 q.2.1 q.2.2.1 q.2.2.2.1)
  | _, _ => false
theorem ai_okd_0 : ((List.range 15).map (0 + ·)).all ai_okd = true := by decide +kernel
theorem ai_okd_1 : ((List.range 15).map (15 + ·)).all ai_okd = true := by decide +kernel
theorem ai_okd_2 : ((List.range 15).map (30 + ·)).all ai_okd = true := by decide +kernel
theorem ai_okd_3 : ((List.range 15).map (45 + ·)).all ai_okd = true := by decide +kernel
theorem ai_okd_4 : ((List.range 15).map (60 + ·)).all ai_okd = true := by decide +kernel
theorem ai_okd_5 : ((List.range 15).map (75 + ·)).all ai_okd = true := by decide +kernel
theorem ai_okd_6 : ((List.range 15).map (90 + ·)).all ai_okd = true := by decide +kernel
theorem ai_okd_7 : ((List.range 15).map (105 + ·)).all ai_okd = true := by decide +kernel
theorem ai_okd_8 : ((List.range 15).map (120 + ·)).all ai_okd = true := by decide +kernel
theorem ai_okd_9 : ((List.range 15).map (135 + ·)).all ai_okd = true := by decide +kernel
theorem ai_okd_10 : ((List.range 15).map (150 + ·)).all ai_okd = true := by decide +kernel
theorem ai_okd_11 : ((List.range 15).map (165 + ·)).all ai_okd = true := by decide +kernel
theorem ai_okd_12 : ((List.range 15).map (180 + ·)).all ai_okd = true := by decide +kernel
theorem ai_okd_13 : ((List.range 15).map (195 + ·)).all ai_okd = true := by decide +kernel
theorem ai_okd_14 : ((List.range 15).map (210 + ·)).all ai_okd = true := by decide +kernel
theorem ai_okd_15 : ((List.range 15).map (225 + ·)).all ai_okd = true := by decide +kernel
theorem ai_okd_16 : ((List.range 15).map (240 + ·)).all ai_okd = true := by decide +kernel
theorem ai_okd_17 : ((List.range 15).map (255 + ·)).all ai_okd = true := by decide +kernel
theorem ai_okd_all (y : Nat) (h : y < 270) : ai_okd y = true := by
  have key : ∀ k, ((List.range 15).map (k + ·)).all ai_okd = true → k ≤ y → y < k + 15 → ai_okd y = true := by
    intro k hk h1 h2
    refine List.all_eq_true.mp hk y (List.mem_map.mpr ⟨y - k, List.mem_range.mpr (by omega), by omega⟩)
  by_cases h0 : y < 15
  · exact key 0 ai_okd_0 (by omega) (by omega)
  by_cases h1 : y < 30
  · exact key 15 ai_okd_1 (by omega) (by omega)
  by_cases h2 : y < 45
  · exact key 30 ai_okd_2 (by omega) (by omega)
  by_cases h3 : y < 60
  · exact key 45 ai_okd_3 (by omega) (by omega)
  by_cases h4 : y < 75
  · exact key 60 ai_okd_4 (by omega) (by omega)
  by_cases h5 : y < 90
  · exact key 75 ai_okd_5 (by omega) (by omega)
  by_cases h6 : y < 105
  · exact key 90 ai_okd_6 (by omega) (by omega)
  by_cases h7 : y < 120
  · exact key 105 ai_okd_7 (by omega) (by omega)
  by_cases h8 : y < 135
  · exact key 120 ai_okd_8 (by omega) (by omega)
  by_cases h9 : y < 150
  · exact key 135 ai_okd_9 (by omega) (by omega)
  by_cases h10 : y < 165
  · exact key 150 ai_okd_10 (by omega) (by omega)
  by_cases h11 : y < 180
  · exact key 165 ai_okd_11 (by omega) (by omega)
  by_cases h12 : y < 195
  · exact key 180 ai_okd_12 (by omega) (by omega)
  by_cases h13 : y < 210
  · exact key 195 ai_okd_13 (by omega) (by omega)
  by_cases h14 : y < 225
  · exact key 210 ai_okd_14 (by omega) (by omega)
  by_cases h15 : y < 240
  · exact key 225 ai_okd_15 (by omega) (by omega)
  by_cases h16 : y < 255
  · exact key 240 ai_okd_16 (by omega) (by omega)
  by_cases h17 : y < 270
  · exact key 255 ai_okd_17 (by omega) (by omega)
  omega
def ai_nest : List (String × Nat × MethodName) := (List.range ai_vm.length).flatMap fun v => match ai_vm[v]?, ai_vc[v]? with
  | some l, some own => (l.filter fun e => decide (e.2.1 = 3 ∨ e.2.1 = 4)).map fun e => (own, e.1, ai_name e.2.2.1)
  | _, _ => []
theorem ai_nest_ok : ai_nest.all (fun e => decide (Cond.methodLinkNest e.1 e.2.1 e.2.2 "StoryCoroner" ∈ lw_tbl)) = true := by decide +kernel
def ai_okl (v : Nat) (e : Nat × (Nat × Nat × Nat)) : Bool := match ai_vc[v]? with
  | some own => match e with
    | (cp, 0, y, i) => ai_has i (.methodLink own cp (ai_name y)) && decide (ai_kind y = 1)
    | (cp, 1, y, i) => ai_has i (.methodLink own cp (ai_name y)) && decide (ai_kind y = 0)
    | (cp, 2, y, i) => ai_has i (.methodLink own cp (ai_name y)) && decide (ai_kind y = 2)
    | (cp, 3, y, _) => decide ((own, cp, ai_name y) ∈ ai_nest) && decide (ai_kind y = 0)
    | (cp, 4, y, _) => decide ((own, cp, ai_name y) ∈ ai_nest) && decide (ai_kind y = 2)
    | (cp, 5, _, i) => ai_has i (.methodLink own cp Lib.objectInit)
    | (cp, 6, _, i) => ai_has i (.methodLink own cp arraycopyName)
    | (cp, 7, _, i) => ai_has i (.methodLink own cp ⟨"java/lang/Float", "floatToRawIntBits", "(F)I"⟩)
    | _ => false
  | none => false
theorem ai_okl_all : (List.range ai_vm.length).all (fun v => match ai_vm[v]? with | some l => l.all (ai_okl v) | none => true) = true := by decide +kernel
def ai_okf (v : Nat) (e : Nat × (Nat × Nat × Nat)) : Bool := match ai_vc[v]?, vwCl[e.2.1]? with
  | some own, some r => decide (e.2.2.1 < r.2.2) && ai_has e.2.2.2 (.fieldLink own e.1 (r.2.1 e.2.2.1).1 (r.2.1 e.2.2.1).2.1 (r.2.1 e.2.2.1).2.2.1) && decide ((r.2.1 e.2.2.1).1 = r.1)
  | _, _ => false
theorem ai_okf_all : (List.range ai_vf.length).all (fun v => match ai_vf[v]? with | some l => l.all (ai_okf v) | none => true) = true := by decide +kernel
def ai_okn (v : Nat) (e : Nat × (Nat × Nat × Nat × Nat)) : Bool := match ai_vc[v]?, vwCl[e.2.1]? with
  | some own, some r => ai_has e.2.2.1 (.classLink own e.1 r.1) && ai_has e.2.2.2.1 (.instantiable r.1 r.2.2) && ai_has e.2.2.2.2 (.initialized r.1)
  | _, _ => false
theorem ai_okn_all : (List.range ai_vn.length).all (fun v => match ai_vn[v]? with | some l => l.all (ai_okn v) | none => true) = true := by decide +kernel
def ai_okk (v : Nat) (e : Nat × ((Int32 ⊕ UInt32) × Nat)) : Bool := match ai_vc[v]? with
  | some own => match e.2.1 with
    | .inl x => ai_has e.2.2 (.constant own e.1 x)
    | .inr x => ai_has e.2.2 (.constantFloat own e.1 x)
  | none => false
theorem ai_okk_all : (List.range ai_vk.length).all (fun v => match ai_vk[v]? with | some l => l.all (ai_okk v) | none => true) = true := by decide +kernel
def ai_okc (r : vw_C) : Bool := (u_ws r.1 r.2.1 r.2.2).all (fun w => decide (w ∈ lw_tbl) && goodWord w) && (List.range r.2.2).all (fun a => (parseFieldDescriptor (r.2.1 a).2.2.1).isSome && (List.range r.2.2).all (fun b => decide (a = b) || decide ((r.2.1 a).2.1 ≠ (r.2.1 b).2.1)))
theorem ai_okc_all : vwCl.all ai_okc = true := by decide +kernel
theorem ai_wao : Cond.arrayOver (.object RX0) ∈ lw_tbl := List.mem_of_getElem? (i := 259) (by decide +kernel)
theorem ai_wp_ok : ai_has 125 (.arrayClass .int) = true ∧ ai_has 383 (.native arraycopyName) = true ∧ ai_has 1473 (.native ⟨"java/lang/Float", "floatToRawIntBits", "(F)I"⟩) = true := by decide +kernel
theorem ai_wo_ok : ai_has ai_w_obji (.instanceMethod Lib.objectInit) = true ∧ ai_has ai_w_objc (.code Lib.objectInit ⟨#[0xb1]⟩ 1 none) = true ∧ ai_has ai_w_syss (.static arraycopyName) = true ∧ ai_has ai_w_sysi (.initialized "java/lang/System") = true ∧ ai_has ai_w_fls (.static ⟨"java/lang/Float", "floatToRawIntBits", "(F)I"⟩) = true ∧ ai_has ai_w_fli (.initialized "java/lang/Float") = true := by decide +kernel
end
section
/-! THE PLAIN MACHINE: the class's methods run over a list of cells (an int array, an array of references, an object); a reference is a place in the list. What it answers is a function; that the JVM does the same is shown once (parts 03, 04). -/
abbrev ai_C : Type := List Int32 ⊕ (List (Option Nat) ⊕ (Nat × List Value))
abbrev ai_W : Type := List ai_C
abbrev ai_R : Type := Option Value × ai_W
abbrev ai_G : Type := Nat × List Value × List Value × ai_W
abbrev ai_K : Type := Nat × List Value × List Value × Nat
abbrev ai_O : Type := ai_R ⊕ (ai_G ⊕ ai_K)
def ai_sz : ai_C → Nat
  | .inl l => l.length
  | .inr (.inl l) => l.length
  | .inr (.inr o) => o.2.length
def ai_sl (ws : ai_W) : Nat := (ws.map ai_sz).sum
-- cells
def ai_isob (ws : ai_W) (a ci : Nat) : Bool := match ws[a]? with
  | some (.inr (.inr (c, _))) => decide (c = ci)
  | _ => false
def ai_fget (ws : ai_W) (a ci k : Nat) : Option Value := match ws[a]? with
  | some (.inr (.inr (c, fs))) => if c = ci then fs[k]? else none
  | _ => none
def ai_pok : Option FieldType → Value → Bool
  | some .int, .int _ => true
  | some .boolean, .int v => v == 0 || v == 1
  | some (.object _), .ref _ => true
  | some (.array _), .ref _ => true
  | _, _ => false
def ai_cl (ci : Nat) : vw_C := (vwCl[ci]?).getD ("", fun _ => ("", "", "", false), 0)
def ai_fty (ci k : Nat) : Option FieldType := parseFieldDescriptor ((ai_cl ci).2.1 k).2.2.1
def ai_fput (ws : ai_W) (a ci k : Nat) (v : Value) : Option ai_W := match ws[a]? with
  | some (.inr (.inr (c, fs))) => if c = ci ∧ k < fs.length ∧ ai_pok (ai_fty ci k) v = true then some (ws.set a (.inr (.inr (c, fs.set k v)))) else none
  | _ => none
def ai_ix (i : Int32) (n : Nat) : Option Nat := if i < 0 ∨ n ≤ i.toNatClampNeg then none else some i.toNatClampNeg
def ai_aget (ws : ai_W) (a : Nat) (i : Int32) : Option Int32 := match ws[a]? with
  | some (.inl l) => (ai_ix i l.length).map fun j => l.getD j 0
  | _ => none
def ai_aset (ws : ai_W) (a : Nat) (i x : Int32) : Option ai_W := match ws[a]? with
  | some (.inl l) => (ai_ix i l.length).map fun j => ws.set a (.inl (l.set j x))
  | _ => none
def ai_len (ws : ai_W) (a : Nat) : Option Int32 := match ws[a]? with
  | some (.inl l) => some (Int32.ofNat l.length)
  | some (.inr (.inl l)) => some (Int32.ofNat l.length)
  | _ => none
def ai_qv : Option Nat → Value
  | some a => .ref a
  | none => .null
def ai_qget (ws : ai_W) (a : Nat) (i : Int32) : Option Value := match ws[a]? with
  | some (.inr (.inl l)) => (ai_ix i l.length).map fun j => ai_qv (l.getD j none)
  | _ => none
def ai_qset (ws : ai_W) (a : Nat) (i : Int32) (x : Nat) : Option ai_W := match ws[a]? with
  | some (.inr (.inl l)) => if ai_isob ws x 0 = true then (ai_ix i l.length).map fun j => ws.set a (.inr (.inl (l.set j (some x)))) else none
  | _ => none
/-- System.arraycopy of a whole array of ints over another one of its length -/
def ai_copy (ws : ai_W) (a : Nat) (i : Int32) (d : Nat) (j n : Int32) : Option ai_W := match ws[a]?, ws[d]? with
  | some (.inl l), some (.inl l2) => if i = 0 ∧ j = 0 ∧ ¬ n < 0 ∧ n.toNatClampNeg = l.length ∧ l2.length = l.length then some (ws.set d (.inl l)) else none
  | _, _ => none
def ai_dv : Option FieldType → Value
  | some (.object _) => .null
  | some (.array _) => .null
  | some .float => .float 0
  | _ => .int 0
def ai_blank (ci : Nat) : ai_C := .inr (.inr (ci, (List.range (ai_cl ci).2.2).map fun k => ai_dv (ai_fty ci k)))
-- one instruction
def ai_go (pc : Nat) (ls st : List Value) (ws : ai_W) : Option ai_O := some (.inr (.inl (pc, ls, st, ws)))
def ai_tgt (pc : Nat) (off : Int) : Option Nat := match (pc : Int) + off with
  | .ofNat t => some t
  | _ => none
def ai_cmp : Jvm.ClassFile.Cond → Int32 → Int32 → Bool
  | .eq, x, y => decide (x = y)
  | .ne, x, y => decide (¬ x = y)
  | .lt, x, y => decide (x < y)
  | .ge, x, y => decide (y ≤ x)
  | .gt, x, y => decide (y < x)
  | .le, x, y => decide (x ≤ y)
def ai_lda (n k pc : Nat) (ls st : List Value) (ws : ai_W) : Option ai_O := match ls[k]? with
  | some (.ref a) => ai_go (pc + n) ls (.ref a :: st) ws
  | _ => none
def ai_ldi (n k pc : Nat) (ls st : List Value) (ws : ai_W) : Option ai_O := match ls[k]? with
  | some (.int x) => ai_go (pc + n) ls (.int x :: st) ws
  | _ => none
def ai_ldf (n k pc : Nat) (ls st : List Value) (ws : ai_W) : Option ai_O := match ls[k]? with
  | some (.float x) => ai_go (pc + n) ls (.float x :: st) ws
  | _ => none
def ai_sti (n k pc : Nat) (ls st : List Value) (ws : ai_W) : Option ai_O := match st with
  | .int x :: st => if k < ls.length then ai_go (pc + n) (ls.set k (.int x)) st ws else none
  | _ => none
def ai_stf (n k pc : Nat) (ls st : List Value) (ws : ai_W) : Option ai_O := match st with
  | .float x :: st => if k < ls.length then ai_go (pc + n) (ls.set k (.float x)) st ws else none
  | _ => none
def ai_sta (n k pc : Nat) (ls st : List Value) (ws : ai_W) : Option ai_O := match st with
  | .ref x :: st => if k < ls.length then ai_go (pc + n) (ls.set k (.ref x)) st ws else none
  | _ => none
def ai_bin (f : Int32 → Int32 → Option Int32) (pc : Nat) (ls st : List Value) (ws : ai_W) : Option ai_O := match st with
  | .int y :: .int x :: st => match f x y with
    | some z => ai_go (pc + 1) ls (.int z :: st) ws
    | none => none
  | _ => none
def ai_fb (f : UInt32 → UInt32 → UInt32) (pc : Nat) (ls st : List Value) (ws : ai_W) : Option ai_O := match st with
  | .float y :: .float x :: st => if f x y &&& 0x7fffffff ≤ 0x7f800000 then ai_go (pc + 1) ls (.float (f x y) :: st) ws else none
  | _ => none
def ai_jmp (pc : Nat) (off : Int) (b : Bool) (ls st : List Value) (ws : ai_W) : Option ai_O := match ai_tgt pc off with
  | some t => ai_go (if b = true then t else pc + 3) ls st ws
  | none => none
def ai_call (y y2 : Nat) (kd : Nat) (pc : Nat) (st : List Value) : Option ai_O :=
  if y2 < y ∧ ai_kind y2 = kd then
    some (.inr (.inr (y2, (st.take (ai_n y2 + if kd = 0 then 0 else 1)).reverse, st.drop (ai_n y2 + if kd = 0 then 0 else 1), pc + 3)))
  else none
def ai_inv (y pc idx : Nat) (ls st : List Value) (ws : ai_W) : Option ai_O := match ai_lk ai_vm (ai_view y) idx with
  | some (0, y2, _) => ai_call y y2 1 pc st
  | _ => none
def ai_ins (y pc idx : Nat) (ls st : List Value) (ws : ai_W) : Option ai_O := match ai_lk ai_vm (ai_view y) idx with
  | some (1, y2, _) => ai_call y y2 0 pc st
  | some (3, y2, _) => ai_call y y2 0 pc st
  | some (6, _, _) => match st with
    | .int n :: .int j :: .ref d :: .int i :: .ref a :: st => match ai_copy ws a i d j n with
      | some ws => if st.length ≤ 4 then ai_go (pc + 3) ls st ws else none
      | none => none
    | _ => none
  | some (7, _, _) => match st with
    | .float x :: st => if st.length ≤ 4 then ai_go (pc + 3) ls (.int x.toInt32 :: st) ws else none
    | _ => none
  | _ => none
def ai_spc (y pc idx : Nat) (ls st : List Value) (ws : ai_W) : Option ai_O := match ai_lk ai_vm (ai_view y) idx with
  | some (2, y2, _) => ai_call y y2 2 pc st
  | some (4, y2, _) => ai_call y y2 2 pc st
  | some (5, _, _) => match st with
    | .ref _ :: st => if st.length ≤ 4 then ai_go (pc + 3) ls st ws else none
    | _ => none
  | _ => none
def ai_sw (pc : Nat) (d lo hi : Int) (offs : Array Int) (x : Int32) : Option Nat :=
  if x.toInt < lo ∨ hi < x.toInt then ai_tgt pc d else match offs[(x.toInt - lo).toNat]? with
    | some o => ai_tgt pc o
    | none => none
def ai_wide (pc v idx n : Nat) (ls st : List Value) (ws : ai_W) : Option ai_O := match ai_lk ai_vk v idx with
  | some (.inl x, _) => ai_go (pc + n) ls (.int x :: st) ws
  | some (.inr x, _) => if n = 3 then ai_go (pc + 3) ls (.float x :: st) ws else none
  | none => none
def ai_in (y pc : Nat) (ls st : List Value) (ws : ai_W) : Instr → Nat → Option ai_O
  | .aload_n k, 1 => ai_lda 1 k.val pc ls st ws
  | .aload k, 2 => ai_lda 2 k pc ls st ws
  | .iload_n k, 1 => ai_ldi 1 k.val pc ls st ws
  | .iload k, 2 => ai_ldi 2 k pc ls st ws
  | .fload_n k, 1 => ai_ldf 1 k.val pc ls st ws
  | .istore_n k, 1 => ai_sti 1 k.val pc ls st ws
  | .istore k, 2 => ai_sti 2 k pc ls st ws
  | .fstore_n k, 1 => ai_stf 1 k.val pc ls st ws
  | .astore_n k, 1 => ai_sta 1 k.val pc ls st ws
  | .astore k, 2 => ai_sta 2 k pc ls st ws
  | .iinc k n, 3 => match ls[k]? with
    | some (.int x) => ai_go (pc + 3) (ls.set k (.int (x + Int32.ofInt n))) st ws
    | _ => none
  | .iconst n, 1 => ai_go (pc + 1) ls (.int (Int32.ofInt n) :: st) ws
  | .bipush n, 2 => ai_go (pc + 2) ls (.int (Int8.ofInt n).toInt32 :: st) ws
  | .sipush n, 3 => ai_go (pc + 3) ls (.int (Int16.ofInt n).toInt32 :: st) ws
  | .fconst n, 1 => ai_go (pc + 1) ls (.float (if n = 0 then FP.fconst0 else if n = 1 then FP.fconst1 else FP.fconst2) :: st) ws
  | .ldc i, 2 => ai_wide pc (ai_view y) i 2 ls st ws
  | .ldc_w i, 3 => ai_wide pc (ai_view y) i 3 ls st ws
  | .iadd, 1 => ai_bin (fun x y => some (x + y)) pc ls st ws
  | .isub, 1 => ai_bin (fun x y => some (x - y)) pc ls st ws
  | .imul, 1 => ai_bin (fun x y => some (x * y)) pc ls st ws
  | .iand, 1 => ai_bin (fun x y => some (x &&& y)) pc ls st ws
  | .ior, 1 => ai_bin (fun x y => some (x ||| y)) pc ls st ws
  | .ixor, 1 => ai_bin (fun x y => some (x ^^^ y)) pc ls st ws
  | .ishl, 1 => ai_bin (fun x y => some (x <<< (y &&& 31))) pc ls st ws
  | .ishr, 1 => ai_bin (fun x y => some (x >>> (y &&& 31))) pc ls st ws
  | .iushr, 1 => ai_bin (fun x y => some (x.toUInt32 >>> (y.toUInt32 &&& Int32.toUInt32 31)).toInt32) pc ls st ws
  | .idiv, 1 => ai_bin (fun x y => if y = 0 then none else some (x / y)) pc ls st ws
  | .irem, 1 => ai_bin (fun x y => if y = 0 then none else some (x - x / y * y)) pc ls st ws
  | .ineg, 1 => match st with
    | .int x :: st => ai_go (pc + 1) ls (.int (-x) :: st) ws
    | _ => none
  | .i2f, 1 => match st with
    | .int x :: st => ai_go (pc + 1) ls (.float (FP.i2f x) :: st) ws
    | _ => none
  | .f2i, 1 => match st with
    | .float x :: st => ai_go (pc + 1) ls (.int (FP.f2i x) :: st) ws
    | _ => none
  | .fmul, 1 => ai_fb FP.fmul pc ls st ws
  | .fdiv, 1 => ai_fb FP.fdiv pc ls st ws
  | .fsub, 1 => ai_fb FP.fsub pc ls st ws
  | .dup, 1 => match st with
    | .ref x :: st => ai_go (pc + 1) ls (.ref x :: .ref x :: st) ws
    | _ => none
  | .dup2, 1 => match st with
    | .int i :: .ref x :: st => ai_go (pc + 1) ls (.int i :: .ref x :: .int i :: .ref x :: st) ws
    | _ => none
  | .pop, 1 => match st with
    | .int _ :: st => ai_go (pc + 1) ls st ws
    | _ => none
  | .goto off, 3 => ai_jmp pc off true ls st ws
  | .if_icmp cd off, 3 => match st with
    | .int y :: .int x :: st => ai_jmp pc off (ai_cmp cd x y) ls st ws
    | _ => none
  | .ifCond cd off, 3 => match st with
    | .int x :: st => ai_jmp pc off (ai_cmp cd x 0) ls st ws
    | _ => none
  | .ifnull off, 3 => match st with
    | .ref _ :: st => ai_jmp pc off false ls st ws
    | .null :: st => ai_jmp pc off true ls st ws
    | _ => none
  | .tableswitch d lo hi offs, _ => match st with
    | .int x :: st => match ai_sw pc d lo hi offs x with
      | some t => ai_go t ls st ws
      | none => none
    | _ => none
  | .getfield i, 3 => match ai_lk ai_vf (ai_view y) i, st with
    | some (ci, k, _), .ref a :: st => match ai_fget ws a ci k with
      | some v => ai_go (pc + 3) ls (v :: st) ws
      | none => none
    | _, _ => none
  | .putfield i, 3 => match ai_lk ai_vf (ai_view y) i, st with
    | some (ci, k, _), v :: .ref a :: st => if ((ai_cl ci).2.1 k).2.2.2 = true → ai_kind y = 2 ∧ ai_ci y = ci then match ai_fput ws a ci k v with
      | some ws => ai_go (pc + 3) ls st ws
      | none => none else none
    | _, _ => none
  | .iaload, 1 => match st with
    | .int i :: .ref a :: st => match ai_aget ws a i with
      | some x => ai_go (pc + 1) ls (.int x :: st) ws
      | none => none
    | _ => none
  | .iastore, 1 => match st with
    | .int x :: .int i :: .ref a :: st => match ai_aset ws a i x with
      | some ws => ai_go (pc + 1) ls st ws
      | none => none
    | _ => none
  | .arraylength, 1 => match st with
    | .ref a :: st => match ai_len ws a with
      | some x => ai_go (pc + 1) ls (.int x :: st) ws
      | none => none
    | _ => none
  | .aaload, 1 => match st with
    | .int i :: .ref a :: st => match ai_qget ws a i with
      | some v => ai_go (pc + 1) ls (v :: st) ws
      | none => none
    | _ => none
  | .aastore, 1 => match st with
    | .ref x :: .int i :: .ref a :: st => match ai_qset ws a i x with
      | some ws => ai_go (pc + 1) ls st ws
      | none => none
    | _ => none
  | .new i, 3 => match ai_lk ai_vn (ai_view y) i with
    | some (ci, _, _, _) => ai_go (pc + 3) ls (.ref ws.length :: st) (ws ++ [ai_blank ci])
    | none => none
  | .newarray .int, 2 => match st with
    | .int n :: st => if n < 0 ∨ 100000 < n.toNatClampNeg then none else ai_go (pc + 2) ls (.ref ws.length :: st) (ws ++ [.inl (List.replicate n.toNatClampNeg 0)])
    | _ => none
  | .anewarray i, 3 => match ai_lk ai_vn (ai_view y) i, st with
    | some (0, _, _, _), .int n :: st => if n < 0 ∨ 100000 < n.toNatClampNeg then none else ai_go (pc + 3) ls (.ref ws.length :: st) (ws ++ [.inr (.inl (List.replicate n.toNatClampNeg none))])
    | _, _ => none
  | .invokevirtual i, 3 => ai_inv y pc i ls st ws
  | .invokestatic i, 3 => ai_ins y pc i ls st ws
  | .invokespecial i, 3 => ai_spc y pc i ls st ws
  | .fcmp op, 1 => match st with
    | .float y :: .float x :: st => ai_go (pc + 1) ls (.int (Op.cmpValue (FP.fcmp x y) op) :: st) ws
    | _ => none
  | .ireturn, 1 => match st with
    | [.int x] => if ai_pok (ai_ret y) (.int x) = true then some (.inl (some (.int x), ws)) else none
    | _ => none
  | .return_, 1 => match st with
    | [] => if ai_ret y = none then some (.inl (none, ws)) else none
    | _ => none
  | _, _ => none
def ai_step (y pc : Nat) (ls st : List Value) (ws : ai_W) : Option ai_O := match decode (ai_code y) pc with
  | .ok (i, n) => ai_in y pc ls st ws i n
  | .error _ => none
-- a run
def ai_ok (y : Nat) (as : List Value) (ws : ai_W) : Bool := decide (as.length = ai_n y + if ai_kind y = 0 then 0 else 1) && (if ai_kind y = 0 then true else match as with
  | .ref a :: _ => ai_isob ws a (ai_ci y)
  | _ => false) && as.all (fun v => decide (v.category = 1)) && decide (as.length ≤ ai_L y)
def ai_ent (y : Nat) (as : List Value) : List Value := as ++ List.replicate (ai_L y - as.length) .null
def ai_run : Nat → Nat → Nat → List Value → List Value → ai_W → Option ai_R
  | 0, _, _, _, _, _ => none
  | F + 1, y, pc, ls, st, ws => match ai_step y pc ls st ws with
    | none => none
    | some (.inl r) => some r
    | some (.inr (.inl (pc, ls, st, ws))) => ai_run F y pc ls st ws
    | some (.inr (.inr (y2, as, rest, pc))) => if ai_ok y2 as ws = true ∧ rest.length ≤ 4 then match ai_run F y2 0 (ai_ent y2 as) [] ws with
      | none => none
      | some (v, ws) => ai_run F y pc ls (v.toList ++ rest) ws
      else none
/-! What a run of the plain machine answers, the number of its steps left open; the tables' words that the machine's rows need. -/
theorem ai_run_more {y : Nat} : ∀ (F : Nat) (y pc : Nat) (ls st : List Value) (ws : ai_W) (r : ai_R), ai_run F y pc ls st ws = some r → ai_run (F + 1) y pc ls st ws = some r := by
  intro F
  induction F with
  | zero => intro y pc ls st ws r h; cases h
  | succ F ih =>
    intro y pc ls st ws r h
    unfold ai_run at h ⊢
    split at h
    · cases h
    · exact h
    · exact ih _ _ _ _ _ _ h
    · rename_i y2 as rest pc2 _
      by_cases hc : ai_ok y2 as ws = true ∧ rest.length ≤ 4
      · rw [if_pos hc] at h ⊢
        split at h
        · cases h
        · rename_i v ws2 h2
          rw [ih _ _ _ _ _ _ h2]
          exact ih _ _ _ _ _ _ h
      · rw [if_neg hc] at h
        cases h
theorem ai_run_le {y pc : Nat} {ls st : List Value} {ws : ai_W} {r : ai_R} {F G : Nat} (h : ai_run F y pc ls st ws = some r) (hg : F ≤ G) : ai_run G y pc ls st ws = some r := by
  obtain ⟨k, rfl⟩ := Nat.exists_eq_add_of_le hg
  clear hg
  induction k with
  | zero => exact h
  | succ k ih => exact ai_run_more (y := y) _ _ _ _ _ _ _ ih
/-- what a run answers -/
noncomputable def ai_Run (y pc : Nat) (ls st : List Value) (ws : ai_W) : Option ai_R := @dite _ (∃ r F, ai_run F y pc ls st ws = some r) (Classical.propDecidable _) (fun h => some (Classical.choose h)) (fun _ => none)
theorem ai_Run_iff {y pc : Nat} {ls st : List Value} {ws : ai_W} {r : ai_R} : ai_Run y pc ls st ws = some r ↔ ∃ F, ai_run F y pc ls st ws = some r := by
  unfold ai_Run
  constructor
  · intro h
    split at h
    · rename_i hx
      cases h
      exact Classical.choose_spec hx
    · cases h
  · intro ⟨F, h⟩
    rw [dif_pos ⟨r, F, h⟩]
    obtain ⟨G, hG⟩ := Classical.choose_spec (⟨r, F, h⟩ : ∃ r F, ai_run F y pc ls st ws = some r)
    have h1 := ai_run_le h (Nat.le_max_left F G)
    have h2 := ai_run_le hG (Nat.le_max_right F G)
    rw [h1] at h2
    exact h2.symm
/-- a call -/
noncomputable def ai_Call (y : Nat) (as : List Value) (ws : ai_W) : Option ai_R := if ai_ok y as ws = true then ai_Run y 0 (ai_ent y as) [] ws else none
theorem ai_opt {α : Type} {a b : Option α} (h : ∀ r, a = some r ↔ b = some r) : a = b := by
  cases a with
  | none => cases b with
    | none => rfl
    | some r => exact absurd ((h r).mpr rfl) (by simp)
  | some r => exact ((h r).mp rfl).symm
theorem ai_Run_ret {y pc : Nat} {ls st : List Value} {ws : ai_W} {r : ai_R} (h : ai_step y pc ls st ws = some (.inl r)) : ai_Run y pc ls st ws = some r := ai_Run_iff.mpr ⟨1, by unfold ai_run; rw [h]⟩
theorem ai_Run_none {y pc : Nat} {ls st : List Value} {ws : ai_W} (h : ai_step y pc ls st ws = none) : ai_Run y pc ls st ws = none := by
  refine ai_opt fun r => ?_
  rw [ai_Run_iff]
  constructor
  · rintro ⟨F, hF⟩
    cases F with
    | zero => cases hF
    | succ F =>
      unfold ai_run at hF
      rw [h] at hF
      cases hF
  · intro h; cases h
theorem ai_Run_go {y pc pc2 : Nat} {ls st ls2 st2 : List Value} {ws ws2 : ai_W} (h : ai_step y pc ls st ws = some (.inr (.inl (pc2, ls2, st2, ws2)))) : ai_Run y pc ls st ws = ai_Run y pc2 ls2 st2 ws2 := by
  refine ai_opt fun r => ?_
  rw [ai_Run_iff, ai_Run_iff]
  constructor
  · rintro ⟨F, hF⟩
    cases F with
    | zero => cases hF
    | succ F =>
      unfold ai_run at hF
      rw [h] at hF
      exact ⟨F, hF⟩
  · rintro ⟨F, hF⟩
    refine ⟨F + 1, ?_⟩
    unfold ai_run
    rw [h]
    exact hF
theorem ai_Run_call {y y2 pc pc2 : Nat} {ls st as rest : List Value} {ws : ai_W} (h : ai_step y pc ls st ws = some (.inr (.inr (y2, as, rest, pc2)))) (hr : rest.length ≤ 4) : ai_Run y pc ls st ws = (ai_Call y2 as ws).bind fun q => ai_Run y pc2 ls (q.1.toList ++ rest) q.2 := by
  refine ai_opt fun r => ?_
  unfold ai_Call
  by_cases hk : ai_ok y2 as ws = true
  · rw [if_pos hk, ai_Run_iff, Option.bind_eq_some_iff]
    constructor
    · rintro ⟨F, hF⟩
      cases F with
      | zero => cases hF
      | succ F =>
        unfold ai_run at hF
        rw [h] at hF
        dsimp only at hF
        rw [if_pos ⟨hk, hr⟩] at hF
        split at hF
        · cases hF
        · rename_i v w2 h2
          exact ⟨(v, w2), ai_Run_iff.mpr ⟨F, h2⟩, ai_Run_iff.mpr ⟨F, hF⟩⟩
    · rintro ⟨⟨v, w2⟩, h1, h2⟩
      obtain ⟨F, hF⟩ := ai_Run_iff.mp h1
      obtain ⟨G, hG⟩ := ai_Run_iff.mp h2
      refine ⟨max F G + 1, ?_⟩
      unfold ai_run
      rw [h]
      dsimp only
      rw [if_pos ⟨hk, hr⟩, ai_run_le hF (Nat.le_max_left F G)]
      exact ai_run_le hG (Nat.le_max_right F G)
  · rw [if_neg hk, ai_Run_iff]
    constructor
    · rintro ⟨F, hF⟩
      cases F with
      | zero => cases hF
      | succ F =>
        unfold ai_run at hF
        rw [h] at hF
        dsimp only at hF
        rw [if_neg (fun q => hk q.1)] at hF
        cases hF
    · intro h; cases h
end
section
/-! The plain machine's cells on the heap, its locals in a frame; a run never loses a cell. -/
def ai_cv (b : Nat) : Value → Value
  | .ref a => .ref (b + a)
  | v => v
def ai_e (b : Nat) (cI cB : ClassId) : ai_C → va_E
  | .inl l => .inl (cI, l.length, .inl (fun j => l.getD j 0))
  | .inr (.inl l) => .inl (cB, l.length, .inr (.inr (.inr (.inr (fun j => (l.getD j none).map (b + ·))))))
  | .inr (.inr o) => .inr (o.1, o.2.map (ai_cv b))
def ai_w (b : Nat) (cI cB : ClassId) (ws : ai_W) : va_W := ws.mapIdx (fun k c => (b + k, ai_e b cI cB c))
theorem ai_w_get {b : Nat} {cI cB : ClassId} {ws : ai_W} {k : Nat} {c : ai_C} (h : ws[k]? = some c) : (ai_w b cI cB ws)[k]? = some (b + k, ai_e b cI cB c) := by
  simp [ai_w, List.getElem?_mapIdx, h]
theorem ai_w_inv {b : Nat} {cI cB : ClassId} {ws : ai_W} {k : Nat} {q : Nat × va_E} (h : (ai_w b cI cB ws)[k]? = some q) : ∃ c, ws[k]? = some c ∧ q = (b + k, ai_e b cI cB c) := by
  simp only [ai_w, List.getElem?_mapIdx, Option.map_eq_some_iff] at h
  obtain ⟨c, h1, h2⟩ := h
  exact ⟨c, h1, h2.symm⟩
theorem ai_w_len {b : Nat} {cI cB : ClassId} {ws : ai_W} : (ai_w b cI cB ws).length = ws.length := by simp [ai_w]
theorem ai_w_set {b : Nat} {cI cB : ClassId} {ws : ai_W} {k : Nat} {c : ai_C} : (ai_w b cI cB ws).set k (b + k, ai_e b cI cB c) = ai_w b cI cB (ws.set k c) := by
  refine List.ext_getElem? fun i => ?_
  simp only [ai_w, List.getElem?_set, List.getElem?_mapIdx, List.length_mapIdx]
  by_cases hk : k = i
  · subst hk
    by_cases hl : k < ws.length <;> simp [hl]
  · simp [hk]
theorem ai_w_push {b : Nat} {cI cB : ClassId} {ws : ai_W} {c : ai_C} : ai_w b cI cB ws ++ [(b + ws.length, ai_e b cI cB c)] = ai_w b cI cB (ws ++ [c]) := by
  simp [ai_w, List.mapIdx_append]
theorem ai_sl_set {ws : ai_W} {k : Nat} {c d : ai_C} (h : ws[k]? = some c) (hz : ai_sz d = ai_sz c) : ai_sl (ws.set k d) = ai_sl ws := by
  induction ws generalizing k with
  | nil => rfl
  | cons a ws ih =>
    cases k with
    | zero =>
      simp only [List.getElem?_cons_zero, Option.some.injEq] at h
      subst h
      simp [ai_sl, hz]
    | succ k =>
      rw [List.getElem?_cons_succ] at h
      have := ih h
      simp only [ai_sl, List.set_cons_succ, List.map_cons, List.sum_cons] at this ⊢
      omega
theorem ai_sl_push {ws : ai_W} {c : ai_C} : ai_sl (ws ++ [c]) = ai_sl ws + ai_sz c := by simp [ai_sl]
-- locals
def ai_kn : Value → Bool
  | .int _ => true
  | .float _ => true
  | .ref _ => true
  | _ => false
def ai_l (b : Nat) (ls : List Value) (arr : Array Slot) : Prop := arr.size = ls.length ∧ lv_wf arr ∧ ∀ (i : Nat) (v : Value), ls[i]? = some v → ai_kn v = true → arr[i]? = some (.val (ai_cv b v))
def ai_ps (b : Nat) (ls : List Value) : List (Nat × Value) := ((ls.mapIdx fun i v => (i, v)).filter fun q => ai_kn q.2).map fun q => (q.1, ai_cv b q.2)
theorem ai_ps_mem {b : Nat} {ls : List Value} {i : Nat} {w : Value} : (i, w) ∈ ai_ps b ls ↔ ∃ v, ls[i]? = some v ∧ ai_kn v = true ∧ w = ai_cv b v := by
  unfold ai_ps
  simp only [List.mem_map, List.mem_filter, Prod.mk.injEq]
  constructor
  · rintro ⟨⟨j, v⟩, ⟨h1, h2⟩, h3, h4⟩
    dsimp only at h2 h3 h4
    subst h3
    obtain ⟨k, hk⟩ := List.getElem?_of_mem h1
    rw [List.getElem?_mapIdx, Option.map_eq_some_iff] at hk
    obtain ⟨v2, g1, g2⟩ := hk
    cases g2
    exact ⟨v, g1, h2, h4.symm⟩
  · rintro ⟨v, h1, h2, h3⟩
    refine ⟨(i, v), ⟨?_, h2⟩, rfl, h3.symm⟩
    refine List.mem_of_getElem? (i := i) ?_
    rw [List.getElem?_mapIdx, h1]
    rfl
theorem ai_l_has {b : Nat} {ls : List Value} {arr : Array Slot} (h : ai_l b ls arr) : lv_has arr ls.length (ai_ps b ls) := by
  refine ⟨h.1, h.2.1, fun q hq => ?_⟩
  obtain ⟨i, w⟩ := q
  obtain ⟨v, h1, h2, rfl⟩ := ai_ps_mem.mp hq
  exact h.2.2 i v h1 h2
theorem ai_cv_cat {b : Nat} {v : Value} (h : ai_kn v = true) : (ai_cv b v).category = 1 := by
  cases v <;> first | rfl | cases h
theorem ai_cv_cat2 {b : Nat} {v : Value} : (ai_cv b v).category = v.category := by
  cases v <;> rfl
theorem ai_l_store {b : Nat} {ls : List Value} {arr : Array Slot} {i : Nat} {v : Value} (hi : i < ls.length) (hv : ai_kn v = true) (h : lv_has arr ls.length ((i, ai_cv b v) :: (ai_ps b ls).filter (fun q => !(q.1 == i) && !(q.1 + 1 == i && q.2.category == 2)))) : ai_l b (ls.set i v) arr := by
  refine ⟨by rw [List.length_set]; exact h.1, h.2.1, fun j w hj hw => ?_⟩
  rw [List.getElem?_set] at hj
  by_cases hij : i = j
  · subst hij
    rw [if_pos rfl, if_pos hi] at hj
    cases hj
    exact h.2.2 (i, ai_cv b v) List.mem_cons_self
  · rw [if_neg hij] at hj
    refine h.2.2 (j, ai_cv b w) (List.mem_cons_of_mem _ (List.mem_filter.mpr ⟨ai_ps_mem.mpr ⟨w, hj, hw, rfl⟩, ?_⟩))
    have hc := ai_cv_cat (b := b) hw
    simp [hc, Ne.symm hij]
theorem ai_l_entry {b n : Nat} {as : List Value} (hc : ∀ v ∈ as, v.category = 1) (hn : as.length ≤ n) : ai_l b (as ++ List.replicate (n - as.length) .null) (lg_sl (as.map (ai_cv b)) ++ List.replicate (n - (lg_sl (as.map (ai_cv b))).length) Slot.unset).toArray := by
  have e : lg_sl (as.map (ai_cv b)) = as.map (fun v => Slot.val (ai_cv b v)) := by
    clear hn
    induction as with
    | nil => rfl
    | cons a as ih =>
      have h1 : (ai_cv b a).category = 1 := by rw [ai_cv_cat2]; exact hc a List.mem_cons_self
      have h2 := ih (fun v hv => hc v (List.mem_cons_of_mem _ hv))
      simp only [lg_sl] at h2
      simp only [lg_sl, List.map_cons, List.flatMap_cons, h1, h2]
      simp
  have hl := lv_entry (as.map (ai_cv b)) (n := n) (by rw [e, List.length_map]; exact hn)
  rw [e] at hl ⊢
  refine ⟨?_, hl.2.1, fun i v hi hv => ?_⟩
  · simp
  · rw [List.getElem?_append] at hi
    by_cases hia : i < as.length
    · rw [if_pos hia] at hi
      simp [List.getElem?_append, hia, hi]
      have : as[i] = v := by rw [List.getElem?_eq_getElem hia] at hi; exact Option.some.inj hi
      rw [this]
    · rw [if_neg hia, List.getElem?_replicate] at hi
      by_cases h2 : i - as.length < n - as.length
      · rw [if_pos h2] at hi
        cases hi
        cases hv
      · rw [if_neg h2] at hi
        cases hi
-- a run never loses a cell
theorem ai_fput_len {ws ws2 : ai_W} {a ci k : Nat} {v : Value} (h : ai_fput ws a ci k v = some ws2) : ws2.length = ws.length ∧ ai_sl ws2 = ai_sl ws := by
  unfold ai_fput at h
  split at h
  · rename_i c fs hc
    split at h
    · cases h
      exact ⟨List.length_set .., ai_sl_set hc (by simp [ai_sz])⟩
    · cases h
  · cases h
theorem ai_aset_len {ws ws2 : ai_W} {a : Nat} {i x : Int32} (h : ai_aset ws a i x = some ws2) : ws2.length = ws.length ∧ ai_sl ws2 = ai_sl ws := by
  unfold ai_aset at h
  split at h
  · rename_i l hc
    rw [Option.map_eq_some_iff] at h
    obtain ⟨j, -, rfl⟩ := h
    exact ⟨List.length_set .., ai_sl_set hc (by simp [ai_sz])⟩
  · cases h
theorem ai_qset_len {ws ws2 : ai_W} {a x : Nat} {i : Int32} (h : ai_qset ws a i x = some ws2) : ws2.length = ws.length ∧ ai_sl ws2 = ai_sl ws := by
  unfold ai_qset at h
  split at h
  · rename_i l hc
    split at h
    · rw [Option.map_eq_some_iff] at h
      obtain ⟨j, -, rfl⟩ := h
      exact ⟨List.length_set .., ai_sl_set hc (by simp [ai_sz])⟩
    · cases h
  · cases h
theorem ai_copy_len {ws ws2 : ai_W} {a d : Nat} {i j n : Int32} (h : ai_copy ws a i d j n = some ws2) : ws2.length = ws.length ∧ ai_sl ws2 = ai_sl ws := by
  unfold ai_copy at h
  split at h
  · rename_i l l2 h1 h2
    split at h
    · rename_i hc
      cases h
      exact ⟨List.length_set .., ai_sl_set h2 (by simp [ai_sz, hc.2.2.2.2])⟩
    · cases h
  · cases h
end
section
/-! One instruction: it never loses a cell; what the tables say of it. -/
theorem ai_in_grow {y pc n pc2 : Nat} {i : Instr} {ls st ls2 st2 : List Value} {ws ws2 : ai_W} (h : ai_in y pc ls st ws i n = some (.inr (.inl (pc2, ls2, st2, ws2)))) : ws.length ≤ ws2.length ∧ ai_sl ws ≤ ai_sl ws2 ∧ ls2.length = ls.length := by
  unfold ai_in at h
  split at h <;> (try simp only [ai_lda, ai_ldi, ai_ldf, ai_sti, ai_stf, ai_sta, ai_bin, ai_fb, ai_jmp, ai_inv, ai_ins, ai_spc, ai_call, ai_wide, ai_go] at h) <;> (repeat' split at h) <;>
    first
    | (cases h; done)
    | (cases h; exact ⟨Nat.le_refl _, Nat.le_refl _, by simp⟩)
    | (cases h; rename_i h2; have h3 := ai_fput_len h2; exact ⟨by omega, by omega, rfl⟩)
    | (cases h; rename_i h2; have h3 := ai_aset_len h2; exact ⟨by omega, by omega, rfl⟩)
    | (cases h; rename_i h2; have h3 := ai_qset_len h2; exact ⟨by omega, by omega, rfl⟩)
    | (cases h; rename_i h2; have h3 := ai_copy_len h2; exact ⟨by omega, by omega, rfl⟩)
    | (cases h; exact ⟨by simp, by rw [ai_sl_push]; omega, rfl⟩)
theorem ai_run_grow : ∀ (F y pc : Nat) (ls st : List Value) (ws : ai_W) (r : ai_R), ai_run F y pc ls st ws = some r → ws.length ≤ r.2.length ∧ ai_sl ws ≤ ai_sl r.2 := by
  intro F
  induction F with
  | zero => intro y pc ls st ws r h; cases h
  | succ F ih =>
    intro y pc ls st ws r h
    unfold ai_run at h
    split at h
    · cases h
    · rename_i r2 hs
      cases h
      unfold ai_step at hs
      split at hs
      · unfold ai_in at hs
        split at hs <;> (try simp only [ai_lda, ai_ldi, ai_ldf, ai_sti, ai_stf, ai_sta, ai_bin, ai_fb, ai_jmp, ai_inv, ai_ins, ai_spc, ai_call, ai_wide, ai_go] at hs) <;> (repeat' split at hs) <;>
          first
          | (cases hs; done)
          | (cases hs; exact ⟨Nat.le_refl _, Nat.le_refl _⟩)
      · cases hs
    · rename_i pc2 ls2 st2 ws2 hs
      have h1 := ih _ _ _ _ _ _ h
      unfold ai_step at hs
      split at hs
      · have h2 := ai_in_grow hs
        exact ⟨Nat.le_trans h2.1 h1.1, Nat.le_trans h2.2.1 h1.2⟩
      · cases hs
    · split at h
      · split at h
        · cases h
        · rename_i h2
          have h3 := ih _ _ _ _ _ _ h2
          have h4 := ih _ _ _ _ _ _ h
          exact ⟨Nat.le_trans h3.1 h4.1, Nat.le_trans h3.2 h4.2⟩
      · cases h
-- what the tables say of a method
theorem ai_mt_len : ai_mt.length = 270 := by decide +kernel
theorem ai_kind_all : (List.range 270).all (fun y => decide (ai_kind y ≤ 2)) = true := by decide +kernel
theorem ai_m_at {y : Nat} (h : y < 270) : ai_mt[y]? = some (ai_m y) := by
  have hl : y < ai_mt.length := by rw [ai_mt_len]; exact h
  unfold ai_m
  rw [List.getElem?_eq_getElem hl]
  rfl
theorem ai_w_code {y : Nat} (h : y < 270) : Cond.code (ai_name y) (ai_code y) (ai_L y) (ai_ret y) ∈ ai_T := by
  have h1 := ai_okd_all y h
  unfold ai_okd at h1
  rw [ai_m_at h] at h1
  split at h1
  · rename_i q w hq hw
    cases hq
    exact ai_has_in h1
  · cases h1
theorem ai_yok {y : Nat} (h : y < 270) : Cond.initialized (ai_name y).cls ∈ ai_T ∧ (ai_name y).cls ≠ "java/lang/invoke/MethodHandle" ∧ (ai_name y).cls ≠ "java/lang/invoke/VarHandle" ∧ plainFor (ai_name y) = true ∧ (parseMethodDescriptor (ai_name y).desc).map (fun d => d.parameters.length) = some (ai_n y) ∧ ai_L y ≤ 20 ∧ (ai_kind y = 0 → Cond.static (ai_name y) ∈ ai_T) ∧ (ai_kind y ≠ 0 → Cond.instanceMethod (ai_name y) ∈ ai_T ∧ (vwCl[ai_ci y]?).map (fun r => r.1) = some (ai_name y).cls) ∧ (ai_kind y = 1 → Cond.selects (ai_name y).cls (ai_name y) (ai_name y) ∈ ai_T) ∧ (ai_kind y = 2 → (ai_name y).name = "<init>" ∧ ai_ret y = none) ∧ ai_vc[ai_view y]? = some (ai_name y).cls ∧ (ai_kind y ≤ 2) := by
  have h1 := List.all_eq_true.mp ai_okm_all y (List.mem_range.mpr h)
  unfold ai_okm at h1
  rw [ai_m_at h] at h1
  split at h1
  · rename_i q a b c d hq hw
    cases hq
    simp only [Bool.and_eq_true, decide_eq_true_eq, Bool.or_eq_true] at h1
    obtain ⟨⟨⟨⟨⟨⟨⟨h2, h3⟩, h4⟩, h5⟩, h6⟩, h7⟩, h8⟩, h9⟩ := h1
    have hp : plainFor (ai_name y) = true := by
      rcases h5 with h5 | h5
      · exact plainFor_of_name h5
      · refine List.all_eq_true.mp ai_jdk_ok _ (List.mem_map.mpr ⟨ai_m y, List.mem_filter.mpr ⟨List.mem_of_getElem? (ai_m_at h), by rw [decide_eq_true_eq]; exact h5⟩, rfl⟩)
    refine ⟨ai_has_in h2, h3, h4, hp, h6, h7, fun k => ?_, fun k => ?_, fun k => ?_, fun k => ?_, h9, ?_⟩
    · have k' : (ai_m y).2.2.2.2.2.1 = 0 := k
      rw [if_pos k'] at h8
      exact ai_has_in h8
    · have k' : ¬ (ai_m y).2.2.2.2.2.1 = 0 := k
      rw [if_neg k'] at h8
      simp only [Bool.and_eq_true, decide_eq_true_eq] at h8
      exact ⟨ai_has_in h8.1.1, h8.1.2⟩
    · have k' : (ai_m y).2.2.2.2.2.1 = 1 := k
      rw [if_neg (by rw [k']; decide), if_pos k'] at h8
      simp only [Bool.and_eq_true] at h8
      exact ai_has_in h8.2
    · have k' : (ai_m y).2.2.2.2.2.1 = 2 := k
      rw [if_neg (by rw [k']; decide), if_neg (by rw [k']; decide)] at h8
      simp only [Bool.and_eq_true, decide_eq_true_eq] at h8
      exact h8.2
    · have := List.all_eq_true.mp ai_kind_all y (List.mem_range.mpr h)
      exact of_decide_eq_true this
  · cases h1
end
section
/-! One instruction of the plain machine, done by the JVM. -/
def ai_Z (U : State) : Prop := va_AO RX0 U ∧ ∀ q ∈ ai_nest, va_Nw (.methodLinkNest q.1 q.2.1 q.2.2 "StoryCoroner") U
theorem ai_Z.warm {s U : State} (hW : s.WarmedH U.vm) (h : ai_Z s) : ai_Z U := ⟨h.1.moved hW.alike, fun q hq => va_Nw.warmM hW (h.2 q hq)⟩
theorem ai_Z.same {u U : State} (hvm : u.vm = U.vm) (h : ai_Z u) : ai_Z U := ⟨h.1.moved (by rw [hvm]; exact Vm.Alike.refl U.vm), fun q hq => va_Nw.same rfl hvm (h.2 q hq)⟩
def ai_tys (cI cB : ClassId) : List (ClassId × FieldType) := [(cI, .int), (cB, .object RX0)]
def ai_X (p : Program) (l : Launch) (e : Env) (R : Room) (s : State) (m : MethodId) (args : Array Value) (below : List Frame) (meth : Method) (c : Code) (Q : State → Prop) (b n0 s0 : Nat) (cI cB : ClassId) (dC : Nat → ClassId) (dI : Nat → Nat → Nat) (A : Nat → Prop) (pc : Nat) (ls st : List Value) (ws : ai_W) : Prop :=
  ∀ (arr : Array Slot) (H : Heap) (locs : List Loc) (cells slots : Nat), ai_l b ls arr → va_P (dC, dI) vwCl (ai_w b cI cB ws) H → va_D A (ai_w b cI cB ws) → va_S A s.heap H locs → ws.length = n0 + cells → ai_sl ws = s0 + slots → W p l e R s m args below meth c H locs cells slots Q (F0 m pc arr (st.map (ai_cv b)))
/-- what stays through a method's run -/
def ai_F (p : Program) (R : Room) (s : State) (m : MethodId) (args : Array Value) (meth : Method) (c : Code) (b n0 : Nat) (cI cB : ClassId) (dC : Nat → ClassId) (dI : Nat → Nat → Nat) (A : Nat → Prop) (y : Nat) : Prop :=
  y < 270 ∧ p.tables.exec = Jvm.exec ∧ c.code = ai_code y ∧ c.maxLocals = ai_L y ∧ s.vm.findClass (ai_name y).cls = some m.cls ∧ (∀ w ∈ ai_T, w.before args s = true) ∧ va_K (dC, dI) vwCl (ai_tys cI cB) s ∧ meth.sig.returnType = ai_ret y ∧ meth.locks = false ∧ (ai_kind y = 2 → meth.name = "<init>") ∧ ai_Z s ∧ (∀ q, s.heap.size ≤ q → A q) ∧ (∀ q, A q → b ≤ q) ∧ s.heap.size = b + n0 ∧ y + 1 ≤ R.frames ∧ 40 * y + 60 ≤ R.locals
section AIS
variable {p : Program} {l : Launch} {e : Env} {R : Room} {s : State} {m : MethodId} {args : Array Value} {below : List Frame} {meth : Method} {c : Code} {Q : State → Prop} {b n0 s0 : Nat} {cI cB : ClassId} {dC : Nat → ClassId} {dI : Nat → Nat → Nat} {A : Nat → Prop}
theorem ai_lda_ok {n k pc pc2 : Nat} {ls st ls2 st2 : List Value} {ws ws2 : ai_W} (row : ∀ {H : Heap} {locs : List Loc} {cells slots : Nat} {arr : Array Slot} {rest : List Value} {a : Nat}, arr[k]? = some (.val (.ref a)) → W p l e R s m args below meth c H locs cells slots Q (F0 m (pc + n) arr (.ref a :: rest)) → W p l e R s m args below meth c H locs cells slots Q (F0 m pc arr rest)) (h : ai_lda n k pc ls st ws = some (.inr (.inl (pc2, ls2, st2, ws2)))) (kk : ai_X p l e R s m args below meth c Q b n0 s0 cI cB dC dI A pc2 ls2 st2 ws2) : ai_X p l e R s m args below meth c Q b n0 s0 cI cB dC dI A pc ls st ws := by
  unfold ai_lda ai_go at h
  split at h
  · rename_i a ha
    cases h
    intro arr H locs cells slots hl hP hD hS h1 h2
    exact row (hl.2.2 k _ ha rfl) (kk arr H locs cells slots hl hP hD hS h1 h2)
  · cases h
theorem ai_ldi_ok {n k pc pc2 : Nat} {ls st ls2 st2 : List Value} {ws ws2 : ai_W} (row : ∀ {H : Heap} {locs : List Loc} {cells slots : Nat} {arr : Array Slot} {rest : List Value} {a : Int32}, arr[k]? = some (.val (.int a)) → W p l e R s m args below meth c H locs cells slots Q (F0 m (pc + n) arr (.int a :: rest)) → W p l e R s m args below meth c H locs cells slots Q (F0 m pc arr rest)) (h : ai_ldi n k pc ls st ws = some (.inr (.inl (pc2, ls2, st2, ws2)))) (kk : ai_X p l e R s m args below meth c Q b n0 s0 cI cB dC dI A pc2 ls2 st2 ws2) : ai_X p l e R s m args below meth c Q b n0 s0 cI cB dC dI A pc ls st ws := by
  unfold ai_ldi ai_go at h
  split at h
  · rename_i a ha
    cases h
    intro arr H locs cells slots hl hP hD hS h1 h2
    exact row (hl.2.2 k _ ha rfl) (kk arr H locs cells slots hl hP hD hS h1 h2)
  · cases h
theorem ai_ldf_ok {n k pc pc2 : Nat} {ls st ls2 st2 : List Value} {ws ws2 : ai_W} (row : ∀ {H : Heap} {locs : List Loc} {cells slots : Nat} {arr : Array Slot} {rest : List Value} {a : UInt32}, arr[k]? = some (.val (.float a)) → W p l e R s m args below meth c H locs cells slots Q (F0 m (pc + n) arr (.float a :: rest)) → W p l e R s m args below meth c H locs cells slots Q (F0 m pc arr rest)) (h : ai_ldf n k pc ls st ws = some (.inr (.inl (pc2, ls2, st2, ws2)))) (kk : ai_X p l e R s m args below meth c Q b n0 s0 cI cB dC dI A pc2 ls2 st2 ws2) : ai_X p l e R s m args below meth c Q b n0 s0 cI cB dC dI A pc ls st ws := by
  unfold ai_ldf ai_go at h
  split at h
  · rename_i a ha
    cases h
    intro arr H locs cells slots hl hP hD hS h1 h2
    exact row (hl.2.2 k _ ha rfl) (kk arr H locs cells slots hl hP hD hS h1 h2)
  · cases h
theorem ai_sti_ok {n k pc pc2 : Nat} {ls st ls2 st2 : List Value} {ws ws2 : ai_W} (row : ∀ {H : Heap} {locs : List Loc} {cells slots nL : Nat} {arr : Array Slot} {rest : List Value} {a : Int32} {lv : List (Nat × Value)}, lv_has arr nL lv → k < nL → (∀ arr2 : Array Slot, lv_has arr2 nL ((k, Value.int a) :: lv.filter (fun q => !(q.1 == k) && !(q.1 + 1 == k && q.2.category == 2))) → W p l e R s m args below meth c H locs cells slots Q (F0 m (pc + n) arr2 rest)) → W p l e R s m args below meth c H locs cells slots Q (F0 m pc arr (.int a :: rest))) (h : ai_sti n k pc ls st ws = some (.inr (.inl (pc2, ls2, st2, ws2)))) (kk : ai_X p l e R s m args below meth c Q b n0 s0 cI cB dC dI A pc2 ls2 st2 ws2) : ai_X p l e R s m args below meth c Q b n0 s0 cI cB dC dI A pc ls st ws := by
  unfold ai_sti ai_go at h
  split at h
  · split at h
    · rename_i x st hk
      cases h
      intro arr H locs cells slots hl hP hD hS h1 h2
      exact row (ai_l_has hl) hk (fun arr2 h3 => kk arr2 H locs cells slots (ai_l_store (v := .int x) hk rfl h3) hP hD hS h1 h2)
    · cases h
  · cases h
theorem ai_stf_ok {n k pc pc2 : Nat} {ls st ls2 st2 : List Value} {ws ws2 : ai_W} (row : ∀ {H : Heap} {locs : List Loc} {cells slots nL : Nat} {arr : Array Slot} {rest : List Value} {a : UInt32} {lv : List (Nat × Value)}, lv_has arr nL lv → k < nL → (∀ arr2 : Array Slot, lv_has arr2 nL ((k, Value.float a) :: lv.filter (fun q => !(q.1 == k) && !(q.1 + 1 == k && q.2.category == 2))) → W p l e R s m args below meth c H locs cells slots Q (F0 m (pc + n) arr2 rest)) → W p l e R s m args below meth c H locs cells slots Q (F0 m pc arr (.float a :: rest))) (h : ai_stf n k pc ls st ws = some (.inr (.inl (pc2, ls2, st2, ws2)))) (kk : ai_X p l e R s m args below meth c Q b n0 s0 cI cB dC dI A pc2 ls2 st2 ws2) : ai_X p l e R s m args below meth c Q b n0 s0 cI cB dC dI A pc ls st ws := by
  unfold ai_stf ai_go at h
  split at h
  · split at h
    · rename_i x st hk
      cases h
      intro arr H locs cells slots hl hP hD hS h1 h2
      exact row (ai_l_has hl) hk (fun arr2 h3 => kk arr2 H locs cells slots (ai_l_store (v := .float x) hk rfl h3) hP hD hS h1 h2)
    · cases h
  · cases h
theorem ai_sta_ok {n k pc pc2 : Nat} {ls st ls2 st2 : List Value} {ws ws2 : ai_W} (row : ∀ {H : Heap} {locs : List Loc} {cells slots nL : Nat} {arr : Array Slot} {rest : List Value} {a : Nat} {lv : List (Nat × Value)}, lv_has arr nL lv → k < nL → (∀ arr2 : Array Slot, lv_has arr2 nL ((k, Value.ref a) :: lv.filter (fun q => !(q.1 == k) && !(q.1 + 1 == k && q.2.category == 2))) → W p l e R s m args below meth c H locs cells slots Q (F0 m (pc + n) arr2 rest)) → W p l e R s m args below meth c H locs cells slots Q (F0 m pc arr (.ref a :: rest))) (h : ai_sta n k pc ls st ws = some (.inr (.inl (pc2, ls2, st2, ws2)))) (kk : ai_X p l e R s m args below meth c Q b n0 s0 cI cB dC dI A pc2 ls2 st2 ws2) : ai_X p l e R s m args below meth c Q b n0 s0 cI cB dC dI A pc ls st ws := by
  unfold ai_sta ai_go at h
  split at h
  · split at h
    · rename_i x st hk
      cases h
      intro arr H locs cells slots hl hP hD hS h1 h2
      exact row (ai_l_has hl) hk (fun arr2 h3 => kk arr2 H locs cells slots (ai_l_store (v := .ref x) hk rfl h3) hP hD hS h1 h2)
    · cases h
  · cases h
theorem ai_bin_ok {pc pc2 : Nat} {f : Int32 → Int32 → Option Int32} {ls st ls2 st2 : List Value} {ws ws2 : ai_W} (row : ∀ {H : Heap} {locs : List Loc} {cells slots : Nat} {arr : Array Slot} {rest : List Value} {x y z : Int32}, f x y = some z → W p l e R s m args below meth c H locs cells slots Q (F0 m (pc + 1) arr (.int z :: rest)) → W p l e R s m args below meth c H locs cells slots Q (F0 m pc arr (.int y :: .int x :: rest))) (h : ai_bin f pc ls st ws = some (.inr (.inl (pc2, ls2, st2, ws2)))) (kk : ai_X p l e R s m args below meth c Q b n0 s0 cI cB dC dI A pc2 ls2 st2 ws2) : ai_X p l e R s m args below meth c Q b n0 s0 cI cB dC dI A pc ls st ws := by
  unfold ai_bin ai_go at h
  split at h
  · split at h
    · rename_i hz
      cases h
      intro arr H locs cells slots hl hP hD hS h1 h2
      exact row hz (kk arr H locs cells slots hl hP hD hS h1 h2)
    · cases h
  · cases h
theorem ai_fb_ok {pc pc2 : Nat} {f : UInt32 → UInt32 → UInt32} {ls st ls2 st2 : List Value} {ws ws2 : ai_W} (row : ∀ {H : Heap} {locs : List Loc} {cells slots : Nat} {arr : Array Slot} {rest : List Value} {x y : UInt32}, vf_n32 (f x y) → W p l e R s m args below meth c H locs cells slots Q (F0 m (pc + 1) arr (.float (f x y) :: rest)) → W p l e R s m args below meth c H locs cells slots Q (F0 m pc arr (.float y :: .float x :: rest))) (h : ai_fb f pc ls st ws = some (.inr (.inl (pc2, ls2, st2, ws2)))) (kk : ai_X p l e R s m args below meth c Q b n0 s0 cI cB dC dI A pc2 ls2 st2 ws2) : ai_X p l e R s m args below meth c Q b n0 s0 cI cB dC dI A pc ls st ws := by
  unfold ai_fb ai_go at h
  split at h
  · split at h
    · rename_i hz
      cases h
      intro arr H locs cells slots hl hP hD hS h1 h2
      exact row hz (kk arr H locs cells slots hl hP hD hS h1 h2)
    · cases h
  · cases h
theorem ai_tgt_of {pc t : Nat} {off : Int} (h : ai_tgt pc off = some t) : (pc : Int) + off = (t : Int) := by
  unfold ai_tgt at h
  split at h
  · rename_i q hq
    cases h
    exact hq
  · cases h
theorem ai_jmp_ok {pc pc2 : Nat} {off : Int} {t : Bool} {pre ls st ls2 st2 : List Value} {ws ws2 : ai_W} (row : ∀ {H : Heap} {locs : List Loc} {cells slots tgt : Nat} {arr : Array Slot} {rest : List Value}, (pc : Int) + off = (tgt : Int) → W p l e R s m args below meth c H locs cells slots Q (F0 m (if t = true then tgt else pc + 3) arr rest) → W p l e R s m args below meth c H locs cells slots Q (F0 m pc arr (pre.map (ai_cv b) ++ rest))) (h : ai_jmp pc off t ls st ws = some (.inr (.inl (pc2, ls2, st2, ws2)))) (kk : ai_X p l e R s m args below meth c Q b n0 s0 cI cB dC dI A pc2 ls2 st2 ws2) : ai_X p l e R s m args below meth c Q b n0 s0 cI cB dC dI A pc ls (pre ++ st) ws := by
  unfold ai_jmp ai_go at h
  split at h
  · rename_i q hq
    cases h
    intro arr H locs cells slots hl hP hD hS h1 h2
    rw [List.map_append]
    exact row (ai_tgt_of hq) (kk arr H locs cells slots hl hP hD hS h1 h2)
  · cases h
theorem ai_cmp_row {cc : ByteArray} {pc : Nat} {cd : Jvm.ClassFile.Cond} {off : Int} (hx : p.tables.exec = Jvm.exec) (hb : c.code = cc) (hd : decode cc pc = .ok (.if_icmp cd off, 3)) {x y : Int32} {H : Heap} {locs : List Loc} {cells slots tgt : Nat} {arr : Array Slot} {rest : List Value} (ht : (pc : Int) + off = (tgt : Int)) (k : W p l e R s m args below meth c H locs cells slots Q (F0 m (if ai_cmp cd x y = true then tgt else pc + 3) arr rest)) : W p l e R s m args below meth c H locs cells slots Q (F0 m pc arr (.int y :: .int x :: rest)) := by
  cases cd
  · refine lv_icmp_eq hx hb hd ht (fun h => ?_) (fun h => ?_)
    · rw [if_pos (show ai_cmp .eq x y = true from decide_eq_true h)] at k; exact k
    · rw [if_neg (by rw [show ai_cmp .eq x y = false from decide_eq_false h]; decide)] at k; exact k
  · refine lv_icmp_ne hx hb hd ht (fun h => ?_) (fun h => ?_)
    · rw [if_pos (show ai_cmp .ne x y = true from decide_eq_true h)] at k; exact k
    · rw [if_neg (by rw [show ai_cmp .ne x y = false from decide_eq_false (by simpa using h)]; decide)] at k; exact k
  · refine lv_icmp_lt hx hb hd ht (fun h => ?_) (fun h => ?_)
    · rw [if_pos (show ai_cmp .lt x y = true from decide_eq_true h)] at k; exact k
    · rw [if_neg (by rw [show ai_cmp .lt x y = false from decide_eq_false h]; decide)] at k; exact k
  · refine lv_icmp_ge hx hb hd ht (fun h => ?_) (fun h => ?_)
    · rw [if_pos (show ai_cmp .ge x y = true from decide_eq_true h)] at k; exact k
    · rw [if_neg (by rw [show ai_cmp .ge x y = false from decide_eq_false h]; decide)] at k; exact k
  · refine lv_icmp_gt hx hb hd ht (fun h => ?_) (fun h => ?_)
    · rw [if_pos (show ai_cmp .gt x y = true from decide_eq_true h)] at k; exact k
    · rw [if_neg (by rw [show ai_cmp .gt x y = false from decide_eq_false h]; decide)] at k; exact k
  · refine lv_icmp_le hx hb hd ht (fun h => ?_) (fun h => ?_)
    · rw [if_pos (show ai_cmp .le x y = true from decide_eq_true h)] at k; exact k
    · rw [if_neg (by rw [show ai_cmp .le x y = false from decide_eq_false h]; decide)] at k; exact k
theorem ai_if_row {cc : ByteArray} {pc : Nat} {cd : Jvm.ClassFile.Cond} {off : Int} (hx : p.tables.exec = Jvm.exec) (hb : c.code = cc) (hd : decode cc pc = .ok (.ifCond cd off, 3)) {x : Int32} {H : Heap} {locs : List Loc} {cells slots tgt : Nat} {arr : Array Slot} {rest : List Value} (ht : (pc : Int) + off = (tgt : Int)) (k : W p l e R s m args below meth c H locs cells slots Q (F0 m (if ai_cmp cd x 0 = true then tgt else pc + 3) arr rest)) : W p l e R s m args below meth c H locs cells slots Q (F0 m pc arr (.int x :: rest)) := by
  cases cd
  · refine lv_if_eq hx hb hd ht (fun h => ?_) (fun h => ?_)
    · rw [if_pos (show ai_cmp .eq x 0 = true from decide_eq_true h)] at k; exact k
    · rw [if_neg (by rw [show ai_cmp .eq x 0 = false from decide_eq_false h]; decide)] at k; exact k
  · refine lv_if_ne hx hb hd ht (fun h => ?_) (fun h => ?_)
    · rw [if_pos (show ai_cmp .ne x 0 = true from decide_eq_true h)] at k; exact k
    · rw [if_neg (by rw [show ai_cmp .ne x 0 = false from decide_eq_false (by simpa using h)]; decide)] at k; exact k
  · refine lv_if_lt hx hb hd ht (fun h => ?_) (fun h => ?_)
    · rw [if_pos (show ai_cmp .lt x 0 = true from decide_eq_true h)] at k; exact k
    · rw [if_neg (by rw [show ai_cmp .lt x 0 = false from decide_eq_false h]; decide)] at k; exact k
  · refine lv_if_ge hx hb hd ht (fun h => ?_) (fun h => ?_)
    · rw [if_pos (show ai_cmp .ge x 0 = true from decide_eq_true h)] at k; exact k
    · rw [if_neg (by rw [show ai_cmp .ge x 0 = false from decide_eq_false h]; decide)] at k; exact k
  · refine lv_if_gt hx hb hd ht (fun h => ?_) (fun h => ?_)
    · rw [if_pos (show ai_cmp .gt x 0 = true from decide_eq_true h)] at k; exact k
    · rw [if_neg (by rw [show ai_cmp .gt x 0 = false from decide_eq_false h]; decide)] at k; exact k
  · refine lv_if_le hx hb hd ht (fun h => ?_) (fun h => ?_)
    · rw [if_pos (show ai_cmp .le x 0 = true from decide_eq_true h)] at k; exact k
    · rw [if_neg (by rw [show ai_cmp .le x 0 = false from decide_eq_false h]; decide)] at k; exact k
end AIS
end
section
/-! Cells: fields, arrays, new ones. -/
theorem ai_f_of {y i ci k wi : Nat} (hy : y < 270) (h : ai_lk ai_vf (ai_view y) i = some (ci, k, wi)) : ∃ r : vw_C, vwCl[ci]? = some r ∧ k < r.2.2 ∧ Cond.fieldLink (ai_name y).cls i (r.2.1 k).1 (r.2.1 k).2.1 (r.2.1 k).2.2.1 ∈ ai_T ∧ (r.2.1 k).1 = r.1 := by
  obtain ⟨l, h1, h2⟩ := ai_lk_mem h
  have hl : ai_view y < ai_vf.length := (List.getElem?_eq_some_iff.mp h1).1
  have h3 := List.all_eq_true.mp ai_okf_all _ (List.mem_range.mpr hl)
  rw [h1] at h3
  have h4 := List.all_eq_true.mp h3 _ h2
  unfold ai_okf at h4
  rw [(ai_yok hy).2.2.2.2.2.2.2.2.2.2.1] at h4
  split at h4
  · rename_i own r hown hr
    cases hown
    simp only [Bool.and_eq_true, decide_eq_true_eq] at h4
    exact ⟨r, hr, h4.1.1, ai_has_in h4.1.2, h4.2⟩
  · cases h4
theorem ai_c_of {ci : Nat} {r : vw_C} (h : vwCl[ci]? = some r) : (∀ w ∈ u_ws r.1 r.2.1 r.2.2, w ∈ ai_T) ∧ (∀ k, k < r.2.2 → parseFieldDescriptor (r.2.1 k).2.2.1 = some ((parseFieldDescriptor (r.2.1 k).2.2.1).getD .int)) ∧ ∀ a, a < r.2.2 → ∀ b, b < r.2.2 → a ≠ b → (r.2.1 a).2.1 ≠ (r.2.1 b).2.1 := by
  have h1 := List.all_eq_true.mp ai_okc_all r (List.mem_of_getElem? h)
  unfold ai_okc at h1
  rw [Bool.and_eq_true] at h1
  refine ⟨fun w hw => ?_, fun k hk => ?_, fun a ha b hb hab => ?_⟩
  · have h2 := List.all_eq_true.mp h1.1 w hw
    rw [Bool.and_eq_true, decide_eq_true_eq] at h2
    exact List.mem_filter.mpr h2
  · have h2 := List.all_eq_true.mp h1.2 k (List.mem_range.mpr hk)
    rw [Bool.and_eq_true] at h2
    obtain ⟨t, ht⟩ := Option.isSome_iff_exists.mp h2.1
    rw [ht]
    rfl
  · have h2 := List.all_eq_true.mp h1.2 a (List.mem_range.mpr ha)
    rw [Bool.and_eq_true] at h2
    have h3 := List.all_eq_true.mp h2.2 b (List.mem_range.mpr hb)
    simp only [Bool.or_eq_true, decide_eq_true_eq] at h3
    rcases h3 with h3 | h3
    · exact absurd h3 hab
    · exact h3
theorem ai_cl_at {ci : Nat} {r : vw_C} (h : vwCl[ci]? = some r) : ai_cl ci = r := by
  unfold ai_cl
  rw [h]
  rfl
theorem ai_n_of {y i ci w1 w2 w3 : Nat} (hy : y < 270) (h : ai_lk ai_vn (ai_view y) i = some (ci, w1, w2, w3)) : ∃ r : vw_C, vwCl[ci]? = some r ∧ Cond.classLink (ai_name y).cls i r.1 ∈ ai_T ∧ Cond.instantiable r.1 r.2.2 ∈ ai_T ∧ Cond.initialized r.1 ∈ ai_T := by
  obtain ⟨l, h1, h2⟩ := ai_lk_mem h
  have hl : ai_view y < ai_vn.length := (List.getElem?_eq_some_iff.mp h1).1
  have h3 := List.all_eq_true.mp ai_okn_all _ (List.mem_range.mpr hl)
  rw [h1] at h3
  have h4 := List.all_eq_true.mp h3 _ h2
  unfold ai_okn at h4
  rw [(ai_yok hy).2.2.2.2.2.2.2.2.2.2.1] at h4
  split at h4
  · rename_i own r hown hr
    cases hown
    simp only [Bool.and_eq_true] at h4
    exact ⟨r, hr, ai_has_in h4.1.1, ai_has_in h4.1.2, ai_has_in h4.2⟩
  · cases h4
theorem ai_ix_in {i : Int32} {n j : Nat} (h : ai_ix i n = some j) : vp_in i n ∧ j = i.toNatClampNeg ∧ j < n := by
  unfold ai_ix at h
  split at h
  · cases h
  · rename_i h1
    cases h
    exact ⟨h1, rfl, by omega⟩
theorem ai_cv_nar {b : Nat} {ty : FieldType} {v : Value} (h : ai_pok (some ty) v = true) : narrow ty (ai_cv b v) = ai_cv b v ∧ fits ty (ai_cv b v) = true := by
  cases ty <;> cases v <;> first
    | (cases h; done)
    | exact ⟨rfl, rfl⟩
    | (simp only [ai_pok, Bool.or_eq_true, beq_iff_eq] at h; rcases h with rfl | rfl <;> exact ⟨rfl, rfl⟩)
/-- every field's first value -/
def ai_dvk (r : vw_C) : Bool := (List.range r.2.2).all fun k => match parseFieldDescriptor (r.2.1 k).2.2.1 with
  | some ty => decide (defaultValue ty = ai_dv (some ty))
  | none => false
theorem ai_dvk_all : vwCl.all ai_dvk = true := by decide +kernel
theorem ai_dv_cv {b : Nat} {t : Option FieldType} : ai_cv b (ai_dv t) = ai_dv t := by
  cases t with
  | none => rfl
  | some t => cases t <;> rfl
theorem ai_dv_ok {b ci : Nat} {r : vw_C} (h : vwCl[ci]? = some r) (j : Nat) (hj : j < r.2.2) {ty : FieldType} (hty : parseFieldDescriptor (r.2.1 j).2.2.1 = some ty) : defaultValue ty = ai_cv b (ai_dv (some ty)) := by
  have h1 := List.all_eq_true.mp (List.all_eq_true.mp ai_dvk_all r (List.mem_of_getElem? h)) j (List.mem_range.mpr hj)
  rw [hty] at h1
  rw [ai_dv_cv]
  exact of_decide_eq_true h1
section AIS
variable {p : Program} {l : Launch} {e : Env} {R : Room} {s : State} {m : MethodId} {args : Array Value} {below : List Frame} {meth : Method} {c : Code} {Q : State → Prop} {b n0 s0 : Nat} {cI cB : ClassId} {dC : Nat → ClassId} {dI : Nat → Nat → Nat} {A : Nat → Prop}
theorem ai_get_ok {y i pc pc2 : Nat} {ls st ls2 st2 : List Value} {ws ws2 : ai_W} (hF : ai_F p R s m args meth c b n0 cI cB dC dI A y) (hd : decode (ai_code y) pc = .ok (.getfield i, 3)) (h : ai_in y pc ls st ws (.getfield i) 3 = some (.inr (.inl (pc2, ls2, st2, ws2)))) (kk : ai_X p l e R s m args below meth c Q b n0 s0 cI cB dC dI A pc2 ls2 st2 ws2) : ai_X p l e R s m args below meth c Q b n0 s0 cI cB dC dI A pc ls st ws := by
  obtain ⟨hy, hx, hb, hml, hown, hts, hK, hr, hlk, hin, hZ, hA, hA2, hz, hR1, hR2⟩ := hF
  simp only [ai_in] at h
  split at h
  · rename_i ci k wi a st hv
    split at h
    · rename_i v hg
      cases h
      obtain ⟨r, r1, r2, r3, r4⟩ := ai_f_of hy hv
      intro arr H locs cells slots hl hP hD hS h1 h2
      unfold ai_fget at hg
      split at hg
      · rename_i cc fs hc
        split at hg
        · rename_i hcc
          subst hcc
          refine va_get (C := r.1) (T := r.2.1) (N := r.2.2) hx hb hts (ai_c_of r1).1 hown hK hP a (ai_w_get hc) r1 k r2 (hts _ r3) (fun _ q => q) (v := ai_cv b v) ?_ hd ?_
          · show (fs.map (ai_cv b))[k]? = _
            rw [List.getElem?_map, hg]
            rfl
          · exact kk arr H locs cells slots hl hP hD hS h1 h2
        · cases hg
      · cases hg
    · cases h
  · cases h
theorem ai_put_ok {y i pc pc2 : Nat} {ls st ls2 st2 : List Value} {ws ws2 : ai_W} (hF : ai_F p R s m args meth c b n0 cI cB dC dI A y) (hd : decode (ai_code y) pc = .ok (.putfield i, 3)) (h : ai_in y pc ls st ws (.putfield i) 3 = some (.inr (.inl (pc2, ls2, st2, ws2)))) (kk : ai_X p l e R s m args below meth c Q b n0 s0 cI cB dC dI A pc2 ls2 st2 ws2) : ai_X p l e R s m args below meth c Q b n0 s0 cI cB dC dI A pc ls st ws := by
  obtain ⟨hy, hx, hb, hml, hown, hts, hK, hr, hlk, hin, hZ, hA, hA2, hz, hR1, hR2⟩ := hF
  simp only [ai_in] at h
  split at h
  · rename_i ci k wi v a st hv
    split at h
    · rename_i hfin
      split at h
      · rename_i hg
        cases h
        obtain ⟨r, r1, r2, r3, r4⟩ := ai_f_of hy hv
        have hcl := ai_cl_at r1
        intro arr H locs cells slots hl hP hD hS h1 h2
        unfold ai_fput at hg
        split at hg
        · rename_i cc fs hc
          split at hg
          · rename_i hcc
            obtain ⟨e1, hkl, hpo⟩ := hcc
            subst e1
            cases hg
            have c1 := ai_c_of r1
            have hty := c1.2.1 k r2
            generalize (parseFieldDescriptor (r.2.1 k).2.2.1).getD FieldType.int = ty at hty
            have hpo2 : ai_pok (some ty) v = true := by
              rw [← hty, ← hcl]
              exact hpo
            have hnf := ai_cv_nar (b := b) hpo2
            have hkl2 : k < (fs.map (ai_cv b)).length := by rw [List.length_map]; exact hkl
            have hco := ai_w_get (b := b) (cI := cI) (cB := cB) hc
            have fin : ∀ (H1 : Heap) (locs1 : List Loc), va_P (dC, dI) vwCl ((ai_w b cI cB ws).set a (b + a, .inr (cc, (fs.map (ai_cv b)).set k (ai_cv b v)))) H1 → va_D A ((ai_w b cI cB ws).set a (b + a, .inr (cc, (fs.map (ai_cv b)).set k (ai_cv b v)))) → va_S A s.heap H1 locs1 → W p l e R s m args below meth c H1 locs1 cells slots Q (F0 m (pc + 3) arr (st2.map (ai_cv b))) := by
              intro H1 locs1 g1 g2 g3
              have e2 : (ai_w b cI cB ws).set a (b + a, .inr (cc, (fs.map (ai_cv b)).set k (ai_cv b v))) = ai_w b cI cB (ws.set a (.inr (.inr (cc, fs.set k v)))) := by
                rw [← ai_w_set, ← List.map_set]
                rfl
              rw [e2] at g1 g2
              exact kk arr H1 locs1 cells slots hl g1 g2 g3 (by rw [List.length_set]; exact h1) (by rw [ai_sl_set hc (by simp [ai_sz])]; exact h2)
            cases hfi : (r.2.1 k).2.2.2
            · exact va_put (C := r.1) (T := r.2.1) (N := r.2.2) (ref := (r.2.1 k).1) hx hb hts c1.1 _ c1.2.1 c1.2.2 hown hK hP hD hS a hco r1 k r2 (hts _ r3) (fun _ q => q) hfi hty hnf.1 hnf.2 hkl2 hd fin
            · have hk2 := hfin (by rw [hcl]; exact hfi)
              have hcn : r.1 = (ai_name y).cls := by
                have q := ((ai_yok hy).2.2.2.2.2.2.2.1 (by rw [hk2.1]; decide)).2
                rw [hk2.2, r1] at q
                exact Option.some.inj q
              exact va_putF (C := r.1) (T := r.2.1) (N := r.2.2) (ref := (r.2.1 k).1) hx hb hts c1.1 _ c1.2.1 c1.2.2 hown hK hP hD hS a hco r1 k r2 (hts _ r3) (fun _ q => q) hfi (hin hk2.1) (r4.trans hcn) hty hnf.1 hnf.2 hkl2 hd fin
          · cases hg
        · cases hg
      · cases h
    · cases h
  · cases h
theorem ai_iald_ok {y pc pc2 : Nat} {ls st ls2 st2 : List Value} {ws ws2 : ai_W} (hF : ai_F p R s m args meth c b n0 cI cB dC dI A y) (hd : decode (ai_code y) pc = .ok (.iaload, 1)) (h : ai_in y pc ls st ws .iaload 1 = some (.inr (.inl (pc2, ls2, st2, ws2)))) (kk : ai_X p l e R s m args below meth c Q b n0 s0 cI cB dC dI A pc2 ls2 st2 ws2) : ai_X p l e R s m args below meth c Q b n0 s0 cI cB dC dI A pc ls st ws := by
  obtain ⟨hy, hx, hb, hml, hown, hts, hK, hr, hlk, hin, hZ, hA, hA2, hz, hR1, hR2⟩ := hF
  simp only [ai_in] at h
  split at h
  · rename_i i a st
    split at h
    · rename_i x hg
      cases h
      unfold ai_aget at hg
      split at hg
      · rename_i q hc
        rw [Option.map_eq_some_iff] at hg
        obtain ⟨j, hj, rfl⟩ := hg
        obtain ⟨j1, rfl, j3⟩ := ai_ix_in hj
        intro arr H locs cells slots hl hP hD hS h1 h2
        exact va_iald hx hb hK hP a 0 (ai_w_get hc) rfl j1 hd (kk arr H locs cells slots hl hP hD hS h1 h2)
      · cases hg
    · cases h
  · cases h
theorem ai_iast_ok {y pc pc2 : Nat} {ls st ls2 st2 : List Value} {ws ws2 : ai_W} (hF : ai_F p R s m args meth c b n0 cI cB dC dI A y) (hd : decode (ai_code y) pc = .ok (.iastore, 1)) (h : ai_in y pc ls st ws .iastore 1 = some (.inr (.inl (pc2, ls2, st2, ws2)))) (kk : ai_X p l e R s m args below meth c Q b n0 s0 cI cB dC dI A pc2 ls2 st2 ws2) : ai_X p l e R s m args below meth c Q b n0 s0 cI cB dC dI A pc ls st ws := by
  obtain ⟨hy, hx, hb, hml, hown, hts, hK, hr, hlk, hin, hZ, hA, hA2, hz, hR1, hR2⟩ := hF
  simp only [ai_in] at h
  split at h
  · rename_i x i a st
    split at h
    · rename_i hg
      cases h
      unfold ai_aset at hg
      split at hg
      · rename_i q hc
        rw [Option.map_eq_some_iff] at hg
        obtain ⟨j, hj, rfl⟩ := hg
        obtain ⟨j1, rfl, j3⟩ := ai_ix_in hj
        intro arr H locs cells slots hl hP hD hS h1 h2
        refine va_iast hx hb hK hP hD hS a 0 (ai_w_get hc) rfl j1 hd (fun H1 locs1 g1 g2 g3 => ?_)
        have e2 : (b + a, (Sum.inl (cI, q.length, .inl (upd (fun j => q.getD j 0) i.toNatClampNeg x)) : va_E)) = (b + a, ai_e b cI cB (.inl (q.set i.toNatClampNeg x))) := by
          have e3 : upd (fun j => q.getD j 0) i.toNatClampNeg x = fun j => (q.set i.toNatClampNeg x).getD j 0 := by
            funext k
            simp only [upd, List.getD_eq_getElem?_getD, List.getElem?_set]
            by_cases hk : k = i.toNatClampNeg
            · subst hk
              simp [j3]
            · simp [hk, Ne.symm hk]
          simp only [ai_e, e3, List.length_set]
        rw [e2, ai_w_set] at g1 g2
        exact kk arr H1 locs1 cells slots hl g1 g2 g3 (by rw [List.length_set]; exact h1) (by rw [ai_sl_set hc (by simp [ai_sz])]; exact h2)
      · cases hg
    · cases h
  · cases h
theorem ai_alen_ok {y pc pc2 : Nat} {ls st ls2 st2 : List Value} {ws ws2 : ai_W} (hF : ai_F p R s m args meth c b n0 cI cB dC dI A y) (hd : decode (ai_code y) pc = .ok (.arraylength, 1)) (h : ai_in y pc ls st ws .arraylength 1 = some (.inr (.inl (pc2, ls2, st2, ws2)))) (kk : ai_X p l e R s m args below meth c Q b n0 s0 cI cB dC dI A pc2 ls2 st2 ws2) : ai_X p l e R s m args below meth c Q b n0 s0 cI cB dC dI A pc ls st ws := by
  obtain ⟨hy, hx, hb, hml, hown, hts, hK, hr, hlk, hin, hZ, hA, hA2, hz, hR1, hR2⟩ := hF
  simp only [ai_in] at h
  split at h
  · rename_i a st
    split at h
    · rename_i x hg
      cases h
      unfold ai_len at hg
      split at hg
      · rename_i q hc
        cases hg
        intro arr H locs cells slots hl hP hD hS h1 h2
        exact va_alen hx hb hK hP a 0 (ai_w_get hc) rfl rfl hd (kk arr H locs cells slots hl hP hD hS h1 h2)
      · rename_i q hc
        cases hg
        intro arr H locs cells slots hl hP hD hS h1 h2
        exact va_alen hx hb hK hP a 1 (ai_w_get hc) rfl rfl hd (kk arr H locs cells slots hl hP hD hS h1 h2)
      · cases hg
    · cases h
  · cases h
theorem ai_aald_ok {y pc pc2 : Nat} {ls st ls2 st2 : List Value} {ws ws2 : ai_W} (hF : ai_F p R s m args meth c b n0 cI cB dC dI A y) (hd : decode (ai_code y) pc = .ok (.aaload, 1)) (h : ai_in y pc ls st ws .aaload 1 = some (.inr (.inl (pc2, ls2, st2, ws2)))) (kk : ai_X p l e R s m args below meth c Q b n0 s0 cI cB dC dI A pc2 ls2 st2 ws2) : ai_X p l e R s m args below meth c Q b n0 s0 cI cB dC dI A pc ls st ws := by
  obtain ⟨hy, hx, hb, hml, hown, hts, hK, hr, hlk, hin, hZ, hA, hA2, hz, hR1, hR2⟩ := hF
  simp only [ai_in] at h
  split at h
  · rename_i i a st
    split at h
    · rename_i x hg
      cases h
      unfold ai_qget at hg
      split at hg
      · rename_i q hc
        rw [Option.map_eq_some_iff] at hg
        obtain ⟨j, hj, rfl⟩ := hg
        obtain ⟨j1, rfl, j3⟩ := ai_ix_in hj
        intro arr H locs cells slots hl hP hD hS h1 h2
        refine va_aldq hx hb hK hP a 1 (ai_w_get hc) rfl j1 hd ?_
        have e2 : va_rf ((q.getD i.toNatClampNeg none).map (b + ·)) = ai_cv b (ai_qv (q.getD i.toNatClampNeg none)) := by
          cases q.getD i.toNatClampNeg none <;> rfl
        have := kk arr H locs cells slots hl hP hD hS h1 h2
        rw [List.map_cons, ← e2] at this
        exact this
      · cases hg
    · cases h
  · cases h
theorem ai_aast_ok {y pc pc2 : Nat} {ls st ls2 st2 : List Value} {ws ws2 : ai_W} (hF : ai_F p R s m args meth c b n0 cI cB dC dI A y) (hd : decode (ai_code y) pc = .ok (.aastore, 1)) (h : ai_in y pc ls st ws .aastore 1 = some (.inr (.inl (pc2, ls2, st2, ws2)))) (kk : ai_X p l e R s m args below meth c Q b n0 s0 cI cB dC dI A pc2 ls2 st2 ws2) : ai_X p l e R s m args below meth c Q b n0 s0 cI cB dC dI A pc ls st ws := by
  obtain ⟨hy, hx, hb, hml, hown, hts, hK, hr, hlk, hin, hZ, hA, hA2, hz, hR1, hR2⟩ := hF
  simp only [ai_in] at h
  split at h
  · rename_i x i a st
    split at h
    · rename_i hg
      cases h
      unfold ai_qset at hg
      split at hg
      · rename_i q hc
        split at hg
        · rename_i hob
          rw [Option.map_eq_some_iff] at hg
          obtain ⟨j, hj, rfl⟩ := hg
          obtain ⟨j1, rfl, j3⟩ := ai_ix_in hj
          intro arr H locs cells slots hl hP hD hS h1 h2
          unfold ai_isob at hob
          split at hob
          · rename_i c2 fs hx2
            rw [decide_eq_true_eq] at hob
            subst hob
            refine va_astq (r := (RX0, TX0, 10)) hx hb hK hP hD hS a 1 x 0 (ai_w_get hc) rfl (ai_w_get hx2) rfl j1 hd (fun H1 locs1 g1 g2 g3 => ?_)
            have e2 : (b + a, (Sum.inl (cB, q.length, .inr (.inr (.inr (.inr (va_up (fun j => (q.getD j none).map (b + ·)) i.toNatClampNeg (some (b + x))))))) : va_E)) = (b + a, ai_e b cI cB (.inr (.inl (q.set i.toNatClampNeg (some x))))) := by
              have e3 : va_up (fun j => (q.getD j none).map (b + ·)) i.toNatClampNeg (some (b + x)) = fun j => ((q.set i.toNatClampNeg (some x)).getD j none).map (b + ·) := by
                funext k
                simp only [va_up, List.getD_eq_getElem?_getD, List.getElem?_set]
                by_cases hk : k = i.toNatClampNeg
                · subst hk
                  simp [j3]
                · simp [hk, Ne.symm hk]
              simp only [ai_e, e3, List.length_set]
            rw [e2, ai_w_set] at g1 g2
            exact kk arr H1 locs1 cells slots hl g1 g2 g3 (by rw [List.length_set]; exact h1) (by rw [ai_sl_set hc (by simp [ai_sz])]; exact h2)
          · cases hob
        · cases hg
      · cases hg
    · cases h
  · cases h
/-- a new cell stands behind the others -/
theorem ai_fresh {T : State} {H1 : Heap} {locs : List Loc} {cells slots q : Nat} {ce : va_E} {ws : ai_W} (X : Stand p l e R s m args below meth c T locs (cells + 1) slots) (hT : T.heap = H1) (hP : va_P (dC, dI) vwCl (ai_w b cI cB ws ++ [(q, ce)]) H1) (hD : va_D A (ai_w b cI cB ws ++ [(q, ce)])) (hA2 : ∀ q, A q → b ≤ q) (hz : s.heap.size = b + n0) (h1 : ws.length = n0 + cells) : q = b + ws.length := by
  have hq : (ai_w b cI cB ws ++ [(q, ce)])[ws.length]? = some (q, ce) := by
    rw [List.getElem?_append_right (by rw [ai_w_len]; exact Nat.le_refl _), ai_w_len, Nat.sub_self]
    rfl
  have g1 := (hP _ _ hq).lt
  have g2 : H1.size ≤ s.heap.size + (cells + 1) := by
    have := X.same.2.2.1
    rw [← hT]
    exact this
  have g3 := hA2 _ (hD.2 _ _ hq)
  dsimp only at g1 g3
  rcases Nat.lt_or_ge q (b + ws.length) with g4 | g4
  · exfalso
    have hk : q - b < ws.length := by omega
    have hk2 := ai_w_get (b := b) (cI := cI) (cB := cB) (List.getElem?_eq_getElem hk)
    have hk3 : (ai_w b cI cB ws ++ [(q, ce)])[q - b]? = some (b + (q - b), ai_e b cI cB ws[q - b]) := by
      rw [List.getElem?_append_left (by rw [ai_w_len]; exact hk)]
      exact hk2
    have := hD.1 _ _ _ _ hk3 hq (by dsimp only; omega)
    omega
  · omega
theorem ai_size {T : State} {H : Heap} {locs : List Loc} {cells slots : Nat} {ws : ai_W} (X : Stand p l e R s m args below meth c T locs cells slots) (hT : T.heap = H) (hP : va_P (dC, dI) vwCl (ai_w b cI cB ws) H) (hS : va_S A s.heap H locs) (hz : s.heap.size = b + n0) (h1 : ws.length = n0 + cells) : H.size = b + ws.length := by
  have g2 : H.size ≤ s.heap.size + cells := by
    have := X.same.2.2.1
    rw [← hT]
    exact this
  have g3 := hS.1
  rcases Nat.eq_zero_or_pos cells with g4 | g4
  · omega
  · have hk : ws.length - 1 < ws.length := by omega
    have hk2 := (hP _ _ (ai_w_get (b := b) (cI := cI) (cB := cB) (List.getElem?_eq_getElem hk))).lt
    dsimp only at hk2
    omega
theorem ai_new_ok {y i pc pc2 : Nat} {ls st ls2 st2 : List Value} {ws ws2 : ai_W} (hF : ai_F p R s m args meth c b n0 cI cB dC dI A y) (hd : decode (ai_code y) pc = .ok (.new i, 3)) (h : ai_in y pc ls st ws (.new i) 3 = some (.inr (.inl (pc2, ls2, st2, ws2)))) (hcap : ws2.length ≤ n0 + R.cells ∧ ai_sl ws2 ≤ s0 + R.slots) (kk : ai_X p l e R s m args below meth c Q b n0 s0 cI cB dC dI A pc2 ls2 st2 ws2) : ai_X p l e R s m args below meth c Q b n0 s0 cI cB dC dI A pc ls st ws := by
  obtain ⟨hy, hx, hb, hml, hown, hts, hK, hr, hlk, hin, hZ, hA, hA2, hz, hR1, hR2⟩ := hF
  simp only [ai_in] at h
  split at h
  · rename_i ci w1 w2 w3 hv
    cases h
    obtain ⟨r, r1, r2, r3, r4⟩ := ai_n_of hy hv
    have c1 := ai_c_of r1
    have hcl := ai_cl_at r1
    have hbl : ai_blank ci = .inr (.inr (ci, (List.range r.2.2).map fun k => ai_dv (parseFieldDescriptor (r.2.1 k).2.2.1))) := by
      unfold ai_blank ai_fty
      rw [hcl]
    intro arr H locs cells slots hl hP hD hS h1 h2
    have hsz : ai_sz (ai_blank ci) = r.2.2 := by rw [hbl]; simp [ai_sz]
    have hc1 : cells + 1 ≤ R.cells := by
      have := hcap.1
      rw [List.length_append] at this
      simp only [List.length_cons, List.length_nil] at this
      omega
    have hc2 : slots + r.2.2 ≤ R.slots := by
      have := hcap.2
      rw [ai_sl_push, hsz] at this
      omega
    refine va_new (C := r.1) (T := r.2.1) (N := r.2.2) (ci := ci) (fs := ((List.range r.2.2).map fun k => ai_dv (parseFieldDescriptor (r.2.1 k).2.2.1)).map (ai_cv b)) hx hb hts c1.1 (fun k => (parseFieldDescriptor (r.2.1 k).2.2.1).getD .int) c1.2.1 hown (hts _ r2) (hts _ r3) (hts _ r4) hK hP hD hS hA r1 ?_ hc1 hc2 hd (fun q H1 g1 g2 g3 => ?_)
    · intro j hj
      have hty := c1.2.1 j hj
      generalize (parseFieldDescriptor (r.2.1 j).2.2.1).getD .int = ty at hty
      simp only [vp_V, List.getD_eq_getElem?_getD, List.getElem?_map, List.getElem?_range hj, Option.map_some, Option.getD_some, hty]
      exact ai_dv_ok r1 j hj hty
    · intro T hT XX
      have hq := ai_fresh XX hT g1 g2 hA2 hz h1
      subst hq
      rw [show (Sum.inr (ci, ((List.range r.2.2).map fun k => ai_dv (parseFieldDescriptor (r.2.1 k).2.2.1)).map (ai_cv b)) : va_E) = ai_e b cI cB (ai_blank ci) by rw [hbl]; rfl, ai_w_push] at g1 g2
      exact kk arr H1 locs (cells + 1) (slots + r.2.2) hl g1 g2 g3 (by rw [List.length_append]; simp only [List.length_cons, List.length_nil]; omega) (by rw [ai_sl_push, hsz]; omega) T hT XX
  · cases h
end AIS
end
section
/-! New arrays, native calls, and any instruction. -/
theorem ai_k_of {y i wi : Nat} {x : Int32 ⊕ UInt32} (hy : y < 270) (h : ai_lk ai_vk (ai_view y) i = some (x, wi)) : (match x with
    | .inl v => Cond.constant (ai_name y).cls i v
    | .inr v => Cond.constantFloat (ai_name y).cls i v) ∈ ai_T := by
  obtain ⟨l, h1, h2⟩ := ai_lk_mem h
  have hl : ai_view y < ai_vk.length := (List.getElem?_eq_some_iff.mp h1).1
  have h3 := List.all_eq_true.mp ai_okk_all _ (List.mem_range.mpr hl)
  rw [h1] at h3
  have h4 := List.all_eq_true.mp h3 _ h2
  unfold ai_okk at h4
  rw [(ai_yok hy).2.2.2.2.2.2.2.2.2.2.1] at h4
  dsimp only at h4
  cases x with
  | inl v => exact ai_has_in h4
  | inr v => exact ai_has_in h4
theorem ai_l_of {y i k y2 wi : Nat} (hy : y < 270) (h : ai_lk ai_vm (ai_view y) i = some (k, y2, wi)) : (match k with
    | 0 => Cond.methodLink (ai_name y).cls i (ai_name y2) ∈ ai_T ∧ ai_kind y2 = 1
    | 1 => Cond.methodLink (ai_name y).cls i (ai_name y2) ∈ ai_T ∧ ai_kind y2 = 0
    | 2 => Cond.methodLink (ai_name y).cls i (ai_name y2) ∈ ai_T ∧ ai_kind y2 = 2
    | 3 => ((ai_name y).cls, i, ai_name y2) ∈ ai_nest ∧ ai_kind y2 = 0
    | 4 => ((ai_name y).cls, i, ai_name y2) ∈ ai_nest ∧ ai_kind y2 = 2
    | 5 => Cond.methodLink (ai_name y).cls i Lib.objectInit ∈ ai_T
    | 6 => Cond.methodLink (ai_name y).cls i arraycopyName ∈ ai_T
    | 7 => Cond.methodLink (ai_name y).cls i ⟨"java/lang/Float", "floatToRawIntBits", "(F)I"⟩ ∈ ai_T
    | _ => False) := by
  obtain ⟨l, h1, h2⟩ := ai_lk_mem h
  have hl : ai_view y < ai_vm.length := (List.getElem?_eq_some_iff.mp h1).1
  have h3 := List.all_eq_true.mp ai_okl_all _ (List.mem_range.mpr hl)
  rw [h1] at h3
  have h4 := List.all_eq_true.mp h3 _ h2
  unfold ai_okl at h4
  rw [(ai_yok hy).2.2.2.2.2.2.2.2.2.2.1] at h4
  dsimp only at h4
  split at h4 <;> rename_i hq <;> (try (cases hq)) <;> (try (simp only [Bool.and_eq_true, decide_eq_true_eq] at h4))
  · exact ⟨ai_has_in h4.1, h4.2⟩
  · exact ⟨ai_has_in h4.1, h4.2⟩
  · exact ⟨ai_has_in h4.1, h4.2⟩
  · exact h4
  · exact h4
  · exact ai_has_in h4
  · exact ai_has_in h4
  · exact ai_has_in h4
  · cases h4
theorem ai_cats {b : Nat} : ∀ {st : List Value}, st.length ≤ 4 → ((st.map (ai_cv b)).map fun v => v.category).sum ≤ 2 * st.length := by
  intro st _
  induction st with
  | nil => exact Nat.le_refl _
  | cons v st ih =>
    have h1 : (ai_cv b v).category ≤ 2 := by rcases lv_cat (ai_cv b v) with q | q <;> omega
    simp only [List.map_cons, List.sum_cons, List.length_cons]
    have := ih (by simp only [List.length_cons] at *; omega)
    omega
section AIS
variable {p : Program} {l : Launch} {e : Env} {R : Room} {s : State} {m : MethodId} {args : Array Value} {below : List Frame} {meth : Method} {c : Code} {Q : State → Prop} {b n0 s0 : Nat} {cI cB : ClassId} {dC : Nat → ClassId} {dI : Nat → Nat → Nat} {A : Nat → Prop}
theorem ai_newa_ok {y pc pc2 : Nat} {ls st ls2 st2 : List Value} {ws ws2 : ai_W} (hF : ai_F p R s m args meth c b n0 cI cB dC dI A y) (hd : decode (ai_code y) pc = .ok (.newarray .int, 2)) (h : ai_in y pc ls st ws (.newarray .int) 2 = some (.inr (.inl (pc2, ls2, st2, ws2)))) (hcap : ws2.length ≤ n0 + R.cells ∧ ai_sl ws2 ≤ s0 + R.slots) (kk : ai_X p l e R s m args below meth c Q b n0 s0 cI cB dC dI A pc2 ls2 st2 ws2) : ai_X p l e R s m args below meth c Q b n0 s0 cI cB dC dI A pc ls st ws := by
  obtain ⟨hy, hx, hb, hml, hown, hts, hK, hr, hlk, hin, hZ, hA, hA2, hz, hR1, hR2⟩ := hF
  simp only [ai_in] at h
  split at h
  · rename_i n st
    split at h
    · cases h
    · rename_i hn
      cases h
      intro arr H locs cells slots hl hP hD hS h1 h2
      have hsz : ai_sz (.inl (List.replicate n.toNatClampNeg 0)) = n.toNatClampNeg := by simp [ai_sz]
      have hc1 : cells + 1 ≤ R.cells := by
        have := hcap.1
        rw [List.length_append] at this
        simp only [List.length_cons, List.length_nil] at this
        omega
      have hc2 : slots + n.toNatClampNeg ≤ R.slots := by
        have := hcap.2
        rw [ai_sl_push, hsz] at this
        omega
      refine va_newa (atype := .int) (ty := .int) (N' := n.toNatClampNeg) (a0 := (n.toNatClampNeg, .inl (fun _ => 0))) hx hb (hts _ (ai_has_in ai_wp_ok.1)) rfl hK hP hD hS hA (fun cA => rfl) (fun q => hn (Or.inl q)) rfl (by show n.toNatClampNeg * 4 ≤ _; omega) hc1 hc2 hd (fun q cA H1 gK g1 g2 g3 => ?_)
      intro T hT XX
      have hq := ai_fresh XX hT g1 g2 hA2 hz h1
      subst hq
      have hcA : cA = cI := by
        have k1 := (gK.2 2 (cA, .int) rfl).2
        have k2 := (hK.2 0 (cI, .int) rfl).2
        exact Option.some.inj (k1.symm.trans k2)
      subst hcA
      have e3 : (fun _ : Nat => (0 : Int32)) = fun j => (List.replicate n.toNatClampNeg (0 : Int32)).getD j 0 := by
        funext j
        simp only [List.getD_eq_getElem?_getD, List.getElem?_replicate]
        split <;> rfl
      have e2 : (Sum.inl (cA, n.toNatClampNeg, .inl (fun _ => 0)) : va_E) = ai_e b cA cB (.inl (List.replicate n.toNatClampNeg 0)) := by
        rw [e3]
        simp only [ai_e, List.length_replicate]
      rw [e2, ai_w_push] at g1 g2
      exact kk arr H1 locs (cells + 1) (slots + n.toNatClampNeg) hl g1 g2 g3 (by rw [List.length_append]; simp only [List.length_cons, List.length_nil]; omega) (by rw [ai_sl_push, hsz]; omega) T hT XX
  · cases h
theorem ai_newq_ok {y i pc pc2 : Nat} {ls st ls2 st2 : List Value} {ws ws2 : ai_W} (hF : ai_F p R s m args meth c b n0 cI cB dC dI A y) (hd : decode (ai_code y) pc = .ok (.anewarray i, 3)) (h : ai_in y pc ls st ws (.anewarray i) 3 = some (.inr (.inl (pc2, ls2, st2, ws2)))) (hcap : ws2.length ≤ n0 + R.cells ∧ ai_sl ws2 ≤ s0 + R.slots) (kk : ai_X p l e R s m args below meth c Q b n0 s0 cI cB dC dI A pc2 ls2 st2 ws2) : ai_X p l e R s m args below meth c Q b n0 s0 cI cB dC dI A pc ls st ws := by
  obtain ⟨hy, hx, hb, hml, hown, hts, hK, hr, hlk, hin, hZ, hA, hA2, hz, hR1, hR2⟩ := hF
  simp only [ai_in] at h
  split at h
  · rename_i w1 w2 w3 n st hv
    split at h
    · cases h
    · rename_i hn
      cases h
      obtain ⟨r, r1, r2, -, -⟩ := ai_n_of hy hv
      cases r1
      intro arr H locs cells slots hl hP hD hS h1 h2
      have hsz : ai_sz (.inr (.inl (List.replicate n.toNatClampNeg none))) = n.toNatClampNeg := by simp [ai_sz]
      have hc1 : cells + 1 ≤ R.cells := by
        have := hcap.1
        rw [List.length_append] at this
        simp only [List.length_cons, List.length_nil] at this
        omega
      have hc2 : slots + n.toNatClampNeg ≤ R.slots := by
        have := hcap.2
        rw [ai_sl_push, hsz] at this
        omega
      refine va_newq (C := RX0) (N' := n.toNatClampNeg) hx hb hown (hts _ r2) hZ.1 hK hP hD hS hA (fun q => hn (Or.inl q)) rfl (by omega) hc1 hc2 hd (fun q cA H1 gK g1 g2 g3 => ?_)
      intro T hT XX
      have hq := ai_fresh XX hT g1 g2 hA2 hz h1
      subst hq
      have hcA : cA = cB := by
        obtain ⟨_, _, _, _, _, k1⟩ := (gK.2 2 (cA, .object RX0) rfl).2
        obtain ⟨_, _, _, _, _, k2⟩ := (hK.2 1 (cB, .object RX0) rfl).2
        exact Option.some.inj (k1.symm.trans k2)
      subst hcA
      have e3 : (fun _ : Nat => (none : Option Nat)) = fun j => ((List.replicate n.toNatClampNeg (none : Option Nat)).getD j none).map (b + ·) := by
        funext j
        simp only [List.getD_eq_getElem?_getD, List.getElem?_replicate]
        split <;> rfl
      have e2 : (Sum.inl (cA, n.toNatClampNeg, .inr (.inr (.inr (.inr (fun _ => none))))) : va_E) = ai_e b cI cA (.inr (.inl (List.replicate n.toNatClampNeg none))) := by
        rw [e3]
        simp only [ai_e, List.length_replicate]
      rw [e2, ai_w_push] at g1 g2
      exact kk arr H1 locs (cells + 1) (slots + n.toNatClampNeg) hl g1 g2 g3 (by rw [List.length_append]; simp only [List.length_cons, List.length_nil]; omega) (by rw [ai_sl_push, hsz]; omega) T hT XX
  · cases h
theorem ai_st_ok {y i pc pc2 : Nat} {ls st ls2 st2 : List Value} {ws ws2 : ai_W} (hF : ai_F p R s m args meth c b n0 cI cB dC dI A y) (hL : ls.length = ai_L y) (hd : decode (ai_code y) pc = .ok (.invokestatic i, 3)) (h : ai_in y pc ls st ws (.invokestatic i) 3 = some (.inr (.inl (pc2, ls2, st2, ws2)))) (kk : ai_X p l e R s m args below meth c Q b n0 s0 cI cB dC dI A pc2 ls2 st2 ws2) : ai_X p l e R s m args below meth c Q b n0 s0 cI cB dC dI A pc ls st ws := by
  obtain ⟨hy, hx, hb, hml, hown, hts, hK, hr, hlk, hin, hZ, hA, hA2, hz, hR1, hR2⟩ := hF
  simp only [ai_in, ai_ins] at h
  split at h
  · unfold ai_call at h
    split at h <;> cases h
  · unfold ai_call at h
    split at h <;> cases h
  · rename_i hv
    split at h
    · rename_i n j d i0 a st
      split at h
      · rename_i ws1 hg
        split at h
        · rename_i h4
          cases h
          unfold ai_copy at hg
          split at hg
          · rename_i q q2 hc hc2
            split at hg
            · rename_i hcc
              obtain ⟨rfl, rfl, hn0, hn1, hn2⟩ := hcc
              cases hg
              intro arr H locs cells slots hl hP hD hS h1 h2
              have z0 : (0 : Int32).toNatClampNeg = 0 := by decide
              have hw : nativeFrameWords "java/lang/System" "arraycopy" 5 ≤ 20 := by decide
              have hcat := ai_cats (b := b) h4
              refine va_copyi hx hb (by rw [hml, hl.1, hL]) hown (hts _ (ai_l_of hy hv)) (hts _ (ai_has_in ai_wp_ok.2.1)) (hts _ (ai_has_in ai_wo_ok.2.2.1)) (hts _ (ai_has_in ai_wo_ok.2.2.2.1)) hK hP hD hS a d 0 0 (ai_w_get hc) (ai_w_get hc2) rfl rfl rfl (by decide) (by decide) hn0 (by rw [z0]; omega) (by rw [z0]; omega) (fun _ _ => rfl) (by omega) (by omega) hd (fun H1 locs1 g1 g2 g3 => ?_)
              have e3 : va_cpy (fun j => q.getD j 0) (fun j => q2.getD j 0) (0 : Int32).toNatClampNeg (0 : Int32).toNatClampNeg n.toNatClampNeg = fun j => q.getD j 0 := by
                funext k
                unfold va_cpy
                rw [z0]
                split
                · simp
                · rename_i hk
                  simp only [List.getD_eq_getElem?_getD]
                  rw [List.getElem?_eq_none (by omega), List.getElem?_eq_none (by omega)]
              have e2 : (b + d, (Sum.inl (cI, q2.length, .inl (va_cpy (fun j => q.getD j 0) (fun j => q2.getD j 0) (0 : Int32).toNatClampNeg (0 : Int32).toNatClampNeg n.toNatClampNeg)) : va_E)) = (b + d, ai_e b cI cB (.inl q)) := by
                rw [e3, hn2]
                rfl
              rw [e2, ai_w_set] at g1 g2
              exact kk arr H1 locs1 cells slots hl g1 g2 g3 (by rw [List.length_set]; exact h1) (by rw [ai_sl_set hc2 (by simp [ai_sz, hn2])]; exact h2)
            · cases hg
          · cases hg
        · cases h
      · cases h
    · cases h
  · rename_i hv
    split at h
    · split at h
      · rename_i x st h4
        cases h
        intro arr H locs cells slots hl hP hD hS h1 h2
        have hcat := ai_cats (b := b) h4
        exact vn_f2i hx hb (by rw [hml, hl.1, hL]) hown (hts _ (ai_l_of hy hv)) (hts _ (ai_has_in ai_wp_ok.2.2)) (hts _ (ai_has_in ai_wo_ok.2.2.2.2.1)) (hts _ (ai_has_in ai_wo_ok.2.2.2.2.2)) (by omega) (by omega) hd (kk arr H locs cells slots hl hP hD hS h1 h2)
      · cases h
    · cases h
  · cases h
theorem ai_sp_ok {y i pc pc2 : Nat} {ls st ls2 st2 : List Value} {ws ws2 : ai_W} (hF : ai_F p R s m args meth c b n0 cI cB dC dI A y) (hL : ls.length = ai_L y) (hd : decode (ai_code y) pc = .ok (.invokespecial i, 3)) (h : ai_in y pc ls st ws (.invokespecial i) 3 = some (.inr (.inl (pc2, ls2, st2, ws2)))) (kk : ai_X p l e R s m args below meth c Q b n0 s0 cI cB dC dI A pc2 ls2 st2 ws2) : ai_X p l e R s m args below meth c Q b n0 s0 cI cB dC dI A pc ls st ws := by
  obtain ⟨hy, hx, hb, hml, hown, hts, hK, hr, hlk, hin, hZ, hA, hA2, hz, hR1, hR2⟩ := hF
  simp only [ai_in, ai_spc] at h
  split at h
  · unfold ai_call at h
    split at h <;> cases h
  · unfold ai_call at h
    split at h <;> cases h
  · rename_i hv
    split at h
    · split at h
      · rename_i x st h4
        cases h
        intro arr H locs cells slots hl hP hD hS h1 h2
        have hcat := ai_cats (b := b) h4
        refine W.objInit hx hb hown (hts _ (ai_l_of hy hv)) (hts _ (ai_has_in ai_wo_ok.1)) (hts _ (ai_has_in ai_wo_ok.2.1)) rfl (by show arr.size = _; rw [hml, hl.1, hL]) rfl hd (by omega) (by show 2 * 0 + _ + 12 ≤ _; omega) ?_
        exact kk arr H locs cells slots hl hP hD hS h1 h2
      · cases h
    · cases h
  · cases h
end AIS
end
section
/-! Any instruction that is no call and no end. -/
section AIS
variable {p : Program} {l : Launch} {e : Env} {R : Room} {s : State} {m : MethodId} {args : Array Value} {below : List Frame} {meth : Method} {c : Code} {Q : State → Prop} {b n0 s0 : Nat} {cI cB : ClassId} {dC : Nat → ClassId} {dI : Nat → Nat → Nat} {A : Nat → Prop}
theorem ai_ldcwF {cc : ByteArray} {pc : Nat} {arr : Array Slot} {rest : List Value} {H : Heap} {locs : List Loc} {cells slots : Nat} (hexec : p.tables.exec = Jvm.exec) (hb : c.code = cc) {own : String} {index : Nat} {v : UInt32} (hown : s.vm.findClass own = some m.cls) (hconst : (Jvm.Cond.constantFloat own index v).before args s = true) (hdg : decode cc pc = .ok (.ldc_w index, 3)) (k : W p l e R s m args below meth c H locs cells slots Q (F0 m (pc + 3) arr (.float v :: rest))) : W p l e R s m args below meth c H locs cells slots Q (F0 m pc arr rest) := by
  intro T hT X
  obtain ⟨t, a, b⟩ := k T hT X
  refine ⟨t, ?_, b⟩
  obtain ⟨k, cf, hk, hcf, hcp⟩ := Cond.constantFloat_spec hown hconst
  obtain ⟨k', hk', he⟩ := X.warmed.alike.2.2 _ _ hk
  jvm_step X.here [hexec, hb, hdg, ldc_w.wp_float (s := T) (f := F0 m pc arr rest) X.here.top hk' (by rw [he]; exact hcf) hcp]
  exact a
theorem ai_go_ok {y pc n pc2 : Nat} {i : Instr} {ls st ls2 st2 : List Value} {ws ws2 : ai_W} (hF : ai_F p R s m args meth c b n0 cI cB dC dI A y) (hL : ls.length = ai_L y) (hd : decode (ai_code y) pc = .ok (i, n)) (h : ai_in y pc ls st ws i n = some (.inr (.inl (pc2, ls2, st2, ws2)))) (hcap : ws2.length ≤ n0 + R.cells ∧ ai_sl ws2 ≤ s0 + R.slots) (kk : ai_X p l e R s m args below meth c Q b n0 s0 cI cB dC dI A pc2 ls2 st2 ws2) : ai_X p l e R s m args below meth c Q b n0 s0 cI cB dC dI A pc ls st ws := by
  have hF0 := hF
  have h0 := h
  obtain ⟨hy, hx, hb, hml, hown, hts, hK, hr, hlk, hin, hZ, hA, hA2, hz, hR1, hR2⟩ := hF
  unfold ai_in at h
  split at h
  · exact ai_lda_ok (fun q w => lv_aload_n hx hb hd rfl q w) h kk
  · exact ai_lda_ok (fun q w => lv_aload hx hb hd q w) h kk
  · exact ai_ldi_ok (fun q w => lv_iload_n hx hb hd rfl q w) h kk
  · exact ai_ldi_ok (fun q w => lv_iload hx hb hd q w) h kk
  · exact ai_ldf_ok (fun q w => lv_fload_n hx hb hd rfl q w) h kk
  · exact ai_sti_ok (fun q k w => lv_istore_n hx hb hd rfl q k rfl w) h kk
  · exact ai_sti_ok (fun q k w => lv_istore hx hb hd q k rfl w) h kk
  · exact ai_stf_ok (fun q k w => lv_fstore_n hx hb hd rfl q k rfl w) h kk
  · exact ai_sta_ok (fun q k w => lv_astore_n hx hb hd rfl q k rfl w) h kk
  · exact ai_sta_ok (fun q k w => lv_astore hx hb hd q k rfl w) h kk
  · split at h
    · rename_i x hxx
      unfold ai_go at h
      cases h
      intro arr H locs cells slots hl hP hD hS h1 h2
      obtain ⟨hk, -⟩ := List.getElem?_eq_some_iff.mp hxx
      obtain ⟨j, hj⟩ := List.getElem?_of_mem (ai_ps_mem (b := b).mpr ⟨_, hxx, rfl, rfl⟩)
      exact lv_iinc hx hb hd (ai_l_has hl) hj rfl hk rfl (fun arr2 h3 => kk arr2 H locs cells slots (ai_l_store (v := .int _) hk rfl h3) hP hD hS h1 h2)
    · cases h
  · unfold ai_go at h
    cases h
    intro arr H locs cells slots hl hP hD hS h1 h2
    exact lv_iconst hx hb hd rfl (kk arr H locs cells slots hl hP hD hS h1 h2)
  · unfold ai_go at h
    cases h
    intro arr H locs cells slots hl hP hD hS h1 h2
    exact lv_bipush hx hb hd rfl (kk arr H locs cells slots hl hP hD hS h1 h2)
  · unfold ai_go at h
    cases h
    intro arr H locs cells slots hl hP hD hS h1 h2
    exact lv_sipush hx hb hd rfl (kk arr H locs cells slots hl hP hD hS h1 h2)
  · rename_i f
    unfold ai_go at h
    cases h
    intro arr H locs cells slots hl hP hD hS h1 h2
    have := kk arr H locs cells slots hl hP hD hS h1 h2
    match f, hd, this with
    | 0, hd, this => exact lv_fconst0 hx hb hd this
    | 1, hd, this => exact lv_fconst1 hx hb hd this
    | 2, hd, this => exact lv_fconst2 hx hb hd this
  · unfold ai_wide at h
    split at h
    · rename_i v w hv
      unfold ai_go at h
      cases h
      intro arr H locs cells slots hl hP hD hS h1 h2
      exact lv_ldc hx hb hown (hts _ (ai_k_of hy hv)) hd (kk arr H locs cells slots hl hP hD hS h1 h2)
    · rw [if_neg (by decide)] at h
      cases h
    · cases h
  · unfold ai_wide at h
    split at h
    · rename_i v w hv
      unfold ai_go at h
      cases h
      intro arr H locs cells slots hl hP hD hS h1 h2
      exact lv_ldcw hx hb hown (hts _ (ai_k_of hy hv)) hd (kk arr H locs cells slots hl hP hD hS h1 h2)
    · rename_i v w hv
      rw [if_pos rfl] at h
      unfold ai_go at h
      cases h
      intro arr H locs cells slots hl hP hD hS h1 h2
      exact ai_ldcwF hx hb hown (hts _ (ai_k_of hy hv)) hd (kk arr H locs cells slots hl hP hD hS h1 h2)
    · cases h
  · exact ai_bin_ok (fun q w => by cases q; exact lv_iadd hx hb hd w) h kk
  · exact ai_bin_ok (fun q w => by cases q; exact lv_isub hx hb hd w) h kk
  · exact ai_bin_ok (fun q w => by cases q; exact lv_imul hx hb hd w) h kk
  · exact ai_bin_ok (fun q w => by cases q; exact lv_iand hx hb hd w) h kk
  · exact ai_bin_ok (fun q w => by cases q; exact lv_ior hx hb hd w) h kk
  · exact ai_bin_ok (fun q w => by cases q; exact lv_ixor hx hb hd w) h kk
  · exact ai_bin_ok (fun q w => by cases q; exact lv_ishl hx hb hd w) h kk
  · exact ai_bin_ok (fun q w => by cases q; exact lv_ishr hx hb hd w) h kk
  · exact ai_bin_ok (fun q w => by cases q; exact lv_iushr hx hb hd rfl w) h kk
  · exact ai_bin_ok (fun {_ _ _ _ _ _ x y z} q w => by
      split at q
      · cases q
      · rename_i h9; cases q; exact lv_idiv hx hb hd h9 w) h kk
  · exact ai_bin_ok (fun {_ _ _ _ _ _ x y z} q w => by
      split at q
      · cases q
      · rename_i h9; cases q; exact lv_irem hx hb hd h9 w) h kk
  · split at h
    · unfold ai_go at h
      cases h
      intro arr H locs cells slots hl hP hD hS h1 h2
      exact lv_ineg hx hb hd (kk arr H locs cells slots hl hP hD hS h1 h2)
    · cases h
  · split at h
    · unfold ai_go at h
      cases h
      intro arr H locs cells slots hl hP hD hS h1 h2
      exact lv_i2f hx hb hd (kk arr H locs cells slots hl hP hD hS h1 h2)
    · cases h
  · split at h
    · unfold ai_go at h
      cases h
      intro arr H locs cells slots hl hP hD hS h1 h2
      exact lv_f2i hx hb hd (kk arr H locs cells slots hl hP hD hS h1 h2)
    · cases h
  · exact ai_fb_ok (fun q w => lv_fmul hx hb hd q w) h kk
  · exact ai_fb_ok (fun q w => lv_fdiv hx hb hd q w) h kk
  · exact ai_fb_ok (fun q w => lv_fsub hx hb hd q w) h kk
  · split at h
    · unfold ai_go at h
      cases h
      intro arr H locs cells slots hl hP hD hS h1 h2
      exact lv_dup hx hb hd rfl (kk arr H locs cells slots hl hP hD hS h1 h2)
    · cases h
  · split at h
    · unfold ai_go at h
      cases h
      intro arr H locs cells slots hl hP hD hS h1 h2
      exact lv_dup2_11 hx hb hd rfl rfl (kk arr H locs cells slots hl hP hD hS h1 h2)
    · cases h
  · split at h
    · unfold ai_go at h
      cases h
      intro arr H locs cells slots hl hP hD hS h1 h2
      exact lv_pop hx hb hd rfl (kk arr H locs cells slots hl hP hD hS h1 h2)
    · cases h
  · exact ai_jmp_ok (t := true) (pre := []) (fun q w => lv_goto hx hb hd q w) h kk
  · split at h
    · exact ai_jmp_ok (pre := [.int _, .int _]) (fun q w => ai_cmp_row hx hb hd q w) h kk
    · cases h
  · split at h
    · exact ai_jmp_ok (pre := [.int _]) (fun q w => ai_if_row hx hb hd q w) h kk
    · cases h
  · split at h
    · exact ai_jmp_ok (t := false) (pre := [.ref _]) (fun q w => lv_ifnull hx hb hd w) h kk
    · exact ai_jmp_ok (t := true) (pre := [.null]) (fun q w => lv_ifnullN hx hb hd q w) h kk
    · cases h
  · split at h
    · split at h
      · rename_i t ht
        unfold ai_go at h
        cases h
        intro arr H locs cells slots hl hP hD hS h1 h2
        have := kk arr H locs cells slots hl hP hD hS h1 h2
        unfold ai_sw at ht
        split at ht
        · rename_i hq
          exact lv_tableOut hx hb hd hq (ai_tgt_of ht) this
        · rename_i hq
          split at ht
          · rename_i o ho
            exact lv_tableIn hx hb hd (fun z => hq (Or.inl z)) (fun z => hq (Or.inr z)) ho (ai_tgt_of ht) this
          · cases ht
      · cases h
    · cases h
  · exact ai_get_ok hF0 hd h0 kk
  · exact ai_put_ok hF0 hd h0 kk
  · exact ai_iald_ok hF0 hd h0 kk
  · exact ai_iast_ok hF0 hd h0 kk
  · exact ai_alen_ok hF0 hd h0 kk
  · exact ai_aald_ok hF0 hd h0 kk
  · exact ai_aast_ok hF0 hd h0 kk
  · exact ai_new_ok hF0 hd h0 hcap kk
  · exact ai_newa_ok hF0 hd h0 hcap kk
  · exact ai_newq_ok hF0 hd h0 hcap kk
  · unfold ai_inv ai_call at h
    split at h
    · split at h <;> cases h
    · cases h
  · exact ai_st_ok hF0 hL hd h0 kk
  · exact ai_sp_ok hF0 hL hd h0 kk
  · split at h
    · unfold ai_go at h
      cases h
      intro arr H locs cells slots hl hP hD hS h1 h2
      exact lv_fcmp hx hb hd (kk arr H locs cells slots hl hP hD hS h1 h2)
    · cases h
  · split at h
    · split at h <;> cases h
    · cases h
  · split at h
    · split at h <;> cases h
    · cases h
  · cases h
end AIS
end
section
/-! Calls, ends, and the whole: what the plain machine answers, the JVM answers. -/
def ai_rm (y k n : Nat) : Room := { frames := y + 1, cells := k, slots := n, locals := 40 * y + 60 }
def ai_ws (y : Nat) : List Cond := .code (ai_name y) (ai_code y) (ai_L y) (ai_ret y) :: ai_T
def ai_A (b : Nat) (cI cB : ClassId) (ws : ai_W) : Nat → Prop := va_A (ai_w b cI cB ws) (b + ws.length)
def ai_P (D : va_G) (cI cB : ClassId) (b : Nat) (as : List Value) (ws : ai_W) : Array Value → State → Prop := va_Pc (as.map (ai_cv b)) (fun U => U.heap.size = b + ws.length ∧ va_P D vwCl (ai_w b cI cB ws) U.heap ∧ va_D (fun _ => True) (ai_w b cI cB ws) ∧ va_K D vwCl (ai_tys cI cB) U ∧ ai_Z U)
def ai_Q (D : va_G) (cI cB : ClassId) (b : Nat) (A : Nat → Prop) (ws : ai_W) : Option Value → Array Value → State → Outcome → State → Prop
  | some (.int x) => va_Qi (fun r (_ : Unit) => r = x) (fun _ t => va_P D vwCl (ai_w b cI cB ws) t.heap ∧ va_D A (ai_w b cI cB ws)) A
  | _ => va_Qv (fun (_ : Unit) => True) (fun _ t => va_P D vwCl (ai_w b cI cB ws) t.heap ∧ va_D A (ai_w b cI cB ws)) A
def ai_Met (l : Launch) (D : va_G) (cI cB : ClassId) (b y : Nat) (as : List Value) (ws : ai_W) (r : Option Value) (ws1 : ai_W) : Prop :=
  Met l (ai_name y) (ai_ws y) (ai_rm y (ws1.length - ws.length) (ai_sl ws1 - ai_sl ws)) (ai_P D cI cB b as ws) (ai_Q D cI cB b (ai_A b cI cB ws) ws1 r) (ws1.length - ws.length) (ai_sl ws1 - ai_sl ws) (ai_A b cI cB ws)
theorem ai_blind {D : va_G} {cI cB : ClassId} {b : Nat} {as : List Value} {ws : ai_W} : FrameBlind (ai_P D cI cB b as ws) := fun a U g mk q => ⟨q.1, q.2.1, q.2.2.1, q.2.2.2.1, va_K.moved (u := U) (U := U.calling g mk a) (Vm.Alike.refl U.vm) q.2.2.2.2.1, ai_Z.same (u := U) (U := U.calling g mk a) rfl q.2.2.2.2.2⟩
theorem ai_goodIn {y : Nat} (hy : y < 270) : GoodIn ai_T (ai_ws y) := fun w hw => by
  have h : w ∈ ai_T := by
    rcases List.mem_cons.mp hw with h | h
    · rw [h]; exact ai_w_code hy
    · exact h
  exact ⟨h, good_of_word (ai_T_good w h)⟩
section AIS
variable {p : Program} {l : Launch} {e : Env} {R : Room} {s : State} {m : MethodId} {args : Array Value} {below : List Frame} {meth : Method} {c : Code} {Q : State → Prop} {b n0 s0 : Nat} {cI cB : ClassId} {dC : Nat → ClassId} {dI : Nat → Nat → Nat} {A : Nat → Prop}
theorem ai_back {pc : Nat} {arr : Array Slot} {st0 ls rest : List Value} {a : Array Value} {ws ws1 : ai_W} {r : Option Value} {H : Heap} {locs : List Loc} {cells slots : Nat} (hA : ∀ q, s.heap.size ≤ q → A q) (hrr : r = none ∨ ∃ x, r = some (.int x)) (hg : ws.length ≤ ws1.length ∧ ai_sl ws ≤ ai_sl ws1)
    (hr : va_Run p l e R s m args below meth c H locs cells slots (ws1.length - ws.length) (ai_sl ws1 - ai_sl ws) (F0 m pc arr st0) (rest.map (ai_cv b)) (ai_Q (dC, dI) cI cB b (ai_A b cI cB ws) ws1 r a) (ai_A b cI cB ws))
    (hl : ai_l b ls arr) (hD : va_D A (ai_w b cI cB ws)) (hS : va_S A s.heap H locs) (hz : H.size = b + ws.length) (h1 : ws.length = n0 + cells) (h2 : ai_sl ws = s0 + slots) (kk : ai_X p l e R s m args below meth c Q b n0 s0 cI cB dC dI A (pc + 3) ls (r.toList ++ rest) ws1) : W p l e R s m args below meth c H locs cells slots Q (F0 m pc arr st0) := by
  have hf : ∀ q, ai_A b cI cB ws q → A q := by
    intro q hq
    rcases hq with ⟨k, e, h⟩ | h
    · exact hD.2 k (q, e) h
    · exact hA q (Nat.le_trans hS.1 (by rw [hz]; exact h))
  rcases hrr with rfl | ⟨x, rfl⟩
  · exact va_callv (a := a) hr hS (fun q _ h => hf q h) hf (fun u t H1 locs1 ht hvm hp hB hz1 hk1 hS1 => kk arr H1 locs1 _ _ hl (by rw [← ht]; exact hB.1) (hB.2.weaken (fun _ q _ h => hf q.1 h)) hS1 (by omega) (by omega))
  · exact va_calli (a := a) hr hS (fun q _ h => hf q h) hf (fun r u t H1 locs1 ht hvm hp hB hz1 hk1 hS1 => by
      subst hp
      exact kk arr H1 locs1 _ _ hl (by rw [← ht]; exact hB.1) (hB.2.weaken (fun _ q _ h => hf q.1 h)) hS1 (by omega) (by omega))
theorem ai_call_ok {y y2 pc pc2 n : Nat} {i : Instr} {ls st as rest : List Value} {ws ws1 : ai_W} {r : Option Value} (hF : ai_F p R s m args meth c b n0 cI cB dC dI A y) (hL : ls.length = ai_L y) (hd : decode (ai_code y) pc = .ok (i, n)) (h : ai_in y pc ls st ws i n = some (.inr (.inr (y2, as, rest, pc2)))) (hok : ai_ok y2 as ws = true) (hr4 : rest.length ≤ 4) (hM : ai_Met l (dC, dI) cI cB b y2 as ws r ws1) (hrr : r = none ∨ ∃ x, r = some (.int x)) (hg : ws.length ≤ ws1.length ∧ ai_sl ws ≤ ai_sl ws1) (hcap : ws1.length ≤ n0 + R.cells ∧ ai_sl ws1 ≤ s0 + R.slots) (kk : ai_X p l e R s m args below meth c Q b n0 s0 cI cB dC dI A pc2 ls (r.toList ++ rest) ws1) : ai_X p l e R s m args below meth c Q b n0 s0 cI cB dC dI A pc ls st ws := by
  obtain ⟨hy, hx, hb, hml, hown, hts, hK, hr, hlk, hin, hZ, hA, hA2, hz, hR1, hR2⟩ := hF
  have key : ∀ (kd : Nat), ai_call y y2 kd pc st = some (.inr (.inr (y2, as, rest, pc2))) → y2 < y ∧ ai_kind y2 = kd ∧ pc2 = pc + 3 ∧ st = as.reverse ++ rest := by
    intro kd hc
    unfold ai_call at hc
    split at hc
    · rename_i hq
      have e := Option.some.inj hc
      simp only [Sum.inr.injEq, Prod.mk.injEq, true_and] at e
      obtain ⟨e1, e2, e3⟩ := e
      refine ⟨hq.1, hq.2, e3.symm, ?_⟩
      rw [← e1, ← e2, List.reverse_reverse, List.take_append_drop]
    · cases hc
  have kc : ∀ {q : Nat} (kd : Nat), ai_call y q kd pc st = some (.inr (.inr (y2, as, rest, pc2))) → q = y2 := by
    intro q kd hc
    unfold ai_call at hc
    split at hc
    · have e := Option.some.inj hc
      simp only [Sum.inr.injEq, Prod.mk.injEq] at e
      exact e.1
    · cases hc
  have pre : ∀ {H : Heap} {locs : List Loc}, va_P (dC, dI) vwCl (ai_w b cI cB ws) H → va_D A (ai_w b cI cB ws) → H.size = b + ws.length → ∀ U : State, U.heap = H → s.WarmedH U.vm → ai_P (dC, dI) cI cB b as ws (as.map (ai_cv b)).toArray U := fun hP hD hzz U hU hW => ⟨rfl, by rw [hU]; exact hzz, by rw [hU]; exact hP, hD.weaken (fun _ _ _ _ => trivial), va_K.moved hW.alike hK, hZ.warm hW⟩
  have fit : ∀ {cells slots : Nat}, ws.length = n0 + cells → ai_sl ws = s0 + slots → cells + (ws1.length - ws.length) ≤ R.cells ∧ slots + (ai_sl ws1 - ai_sl ws) ≤ R.slots := by
    intro cells slots h1 h2
    exact ⟨by omega, by omega⟩
  have room : y2 < y → (ai_rm y2 (ws1.length - ws.length) (ai_sl ws1 - ai_sl ws)).frames + 1 ≤ R.frames ∧ 8 + (ai_L y2 + 11) + (ai_rm y2 (ws1.length - ws.length) (ai_sl ws1 - ai_sl ws)).locals ≤ R.locals := by
    intro hlt
    have hL2 := (ai_yok (show y2 < 270 by omega)).2.2.2.2.2.1
    refine ⟨?_, ?_⟩
    · show y2 + 1 + 1 ≤ _
      omega
    · show 8 + (ai_L y2 + 11) + (40 * y2 + 60) ≤ _
      omega
  have ok := hok
  unfold ai_ok at ok
  simp only [Bool.and_eq_true, decide_eq_true_eq] at ok
  have hcat := ai_cats (b := b) hr4
  have recv : ai_kind y2 ≠ 0 → ∃ a as2, as = .ref a :: as2 ∧ ai_isob ws a (ai_ci y2) = true ∧ as2.length = ai_n y2 := by
    intro hk
    have o1 := ok.1.1.1
    have o2 := ok.1.1.2
    rw [if_neg hk] at o1 o2
    split at o2
    · rename_i a as2
      exact ⟨a, as2, rfl, o2, by simpa using o1⟩
    · cases o2
  have obj : ∀ {H : Heap} {a : Nat}, y2 < 270 → ai_kind y2 ≠ 0 → ai_isob ws a (ai_ci y2) = true → va_P (dC, dI) vwCl (ai_w b cI cB ws) H → ∃ cellB : Cell, H[b + a]? = some cellB ∧ cellB.vm.isStatics = false ∧ s.vm.findClass (ai_name y2).cls = some cellB.cls := by
    intro H a hy2 hk ho hP
    unfold ai_isob at ho
    split at ho
    · rename_i ci fs hc
      rw [decide_eq_true_eq] at ho
      subst ho
      have hn := ((ai_yok hy2).2.2.2.2.2.2.2.1 hk).2
      rw [Option.map_eq_some_iff] at hn
      obtain ⟨r1, hr1, hr2⟩ := hn
      rw [← hr2]
      exact va_recv hK hP hr1 (ai_w_get hc)
    · cases ho
  unfold ai_in at h
  split at h <;> (try (simp only [ai_lda, ai_ldi, ai_ldf, ai_sti, ai_stf, ai_sta, ai_bin, ai_fb, ai_jmp, ai_wide, ai_go] at h; (repeat' split at h) <;> (cases h; done)))
  · -- invokevirtual
    unfold ai_inv at h
    split at h
    · rename_i y3 wi hv
      have e3 := kc _ h
      subst e3
      obtain ⟨hlt, hk1, rfl, rfl⟩ := key _ h
      have hy2 : y3 < 270 := by omega
      have hyk := ai_yok hy2
      have hl1 := ai_l_of hy hv
      obtain ⟨a, as2, rfl, ho, hn⟩ := recv (by rw [hk1]; decide)
      intro arr H locs cells slots hl hP hD hS h1 h2 T hT XX
      have hzz := ai_size XX hT hP hS hz h1
      have cb := callB_of (R := R) (s := s) (args := args) (own := (ai_name y).cls) (index := _) (maxL := ai_L y3) (ai_n y3) hts (ai_goodIn hy2) rfl rfl rfl (hts _ hyk.1) (hts _ hl1.1) ⟨hyk.2.1, hyk.2.2.1, hyk.2.2.2.2.1⟩ (room hlt)
      have rn := va_runV (e := e) (below := below) (meth := meth) (locs := locs) (H := H) (rest := rest.map (ai_cv b)) (As := as2.map (ai_cv b)) (b := b + a) (C := (ai_name y3).cls) (g := F0 m pc arr (((Value.ref a :: as2).reverse ++ rest).map (ai_cv b))) (nL := ai_L y) ⟨hx, hb, hml, hown, hts⟩ hM ⟨cb, hts _ (hyk.2.2.2.2.2.2.2.1 (by rw [hk1]; decide)).1, hts _ (hyk.2.2.2.2.2.2.2.2.1 hk1)⟩ ⟨ai_blind, obj hy2 (by rw [hk1]; decide) ho hP, pre (locs := locs) hP hD hzz⟩ rfl (by rw [List.length_map]; exact hn) (by show arr.size = _; rw [hl.1]; exact hL) (by show List.map (ai_cv b) _ = _; simp [ai_cv]) (by show 2 * 0 + _ ≤ 8; omega) hd (fit h1 h2)
      exact ai_back hA hrr hg rn hl hD hS hzz h1 h2 kk T hT XX
    · cases h
  · -- invokestatic
    unfold ai_ins at h
    split at h
    · rename_i y3 wi hv
      have e3 := kc _ h
      subst e3
      obtain ⟨hlt, hk1, rfl, rfl⟩ := key _ h
      have hy2 : y3 < 270 := by omega
      have hyk := ai_yok hy2
      have hl1 := ai_l_of hy hv
      have hn : as.length = ai_n y3 := by
        have o1 := ok.1.1.1
        rw [if_pos hk1] at o1
        exact o1
      intro arr H locs cells slots hl hP hD hS h1 h2 T hT XX
      have hzz := ai_size XX hT hP hS hz h1
      have cb := callB_of (R := R) (s := s) (args := args) (own := (ai_name y).cls) (index := _) (maxL := ai_L y3) (ai_n y3) hts (ai_goodIn hy2) rfl rfl rfl (hts _ hyk.1) (hts _ hl1.1) ⟨hyk.2.1, hyk.2.2.1, hyk.2.2.2.2.1⟩ (room hlt)
      have rn := va_runS (e := e) (below := below) (meth := meth) (locs := locs) (H := H) (rest := rest.map (ai_cv b)) (As := as.map (ai_cv b)) (g := F0 m pc arr ((as.reverse ++ rest).map (ai_cv b))) (nL := ai_L y) ⟨hx, hb, hml, hown, hts⟩ hM ⟨cb, hts _ (hyk.2.2.2.2.2.2.1 hk1)⟩ ⟨ai_blind, pre (locs := locs) hP hD hzz⟩ rfl (by rw [List.length_map]; exact hn) (by show arr.size = _; rw [hl.1]; exact hL) (by show List.map (ai_cv b) _ = _; simp) (by show 2 * 0 + _ ≤ 8; omega) hd (fit h1 h2)
      exact ai_back hA hrr hg rn hl hD hS hzz h1 h2 kk T hT XX
    · rename_i y3 wi hv
      have e3 := kc _ h
      subst e3
      obtain ⟨hlt, hk1, rfl, rfl⟩ := key _ h
      have hy2 : y3 < 270 := by omega
      have hyk := ai_yok hy2
      have hl1 := ai_l_of hy hv
      have hn : as.length = ai_n y3 := by
        have o1 := ok.1.1.1
        rw [if_pos hk1] at o1
        exact o1
      intro arr H locs cells slots hl hP hD hS h1 h2 T hT XX
      have hzz := ai_size XX hT hP hS hz h1
      have cb := va_cnB (R := R) (s := s) (args := args) (own := (ai_name y).cls) (host := "StoryCoroner") (index := _) (maxL := ai_L y3) (ai_n y3) hts (ai_goodIn hy2) rfl rfl rfl (hZ.2 _ hl1.1) (hts _ hyk.1) ⟨hyk.2.1, hyk.2.2.1, hyk.2.2.2.2.1⟩ (room hlt)
      have rn := va_runSN (e := e) (below := below) (meth := meth) (locs := locs) (H := H) (rest := rest.map (ai_cv b)) (As := as.map (ai_cv b)) (g := F0 m pc arr ((as.reverse ++ rest).map (ai_cv b))) (nL := ai_L y) ⟨hx, hb, hml, hown, hts⟩ hM ⟨cb, hts _ (hyk.2.2.2.2.2.2.1 hk1), trivial⟩ ⟨ai_blind, pre (locs := locs) hP hD hzz⟩ rfl (by rw [List.length_map]; exact hn) (by show arr.size = _; rw [hl.1]; exact hL) (by show List.map (ai_cv b) _ = _; simp) (by show 2 * 0 + _ ≤ 8; omega) hd (fit h1 h2)
      exact ai_back hA hrr hg rn hl hD hS hzz h1 h2 kk T hT XX
    · simp only [ai_go] at h
      (repeat' split at h) <;> cases h
    · simp only [ai_go] at h
      (repeat' split at h) <;> cases h
    · cases h
  · -- invokespecial
    unfold ai_spc at h
    split at h
    · rename_i y3 wi hv
      have e3 := kc _ h
      subst e3
      obtain ⟨hlt, hk1, rfl, rfl⟩ := key _ h
      have hy2 : y3 < 270 := by omega
      have hyk := ai_yok hy2
      have hl1 := ai_l_of hy hv
      obtain ⟨a, as2, rfl, ho, hn⟩ := recv (by rw [hk1]; decide)
      have hct := hyk.2.2.2.2.2.2.2.2.2.1 hk1
      intro arr H locs cells slots hl hP hD hS h1 h2 T hT XX
      have hzz := ai_size XX hT hP hS hz h1
      have cb := callB_of (R := R) (s := s) (args := args) (own := (ai_name y).cls) (index := _) (maxL := ai_L y3) (ai_n y3) hts (ai_goodIn hy2) rfl rfl rfl (hts _ hyk.1) (hts _ hl1.1) ⟨hyk.2.1, hyk.2.2.1, hyk.2.2.2.2.1⟩ (room hlt)
      rw [hct.2] at cb
      have rn := va_runI (e := e) (below := below) (meth := meth) (locs := locs) (H := H) (rest := rest.map (ai_cv b)) (As := as2.map (ai_cv b)) (b := b + a) (g := F0 m pc arr (((Value.ref a :: as2).reverse ++ rest).map (ai_cv b))) (nL := ai_L y) ⟨hx, hb, hml, hown, hts⟩ hM ⟨cb, hct.1, hts _ (hyk.2.2.2.2.2.2.2.1 (by rw [hk1]; decide)).1⟩ ⟨ai_blind, pre (locs := locs) hP hD hzz⟩ rfl (by rw [List.length_map]; exact hn) (by show arr.size = _; rw [hl.1]; exact hL) (by show List.map (ai_cv b) _ = _; simp [ai_cv]) (by show 2 * 0 + _ ≤ 8; omega) hd (fit h1 h2)
      exact ai_back hA hrr hg rn hl hD hS hzz h1 h2 kk T hT XX
    · rename_i y3 wi hv
      have e3 := kc _ h
      subst e3
      obtain ⟨hlt, hk1, rfl, rfl⟩ := key _ h
      have hy2 : y3 < 270 := by omega
      have hyk := ai_yok hy2
      have hl1 := ai_l_of hy hv
      obtain ⟨a, as2, rfl, ho, hn⟩ := recv (by rw [hk1]; decide)
      have hct := hyk.2.2.2.2.2.2.2.2.2.1 hk1
      intro arr H locs cells slots hl hP hD hS h1 h2 T hT XX
      have hzz := ai_size XX hT hP hS hz h1
      have cb := va_cnB (R := R) (s := s) (args := args) (own := (ai_name y).cls) (host := "StoryCoroner") (index := _) (maxL := ai_L y3) (ai_n y3) hts (ai_goodIn hy2) rfl rfl rfl (hZ.2 _ hl1.1) (hts _ hyk.1) ⟨hyk.2.1, hyk.2.2.1, hyk.2.2.2.2.1⟩ (room hlt)
      rw [hct.2] at cb
      have rn := va_runIN (e := e) (below := below) (meth := meth) (locs := locs) (H := H) (rest := rest.map (ai_cv b)) (As := as2.map (ai_cv b)) (b := b + a) (g := F0 m pc arr (((Value.ref a :: as2).reverse ++ rest).map (ai_cv b))) (nL := ai_L y) ⟨hx, hb, hml, hown, hts⟩ hM ⟨cb, hct.1, hts _ (hyk.2.2.2.2.2.2.2.1 (by rw [hk1]; decide)).1⟩ ⟨ai_blind, pre (locs := locs) hP hD hzz⟩ rfl (by rw [List.length_map]; exact hn) (by show arr.size = _; rw [hl.1]; exact hL) (by show List.map (ai_cv b) _ = _; simp [ai_cv]) (by show 2 * 0 + _ ≤ 8; omega) hd (fit h1 h2)
      exact ai_back hA hrr hg rn hl hD hS hzz h1 h2 kk T hT XX
    · simp only [ai_go] at h
      (repeat' split at h) <;> cases h
    · cases h
  · split at h
    · split at h <;> cases h
    · cases h
  · split at h
    · split at h <;> cases h
    · cases h
  · cases h
end AIS
end
section
/-! WHAT THE PLAIN MACHINE ANSWERS, THE JVM ANSWERS: a call's answer is its contract. -/
theorem ai_run_shape : ∀ (F y pc : Nat) (ls st : List Value) (ws : ai_W) (r : ai_R), ai_run F y pc ls st ws = some r → r.1 = none ∨ ∃ x, r.1 = some (.int x) := by
  intro F
  induction F with
  | zero => intro y pc ls st ws r h; cases h
  | succ F ih =>
    intro y pc ls st ws r h
    unfold ai_run at h
    split at h
    · cases h
    · rename_i r2 hs
      cases h
      unfold ai_step at hs
      split at hs
      · unfold ai_in at hs
        split at hs <;> (try simp only [ai_lda, ai_ldi, ai_ldf, ai_sti, ai_stf, ai_sta, ai_bin, ai_fb, ai_jmp, ai_inv, ai_ins, ai_spc, ai_call, ai_wide, ai_go] at hs) <;> (repeat' split at hs) <;>
          first
          | (cases hs; done)
          | (cases hs; exact Or.inl rfl)
          | (cases hs; exact Or.inr ⟨_, rfl⟩)
      · cases hs
    · exact ih _ _ _ _ _ _ h
    · split at h
      · split at h
        · cases h
        · exact ih _ _ _ _ _ _ h
      · cases h
section AIS
variable {p : Program} {l : Launch} {e : Env} {R : Room} {s : State} {m : MethodId} {args : Array Value} {below : List Frame} {meth : Method} {c : Code} {Q : State → Prop} {b n0 s0 : Nat} {cI cB : ClassId} {dC : Nat → ClassId} {dI : Nat → Nat → Nat} {A : Nat → Prop}
theorem ai_ret_ok {y pc n : Nat} {i : Instr} {ls st : List Value} {ws ws1 : ai_W} {r : Option Value} {arr : Array Slot} {H : Heap} {locs : List Loc} {cells slots : Nat} (hF : ai_F p R s m args meth c b n0 cI cB dC dI A y) (hd : decode (ai_code y) pc = .ok (i, n)) (h : ai_in y pc ls st ws i n = some (.inl (r, ws1))) (hP : va_P (dC, dI) vwCl (ai_w b cI cB ws) H) (hD : va_D A (ai_w b cI cB ws)) (hS : va_S A s.heap H locs) : ws1 = ws ∧ W p l e R s m args below meth c H locs cells slots (MQ below (ai_Q (dC, dI) cI cB b A ws1 r) args s cells slots A) (F0 m pc arr (st.map (ai_cv b))) := by
  obtain ⟨hy, hx, hb, hml, hown, hts, hK, hr, hlk, hin, hZ, hA, hA2, hz, hR1, hR2⟩ := hF
  unfold ai_in at h
  split at h <;> (try (simp only [ai_lda, ai_ldi, ai_ldf, ai_sti, ai_stf, ai_sta, ai_bin, ai_fb, ai_jmp, ai_inv, ai_ins, ai_spc, ai_call, ai_wide, ai_go] at h; (repeat' split at h) <;> (cases h; done)))
  · split at h
    · rename_i x
      split at h
      · rename_i hp
        cases h
        refine ⟨rfl, ?_⟩
        have hty : ∃ ty, ai_ret y = some ty := by
          cases hq : ai_ret y with
          | none => rw [hq] at hp; cases hp
          | some ty => exact ⟨ty, rfl⟩
        obtain ⟨ty, hty⟩ := hty
        rw [hty] at hp
        exact W.zret (v := x) (ty := ty) hx hb (hr.trans hty) (ai_cv_nar (b := b) (v := .int x) hp).1 (fun t ht hW => ⟨⟨x, (), rfl, rfl, by rw [ht]; exact hP, hD⟩, hS.F ht⟩) hS.2.2 hd hlk
      · cases h
    · cases h
  · split at h
    · split at h
      · rename_i hq
        cases h
        refine ⟨rfl, ?_⟩
        exact W.vret hx hb (hr.trans hq) (fun t ht hW => ⟨⟨(), rfl, trivial, by rw [ht]; exact hP, hD⟩, hS.F ht⟩) hS.2.2 hd hlk
      · cases h
    · cases h
  · cases h
end AIS
theorem ai_call_lt {y y2 q kd pc pc2 : Nat} {st as rest : List Value} (h : ai_call y q kd pc st = some (.inr (.inr (y2, as, rest, pc2)))) : y2 < y := by
  unfold ai_call at h
  split at h
  · rename_i hq
    simp only [Option.some.injEq, Sum.inr.injEq, Prod.mk.injEq] at h
    rw [← h.1]
    exact hq.1
  · cases h
theorem ai_in_lt {y y2 pc pc2 n : Nat} {i : Instr} {ls st as rest : List Value} {ws : ai_W} (h : ai_in y pc ls st ws i n = some (.inr (.inr (y2, as, rest, pc2)))) : y2 < y := by
  unfold ai_in at h
  split at h <;> (try simp only [ai_lda, ai_ldi, ai_ldf, ai_sti, ai_stf, ai_sta, ai_bin, ai_fb, ai_jmp, ai_inv, ai_ins, ai_spc, ai_wide, ai_go] at h) <;> (repeat' split at h) <;>
    first
    | (cases h; done)
    | exact ai_call_lt h
theorem ai_sound (l : Launch) : ∀ (y : Nat), y < 270 → ∀ (as : List Value) (ws : ai_W) (r : Option Value) (ws1 : ai_W), ai_Call y as ws = some (r, ws1) → ∀ (dC : Nat → ClassId) (dI : Nat → Nat → Nat) (cI cB : ClassId) (b : Nat), ai_Met l (dC, dI) cI cB b y as ws r ws1 := by
  intro y
  induction y using Nat.strongRecOn with
  | ind y ih =>
  intro hy as ws r ws1 hc dC dI cI cB b
  unfold ai_Call at hc
  split at hc
  · rename_i hok
    obtain ⟨F, hF⟩ := ai_Run_iff.mp hc
    have hgr := ai_run_grow _ _ _ _ _ _ _ hF
    have hyk := ai_yok hy
    unfold ai_Met
    refine va_MetF (cc := ai_code y) (maxL := ai_L y) (ret := ai_ret y) hyk.2.2.2.1 rfl ?_
    intro p e s m args below meth c s₁ B hml hv
    obtain ⟨rfl, hsz, hP, hD0, hK, hZ⟩ := hv
    have hok2 := hok
    unfold ai_ok at hok2
    simp only [Bool.and_eq_true, decide_eq_true_eq, List.all_eq_true] at hok2
    have hts := atoms_spec (ws := ai_ws y) B.pre
    rw [lg_entry_eq]
    have hl := ai_l_entry (b := b) (n := ai_L y) (as := as) (fun v hv => hok2.1.2 v hv) hok2.2
    have hFF : ∀ A, A = ai_A b cI cB ws → ai_F p (ai_rm y (ws1.length - ws.length) (ai_sl ws1 - ai_sl ws)) s m (as.map (ai_cv b)).toArray meth c b ws.length cI cB dC dI A y := by
      intro A hA
      subst hA
      refine ⟨hy, B.exec, B.bytes, hml, findClass_of_methodNamed B.named, fun w hw => hts w (List.mem_cons_of_mem _ hw), hK, B.returns, B.notSynchronized, fun hk => ?_, hZ, fun q hq => Or.inr (by rw [← hsz]; exact hq), fun q hq => ?_, hsz, Nat.le_refl _, Nat.le_refl _⟩
      · exact ((name_of_methodNamed B.named B.method).1).trans (hyk.2.2.2.2.2.2.2.2.2.1 hk).1
      · rcases hq with ⟨k, e, h⟩ | h
        · obtain ⟨c, -, h3⟩ := ai_w_inv h
          have : q = b + k := congrArg Prod.fst h3
          omega
        · omega
    have hD : va_D (ai_A b cI cB ws) (ai_w b cI cB ws) := hD0.self
    generalize hAe : ai_A b cI cB ws = A at hD hFF ⊢
    have hFF := hFF A rfl
    have claim : ∀ (G pc : Nat) (ls st : List Value) (ws2 : ai_W), ai_run G y pc ls st ws2 = some (r, ws1) → ls.length = ai_L y → ai_X p l e (ai_rm y (ws1.length - ws.length) (ai_sl ws1 - ai_sl ws)) s m (as.map (ai_cv b)).toArray below meth c (MQ below (ai_Q (dC, dI) cI cB b A ws1 r) (as.map (ai_cv b)).toArray s (ws1.length - ws.length) (ai_sl ws1 - ai_sl ws) A) b ws.length (ai_sl ws) cI cB dC dI A pc ls st ws2 := by
      intro G
      induction G with
      | zero => intro pc ls st ws2 h; cases h
      | succ G ihG =>
        intro pc ls st ws2 h hL
        have hgr2 := ai_run_grow _ _ _ _ _ _ _ h
        unfold ai_run at h
        split at h
        · cases h
        · rename_i r2 hs
          cases h
          unfold ai_step at hs
          split at hs
          · rename_i i n hd
            intro arr H locs cells slots hl hP hD hS h1 h2
            obtain ⟨e1, w⟩ := ai_ret_ok (l := l) (e := e) (below := below) (arr := arr) (cells := cells) (slots := slots) hFF hd hs hP hD hS
            subst e1
            rw [show cells = ws1.length - ws.length by omega, show slots = ai_sl ws1 - ai_sl ws by omega] at w ⊢
            exact w
          · cases hs
        · rename_i pc2 ls2 st2 ws3 hs
          unfold ai_step at hs
          split at hs
          · rename_i i n hd
            have hgr3 := ai_run_grow _ _ _ _ _ _ _ h
            have hg1 := ai_in_grow hs
            dsimp only at hgr3 hgr
            exact ai_go_ok hFF hL hd hs ⟨by show _ ≤ _ + (ws1.length - ws.length); omega, by show _ ≤ _ + (ai_sl ws1 - ai_sl ws); omega⟩ (ihG _ _ _ _ h (hg1.2.2.trans hL))
          · cases hs
        · rename_i y2 as2 rest pc2 hs
          split at h
          · rename_i hk
            split at h
            · cases h
            · rename_i v ws3 h3
              unfold ai_step at hs
              split at hs
              · rename_i i n hd
                have hy2 : y2 < y := ai_in_lt hs
                have hgr3 := ai_run_grow _ _ _ _ _ _ _ h
                have hgr4 := ai_run_grow _ _ _ _ _ _ _ h3
                have hsh := ai_run_shape _ _ _ _ _ _ _ h3
                dsimp only at hgr3 hgr hgr4 hsh
                have hcall : ai_Call y2 as2 ws2 = some (v, ws3) := by
                  unfold ai_Call
                  rw [if_pos hk.1]
                  exact ai_Run_iff.mpr ⟨_, h3⟩
                exact ai_call_ok hFF hL hd hs hk.1 hk.2 (ih y2 hy2 (by omega) _ _ _ _ hcall dC dI cI cB b) hsh hgr4 ⟨by show _ ≤ _ + (ws1.length - ws.length); omega, by show _ ≤ _ + (ai_sl ws1 - ai_sl ws); omega⟩ (ihG _ _ _ _ h hL)
              · cases hs
          · cases h
    have hfin := claim F 0 (ai_ent y as) [] ws hF (by unfold ai_ent; rw [List.length_append, List.length_replicate]; omega) _ s.heap [] 0 0 hl hP hD va_S.rf (by omega) (by omega)
    exact hfin
  · cases hc
end
section
theorem i_vc : Claimed_1_1 ∧ Claimed_1_2 := sorry
end
