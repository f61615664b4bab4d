section
-- ===== PART A: goes FIRST, ahead of the names: the tables' words, and 'selects' of the private methods out of them =====
/-- a private method of a class that the tables say can be made, by its rows of tables_1 -/
def lw_okq (q : MethodName × Nat) : Prop := (q.1.cls ≠ "java/lang/invoke/MethodHandle" ∧ q.1.cls ≠ "java/lang/invoke/VarHandle") ∧ Cond.instantiable q.1.cls q.2 ∈ tables_1 ∧ Cond.privateMethod q.1 ∈ tables_1 ∧ Cond.instanceMethod q.1 ∈ tables_1
theorem lw_p0 : lw_okq (⟨"StoryCoroner", "begin", "()V"⟩, 9) := ⟨⟨by decide +kernel, by decide +kernel⟩, List.mem_of_getElem? (i := 30) (by decide +kernel), List.mem_of_getElem? (i := 28) (by decide +kernel), List.mem_of_getElem? (i := 29) (by decide +kernel)⟩
theorem lw_p1 : lw_okq (⟨"StoryCoroner$History", "isInRing", "(I)Z"⟩, 5) := ⟨⟨by decide +kernel, by decide +kernel⟩, List.mem_of_getElem? (i := 43) (by decide +kernel), List.mem_of_getElem? (i := 41) (by decide +kernel), List.mem_of_getElem? (i := 42) (by decide +kernel)⟩
theorem lw_p2 : lw_okq (⟨"StoryCoroner", "finish", "(I)I"⟩, 9) := ⟨⟨by decide +kernel, by decide +kernel⟩, List.mem_of_getElem? (i := 30) (by decide +kernel), List.mem_of_getElem? (i := 68) (by decide +kernel), List.mem_of_getElem? (i := 69) (by decide +kernel)⟩
theorem lw_p3 : lw_okq (⟨"StoryCoroner$Changes", "canTurn", "(II)Z"⟩, 4) := ⟨⟨by decide +kernel, by decide +kernel⟩, List.mem_of_getElem? (i := 109) (by decide +kernel), List.mem_of_getElem? (i := 107) (by decide +kernel), List.mem_of_getElem? (i := 108) (by decide +kernel)⟩
theorem lw_p4 : lw_okq (⟨"StoryCoroner$Jury", "voteOn", "(II)I"⟩, 1) := ⟨⟨by decide +kernel, by decide +kernel⟩, List.mem_of_getElem? (i := 225) (by decide +kernel), List.mem_of_getElem? (i := 223) (by decide +kernel), List.mem_of_getElem? (i := 224) (by decide +kernel)⟩
theorem lw_p5 : lw_okq (⟨"StoryCoroner$Counts", "key", "(II)I"⟩, 2) := ⟨⟨by decide +kernel, by decide +kernel⟩, List.mem_of_getElem? (i := 252) (by decide +kernel), List.mem_of_getElem? (i := 250) (by decide +kernel), List.mem_of_getElem? (i := 251) (by decide +kernel)⟩
theorem lw_p6 : lw_okq (⟨"StoryCoroner$Counts", "isDeathBy", "(III)Z"⟩, 2) := ⟨⟨by decide +kernel, by decide +kernel⟩, List.mem_of_getElem? (i := 252) (by decide +kernel), List.mem_of_getElem? (i := 277) (by decide +kernel), List.mem_of_getElem? (i := 278) (by decide +kernel)⟩
theorem lw_p7 : lw_okq (⟨"StoryCoroner$Counts", "aheadOf", "(II)I"⟩, 2) := ⟨⟨by decide +kernel, by decide +kernel⟩, List.mem_of_getElem? (i := 252) (by decide +kernel), List.mem_of_getElem? (i := 283) (by decide +kernel), List.mem_of_getElem? (i := 284) (by decide +kernel)⟩
theorem lw_p8 : lw_okq (⟨"StoryCoroner", "addTurn", "(II)V"⟩, 9) := ⟨⟨by decide +kernel, by decide +kernel⟩, List.mem_of_getElem? (i := 30) (by decide +kernel), List.mem_of_getElem? (i := 307) (by decide +kernel), List.mem_of_getElem? (i := 308) (by decide +kernel)⟩
theorem lw_p9 : lw_okq (⟨"StoryCoroner$Text", "takeCommand", "()Z"⟩, 7) := ⟨⟨by decide +kernel, by decide +kernel⟩, List.mem_of_getElem? (i := 590) (by decide +kernel), List.mem_of_getElem? (i := 1022) (by decide +kernel), List.mem_of_getElem? (i := 1023) (by decide +kernel)⟩
theorem lw_p10 : lw_okq (⟨"StoryCoroner$Text", "ahead", "()I"⟩, 7) := ⟨⟨by decide +kernel, by decide +kernel⟩, List.mem_of_getElem? (i := 590) (by decide +kernel), List.mem_of_getElem? (i := 1026) (by decide +kernel), List.mem_of_getElem? (i := 1027) (by decide +kernel)⟩
theorem lw_p11 : lw_okq (⟨"StoryCoroner$Text", "take", "(I)Z"⟩, 7) := ⟨⟨by decide +kernel, by decide +kernel⟩, List.mem_of_getElem? (i := 590) (by decide +kernel), List.mem_of_getElem? (i := 1031) (by decide +kernel), List.mem_of_getElem? (i := 1032) (by decide +kernel)⟩
theorem lw_p12 : lw_okq (⟨"StoryCoroner$Text", "takeDigit", "()Z"⟩, 7) := ⟨⟨by decide +kernel, by decide +kernel⟩, List.mem_of_getElem? (i := 590) (by decide +kernel), List.mem_of_getElem? (i := 1035) (by decide +kernel), List.mem_of_getElem? (i := 1036) (by decide +kernel)⟩
theorem lw_p13 : lw_okq (⟨"StoryCoroner$Text", "give", "(I)V"⟩, 7) := ⟨⟨by decide +kernel, by decide +kernel⟩, List.mem_of_getElem? (i := 590) (by decide +kernel), List.mem_of_getElem? (i := 1042) (by decide +kernel), List.mem_of_getElem? (i := 1043) (by decide +kernel)⟩
theorem lw_p14 : lw_okq (⟨"StoryCoroner$Text", "takeNumber", "()Z"⟩, 7) := ⟨⟨by decide +kernel, by decide +kernel⟩, List.mem_of_getElem? (i := 590) (by decide +kernel), List.mem_of_getElem? (i := 1046) (by decide +kernel), List.mem_of_getElem? (i := 1047) (by decide +kernel)⟩
theorem lw_p15 : lw_okq (⟨"StoryCoroner$Text", "takePlusOrMinus", "()Z"⟩, 7) := ⟨⟨by decide +kernel, by decide +kernel⟩, List.mem_of_getElem? (i := 590) (by decide +kernel), List.mem_of_getElem? (i := 1050) (by decide +kernel), List.mem_of_getElem? (i := 1051) (by decide +kernel)⟩
def lw_privs_1 : List (MethodName × Nat) := [(⟨"StoryCoroner", "begin", "()V"⟩, 9), (⟨"StoryCoroner$History", "isInRing", "(I)Z"⟩, 5), (⟨"StoryCoroner", "finish", "(I)I"⟩, 9), (⟨"StoryCoroner$Changes", "canTurn", "(II)Z"⟩, 4), (⟨"StoryCoroner$Jury", "voteOn", "(II)I"⟩, 1), (⟨"StoryCoroner$Counts", "key", "(II)I"⟩, 2), (⟨"StoryCoroner$Counts", "isDeathBy", "(III)Z"⟩, 2), (⟨"StoryCoroner$Counts", "aheadOf", "(II)I"⟩, 2), (⟨"StoryCoroner", "addTurn", "(II)V"⟩, 9), (⟨"StoryCoroner$Text", "takeCommand", "()Z"⟩, 7), (⟨"StoryCoroner$Text", "ahead", "()I"⟩, 7), (⟨"StoryCoroner$Text", "take", "(I)Z"⟩, 7), (⟨"StoryCoroner$Text", "takeDigit", "()Z"⟩, 7), (⟨"StoryCoroner$Text", "give", "(I)V"⟩, 7), (⟨"StoryCoroner$Text", "takeNumber", "()Z"⟩, 7), (⟨"StoryCoroner$Text", "takePlusOrMinus", "()Z"⟩, 7)]
theorem lw_r1 : ∀ q ∈ lw_privs_1, lw_okq q := List.forall_mem_cons.mpr ⟨lw_p0, List.forall_mem_cons.mpr ⟨lw_p1, List.forall_mem_cons.mpr ⟨lw_p2, List.forall_mem_cons.mpr ⟨lw_p3, List.forall_mem_cons.mpr ⟨lw_p4, List.forall_mem_cons.mpr ⟨lw_p5, List.forall_mem_cons.mpr ⟨lw_p6, List.forall_mem_cons.mpr ⟨lw_p7, List.forall_mem_cons.mpr ⟨lw_p8, List.forall_mem_cons.mpr ⟨lw_p9, List.forall_mem_cons.mpr ⟨lw_p10, List.forall_mem_cons.mpr ⟨lw_p11, List.forall_mem_cons.mpr ⟨lw_p12, List.forall_mem_cons.mpr ⟨lw_p13, List.forall_mem_cons.mpr ⟨lw_p14, List.forall_mem_cons.mpr ⟨lw_p15, fun _ h => absurd h List.not_mem_nil⟩⟩⟩⟩⟩⟩⟩⟩⟩⟩⟩⟩⟩⟩⟩⟩
theorem lw_p16 : lw_okq (⟨"StoryCoroner$Text", "takeSeverityOrMinus", "()Z"⟩, 7) := ⟨⟨by decide +kernel, by decide +kernel⟩, List.mem_of_getElem? (i := 590) (by decide +kernel), List.mem_of_getElem? (i := 1054) (by decide +kernel), List.mem_of_getElem? (i := 1055) (by decide +kernel)⟩
theorem lw_p17 : lw_okq (⟨"StoryCoroner", "carryOut", "(I)I"⟩, 9) := ⟨⟨by decide +kernel, by decide +kernel⟩, List.mem_of_getElem? (i := 30) (by decide +kernel), List.mem_of_getElem? (i := 1066) (by decide +kernel), List.mem_of_getElem? (i := 1067) (by decide +kernel)⟩
theorem lw_p18 : lw_okq (⟨"StoryCoroner", "addWriter", "(I)V"⟩, 9) := ⟨⟨by decide +kernel, by decide +kernel⟩, List.mem_of_getElem? (i := 30) (by decide +kernel), List.mem_of_getElem? (i := 1095) (by decide +kernel), List.mem_of_getElem? (i := 1096) (by decide +kernel)⟩
theorem lw_p19 : lw_okq (⟨"StoryCoroner", "addDead", "(I)V"⟩, 9) := ⟨⟨by decide +kernel, by decide +kernel⟩, List.mem_of_getElem? (i := 30) (by decide +kernel), List.mem_of_getElem? (i := 1101) (by decide +kernel), List.mem_of_getElem? (i := 1102) (by decide +kernel)⟩
theorem lw_p20 : lw_okq (⟨"StoryCoroner$Inquest", "afterChapter", "(II)I"⟩, 1) := ⟨⟨by decide +kernel, by decide +kernel⟩, List.mem_of_getElem? (i := 496) (by decide +kernel), List.mem_of_getElem? (i := 1180) (by decide +kernel), List.mem_of_getElem? (i := 1181) (by decide +kernel)⟩
def lw_privs_2 : List (MethodName × Nat) := [(⟨"StoryCoroner$Text", "takeSeverityOrMinus", "()Z"⟩, 7), (⟨"StoryCoroner", "carryOut", "(I)I"⟩, 9), (⟨"StoryCoroner", "addWriter", "(I)V"⟩, 9), (⟨"StoryCoroner", "addDead", "(I)V"⟩, 9), (⟨"StoryCoroner$Inquest", "afterChapter", "(II)I"⟩, 1)]
theorem lw_r2 : ∀ q ∈ lw_privs_2, lw_okq q := List.forall_mem_cons.mpr ⟨lw_p16, List.forall_mem_cons.mpr ⟨lw_p17, List.forall_mem_cons.mpr ⟨lw_p18, List.forall_mem_cons.mpr ⟨lw_p19, List.forall_mem_cons.mpr ⟨lw_p20, fun _ h => absurd h List.not_mem_nil⟩⟩⟩⟩⟩
def lw_privs : List (MethodName × Nat) := lw_privs_1 ++ (lw_privs_2)
def lw_tbl : List Cond := k2_sels lw_privs ++ tables_1
theorem lw_privs_ok : ∀ q ∈ lw_privs, lw_okq q := by
  show ∀ q ∈ lw_privs_1 ++ (lw_privs_2), lw_okq q
  exact List.forall_mem_append.mpr ⟨lw_r1, lw_r2⟩
/-- the streams that the claim lets the run draw from -/
abbrev lw_cs : List Choice := [Jvm.Choice.named "NaN.bits"]
theorem lw_bits : nanBits ∈ lw_cs := by first | decide | exact List.mem_cons_self | simp [lw_cs, nanBits]
-- ===== end of PART A; then your names; then what follows =====

/-! names: printed by the kit, sorted by gen1.py; tables by gen1.py -/
def RX0 : String := "StoryCoroner$Book"
def TX0 : u_T := fun k => match k with
  | 0 => ("StoryCoroner$Book", "characters", "I", false)
  | 1 => ("StoryCoroner$Book", "authors", "I", false)
  | 2 => ("StoryCoroner$Book", "trials", "I", false)
  | 3 => ("StoryCoroner$Book", "turns", "LStoryCoroner$Row;", true)
  | 4 => ("StoryCoroner$Book", "chapters", "LStoryCoroner$Row;", true)
  | 5 => ("StoryCoroner$Book", "culprits", "LStoryCoroner$Row;", true)
  | 6 => ("StoryCoroner$Book", "writers", "LStoryCoroner$Row;", true)
  | 7 => ("StoryCoroner$Book", "sworn", "LStoryCoroner$Row;", true)
  | 8 => ("StoryCoroner$Book", "motives", "LStoryCoroner$Row;", true)
  | _ => ("StoryCoroner$Book", "severities", "LStoryCoroner$Row;", true)
abbrev cX0_init : ByteArray := prog_2_method_1_code
abbrev cX0_isChapter : ByteArray := prog_2_method_2_code
abbrev cX0_isCharacter : ByteArray := prog_2_method_3_code
abbrev cX0_isAuthor : ByteArray := prog_2_method_4_code
abbrev cX0_isDeath : ByteArray := prog_2_method_5_code
abbrev cX0_isCase : ByteArray := prog_2_method_6_code
abbrev cX0_deaths : ByteArray := prog_2_method_7_code
abbrev cX0_risings : ByteArray := prog_2_method_8_code
abbrev cX0_isDeadAtLast : ByteArray := prog_2_method_9_code
abbrev cX0_turnChapter : ByteArray := prog_2_method_10_code
abbrev cX0_lastChapter : ByteArray := prog_2_method_11_code
abbrev cX0_deathChapter : ByteArray := prog_2_method_12_code
abbrev cX0_nextRising : ByteArray := prog_2_method_13_code
abbrev cX0_culprit : ByteArray := prog_2_method_14_code
abbrev cX0_isSolved : ByteArray := prog_2_method_15_code
abbrev cX0_setCulprit : ByteArray := prog_2_method_16_code
abbrev cX0_addTurn : ByteArray := prog_2_method_17_code
abbrev cX0_removeLastTurn : ByteArray := prog_2_method_18_code
abbrev cX0_motivePages : ByteArray := prog_2_method_19_code
abbrev cX0_isBySworn : ByteArray := prog_2_method_20_code
abbrev cX0_swornAuthors : ByteArray := prog_2_method_21_code
abbrev cX0_copyFrom : ByteArray := prog_2_method_22_code
def RX1 : String := "StoryCoroner$Changes"
def TX1 : u_T := fun k => match k with
  | 0 => ("StoryCoroner$Changes", "book", "LStoryCoroner$Book;", true)
  | 1 => ("StoryCoroner$Changes", "inquest", "LStoryCoroner$Inquest;", true)
  | 2 => ("StoryCoroner$Changes", "jury", "LStoryCoroner$Jury;", true)
  | _ => ("StoryCoroner$Changes", "refusals", "LStoryCoroner$Refusals;", true)
abbrev cX1_init : ByteArray := prog_3_method_1_code
abbrev cX1_addCharacter : ByteArray := prog_3_method_2_code
abbrev cX1_addAuthor : ByteArray := prog_3_method_3_code
abbrev cX1_letDie : ByteArray := prog_3_method_4_code
abbrev cX1_letRise : ByteArray := prog_3_method_5_code
abbrev cX1_canTurn : ByteArray := prog_3_method_6_code
abbrev cX1_strikeOut : ByteArray := prog_3_method_7_code
abbrev cX1_setWriter : ByteArray := prog_3_method_8_code
abbrev cX1_setSworn : ByteArray := prog_3_method_9_code
abbrev cX1_setMotive : ByteArray := prog_3_method_10_code
abbrev cX1_seatReader : ByteArray := prog_3_method_11_code
abbrev cX1_letGo : ByteArray := prog_3_method_12_code
abbrev cX1_holdTrial : ByteArray := prog_3_method_13_code
def RX2 : String := "StoryCoroner$Counts"
def TX2 : u_T := fun k => match k with
  | 0 => ("StoryCoroner$Counts", "book", "LStoryCoroner$Book;", true)
  | _ => ("StoryCoroner$Counts", "keys", "LStoryCoroner$Row;", true)
abbrev cX2_init : ByteArray := prog_4_method_1_code
abbrev cX2_chaptersLived : ByteArray := prog_4_method_2_code
abbrev cX2_solvedDeaths : ByteArray := prog_4_method_3_code
abbrev cX2_deathsCausedBy : ByteArray := prog_4_method_4_code
abbrev cX2_pagesHeldBy : ByteArray := prog_4_method_5_code
abbrev cX2_pagesAgainst : ByteArray := prog_4_method_6_code
abbrev cX2_chaptersBy : ByteArray := prog_4_method_7_code
abbrev cX2_writtenChapters : ByteArray := prog_4_method_8_code
abbrev cX2_deathsBy : ByteArray := prog_4_method_9_code
abbrev cX2_solvedDeathsBy : ByteArray := prog_4_method_10_code
abbrev cX2_isDeathBy : ByteArray := prog_4_method_11_code
abbrev cX2_allDeaths : ByteArray := prog_4_method_12_code
abbrev cX2_allRisings : ByteArray := prog_4_method_13_code
abbrev cX2_allSolvedDeaths : ByteArray := prog_4_method_14_code
abbrev cX2_atPlace : ByteArray := prog_4_method_15_code
abbrev cX2_key : ByteArray := prog_4_method_16_code
abbrev cX2_aheadOf : ByteArray := prog_4_method_17_code
def RX3 : String := "StoryCoroner$History"
def TX3 : u_T := fun k => match k with
  | 0 => ("StoryCoroner$History", "states", "[LStoryCoroner$Book;", true)
  | 1 => ("StoryCoroner$History", "snapshot", "LStoryCoroner$Book;", true)
  | 2 => ("StoryCoroner$History", "next", "I", false)
  | 3 => ("StoryCoroner$History", "many", "I", false)
  | _ => ("StoryCoroner$History", "isSaved", "Z", false)
abbrev cX3_init : ByteArray := prog_5_method_1_code
abbrev cX3_size : ByteArray := prog_5_method_2_code
abbrev cX3_keep : ByteArray := prog_5_method_3_code
abbrev cX3_confirm : ByteArray := prog_5_method_4_code
abbrev cX3_takeBack : ByteArray := prog_5_method_5_code
abbrev cX3_stepBack : ByteArray := prog_5_method_6_code
abbrev cX3_saveSnapshot : ByteArray := prog_5_method_7_code
abbrev cX3_restoreSnapshot : ByteArray := prog_5_method_8_code
abbrev cX3_isInRing : ByteArray := prog_5_method_9_code
def RX4 : String := "StoryCoroner$Inquest"
def TX4 : u_T := fun k => match k with
  | _ => ("StoryCoroner$Inquest", "book", "LStoryCoroner$Book;", true)
abbrev cX4_init : ByteArray := prog_6_method_1_code
abbrev cX4_isDeadIn : ByteArray := prog_6_method_2_code
abbrev cX4_deadByLatest : ByteArray := prog_6_method_3_code
abbrev cX4_deadByChapters : ByteArray := prog_6_method_4_code
abbrev cX4_afterChapter : ByteArray := prog_6_method_5_code
abbrev cX4_darkestChapter : ByteArray := prog_6_method_6_code
abbrev cX4_couldCause : ByteArray := prog_6_method_7_code
abbrev cX4_possibleCulprits : ByteArray := prog_6_method_8_code
abbrev cX4_suspectByCharacters : ByteArray := prog_6_method_9_code
abbrev cX4_suspectByPages : ByteArray := prog_6_method_10_code
abbrev cX4_weight : ByteArray := prog_6_method_11_code
abbrev cX4_deadAgree : ByteArray := prog_6_method_12_code
abbrev cX4_suspectsAgree : ByteArray := prog_6_method_13_code
abbrev cX4_turnsAreInOrder : ByteArray := prog_6_method_14_code
def RX5 : String := "StoryCoroner$Jury"
def TX5 : u_T := fun k => match k with
  | _ => ("StoryCoroner$Jury", "book", "LStoryCoroner$Book;", true)
abbrev cX5_init : ByteArray := prog_7_method_1_code
abbrev cX5_isSeat : ByteArray := prog_7_method_2_code
abbrev cX5_isSeverity : ByteArray := prog_7_method_3_code
abbrev cX5_isTaken : ByteArray := prog_7_method_4_code
abbrev cX5_sitting : ByteArray := prog_7_method_5_code
abbrev cX5_votes : ByteArray := prog_7_method_6_code
abbrev cX5_voteOn : ByteArray := prog_7_method_7_code
abbrev cX5_findsGuilty : ByteArray := prog_7_method_8_code
abbrev cX5_wouldFindGuilty : ByteArray := prog_7_method_9_code
def RX6 : String := "StoryCoroner$Line"
def TX6 : u_T := fun k => match k with
  | 0 => ("StoryCoroner$Line", "codes", "LStoryCoroner$Row;", true)
  | _ => ("StoryCoroner$Line", "length", "I", false)
abbrev cX6_init : ByteArray := prog_8_method_1_code
abbrev cX6_size : ByteArray := prog_8_method_2_code
abbrev cX6_clear : ByteArray := prog_8_method_3_code
abbrev cX6_codeAt : ByteArray := prog_8_method_4_code
abbrev cX6_addCode : ByteArray := prog_8_method_5_code
abbrev cX6_addNumber : ByteArray := prog_8_method_6_code
def RX7 : String := "StoryCoroner$Refusals"
def TX7 : u_T := fun k => match k with
  | 0 => ("StoryCoroner$Refusals", "commandNow", "I", false)
  | 1 => ("StoryCoroner$Refusals", "reason", "I", false)
  | 2 => ("StoryCoroner$Refusals", "detail", "I", false)
  | _ => ("StoryCoroner$Refusals", "command", "I", false)
abbrev cX7_init : ByteArray := prog_9_method_1_code
abbrev cX7_setCommand : ByteArray := prog_9_method_2_code
abbrev cX7_refuse : ByteArray := prog_9_method_3_code
def RX8 : String := "StoryCoroner$Row"
def TX8 : u_T := fun k => match k with
  | _ => ("StoryCoroner$Row", "cells", "[I", true)
abbrev cX8_init : ByteArray := prog_10_method_1_code
abbrev cX8_get : ByteArray := prog_10_method_2_code
abbrev cX8_set : ByteArray := prog_10_method_3_code
abbrev cX8_copyFrom : ByteArray := prog_10_method_4_code
def RX9 : String := "StoryCoroner$Text"
def TX9 : u_T := fun k => match k with
  | 0 => ("StoryCoroner$Text", "codes", "LStoryCoroner$Row;", true)
  | 1 => ("StoryCoroner$Text", "kinds", "LStoryCoroner$Row;", true)
  | 2 => ("StoryCoroner$Text", "arguments", "LStoryCoroner$Row;", true)
  | 3 => ("StoryCoroner$Text", "length", "I", false)
  | 4 => ("StoryCoroner$Text", "commands", "I", false)
  | 5 => ("StoryCoroner$Text", "position", "I", false)
  | _ => ("StoryCoroner$Text", "given", "I", false)
abbrev cX9_init : ByteArray := prog_11_method_1_code
abbrev cX9_size : ByteArray := prog_11_method_2_code
abbrev cX9_clear : ByteArray := prog_11_method_3_code
abbrev cX9_addCode : ByteArray := prog_11_method_4_code
abbrev cX9_commands : ByteArray := prog_11_method_5_code
abbrev cX9_kind : ByteArray := prog_11_method_6_code
abbrev cX9_argument : ByteArray := prog_11_method_7_code
abbrev cX9_parse : ByteArray := prog_11_method_8_code
abbrev cX9_takeCommand : ByteArray := prog_11_method_9_code
abbrev cX9_ahead : ByteArray := prog_11_method_10_code
abbrev cX9_isDigit : ByteArray := prog_11_method_11_code
abbrev cX9_take : ByteArray := prog_11_method_12_code
abbrev cX9_takeDigit : ByteArray := prog_11_method_13_code
abbrev cX9_takeNumber : ByteArray := prog_11_method_14_code
abbrev cX9_takePlusOrMinus : ByteArray := prog_11_method_15_code
abbrev cX9_takeSeverityOrMinus : ByteArray := prog_11_method_16_code
abbrev cX9_give : ByteArray := prog_11_method_17_code
def RX10 : String := "StoryCoroner"
def TX10 : u_T := fun k => match k with
  | 0 => ("StoryCoroner", "book", "LStoryCoroner$Book;", true)
  | 1 => ("StoryCoroner", "inquest", "LStoryCoroner$Inquest;", true)
  | 2 => ("StoryCoroner", "jury", "LStoryCoroner$Jury;", true)
  | 3 => ("StoryCoroner", "counts", "LStoryCoroner$Counts;", true)
  | 4 => ("StoryCoroner", "refusals", "LStoryCoroner$Refusals;", true)
  | 5 => ("StoryCoroner", "changes", "LStoryCoroner$Changes;", true)
  | 6 => ("StoryCoroner", "history", "LStoryCoroner$History;", true)
  | 7 => ("StoryCoroner", "text", "LStoryCoroner$Text;", true)
  | _ => ("StoryCoroner", "line", "LStoryCoroner$Line;", true)
abbrev cX10_init : ByteArray := prog_1_method_1_code
abbrev cX10_character : ByteArray := prog_1_method_2_code
abbrev cX10_author : ByteArray := prog_1_method_3_code
abbrev cX10_die : ByteArray := prog_1_method_4_code
abbrev cX10_rise : ByteArray := prog_1_method_5_code
abbrev cX10_strike : ByteArray := prog_1_method_6_code
abbrev cX10_write : ByteArray := prog_1_method_7_code
abbrev cX10_swear : ByteArray := prog_1_method_8_code
abbrev cX10_motive : ByteArray := prog_1_method_9_code
abbrev cX10_seat : ByteArray := prog_1_method_10_code
abbrev cX10_leave : ByteArray := prog_1_method_11_code
abbrev cX10_trial : ByteArray := prog_1_method_12_code
abbrev cX10_characterOf : ByteArray := prog_1_method_13_code
abbrev cX10_deathOf : ByteArray := prog_1_method_14_code
abbrev cX10_authorOf : ByteArray := prog_1_method_15_code
abbrev cX10_pages : ByteArray := prog_1_method_16_code
abbrev cX10_dead : ByteArray := prog_1_method_17_code
abbrev cX10_deadAgain : ByteArray := prog_1_method_18_code
abbrev cX10_darkest : ByteArray := prog_1_method_19_code
abbrev cX10_suspect : ByteArray := prog_1_method_20_code
abbrev cX10_suspectAgain : ByteArray := prog_1_method_21_code
abbrev cX10_guilty : ByteArray := prog_1_method_22_code
abbrev cX10_would : ByteArray := prog_1_method_23_code
abbrev cX10_ranked : ByteArray := prog_1_method_24_code
abbrev cX10_tellCharacter : ByteArray := prog_1_method_25_code
abbrev cX10_tellChapter : ByteArray := prog_1_method_26_code
abbrev cX10_tellJury : ByteArray := prog_1_method_27_code
abbrev cX10_sign : ByteArray := prog_1_method_28_code
abbrev cX10_append : ByteArray := prog_1_method_29_code
abbrev cX10_read : ByteArray := prog_1_method_30_code
abbrev cX10_account : ByteArray := prog_1_method_32_code
abbrev cX10_isWell : ByteArray := prog_1_method_33_code
abbrev cX10_share : ByteArray := prog_1_method_34_code
abbrev cX10_undo : ByteArray := prog_1_method_35_code
abbrev cX10_save : ByteArray := prog_1_method_36_code
abbrev cX10_restore : ByteArray := prog_1_method_37_code
abbrev cX10_isYesOrNo : ByteArray := prog_1_method_38_code
abbrev cX10_isError : ByteArray := prog_1_method_39_code
abbrev cX10_begin : ByteArray := prog_1_method_40_code
abbrev cX10_finish : ByteArray := prog_1_method_41_code
abbrev cX10_carryOut : ByteArray := prog_1_method_42_code
abbrev cX10_addTurn : ByteArray := prog_1_method_43_code
abbrev cX10_addWriter : ByteArray := prog_1_method_44_code
abbrev cX10_addDead : ByteArray := prog_1_method_45_code
abbrev cX10_bitsOfShare : ByteArray := prog_1_method_46_code
def RX11 : String := "StoryCoronerModel"
def TX11 : u_T := fun k => match k with
  | _ => ("", "", "", false)
def RJ5 : String := "java/lang/AbstractStringBuilder"
abbrev cJ5_init_d00df : ByteArray := prog_14_method_2_code
abbrev cJ5_length_8abf5 : ByteArray := prog_14_method_6_code
abbrev cJ5_ensureCapacityInternal_d00df : ByteArray := prog_14_method_9_code
abbrev cJ5_newCapacity_0f7a4 : ByteArray := prog_14_method_10_code
abbrev cJ5_inflate_da8c8 : ByteArray := prog_14_method_11_code
abbrev cJ5_append_cf1ce : ByteArray := prog_14_method_22_code
abbrev cJ5_appendNull_278bc : ByteArray := prog_14_method_26_code
abbrev cJ5_append_c97b9 : ByteArray := prog_14_method_32_code
abbrev cJ5_getValue_6d5f1 : ByteArray := prog_14_method_64_code
abbrev cJ5_isLatin1_aae02 : ByteArray := prog_14_method_68_code
abbrev cJ5_inflateIfNeededFor_a7421 : ByteArray := prog_14_method_71_code
abbrev cJ5_putStringAt_47b60 : ByteArray := prog_14_method_73_code
def RJx8e188 : String := "java/lang/Cloneable"
def RJ6 : String := "java/lang/Integer"
abbrev cJ6_getChars_ba4f3 : ByteArray := prog_16_method_12_code
abbrev cJ6_stringSize_0f7a4 : ByteArray := prog_16_method_13_code
abbrev cJ6_bitCount_0f7a4 : ByteArray := prog_16_method_49_code
def RJ9 : String := "java/lang/Math"
abbrev cJ9_max_7cf53 : ByteArray := prog_17_method_65_code
abbrev cJ9_min_7cf53 : ByteArray := prog_17_method_69_code
def RJ0 : String := "java/lang/String"
def TJ0 : u_T := fun k => match k with
  | 0 => ("java/lang/String", "value", "[B", true)
  | 1 => ("java/lang/String", "coder", "B", true)
  | 2 => ("java/lang/String", "hash", "I", false)
  | _ => ("java/lang/String", "hashIsZero", "Z", false)
abbrev cJ0_init_81219 : ByteArray := prog_18_method_53_code
abbrev cJ0_length_8abf5 : ByteArray := prog_18_method_54_code
abbrev cJ0_charAt_5068e : ByteArray := prog_18_method_56_code
abbrev cJ0_getBytes_840e7 : ByteArray := prog_18_method_147_code
abbrev cJ0_init_db425 : ByteArray := prog_18_method_150_code
abbrev cJ0_coder_7d493 : ByteArray := prog_18_method_152_code
abbrev cJ0_isLatin1_aae02 : ByteArray := prog_18_method_154_code
abbrev cJ0_checkIndex_df160 : ByteArray := prog_18_method_155_code
abbrev cJ0_checkBoundsOffCount_cabcc : ByteArray := prog_18_method_157_code
abbrev cJ0_checkBoundsBeginEnd_23922 : ByteArray := prog_18_method_158_code
def RJ4 : String := "java/lang/StringBuilder"
def TJ4 : u_T := fun k => match k with
  | 0 => ("java/lang/AbstractStringBuilder", "value", "[B", false)
  | 1 => ("java/lang/AbstractStringBuilder", "coder", "B", false)
  | 2 => ("java/lang/AbstractStringBuilder", "maybeLatin1", "Z", false)
  | _ => ("java/lang/AbstractStringBuilder", "count", "I", false)
abbrev cJ4_init_da8c8 : ByteArray := prog_19_method_1_code
abbrev cJ4_append_15ec4 : ByteArray := prog_19_method_7_code
abbrev cJ4_append_bf812 : ByteArray := prog_19_method_15_code
abbrev cJ4_toString_0e30d : ByteArray := prog_19_method_42_code
abbrev cJ4_length_8abf5 : ByteArray := prog_19_method_93_code
def RJ1 : String := "java/lang/StringLatin1"
abbrev cJ1_charAt_3b067 : ByteArray := prog_20_method_2_code
abbrev cJ1_inflate_0e8fd : ByteArray := prog_20_method_50_code
def RJ2 : String := "java/lang/StringUTF16"
abbrev cJ2_newBytesFor_77867 : ByteArray := prog_21_method_2_code
abbrev cJ2_newBytesLength_0f7a4 : ByteArray := prog_21_method_3_code
abbrev cJ2_putChar_b72d1 : ByteArray := prog_21_method_4_code
abbrev cJ2_getChar_3b067 : ByteArray := prog_21_method_5_code
abbrev cJ2_length_9d52b : ByteArray := prog_21_method_6_code
abbrev cJ2_coderFromArrayLen_85cad : ByteArray := prog_21_method_15_code
abbrev cJ2_compress_39247 : ByteArray := prog_21_method_17_code
abbrev cJ2_compress_5af95 : ByteArray := prog_21_method_22_code
abbrev cJ2_getChars_46870 : ByteArray := prog_21_method_77_code
abbrev cJ2_putCharsAt_cd4e5 : ByteArray := prog_21_method_81_code
abbrev cJ2_charAt_3b067 : ByteArray := prog_21_method_83_code
abbrev cJ2_inflate_0e8fd : ByteArray := prog_21_method_86_code
abbrev cJ2_getChars_ba4f3 : ByteArray := prog_21_method_89_code
abbrev cJ2_checkIndex_2214a : ByteArray := prog_21_method_91_code
abbrev cJ2_checkBoundsBeginEnd_d044e : ByteArray := prog_21_method_93_code
abbrev cJ2_checkBoundsOffCount_d044e : ByteArray := prog_21_method_94_code
def RJ10 : String := "java/lang/System"
def RJ7 : String := "java/util/Arrays"
abbrev cJ7_copyOf_9075b : ByteArray := prog_23_method_121_code
abbrev cJ7_checkLength_df160 : ByteArray := prog_23_method_131_code
abbrev cJ7_copyOfRange_39247 : ByteArray := prog_23_method_132_code
abbrev cJ7_copyOfRangeByte_39247 : ByteArray := prog_23_method_133_code
def RJ8 : String := "jdk/internal/util/ArraysSupport"
abbrev cJ8_newLength_cabcc : ByteArray := prog_24_method_27_code
abbrev cJ8_hugeLength_7cf53 : ByteArray := prog_24_method_28_code
def RJ3 : String := "jdk/internal/util/Preconditions"
abbrev cJ3_checkIndex_8e157 : ByteArray := prog_25_method_11_code
abbrev cJ3_checkFromToIndex_8c36e : ByteArray := prog_25_method_12_code
abbrev cJ3_checkFromIndexSize_8c36e : ByteArray := prog_25_method_13_code
def RL : String := "StoryCoronerLaw"
abbrev cL_cell : ByteArray := method_2_code
abbrev cL_in : ByteArray := method_3_code
abbrev cL_reads : ByteArray := method_4_code
abbrev cL_isError : ByteArray := method_5_code
abbrev cL_begun : ByteArray := method_6_code
abbrev cL_does : ByteArray := method_7_code
abbrev cL_seen : ByteArray := method_8_code
abbrev cL_areAlike : ByteArray := method_9_code
abbrev cL_isDead : ByteArray := method_10_code
abbrev cL_could : ByteArray := method_11_code
abbrev cL_isWell : ByteArray := method_12_code
abbrev cL_law : ByteArray := code
abbrev vwCl : List vw_C := [(RX0, TX0, 10), (RX1, TX1, 4), (RX2, TX2, 2), (RX3, TX3, 5), (RX4, TX4, 1), (RX5, TX5, 1), (RX6, TX6, 2), (RX7, TX7, 4), (RX8, TX8, 1), (RX9, TX9, 7), (RX10, TX10, 9), (RJ4, TJ4, 4), (RJ0, TJ0, 4)]
/-- a method: name, code, locals, return type, parameters, kind (0 static, 1 instance, 2 constructor), class of its receiver among vwCl, view, frames, words of locals -/
abbrev ai_MI : Type := MethodName × ByteArray × Nat × Option FieldType × Nat × Nat × Nat × Nat × Nat × Nat
def ai_mt : List ai_MI := [
  (⟨"java/lang/Math", "max", "(II)I"⟩, prog_17_method_65_code, 2, some .int, 2, 0, 99, 12, 1, 0),
  (⟨"StoryCoroner$Row", "<init>", "(II)V"⟩, prog_10_method_1_code, 4, none, 2, 2, 8, 8, 2, 40),
  (⟨"StoryCoroner$Book", "<init>", "()V"⟩, prog_2_method_1_code, 1, none, 0, 2, 0, 0, 3, 63),
  (⟨"StoryCoroner$Inquest", "<init>", "(LStoryCoroner$Book;)V"⟩, prog_6_method_1_code, 2, none, 1, 2, 4, 4, 1, 40),
  (⟨"StoryCoroner$Jury", "<init>", "(LStoryCoroner$Book;)V"⟩, prog_7_method_1_code, 2, none, 1, 2, 5, 5, 1, 40),
  (⟨"StoryCoroner$Refusals", "<init>", "()V"⟩, prog_9_method_1_code, 1, none, 0, 2, 7, 7, 1, 40),
  (⟨"StoryCoroner$Counts", "<init>", "(LStoryCoroner$Book;)V"⟩, prog_4_method_1_code, 2, none, 1, 2, 2, 2, 3, 63),
  (⟨"StoryCoroner$Changes", "<init>", "(LStoryCoroner$Book;LStoryCoroner$Inquest;LStoryCoroner$Jury;LStoryCoroner$Refusals;)V"⟩, prog_3_method_1_code, 5, none, 4, 2, 1, 1, 1, 40),
  (⟨"StoryCoroner$History", "<init>", "()V"⟩, prog_5_method_1_code, 2, none, 0, 2, 3, 3, 4, 83),
  (⟨"StoryCoroner$Text", "<init>", "()V"⟩, prog_11_method_1_code, 1, none, 0, 2, 9, 9, 3, 63),
  (⟨"StoryCoroner$Line", "<init>", "()V"⟩, prog_8_method_1_code, 1, none, 0, 2, 6, 6, 3, 63),
  (⟨"StoryCoroner", "<init>", "()V"⟩, prog_1_method_1_code, 5, none, 0, 2, 10, 10, 5, 104),
  (⟨"StoryCoroner$Row", "get", "(I)I"⟩, prog_10_method_2_code, 2, some .int, 1, 1, 8, 8, 1, 0),
  (⟨"StoryCoroner$Book", "deaths", "(I)I"⟩, prog_2_method_7_code, 2, some .int, 1, 1, 0, 0, 2, 21),
  (⟨"StoryCoroner$Counts", "allDeaths", "()I"⟩, prog_4_method_12_code, 3, some .int, 0, 1, 2, 2, 3, 42),
  (⟨"StoryCoroner$Book", "risings", "(I)I"⟩, prog_2_method_8_code, 2, some .int, 1, 1, 0, 0, 2, 21),
  (⟨"StoryCoroner$Counts", "allRisings", "()I"⟩, prog_4_method_13_code, 3, some .int, 0, 1, 2, 2, 3, 42),
  (⟨"StoryCoroner$Book", "culprit", "(II)I"⟩, prog_2_method_14_code, 3, some .int, 2, 1, 0, 0, 2, 21),
  (⟨"StoryCoroner$Book", "isSolved", "(II)Z"⟩, prog_2_method_15_code, 3, some .boolean, 2, 1, 0, 0, 3, 43),
  (⟨"StoryCoroner$Counts", "solvedDeaths", "(I)I"⟩, prog_4_method_3_code, 4, some .int, 1, 1, 2, 2, 4, 65),
  (⟨"StoryCoroner$Counts", "allSolvedDeaths", "()I"⟩, prog_4_method_14_code, 3, some .int, 0, 1, 2, 2, 5, 88),
  (⟨"StoryCoroner$Jury", "isTaken", "(I)Z"⟩, prog_7_method_4_code, 2, some .boolean, 1, 1, 5, 5, 2, 21),
  (⟨"StoryCoroner$Jury", "sitting", "()I"⟩, prog_7_method_5_code, 3, some .int, 0, 1, 5, 5, 3, 42),
  (⟨"StoryCoroner$Counts", "chaptersBy", "(I)I"⟩, prog_4_method_7_code, 4, some .int, 1, 1, 2, 2, 2, 21),
  (⟨"StoryCoroner$Counts", "writtenChapters", "()I"⟩, prog_4_method_8_code, 1, some .int, 0, 1, 2, 2, 3, 44),
  (⟨"StoryCoroner$Book", "swornAuthors", "()I"⟩, prog_2_method_21_code, 3, some .int, 0, 1, 0, 0, 2, 21),
  (⟨"StoryCoroner$Text", "size", "()I"⟩, prog_11_method_2_code, 1, some .int, 0, 1, 9, 9, 1, 0),
  (⟨"StoryCoroner$History", "size", "()I"⟩, prog_5_method_2_code, 1, some .int, 0, 1, 3, 3, 1, 0),
  (⟨"StoryCoroner", "account", "(I)I"⟩, prog_1_method_32_code, 2, some .int, 1, 1, 10, 10, 6, 110),
  (⟨"StoryCoroner$Row", "set", "(II)V"⟩, prog_10_method_3_code, 3, none, 2, 1, 8, 8, 1, 0),
  (⟨"StoryCoroner$Line", "addCode", "(I)V"⟩, prog_8_method_5_code, 2, none, 1, 1, 6, 6, 2, 22),
  (⟨"StoryCoroner$Line", "addNumber", "(I)V"⟩, prog_8_method_6_code, 2, none, 1, 1, 6, 6, 3, 43),
  (⟨"StoryCoroner", "addDead", "(I)V"⟩, prog_1_method_45_code, 4, none, 1, 1, 10, 10, 4, 64),
  (⟨"StoryCoroner$Book", "turnChapter", "(II)I"⟩, prog_2_method_10_code, 3, some .int, 2, 1, 0, 0, 2, 21),
  (⟨"StoryCoroner", "addTurn", "(II)V"⟩, prog_1_method_43_code, 4, none, 2, 1, 10, 10, 4, 65),
  (⟨"StoryCoroner$Book", "isAuthor", "(I)Z"⟩, prog_2_method_4_code, 2, some .boolean, 1, 1, 0, 0, 1, 0),
  (⟨"StoryCoroner$Book", "isBySworn", "(I)Z"⟩, prog_2_method_20_code, 3, some .boolean, 1, 1, 0, 0, 2, 21),
  (⟨"StoryCoroner", "addWriter", "(I)V"⟩, prog_1_method_44_code, 3, none, 1, 1, 10, 10, 4, 64),
  (⟨"StoryCoroner$Text", "addCode", "(I)Z"⟩, prog_11_method_4_code, 2, some .boolean, 1, 1, 9, 9, 2, 22),
  (⟨"StoryCoroner", "append", "(I)I"⟩, prog_1_method_29_code, 2, some .int, 1, 1, 10, 10, 3, 43),
  (⟨"StoryCoroner$Refusals", "setCommand", "(I)V"⟩, prog_9_method_2_code, 2, none, 1, 1, 7, 7, 1, 0),
  (⟨"StoryCoroner$History", "isInRing", "(I)Z"⟩, prog_5_method_9_code, 2, some .boolean, 1, 1, 3, 3, 1, 0),
  (⟨"java/lang/Math", "min", "(II)I"⟩, prog_17_method_69_code, 2, some .int, 2, 0, 99, 12, 1, 0),
  (⟨"StoryCoroner$Row", "copyFrom", "(LStoryCoroner$Row;)V"⟩, prog_10_method_4_code, 3, none, 1, 1, 8, 8, 2, 40),
  (⟨"StoryCoroner$Book", "copyFrom", "(LStoryCoroner$Book;)V"⟩, prog_2_method_22_code, 2, none, 1, 1, 0, 0, 3, 62),
  (⟨"StoryCoroner$History", "keep", "(LStoryCoroner$Book;)V"⟩, prog_5_method_3_code, 2, none, 1, 1, 3, 3, 4, 83),
  (⟨"StoryCoroner", "begin", "()V"⟩, prog_1_method_40_code, 1, none, 0, 1, 10, 10, 5, 104),
  (⟨"StoryCoroner$Refusals", "refuse", "(II)I"⟩, prog_9_method_3_code, 3, some .int, 2, 1, 7, 7, 1, 0),
  (⟨"StoryCoroner$Changes", "addAuthor", "()I"⟩, prog_3_method_3_code, 2, some .int, 0, 1, 1, 1, 2, 22),
  (⟨"StoryCoroner", "isError", "(I)Z"⟩, prog_1_method_39_code, 1, some .boolean, 1, 0, 10, 10, 1, 0),
  (⟨"StoryCoroner$History", "confirm", "()V"⟩, prog_5_method_4_code, 1, none, 0, 1, 3, 3, 2, 21),
  (⟨"StoryCoroner", "finish", "(I)I"⟩, prog_1_method_41_code, 2, some .int, 1, 1, 10, 10, 3, 41),
  (⟨"StoryCoroner", "author", "()I"⟩, prog_1_method_3_code, 1, some .int, 0, 1, 10, 10, 6, 124),
  (⟨"StoryCoroner$Book", "deathChapter", "(II)I"⟩, prog_2_method_12_code, 3, some .int, 2, 1, 0, 0, 2, 21),
  (⟨"StoryCoroner$Counts", "isDeathBy", "(III)Z"⟩, prog_4_method_11_code, 4, some .boolean, 3, 1, 2, 2, 3, 43),
  (⟨"StoryCoroner$Counts", "deathsBy", "(I)I"⟩, prog_4_method_9_code, 5, some .int, 1, 1, 2, 2, 4, 66),
  (⟨"StoryCoroner$Counts", "solvedDeathsBy", "(I)I"⟩, prog_4_method_10_code, 5, some .int, 1, 1, 2, 2, 4, 66),
  (⟨"StoryCoroner", "authorOf", "(II)I"⟩, prog_1_method_15_code, 3, some .int, 2, 1, 10, 10, 5, 90),
  (⟨"StoryCoroner", "bitsOfShare", "(F)I"⟩, prog_1_method_46_code, 4, some .int, 1, 0, 10, 10, 1, 0),
  (⟨"StoryCoroner$Text", "argument", "(II)I"⟩, prog_11_method_7_code, 3, some .int, 2, 1, 9, 9, 2, 21),
  (⟨"StoryCoroner$Text", "kind", "(I)I"⟩, prog_11_method_6_code, 2, some .int, 1, 1, 9, 9, 2, 21),
  (⟨"StoryCoroner$Changes", "addCharacter", "()I"⟩, prog_3_method_2_code, 2, some .int, 0, 1, 1, 1, 2, 22),
  (⟨"StoryCoroner$Book", "isCharacter", "(I)Z"⟩, prog_2_method_3_code, 2, some .boolean, 1, 1, 0, 0, 1, 0),
  (⟨"StoryCoroner$Book", "isChapter", "(I)Z"⟩, prog_2_method_2_code, 1, some .boolean, 1, 0, 0, 0, 1, 0),
  (⟨"StoryCoroner$Book", "isDeadAtLast", "(I)Z"⟩, prog_2_method_9_code, 2, some .boolean, 1, 1, 0, 0, 2, 21),
  (⟨"StoryCoroner$Book", "lastChapter", "(I)I"⟩, prog_2_method_11_code, 3, some .int, 1, 1, 0, 0, 3, 43),
  (⟨"StoryCoroner$Changes", "canTurn", "(II)Z"⟩, prog_3_method_6_code, 5, some .boolean, 2, 1, 1, 1, 4, 65),
  (⟨"StoryCoroner$Book", "addTurn", "(II)V"⟩, prog_2_method_17_code, 4, none, 2, 1, 0, 0, 2, 22),
  (⟨"StoryCoroner$Changes", "letDie", "(II)I"⟩, prog_3_method_4_code, 3, some .int, 2, 1, 1, 1, 5, 89),
  (⟨"StoryCoroner$Changes", "letRise", "(II)I"⟩, prog_3_method_5_code, 4, some .int, 2, 1, 1, 1, 5, 89),
  (⟨"StoryCoroner$Book", "setCulprit", "(III)V"⟩, prog_2_method_16_code, 4, none, 3, 1, 0, 0, 2, 22),
  (⟨"StoryCoroner$Book", "removeLastTurn", "(I)V"⟩, prog_2_method_18_code, 3, none, 1, 1, 0, 0, 3, 45),
  (⟨"StoryCoroner$Changes", "strikeOut", "(I)I"⟩, prog_3_method_7_code, 3, some .int, 1, 1, 1, 1, 4, 67),
  (⟨"StoryCoroner$Changes", "setWriter", "(II)I"⟩, prog_3_method_8_code, 4, some .int, 2, 1, 1, 1, 2, 22),
  (⟨"StoryCoroner", "isYesOrNo", "(I)Z"⟩, prog_1_method_38_code, 1, some .boolean, 1, 0, 10, 10, 1, 0),
  (⟨"StoryCoroner$Changes", "setSworn", "(II)I"⟩, prog_3_method_9_code, 3, some .int, 2, 1, 1, 1, 3, 43),
  (⟨"StoryCoroner$Book", "motivePages", "(II)I"⟩, prog_2_method_19_code, 3, some .int, 2, 1, 0, 0, 2, 21),
  (⟨"StoryCoroner$Changes", "setMotive", "(III)I"⟩, prog_3_method_10_code, 5, some .int, 3, 1, 1, 1, 3, 43),
  (⟨"StoryCoroner$Jury", "isSeat", "(I)Z"⟩, prog_7_method_2_code, 1, some .boolean, 1, 0, 5, 5, 1, 0),
  (⟨"StoryCoroner$Changes", "letGo", "(I)I"⟩, prog_3_method_12_code, 2, some .int, 1, 1, 1, 1, 4, 64),
  (⟨"StoryCoroner$Jury", "isSeverity", "(I)Z"⟩, prog_7_method_3_code, 1, some .boolean, 1, 0, 5, 5, 1, 0),
  (⟨"StoryCoroner$Changes", "seatReader", "(II)I"⟩, prog_3_method_11_code, 3, some .int, 2, 1, 1, 1, 4, 64),
  (⟨"StoryCoroner$Book", "isDeath", "(II)Z"⟩, prog_2_method_5_code, 3, some .boolean, 2, 1, 0, 0, 3, 42),
  (⟨"StoryCoroner$Book", "isCase", "(III)Z"⟩, prog_2_method_6_code, 4, some .boolean, 3, 1, 0, 0, 4, 64),
  (⟨"StoryCoroner$Inquest", "isDeadIn", "(II)Z"⟩, prog_6_method_2_code, 6, some .boolean, 2, 1, 4, 4, 2, 21),
  (⟨"StoryCoroner$Inquest", "couldCause", "(III)Z"⟩, prog_6_method_7_code, 4, some .boolean, 3, 1, 4, 4, 3, 46),
  (⟨"StoryCoroner$Inquest", "weight", "(III)I"⟩, prog_6_method_11_code, 5, some .int, 3, 1, 4, 4, 4, 69),
  (⟨"StoryCoroner$Jury", "voteOn", "(II)I"⟩, prog_7_method_7_code, 4, some .int, 2, 1, 5, 5, 2, 21),
  (⟨"StoryCoroner$Jury", "votes", "(I)I"⟩, prog_7_method_6_code, 4, some .int, 1, 1, 5, 5, 3, 44),
  (⟨"StoryCoroner$Jury", "findsGuilty", "(I)Z"⟩, prog_7_method_8_code, 2, some .boolean, 1, 1, 5, 5, 4, 67),
  (⟨"StoryCoroner$Changes", "holdTrial", "(III)I"⟩, prog_3_method_13_code, 4, some .int, 3, 1, 1, 1, 5, 93),
  (⟨"StoryCoroner", "carryOut", "(I)I"⟩, prog_1_method_42_code, 5, some .int, 1, 1, 10, 10, 6, 116),
  (⟨"StoryCoroner", "character", "()I"⟩, prog_1_method_2_code, 1, some .int, 0, 1, 10, 10, 6, 124),
  (⟨"StoryCoroner$Book", "nextRising", "(II)I"⟩, prog_2_method_13_code, 4, some .int, 2, 1, 0, 0, 3, 43),
  (⟨"StoryCoroner$Counts", "chaptersLived", "(I)I"⟩, prog_4_method_2_code, 6, some .int, 1, 1, 2, 2, 4, 66),
  (⟨"StoryCoroner$Counts", "deathsCausedBy", "(I)I"⟩, prog_4_method_4_code, 5, some .int, 1, 1, 2, 2, 3, 43),
  (⟨"StoryCoroner$Counts", "pagesHeldBy", "(I)I"⟩, prog_4_method_5_code, 4, some .int, 1, 1, 2, 2, 3, 43),
  (⟨"StoryCoroner$Counts", "pagesAgainst", "(I)I"⟩, prog_4_method_6_code, 4, some .int, 1, 1, 2, 2, 3, 43),
  (⟨"StoryCoroner", "characterOf", "(II)I"⟩, prog_1_method_13_code, 3, some .int, 2, 1, 10, 10, 5, 91),
  (⟨"StoryCoroner$Inquest", "deadByLatest", "(I)I"⟩, prog_6_method_3_code, 4, some .int, 1, 1, 4, 4, 3, 46),
  (⟨"java/lang/Integer", "bitCount", "(I)I"⟩, prog_16_method_49_code, 1, some .int, 1, 0, 99, 11, 1, 0),
  (⟨"StoryCoroner$Inquest", "darkestChapter", "()I"⟩, prog_6_method_6_code, 5, some .int, 0, 1, 4, 4, 4, 69),
  (⟨"StoryCoroner", "darkest", "(I)I"⟩, prog_1_method_19_code, 3, some .int, 1, 1, 10, 10, 5, 93),
  (⟨"StoryCoroner", "dead", "(I)I"⟩, prog_1_method_17_code, 2, some .int, 1, 1, 10, 10, 4, 69),
  (⟨"StoryCoroner$Inquest", "afterChapter", "(II)I"⟩, prog_6_method_5_code, 7, some .int, 2, 1, 4, 4, 3, 43),
  (⟨"StoryCoroner$Inquest", "deadByChapters", "(I)I"⟩, prog_6_method_4_code, 4, some .int, 1, 1, 4, 4, 4, 69),
  (⟨"StoryCoroner", "deadAgain", "(I)I"⟩, prog_1_method_18_code, 2, some .int, 1, 1, 10, 10, 5, 92),
  (⟨"StoryCoroner$Inquest", "possibleCulprits", "(II)I"⟩, prog_6_method_8_code, 5, some .int, 2, 1, 4, 4, 4, 69),
  (⟨"StoryCoroner", "deathOf", "(III)I"⟩, prog_1_method_14_code, 4, some .int, 3, 1, 10, 10, 5, 93),
  (⟨"StoryCoroner", "die", "(II)I"⟩, prog_1_method_4_code, 3, some .int, 2, 1, 10, 10, 6, 124),
  (⟨"StoryCoroner", "guilty", "(III)I"⟩, prog_1_method_22_code, 4, some .int, 3, 1, 10, 10, 5, 93),
  (⟨"StoryCoroner$Inquest", "deadAgree", "()Z"⟩, prog_6_method_12_code, 3, some .boolean, 0, 1, 4, 4, 4, 69),
  (⟨"StoryCoroner$Inquest", "suspectByCharacters", "(II)I"⟩, prog_6_method_9_code, 7, some .int, 2, 1, 4, 4, 4, 69),
  (⟨"StoryCoroner$Inquest", "suspectByPages", "(II)I"⟩, prog_6_method_10_code, 5, some .int, 2, 1, 4, 4, 4, 69),
  (⟨"StoryCoroner$Inquest", "suspectsAgree", "()Z"⟩, prog_6_method_13_code, 3, some .boolean, 0, 1, 4, 4, 5, 95),
  (⟨"StoryCoroner$Inquest", "turnsAreInOrder", "()Z"⟩, prog_6_method_14_code, 5, some .boolean, 0, 1, 4, 4, 3, 43),
  (⟨"StoryCoroner", "isWell", "()I"⟩, prog_1_method_33_code, 1, some .int, 0, 1, 10, 10, 6, 117),
  (⟨"StoryCoroner", "leave", "(I)I"⟩, prog_1_method_11_code, 2, some .int, 1, 1, 10, 10, 6, 124),
  (⟨"StoryCoroner", "motive", "(III)I"⟩, prog_1_method_9_code, 4, some .int, 3, 1, 10, 10, 6, 124),
  (⟨"StoryCoroner", "pages", "(II)I"⟩, prog_1_method_16_code, 3, some .int, 2, 1, 10, 10, 3, 43),
  (⟨"StoryCoroner$Counts", "key", "(II)I"⟩, prog_4_method_16_code, 3, some .int, 2, 1, 2, 2, 5, 91),
  (⟨"StoryCoroner$Counts", "aheadOf", "(II)I"⟩, prog_4_method_17_code, 7, some .int, 2, 1, 2, 2, 2, 21),
  (⟨"StoryCoroner$Counts", "atPlace", "(II)I"⟩, prog_4_method_15_code, 5, some .int, 2, 1, 2, 2, 6, 113),
  (⟨"StoryCoroner", "ranked", "(II)I"⟩, prog_1_method_24_code, 3, some .int, 2, 1, 10, 10, 7, 137),
  (⟨"StoryCoroner$Text", "ahead", "()I"⟩, prog_11_method_10_code, 1, some .int, 0, 1, 9, 9, 2, 21),
  (⟨"StoryCoroner$Text", "take", "(I)Z"⟩, prog_11_method_12_code, 2, some .boolean, 1, 1, 9, 9, 3, 41),
  (⟨"StoryCoroner$Text", "isDigit", "(I)Z"⟩, prog_11_method_11_code, 1, some .boolean, 1, 0, 9, 9, 1, 0),
  (⟨"StoryCoroner$Text", "give", "(I)V"⟩, prog_11_method_17_code, 2, none, 1, 1, 9, 9, 2, 22),
  (⟨"StoryCoroner$Text", "takeDigit", "()Z"⟩, prog_11_method_13_code, 2, some .boolean, 0, 1, 9, 9, 3, 43),
  (⟨"StoryCoroner$Text", "takeNumber", "()Z"⟩, prog_11_method_14_code, 4, some .boolean, 0, 1, 9, 9, 3, 43),
  (⟨"StoryCoroner$Text", "takePlusOrMinus", "()Z"⟩, prog_11_method_15_code, 1, some .boolean, 0, 1, 9, 9, 4, 62),
  (⟨"StoryCoroner$Text", "takeSeverityOrMinus", "()Z"⟩, prog_11_method_16_code, 1, some .boolean, 0, 1, 9, 9, 4, 64),
  (⟨"StoryCoroner$Text", "takeCommand", "()Z"⟩, prog_11_method_9_code, 2, some .boolean, 0, 1, 9, 9, 5, 84),
  (⟨"StoryCoroner$Text", "parse", "()I"⟩, prog_11_method_8_code, 2, some .int, 0, 1, 9, 9, 6, 105),
  (⟨"StoryCoroner$Text", "clear", "()V"⟩, prog_11_method_3_code, 1, none, 0, 1, 9, 9, 1, 0),
  (⟨"StoryCoroner$Text", "commands", "()I"⟩, prog_11_method_5_code, 1, some .int, 0, 1, 9, 9, 1, 0),
  (⟨"StoryCoroner$History", "takeBack", "(LStoryCoroner$Book;)V"⟩, prog_5_method_5_code, 2, none, 1, 1, 3, 3, 4, 83),
  (⟨"StoryCoroner", "read", "()I"⟩, prog_1_method_30_code, 5, some .int, 0, 1, 10, 10, 7, 140),
  (⟨"StoryCoroner$History", "restoreSnapshot", "(LStoryCoroner$Book;)Z"⟩, prog_5_method_8_code, 2, some .boolean, 1, 1, 3, 3, 4, 83),
  (⟨"StoryCoroner", "restore", "()I"⟩, prog_1_method_37_code, 1, some .int, 0, 1, 10, 10, 5, 104),
  (⟨"StoryCoroner", "rise", "(II)I"⟩, prog_1_method_5_code, 3, some .int, 2, 1, 10, 10, 6, 124),
  (⟨"StoryCoroner$History", "saveSnapshot", "(LStoryCoroner$Book;)V"⟩, prog_5_method_7_code, 2, none, 1, 1, 3, 3, 4, 83),
  (⟨"StoryCoroner", "save", "()I"⟩, prog_1_method_36_code, 1, some .int, 0, 1, 10, 10, 5, 104),
  (⟨"StoryCoroner", "seat", "(II)I"⟩, prog_1_method_10_code, 3, some .int, 2, 1, 10, 10, 6, 124),
  (⟨"StoryCoroner", "share", "()I"⟩, prog_1_method_34_code, 2, some .int, 0, 1, 10, 10, 6, 110),
  (⟨"StoryCoroner$Line", "codeAt", "(I)I"⟩, prog_8_method_4_code, 2, some .int, 1, 1, 6, 6, 2, 21),
  (⟨"StoryCoroner", "sign", "(I)I"⟩, prog_1_method_28_code, 2, some .int, 1, 1, 10, 10, 3, 42),
  (⟨"StoryCoroner", "strike", "(I)I"⟩, prog_1_method_6_code, 2, some .int, 1, 1, 10, 10, 6, 124),
  (⟨"StoryCoroner", "suspect", "(II)I"⟩, prog_1_method_20_code, 3, some .int, 2, 1, 10, 10, 5, 95),
  (⟨"StoryCoroner", "suspectAgain", "(II)I"⟩, prog_1_method_21_code, 3, some .int, 2, 1, 10, 10, 5, 93),
  (⟨"StoryCoroner", "swear", "(II)I"⟩, prog_1_method_8_code, 3, some .int, 2, 1, 10, 10, 6, 124),
  (⟨"StoryCoroner$Line", "clear", "()V"⟩, prog_8_method_3_code, 1, none, 0, 1, 6, 6, 1, 0),
  (⟨"StoryCoroner$Line", "size", "()I"⟩, prog_8_method_2_code, 1, some .int, 0, 1, 6, 6, 1, 0),
  (⟨"StoryCoroner", "tellChapter", "(I)I"⟩, prog_1_method_26_code, 2, some .int, 1, 1, 10, 10, 5, 87),
  (⟨"StoryCoroner", "tellCharacter", "(I)I"⟩, prog_1_method_25_code, 3, some .int, 1, 1, 10, 10, 5, 88),
  (⟨"StoryCoroner", "tellJury", "()I"⟩, prog_1_method_27_code, 2, some .int, 0, 1, 10, 10, 4, 64),
  (⟨"StoryCoroner", "trial", "(III)I"⟩, prog_1_method_12_code, 4, some .int, 3, 1, 10, 10, 6, 124),
  (⟨"StoryCoroner$History", "stepBack", "(LStoryCoroner$Book;)Z"⟩, prog_5_method_6_code, 2, some .boolean, 1, 1, 3, 3, 5, 104),
  (⟨"StoryCoroner", "undo", "()I"⟩, prog_1_method_35_code, 1, some .int, 0, 1, 10, 10, 6, 125),
  (⟨"StoryCoroner$Jury", "wouldFindGuilty", "(III)Z"⟩, prog_7_method_9_code, 7, some .boolean, 3, 1, 5, 5, 4, 67),
  (⟨"StoryCoroner", "would", "(IIIII)I"⟩, prog_1_method_23_code, 7, some .int, 5, 1, 10, 10, 5, 93),
  (⟨"StoryCoroner", "write", "(II)I"⟩, prog_1_method_7_code, 3, some .int, 2, 1, 10, 10, 6, 124),
  (⟨"StoryCoronerLaw", "areAlike", "([I[I)Z"⟩, method_9_code, 3, some .boolean, 2, 0, 99, 19, 1, 0),
  (⟨"StoryCoronerLaw", "cell", "([II)I"⟩, method_2_code, 3, some .int, 2, 0, 99, 19, 1, 0),
  (⟨"StoryCoronerLaw", "in", "([III)I"⟩, method_3_code, 3, some .int, 3, 0, 99, 19, 2, 22),
  (⟨"StoryCoronerLaw", "begun", "([I)LStoryCoroner;"⟩, method_6_code, 5, some (.object "StoryCoroner"), 1, 0, 99, 19, 7, 147),
  (⟨"StoryCoronerLaw", "isDead", "(LStoryCoroner;II)Z"⟩, method_10_code, 5, some .boolean, 3, 0, 99, 19, 6, 116),
  (⟨"StoryCoronerLaw", "could", "(LStoryCoroner;III)Z"⟩, method_11_code, 4, some .boolean, 4, 0, 99, 19, 7, 140),
  (⟨"java/lang/AbstractStringBuilder", "<init>", "(I)V"⟩, prog_14_method_2_code, 2, none, 1, 2, 11, 15, 1, 40),
  (⟨"java/lang/StringBuilder", "<init>", "()V"⟩, prog_19_method_1_code, 1, none, 0, 2, 11, 14, 2, 61),
  (⟨"java/lang/String", "coder", "()B"⟩, prog_18_method_152_code, 1, some .byte, 0, 1, 12, 13, 1, 0),
  (⟨"java/lang/String", "length", "()I"⟩, prog_18_method_54_code, 1, some .int, 0, 1, 12, 13, 2, 20),
  (⟨"java/lang/AbstractStringBuilder", "ensureCapacityInternal", "(I)V"⟩, prog_14_method_9_code, 3, none, 1, 1, 11, 15, 1, 0),
  (⟨"java/lang/AbstractStringBuilder", "inflateIfNeededFor", "(Ljava/lang/String;)V"⟩, prog_14_method_71_code, 2, none, 1, 1, 11, 15, 2, 20),
  (⟨"java/lang/String", "getBytes", "([BIB)V"⟩, prog_18_method_147_code, 4, none, 3, 1, 12, 13, 2, 40),
  (⟨"java/lang/AbstractStringBuilder", "putStringAt", "(ILjava/lang/String;)V"⟩, prog_14_method_73_code, 3, none, 2, 1, 11, 15, 3, 63),
  (⟨"java/lang/AbstractStringBuilder", "append", "(Ljava/lang/String;)Ljava/lang/AbstractStringBuilder;"⟩, prog_14_method_22_code, 3, some (.object "java/lang/AbstractStringBuilder"), 1, 1, 11, 15, 4, 85),
  (⟨"java/lang/StringBuilder", "append", "(Ljava/lang/String;)Ljava/lang/StringBuilder;"⟩, prog_19_method_7_code, 2, some (.object "java/lang/StringBuilder"), 1, 1, 11, 14, 5, 107),
  (⟨"java/lang/Integer", "stringSize", "(I)I"⟩, prog_16_method_13_code, 4, some .int, 1, 0, 99, 11, 1, 0),
  (⟨"java/lang/AbstractStringBuilder", "isLatin1", "()Z"⟩, prog_14_method_68_code, 1, some .boolean, 0, 1, 11, 15, 1, 0),
  (⟨"java/lang/Integer", "getChars", "(II[B)I"⟩, prog_16_method_12_code, 7, some .int, 3, 0, 99, 11, 1, 0),
  (⟨"java/lang/AbstractStringBuilder", "append", "(I)Ljava/lang/AbstractStringBuilder;"⟩, prog_14_method_32_code, 4, some (.object "java/lang/AbstractStringBuilder"), 1, 1, 11, 15, 2, 26),
  (⟨"java/lang/StringBuilder", "append", "(I)Ljava/lang/StringBuilder;"⟩, prog_19_method_15_code, 2, some (.object "java/lang/StringBuilder"), 1, 1, 11, 14, 3, 49),
  (⟨"java/lang/AbstractStringBuilder", "getValue", "()[B"⟩, prog_14_method_64_code, 1, some (.array .byte), 0, 1, 11, 15, 1, 0),
  (⟨"java/lang/AbstractStringBuilder", "length", "()I"⟩, prog_14_method_6_code, 1, some .int, 0, 1, 11, 15, 1, 0),
  (⟨"java/lang/StringBuilder", "length", "()I"⟩, prog_19_method_93_code, 1, some .int, 0, 1, 11, 14, 2, 20),
  (⟨"java/util/Arrays", "checkLength", "(II)V"⟩, prog_23_method_131_code, 2, none, 2, 0, 99, 17, 1, 0),
  (⟨"java/util/Arrays", "copyOfRangeByte", "([BII)[B"⟩, prog_23_method_133_code, 5, some (.array .byte), 3, 0, 99, 17, 2, 40),
  (⟨"java/util/Arrays", "copyOfRange", "([BII)[B"⟩, prog_23_method_132_code, 3, some (.array .byte), 3, 0, 99, 17, 3, 64),
  (⟨"java/lang/String", "<init>", "(Ljava/lang/AbstractStringBuilder;Ljava/lang/Void;)V"⟩, prog_18_method_150_code, 5, none, 2, 2, 12, 13, 4, 86),
  (⟨"java/lang/String", "<init>", "(Ljava/lang/StringBuilder;)V"⟩, prog_18_method_53_code, 2, none, 1, 2, 12, 13, 5, 110),
  (⟨"java/lang/StringBuilder", "toString", "()Ljava/lang/String;"⟩, prog_19_method_42_code, 1, some (.object "java/lang/String"), 0, 1, 11, 14, 6, 131),
  (⟨"java/lang/String", "isLatin1", "()Z"⟩, prog_18_method_154_code, 1, some .boolean, 0, 1, 12, 13, 1, 0),
  (⟨"jdk/internal/util/Preconditions", "checkIndex", "(IILjava/util/function/BiFunction;)I"⟩, prog_25_method_11_code, 3, some .int, 3, 0, 99, 18, 1, 0),
  (⟨"java/lang/String", "checkIndex", "(II)V"⟩, prog_18_method_155_code, 2, none, 2, 0, 12, 13, 2, 22),
  (⟨"java/lang/StringLatin1", "charAt", "([BI)C"⟩, prog_20_method_2_code, 2, some .char, 2, 0, 99, 16, 3, 43),
  (⟨"java/lang/String", "charAt", "(I)C"⟩, prog_18_method_56_code, 2, some .char, 1, 1, 12, 13, 4, 64),
  (⟨"StoryCoronerLaw", "reads", "(LStoryCoroner;Ljava/lang/String;)I"⟩, method_4_code, 4, some .int, 2, 0, 99, 19, 8, 164),
  (⟨"StoryCoronerLaw", "does", "(LStoryCoroner;[II)I"⟩, method_7_code, 6, some .int, 3, 0, 99, 19, 9, 187),
  (⟨"StoryCoronerLaw", "isError", "(I)Z"⟩, method_5_code, 1, some .boolean, 1, 0, 99, 19, 1, 0),
  (⟨"StoryCoronerLaw", "isWell", "(LStoryCoroner;)Z"⟩, method_12_code, 22, some .boolean, 1, 0, 99, 19, 8, 163),
  (⟨"StoryCoronerLaw", "seen", "(LStoryCoroner;)[I"⟩, method_8_code, 5, some (.array .int), 1, 0, 99, 19, 7, 131),
  (⟨"StoryCoronerLaw", "law", "([I)Z"⟩, code, 5, some .boolean, 1, 0, 99, 19, 10, 212)]
def ai_mw : List (Nat × Nat × Nat × Nat) := [(457, 25, 456, 0), (453, 24, 452, 0), (447, 23, 446, 0), (520, 26, 519, 0), (529, 27, 528, 0), (539, 28, 538, 0), (557, 29, 556, 0), (571, 30, 570, 0), (589, 31, 588, 0), (614, 32, 613, 0), (644, 33, 643, 0), (439, 22, 438, 0), (122, 24, 120, 121), (126, 23, 124, 125), (349, 29, 347, 348), (357, 23, 355, 356), (353, 29, 351, 352), (292, 23, 290, 291), (335, 23, 333, 334), (365, 29, 363, 364), (361, 29, 359, 360), (195, 27, 193, 194), (200, 27, 198, 199), (375, 29, 373, 374), (371, 29, 369, 370), (168, 23, 166, 167), (380, 32, 378, 379), (384, 31, 382, 383), (345, 22, 343, 344), (148, 24, 146, 147), (323, 33, 321, 322), (319, 33, 317, 318), (1124, 22, 1123, 19), (139, 23, 137, 138), (330, 22, 329, 8), (160, 23, 158, 159), (237, 23, 235, 236), (1118, 22, 1117, 18), (1031, 32, 1029, 1030), (1027, 22, 1025, 1026), (56, 28, 54, 55), (65, 31, 63, 1), (76, 25, 75, 0), (73, 24, 71, 72), (69, 23, 67, 68), (60, 31, 58, 59), (52, 22, 50, 0), (87, 28, 85, 86), (698, 30, 696, 697), (94, 22, 93, 0), (98, 31, 96, 97), (91, 22, 90, 2), (694, 22, 692, 693), (228, 23, 226, 227), (300, 29, 299, 6), (296, 29, 294, 295), (1150, 29, 1148, 1149), (1144, 22, 1142, 1143), (391, 22, 390, 0), (1093, 32, 1091, 1092), (1097, 32, 1095, 1096), (83, 30, 81, 82), (111, 23, 109, 110), (114, 23, 113, 0), (118, 23, 116, 117), (135, 23, 133, 134), (131, 30, 129, 3), (144, 23, 142, 143), (690, 30, 688, 689), (107, 30, 105, 106), (735, 23, 733, 734), (731, 23, 729, 730), (727, 30, 725, 726), (706, 30, 704, 705), (163, 22, 162, 0), (156, 30, 154, 155), (180, 23, 178, 179), (176, 30, 174, 175), (191, 27, 190, 0), (188, 30, 186, 187), (255, 27, 254, 0), (714, 30, 712, 713), (214, 23, 212, 213), (209, 23, 207, 208), (232, 26, 230, 231), (223, 26, 221, 222), (219, 26, 217, 218), (247, 27, 245, 4), (242, 27, 240, 241), (753, 27, 751, 752), (743, 30, 741, 742), (1089, 22, 1088, 17), (47, 22, 45, 46), (283, 23, 281, 282), (279, 29, 277, 278), (288, 29, 286, 287), (1186, 29, 1184, 1185), (1191, 29, 1189, 1190), (1177, 22, 1175, 1176), (1110, 26, 1108, 1109), (1207, 35, 1206, 0), (1238, 26, 1236, 1237), (1233, 22, 1231, 1232), (1105, 22, 1103, 1104), (1203, 26, 1202, 20), (1199, 26, 1197, 1198), (1195, 22, 1193, 1194), (1134, 26, 1132, 1133), (1128, 22, 1126, 1127), (686, 22, 684, 685), (205, 22, 203, 204), (1249, 26, 1247, 1248), (1221, 26, 1219, 1220), (1229, 26, 1227, 1228), (1253, 26, 1251, 1252), (1260, 26, 1258, 1259), (1245, 22, 1243, 1244), (184, 22, 182, 183), (172, 22, 170, 171), (1139, 22, 1137, 1138), (274, 29, 272, 5), (306, 29, 305, 7), (269, 29, 267, 268), (265, 22, 263, 264), (1049, 32, 1048, 10), (1054, 32, 1053, 11), (1061, 32, 1060, 0), (1065, 32, 1064, 13), (1058, 32, 1057, 12), (1069, 32, 1068, 14), (1073, 32, 1072, 15), (1077, 32, 1076, 16), (1045, 32, 1044, 9), (1041, 32, 1039, 1040), (1081, 32, 1079, 1080), (1085, 32, 1083, 1084), (404, 31, 402, 403), (1037, 22, 1035, 1036), (420, 31, 418, 419), (416, 22, 414, 415), (103, 22, 101, 102), (412, 31, 410, 411), (408, 22, 406, 407), (710, 22, 708, 709), (388, 22, 386, 387), (1163, 33, 1161, 1162), (1159, 22, 1157, 1158), (723, 22, 721, 722), (1217, 22, 1215, 1216), (1225, 22, 1223, 1224), (152, 22, 150, 151), (315, 33, 313, 314), (341, 33, 339, 340), (1114, 22, 1112, 1113), (310, 22, 308, 309), (1154, 22, 1152, 1153), (739, 22, 737, 738), (400, 31, 398, 399), (396, 22, 394, 395), (259, 27, 257, 258), (251, 22, 249, 250), (702, 22, 700, 701), (1167, 21, 1166, 0), (426, 21, 425, 0), (423, 21, 422, 0), (435, 21, 434, 0), (1173, 21, 1172, 0), (1213, 21, 1212, 0), (762, 36, 761, 0), (759, 37, 758, 0), (866, 38, 864, 865), (862, 38, 860, 861), (802, 36, 801, 1269), (875, 36, 874, 1270), (899, 38, 897, 898), (871, 36, 870, 1271), (794, 36, 793, 0), (791, 37, 789, 790), (911, 35, 910, 0), (832, 36, 829, 831), (914, 35, 913, 0), (908, 36, 907, 0), (905, 37, 903, 904), (947, 36, 944, 946), (955, 36, 949, 0), (953, 37, 952, 0), (965, 41, 964, 0), (962, 41, 961, 0), (959, 41, 958, 0), (941, 38, 940, 0), (938, 38, 937, 0), (933, 37, 931, 932), (1007, 38, 1005, 1006), (1016, 42, 1015, 0), (1013, 38, 1012, 0), (1010, 43, 1009, 0), (1003, 38, 1001, 1002), (998, 21, 997, 0), (719, 21, 718, 0), (432, 21, 431, 0), (1170, 21, 1169, 0), (1101, 21, 1100, 0), (0, 21, 0, 0)]
/-- the classes of the views -/
def ai_vc : List String := ["StoryCoroner$Book", "StoryCoroner$Changes", "StoryCoroner$Counts", "StoryCoroner$History", "StoryCoroner$Inquest", "StoryCoroner$Jury", "StoryCoroner$Line", "StoryCoroner$Refusals", "StoryCoroner$Row", "StoryCoroner$Text", "StoryCoroner", "java/lang/Integer", "java/lang/Math", "java/lang/String", "java/lang/StringBuilder", "java/lang/AbstractStringBuilder", "java/lang/StringLatin1", "java/util/Arrays", "jdk/internal/util/Preconditions", "StoryCoronerLaw"]
/-- calls: a view, a place in the pool: kind (0 virtual, 1 static, 2 special, 3 static among nest mates, 4 special among nest mates, 5 Object, 6 arraycopy, 8 virtual by another name, 9 the superclass's own, 10 clone), callee, place of the word (8, 9: place in ai_vu, ai_vs) -/
def ai_vm : List (List (Nat × (Nat × Nat × Nat))) := [
  [(3, (5, 0, 448)), (11, (2, 1, 451)), (45, (0, 13, 215)), (49, (0, 62, 210)), (53, (0, 82, 211)), (57, (0, 12, 119)), (60, (0, 33, 136)), (64, (0, 17, 336)), (67, (0, 29, 145)), (70, (0, 70, 732)), (74, (0, 35, 238)), (80, (0, 43, 70))],
  [(3, (5, 0, 572)), (33, (0, 47, 84)), (42, (0, 62, 108)), (46, (1, 63, 112)), (49, (0, 64, 115)), (52, (0, 13, 123)), (56, (0, 66, 127)), (60, (0, 67, 141)), (64, (0, 65, 132)), (71, (0, 12, 140)), (76, (0, 71, 728)), (80, (0, 35, 157)), (86, (0, 29, 164)), (95, (0, 25, 165)), (99, (0, 76, 177)), (105, (1, 78, 189)), (110, (1, 80, 715)), (113, (0, 21, 192)), (119, (0, 22, 197)), (122, (0, 83, 744)), (126, (0, 18, 745)), (129, (0, 17, 746)), (132, (0, 85, 747)), (137, (0, 53, 748)), (143, (0, 86, 749)), (147, (0, 89, 750)), (150, (0, 70, 754)), (89, (3, 74, 161))],
  [(3, (5, 0, 558)), (11, (2, 1, 560)), (24, (0, 13, 275)), (30, (0, 93, 280)), (34, (0, 53, 284)), (37, (0, 18, 366)), (45, (0, 17, 289)), (48, (0, 76, 1187)), (54, (0, 12, 301)), (57, (0, 23, 372)), (60, (0, 54, 297)), (64, (0, 15, 354)), (67, (0, 19, 362)), (73, (0, 120, 270)), (76, (0, 29, 302)), (79, (0, 121, 303)), (82, (0, 94, 276)), (85, (0, 95, 285)), (88, (0, 55, 293))],
  [(3, (5, 0, 590)), (29, (0, 41, 61)), (33, (0, 44, 66)), (37, (1, 42, 99)), (43, (0, 136, 401)), (17, (4, 2, 593))],
  [(3, (5, 0, 521)), (21, (0, 12, 233)), (34, (0, 84, 229)), (38, (0, 104, 1200)), (42, (0, 33, 1204)), (45, (0, 99, 1239)), (48, (1, 100, 1240)), (53, (0, 76, 224)), (56, (0, 53, 225)), (59, (0, 85, 220)), (63, (0, 36, 234)), (67, (0, 13, 1254)), (70, (0, 112, 1255)), (73, (0, 113, 1256))],
  [(3, (5, 0, 530)), (21, (0, 12, 196)), (27, (0, 21, 201)), (31, (0, 87, 243)), (35, (0, 88, 260)), (38, (0, 22, 261))],
  [(3, (5, 0, 645)), (11, (2, 1, 647)), (24, (0, 12, 1164)), (28, (0, 29, 324)), (31, (0, 30, 320))],
  [(3, (5, 0, 540))],
  [(1, (5, 0, 454)), (7, (1, 0, 455)), (19, (1, 42, 74)), (22, (6, 0, 77))],
  [(3, (5, 0, 615)), (11, (2, 1, 617)), (30, (0, 29, 1032)), (36, (0, 12, 1050)), (43, (0, 132, 1042)), (47, (0, 125, 1051)), (51, (0, 124, 1046)), (58, (0, 128, 1055)), (61, (0, 129, 1066)), (64, (0, 130, 1070)), (67, (0, 131, 1074)), (70, (1, 126, 1059)), (73, (0, 127, 1062))],
  [(1, (5, 0, 440)), (12, (2, 3, 518)), (17, (2, 4, 527)), (37, (2, 6, 555)), (48, (2, 7, 569)), (57, (2, 8, 587)), (76, (0, 46, 48)), (79, (0, 61, 80)), (83, (0, 51, 88)), (87, (0, 48, 695)), (90, (0, 68, 687)), (94, (0, 69, 104)), (97, (0, 72, 724)), (100, (0, 73, 703)), (103, (0, 75, 153)), (106, (0, 77, 173)), (110, (0, 81, 711)), (113, (0, 79, 185)), (116, (0, 90, 740)), (119, (0, 62, 311)), (123, (0, 13, 1178)), (126, (0, 15, 1179)), (129, (0, 94, 1180)), (132, (0, 19, 1181)), (135, (0, 95, 1182)), (138, (0, 96, 1183)), (141, (0, 97, 1188)), (144, (0, 82, 1129)), (148, (0, 53, 1130)), (151, (0, 17, 337)), (158, (0, 12, 326)), (163, (0, 107, 1131)), (166, (0, 93, 1135)), (169, (0, 35, 1119)), (175, (0, 23, 1145)), (178, (0, 55, 1146)), (181, (0, 56, 1147)), (184, (0, 76, 1140)), (187, (1, 63, 1106)), (190, (0, 99, 1107)), (193, (0, 105, 1196)), (196, (1, 74, 1234)), (199, (0, 101, 1235)), (202, (1, 100, 1241)), (207, (0, 112, 1218)), (210, (0, 113, 1226)), (213, (0, 83, 206)), (217, (0, 86, 216)), (220, (0, 88, 239)), (223, (1, 78, 252)), (226, (1, 80, 253)), (229, (0, 159, 256)), (232, (0, 122, 266)), (235, (0, 151, 312)), (238, (0, 31, 316)), (242, (0, 30, 325)), (248, (0, 34, 327)), (252, (0, 152, 338)), (255, (0, 37, 1115)), (258, (0, 32, 1121)), (261, (0, 21, 1155)), (267, (0, 145, 1160)), (270, (0, 38, 1028)), (272, (0, 26, 377)), (273, (0, 133, 1038)), (276, (0, 134, 1078)), (277, (0, 45, 57)), (280, (0, 135, 1082)), (283, (0, 40, 53)), (286, (0, 91, 1086)), (289, (1, 49, 92)), (292, (0, 136, 1098)), (295, (0, 50, 95)), (308, (0, 14, 346)), (311, (0, 16, 350)), (314, (0, 20, 358)), (317, (0, 22, 367)), (323, (0, 24, 368)), (326, (0, 25, 376)), (329, (0, 27, 381)), (330, (0, 111, 1246)), (334, (0, 114, 1250)), (337, (0, 115, 1257)), (340, (1, 58, 389)), (344, (0, 157, 397)), (348, (0, 141, 409)), (351, (0, 138, 417)), (354, (0, 59, 1090)), (357, (0, 60, 1094)), (360, (0, 33, 331)), (363, (0, 18, 332)), (366, (0, 36, 1120)), (9, (4, 2, 445)), (20, (4, 5, 537)), (64, (4, 9, 612)), (71, (4, 10, 642))],
  [],
  [],
  [(1, (5, 0, 942)), (54, (1, 188, 957)), (212, (6, 0, 900)), (335, (0, 170, 863)), (489, (2, 189, 939)), (492, (0, 192, 1004)), (495, (1, 195, 1008)), (549, (8, 185, 0)), (552, (8, 183, 1)), (1047, (8, 179, 2)), (1059, (1, 193, 1014))],
  [(1, (2, 168, 760)), (29, (9, 176, 0)), (53, (9, 181, 1)), (137, (2, 190, 936)), (343, (9, 184, 2))],
  [(3, (5, 0, 763)), (32, (0, 171, 859)), (40, (0, 170, 876)), (83, (8, 179, 3)), (100, (8, 172, 4)), (208, (8, 175, 5)), (245, (1, 178, 909)), (248, (1, 180, 912)), (397, (8, 173, 6)), (399, (0, 174, 896))],
  [(9, (1, 194, 1011))],
  [(150, (6, 0, 827)), (304, (1, 42, 826)), (310, (10, 0, 819)), (339, (1, 187, 960)), (343, (1, 186, 963))],
  [],
  [(9, (1, 163, 424)), (16, (0, 171, 999)), (22, (0, 196, 1000)), (26, (0, 39, 1024)), (33, (0, 137, 1034)), (36, (2, 11, 437)), (37, (1, 164, 421)), (41, (0, 92, 44)), (44, (0, 109, 683)), (48, (0, 140, 100)), (51, (0, 52, 691)), (54, (0, 150, 149)), (57, (0, 161, 699)), (60, (0, 118, 169)), (64, (0, 143, 707)), (68, (0, 147, 720)), (71, (0, 117, 181)), (74, (0, 156, 736)), (79, (2, 169, 757)), (82, (0, 177, 788)), (85, (0, 182, 902)), (94, (0, 191, 930)), (110, (1, 197, 996)), (114, (0, 28, 342)), (117, (0, 103, 1102)), (120, (0, 153, 1111)), (123, (0, 108, 1125)), (126, (0, 119, 1136)), (129, (0, 57, 1141)), (132, (0, 155, 1151)), (135, (0, 146, 1156)), (138, (0, 98, 1174)), (141, (1, 166, 1171)), (145, (0, 106, 1192)), (148, (1, 100, 1205)), (153, (1, 167, 1211)), (157, (0, 148, 1214)), (160, (0, 149, 1222)), (163, (0, 102, 1230)), (166, (0, 116, 1242)), (169, (1, 165, 433)), (173, (1, 200, 1168)), (176, (1, 201, 1099)), (180, (1, 198, 717)), (184, (1, 199, 430)), (188, (1, 162, 1165)), (192, (0, 158, 393)), (195, (0, 142, 405)), (198, (0, 110, 202)), (201, (0, 160, 248)), (205, (0, 123, 262)), (208, (0, 154, 307)), (211, (0, 144, 385)), (214, (0, 139, 413))]]
/-- virtual by another name: the method that is named, places of the words link, sameMethod, selects -/
def ai_vu : List (Nat × Nat × Nat × Nat) := [(184, 948, 950, 951), (183, 943, 945, 946), (179, 956, 830, 831), (179, 828, 830, 831), (172, 799, 1263, 1269), (175, 868, 1265, 1271), (173, 872, 1266, 1270)]
/-- the superclass's own: places of the words link, sameMethod, superclass -/
def ai_vs : List (Nat × Nat × Nat) := [(792, 1261, 785), (906, 1268, 785), (954, 950, 785)]
/-- fields: class, slot, place of the word -/
def ai_vf : List (List (Nat × (Nat × Nat × Nat))) := [
  [(14, (0, 3, 475)), (20, (0, 4, 479)), (23, (0, 5, 481)), (26, (0, 6, 482)), (29, (0, 7, 486)), (32, (0, 8, 489)), (35, (0, 9, 491)), (38, (0, 0, 464)), (42, (0, 1, 469)), (77, (0, 2, 473))],
  [(9, (1, 0, 573)), (15, (1, 1, 574)), (19, (1, 2, 575)), (23, (1, 3, 576)), (27, (0, 0, 463)), (39, (0, 1, 468)), (67, (0, 3, 477)), (83, (0, 6, 484)), (92, (0, 7, 487)), (102, (0, 8, 490)), (116, (0, 9, 493)), (140, (0, 2, 472))],
  [(14, (2, 1, 562)), (20, (2, 0, 561)), (41, (0, 0, 466)), (51, (0, 6, 483)), (70, (0, 1, 470))],
  [(11, (3, 0, 594)), (18, (3, 1, 595)), (22, (3, 3, 597)), (26, (3, 2, 596)), (46, (3, 4, 598))],
  [(9, (4, 0, 522)), (15, (0, 3, 476)), (27, (0, 4, 480)), (30, (0, 0, 465))],
  [(9, (5, 0, 531)), (15, (0, 9, 492))],
  [(14, (6, 0, 648)), (20, (6, 1, 649))],
  [(9, (7, 0, 541)), (15, (7, 1, 542)), (18, (7, 2, 543)), (21, (7, 3, 544))],
  [(13, (8, 0, 458))],
  [(14, (9, 0, 618)), (20, (9, 1, 619)), (23, (9, 2, 620)), (26, (9, 3, 621)), (33, (9, 4, 622)), (40, (9, 5, 623)), (55, (9, 6, 624))],
  [(21, (10, 0, 655)), (27, (10, 1, 656)), (31, (10, 2, 657)), (38, (10, 3, 658)), (42, (10, 4, 659)), (51, (10, 5, 660)), (58, (10, 6, 661)), (65, (10, 7, 662)), (72, (10, 8, 663)), (154, (0, 6, 485)), (172, (0, 7, 488)), (245, (0, 3, 478)), (264, (0, 9, 494)), (301, (0, 0, 467)), (305, (0, 1, 471)), (320, (0, 2, 474))],
  [],
  [],
  [(9, (12, 0, 979)), (15, (12, 1, 980)), (1048, (11, 2, 775))],
  [],
  [(15, (11, 0, 773)), (22, (11, 1, 774)), (79, (11, 3, 776))],
  [],
  [],
  [],
  []]
/-- statics: which (0 COMPACT_STRINGS, 1 DigitOnes, 2 DigitTens, 3 SIOOBE_FORMATTER), place of the word -/
def ai_vg : List (List (Nat × (Nat × Nat))) := [
  [],
  [],
  [],
  [],
  [],
  [],
  [],
  [],
  [],
  [],
  [],
  [(83, (1, 915)), (87, (2, 917))],
  [],
  [(38, (0, 867)), (1053, (3, 845))],
  [],
  [(18, (0, 764))],
  [],
  [],
  [],
  []]
/-- new: class, places of the words -/
def ai_vn : List (List (Nat × (Nat × Nat × Nat × Nat))) := [
  [(9, (8, 449, 450, 24))],
  [],
  [(9, (8, 559, 450, 24))],
  [(9, (0, 591, 444, 23))],
  [],
  [],
  [(9, (8, 646, 450, 24))],
  [],
  [],
  [(9, (8, 616, 450, 24))],
  [(7, (0, 443, 444, 23)), (10, (4, 516, 517, 26)), (15, (5, 526, 246, 27)), (18, (7, 535, 536, 28)), (35, (2, 554, 273, 29)), (46, (1, 568, 130, 30)), (55, (3, 586, 64, 31)), (62, (9, 610, 611, 32)), (69, (6, 640, 641, 33))],
  [],
  [],
  [],
  [(18, (12, 934, 935, 38))],
  [],
  [],
  [],
  [],
  [(27, (10, 436, 51, 22)), (77, (11, 755, 756, 37))]]
/-- constants -/
def ai_vk : List (List (Nat × ((Int32 ⊕ UInt32) × Nat))) := [
  [],
  [],
  [],
  [],
  [],
  [],
  [],
  [],
  [],
  [],
  [(369, (.inr 1258291200, 392))],
  [(265, (.inl (1431655765), 1208)), (266, (.inl (858993459), 1209)), (267, (.inl (252645135), 1210))],
  [],
  [],
  [],
  [(39, (.inl (2147483647), 815))],
  [],
  [],
  [],
  [(7, (.inl (69069), 427)), (8, (.inl (1103515245), 428)), (15, (.inl (2147483647), 429)), (32, (.inl (-99999), 1033)), (67, (.inl (-90000), 716))]]
/-- texts: which -/
def ai_vt : List (List (Nat × Nat)) := [
  [],
  [],
  [],
  [],
  [],
  [],
  [],
  [],
  [],
  [],
  [],
  [],
  [],
  [],
  [],
  [],
  [],
  [],
  [],
  [(80, 0), (88, 1), (90, 2), (92, 3), (98, 4), (100, 5), (102, 6), (104, 7), (106, 8), (108, 9)]]
/-- the texts, by their places in the law's pool -/
def ai_tx : List (Nat × String × List Int32) := [(80, "m", [109]), (88, "=", [61]), (90, ";t", [59, 116]), (92, "0", [48]), (98, ";x", [59, 120]), (100, ";d", [59, 100]), (102, "@", [64]), (104, ";w", [59, 119]), (106, ";j", [59, 106]), (108, "-", [45])]
/-- private methods that a StringBuilder inherits -/
def ai_pv : List MethodName := [⟨"java/lang/AbstractStringBuilder", "ensureCapacityInternal", "(I)V"⟩, ⟨"java/lang/AbstractStringBuilder", "inflateIfNeededFor", "(Ljava/lang/String;)V"⟩, ⟨"java/lang/AbstractStringBuilder", "putStringAt", "(ILjava/lang/String;)V"⟩]
def ai_w_arri : Nat := 462
def ai_w_arrb : Nat := 786
def ai_w_arro : Nat := 592
def ai_w_ncopy : Nat := 79
def ai_w_nclone : Nat := 821
def ai_w_obji : Nat := 441
def ai_w_objc : Nat := 442
def ai_w_syss : Nat := 78
def ai_w_sysi : Nat := 34
def ai_w_clsame : Nat := 820
def ai_w_clinst : Nat := 822
def ai_w_clsel : Nat := 823
def ai_w_clcast : Nat := 824
def ai_w_clcl : Nat := 825
def ai_pvw : List (Nat × Nat) := [(800, 801), (873, 874), (869, 870)]
def ai_w_sbi : Nat := 756
end
section
/-! The tables: every row that the plain machine looks up has its word in the Statement. -/
def ai_find {β : Type} : List (Nat × β) → Nat → Option β
  | [], _ => none
  | (k, v) :: l, c => if k = c then some v else ai_find l c
def ai_lk {β : Type} (t : List (List (Nat × β))) (v cp : Nat) : Option β := match t[v]? with
  | some l => ai_find l cp
  | none => none
def ai_m (y : Nat) : ai_MI := (ai_mt[y]?).getD (⟨"", "", ""⟩, ⟨#[]⟩, 0, none, 0, 0, 0, 0, 0, 0)
def ai_name (y : Nat) : MethodName := (ai_m y).1
def ai_code (y : Nat) : ByteArray := (ai_m y).2.1
def ai_L (y : Nat) : Nat := (ai_m y).2.2.1
def ai_ret (y : Nat) : Option FieldType := (ai_m y).2.2.2.1
def ai_n (y : Nat) : Nat := (ai_m y).2.2.2.2.1
def ai_kind (y : Nat) : Nat := (ai_m y).2.2.2.2.2.1
def ai_ci (y : Nat) : Nat := (ai_m y).2.2.2.2.2.2.1
def ai_view (y : Nat) : Nat := (ai_m y).2.2.2.2.2.2.2.1
def ai_fr (y : Nat) : Nat := (ai_m y).2.2.2.2.2.2.2.2.1
def ai_lo (y : Nat) : Nat := (ai_m y).2.2.2.2.2.2.2.2.2
theorem ai_find_mem {β : Type} {l : List (Nat × β)} {c : Nat} {v : β} (h : ai_find l c = some v) : (c, v) ∈ l := by
  induction l with
  | nil => cases h
  | cons a l ih =>
    obtain ⟨k, w⟩ := a
    unfold ai_find at h
    by_cases hk : k = c
    · rw [if_pos hk] at h
      cases h
      subst hk
      exact List.mem_cons_self
    · rw [if_neg hk] at h
      exact List.mem_cons_of_mem _ (ih h)
theorem ai_lk_mem {β : Type} {t : List (List (Nat × β))} {v c : Nat} {r : β} (h : ai_lk t v c = some r) : ∃ l, t[v]? = some l ∧ (c, r) ∈ l := by
  unfold ai_lk at h
  split at h
  · rename_i l hl
    exact ⟨l, hl, ai_find_mem h⟩
  · cases h
-- the words: those of the tables, and that a StringBuilder selects the private methods that it inherits
def ai_xs : List Cond := ai_pv.map fun m => Cond.selects "java/lang/StringBuilder" m m
def ai_tbl : List Cond := lw_tbl ++ ai_xs
theorem ai_selp {C : String} {y y0 : MethodName} {s : State} {args : Array Value} {n : Nat} (h0 : (Cond.selects C y0 y0).before args s = true) (hy0 : y0.cls = y.cls) (hy : y.cls ≠ "java/lang/invoke/MethodHandle" ∧ y.cls ≠ "java/lang/invoke/VarHandle") (hins : (Cond.instantiable C n).before args s = true) (hpriv : (Cond.privateMethod y).before args s = true) (hinst : (Cond.instanceMethod y).before args s = true) : (Cond.selects C y y).before args s = true := by
  obtain ⟨c, k, hc, hk, -, hniab, -, -⟩ := Cond.instantiable_spec hins
  have hni : k.isInterface = false := (Bool.or_eq_false_iff.mp hniab).1
  obtain ⟨mk, methM, hnamed, hmethM, -, -⟩ := Cond.instanceMethod_spec hinst
  have hfound : s.methodFound? y.cls y.name y.desc = some mk := State.methodFound?_of_named hnamed hy
  have hsel : selectMethod {} s.vm c mk = .method mk := selectMethod_private hmethM (Cond.privateMethod_at hpriv mk methM hnamed hmethM)
  obtain ⟨c2, r2, m2, q1, q2, q3, q4, kP, hkP, hkPi⟩ := Cond.selects_spec h0
  have e1 : m2.cls = mk.cls := Option.some.inj ((findClass_of_methodNamed q3).symm.trans (by rw [hy0]; exact findClass_of_methodNamed hnamed))
  rw [e1] at hkP
  simp only [Cond.before, Cond.holds, Cond.value, hc, hfound, hnamed, hsel, hk, hkP]
  simp [hkPi]
theorem ai_pv_ok : (List.range ai_pv.length).all (fun i => match ai_pv[i]?, ai_pvw[i]? with
  | some m, some w => decide (m.cls ≠ "java/lang/invoke/MethodHandle" ∧ m.cls ≠ "java/lang/invoke/VarHandle") && decide (m.cls = "java/lang/AbstractStringBuilder") && decide (lw_tbl[w.1]? = some (.privateMethod m)) && decide (lw_tbl[w.2]? = some (.instanceMethod m))
  | _, _ => false) = true := by decide +kernel
theorem ai_sbi_ok : lw_tbl[ai_w_sbi]? = some (.instantiable "java/lang/StringBuilder" 4) := by decide +kernel
theorem ai_sb0_ok : Cond.selects "java/lang/StringBuilder" ⟨"java/lang/AbstractStringBuilder", "isLatin1", "()Z"⟩ ⟨"java/lang/AbstractStringBuilder", "isLatin1", "()Z"⟩ ∈ lw_tbl := by decide +kernel
theorem ai_tbl_ok {args : Array Value} {s : State} (h : ∀ w ∈ lw_tbl, w.before args s = true) : ∀ w ∈ ai_tbl, w.before args s = true := by
  intro w hw
  rcases List.mem_append.mp hw with hw | hw
  · exact h w hw
  · obtain ⟨m, hm, rfl⟩ := List.mem_map.mp hw
    obtain ⟨i, hi⟩ := List.getElem?_of_mem hm
    have hl : i < ai_pv.length := (List.getElem?_eq_some_iff.mp hi).1
    have h1 := List.all_eq_true.mp ai_pv_ok i (List.mem_range.mpr hl)
    rw [hi] at h1
    split at h1
    · rename_i m2 w e1 e2
      cases e1
      simp only [Bool.and_eq_true, decide_eq_true_eq] at h1
      exact ai_selp (h _ ai_sb0_ok) h1.1.1.2.symm h1.1.1.1 (h _ (List.mem_of_getElem? ai_sbi_ok)) (h _ (List.mem_of_getElem? h1.1.2)) (h _ (List.mem_of_getElem? h1.2))
    · cases h1
def ai_T : List Cond := ai_tbl.filter goodWord
def ai_has (i : Nat) (w : Cond) : Bool := (match ai_tbl[i]? with
  | some v => decide (v = w)
  | none => false) && goodWord w
theorem ai_has_in {i : Nat} {w : Cond} (h : ai_has i w = true) : w ∈ ai_T := by
  unfold ai_has at h
  rw [Bool.and_eq_true] at h
  refine List.mem_filter.mpr ⟨?_, h.2⟩
  have h1 := h.1
  split at h1
  · rename_i v hv
    rw [decide_eq_true_eq] at h1
    subst h1
    exact List.mem_of_getElem? hv
  · cases h1
theorem ai_T_in : ∀ w ∈ ai_T, w ∈ ai_tbl := fun w h => (List.mem_filter.mp h).1
theorem ai_T_good : ∀ w ∈ ai_T, goodWord w = true := fun w h => (List.mem_filter.mp h).2
def ai_okm (y : Nat) : Bool := match ai_mt[y]?, ai_mw[y]? with
  | some q, some (_, b, c, _) => ai_has b (.initialized q.1.cls) && decide (q.1.cls ≠ "java/lang/invoke/MethodHandle") && decide (q.1.cls ≠ "java/lang/invoke/VarHandle") && plainFor q.1 && decide ((parseMethodDescriptor q.1.desc).map (fun d => d.parameters.length) = some q.2.2.2.2.1) && decide (q.2.2.1 ≤ 30)
    && (if q.2.2.2.2.2.1 = 0 then ai_has c (.static q.1) else ai_has c (.instanceMethod q.1) && ((vwCl[q.2.2.2.2.2.2.1]?).isSome) && (if q.2.2.2.2.2.1 = 1 then decide (q.1.name ≠ "<init>") else decide (q.1.name = "<init>") && decide (q.2.2.2.1 = none)))
  | _, _ => false
theorem ai_okm_all : (List.range 202).all ai_okm = true := by decide +kernel
theorem ai_okv_all : (List.range 203).all (fun y => match ai_mt[y]? with | some q => decide (ai_vc[q.2.2.2.2.2.2.2.1]? = some q.1.cls) | none => false) = true := by decide +kernel
def ai_okd (y : Nat) : Bool := match ai_mt[y]?, ai_mw[y]? with
  | some q, some w => ai_has w.1 (.code q.1 q.2.1 q.2.2.1 q.2.2.2.1)
  | _, _ => false
end
section
/-! Every method's code has its word. -/
theorem ai_okd_0 : ((List.range 6).map (0 + ·)).all ai_okd = true := by decide +kernel
theorem ai_okd_1 : ((List.range 6).map (6 + ·)).all ai_okd = true := by decide +kernel
theorem ai_okd_2 : ((List.range 6).map (12 + ·)).all ai_okd = true := by decide +kernel
theorem ai_okd_3 : ((List.range 6).map (18 + ·)).all ai_okd = true := by decide +kernel
theorem ai_okd_4 : ((List.range 6).map (24 + ·)).all ai_okd = true := by decide +kernel
theorem ai_okd_5 : ((List.range 6).map (30 + ·)).all ai_okd = true := by decide +kernel
theorem ai_okd_6 : ((List.range 6).map (36 + ·)).all ai_okd = true := by decide +kernel
theorem ai_okd_7 : ((List.range 6).map (42 + ·)).all ai_okd = true := by decide +kernel
theorem ai_okd_8 : ((List.range 6).map (48 + ·)).all ai_okd = true := by decide +kernel
theorem ai_okd_9 : ((List.range 6).map (54 + ·)).all ai_okd = true := by decide +kernel
theorem ai_okd_10 : ((List.range 6).map (60 + ·)).all ai_okd = true := by decide +kernel
theorem ai_okd_11 : ((List.range 6).map (66 + ·)).all ai_okd = true := by decide +kernel
theorem ai_okd_12 : ((List.range 6).map (72 + ·)).all ai_okd = true := by decide +kernel
theorem ai_okd_13 : ((List.range 6).map (78 + ·)).all ai_okd = true := by decide +kernel
theorem ai_okd_14 : ((List.range 6).map (84 + ·)).all ai_okd = true := by decide +kernel
theorem ai_okd_15 : ((List.range 6).map (90 + ·)).all ai_okd = true := by decide +kernel
end
section
/-! Every method's code has its word. -/
theorem ai_okd_16 : ((List.range 6).map (96 + ·)).all ai_okd = true := by decide +kernel
theorem ai_okd_17 : ((List.range 6).map (102 + ·)).all ai_okd = true := by decide +kernel
theorem ai_okd_18 : ((List.range 6).map (108 + ·)).all ai_okd = true := by decide +kernel
theorem ai_okd_19 : ((List.range 6).map (114 + ·)).all ai_okd = true := by decide +kernel
theorem ai_okd_20 : ((List.range 6).map (120 + ·)).all ai_okd = true := by decide +kernel
theorem ai_okd_21 : ((List.range 6).map (126 + ·)).all ai_okd = true := by decide +kernel
theorem ai_okd_22 : ((List.range 6).map (132 + ·)).all ai_okd = true := by decide +kernel
theorem ai_okd_23 : ((List.range 6).map (138 + ·)).all ai_okd = true := by decide +kernel
theorem ai_okd_24 : ((List.range 6).map (144 + ·)).all ai_okd = true := by decide +kernel
theorem ai_okd_25 : ((List.range 6).map (150 + ·)).all ai_okd = true := by decide +kernel
theorem ai_okd_26 : ((List.range 6).map (156 + ·)).all ai_okd = true := by decide +kernel
theorem ai_okd_27 : ((List.range 6).map (162 + ·)).all ai_okd = true := by decide +kernel
theorem ai_okd_28 : ((List.range 6).map (168 + ·)).all ai_okd = true := by decide +kernel
theorem ai_okd_29 : ((List.range 6).map (174 + ·)).all ai_okd = true := by decide +kernel
theorem ai_okd_30 : ((List.range 6).map (180 + ·)).all ai_okd = true := by decide +kernel
theorem ai_okd_31 : ((List.range 6).map (186 + ·)).all ai_okd = true := by decide +kernel
theorem ai_okd_32 : ((List.range 6).map (192 + ·)).all ai_okd = true := by decide +kernel
theorem ai_okd_all (y : Nat) (h : y < 198) : ai_okd y = true := by
  have key : ∀ k c, ((List.range c).map (k + ·)).all ai_okd = true → k ≤ y → y < k + c → ai_okd y = true := by
    intro k c hk h1 h2
    refine List.all_eq_true.mp hk y (List.mem_map.mpr ⟨y - k, List.mem_range.mpr (by omega), by omega⟩)
  by_cases h0 : y < 6
  · exact key 0 6 ai_okd_0 (by omega) (by omega)
  by_cases h1 : y < 12
  · exact key 6 6 ai_okd_1 (by omega) (by omega)
  by_cases h2 : y < 18
  · exact key 12 6 ai_okd_2 (by omega) (by omega)
  by_cases h3 : y < 24
  · exact key 18 6 ai_okd_3 (by omega) (by omega)
  by_cases h4 : y < 30
  · exact key 24 6 ai_okd_4 (by omega) (by omega)
  by_cases h5 : y < 36
  · exact key 30 6 ai_okd_5 (by omega) (by omega)
  by_cases h6 : y < 42
  · exact key 36 6 ai_okd_6 (by omega) (by omega)
  by_cases h7 : y < 48
  · exact key 42 6 ai_okd_7 (by omega) (by omega)
  by_cases h8 : y < 54
  · exact key 48 6 ai_okd_8 (by omega) (by omega)
  by_cases h9 : y < 60
  · exact key 54 6 ai_okd_9 (by omega) (by omega)
  by_cases h10 : y < 66
  · exact key 60 6 ai_okd_10 (by omega) (by omega)
  by_cases h11 : y < 72
  · exact key 66 6 ai_okd_11 (by omega) (by omega)
  by_cases h12 : y < 78
  · exact key 72 6 ai_okd_12 (by omega) (by omega)
  by_cases h13 : y < 84
  · exact key 78 6 ai_okd_13 (by omega) (by omega)
  by_cases h14 : y < 90
  · exact key 84 6 ai_okd_14 (by omega) (by omega)
  by_cases h15 : y < 96
  · exact key 90 6 ai_okd_15 (by omega) (by omega)
  by_cases h16 : y < 102
  · exact key 96 6 ai_okd_16 (by omega) (by omega)
  by_cases h17 : y < 108
  · exact key 102 6 ai_okd_17 (by omega) (by omega)
  by_cases h18 : y < 114
  · exact key 108 6 ai_okd_18 (by omega) (by omega)
  by_cases h19 : y < 120
  · exact key 114 6 ai_okd_19 (by omega) (by omega)
  by_cases h20 : y < 126
  · exact key 120 6 ai_okd_20 (by omega) (by omega)
  by_cases h21 : y < 132
  · exact key 126 6 ai_okd_21 (by omega) (by omega)
  by_cases h22 : y < 138
  · exact key 132 6 ai_okd_22 (by omega) (by omega)
  by_cases h23 : y < 144
  · exact key 138 6 ai_okd_23 (by omega) (by omega)
  by_cases h24 : y < 150
  · exact key 144 6 ai_okd_24 (by omega) (by omega)
  by_cases h25 : y < 156
  · exact key 150 6 ai_okd_25 (by omega) (by omega)
  by_cases h26 : y < 162
  · exact key 156 6 ai_okd_26 (by omega) (by omega)
  by_cases h27 : y < 168
  · exact key 162 6 ai_okd_27 (by omega) (by omega)
  by_cases h28 : y < 174
  · exact key 168 6 ai_okd_28 (by omega) (by omega)
  by_cases h29 : y < 180
  · exact key 174 6 ai_okd_29 (by omega) (by omega)
  by_cases h30 : y < 186
  · exact key 180 6 ai_okd_30 (by omega) (by omega)
  by_cases h31 : y < 192
  · exact key 186 6 ai_okd_31 (by omega) (by omega)
  by_cases h32 : y < 198
  · exact key 192 6 ai_okd_32 (by omega) (by omega)
  omega
theorem ai_has_of {i : Nat} {w : Cond} (h : ai_tbl[i]? = some w) (g : goodWord w = true) : ai_has i w = true := by
  unfold ai_has
  rw [h]
  simp [g]
set_option maxRecDepth 100000 in
theorem ai_big_198 : Cond.code (ai_name 198) (ai_code 198) (ai_L 198) (ai_ret 198) ∈ ai_T := ai_has_in (ai_has_of (i := 719) rfl rfl)
set_option maxRecDepth 100000 in
theorem ai_big_199 : Cond.code (ai_name 199) (ai_code 199) (ai_L 199) (ai_ret 199) ∈ ai_T := ai_has_in (ai_has_of (i := 432) rfl rfl)
set_option maxRecDepth 100000 in
theorem ai_big_200 : Cond.code (ai_name 200) (ai_code 200) (ai_L 200) (ai_ret 200) ∈ ai_T := ai_has_in (ai_has_of (i := 1170) rfl rfl)
set_option maxRecDepth 100000 in
theorem ai_big_201 : Cond.code (ai_name 201) (ai_code 201) (ai_L 201) (ai_ret 201) ∈ ai_T := ai_has_in (ai_has_of (i := 1101) rfl rfl)
theorem ai_big (y : Nat) (h1 : 198 ≤ y) (h2 : y < 202) : Cond.code (ai_name y) (ai_code y) (ai_L y) (ai_ret y) ∈ ai_T := by
  rcases (show y = 198 ∨ y = 199 ∨ y = 200 ∨ y = 201 by omega) with rfl | rfl | rfl | rfl
  · exact ai_big_198
  · exact ai_big_199
  · exact ai_big_200
  · exact ai_big_201
end
section
/-! The links. -/
def ai_nest : List (String × Nat × MethodName) := (List.range ai_vm.length).flatMap fun v => match ai_vm[v]?, ai_vc[v]? with
  | some l, some own => (l.filter fun e => decide (e.2.1 = 3 ∨ e.2.1 = 4)).map fun e => (own, e.1, ai_name e.2.2.1)
  | _, _ => []
theorem ai_nest_ok : ai_nest.all (fun e => decide (Cond.methodLinkNest e.1 e.2.1 e.2.2 "StoryCoroner" ∈ lw_tbl)) = true := by decide +kernel
def ai_cn (ci : Nat) : String := ((vwCl[ci]?).map fun r => r.1).getD ""
def ai_mn (y : Nat) : Nat × Nat × Nat × Nat := (ai_mw[y]?).getD (0, 0, 0, 0)
def ai_okl (v : Nat) (e : Nat × (Nat × Nat × Nat)) : Bool := match ai_vc[v]? with
  | some own => match e with
    | (cp, 0, y, i) => ai_has i (.methodLink own cp (ai_name y)) && decide (ai_kind y = 1) && ai_has (ai_mn y).2.2.2 (.selects (ai_name y).cls (ai_name y) (ai_name y)) && decide (ai_cn (ai_ci y) = (ai_name y).cls) && decide (y < 202)
    | (cp, 1, y, i) => ai_has i (.methodLink own cp (ai_name y)) && decide (ai_kind y = 0) && decide (y < 202)
    | (cp, 2, y, i) => ai_has i (.methodLink own cp (ai_name y)) && decide (ai_kind y = 2) && decide (y < 202)
    | (cp, 3, y, _) => decide ((own, cp, ai_name y) ∈ ai_nest) && decide (ai_kind y = 0) && decide (y < 202)
    | (cp, 4, y, _) => decide ((own, cp, ai_name y) ∈ ai_nest) && decide (ai_kind y = 2) && decide (y < 202)
    | (cp, 5, _, i) => ai_has i (.methodLink own cp Lib.objectInit)
    | (cp, 6, _, i) => ai_has i (.methodLink own cp arraycopyName)
    | (cp, 8, y, k) => match ai_vu[k]? with
      | some (x, wl, ws, we) => ai_has wl (.methodLink own cp (ai_name x)) && ai_has ws (.sameMethod (ai_name x).cls (ai_name x).cls (ai_name x).name (ai_name x).desc) && ai_has we (.selects (ai_cn (ai_ci y)) (ai_name x) (ai_name y)) && decide (ai_kind y = 1) && decide (ai_kind x = 1) && decide (x < 202) && decide (y < 202) && decide ((ai_n x) = ai_n y)
      | none => false
    | (cp, 9, y, k) => match ai_vs[k]? with
      | some (wl, ws, wu) => ai_has wl (.methodLink own cp (ai_name y)) && ai_has ws (.sameMethod (ai_name y).cls (ai_name y).cls (ai_name y).name (ai_name y).desc) && ai_has wu (.superclass own (ai_name y).cls) && decide (ai_kind y = 1) && decide (y < 202)
      | none => false
    | (cp, 10, _, i) => ai_has i (.methodLink own cp ⟨"[B", "clone", "()Ljava/lang/Object;"⟩)
    | _ => false
  | none => false
theorem ai_okl_all : (List.range ai_vm.length).all (fun v => match ai_vm[v]? with | some l => l.all (ai_okl v) | none => true) = true := by decide +kernel
def ai_okf (v : Nat) (e : Nat × (Nat × Nat × Nat)) : Bool := match ai_vc[v]?, vwCl[e.2.1]? with
  | some own, some r => decide (e.2.2.1 < r.2.2) && ai_has e.2.2.2 (.fieldLink own e.1 (r.2.1 e.2.2.1).1 (r.2.1 e.2.2.1).2.1 (r.2.1 e.2.2.1).2.2.1) && (!(r.2.1 e.2.2.1).2.2.2 || decide ((r.2.1 e.2.2.1).1 = r.1))
  | _, _ => false
theorem ai_okf_all : (List.range ai_vf.length).all (fun v => match ai_vf[v]? with | some l => l.all (ai_okf v) | none => true) = true := by decide +kernel
/-- the statics: class, name, descriptor -/
def ai_gs : List (String × String × String) := [("java/lang/String", "COMPACT_STRINGS", "Z"), ("java/lang/Integer", "DigitOnes", "[B"), ("java/lang/Integer", "DigitTens", "[B"), ("jdk/internal/util/Preconditions", "SIOOBE_FORMATTER", "Ljava/util/function/BiFunction;")]
def ai_okg (v : Nat) (e : Nat × (Nat × Nat)) : Bool := match ai_vc[v]?, ai_gs[e.2.1]? with
  | some own, some r => ai_has e.2.2 (.fieldLink own e.1 r.1 r.2.1 r.2.2)
  | _, _ => false
theorem ai_okg_all : (List.range ai_vg.length).all (fun v => match ai_vg[v]? with | some l => l.all (ai_okg v) | none => true) = true := by decide +kernel
def ai_okt (v : Nat) (e : Nat × Nat) : Bool := match ai_vc[v]?, ai_tx[e.2]? with
  | some own, some r => decide (own = "StoryCoronerLaw") && decide (r.1 = e.1)
  | _, _ => false
theorem ai_okt_all : (List.range ai_vt.length).all (fun v => match ai_vt[v]? with | some l => l.all (ai_okt v) | none => true) = true := by decide +kernel
def ai_okn (v : Nat) (e : Nat × (Nat × Nat × Nat × Nat)) : Bool := match ai_vc[v]?, vwCl[e.2.1]? with
  | some own, some r => ai_has e.2.2.1 (.classLink own e.1 r.1) && ai_has e.2.2.2.1 (.instantiable r.1 r.2.2) && ai_has e.2.2.2.2 (.initialized r.1)
  | _, _ => false
theorem ai_okn_all : (List.range ai_vn.length).all (fun v => match ai_vn[v]? with | some l => l.all (ai_okn v) | none => true) = true := by decide +kernel
def ai_okk (v : Nat) (e : Nat × ((Int32 ⊕ UInt32) × Nat)) : Bool := match ai_vc[v]? with
  | some own => match e.2.1 with
    | .inl x => ai_has e.2.2 (.constant own e.1 x)
    | .inr x => ai_has e.2.2 (.constantFloat own e.1 x)
  | none => false
theorem ai_okk_all : (List.range ai_vk.length).all (fun v => match ai_vk[v]? with | some l => l.all (ai_okk v) | none => true) = true := by decide +kernel
def ai_okc (r : vw_C) : Bool := (u_ws r.1 r.2.1 r.2.2).all (fun w => decide (w ∈ lw_tbl) && goodWord w) && (List.range r.2.2).all (fun a => (parseFieldDescriptor (r.2.1 a).2.2.1).isSome && (List.range r.2.2).all (fun b => decide (a = b) || decide ((r.2.1 a).2.1 ≠ (r.2.1 b).2.1)))
theorem ai_okc_all : vwCl.all ai_okc = true := by decide +kernel
theorem ai_wao : Cond.arrayOver (.object RX0) ∈ lw_tbl := List.mem_of_getElem? (i := ai_w_arro) (by decide +kernel)
theorem ai_wp_ok : ai_has ai_w_arri (.arrayClass .int) = true ∧ ai_has ai_w_ncopy (.native arraycopyName) = true ∧ ai_has ai_w_arrb (.arrayClass .byte) = true := by decide +kernel
theorem ai_wo_ok : ai_has ai_w_obji (.instanceMethod Lib.objectInit) = true ∧ ai_has ai_w_objc (.code Lib.objectInit ⟨#[0xb1]⟩ 1 none) = true ∧ ai_has ai_w_syss (.static arraycopyName) = true ∧ ai_has ai_w_sysi (.initialized "java/lang/System") = true := by decide +kernel
theorem ai_wc_ok : ai_has ai_w_clsame (.sameMethod "[B" "java/lang/Object" "clone" "()Ljava/lang/Object;") = true ∧ ai_has ai_w_nclone (.native ⟨"java/lang/Object", "clone", "()Ljava/lang/Object;"⟩) = true ∧ ai_has ai_w_clinst (.instanceMethod ⟨"java/lang/Object", "clone", "()Ljava/lang/Object;"⟩) = true ∧ ai_has ai_w_clsel (.selects "[B" ⟨"[B", "clone", "()Ljava/lang/Object;"⟩ ⟨"java/lang/Object", "clone", "()Ljava/lang/Object;"⟩) = true ∧ ai_has ai_w_clcl (.classLink "java/util/Arrays" 311 "[B") = true ∧ lw_tbl[ai_w_clcast]? = some (.castable "[B" "java/lang/Cloneable") := by decide +kernel
end
section
/-! THE PLAIN MACHINE: methods run over a list of cells (an int array, an array of references, an object; an object of class 77 is an array of bytes); a reference is a place in the list. What stood before the law began, and is never written, is told by '.retAddr k': 1 to 10 the law's texts, 11 to 20 their bytes, 21, 22 the JDK's tables of digits, 23 a static that is only carried, 24 + the number of a list: the script, by its numbers. What the machine answers is a function; that the JVM does the same is shown once (parts 04 to 11). -/
abbrev ai_C : Type := List Int32 ⊕ (List (Option Nat) ⊕ (Nat × List Value))
abbrev ai_W : Type := List ai_C
abbrev ai_R : Type := Option Value × ai_W
abbrev ai_G : Type := Nat × List Value × List Value × ai_W
abbrev ai_K : Type := Nat × List Value × List Value × Nat
abbrev ai_O : Type := ai_R ⊕ (ai_G ⊕ ai_K)
def ai_sz : ai_C → Nat
  | .inl l => l.length
  | .inr (.inl l) => l.length
  | .inr (.inr o) => o.2.length
/-- the number of a list, and the list of a number -/
def ai_enc : List Int32 → Nat
  | [] => 0
  | x :: l => ai_enc l * 4294967297 + (x.toBitVec.toNat + 1)
theorem ai_enc_inj : ∀ (l q : List Int32), ai_enc l = ai_enc q → l = q := by
  intro l
  induction l with
  | nil =>
    intro q h
    cases q with
    | nil => rfl
    | cons y q => simp only [ai_enc] at h; omega
  | cons x l ih =>
    intro q h
    cases q with
    | nil => simp only [ai_enc] at h; omega
    | cons y q =>
      simp only [ai_enc] at h
      have hx := x.toBitVec.isLt
      have hy := y.toBitVec.isLt
      have e1 : x.toBitVec.toNat = y.toBitVec.toNat := by omega
      have e2 : ai_enc l = ai_enc q := by omega
      have e3 : x = y := Int32.toBitVec_inj.mp (BitVec.eq_of_toNat_eq e1)
      rw [e3, ih q e2]
noncomputable def ai_dec (n : Nat) : List Int32 := @dite _ (∃ l, ai_enc l = n) (Classical.propDecidable _) (fun h => Classical.choose h) (fun _ => [])
theorem ai_dec_enc (l : List Int32) : ai_dec (ai_enc l) = l := by
  unfold ai_dec
  have h : ∃ q, ai_enc q = ai_enc l := ⟨l, rfl⟩
  rw [dif_pos h]
  exact ai_enc_inj _ _ (Classical.choose_spec h)
def ai_scr (l : List Int32) : Value := .retAddr (24 + ai_enc l)
/-- the tables of digits -/
def ai_d1 : List Int32 := (List.range 100).map fun i => Int32.ofNat (48 + i % 10)
def ai_d10 : List Int32 := (List.range 100).map fun i => Int32.ofNat (48 + i / 10)
/-- the bytes at k -/
def ai_xb (k : Nat) : Option (List Int32) := if 11 ≤ k ∧ k ≤ 20 then (ai_tx[k - 11]?).map (fun q => q.2.2) else if k = 21 then some ai_d1 else if k = 22 then some ai_d10 else none
def ai_sl (ws : ai_W) : Nat := (ws.map ai_sz).sum
-- cells
def ai_isob (ws : ai_W) (a ci : Nat) : Bool := match ws[a]? with
  | some (.inr (.inr (c, _))) => decide (c = ci)
  | _ => false
def ai_nr : Option Value → Option Value
  | some (.retAddr _) => none
  | r => r
theorem ai_nr_some {r : Option Value} {v : Value} (h : ai_nr r = some v) : r = some v ∧ ∀ k, ¬ v = .retAddr k := by
  unfold ai_nr at h
  split at h
  · cases h
  · rename_i h2
    subst h
    exact ⟨rfl, fun k e => h2 k (by rw [e])⟩
def ai_fget (ws : ai_W) (a ci k : Nat) : Option Value := match ws[a]? with
  | some (.inr (.inr (c, fs))) => if c = ci then ai_nr fs[k]? else none
  | _ => none
/-- the receiver is of that class -/
def ai_rcv (ws : ai_W) (v : Value) (ci : Nat) : Bool := match v with
  | .ref a => ai_isob ws a ci
  | .retAddr k => decide (ci = 12 ∧ 1 ≤ k ∧ k ≤ 10)
  | _ => false
def ai_pok : Option FieldType → Value → Bool
  | some .int, .int _ => true
  | some .byte, .int v => decide (v.toInt8.toInt32 = v)
  | some .char, .int v => decide ((v.toUInt32 % 65536).toInt32 = v)
  | some .boolean, .int v => v == 0 || v == 1
  | some (.object _), .ref _ => true
  | some (.array _), .ref _ => true
  | _, _ => false
def ai_cl (ci : Nat) : vw_C := (vwCl[ci]?).getD ("", fun _ => ("", "", "", false), 0)
def ai_fty (ci k : Nat) : Option FieldType := parseFieldDescriptor ((ai_cl ci).2.1 k).2.2.1
/-- a field of what stood before -/
def ai_xget (k ci f : Nat) : Option Value := if 1 ≤ k ∧ k ≤ 10 ∧ ci = 12 then (if f = 0 then some (.retAddr (k + 10)) else if f = 1 then some (.int 0) else none) else none
def ai_fput (ws : ai_W) (a ci k : Nat) (v : Value) : Option ai_W := match ws[a]? with
  | some (.inr (.inr (c, fs))) => if c = ci ∧ k < fs.length ∧ ai_pok (ai_fty ci k) v = true then some (ws.set a (.inr (.inr (c, fs.set k v)))) else none
  | _ => none
def ai_ix (i : Int32) (n : Nat) : Option Nat := if i < 0 ∨ n ≤ i.toNatClampNeg then none else some i.toNatClampNeg
def ai_aget (ws : ai_W) (a : Nat) (i : Int32) : Option Int32 := match ws[a]? with
  | some (.inl l) => (ai_ix i l.length).map fun j => l.getD j 0
  | _ => none
def ai_aset (ws : ai_W) (a : Nat) (i x : Int32) : Option ai_W := match ws[a]? with
  | some (.inl l) => (ai_ix i l.length).map fun j => ws.set a (.inl (l.set j x))
  | _ => none
def ai_iv : Value → Int32
  | .int x => x
  | _ => 0
/-- an array of bytes -/
def ai_by (l : List Int32) : ai_C := .inr (.inr (77, l.map .int))
def ai_bget (ws : ai_W) (a : Nat) (i : Int32) : Option Int32 := match ws[a]? with
  | some (.inr (.inr (c, fs))) => if c = 77 then (ai_ix i fs.length).map fun j => ai_iv (fs.getD j .null) else none
  | _ => none
def ai_bset (ws : ai_W) (a : Nat) (i x : Int32) : Option ai_W := match ws[a]? with
  | some (.inr (.inr (c, fs))) => if c = 77 then (ai_ix i fs.length).map fun j => ws.set a (.inr (.inr (77, fs.set j (.int x.toInt8.toInt32)))) else none
  | _ => none
noncomputable def ai_xlen (k : Nat) : Option Int32 := if 24 ≤ k then some (Int32.ofNat (ai_dec (k - 24)).length) else if 11 ≤ k ∧ k ≤ 20 then (ai_xb k).map (fun l => Int32.ofNat l.length) else none
noncomputable def ai_xaget (k : Nat) (i : Int32) : Option Int32 := if 24 ≤ k then (ai_ix i (ai_dec (k - 24)).length).map (fun j => (ai_dec (k - 24)).getD j 0) else none
def ai_xbget (k : Nat) (i : Int32) : Option Int32 := if k = 21 ∨ k = 22 then (match ai_xb k with
  | some l => (ai_ix i l.length).map (fun j => l.getD j 0)
  | none => none) else none
/-- bytes laid over others from dp on -/
def ai_lay (f g : List Value) (sp dp n : Nat) : List Value := (List.range g.length).map fun j => if dp ≤ j ∧ j < dp + n then f.getD (sp + (j - dp)) .null else g.getD j .null
def ai_fb8 (v : Value) : Bool := match v with
  | .int x => decide (x.toInt8.toInt32 = x)
  | _ => false
/-- System.arraycopy among bytes -/
def ai_bcopy (fs : List Value) (ws : ai_W) (i : Int32) (d : Nat) (j n : Int32) : Option ai_W := match ws[d]? with
  | some (.inr (.inr (c2, gs))) => if c2 = 77 ∧ ¬ i < 0 ∧ ¬ j < 0 ∧ ¬ n < 0 ∧ i.toNatClampNeg + n.toNatClampNeg ≤ fs.length ∧ j.toNatClampNeg + n.toNatClampNeg ≤ gs.length ∧ fs.all ai_fb8 = true then some (ws.set d (.inr (.inr (77, ai_lay fs gs i.toNatClampNeg j.toNatClampNeg n.toNatClampNeg)))) else none
  | _ => none
def ai_cpb (ws : ai_W) (a : Nat) (i : Int32) (d : Nat) (j n : Int32) : Option ai_W := match ws[a]? with
  | some (.inr (.inr (c, fs))) => if c = 77 ∧ ¬ a = d then ai_bcopy fs ws i d j n else none
  | _ => none
def ai_cpx (k : Nat) (ws : ai_W) (i : Int32) (d : Nat) (j n : Int32) : Option ai_W := if 11 ≤ k ∧ k ≤ 20 then (match ai_xb k with
  | some l => ai_bcopy (l.map .int) ws i d j n
  | none => none) else none
def ai_len (ws : ai_W) (a : Nat) : Option Int32 := match ws[a]? with
  | some (.inl l) => some (Int32.ofNat l.length)
  | some (.inr (.inr (c, fs))) => if c = 77 then some (Int32.ofNat fs.length) else none
  | some (.inr (.inl l)) => some (Int32.ofNat l.length)
  | _ => none
def ai_qv : Option Nat → Value
  | some a => .ref a
  | none => .null
def ai_qget (ws : ai_W) (a : Nat) (i : Int32) : Option Value := match ws[a]? with
  | some (.inr (.inl l)) => (ai_ix i l.length).map fun j => ai_qv (l.getD j none)
  | _ => none
def ai_qset (ws : ai_W) (a : Nat) (i : Int32) (x : Nat) : Option ai_W := match ws[a]? with
  | some (.inr (.inl l)) => if ai_isob ws x 0 = true then (ai_ix i l.length).map fun j => ws.set a (.inr (.inl (l.set j (some x)))) else none
  | _ => none
/-- System.arraycopy of a whole array of ints over another one of its length -/
def ai_copy (ws : ai_W) (a : Nat) (i : Int32) (d : Nat) (j n : Int32) : Option ai_W := match ws[a]?, ws[d]? with
  | some (.inl l), some (.inl l2) => if i = 0 ∧ j = 0 ∧ ¬ n < 0 ∧ n.toNatClampNeg = l.length ∧ l2.length = l.length then some (ws.set d (.inl l)) else none
  | _, _ => none
def ai_dv : Option FieldType → Value
  | some (.object _) => .null
  | some (.array _) => .null
  | some .float => .float 0
  | _ => .int 0
def ai_blank (ci : Nat) : ai_C := .inr (.inr (ci, (List.range (ai_cl ci).2.2).map fun k => ai_dv (ai_fty ci k)))
-- one instruction
def ai_go (pc : Nat) (ls st : List Value) (ws : ai_W) : Option ai_O := some (.inr (.inl (pc, ls, st, ws)))
def ai_tgt (pc : Nat) (off : Int) : Option Nat := match (pc : Int) + off with
  | .ofNat t => some t
  | _ => none
def ai_cmp : Jvm.ClassFile.Cond → Int32 → Int32 → Bool
  | .eq, x, y => decide (x = y)
  | .ne, x, y => decide (¬ x = y)
  | .lt, x, y => decide (x < y)
  | .ge, x, y => decide (y ≤ x)
  | .gt, x, y => decide (y < x)
  | .le, x, y => decide (x ≤ y)
def ai_lda (n k pc : Nat) (ls st : List Value) (ws : ai_W) : Option ai_O := match ls[k]? with
  | some (.ref a) => ai_go (pc + n) ls (.ref a :: st) ws
  | some (.retAddr q) => if q = 23 then none else ai_go (pc + n) ls (.retAddr q :: st) ws
  | _ => none
def ai_ldi (n k pc : Nat) (ls st : List Value) (ws : ai_W) : Option ai_O := match ls[k]? with
  | some (.int x) => ai_go (pc + n) ls (.int x :: st) ws
  | _ => none
def ai_ldf (n k pc : Nat) (ls st : List Value) (ws : ai_W) : Option ai_O := match ls[k]? with
  | some (.float x) => ai_go (pc + n) ls (.float x :: st) ws
  | _ => none
def ai_sti (n k pc : Nat) (ls st : List Value) (ws : ai_W) : Option ai_O := match st with
  | .int x :: st => if k < ls.length then ai_go (pc + n) (ls.set k (.int x)) st ws else none
  | _ => none
def ai_stf (n k pc : Nat) (ls st : List Value) (ws : ai_W) : Option ai_O := match st with
  | .float x :: st => if k < ls.length then ai_go (pc + n) (ls.set k (.float x)) st ws else none
  | _ => none
def ai_sta (n k pc : Nat) (ls st : List Value) (ws : ai_W) : Option ai_O := match st with
  | .ref x :: st => if k < ls.length then ai_go (pc + n) (ls.set k (.ref x)) st ws else none
  | _ => none
def ai_bin (f : Int32 → Int32 → Option Int32) (pc : Nat) (ls st : List Value) (ws : ai_W) : Option ai_O := match st with
  | .int y :: .int x :: st => match f x y with
    | some z => ai_go (pc + 1) ls (.int z :: st) ws
    | none => none
  | _ => none
def ai_fb (f : UInt32 → UInt32 → UInt32) (pc : Nat) (ls st : List Value) (ws : ai_W) : Option ai_O := match st with
  | .float y :: .float x :: st => if f x y &&& 0x7fffffff ≤ 0x7f800000 then ai_go (pc + 1) ls (.float (f x y) :: st) ws else none
  | _ => none
def ai_jmp (pc : Nat) (off : Int) (b : Bool) (ls st : List Value) (ws : ai_W) : Option ai_O := match ai_tgt pc off with
  | some t => ai_go (if b = true then t else pc + 3) ls st ws
  | none => none
def ai_call (y y2 : Nat) (kd : Nat) (pc : Nat) (st : List Value) : Option ai_O :=
  if y2 < y ∧ ai_kind y2 = kd ∧ ai_fr y2 + 1 ≤ ai_fr y ∧ 8 + (ai_L y2 + 11) + ai_lo y2 ≤ ai_lo y then
    some (.inr (.inr (y2, (st.take (ai_n y2 + if kd = 0 then 0 else 1)).reverse, st.drop (ai_n y2 + if kd = 0 then 0 else 1), pc + 3)))
  else none
/-- room for a native method -/
def ai_nat (y : Nat) : Bool := decide (1 ≤ ai_fr y ∧ 40 ≤ ai_lo y)
def ai_inv (y pc idx : Nat) (ls st : List Value) (ws : ai_W) : Option ai_O := match ai_lk ai_vm (ai_view y) idx with
  | some (0, y2, _) => ai_call y y2 1 pc st
  | some (8, y2, _) => ai_call y y2 1 pc st
  | some (10, _, _) => match st with
    | .ref a :: st => match ws[a]? with
      | some (.inr (.inr (c, fs))) => if c = 77 ∧ fs.all ai_fb8 = true ∧ st.length ≤ 4 ∧ ai_nat y = true then ai_go (pc + 3) ls (.ref ws.length :: st) (ws ++ [.inr (.inr (77, fs))]) else none
      | _ => none
    | _ => none
  | _ => none
def ai_ins (y pc idx : Nat) (ls st : List Value) (ws : ai_W) : Option ai_O := match ai_lk ai_vm (ai_view y) idx with
  | some (1, y2, _) => ai_call y y2 0 pc st
  | some (3, y2, _) => ai_call y y2 0 pc st
  | some (6, _, _) => match st with
    | .int n :: .int j :: .ref d :: .int i :: .ref a :: st => match ai_copy ws a i d j n with
      | some ws => if st.length ≤ 4 ∧ ai_nat y = true then ai_go (pc + 3) ls st ws else none
      | none => match ai_cpb ws a i d j n with
        | some ws => if st.length ≤ 4 ∧ ai_nat y = true then ai_go (pc + 3) ls st ws else none
        | none => none
    | .int n :: .int j :: .ref d :: .int i :: .retAddr k :: st => match ai_cpx k ws i d j n with
      | some ws => if st.length ≤ 4 ∧ ai_nat y = true then ai_go (pc + 3) ls st ws else none
      | none => none
    | _ => none
  | _ => none
def ai_spc (y pc idx : Nat) (ls st : List Value) (ws : ai_W) : Option ai_O := match ai_lk ai_vm (ai_view y) idx with
  | some (2, y2, _) => ai_call y y2 2 pc st
  | some (4, y2, _) => ai_call y y2 2 pc st
  | some (9, y2, _) => ai_call y y2 1 pc st
  | some (5, _, _) => match st with
    | .ref _ :: st => if st.length ≤ 4 ∧ ai_nat y = true then ai_go (pc + 3) ls st ws else none
    | _ => none
  | _ => none
def ai_sw (pc : Nat) (d lo hi : Int) (offs : Array Int) (x : Int32) : Option Nat :=
  if x.toInt < lo ∨ hi < x.toInt then ai_tgt pc d else match offs[(x.toInt - lo).toNat]? with
    | some o => ai_tgt pc o
    | none => none
def ai_wide (pc v idx n : Nat) (ls st : List Value) (ws : ai_W) : Option ai_O := match ai_lk ai_vk v idx with
  | some (.inl x, _) => ai_go (pc + n) ls (.int x :: st) ws
  | some (.inr x, _) => if n = 3 then ai_go (pc + 3) ls (.float x :: st) ws else none
  | none => none
noncomputable def ai_in (y pc : Nat) (ls st : List Value) (ws : ai_W) : Instr → Nat → Option ai_O
  | .aload_n k, 1 => ai_lda 1 k.val pc ls st ws
  | .aload k, 2 => ai_lda 2 k pc ls st ws
  | .iload_n k, 1 => ai_ldi 1 k.val pc ls st ws
  | .iload k, 2 => ai_ldi 2 k pc ls st ws
  | .fload_n k, 1 => ai_ldf 1 k.val pc ls st ws
  | .istore_n k, 1 => ai_sti 1 k.val pc ls st ws
  | .istore k, 2 => ai_sti 2 k pc ls st ws
  | .fstore_n k, 1 => ai_stf 1 k.val pc ls st ws
  | .astore_n k, 1 => ai_sta 1 k.val pc ls st ws
  | .astore k, 2 => ai_sta 2 k pc ls st ws
  | .iinc k n, 3 => match ls[k]? with
    | some (.int x) => ai_go (pc + 3) (ls.set k (.int (x + Int32.ofInt n))) st ws
    | _ => none
  | .iconst n, 1 => ai_go (pc + 1) ls (.int (Int32.ofInt n) :: st) ws
  | .bipush n, 2 => ai_go (pc + 2) ls (.int (Int8.ofInt n).toInt32 :: st) ws
  | .sipush n, 3 => ai_go (pc + 3) ls (.int (Int16.ofInt n).toInt32 :: st) ws
  | .fconst n, 1 => ai_go (pc + 1) ls (.float (if n = 0 then FP.fconst0 else if n = 1 then FP.fconst1 else FP.fconst2) :: st) ws
  | .ldc i, 2 => match ai_lk ai_vt (ai_view y) i with
    | some k => if k < 10 then ai_go (pc + 2) ls (.retAddr (k + 1) :: st) ws else none
    | none => ai_wide pc (ai_view y) i 2 ls st ws
  | .ldc_w i, 3 => ai_wide pc (ai_view y) i 3 ls st ws
  | .iadd, 1 => ai_bin (fun x y => some (x + y)) pc ls st ws
  | .isub, 1 => ai_bin (fun x y => some (x - y)) pc ls st ws
  | .imul, 1 => ai_bin (fun x y => some (x * y)) pc ls st ws
  | .iand, 1 => ai_bin (fun x y => some (x &&& y)) pc ls st ws
  | .ior, 1 => ai_bin (fun x y => some (x ||| y)) pc ls st ws
  | .ixor, 1 => ai_bin (fun x y => some (x ^^^ y)) pc ls st ws
  | .ishl, 1 => ai_bin (fun x y => some (x <<< (y &&& 31))) pc ls st ws
  | .ishr, 1 => ai_bin (fun x y => some (x >>> (y &&& 31))) pc ls st ws
  | .iushr, 1 => ai_bin (fun x y => some (x.toUInt32 >>> (y.toUInt32 &&& Int32.toUInt32 31)).toInt32) pc ls st ws
  | .idiv, 1 => ai_bin (fun x y => if y = 0 then none else some (x / y)) pc ls st ws
  | .irem, 1 => ai_bin (fun x y => if y = 0 then none else some (x - x / y * y)) pc ls st ws
  | .ineg, 1 => match st with
    | .int x :: st => ai_go (pc + 1) ls (.int (-x) :: st) ws
    | _ => none
  | .i2f, 1 => match st with
    | .int x :: st => ai_go (pc + 1) ls (.float (FP.i2f x) :: st) ws
    | _ => none
  | .f2i, 1 => match st with
    | .float x :: st => ai_go (pc + 1) ls (.int (FP.f2i x) :: st) ws
    | _ => none
  | .fmul, 1 => ai_fb FP.fmul pc ls st ws
  | .fdiv, 1 => ai_fb FP.fdiv pc ls st ws
  | .fsub, 1 => ai_fb FP.fsub pc ls st ws
  | .dup, 1 => match st with
    | .ref x :: st => ai_go (pc + 1) ls (.ref x :: .ref x :: st) ws
    | _ => none
  | .dup2, 1 => match st with
    | .int i :: .ref x :: st => ai_go (pc + 1) ls (.int i :: .ref x :: .int i :: .ref x :: st) ws
    | _ => none
  | .pop, 1 => match st with
    | .int _ :: st => ai_go (pc + 1) ls st ws
    | .ref _ :: st => ai_go (pc + 1) ls st ws
    | _ => none
  | .i2c, 1 => match st with
    | .int x :: st => ai_go (pc + 1) ls (.int (x.toUInt32 % 65536).toInt32 :: st) ws
    | _ => none
  | .aconst_null, 1 => ai_go (pc + 1) ls (.null :: st) ws
  | .ifnonnull off, 3 => match st with
    | .ref _ :: st => ai_jmp pc off true ls st ws
    | .retAddr k :: st => if k = 23 then none else ai_jmp pc off true ls st ws
    | _ => none
  | .getstatic i, 3 => match ai_lk ai_vg (ai_view y) i with
    | some (0, _) => ai_go (pc + 3) ls (.int 1 :: st) ws
    | some (1, _) => ai_go (pc + 3) ls (.retAddr 21 :: st) ws
    | some (2, _) => ai_go (pc + 3) ls (.retAddr 22 :: st) ws
    | some (3, _) => ai_go (pc + 3) ls (.retAddr 23 :: st) ws
    | _ => none
  | .checkcast i, 3 => match st with
    | .ref a :: st => match ws[a]? with
      | some (.inr (.inr (c, fs))) => if c = 77 ∧ ai_vc[ai_view y]? = some "java/util/Arrays" ∧ i = 311 then ai_go (pc + 3) ls (.ref a :: st) ws else none
      | _ => none
    | _ => none
  | .baload, 1 => match st with
    | .int i :: .ref a :: st => match ai_bget ws a i with
      | some x => ai_go (pc + 1) ls (.int x :: st) ws
      | none => none
    | .int i :: .retAddr k :: st => match ai_xbget k i with
      | some x => ai_go (pc + 1) ls (.int x :: st) ws
      | none => none
    | _ => none
  | .bastore, 1 => match st with
    | .int x :: .int i :: .ref a :: st => match ai_bset ws a i x with
      | some ws => ai_go (pc + 1) ls st ws
      | none => none
    | _ => none
  | .goto off, 3 => ai_jmp pc off true ls st ws
  | .if_icmp cd off, 3 => match st with
    | .int y :: .int x :: st => ai_jmp pc off (ai_cmp cd x y) ls st ws
    | _ => none
  | .ifCond cd off, 3 => match st with
    | .int x :: st => ai_jmp pc off (ai_cmp cd x 0) ls st ws
    | _ => none
  | .ifnull off, 3 => match st with
    | .ref _ :: st => ai_jmp pc off false ls st ws
    | .null :: st => ai_jmp pc off true ls st ws
    | _ => none
  | .tableswitch d lo hi offs, _ => match st with
    | .int x :: st => match ai_sw pc d lo hi offs x with
      | some t => ai_go t ls st ws
      | none => none
    | _ => none
  | .getfield i, 3 => match ai_lk ai_vf (ai_view y) i, st with
    | some (ci, k, _), .ref a :: st => match ai_fget ws a ci k with
      | some v => ai_go (pc + 3) ls (v :: st) ws
      | none => none
    | some (ci, k, _), .retAddr q :: st => match ai_xget q ci k with
      | some v => ai_go (pc + 3) ls (v :: st) ws
      | none => none
    | _, _ => none
  | .putfield i, 3 => match ai_lk ai_vf (ai_view y) i, st with
    | some (ci, k, _), v :: .ref a :: st => if ((ai_cl ci).2.1 k).2.2.2 = true → ai_kind y = 2 ∧ ai_ci y = ci then match ai_fput ws a ci k v with
      | some ws => ai_go (pc + 3) ls st ws
      | none => none else none
    | _, _ => none
  | .iaload, 1 => match st with
    | .int i :: .ref a :: st => match ai_aget ws a i with
      | some x => ai_go (pc + 1) ls (.int x :: st) ws
      | none => none
    | .int i :: .retAddr k :: st => match ai_xaget k i with
      | some x => ai_go (pc + 1) ls (.int x :: st) ws
      | none => none
    | _ => none
  | .iastore, 1 => match st with
    | .int x :: .int i :: .ref a :: st => match ai_aset ws a i x with
      | some ws => ai_go (pc + 1) ls st ws
      | none => none
    | _ => none
  | .arraylength, 1 => match st with
    | .ref a :: st => match ai_len ws a with
      | some x => ai_go (pc + 1) ls (.int x :: st) ws
      | none => none
    | .retAddr k :: st => match ai_xlen k with
      | some x => ai_go (pc + 1) ls (.int x :: st) ws
      | none => none
    | _ => none
  | .aaload, 1 => match st with
    | .int i :: .ref a :: st => match ai_qget ws a i with
      | some v => ai_go (pc + 1) ls (v :: st) ws
      | none => none
    | _ => none
  | .aastore, 1 => match st with
    | .ref x :: .int i :: .ref a :: st => match ai_qset ws a i x with
      | some ws => ai_go (pc + 1) ls st ws
      | none => none
    | _ => none
  | .new i, 3 => match ai_lk ai_vn (ai_view y) i with
    | some (ci, _, _, _) => ai_go (pc + 3) ls (.ref ws.length :: st) (ws ++ [ai_blank ci])
    | none => none
  | .newarray .int, 2 => match st with
    | .int n :: st => if n < 0 ∨ 100000 < n.toNatClampNeg then none else ai_go (pc + 2) ls (.ref ws.length :: st) (ws ++ [.inl (List.replicate n.toNatClampNeg 0)])
    | _ => none
  | .newarray .byte, 2 => match st with
    | .int n :: st => if n < 0 ∨ 100000 < n.toNatClampNeg then none else ai_go (pc + 2) ls (.ref ws.length :: st) (ws ++ [.inr (.inr (77, List.replicate n.toNatClampNeg (.int 0)))])
    | _ => none
  | .anewarray i, 3 => match ai_lk ai_vn (ai_view y) i, st with
    | some (0, _, _, _), .int n :: st => if n < 0 ∨ 100000 < n.toNatClampNeg then none else ai_go (pc + 3) ls (.ref ws.length :: st) (ws ++ [.inr (.inl (List.replicate n.toNatClampNeg none))])
    | _, _ => none
  | .invokevirtual i, 3 => ai_inv y pc i ls st ws
  | .invokestatic i, 3 => ai_ins y pc i ls st ws
  | .invokespecial i, 3 => ai_spc y pc i ls st ws
  | .fcmp op, 1 => match st with
    | .float y :: .float x :: st => ai_go (pc + 1) ls (.int (Op.cmpValue (FP.fcmp x y) op) :: st) ws
    | _ => none
  | .ireturn, 1 => match st with
    | [.int x] => if ai_pok (ai_ret y) (.int x) = true then some (.inl (some (.int x), ws)) else none
    | _ => none
  | .areturn, 1 => match st with
    | [.ref a] => if ai_pok (ai_ret y) (.ref a) = true then some (.inl (some (.ref a), ws)) else none
    | _ => none
  | .return_, 1 => match st with
    | [] => if ai_ret y = none then some (.inl (none, ws)) else none
    | _ => none
  | _, _ => none
noncomputable def ai_step (y pc : Nat) (ls st : List Value) (ws : ai_W) : Option ai_O := match decode (ai_code y) pc with
  | .ok (i, n) => ai_in y pc ls st ws i n
  | .error _ => none
-- a run
def ai_ok (y : Nat) (as : List Value) (ws : ai_W) : Bool := decide (as.length = ai_n y + if ai_kind y = 0 then 0 else 1) && (if ai_kind y = 0 then true else match as with
  | v :: _ => ai_rcv ws v (ai_ci y)
  | _ => false) && as.all (fun v => decide (v.category = 1)) && decide (as.length ≤ ai_L y)
def ai_ent (y : Nat) (as : List Value) : List Value := as ++ List.replicate (ai_L y - as.length) .null
def ai_cs (l : List Value) : Nat := (l.map fun v => v.category).sum
theorem ai_cs4 {l : List Value} (h : l.length ≤ 4) : ai_cs l ≤ 8 := by
  have key : ∀ l : List Value, ai_cs l ≤ 2 * l.length := by
    intro l
    induction l with
    | nil => exact Nat.le_refl _
    | cons v l ih =>
      have h1 : v.category ≤ 2 := by rcases lv_cat v with q | q <;> omega
      unfold ai_cs at ih ⊢
      simp only [List.map_cons, List.sum_cons, List.length_cons]
      omega
  have := key l
  omega
noncomputable def ai_run : Nat → Nat → Nat → List Value → List Value → ai_W → Option ai_R
  | 0, _, _, _, _, _ => none
  | F + 1, y, pc, ls, st, ws => match ai_step y pc ls st ws with
    | none => none
    | some (.inl r) => some r
    | some (.inr (.inl (pc, ls, st, ws))) => ai_run F y pc ls st ws
    | some (.inr (.inr (y2, as, rest, pc))) => if ai_ok y2 as ws = true ∧ ai_cs rest ≤ 8 then match ai_run F y2 0 (ai_ent y2 as) [] ws with
      | none => none
      | some (v, ws) => ai_run F y pc ls (v.toList ++ rest) ws
      else none
/-! What a run of the plain machine answers, the number of its steps left open; the tables' words that the machine's rows need. -/
theorem ai_run_more {y : Nat} : ∀ (F : Nat) (y pc : Nat) (ls st : List Value) (ws : ai_W) (r : ai_R), ai_run F y pc ls st ws = some r → ai_run (F + 1) y pc ls st ws = some r := by
  intro F
  induction F with
  | zero => intro y pc ls st ws r h; cases h
  | succ F ih =>
    intro y pc ls st ws r h
    unfold ai_run at h ⊢
    split at h
    · cases h
    · exact h
    · exact ih _ _ _ _ _ _ h
    · rename_i y2 as rest pc2 _
      by_cases hc : ai_ok y2 as ws = true ∧ ai_cs rest ≤ 8
      · rw [if_pos hc] at h ⊢
        split at h
        · cases h
        · rename_i v ws2 h2
          rw [ih _ _ _ _ _ _ h2]
          exact ih _ _ _ _ _ _ h
      · rw [if_neg hc] at h
        cases h
theorem ai_run_le {y pc : Nat} {ls st : List Value} {ws : ai_W} {r : ai_R} {F G : Nat} (h : ai_run F y pc ls st ws = some r) (hg : F ≤ G) : ai_run G y pc ls st ws = some r := by
  obtain ⟨k, rfl⟩ := Nat.exists_eq_add_of_le hg
  clear hg
  induction k with
  | zero => exact h
  | succ k ih => exact ai_run_more (y := y) _ _ _ _ _ _ _ ih
/-- what a run answers -/
noncomputable def ai_Run (y pc : Nat) (ls st : List Value) (ws : ai_W) : Option ai_R := @dite _ (∃ r F, ai_run F y pc ls st ws = some r) (Classical.propDecidable _) (fun h => some (Classical.choose h)) (fun _ => none)
theorem ai_Run_iff {y pc : Nat} {ls st : List Value} {ws : ai_W} {r : ai_R} : ai_Run y pc ls st ws = some r ↔ ∃ F, ai_run F y pc ls st ws = some r := by
  unfold ai_Run
  constructor
  · intro h
    split at h
    · rename_i hx
      cases h
      exact Classical.choose_spec hx
    · cases h
  · intro ⟨F, h⟩
    rw [dif_pos ⟨r, F, h⟩]
    obtain ⟨G, hG⟩ := Classical.choose_spec (⟨r, F, h⟩ : ∃ r F, ai_run F y pc ls st ws = some r)
    have h1 := ai_run_le h (Nat.le_max_left F G)
    have h2 := ai_run_le hG (Nat.le_max_right F G)
    rw [h1] at h2
    exact h2.symm
/-- a call -/
noncomputable def ai_Call (y : Nat) (as : List Value) (ws : ai_W) : Option ai_R := if ai_ok y as ws = true then ai_Run y 0 (ai_ent y as) [] ws else none
theorem ai_opt {α : Type} {a b : Option α} (h : ∀ r, a = some r ↔ b = some r) : a = b := by
  cases a with
  | none => cases b with
    | none => rfl
    | some r => exact absurd ((h r).mpr rfl) (by simp)
  | some r => exact ((h r).mp rfl).symm
theorem ai_Run_ret {y pc : Nat} {ls st : List Value} {ws : ai_W} {r : ai_R} (h : ai_step y pc ls st ws = some (.inl r)) : ai_Run y pc ls st ws = some r := ai_Run_iff.mpr ⟨1, by unfold ai_run; rw [h]⟩
theorem ai_Run_none {y pc : Nat} {ls st : List Value} {ws : ai_W} (h : ai_step y pc ls st ws = none) : ai_Run y pc ls st ws = none := by
  refine ai_opt fun r => ?_
  rw [ai_Run_iff]
  constructor
  · rintro ⟨F, hF⟩
    cases F with
    | zero => cases hF
    | succ F =>
      unfold ai_run at hF
      rw [h] at hF
      cases hF
  · intro h; cases h
theorem ai_Run_go {y pc pc2 : Nat} {ls st ls2 st2 : List Value} {ws ws2 : ai_W} (h : ai_step y pc ls st ws = some (.inr (.inl (pc2, ls2, st2, ws2)))) : ai_Run y pc ls st ws = ai_Run y pc2 ls2 st2 ws2 := by
  refine ai_opt fun r => ?_
  rw [ai_Run_iff, ai_Run_iff]
  constructor
  · rintro ⟨F, hF⟩
    cases F with
    | zero => cases hF
    | succ F =>
      unfold ai_run at hF
      rw [h] at hF
      exact ⟨F, hF⟩
  · rintro ⟨F, hF⟩
    refine ⟨F + 1, ?_⟩
    unfold ai_run
    rw [h]
    exact hF
theorem ai_Run_call {y y2 pc pc2 : Nat} {ls st as rest : List Value} {ws : ai_W} (h : ai_step y pc ls st ws = some (.inr (.inr (y2, as, rest, pc2)))) (hr : ai_cs rest ≤ 8) : ai_Run y pc ls st ws = (ai_Call y2 as ws).bind fun q => ai_Run y pc2 ls (q.1.toList ++ rest) q.2 := by
  refine ai_opt fun r => ?_
  unfold ai_Call
  by_cases hk : ai_ok y2 as ws = true
  · rw [if_pos hk, ai_Run_iff, Option.bind_eq_some_iff]
    constructor
    · rintro ⟨F, hF⟩
      cases F with
      | zero => cases hF
      | succ F =>
        unfold ai_run at hF
        rw [h] at hF
        dsimp only at hF
        rw [if_pos ⟨hk, hr⟩] at hF
        split at hF
        · cases hF
        · rename_i v w2 h2
          exact ⟨(v, w2), ai_Run_iff.mpr ⟨F, h2⟩, ai_Run_iff.mpr ⟨F, hF⟩⟩
    · rintro ⟨⟨v, w2⟩, h1, h2⟩
      obtain ⟨F, hF⟩ := ai_Run_iff.mp h1
      obtain ⟨G, hG⟩ := ai_Run_iff.mp h2
      refine ⟨max F G + 1, ?_⟩
      unfold ai_run
      rw [h]
      dsimp only
      rw [if_pos ⟨hk, hr⟩, ai_run_le hF (Nat.le_max_left F G)]
      exact ai_run_le hG (Nat.le_max_right F G)
  · rw [if_neg hk, ai_Run_iff]
    constructor
    · rintro ⟨F, hF⟩
      cases F with
      | zero => cases hF
      | succ F =>
        unfold ai_run at hF
        rw [h] at hF
        dsimp only at hF
        rw [if_neg (fun q => hk q.1)] at hF
        cases hF
    · intro h; cases h
end
section
/-! The plain machine's cells on the heap, its locals in a frame; a run never loses a cell. -/
/-- where the cells lie: the first one's address; the addresses of what stood before (0: the script); the static that is only carried -/
abbrev ai_B : Type := Nat × (Nat → Nat) × Option Nat
def ai_xa (b : ai_B) (k : Nat) : Nat := b.2.1 (if 24 ≤ k then 0 else k)
def ai_cv (b : ai_B) : Value → Value
  | .ref a => .ref (b.1 + a)
  | .retAddr k => if k = 23 then va_rf b.2.2 else .ref (ai_xa b k)
  | v => v
theorem ai_cv_x {b : ai_B} {k : Nat} (h : ¬ k = 23) : ai_cv b (.retAddr k) = .ref (ai_xa b k) := if_neg h
theorem ai_rf_cat (r : Option Nat) : (va_rf r).category = 1 := by cases r <;> rfl
def ai_e (b : ai_B) (cI cB cY : ClassId) : ai_C → va_E
  | .inl l => .inl (cI, l.length, .inl (fun j => l.getD j 0))
  | .inr (.inl l) => .inl (cB, l.length, .inr (.inr (.inr (.inr (fun j => (l.getD j none).map (b.1 + ·))))))
  | .inr (.inr o) => if o.1 = 77 then .inl (cY, o.2.length, .inl (fun j => ai_iv (o.2.getD j .null))) else .inr (o.1, o.2.map (ai_cv b))
theorem ai_e_o {b : ai_B} {cI cB cY : ClassId} {c : Nat} {fs : List Value} (h : ¬ c = 77) : ai_e b cI cB cY (.inr (.inr (c, fs))) = .inr (c, fs.map (ai_cv b)) := if_neg h
theorem ai_e_b {b : ai_B} {cI cB cY : ClassId} {fs : List Value} : ai_e b cI cB cY (.inr (.inr (77, fs))) = .inl (cY, fs.length, .inl (fun j => ai_iv (fs.getD j .null))) := by
  simp only [ai_e, reduceIte]
def ai_w (b : ai_B) (cI cB cY : ClassId) (ws : ai_W) : va_W := ws.mapIdx (fun k c => (b.1 + k, ai_e b cI cB cY c))
theorem ai_w_get {b : ai_B} {cI cB cY : ClassId} {ws : ai_W} {k : Nat} {c : ai_C} (h : ws[k]? = some c) : (ai_w b cI cB cY ws)[k]? = some (b.1 + k, ai_e b cI cB cY c) := by
  simp [ai_w, List.getElem?_mapIdx, h]
theorem ai_w_inv {b : ai_B} {cI cB cY : ClassId} {ws : ai_W} {k : Nat} {q : Nat × va_E} (h : (ai_w b cI cB cY ws)[k]? = some q) : ∃ c, ws[k]? = some c ∧ q = (b.1 + k, ai_e b cI cB cY c) := by
  simp only [ai_w, List.getElem?_mapIdx, Option.map_eq_some_iff] at h
  obtain ⟨c, h1, h2⟩ := h
  exact ⟨c, h1, h2.symm⟩
theorem ai_w_len {b : ai_B} {cI cB cY : ClassId} {ws : ai_W} : (ai_w b cI cB cY ws).length = ws.length := by simp [ai_w]
theorem ai_w_set {b : ai_B} {cI cB cY : ClassId} {ws : ai_W} {k : Nat} {c : ai_C} : (ai_w b cI cB cY ws).set k (b.1 + k, ai_e b cI cB cY c) = ai_w b cI cB cY (ws.set k c) := by
  refine List.ext_getElem? fun i => ?_
  simp only [ai_w, List.getElem?_set, List.getElem?_mapIdx, List.length_mapIdx]
  by_cases hk : k = i
  · subst hk
    by_cases hl : k < ws.length <;> simp [hl]
  · simp [hk]
theorem ai_w_push {b : ai_B} {cI cB cY : ClassId} {ws : ai_W} {c : ai_C} : ai_w b cI cB cY ws ++ [(b.1 + ws.length, ai_e b cI cB cY c)] = ai_w b cI cB cY (ws ++ [c]) := by
  simp [ai_w, List.mapIdx_append]
theorem ai_sl_set {ws : ai_W} {k : Nat} {c d : ai_C} (h : ws[k]? = some c) (hz : ai_sz d = ai_sz c) : ai_sl (ws.set k d) = ai_sl ws := by
  induction ws generalizing k with
  | nil => rfl
  | cons a ws ih =>
    cases k with
    | zero =>
      simp only [List.getElem?_cons_zero, Option.some.injEq] at h
      subst h
      simp [ai_sl, hz]
    | succ k =>
      rw [List.getElem?_cons_succ] at h
      have := ih h
      simp only [ai_sl, List.set_cons_succ, List.map_cons, List.sum_cons] at this ⊢
      omega
theorem ai_sl_push {ws : ai_W} {c : ai_C} : ai_sl (ws ++ [c]) = ai_sl ws + ai_sz c := by simp [ai_sl]
-- locals
def ai_kn : Value → Bool
  | .int _ => true
  | .float _ => true
  | .ref _ => true
  | .retAddr _ => true
  | _ => false
def ai_l (b : ai_B) (ls : List Value) (arr : Array Slot) : Prop := arr.size = ls.length ∧ lv_wf arr ∧ ∀ (i : Nat) (v : Value), ls[i]? = some v → ai_kn v = true → arr[i]? = some (.val (ai_cv b v))
def ai_ps (b : ai_B) (ls : List Value) : List (Nat × Value) := ((ls.mapIdx fun i v => (i, v)).filter fun q => ai_kn q.2).map fun q => (q.1, ai_cv b q.2)
theorem ai_ps_mem {b : ai_B} {ls : List Value} {i : Nat} {w : Value} : (i, w) ∈ ai_ps b ls ↔ ∃ v, ls[i]? = some v ∧ ai_kn v = true ∧ w = ai_cv b v := by
  unfold ai_ps
  simp only [List.mem_map, List.mem_filter, Prod.mk.injEq]
  constructor
  · rintro ⟨⟨j, v⟩, ⟨h1, h2⟩, h3, h4⟩
    dsimp only at h2 h3 h4
    subst h3
    obtain ⟨k, hk⟩ := List.getElem?_of_mem h1
    rw [List.getElem?_mapIdx, Option.map_eq_some_iff] at hk
    obtain ⟨v2, g1, g2⟩ := hk
    cases g2
    exact ⟨v, g1, h2, h4.symm⟩
  · rintro ⟨v, h1, h2, h3⟩
    refine ⟨(i, v), ⟨?_, h2⟩, rfl, h3.symm⟩
    refine List.mem_of_getElem? (i := i) ?_
    rw [List.getElem?_mapIdx, h1]
    rfl
theorem ai_l_has {b : ai_B} {ls : List Value} {arr : Array Slot} (h : ai_l b ls arr) : lv_has arr ls.length (ai_ps b ls) := by
  refine ⟨h.1, h.2.1, fun q hq => ?_⟩
  obtain ⟨i, w⟩ := q
  obtain ⟨v, h1, h2, rfl⟩ := ai_ps_mem.mp hq
  exact h.2.2 i v h1 h2
theorem ai_cv_cat2 {b : ai_B} {v : Value} : (ai_cv b v).category = v.category := by
  cases v with
  | retAddr k =>
    by_cases h : k = 23
    · show (if k = 23 then va_rf b.2.2 else _).category = 1
      rw [if_pos h]
      exact ai_rf_cat _
    · rw [ai_cv_x h]
      rfl
  | _ => rfl
theorem ai_cv_cat {b : ai_B} {v : Value} (h : ai_kn v = true) : (ai_cv b v).category = 1 := by
  rw [ai_cv_cat2]
  cases v <;> first | rfl | cases h
theorem ai_l_store {b : ai_B} {ls : List Value} {arr : Array Slot} {i : Nat} {v : Value} (hi : i < ls.length) (hv : ai_kn v = true) (h : lv_has arr ls.length ((i, ai_cv b v) :: (ai_ps b ls).filter (fun q => !(q.1 == i) && !(q.1 + 1 == i && q.2.category == 2)))) : ai_l b (ls.set i v) arr := by
  refine ⟨by rw [List.length_set]; exact h.1, h.2.1, fun j w hj hw => ?_⟩
  rw [List.getElem?_set] at hj
  by_cases hij : i = j
  · subst hij
    rw [if_pos rfl, if_pos hi] at hj
    cases hj
    exact h.2.2 (i, ai_cv b v) List.mem_cons_self
  · rw [if_neg hij] at hj
    refine h.2.2 (j, ai_cv b w) (List.mem_cons_of_mem _ (List.mem_filter.mpr ⟨ai_ps_mem.mpr ⟨w, hj, hw, rfl⟩, ?_⟩))
    have hc := ai_cv_cat (b := b) hw
    simp [hc, Ne.symm hij]
theorem ai_l_entry {b : ai_B} {n : Nat} {as : List Value} (hc : ∀ v ∈ as, v.category = 1) (hn : as.length ≤ n) : ai_l b (as ++ List.replicate (n - as.length) .null) (lg_sl (as.map (ai_cv b)) ++ List.replicate (n - (lg_sl (as.map (ai_cv b))).length) Slot.unset).toArray := by
  have e : lg_sl (as.map (ai_cv b)) = as.map (fun v => Slot.val (ai_cv b v)) := by
    clear hn
    induction as with
    | nil => rfl
    | cons a as ih =>
      have h1 : (ai_cv b a).category = 1 := by rw [ai_cv_cat2]; exact hc a List.mem_cons_self
      have h2 := ih (fun v hv => hc v (List.mem_cons_of_mem _ hv))
      simp only [lg_sl] at h2
      simp only [lg_sl, List.map_cons, List.flatMap_cons, h1, h2]
      simp
  have hl := lv_entry (as.map (ai_cv b)) (n := n) (by rw [e, List.length_map]; exact hn)
  rw [e] at hl ⊢
  refine ⟨?_, hl.2.1, fun i v hi hv => ?_⟩
  · simp
  · rw [List.getElem?_append] at hi
    by_cases hia : i < as.length
    · rw [if_pos hia] at hi
      simp [List.getElem?_append, hia, hi]
      have : as[i] = v := by rw [List.getElem?_eq_getElem hia] at hi; exact Option.some.inj hi
      rw [this]
    · rw [if_neg hia, List.getElem?_replicate] at hi
      by_cases h2 : i - as.length < n - as.length
      · rw [if_pos h2] at hi
        cases hi
        cases hv
      · rw [if_neg h2] at hi
        cases hi
-- a run never loses a cell
theorem ai_fput_len {ws ws2 : ai_W} {a ci k : Nat} {v : Value} (h : ai_fput ws a ci k v = some ws2) : ws2.length = ws.length ∧ ai_sl ws2 = ai_sl ws := by
  unfold ai_fput at h
  split at h
  · rename_i c fs hc
    split at h
    · cases h
      exact ⟨List.length_set .., ai_sl_set hc (by simp [ai_sz])⟩
    · cases h
  · cases h
theorem ai_aset_len {ws ws2 : ai_W} {a : Nat} {i x : Int32} (h : ai_aset ws a i x = some ws2) : ws2.length = ws.length ∧ ai_sl ws2 = ai_sl ws := by
  unfold ai_aset at h
  split at h
  · rename_i l hc
    rw [Option.map_eq_some_iff] at h
    obtain ⟨j, -, rfl⟩ := h
    exact ⟨List.length_set .., ai_sl_set hc (by simp [ai_sz])⟩
  · cases h
theorem ai_qset_len {ws ws2 : ai_W} {a x : Nat} {i : Int32} (h : ai_qset ws a i x = some ws2) : ws2.length = ws.length ∧ ai_sl ws2 = ai_sl ws := by
  unfold ai_qset at h
  split at h
  · rename_i l hc
    split at h
    · rw [Option.map_eq_some_iff] at h
      obtain ⟨j, -, rfl⟩ := h
      exact ⟨List.length_set .., ai_sl_set hc (by simp [ai_sz])⟩
    · cases h
  · cases h
theorem ai_bset_len {ws ws2 : ai_W} {a : Nat} {i x : Int32} (h : ai_bset ws a i x = some ws2) : ws2.length = ws.length ∧ ai_sl ws2 = ai_sl ws := by
  unfold ai_bset at h
  split at h
  · rename_i c fs hc
    split at h
    · rw [Option.map_eq_some_iff] at h
      obtain ⟨j, -, rfl⟩ := h
      exact ⟨List.length_set .., ai_sl_set hc (by simp [ai_sz])⟩
    · cases h
  · cases h
theorem ai_lay_len {f g : List Value} {sp dp n : Nat} : (ai_lay f g sp dp n).length = g.length := by simp [ai_lay]
theorem ai_bcopy_len {fs : List Value} {ws ws2 : ai_W} {d : Nat} {i j n : Int32} (h : ai_bcopy fs ws i d j n = some ws2) : ws2.length = ws.length ∧ ai_sl ws2 = ai_sl ws := by
  unfold ai_bcopy at h
  split at h
  · rename_i c2 gs hc
    split at h
    · cases h
      exact ⟨List.length_set .., ai_sl_set hc (by simp [ai_sz, ai_lay_len])⟩
    · cases h
  · cases h
theorem ai_cpb_len {ws ws2 : ai_W} {a d : Nat} {i j n : Int32} (h : ai_cpb ws a i d j n = some ws2) : ws2.length = ws.length ∧ ai_sl ws2 = ai_sl ws := by
  unfold ai_cpb at h
  split at h
  · split at h
    · exact ai_bcopy_len h
    · cases h
  · cases h
theorem ai_cpx_len {k : Nat} {ws ws2 : ai_W} {d : Nat} {i j n : Int32} (h : ai_cpx k ws i d j n = some ws2) : ws2.length = ws.length ∧ ai_sl ws2 = ai_sl ws := by
  unfold ai_cpx at h
  split at h
  · split at h
    · exact ai_bcopy_len h
    · cases h
  · cases h
theorem ai_copy_len {ws ws2 : ai_W} {a d : Nat} {i j n : Int32} (h : ai_copy ws a i d j n = some ws2) : ws2.length = ws.length ∧ ai_sl ws2 = ai_sl ws := by
  unfold ai_copy at h
  split at h
  · rename_i l l2 h1 h2
    split at h
    · rename_i hc
      cases h
      exact ⟨List.length_set .., ai_sl_set h2 (by simp [ai_sz, hc.2.2.2.2])⟩
    · cases h
  · cases h
end
section
/-! One instruction: it never loses a cell; what the tables say of it. -/
theorem ai_in_grow {y pc n pc2 : Nat} {i : Instr} {ls st ls2 st2 : List Value} {ws ws2 : ai_W} (h : ai_in y pc ls st ws i n = some (.inr (.inl (pc2, ls2, st2, ws2)))) : ws.length ≤ ws2.length ∧ ai_sl ws ≤ ai_sl ws2 ∧ ls2.length = ls.length := by
  unfold ai_in at h
  split at h <;> (try simp only [ai_lda, ai_ldi, ai_ldf, ai_sti, ai_stf, ai_sta, ai_bin, ai_fb, ai_jmp, ai_inv, ai_ins, ai_spc, ai_call, ai_wide, ai_go] at h) <;> (repeat' split at h) <;>
    first
    | (cases h; done)
    | (cases h; exact ⟨Nat.le_refl _, Nat.le_refl _, by simp⟩)
    | (cases h; rename_i h2; have h3 := ai_fput_len h2; exact ⟨by omega, by omega, rfl⟩)
    | (cases h; rename_i h2; have h3 := ai_aset_len h2; exact ⟨by omega, by omega, rfl⟩)
    | (cases h; rename_i h2; have h3 := ai_qset_len h2; exact ⟨by omega, by omega, rfl⟩)
    | (cases h; rename_i h2; have h3 := ai_bset_len h2; exact ⟨by omega, by omega, rfl⟩)
    | (cases h; rename_i h2; have h3 := ai_copy_len h2; exact ⟨by omega, by omega, rfl⟩)
    | (cases h; rename_i h2; have h3 := ai_cpb_len h2; exact ⟨by omega, by omega, rfl⟩)
    | (cases h; rename_i h2; have h3 := ai_cpx_len h2; exact ⟨by omega, by omega, rfl⟩)
    | (cases h; exact ⟨by simp, by rw [ai_sl_push]; omega, rfl⟩)
theorem ai_run_grow : ∀ (F y pc : Nat) (ls st : List Value) (ws : ai_W) (r : ai_R), ai_run F y pc ls st ws = some r → ws.length ≤ r.2.length ∧ ai_sl ws ≤ ai_sl r.2 := by
  intro F
  induction F with
  | zero => intro y pc ls st ws r h; cases h
  | succ F ih =>
    intro y pc ls st ws r h
    unfold ai_run at h
    split at h
    · cases h
    · rename_i r2 hs
      cases h
      unfold ai_step at hs
      split at hs
      · unfold ai_in at hs
        split at hs <;> (try simp only [ai_lda, ai_ldi, ai_ldf, ai_sti, ai_stf, ai_sta, ai_bin, ai_fb, ai_jmp, ai_inv, ai_ins, ai_spc, ai_call, ai_wide, ai_go] at hs) <;> (repeat' split at hs) <;>
          first
          | (cases hs; done)
          | (cases hs; exact ⟨Nat.le_refl _, Nat.le_refl _⟩)
      · cases hs
    · rename_i pc2 ls2 st2 ws2 hs
      have h1 := ih _ _ _ _ _ _ h
      unfold ai_step at hs
      split at hs
      · have h2 := ai_in_grow hs
        exact ⟨Nat.le_trans h2.1 h1.1, Nat.le_trans h2.2.1 h1.2⟩
      · cases hs
    · split at h
      · split at h
        · cases h
        · rename_i h2
          have h3 := ih _ _ _ _ _ _ h2
          have h4 := ih _ _ _ _ _ _ h
          exact ⟨Nat.le_trans h3.1 h4.1, Nat.le_trans h3.2 h4.2⟩
      · cases h
-- what the tables say of a method
theorem ai_mt_len : ai_mt.length = 203 := by decide +kernel
theorem ai_kind_all : (List.range 202).all (fun y => decide (ai_kind y ≤ 2)) = true := by decide +kernel
theorem ai_m_at {y : Nat} (h : y < 203) : ai_mt[y]? = some (ai_m y) := by
  have hl : y < ai_mt.length := by rw [ai_mt_len]; exact h
  unfold ai_m
  rw [List.getElem?_eq_getElem hl]
  rfl
theorem ai_vw {y : Nat} (h : y < 203) : ai_vc[ai_view y]? = some (ai_name y).cls := by
  have h1 := List.all_eq_true.mp ai_okv_all y (List.mem_range.mpr h)
  rw [ai_m_at h] at h1
  exact of_decide_eq_true h1
theorem ai_w_code {y : Nat} (h : y < 202) : Cond.code (ai_name y) (ai_code y) (ai_L y) (ai_ret y) ∈ ai_T := by
  by_cases hb : 198 ≤ y
  · exact ai_big y hb h
  have h1 := ai_okd_all y (by omega)
  unfold ai_okd at h1
  rw [ai_m_at (by omega)] at h1
  split at h1
  · rename_i q w hq hw
    cases hq
    exact ai_has_in h1
  · cases h1
theorem ai_yok {y : Nat} (h : y < 202) : Cond.initialized (ai_name y).cls ∈ ai_T ∧ (ai_name y).cls ≠ "java/lang/invoke/MethodHandle" ∧ (ai_name y).cls ≠ "java/lang/invoke/VarHandle" ∧ plainFor (ai_name y) = true ∧ (parseMethodDescriptor (ai_name y).desc).map (fun d => d.parameters.length) = some (ai_n y) ∧ (ai_kind y = 0 → Cond.static (ai_name y) ∈ ai_T) ∧ (ai_kind y ≠ 0 → Cond.instanceMethod (ai_name y) ∈ ai_T ∧ ∃ r, vwCl[ai_ci y]? = some r) ∧ (ai_kind y = 1 → (ai_name y).name ≠ "<init>") ∧ (ai_kind y = 2 → (ai_name y).name = "<init>" ∧ ai_ret y = none) ∧ ai_kind y ≤ 2 := by
  have h1 := List.all_eq_true.mp ai_okm_all y (List.mem_range.mpr h)
  unfold ai_okm at h1
  rw [ai_m_at (by omega)] at h1
  split at h1
  · rename_i q a b c d hq hw
    cases hq
    simp only [Bool.and_eq_true, decide_eq_true_eq] at h1
    obtain ⟨⟨⟨⟨⟨⟨h2, h3⟩, h4⟩, h5⟩, h6⟩, h7⟩, h8⟩ := h1
    refine ⟨ai_has_in h2, h3, h4, h5, h6, fun k => ?_, fun k => ?_, fun k => ?_, fun k => ?_, ?_⟩
    · have k' : (ai_m y).2.2.2.2.2.1 = 0 := k
      rw [if_pos k'] at h8
      exact ai_has_in h8
    · have k' : ¬ (ai_m y).2.2.2.2.2.1 = 0 := k
      rw [if_neg k'] at h8
      simp only [Bool.and_eq_true] at h8
      exact ⟨ai_has_in h8.1.1, Option.isSome_iff_exists.mp h8.1.2⟩
    · have k' : (ai_m y).2.2.2.2.2.1 = 1 := k
      rw [if_neg (by rw [k']; decide), if_pos k'] at h8
      simp only [Bool.and_eq_true, decide_eq_true_eq] at h8
      exact h8.2
    · have k' : (ai_m y).2.2.2.2.2.1 = 2 := k
      rw [if_neg (by rw [k']; decide), if_neg (by rw [k']; decide)] at h8
      simp only [Bool.and_eq_true, decide_eq_true_eq] at h8
      exact h8.2
    · have := List.all_eq_true.mp ai_kind_all y (List.mem_range.mpr h)
      exact of_decide_eq_true this
  · cases h1
end
section
/-! One instruction of the plain machine, done by the JVM. -/
def ai_Z (U : State) : Prop := va_AO RX0 U ∧ (∀ q ∈ ai_nest, va_Nw (.methodLinkNest q.1 q.2.1 q.2.2 "StoryCoroner") U) ∧ va_Nw (.castable "[B" "java/lang/Cloneable") U
theorem ai_Z.warm {s U : State} (hW : s.WarmedH U.vm) (h : ai_Z s) : ai_Z U := ⟨h.1.moved hW.alike, fun q hq => va_Nw.warmM hW (h.2.1 q hq), va_Nw.warmC hW h.2.2⟩
theorem ai_Z.same {u U : State} (hvm : u.vm = U.vm) (h : ai_Z u) : ai_Z U := ⟨h.1.moved (by rw [hvm]; exact Vm.Alike.refl U.vm), fun q hq => va_Nw.same rfl hvm (h.2.1 q hq), va_Nw.same rfl hvm h.2.2⟩
def ai_tys (cI cB cY : ClassId) : List (ClassId × FieldType) := [(cI, .int), (cB, .object RX0), (cY, .byte)]
/-! what stood before the law began, and is never written -/
def ai_tlen : List Nat := ai_tx.map fun q => q.2.2.length
def ai_tby : List (List Int32) := ai_tx.map fun q => q.2.2
def ai_Y (b : ai_B) (N : Nat) (A : Nat → Prop) (U : State) (H : Heap) : Prop :=
  (va_X (b.2.1 0) (ai_dec N).length (fun j => (ai_dec N).getD j 0) U H ∧ b.2.1 0 < H.size ∧ ¬ A (b.2.1 0)) ∧
  (∀ i q, ai_tx[i]? = some q → vk_R "StoryCoronerLaw" q.1 q.2.1 (b.2.1 (i + 1)) U) ∧
  vk_S 10 ai_tlen ai_tby (fun i => b.2.1 (i + 1)) (fun i => b.2.1 (i + 11)) A U H ∧
  va_Z "java/lang/String" "COMPACT_STRINGS" "Z" (.int 1) A U H ∧
  va_Z "java/lang/Integer" "DigitOnes" "[B" (.ref (b.2.1 21)) A U H ∧
  va_Z "java/lang/Integer" "DigitTens" "[B" (.ref (b.2.1 22)) A U H ∧
  va_Z "jdk/internal/util/Preconditions" "SIOOBE_FORMATTER" "Ljava/util/function/BiFunction;" (va_rf b.2.2) A U H ∧
  va_T .byte (b.2.1 21) 100 (fun j => .int (ai_d1.getD j 0)) A U H ∧
  va_T .byte (b.2.1 22) 100 (fun j => .int (ai_d10.getD j 0)) A U H
theorem ai_Y.warm {b : ai_B} {N : Nat} {A : Nat → Prop} {s U : State} {H : Heap} (hW : s.WarmedH U.vm) (h : ai_Y b N A s H) : ai_Y b N A U H := by
  obtain ⟨⟨h1, h2, h3⟩, h4, h5, h6, h7, h8, h9, h10, h11⟩ := h
  exact ⟨⟨h1.moved hW.alike, h2, h3⟩, fun i q hq => (h4 i q hq).warm hW, h5.moved hW.alike, h6.moved hW.alike, h7.moved hW.alike, h8.moved hW.alike, h9.moved hW.alike, h10.moved hW.alike, h11.moved hW.alike⟩
theorem ai_Y.same {b : ai_B} {N : Nat} {A : Nat → Prop} {u U : State} {H : Heap} (hvm : u.vm = U.vm) (h : ai_Y b N A u H) : ai_Y b N A U H := by
  obtain ⟨⟨h1, h2, h3⟩, h4, h5, h6, h7, h8, h9, h10, h11⟩ := h
  have hA : u.vm.Alike U.vm := by rw [hvm]; exact Vm.Alike.refl U.vm
  exact ⟨⟨h1.moved hA, h2, h3⟩, fun i q hq => (h4 i q hq).same hvm.symm, h5.moved hA, h6.moved hA, h7.moved hA, h8.moved hA, h9.moved hA, h10.moved hA, h11.moved hA⟩
theorem ai_Y.kept {b : ai_B} {N : Nat} {A : Nat → Prop} {U : State} {H H1 : Heap} (h : ai_Y b N A U H) (hz : H.size ≤ H1.size) (hq : ∀ a : Nat, a < H.size → ¬ A a → H1[a]? = H[a]?) : ai_Y b N A U H1 := by
  obtain ⟨⟨h1, h2, h3⟩, h4, h5, h6, h7, h8, h9, h10, h11⟩ := h
  exact ⟨⟨h1.kept (hq _ h2 h3), Nat.lt_of_lt_of_le h2 hz, h3⟩, h4, h5.kept hq, h6.kept hq, h7.kept hq, h8.kept hq, h9.kept hq, h10.kept hq, h11.kept hq⟩
theorem ai_Y.narrow {b : ai_B} {N : Nat} {A B : Nat → Prop} {U : State} {H : Heap} (h : ai_Y b N A U H) (hAB : ∀ q, B q → A q) : ai_Y b N B U H := by
  obtain ⟨⟨h1, h2, h3⟩, h4, h5, h6, h7, h8, h9, h10, h11⟩ := h
  exact ⟨⟨h1, h2, fun z => h3 (hAB _ z)⟩, h4, h5.narrow hAB, h6.narrow hAB, h7.narrow hAB, h8.narrow hAB, h9.narrow hAB, h10.narrow hAB, h11.narrow hAB⟩
/-- a value that the machine may have: of scripts the law's own alone -/
def ai_gv (N : Nat) (v : Value) : Prop := ∀ k, v = .retAddr k → k ≤ 23 ∨ k = 24 + N
theorem ai_gv_i {N : Nat} {x : Int32} : ai_gv N (.int x) := fun k h => by cases h
theorem ai_gv_f {N : Nat} {x : UInt32} : ai_gv N (.float x) := fun k h => by cases h
theorem ai_gv_r {N a : Nat} : ai_gv N (.ref a) := fun k h => by cases h
theorem ai_gv_n {N : Nat} : ai_gv N .null := fun k h => by cases h
theorem ai_gv_x {N q : Nat} (h : q ≤ 23) : ai_gv N (.retAddr q) := fun k e => by cases e; exact Or.inl h
def ai_X (p : Program) (l : Launch) (e : Env) (R : Room) (s : State) (m : MethodId) (args : Array Value) (below : List Frame) (meth : Method) (c : Code) (Q : State → Prop) (b : ai_B) (n0 s0 : Nat) (cI cB cY : ClassId) (dC : Nat → ClassId) (dI : Nat → Nat → Nat) (A : Nat → Prop) (pc : Nat) (ls st : List Value) (ws : ai_W) : Prop :=
  ∀ (arr : Array Slot) (H : Heap) (locs : List Loc) (cells slots : Nat), ai_l b ls arr → va_P (dC, dI) vwCl (ai_w b cI cB cY ws) H → va_D A (ai_w b cI cB cY ws) → va_S A s.heap H locs → ws.length = n0 + cells → ai_sl ws = s0 + slots → W p l e R s m args below meth c H locs cells slots Q (F0 m pc arr (st.map (ai_cv b)))
/-- what stays through a method's run -/
def ai_F (p : Program) (R : Room) (s : State) (m : MethodId) (args : Array Value) (meth : Method) (c : Code) (b : ai_B) (N n0 : Nat) (cI cB cY : ClassId) (dC : Nat → ClassId) (dI : Nat → Nat → Nat) (A : Nat → Prop) (y : Nat) : Prop :=
  y < 203 ∧ p.tables.exec = Jvm.exec ∧ c.code = ai_code y ∧ c.maxLocals = ai_L y ∧ s.vm.findClass (ai_name y).cls = some m.cls ∧ (∀ w ∈ ai_T, w.before args s = true) ∧ va_K (dC, dI) vwCl (ai_tys cI cB cY) s ∧ meth.sig.returnType = ai_ret y ∧ meth.locks = false ∧ (ai_kind y = 2 → meth.name = "<init>") ∧ ai_Z s ∧ (∀ q, s.heap.size ≤ q → A q) ∧ (∀ q, A q → b.1 ≤ q) ∧ s.heap.size = b.1 + n0 ∧ ai_fr y ≤ R.frames ∧ ai_lo y ≤ R.locals ∧ ai_Y b N A s s.heap
section AIS
variable {p : Program} {l : Launch} {e : Env} {R : Room} {s : State} {m : MethodId} {args : Array Value} {below : List Frame} {meth : Method} {c : Code} {Q : State → Prop} {b : ai_B} {N n0 s0 : Nat} {cI cB cY : ClassId} {dC : Nat → ClassId} {dI : Nat → Nat → Nat} {A : Nat → Prop}
theorem ai_lda_ok {n k pc pc2 : Nat} {ls st ls2 st2 : List Value} {ws ws2 : ai_W} (row : ∀ {H : Heap} {locs : List Loc} {cells slots : Nat} {arr : Array Slot} {rest : List Value} {a : Nat}, arr[k]? = some (.val (.ref a)) → W p l e R s m args below meth c H locs cells slots Q (F0 m (pc + n) arr (.ref a :: rest)) → W p l e R s m args below meth c H locs cells slots Q (F0 m pc arr rest)) (h : ai_lda n k pc ls st ws = some (.inr (.inl (pc2, ls2, st2, ws2)))) (kk : ai_X p l e R s m args below meth c Q b n0 s0 cI cB cY dC dI A pc2 ls2 st2 ws2) : ai_X p l e R s m args below meth c Q b n0 s0 cI cB cY dC dI A pc ls st ws := by
  unfold ai_lda ai_go at h
  split at h
  · rename_i a ha
    cases h
    intro arr H locs cells slots hl hP hD hS h1 h2
    exact row (hl.2.2 k _ ha rfl) (kk arr H locs cells slots hl hP hD hS h1 h2)
  · rename_i q ha
    split at h
    · cases h
    · rename_i h23
      cases h
      intro arr H locs cells slots hl hP hD hS h1 h2
      have ha2 := hl.2.2 k _ ha rfl
      rw [ai_cv_x h23] at ha2
      have := kk arr H locs cells slots hl hP hD hS h1 h2
      rw [List.map_cons, ai_cv_x h23] at this
      exact row ha2 this
  · cases h
theorem ai_ldi_ok {n k pc pc2 : Nat} {ls st ls2 st2 : List Value} {ws ws2 : ai_W} (row : ∀ {H : Heap} {locs : List Loc} {cells slots : Nat} {arr : Array Slot} {rest : List Value} {a : Int32}, arr[k]? = some (.val (.int a)) → W p l e R s m args below meth c H locs cells slots Q (F0 m (pc + n) arr (.int a :: rest)) → W p l e R s m args below meth c H locs cells slots Q (F0 m pc arr rest)) (h : ai_ldi n k pc ls st ws = some (.inr (.inl (pc2, ls2, st2, ws2)))) (kk : ai_X p l e R s m args below meth c Q b n0 s0 cI cB cY dC dI A pc2 ls2 st2 ws2) : ai_X p l e R s m args below meth c Q b n0 s0 cI cB cY dC dI A pc ls st ws := by
  unfold ai_ldi ai_go at h
  split at h
  · rename_i a ha
    cases h
    intro arr H locs cells slots hl hP hD hS h1 h2
    exact row (hl.2.2 k _ ha rfl) (kk arr H locs cells slots hl hP hD hS h1 h2)
  · cases h
theorem ai_ldf_ok {n k pc pc2 : Nat} {ls st ls2 st2 : List Value} {ws ws2 : ai_W} (row : ∀ {H : Heap} {locs : List Loc} {cells slots : Nat} {arr : Array Slot} {rest : List Value} {a : UInt32}, arr[k]? = some (.val (.float a)) → W p l e R s m args below meth c H locs cells slots Q (F0 m (pc + n) arr (.float a :: rest)) → W p l e R s m args below meth c H locs cells slots Q (F0 m pc arr rest)) (h : ai_ldf n k pc ls st ws = some (.inr (.inl (pc2, ls2, st2, ws2)))) (kk : ai_X p l e R s m args below meth c Q b n0 s0 cI cB cY dC dI A pc2 ls2 st2 ws2) : ai_X p l e R s m args below meth c Q b n0 s0 cI cB cY dC dI A pc ls st ws := by
  unfold ai_ldf ai_go at h
  split at h
  · rename_i a ha
    cases h
    intro arr H locs cells slots hl hP hD hS h1 h2
    exact row (hl.2.2 k _ ha rfl) (kk arr H locs cells slots hl hP hD hS h1 h2)
  · cases h
theorem ai_sti_ok {n k pc pc2 : Nat} {ls st ls2 st2 : List Value} {ws ws2 : ai_W} (row : ∀ {H : Heap} {locs : List Loc} {cells slots nL : Nat} {arr : Array Slot} {rest : List Value} {a : Int32} {lv : List (Nat × Value)}, lv_has arr nL lv → k < nL → (∀ arr2 : Array Slot, lv_has arr2 nL ((k, Value.int a) :: lv.filter (fun q => !(q.1 == k) && !(q.1 + 1 == k && q.2.category == 2))) → W p l e R s m args below meth c H locs cells slots Q (F0 m (pc + n) arr2 rest)) → W p l e R s m args below meth c H locs cells slots Q (F0 m pc arr (.int a :: rest))) (h : ai_sti n k pc ls st ws = some (.inr (.inl (pc2, ls2, st2, ws2)))) (kk : ai_X p l e R s m args below meth c Q b n0 s0 cI cB cY dC dI A pc2 ls2 st2 ws2) : ai_X p l e R s m args below meth c Q b n0 s0 cI cB cY dC dI A pc ls st ws := by
  unfold ai_sti ai_go at h
  split at h
  · split at h
    · rename_i x st hk
      cases h
      intro arr H locs cells slots hl hP hD hS h1 h2
      exact row (ai_l_has hl) hk (fun arr2 h3 => kk arr2 H locs cells slots (ai_l_store (v := .int x) hk rfl h3) hP hD hS h1 h2)
    · cases h
  · cases h
theorem ai_stf_ok {n k pc pc2 : Nat} {ls st ls2 st2 : List Value} {ws ws2 : ai_W} (row : ∀ {H : Heap} {locs : List Loc} {cells slots nL : Nat} {arr : Array Slot} {rest : List Value} {a : UInt32} {lv : List (Nat × Value)}, lv_has arr nL lv → k < nL → (∀ arr2 : Array Slot, lv_has arr2 nL ((k, Value.float a) :: lv.filter (fun q => !(q.1 == k) && !(q.1 + 1 == k && q.2.category == 2))) → W p l e R s m args below meth c H locs cells slots Q (F0 m (pc + n) arr2 rest)) → W p l e R s m args below meth c H locs cells slots Q (F0 m pc arr (.float a :: rest))) (h : ai_stf n k pc ls st ws = some (.inr (.inl (pc2, ls2, st2, ws2)))) (kk : ai_X p l e R s m args below meth c Q b n0 s0 cI cB cY dC dI A pc2 ls2 st2 ws2) : ai_X p l e R s m args below meth c Q b n0 s0 cI cB cY dC dI A pc ls st ws := by
  unfold ai_stf ai_go at h
  split at h
  · split at h
    · rename_i x st hk
      cases h
      intro arr H locs cells slots hl hP hD hS h1 h2
      exact row (ai_l_has hl) hk (fun arr2 h3 => kk arr2 H locs cells slots (ai_l_store (v := .float x) hk rfl h3) hP hD hS h1 h2)
    · cases h
  · cases h
theorem ai_sta_ok {n k pc pc2 : Nat} {ls st ls2 st2 : List Value} {ws ws2 : ai_W} (row : ∀ {H : Heap} {locs : List Loc} {cells slots nL : Nat} {arr : Array Slot} {rest : List Value} {a : Nat} {lv : List (Nat × Value)}, lv_has arr nL lv → k < nL → (∀ arr2 : Array Slot, lv_has arr2 nL ((k, Value.ref a) :: lv.filter (fun q => !(q.1 == k) && !(q.1 + 1 == k && q.2.category == 2))) → W p l e R s m args below meth c H locs cells slots Q (F0 m (pc + n) arr2 rest)) → W p l e R s m args below meth c H locs cells slots Q (F0 m pc arr (.ref a :: rest))) (h : ai_sta n k pc ls st ws = some (.inr (.inl (pc2, ls2, st2, ws2)))) (kk : ai_X p l e R s m args below meth c Q b n0 s0 cI cB cY dC dI A pc2 ls2 st2 ws2) : ai_X p l e R s m args below meth c Q b n0 s0 cI cB cY dC dI A pc ls st ws := by
  unfold ai_sta ai_go at h
  split at h
  · split at h
    · rename_i x st hk
      cases h
      intro arr H locs cells slots hl hP hD hS h1 h2
      exact row (ai_l_has hl) hk (fun arr2 h3 => kk arr2 H locs cells slots (ai_l_store (v := .ref x) hk rfl h3) hP hD hS h1 h2)
    · cases h
  · cases h
theorem ai_bin_ok {pc pc2 : Nat} {f : Int32 → Int32 → Option Int32} {ls st ls2 st2 : List Value} {ws ws2 : ai_W} (row : ∀ {H : Heap} {locs : List Loc} {cells slots : Nat} {arr : Array Slot} {rest : List Value} {x y z : Int32}, f x y = some z → W p l e R s m args below meth c H locs cells slots Q (F0 m (pc + 1) arr (.int z :: rest)) → W p l e R s m args below meth c H locs cells slots Q (F0 m pc arr (.int y :: .int x :: rest))) (h : ai_bin f pc ls st ws = some (.inr (.inl (pc2, ls2, st2, ws2)))) (kk : ai_X p l e R s m args below meth c Q b n0 s0 cI cB cY dC dI A pc2 ls2 st2 ws2) : ai_X p l e R s m args below meth c Q b n0 s0 cI cB cY dC dI A pc ls st ws := by
  unfold ai_bin ai_go at h
  split at h
  · split at h
    · rename_i hz
      cases h
      intro arr H locs cells slots hl hP hD hS h1 h2
      exact row hz (kk arr H locs cells slots hl hP hD hS h1 h2)
    · cases h
  · cases h
theorem ai_fb_ok {pc pc2 : Nat} {f : UInt32 → UInt32 → UInt32} {ls st ls2 st2 : List Value} {ws ws2 : ai_W} (row : ∀ {H : Heap} {locs : List Loc} {cells slots : Nat} {arr : Array Slot} {rest : List Value} {x y : UInt32}, vf_n32 (f x y) → W p l e R s m args below meth c H locs cells slots Q (F0 m (pc + 1) arr (.float (f x y) :: rest)) → W p l e R s m args below meth c H locs cells slots Q (F0 m pc arr (.float y :: .float x :: rest))) (h : ai_fb f pc ls st ws = some (.inr (.inl (pc2, ls2, st2, ws2)))) (kk : ai_X p l e R s m args below meth c Q b n0 s0 cI cB cY dC dI A pc2 ls2 st2 ws2) : ai_X p l e R s m args below meth c Q b n0 s0 cI cB cY dC dI A pc ls st ws := by
  unfold ai_fb ai_go at h
  split at h
  · split at h
    · rename_i hz
      cases h
      intro arr H locs cells slots hl hP hD hS h1 h2
      exact row hz (kk arr H locs cells slots hl hP hD hS h1 h2)
    · cases h
  · cases h
theorem ai_tgt_of {pc t : Nat} {off : Int} (h : ai_tgt pc off = some t) : (pc : Int) + off = (t : Int) := by
  unfold ai_tgt at h
  split at h
  · rename_i q hq
    cases h
    exact hq
  · cases h
theorem ai_jmp_ok {pc pc2 : Nat} {off : Int} {t : Bool} {pre ls st ls2 st2 : List Value} {ws ws2 : ai_W} (row : ∀ {H : Heap} {locs : List Loc} {cells slots tgt : Nat} {arr : Array Slot} {rest : List Value}, (pc : Int) + off = (tgt : Int) → W p l e R s m args below meth c H locs cells slots Q (F0 m (if t = true then tgt else pc + 3) arr rest) → W p l e R s m args below meth c H locs cells slots Q (F0 m pc arr (pre.map (ai_cv b) ++ rest))) (h : ai_jmp pc off t ls st ws = some (.inr (.inl (pc2, ls2, st2, ws2)))) (kk : ai_X p l e R s m args below meth c Q b n0 s0 cI cB cY dC dI A pc2 ls2 st2 ws2) : ai_X p l e R s m args below meth c Q b n0 s0 cI cB cY dC dI A pc ls (pre ++ st) ws := by
  unfold ai_jmp ai_go at h
  split at h
  · rename_i q hq
    cases h
    intro arr H locs cells slots hl hP hD hS h1 h2
    rw [List.map_append]
    exact row (ai_tgt_of hq) (kk arr H locs cells slots hl hP hD hS h1 h2)
  · cases h
theorem ai_cmp_row {cc : ByteArray} {pc : Nat} {cd : Jvm.ClassFile.Cond} {off : Int} (hx : p.tables.exec = Jvm.exec) (hb : c.code = cc) (hd : decode cc pc = .ok (.if_icmp cd off, 3)) {x y : Int32} {H : Heap} {locs : List Loc} {cells slots tgt : Nat} {arr : Array Slot} {rest : List Value} (ht : (pc : Int) + off = (tgt : Int)) (k : W p l e R s m args below meth c H locs cells slots Q (F0 m (if ai_cmp cd x y = true then tgt else pc + 3) arr rest)) : W p l e R s m args below meth c H locs cells slots Q (F0 m pc arr (.int y :: .int x :: rest)) := by
  cases cd
  · refine lv_icmp_eq hx hb hd ht (fun h => ?_) (fun h => ?_)
    · rw [if_pos (show ai_cmp .eq x y = true from decide_eq_true h)] at k; exact k
    · rw [if_neg (by rw [show ai_cmp .eq x y = false from decide_eq_false h]; decide)] at k; exact k
  · refine lv_icmp_ne hx hb hd ht (fun h => ?_) (fun h => ?_)
    · rw [if_pos (show ai_cmp .ne x y = true from decide_eq_true h)] at k; exact k
    · rw [if_neg (by rw [show ai_cmp .ne x y = false from decide_eq_false (by simpa using h)]; decide)] at k; exact k
  · refine lv_icmp_lt hx hb hd ht (fun h => ?_) (fun h => ?_)
    · rw [if_pos (show ai_cmp .lt x y = true from decide_eq_true h)] at k; exact k
    · rw [if_neg (by rw [show ai_cmp .lt x y = false from decide_eq_false h]; decide)] at k; exact k
  · refine lv_icmp_ge hx hb hd ht (fun h => ?_) (fun h => ?_)
    · rw [if_pos (show ai_cmp .ge x y = true from decide_eq_true h)] at k; exact k
    · rw [if_neg (by rw [show ai_cmp .ge x y = false from decide_eq_false h]; decide)] at k; exact k
  · refine lv_icmp_gt hx hb hd ht (fun h => ?_) (fun h => ?_)
    · rw [if_pos (show ai_cmp .gt x y = true from decide_eq_true h)] at k; exact k
    · rw [if_neg (by rw [show ai_cmp .gt x y = false from decide_eq_false h]; decide)] at k; exact k
  · refine lv_icmp_le hx hb hd ht (fun h => ?_) (fun h => ?_)
    · rw [if_pos (show ai_cmp .le x y = true from decide_eq_true h)] at k; exact k
    · rw [if_neg (by rw [show ai_cmp .le x y = false from decide_eq_false h]; decide)] at k; exact k
theorem ai_if_row {cc : ByteArray} {pc : Nat} {cd : Jvm.ClassFile.Cond} {off : Int} (hx : p.tables.exec = Jvm.exec) (hb : c.code = cc) (hd : decode cc pc = .ok (.ifCond cd off, 3)) {x : Int32} {H : Heap} {locs : List Loc} {cells slots tgt : Nat} {arr : Array Slot} {rest : List Value} (ht : (pc : Int) + off = (tgt : Int)) (k : W p l e R s m args below meth c H locs cells slots Q (F0 m (if ai_cmp cd x 0 = true then tgt else pc + 3) arr rest)) : W p l e R s m args below meth c H locs cells slots Q (F0 m pc arr (.int x :: rest)) := by
  cases cd
  · refine lv_if_eq hx hb hd ht (fun h => ?_) (fun h => ?_)
    · rw [if_pos (show ai_cmp .eq x 0 = true from decide_eq_true h)] at k; exact k
    · rw [if_neg (by rw [show ai_cmp .eq x 0 = false from decide_eq_false h]; decide)] at k; exact k
  · refine lv_if_ne hx hb hd ht (fun h => ?_) (fun h => ?_)
    · rw [if_pos (show ai_cmp .ne x 0 = true from decide_eq_true h)] at k; exact k
    · rw [if_neg (by rw [show ai_cmp .ne x 0 = false from decide_eq_false (by simpa using h)]; decide)] at k; exact k
  · refine lv_if_lt hx hb hd ht (fun h => ?_) (fun h => ?_)
    · rw [if_pos (show ai_cmp .lt x 0 = true from decide_eq_true h)] at k; exact k
    · rw [if_neg (by rw [show ai_cmp .lt x 0 = false from decide_eq_false h]; decide)] at k; exact k
  · refine lv_if_ge hx hb hd ht (fun h => ?_) (fun h => ?_)
    · rw [if_pos (show ai_cmp .ge x 0 = true from decide_eq_true h)] at k; exact k
    · rw [if_neg (by rw [show ai_cmp .ge x 0 = false from decide_eq_false h]; decide)] at k; exact k
  · refine lv_if_gt hx hb hd ht (fun h => ?_) (fun h => ?_)
    · rw [if_pos (show ai_cmp .gt x 0 = true from decide_eq_true h)] at k; exact k
    · rw [if_neg (by rw [show ai_cmp .gt x 0 = false from decide_eq_false h]; decide)] at k; exact k
  · refine lv_if_le hx hb hd ht (fun h => ?_) (fun h => ?_)
    · rw [if_pos (show ai_cmp .le x 0 = true from decide_eq_true h)] at k; exact k
    · rw [if_neg (by rw [show ai_cmp .le x 0 = false from decide_eq_false h]; decide)] at k; exact k
end AIS
end
section
/-! Cells: fields, arrays, new ones. -/
theorem ai_f_of {y i ci k wi : Nat} (hy : y < 203) (h : ai_lk ai_vf (ai_view y) i = some (ci, k, wi)) : ∃ r : vw_C, vwCl[ci]? = some r ∧ k < r.2.2 ∧ Cond.fieldLink (ai_name y).cls i (r.2.1 k).1 (r.2.1 k).2.1 (r.2.1 k).2.2.1 ∈ ai_T ∧ ((r.2.1 k).2.2.2 = true → (r.2.1 k).1 = r.1) := by
  obtain ⟨l, h1, h2⟩ := ai_lk_mem h
  have hl : ai_view y < ai_vf.length := (List.getElem?_eq_some_iff.mp h1).1
  have h3 := List.all_eq_true.mp ai_okf_all _ (List.mem_range.mpr hl)
  rw [h1] at h3
  have h4 := List.all_eq_true.mp h3 _ h2
  unfold ai_okf at h4
  rw [ai_vw hy] at h4
  split at h4
  · rename_i own r hown hr
    cases hown
    simp only [Bool.and_eq_true, decide_eq_true_eq, Bool.or_eq_true, Bool.not_eq_true'] at h4
    refine ⟨r, hr, h4.1.1, ai_has_in h4.1.2, fun hf => ?_⟩
    rcases h4.2 with h5 | h5
    · rw [hf] at h5
      cases h5
    · exact h5
  · cases h4
theorem ai_c_of {ci : Nat} {r : vw_C} (h : vwCl[ci]? = some r) : (∀ w ∈ u_ws r.1 r.2.1 r.2.2, w ∈ ai_T) ∧ (∀ k, k < r.2.2 → parseFieldDescriptor (r.2.1 k).2.2.1 = some ((parseFieldDescriptor (r.2.1 k).2.2.1).getD .int)) ∧ ∀ a, a < r.2.2 → ∀ b, b < r.2.2 → a ≠ b → (r.2.1 a).2.1 ≠ (r.2.1 b).2.1 := by
  have h1 := List.all_eq_true.mp ai_okc_all r (List.mem_of_getElem? h)
  unfold ai_okc at h1
  rw [Bool.and_eq_true] at h1
  refine ⟨fun w hw => ?_, fun k hk => ?_, fun a ha b hb hab => ?_⟩
  · have h2 := List.all_eq_true.mp h1.1 w hw
    rw [Bool.and_eq_true, decide_eq_true_eq] at h2
    exact List.mem_filter.mpr ⟨List.mem_append_left _ h2.1, h2.2⟩
  · have h2 := List.all_eq_true.mp h1.2 k (List.mem_range.mpr hk)
    rw [Bool.and_eq_true] at h2
    obtain ⟨t, ht⟩ := Option.isSome_iff_exists.mp h2.1
    rw [ht]
    rfl
  · have h2 := List.all_eq_true.mp h1.2 a (List.mem_range.mpr ha)
    rw [Bool.and_eq_true] at h2
    have h3 := List.all_eq_true.mp h2.2 b (List.mem_range.mpr hb)
    simp only [Bool.or_eq_true, decide_eq_true_eq] at h3
    rcases h3 with h3 | h3
    · exact absurd h3 hab
    · exact h3
theorem ai_cl_at {ci : Nat} {r : vw_C} (h : vwCl[ci]? = some r) : ai_cl ci = r := by
  unfold ai_cl
  rw [h]
  rfl
theorem ai_n_of {y i ci w1 w2 w3 : Nat} (hy : y < 203) (h : ai_lk ai_vn (ai_view y) i = some (ci, w1, w2, w3)) : ∃ r : vw_C, vwCl[ci]? = some r ∧ Cond.classLink (ai_name y).cls i r.1 ∈ ai_T ∧ Cond.instantiable r.1 r.2.2 ∈ ai_T ∧ Cond.initialized r.1 ∈ ai_T := by
  obtain ⟨l, h1, h2⟩ := ai_lk_mem h
  have hl : ai_view y < ai_vn.length := (List.getElem?_eq_some_iff.mp h1).1
  have h3 := List.all_eq_true.mp ai_okn_all _ (List.mem_range.mpr hl)
  rw [h1] at h3
  have h4 := List.all_eq_true.mp h3 _ h2
  unfold ai_okn at h4
  rw [ai_vw hy] at h4
  split at h4
  · rename_i own r hown hr
    cases hown
    simp only [Bool.and_eq_true] at h4
    exact ⟨r, hr, ai_has_in h4.1.1, ai_has_in h4.1.2, ai_has_in h4.2⟩
  · cases h4
theorem ai_ix_in {i : Int32} {n j : Nat} (h : ai_ix i n = some j) : vp_in i n ∧ j = i.toNatClampNeg ∧ j < n := by
  unfold ai_ix at h
  split at h
  · cases h
  · rename_i h1
    cases h
    exact ⟨h1, rfl, by omega⟩
theorem ai_ne77 {ci : Nat} {r : vw_C} (h : vwCl[ci]? = some r) : ¬ ci = 77 := by
  have h1 := (List.getElem?_eq_some_iff.mp h).1
  have h2 : vwCl.length = 13 := rfl
  omega
theorem ai_w_geto {b : ai_B} {cI cB cY : ClassId} {ws : ai_W} {k ci : Nat} {fs : List Value} (h : ws[k]? = some (.inr (.inr (ci, fs)))) (h7 : ¬ ci = 77) : (ai_w b cI cB cY ws)[k]? = some (b.1 + k, .inr (ci, fs.map (ai_cv b))) := by
  rw [ai_w_get h, ai_e_o h7]
theorem ai_w_getb {b : ai_B} {cI cB cY : ClassId} {ws : ai_W} {k : Nat} {fs : List Value} (h : ws[k]? = some (.inr (.inr (77, fs)))) : (ai_w b cI cB cY ws)[k]? = some (b.1 + k, .inl (cY, fs.length, .inl (fun j => ai_iv (fs.getD j .null)))) := by
  rw [ai_w_get h, ai_e_b]
theorem ai_own_all : (List.range 203).all (fun y => decide (ai_kind y = 2 → ai_ci y = 11 ∨ ai_cn (ai_ci y) = (ai_name y).cls)) = true := by decide +kernel
theorem ai_own {y k : Nat} {r : vw_C} (hy : y < 203) (hk : ai_kind y = 2) (hr : vwCl[ai_ci y]? = some r) (hf : (r.2.1 k).2.2.2 = true) : r.1 = (ai_name y).cls := by
  rcases of_decide_eq_true (List.all_eq_true.mp ai_own_all y (List.mem_range.mpr hy)) hk with h | h
  · rw [h] at hr
    cases hr
    exfalso
    revert hf
    show (TJ4 k).2.2.2 = true → False
    unfold TJ4
    split <;> exact fun h => by cases h
  · unfold ai_cn at h
    rw [hr] at h
    exact h
theorem ai_cv_nar {b : ai_B} {ty : FieldType} {v : Value} (h : ai_pok (some ty) v = true) : narrow ty (ai_cv b v) = ai_cv b v ∧ fits ty (ai_cv b v) = true := by
  cases ty <;> cases v <;> first
    | (cases h; done)
    | exact ⟨rfl, rfl⟩
    | (simp only [ai_pok, Bool.or_eq_true, beq_iff_eq] at h; rcases h with rfl | rfl <;> exact ⟨rfl, rfl⟩)
    | (simp only [ai_pok, decide_eq_true_eq] at h; rw [← h]; exact ⟨pk_nb _, pk_fb _⟩)
    | (simp only [ai_pok, decide_eq_true_eq] at h; rw [← h]; exact ⟨pk_nc _, pk_fc _⟩)
theorem ai_fit8 {v : Value} (h : ai_fb8 v = true) : fits .byte (.int (ai_iv v)) = true := by
  cases v <;> first
    | (cases h; done)
    | (simp only [ai_fb8, decide_eq_true_eq] at h; simp only [ai_iv]; rw [← h]; exact pk_fb _)
/-- every field's first value -/
def ai_dvk (r : vw_C) : Bool := (List.range r.2.2).all fun k => match parseFieldDescriptor (r.2.1 k).2.2.1 with
  | some ty => decide (defaultValue ty = ai_dv (some ty))
  | none => false
theorem ai_dvk_all : vwCl.all ai_dvk = true := by decide +kernel
theorem ai_dv_cv {b : ai_B} {t : Option FieldType} : ai_cv b (ai_dv t) = ai_dv t := by
  cases t with
  | none => rfl
  | some t => cases t <;> rfl
theorem ai_dv_ok {b : ai_B} {ci : Nat} {r : vw_C} (h : vwCl[ci]? = some r) (j : Nat) (hj : j < r.2.2) {ty : FieldType} (hty : parseFieldDescriptor (r.2.1 j).2.2.1 = some ty) : defaultValue ty = ai_cv b (ai_dv (some ty)) := by
  have h1 := List.all_eq_true.mp (List.all_eq_true.mp ai_dvk_all r (List.mem_of_getElem? h)) j (List.mem_range.mpr hj)
  rw [hty] at h1
  rw [ai_dv_cv]
  exact of_decide_eq_true h1
section AIS
variable {p : Program} {l : Launch} {e : Env} {R : Room} {s : State} {m : MethodId} {args : Array Value} {below : List Frame} {meth : Method} {c : Code} {Q : State → Prop} {b : ai_B} {N n0 s0 : Nat} {cI cB cY : ClassId} {dC : Nat → ClassId} {dI : Nat → Nat → Nat} {A : Nat → Prop}
theorem ai_get_ok {y i pc pc2 : Nat} {ls st ls2 st2 : List Value} {ws ws2 : ai_W} (hF : ai_F p R s m args meth c b N n0 cI cB cY dC dI A y) (hd : decode (ai_code y) pc = .ok (.getfield i, 3)) (h : ai_in y pc ls st ws (.getfield i) 3 = some (.inr (.inl (pc2, ls2, st2, ws2)))) (kk : ai_X p l e R s m args below meth c Q b n0 s0 cI cB cY dC dI A pc2 ls2 st2 ws2) : ai_X p l e R s m args below meth c Q b n0 s0 cI cB cY dC dI A pc ls st ws := by
  obtain ⟨hy, hx, hb, hml, hown, hts, hK, hr, hlk, hin, hZ, hA, hA2, hz, hR1, hR2, hY⟩ := hF
  simp only [ai_in] at h
  split at h
  · rename_i ci k wi a st hv
    split at h
    · rename_i v hg
      cases h
      obtain ⟨r, r1, r2, r3, r4⟩ := ai_f_of hy hv
      intro arr H locs cells slots hl hP hD hS h1 h2
      unfold ai_fget at hg
      split at hg
      · rename_i cc fs hc
        split at hg
        · rename_i hcc
          subst hcc
          refine va_get (C := r.1) (T := r.2.1) (N := r.2.2) hx hb hts (ai_c_of r1).1 hown hK hP a (ai_w_geto hc (ai_ne77 r1)) r1 k r2 (hts _ r3) (fun _ q => q) (v := ai_cv b v) ?_ hd ?_
          · show (fs.map (ai_cv b))[k]? = _
            rw [List.getElem?_map, (ai_nr_some hg).1]
            rfl
          · exact kk arr H locs cells slots hl hP hD hS h1 h2
        · cases hg
      · cases hg
    · cases h
  · rename_i ci k wi q st hv
    split at h
    · rename_i v hg
      cases h
      obtain ⟨r, r1, r2, r3, r4⟩ := ai_f_of hy hv
      unfold ai_xget at hg
      split at hg
      · rename_i hq
        obtain ⟨q1, q2, rfl⟩ := hq
        cases r1
        intro arr H locs cells slots hl hP hD hS h1 h2
        have hk := kk arr H locs cells slots hl hP hD hS h1 h2
        have hE := hY.2.2.1.1 (q - 1) (by omega)
        rw [List.map_cons, ai_cv_x (show ¬ q = 23 by omega)]
        have e1 : ai_xa b q = b.2.1 (q - 1 + 1) := by
          unfold ai_xa
          rw [if_neg (by omega), show q - 1 + 1 = q by omega]
        rw [e1]
        split at hg
        · rename_i k0
          subst k0
          cases hg
          refine vk_getf (o := "java/lang/String") (n := "value") (d := "[B") hx hb hE.2.2.1 hS hown (hts _ r3) (fun _ q => q) hd ?_
          rw [List.map_cons, ai_cv_x (show ¬ q + 10 = 23 by omega)] at hk
          have e2 : ai_xa b (q + 10) = b.2.1 (q - 1 + 11) := by
            unfold ai_xa
            rw [if_neg (by omega), show q - 1 + 11 = q + 10 by omega]
          rw [e2] at hk
          exact hk
        · split at hg
          · rename_i k1
            subst k1
            cases hg
            exact vk_getf (o := "java/lang/String") (n := "coder") (d := "B") hx hb hE.2.1 hS hown (hts _ r3) (fun _ q => q) hd hk
          · cases hg
      · cases hg
    · cases h
  · cases h
theorem ai_put_ok {y i pc pc2 : Nat} {ls st ls2 st2 : List Value} {ws ws2 : ai_W} (hF : ai_F p R s m args meth c b N n0 cI cB cY dC dI A y) (hd : decode (ai_code y) pc = .ok (.putfield i, 3)) (h : ai_in y pc ls st ws (.putfield i) 3 = some (.inr (.inl (pc2, ls2, st2, ws2)))) (kk : ai_X p l e R s m args below meth c Q b n0 s0 cI cB cY dC dI A pc2 ls2 st2 ws2) : ai_X p l e R s m args below meth c Q b n0 s0 cI cB cY dC dI A pc ls st ws := by
  obtain ⟨hy, hx, hb, hml, hown, hts, hK, hr, hlk, hin, hZ, hA, hA2, hz, hR1, hR2, hY⟩ := hF
  simp only [ai_in] at h
  split at h
  · rename_i ci k wi v a st hv
    split at h
    · rename_i hfin
      split at h
      · rename_i hg
        cases h
        obtain ⟨r, r1, r2, r3, r4⟩ := ai_f_of hy hv
        have hcl := ai_cl_at r1
        intro arr H locs cells slots hl hP hD hS h1 h2
        unfold ai_fput at hg
        split at hg
        · rename_i cc fs hc
          split at hg
          · rename_i hcc
            obtain ⟨e1, hkl, hpo⟩ := hcc
            subst e1
            cases hg
            have c1 := ai_c_of r1
            have hty := c1.2.1 k r2
            generalize (parseFieldDescriptor (r.2.1 k).2.2.1).getD FieldType.int = ty at hty
            have hpo2 : ai_pok (some ty) v = true := by
              rw [← hty, ← hcl]
              exact hpo
            have hnf := ai_cv_nar (b := b) hpo2
            have hkl2 : k < (fs.map (ai_cv b)).length := by rw [List.length_map]; exact hkl
            have hco := ai_w_geto (b := b) (cI := cI) (cB := cB) (cY := cY) hc (ai_ne77 r1)
            have fin : ∀ (H1 : Heap) (locs1 : List Loc), va_P (dC, dI) vwCl ((ai_w b cI cB cY ws).set a (b.1 + a, .inr (cc, (fs.map (ai_cv b)).set k (ai_cv b v)))) H1 → va_D A ((ai_w b cI cB cY ws).set a (b.1 + a, .inr (cc, (fs.map (ai_cv b)).set k (ai_cv b v)))) → va_S A s.heap H1 locs1 → W p l e R s m args below meth c H1 locs1 cells slots Q (F0 m (pc + 3) arr (st2.map (ai_cv b))) := by
              intro H1 locs1 g1 g2 g3
              have e2 : (ai_w b cI cB cY ws).set a (b.1 + a, .inr (cc, (fs.map (ai_cv b)).set k (ai_cv b v))) = ai_w b cI cB cY (ws.set a (.inr (.inr (cc, fs.set k v)))) := by
                rw [← ai_w_set, ← List.map_set, ai_e_o (ai_ne77 r1)]
              rw [e2] at g1 g2
              exact kk arr H1 locs1 cells slots hl g1 g2 g3 (by rw [List.length_set]; exact h1) (by rw [ai_sl_set hc (by simp [ai_sz])]; exact h2)
            cases hfi : (r.2.1 k).2.2.2
            · exact va_put (C := r.1) (T := r.2.1) (N := r.2.2) (ref := (r.2.1 k).1) hx hb hts c1.1 _ c1.2.1 c1.2.2 hown hK hP hD hS a hco r1 k r2 (hts _ r3) (fun _ q => q) hfi hty hnf.1 hnf.2 hkl2 hd fin
            · have hk2 := hfin (by rw [hcl]; exact hfi)
              have hcn : r.1 = (ai_name y).cls := ai_own hy hk2.1 (by rw [hk2.2]; exact r1) hfi
              exact va_putF (C := r.1) (T := r.2.1) (N := r.2.2) (ref := (r.2.1 k).1) hx hb hts c1.1 _ c1.2.1 c1.2.2 hown hK hP hD hS a hco r1 k r2 (hts _ r3) (fun _ q => q) hfi (hin hk2.1) ((r4 hfi).trans hcn) hty hnf.1 hnf.2 hkl2 hd fin
          · cases hg
        · cases hg
      · cases h
    · cases h
  · cases h
theorem ai_iald_ok {y pc pc2 : Nat} {ls st ls2 st2 : List Value} {ws ws2 : ai_W} (hF : ai_F p R s m args meth c b N n0 cI cB cY dC dI A y) (hgs : ∀ v ∈ st, ai_gv N v) (hd : decode (ai_code y) pc = .ok (.iaload, 1)) (h : ai_in y pc ls st ws .iaload 1 = some (.inr (.inl (pc2, ls2, st2, ws2)))) (kk : ai_X p l e R s m args below meth c Q b n0 s0 cI cB cY dC dI A pc2 ls2 st2 ws2) : ai_X p l e R s m args below meth c Q b n0 s0 cI cB cY dC dI A pc ls st ws := by
  obtain ⟨hy, hx, hb, hml, hown, hts, hK, hr, hlk, hin, hZ, hA, hA2, hz, hR1, hR2, hY⟩ := hF
  simp only [ai_in] at h
  split at h
  · rename_i i a st
    split at h
    · rename_i x hg
      cases h
      unfold ai_aget at hg
      split at hg
      · rename_i q hc
        rw [Option.map_eq_some_iff] at hg
        obtain ⟨j, hj, rfl⟩ := hg
        obtain ⟨j1, rfl, j3⟩ := ai_ix_in hj
        intro arr H locs cells slots hl hP hD hS h1 h2
        exact va_iald hx hb hK hP a 0 (ai_w_get hc) rfl j1 hd (kk arr H locs cells slots hl hP hD hS h1 h2)
      · cases hg
    · cases h
  · rename_i i k st
    split at h
    · rename_i x hg
      cases h
      unfold ai_xaget at hg
      split at hg
      · rename_i h24
        rw [Option.map_eq_some_iff] at hg
        obtain ⟨j, hj, rfl⟩ := hg
        obtain ⟨j1, rfl, j3⟩ := ai_ix_in hj
        have hkN : k = 24 + N := by
          rcases hgs (.retAddr k) (List.mem_cons_of_mem _ List.mem_cons_self) k rfl with q | q
          · omega
          · exact q
        subst hkN
        rw [Nat.add_sub_cancel_left] at j1 j3 kk
        intro arr H locs cells slots hl hP hD hS h1 h2
        have hk := kk arr H locs cells slots hl hP hD hS h1 h2
        rw [List.map_cons, List.map_cons, ai_cv_x (show ¬ 24 + N = 23 by omega), show ai_xa b (24 + N) = b.2.1 0 by unfold ai_xa; rw [if_pos (by omega)]]
        exact va_sld hx hb hY.1.1 hY.1.2.1 hY.1.2.2 hS j1 hd hk
      · cases hg
    · cases h
  · cases h
theorem ai_iast_ok {y pc pc2 : Nat} {ls st ls2 st2 : List Value} {ws ws2 : ai_W} (hF : ai_F p R s m args meth c b N n0 cI cB cY dC dI A y) (hd : decode (ai_code y) pc = .ok (.iastore, 1)) (h : ai_in y pc ls st ws .iastore 1 = some (.inr (.inl (pc2, ls2, st2, ws2)))) (kk : ai_X p l e R s m args below meth c Q b n0 s0 cI cB cY dC dI A pc2 ls2 st2 ws2) : ai_X p l e R s m args below meth c Q b n0 s0 cI cB cY dC dI A pc ls st ws := by
  obtain ⟨hy, hx, hb, hml, hown, hts, hK, hr, hlk, hin, hZ, hA, hA2, hz, hR1, hR2, hY⟩ := hF
  simp only [ai_in] at h
  split at h
  · rename_i x i a st
    split at h
    · rename_i hg
      cases h
      unfold ai_aset at hg
      split at hg
      · rename_i q hc
        rw [Option.map_eq_some_iff] at hg
        obtain ⟨j, hj, rfl⟩ := hg
        obtain ⟨j1, rfl, j3⟩ := ai_ix_in hj
        intro arr H locs cells slots hl hP hD hS h1 h2
        refine va_iast hx hb hK hP hD hS a 0 (ai_w_get hc) rfl j1 hd (fun H1 locs1 g1 g2 g3 => ?_)
        have e2 : (b.1 + a, (Sum.inl (cI, q.length, .inl (upd (fun j => q.getD j 0) i.toNatClampNeg x)) : va_E)) = (b.1 + a, ai_e b cI cB cY (.inl (q.set i.toNatClampNeg x))) := by
          have e3 : upd (fun j => q.getD j 0) i.toNatClampNeg x = fun j => (q.set i.toNatClampNeg x).getD j 0 := by
            funext k
            simp only [upd, List.getD_eq_getElem?_getD, List.getElem?_set]
            by_cases hk : k = i.toNatClampNeg
            · subst hk
              simp [j3]
            · simp [hk, Ne.symm hk]
          simp only [ai_e, e3, List.length_set]
        rw [e2, ai_w_set] at g1 g2
        exact kk arr H1 locs1 cells slots hl g1 g2 g3 (by rw [List.length_set]; exact h1) (by rw [ai_sl_set hc (by simp [ai_sz])]; exact h2)
      · cases hg
    · cases h
  · cases h
theorem ai_bald_ok {y pc pc2 : Nat} {ls st ls2 st2 : List Value} {ws ws2 : ai_W} (hF : ai_F p R s m args meth c b N n0 cI cB cY dC dI A y) (hd : decode (ai_code y) pc = .ok (.baload, 1)) (h : ai_in y pc ls st ws .baload 1 = some (.inr (.inl (pc2, ls2, st2, ws2)))) (kk : ai_X p l e R s m args below meth c Q b n0 s0 cI cB cY dC dI A pc2 ls2 st2 ws2) : ai_X p l e R s m args below meth c Q b n0 s0 cI cB cY dC dI A pc ls st ws := by
  obtain ⟨hy, hx, hb, hml, hown, hts, hK, hr, hlk, hin, hZ, hA, hA2, hz, hR1, hR2, hY⟩ := hF
  simp only [ai_in] at h
  split at h
  · rename_i i a st
    split at h
    · rename_i x hg
      cases h
      unfold ai_bget at hg
      split at hg
      · rename_i cc fs hc
        split at hg
        · rename_i h7
          subst h7
          rw [Option.map_eq_some_iff] at hg
          obtain ⟨j, hj, rfl⟩ := hg
          obtain ⟨j1, rfl, j3⟩ := ai_ix_in hj
          intro arr H locs cells slots hl hP hD hS h1 h2
          exact va_bald hx hb hK hP a 2 (ai_w_getb hc) rfl j1 hd (kk arr H locs cells slots hl hP hD hS h1 h2)
        · cases hg
      · cases hg
    · cases h
  · rename_i i k st
    split at h
    · rename_i x hg
      cases h
      unfold ai_xbget at hg
      split at hg
      · rename_i hk
        intro arr H locs cells slots hl hP hD hS h1 h2
        have hkk := kk arr H locs cells slots hl hP hD hS h1 h2
        rw [List.map_cons, List.map_cons, ai_cv_x (show ¬ k = 23 by omega)]
        rcases hk with rfl | rfl
        · have e : ai_xb 21 = some ai_d1 := rfl
          rw [e] at hg
          dsimp only at hg
          rw [Option.map_eq_some_iff] at hg
          obtain ⟨j, hj, rfl⟩ := hg
          obtain ⟨j1, rfl, j3⟩ := ai_ix_in hj
          exact va_tb hx hb hY.2.2.2.2.2.2.2.1 hS j1 rfl hd hkk
        · have e : ai_xb 22 = some ai_d10 := rfl
          rw [e] at hg
          dsimp only at hg
          rw [Option.map_eq_some_iff] at hg
          obtain ⟨j, hj, rfl⟩ := hg
          obtain ⟨j1, rfl, j3⟩ := ai_ix_in hj
          exact va_tb hx hb hY.2.2.2.2.2.2.2.2 hS j1 rfl hd hkk
      · cases hg
    · cases h
  · cases h
theorem ai_bast_ok {y pc pc2 : Nat} {ls st ls2 st2 : List Value} {ws ws2 : ai_W} (hF : ai_F p R s m args meth c b N n0 cI cB cY dC dI A y) (hd : decode (ai_code y) pc = .ok (.bastore, 1)) (h : ai_in y pc ls st ws .bastore 1 = some (.inr (.inl (pc2, ls2, st2, ws2)))) (kk : ai_X p l e R s m args below meth c Q b n0 s0 cI cB cY dC dI A pc2 ls2 st2 ws2) : ai_X p l e R s m args below meth c Q b n0 s0 cI cB cY dC dI A pc ls st ws := by
  obtain ⟨hy, hx, hb, hml, hown, hts, hK, hr, hlk, hin, hZ, hA, hA2, hz, hR1, hR2, hY⟩ := hF
  simp only [ai_in] at h
  split at h
  · rename_i x i a st
    split at h
    · rename_i hg
      cases h
      unfold ai_bset at hg
      split at hg
      · rename_i cc q hc
        split at hg
        · rename_i h7
          subst h7
          rw [Option.map_eq_some_iff] at hg
          obtain ⟨j, hj, rfl⟩ := hg
          obtain ⟨j1, rfl, j3⟩ := ai_ix_in hj
          intro arr H locs cells slots hl hP hD hS h1 h2
          refine va_bast hx hb hK hP hD hS a 2 (ai_w_getb hc) rfl j1 hd (fun H1 locs1 g1 g2 g3 => ?_)
          have e2 : (b.1 + a, (Sum.inl (cY, q.length, .inl (upd (fun j => ai_iv (q.getD j .null)) i.toNatClampNeg (vp_nar .byte x))) : va_E)) = (b.1 + a, ai_e b cI cB cY (.inr (.inr (77, q.set i.toNatClampNeg (.int x.toInt8.toInt32))))) := by
            have e3 : upd (fun j => ai_iv (q.getD j .null)) i.toNatClampNeg (vp_nar .byte x) = fun j => ai_iv ((q.set i.toNatClampNeg (.int x.toInt8.toInt32)).getD j .null) := by
              funext k
              simp only [upd, List.getD_eq_getElem?_getD, List.getElem?_set]
              by_cases hk : k = i.toNatClampNeg
              · subst hk
                simp [j3, ai_iv, vp_nar_byte]
              · simp [hk, Ne.symm hk]
            rw [ai_e_b, e3, List.length_set]
          rw [e2, ai_w_set] at g1 g2
          exact kk arr H1 locs1 cells slots hl g1 g2 g3 (by rw [List.length_set]; exact h1) (by rw [ai_sl_set hc (by simp [ai_sz])]; exact h2)
        · cases hg
      · cases hg
    · cases h
  · cases h
theorem ai_alen_ok {y pc pc2 : Nat} {ls st ls2 st2 : List Value} {ws ws2 : ai_W} (hF : ai_F p R s m args meth c b N n0 cI cB cY dC dI A y) (hgs : ∀ v ∈ st, ai_gv N v) (hd : decode (ai_code y) pc = .ok (.arraylength, 1)) (h : ai_in y pc ls st ws .arraylength 1 = some (.inr (.inl (pc2, ls2, st2, ws2)))) (kk : ai_X p l e R s m args below meth c Q b n0 s0 cI cB cY dC dI A pc2 ls2 st2 ws2) : ai_X p l e R s m args below meth c Q b n0 s0 cI cB cY dC dI A pc ls st ws := by
  obtain ⟨hy, hx, hb, hml, hown, hts, hK, hr, hlk, hin, hZ, hA, hA2, hz, hR1, hR2, hY⟩ := hF
  simp only [ai_in] at h
  split at h
  · rename_i a st
    split at h
    · rename_i x hg
      cases h
      unfold ai_len at hg
      split at hg
      · rename_i q hc
        cases hg
        intro arr H locs cells slots hl hP hD hS h1 h2
        exact va_alen hx hb hK hP a 0 (ai_w_get hc) rfl rfl hd (kk arr H locs cells slots hl hP hD hS h1 h2)
      · rename_i cc q hc
        split at hg
        · rename_i h7
          subst h7
          cases hg
          intro arr H locs cells slots hl hP hD hS h1 h2
          exact va_alen hx hb hK hP a 2 (ai_w_getb hc) rfl rfl hd (kk arr H locs cells slots hl hP hD hS h1 h2)
        · cases hg
      · rename_i q hc
        cases hg
        intro arr H locs cells slots hl hP hD hS h1 h2
        exact va_alen hx hb hK hP a 1 (ai_w_get hc) rfl rfl hd (kk arr H locs cells slots hl hP hD hS h1 h2)
      · cases hg
    · cases h
  · rename_i k st
    split at h
    · rename_i x hg
      cases h
      unfold ai_xlen at hg
      intro arr H locs cells slots hl hP hD hS h1 h2
      have hkk := kk arr H locs cells slots hl hP hD hS h1 h2
      split at hg
      · rename_i h24
        cases hg
        have hkN : k = 24 + N := by
          rcases hgs (.retAddr k) List.mem_cons_self k rfl with q | q
          · omega
          · exact q
        subst hkN
        rw [Nat.add_sub_cancel_left] at hkk
        rw [List.map_cons, ai_cv_x (show ¬ 24 + N = 23 by omega), show ai_xa b (24 + N) = b.2.1 0 by unfold ai_xa; rw [if_pos (by omega)]]
        exact va_slen hx hb hY.1.1 hY.1.2.1 hY.1.2.2 hS hd hkk
      · split at hg
        · rename_i hq
          rw [Option.map_eq_some_iff] at hg
          obtain ⟨l0, hl0, rfl⟩ := hg
          have hE := hY.2.2.1.1 (k - 11) (by omega)
          rw [List.map_cons, ai_cv_x (show ¬ k = 23 by omega), show ai_xa b k = b.2.1 (k - 11 + 11) by unfold ai_xa; rw [if_neg (by omega), show k - 11 + 11 = k by omega]]
          refine va_tlen hx hb hE.2.2.2 hS ?_ hd hkk
          unfold ai_xb at hl0
          rw [if_pos hq, Option.map_eq_some_iff] at hl0
          obtain ⟨q0, hq0, rfl⟩ := hl0
          unfold ai_tlen
          rw [List.getD_eq_getElem?_getD, List.getElem?_map, hq0]
          rfl
        · cases hg
    · cases h
  · cases h
theorem ai_aald_ok {y pc pc2 : Nat} {ls st ls2 st2 : List Value} {ws ws2 : ai_W} (hF : ai_F p R s m args meth c b N n0 cI cB cY dC dI A y) (hd : decode (ai_code y) pc = .ok (.aaload, 1)) (h : ai_in y pc ls st ws .aaload 1 = some (.inr (.inl (pc2, ls2, st2, ws2)))) (kk : ai_X p l e R s m args below meth c Q b n0 s0 cI cB cY dC dI A pc2 ls2 st2 ws2) : ai_X p l e R s m args below meth c Q b n0 s0 cI cB cY dC dI A pc ls st ws := by
  obtain ⟨hy, hx, hb, hml, hown, hts, hK, hr, hlk, hin, hZ, hA, hA2, hz, hR1, hR2, hY⟩ := hF
  simp only [ai_in] at h
  split at h
  · rename_i i a st
    split at h
    · rename_i x hg
      cases h
      unfold ai_qget at hg
      split at hg
      · rename_i q hc
        rw [Option.map_eq_some_iff] at hg
        obtain ⟨j, hj, rfl⟩ := hg
        obtain ⟨j1, rfl, j3⟩ := ai_ix_in hj
        intro arr H locs cells slots hl hP hD hS h1 h2
        refine va_aldq hx hb hK hP a 1 (ai_w_get hc) rfl j1 hd ?_
        have e2 : va_rf ((q.getD i.toNatClampNeg none).map (b.1 + ·)) = ai_cv b (ai_qv (q.getD i.toNatClampNeg none)) := by
          cases q.getD i.toNatClampNeg none <;> rfl
        have := kk arr H locs cells slots hl hP hD hS h1 h2
        rw [List.map_cons, ← e2] at this
        exact this
      · cases hg
    · cases h
  · cases h
theorem ai_aast_ok {y pc pc2 : Nat} {ls st ls2 st2 : List Value} {ws ws2 : ai_W} (hF : ai_F p R s m args meth c b N n0 cI cB cY dC dI A y) (hd : decode (ai_code y) pc = .ok (.aastore, 1)) (h : ai_in y pc ls st ws .aastore 1 = some (.inr (.inl (pc2, ls2, st2, ws2)))) (kk : ai_X p l e R s m args below meth c Q b n0 s0 cI cB cY dC dI A pc2 ls2 st2 ws2) : ai_X p l e R s m args below meth c Q b n0 s0 cI cB cY dC dI A pc ls st ws := by
  obtain ⟨hy, hx, hb, hml, hown, hts, hK, hr, hlk, hin, hZ, hA, hA2, hz, hR1, hR2, hY⟩ := hF
  simp only [ai_in] at h
  split at h
  · rename_i x i a st
    split at h
    · rename_i hg
      cases h
      unfold ai_qset at hg
      split at hg
      · rename_i q hc
        split at hg
        · rename_i hob
          rw [Option.map_eq_some_iff] at hg
          obtain ⟨j, hj, rfl⟩ := hg
          obtain ⟨j1, rfl, j3⟩ := ai_ix_in hj
          intro arr H locs cells slots hl hP hD hS h1 h2
          unfold ai_isob at hob
          split at hob
          · rename_i c2 fs hx2
            rw [decide_eq_true_eq] at hob
            subst hob
            refine va_astq (r := (RX0, TX0, 10)) hx hb hK hP hD hS a 1 x 0 (ai_w_get hc) rfl (ai_w_geto hx2 (by decide)) rfl j1 hd (fun H1 locs1 g1 g2 g3 => ?_)
            have e2 : (b.1 + a, (Sum.inl (cB, q.length, .inr (.inr (.inr (.inr (va_up (fun j => (q.getD j none).map (b.1 + ·)) i.toNatClampNeg (some (b.1 + x))))))) : va_E)) = (b.1 + a, ai_e b cI cB cY (.inr (.inl (q.set i.toNatClampNeg (some x))))) := by
              have e3 : va_up (fun j => (q.getD j none).map (b.1 + ·)) i.toNatClampNeg (some (b.1 + x)) = fun j => ((q.set i.toNatClampNeg (some x)).getD j none).map (b.1 + ·) := by
                funext k
                simp only [va_up, List.getD_eq_getElem?_getD, List.getElem?_set]
                by_cases hk : k = i.toNatClampNeg
                · subst hk
                  simp [j3]
                · simp [hk, Ne.symm hk]
              simp only [ai_e, e3, List.length_set]
            rw [e2, ai_w_set] at g1 g2
            exact kk arr H1 locs1 cells slots hl g1 g2 g3 (by rw [List.length_set]; exact h1) (by rw [ai_sl_set hc (by simp [ai_sz])]; exact h2)
          · cases hob
        · cases hg
      · cases hg
    · cases h
  · cases h
/-- a new cell stands behind the others -/
theorem ai_fresh {T : State} {H1 : Heap} {locs : List Loc} {cells slots q : Nat} {ce : va_E} {ws : ai_W} (X : Stand p l e R s m args below meth c T locs (cells + 1) slots) (hT : T.heap = H1) (hP : va_P (dC, dI) vwCl (ai_w b cI cB cY ws ++ [(q, ce)]) H1) (hD : va_D A (ai_w b cI cB cY ws ++ [(q, ce)])) (hA2 : ∀ q, A q → b.1 ≤ q) (hz : s.heap.size = b.1 + n0) (h1 : ws.length = n0 + cells) : q = b.1 + ws.length := by
  have hq : (ai_w b cI cB cY ws ++ [(q, ce)])[ws.length]? = some (q, ce) := by
    rw [List.getElem?_append_right (by rw [ai_w_len]; exact Nat.le_refl _), ai_w_len, Nat.sub_self]
    rfl
  have g1 := (hP _ _ hq).lt
  have g2 : H1.size ≤ s.heap.size + (cells + 1) := by
    have := X.same.2.2.1
    rw [← hT]
    exact this
  have g3 := hA2 _ (hD.2 _ _ hq)
  dsimp only at g1 g3
  rcases Nat.lt_or_ge q (b.1 + ws.length) with g4 | g4
  · exfalso
    have hk : q - b.1 < ws.length := by omega
    have hk2 := ai_w_get (b := b) (cI := cI) (cB := cB) (cY := cY) (List.getElem?_eq_getElem hk)
    have hk3 : (ai_w b cI cB cY ws ++ [(q, ce)])[q - b.1]? = some (b.1 + (q - b.1), ai_e b cI cB cY ws[q - b.1]) := by
      rw [List.getElem?_append_left (by rw [ai_w_len]; exact hk)]
      exact hk2
    have := hD.1 _ _ _ _ hk3 hq (by dsimp only; omega)
    omega
  · omega
theorem ai_size {T : State} {H : Heap} {locs : List Loc} {cells slots : Nat} {ws : ai_W} (X : Stand p l e R s m args below meth c T locs cells slots) (hT : T.heap = H) (hP : va_P (dC, dI) vwCl (ai_w b cI cB cY ws) H) (hS : va_S A s.heap H locs) (hz : s.heap.size = b.1 + n0) (h1 : ws.length = n0 + cells) : H.size = b.1 + ws.length := by
  have g2 : H.size ≤ s.heap.size + cells := by
    have := X.same.2.2.1
    rw [← hT]
    exact this
  have g3 := hS.1
  rcases Nat.eq_zero_or_pos cells with g4 | g4
  · omega
  · have hk : ws.length - 1 < ws.length := by omega
    have hk2 := (hP _ _ (ai_w_get (b := b) (cI := cI) (cB := cB) (cY := cY) (List.getElem?_eq_getElem hk))).lt
    dsimp only at hk2
    omega
theorem ai_new_ok {y i pc pc2 : Nat} {ls st ls2 st2 : List Value} {ws ws2 : ai_W} (hF : ai_F p R s m args meth c b N n0 cI cB cY dC dI A y) (hd : decode (ai_code y) pc = .ok (.new i, 3)) (h : ai_in y pc ls st ws (.new i) 3 = some (.inr (.inl (pc2, ls2, st2, ws2)))) (hcap : ws2.length ≤ n0 + R.cells ∧ ai_sl ws2 ≤ s0 + R.slots) (kk : ai_X p l e R s m args below meth c Q b n0 s0 cI cB cY dC dI A pc2 ls2 st2 ws2) : ai_X p l e R s m args below meth c Q b n0 s0 cI cB cY dC dI A pc ls st ws := by
  obtain ⟨hy, hx, hb, hml, hown, hts, hK, hr, hlk, hin, hZ, hA, hA2, hz, hR1, hR2, hY⟩ := hF
  simp only [ai_in] at h
  split at h
  · rename_i ci w1 w2 w3 hv
    cases h
    obtain ⟨r, r1, r2, r3, r4⟩ := ai_n_of hy hv
    have c1 := ai_c_of r1
    have hcl := ai_cl_at r1
    have hbl : ai_blank ci = .inr (.inr (ci, (List.range r.2.2).map fun k => ai_dv (parseFieldDescriptor (r.2.1 k).2.2.1))) := by
      unfold ai_blank ai_fty
      rw [hcl]
    intro arr H locs cells slots hl hP hD hS h1 h2
    have hsz : ai_sz (ai_blank ci) = r.2.2 := by rw [hbl]; simp [ai_sz]
    have hc1 : cells + 1 ≤ R.cells := by
      have := hcap.1
      rw [List.length_append] at this
      simp only [List.length_cons, List.length_nil] at this
      omega
    have hc2 : slots + r.2.2 ≤ R.slots := by
      have := hcap.2
      rw [ai_sl_push, hsz] at this
      omega
    refine va_new (C := r.1) (T := r.2.1) (N := r.2.2) (ci := ci) (fs := ((List.range r.2.2).map fun k => ai_dv (parseFieldDescriptor (r.2.1 k).2.2.1)).map (ai_cv b)) hx hb hts c1.1 (fun k => (parseFieldDescriptor (r.2.1 k).2.2.1).getD .int) c1.2.1 hown (hts _ r2) (hts _ r3) (hts _ r4) hK hP hD hS hA r1 ?_ hc1 hc2 hd (fun q H1 g1 g2 g3 => ?_)
    · intro j hj
      have hty := c1.2.1 j hj
      generalize (parseFieldDescriptor (r.2.1 j).2.2.1).getD .int = ty at hty
      simp only [vp_V, List.getD_eq_getElem?_getD, List.getElem?_map, List.getElem?_range hj, Option.map_some, Option.getD_some, hty]
      exact ai_dv_ok r1 j hj hty
    · intro T hT XX
      have hq := ai_fresh XX hT g1 g2 hA2 hz h1
      subst hq
      rw [show (Sum.inr (ci, ((List.range r.2.2).map fun k => ai_dv (parseFieldDescriptor (r.2.1 k).2.2.1)).map (ai_cv b)) : va_E) = ai_e b cI cB cY (ai_blank ci) by rw [hbl, ai_e_o (ai_ne77 r1)], ai_w_push] at g1 g2
      exact kk arr H1 locs (cells + 1) (slots + r.2.2) hl g1 g2 g3 (by rw [List.length_append]; simp only [List.length_cons, List.length_nil]; omega) (by rw [ai_sl_push, hsz]; omega) T hT XX
  · cases h
end AIS
end
section
/-! New arrays, native calls, and any instruction. -/
theorem ai_k_of {y i wi : Nat} {x : Int32 ⊕ UInt32} (hy : y < 203) (h : ai_lk ai_vk (ai_view y) i = some (x, wi)) : (match x with
    | .inl v => Cond.constant (ai_name y).cls i v
    | .inr v => Cond.constantFloat (ai_name y).cls i v) ∈ ai_T := by
  obtain ⟨l, h1, h2⟩ := ai_lk_mem h
  have hl : ai_view y < ai_vk.length := (List.getElem?_eq_some_iff.mp h1).1
  have h3 := List.all_eq_true.mp ai_okk_all _ (List.mem_range.mpr hl)
  rw [h1] at h3
  have h4 := List.all_eq_true.mp h3 _ h2
  unfold ai_okk at h4
  rw [ai_vw hy] at h4
  dsimp only at h4
  cases x with
  | inl v => exact ai_has_in h4
  | inr v => exact ai_has_in h4
theorem ai_l_of {y i k y2 wi : Nat} (hy : y < 203) (h : ai_lk ai_vm (ai_view y) i = some (k, y2, wi)) : (match k with
    | 0 => Cond.methodLink (ai_name y).cls i (ai_name y2) ∈ ai_T ∧ ai_kind y2 = 1 ∧ Cond.selects (ai_name y2).cls (ai_name y2) (ai_name y2) ∈ ai_T ∧ ai_cn (ai_ci y2) = (ai_name y2).cls ∧ y2 < 202
    | 1 => Cond.methodLink (ai_name y).cls i (ai_name y2) ∈ ai_T ∧ ai_kind y2 = 0 ∧ y2 < 202
    | 2 => Cond.methodLink (ai_name y).cls i (ai_name y2) ∈ ai_T ∧ ai_kind y2 = 2 ∧ y2 < 202
    | 3 => ((ai_name y).cls, i, ai_name y2) ∈ ai_nest ∧ ai_kind y2 = 0 ∧ y2 < 202
    | 4 => ((ai_name y).cls, i, ai_name y2) ∈ ai_nest ∧ ai_kind y2 = 2 ∧ y2 < 202
    | 5 => Cond.methodLink (ai_name y).cls i Lib.objectInit ∈ ai_T
    | 6 => Cond.methodLink (ai_name y).cls i arraycopyName ∈ ai_T
    | 8 => ∃ x, Cond.methodLink (ai_name y).cls i (ai_name x) ∈ ai_T ∧ Cond.sameMethod (ai_name x).cls (ai_name x).cls (ai_name x).name (ai_name x).desc ∈ ai_T ∧ Cond.selects (ai_cn (ai_ci y2)) (ai_name x) (ai_name y2) ∈ ai_T ∧ ai_kind y2 = 1 ∧ ai_kind x = 1 ∧ x < 202 ∧ y2 < 202 ∧ ai_n x = ai_n y2
    | 9 => Cond.methodLink (ai_name y).cls i (ai_name y2) ∈ ai_T ∧ Cond.sameMethod (ai_name y2).cls (ai_name y2).cls (ai_name y2).name (ai_name y2).desc ∈ ai_T ∧ Cond.superclass (ai_name y).cls (ai_name y2).cls ∈ ai_T ∧ ai_kind y2 = 1 ∧ y2 < 202
    | 10 => Cond.methodLink (ai_name y).cls i ⟨"[B", "clone", "()Ljava/lang/Object;"⟩ ∈ ai_T
    | _ => False) := by
  obtain ⟨l, h1, h2⟩ := ai_lk_mem h
  have hl : ai_view y < ai_vm.length := (List.getElem?_eq_some_iff.mp h1).1
  have h3 := List.all_eq_true.mp ai_okl_all _ (List.mem_range.mpr hl)
  rw [h1] at h3
  have h4 := List.all_eq_true.mp h3 _ h2
  unfold ai_okl at h4
  rw [ai_vw hy] at h4
  dsimp only at h4
  split at h4 <;> rename_i hq <;> (try (cases hq)) <;> (try (simp only [Bool.and_eq_true, decide_eq_true_eq] at h4))
  · exact ⟨ai_has_in h4.1.1.1.1, h4.1.1.1.2, ai_has_in h4.1.1.2, h4.1.2, h4.2⟩
  · exact ⟨ai_has_in h4.1.1, h4.1.2, h4.2⟩
  · exact ⟨ai_has_in h4.1.1, h4.1.2, h4.2⟩
  · exact ⟨h4.1.1, h4.1.2, h4.2⟩
  · exact ⟨h4.1.1, h4.1.2, h4.2⟩
  · exact ai_has_in h4
  · exact ai_has_in h4
  · split at h4
    · rename_i x wl ws we hu
      simp only [Bool.and_eq_true, decide_eq_true_eq] at h4
      obtain ⟨⟨⟨⟨⟨⟨⟨q1, q2⟩, q3⟩, q4⟩, q5⟩, q6⟩, q7⟩, q8⟩ := h4
      exact ⟨x, ai_has_in q1, ai_has_in q2, ai_has_in q3, q4, q5, q6, q7, q8⟩
    · cases h4
  · split at h4
    · simp only [Bool.and_eq_true, decide_eq_true_eq] at h4
      obtain ⟨⟨⟨⟨q1, q2⟩, q3⟩, q4⟩, q5⟩ := h4
      exact ⟨ai_has_in q1, ai_has_in q2, ai_has_in q3, q4, q5⟩
    · cases h4
  · exact ai_has_in h4
  · cases h4
theorem ai_t_of {y i k : Nat} (hy : y < 203) (h : ai_lk ai_vt (ai_view y) i = some k) : (ai_name y).cls = "StoryCoronerLaw" ∧ ∃ q, ai_tx[k]? = some q ∧ q.1 = i := by
  obtain ⟨l, h1, h2⟩ := ai_lk_mem h
  have hl : ai_view y < ai_vt.length := (List.getElem?_eq_some_iff.mp h1).1
  have h3 := List.all_eq_true.mp ai_okt_all _ (List.mem_range.mpr hl)
  rw [h1] at h3
  have h4 := List.all_eq_true.mp h3 _ h2
  unfold ai_okt at h4
  rw [ai_vw hy] at h4
  split at h4
  · rename_i own r hown hr
    cases hown
    simp only [Bool.and_eq_true, decide_eq_true_eq] at h4
    exact ⟨h4.1, r, hr, h4.2⟩
  · cases h4
theorem ai_g_of {y i k wi : Nat} (hy : y < 203) (h : ai_lk ai_vg (ai_view y) i = some (k, wi)) : ∃ r, ai_gs[k]? = some r ∧ Cond.fieldLink (ai_name y).cls i r.1 r.2.1 r.2.2 ∈ ai_T := by
  obtain ⟨l, h1, h2⟩ := ai_lk_mem h
  have hl : ai_view y < ai_vg.length := (List.getElem?_eq_some_iff.mp h1).1
  have h3 := List.all_eq_true.mp ai_okg_all _ (List.mem_range.mpr hl)
  rw [h1] at h3
  have h4 := List.all_eq_true.mp h3 _ h2
  unfold ai_okg at h4
  rw [ai_vw hy] at h4
  split at h4
  · rename_i own r hown hr
    cases hown
    exact ⟨r, hr, ai_has_in h4⟩
  · cases h4
theorem ai_cats {b : ai_B} : ∀ {st : List Value}, st.length ≤ 4 → ((st.map (ai_cv b)).map fun v => v.category).sum ≤ 2 * st.length := by
  intro st _
  induction st with
  | nil => exact Nat.le_refl _
  | cons v st ih =>
    have h1 : (ai_cv b v).category ≤ 2 := by rcases lv_cat (ai_cv b v) with q | q <;> omega
    simp only [List.map_cons, List.sum_cons, List.length_cons]
    have := ih (by simp only [List.length_cons] at *; omega)
    omega
theorem ai_fitL {fs : List Value} (h : fs.all ai_fb8 = true) (k : Nat) (hk : k < fs.length) : fits .byte (.int (ai_iv (fs.getD k .null))) = true := by
  refine ai_fit8 (List.all_eq_true.mp h _ ?_)
  rw [List.getD_eq_getElem?_getD, List.getElem?_eq_getElem hk]
  exact List.getElem_mem hk
theorem ai_map_iv (l : List Int32) (k : Nat) : ai_iv ((l.map Value.int).getD k .null) = l.getD k 0 := by
  simp only [List.getD_eq_getElem?_getD, List.getElem?_map]
  cases l[k]? <;> rfl
theorem ai_xb_of {k : Nat} {l : List Int32} (hq : 11 ≤ k ∧ k ≤ 20) (h : ai_xb k = some l) : ai_tlen.getD (k - 11) 0 = l.length ∧ (fun j => (ai_tby.getD (k - 11) []).getD j 0) = (fun j => l.getD j 0) := by
  unfold ai_xb at h
  rw [if_pos hq, Option.map_eq_some_iff] at h
  obtain ⟨q0, hq0, rfl⟩ := h
  unfold ai_tlen ai_tby
  refine ⟨?_, funext fun j => ?_⟩
  · rw [List.getD_eq_getElem?_getD, List.getElem?_map, hq0]
    rfl
  · rw [List.getD_eq_getElem?_getD (l := ai_tx.map _), List.getElem?_map, hq0]
    rfl
theorem ai_lay_e {b : ai_B} {cI cB cY : ClassId} {d sp dp n : Nat} {fs gs : List Value} (h : dp + n ≤ gs.length) : (b.1 + d, (Sum.inl (cY, gs.length, .inl (va_cpy (fun j => ai_iv (fs.getD j .null)) (fun j => ai_iv (gs.getD j .null)) sp dp n)) : va_E)) = (b.1 + d, ai_e b cI cB cY (.inr (.inr (77, ai_lay fs gs sp dp n)))) := by
  rw [ai_e_b, ai_lay_len]
  congr 5
  funext k
  unfold va_cpy ai_lay
  rw [List.getD_eq_getElem?_getD, List.getElem?_map]
  by_cases hk : k < gs.length
  · rw [List.getElem?_range hk]
    simp only [Option.map_some, Option.getD_some]
    split <;> rfl
  · rw [List.getElem?_eq_none (by rw [List.length_range]; omega), if_neg (by omega)]
    dsimp only
    rw [List.getD_eq_getElem?_getD, List.getElem?_eq_none (by omega)]
    rfl
section AIS
variable {p : Program} {l : Launch} {e : Env} {R : Room} {s : State} {m : MethodId} {args : Array Value} {below : List Frame} {meth : Method} {c : Code} {Q : State → Prop} {b : ai_B} {N n0 s0 : Nat} {cI cB cY : ClassId} {dC : Nat → ClassId} {dI : Nat → Nat → Nat} {A : Nat → Prop}
theorem ai_newa_ok {y pc pc2 : Nat} {ls st ls2 st2 : List Value} {ws ws2 : ai_W} (hF : ai_F p R s m args meth c b N n0 cI cB cY dC dI A y) (hd : decode (ai_code y) pc = .ok (.newarray .int, 2)) (h : ai_in y pc ls st ws (.newarray .int) 2 = some (.inr (.inl (pc2, ls2, st2, ws2)))) (hcap : ws2.length ≤ n0 + R.cells ∧ ai_sl ws2 ≤ s0 + R.slots) (kk : ai_X p l e R s m args below meth c Q b n0 s0 cI cB cY dC dI A pc2 ls2 st2 ws2) : ai_X p l e R s m args below meth c Q b n0 s0 cI cB cY dC dI A pc ls st ws := by
  obtain ⟨hy, hx, hb, hml, hown, hts, hK, hr, hlk, hin, hZ, hA, hA2, hz, hR1, hR2, hY⟩ := hF
  simp only [ai_in] at h
  split at h
  · rename_i n st
    split at h
    · cases h
    · rename_i hn
      cases h
      intro arr H locs cells slots hl hP hD hS h1 h2
      have hsz : ai_sz (.inl (List.replicate n.toNatClampNeg 0)) = n.toNatClampNeg := by simp [ai_sz]
      have hc1 : cells + 1 ≤ R.cells := by
        have := hcap.1
        rw [List.length_append] at this
        simp only [List.length_cons, List.length_nil] at this
        omega
      have hc2 : slots + n.toNatClampNeg ≤ R.slots := by
        have := hcap.2
        rw [ai_sl_push, hsz] at this
        omega
      refine va_newa (atype := .int) (ty := .int) (N' := n.toNatClampNeg) (a0 := (n.toNatClampNeg, .inl (fun _ => 0))) hx hb (hts _ (ai_has_in ai_wp_ok.1)) rfl hK hP hD hS hA (fun cA => rfl) (fun q => hn (Or.inl q)) rfl (by show n.toNatClampNeg * 4 ≤ _; omega) hc1 hc2 hd (fun q cA H1 gK g1 g2 g3 => ?_)
      intro T hT XX
      have hq := ai_fresh XX hT g1 g2 hA2 hz h1
      subst hq
      have hcA : cA = cI := by
        have k1 := (gK.2 3 (cA, .int) rfl).2
        have k2 := (hK.2 0 (cI, .int) rfl).2
        exact Option.some.inj (k1.symm.trans k2)
      subst hcA
      have e3 : (fun _ : Nat => (0 : Int32)) = fun j => (List.replicate n.toNatClampNeg (0 : Int32)).getD j 0 := by
        funext j
        simp only [List.getD_eq_getElem?_getD, List.getElem?_replicate]
        split <;> rfl
      have e2 : (Sum.inl (cA, n.toNatClampNeg, .inl (fun _ => 0)) : va_E) = ai_e b cA cB cY (.inl (List.replicate n.toNatClampNeg 0)) := by
        rw [e3]
        simp only [ai_e, List.length_replicate]
      rw [e2, ai_w_push] at g1 g2
      exact kk arr H1 locs (cells + 1) (slots + n.toNatClampNeg) hl g1 g2 g3 (by rw [List.length_append]; simp only [List.length_cons, List.length_nil]; omega) (by rw [ai_sl_push, hsz]; omega) T hT XX
  · cases h
theorem ai_newb_ok {y pc pc2 : Nat} {ls st ls2 st2 : List Value} {ws ws2 : ai_W} (hF : ai_F p R s m args meth c b N n0 cI cB cY dC dI A y) (hd : decode (ai_code y) pc = .ok (.newarray .byte, 2)) (h : ai_in y pc ls st ws (.newarray .byte) 2 = some (.inr (.inl (pc2, ls2, st2, ws2)))) (hcap : ws2.length ≤ n0 + R.cells ∧ ai_sl ws2 ≤ s0 + R.slots) (kk : ai_X p l e R s m args below meth c Q b n0 s0 cI cB cY dC dI A pc2 ls2 st2 ws2) : ai_X p l e R s m args below meth c Q b n0 s0 cI cB cY dC dI A pc ls st ws := by
  obtain ⟨hy, hx, hb, hml, hown, hts, hK, hr, hlk, hin, hZ, hA, hA2, hz, hR1, hR2, hY⟩ := hF
  simp only [ai_in] at h
  split at h
  · rename_i n st
    split at h
    · cases h
    · rename_i hn
      cases h
      intro arr H locs cells slots hl hP hD hS h1 h2
      have hsz : ai_sz (.inr (.inr (77, List.replicate n.toNatClampNeg (.int 0)))) = n.toNatClampNeg := by simp [ai_sz]
      have hc1 : cells + 1 ≤ R.cells := by
        have := hcap.1
        rw [List.length_append] at this
        simp only [List.length_cons, List.length_nil] at this
        omega
      have hc2 : slots + n.toNatClampNeg ≤ R.slots := by
        have := hcap.2
        rw [ai_sl_push, hsz] at this
        omega
      refine va_newa (atype := .byte) (ty := .byte) (N' := n.toNatClampNeg) (a0 := (n.toNatClampNeg, .inl (fun _ => 0))) hx hb (hts _ (ai_has_in ai_wp_ok.2.2)) rfl hK hP hD hS hA (fun cA => rfl) (fun q => hn (Or.inl q)) rfl (by show n.toNatClampNeg * 1 ≤ _; omega) hc1 hc2 hd (fun q cA H1 gK g1 g2 g3 => ?_)
      intro T hT XX
      have hq := ai_fresh XX hT g1 g2 hA2 hz h1
      subst hq
      have hcA : cA = cY := by
        have k1 := (gK.2 3 (cA, .byte) rfl).2
        have k2 := (hK.2 2 (cY, .byte) rfl).2
        exact Option.some.inj (k1.symm.trans k2)
      subst hcA
      have e3 : (fun _ : Nat => (0 : Int32)) = fun j => ai_iv ((List.replicate n.toNatClampNeg (Value.int 0)).getD j .null) := by
        funext j
        simp only [List.getD_eq_getElem?_getD, List.getElem?_replicate]
        split <;> rfl
      have e2 : (Sum.inl (cA, n.toNatClampNeg, .inl (fun _ => 0)) : va_E) = ai_e b cI cB cA (.inr (.inr (77, List.replicate n.toNatClampNeg (.int 0)))) := by
        rw [ai_e_b, e3, List.length_replicate]
      rw [e2, ai_w_push] at g1 g2
      exact kk arr H1 locs (cells + 1) (slots + n.toNatClampNeg) hl g1 g2 g3 (by rw [List.length_append]; simp only [List.length_cons, List.length_nil]; omega) (by rw [ai_sl_push, hsz]; omega) T hT XX
  · cases h
theorem ai_newq_ok {y i pc pc2 : Nat} {ls st ls2 st2 : List Value} {ws ws2 : ai_W} (hF : ai_F p R s m args meth c b N n0 cI cB cY dC dI A y) (hd : decode (ai_code y) pc = .ok (.anewarray i, 3)) (h : ai_in y pc ls st ws (.anewarray i) 3 = some (.inr (.inl (pc2, ls2, st2, ws2)))) (hcap : ws2.length ≤ n0 + R.cells ∧ ai_sl ws2 ≤ s0 + R.slots) (kk : ai_X p l e R s m args below meth c Q b n0 s0 cI cB cY dC dI A pc2 ls2 st2 ws2) : ai_X p l e R s m args below meth c Q b n0 s0 cI cB cY dC dI A pc ls st ws := by
  obtain ⟨hy, hx, hb, hml, hown, hts, hK, hr, hlk, hin, hZ, hA, hA2, hz, hR1, hR2, hY⟩ := hF
  simp only [ai_in] at h
  split at h
  · rename_i w1 w2 w3 n st hv
    split at h
    · cases h
    · rename_i hn
      cases h
      obtain ⟨r, r1, r2, -, -⟩ := ai_n_of hy hv
      cases r1
      intro arr H locs cells slots hl hP hD hS h1 h2
      have hsz : ai_sz (.inr (.inl (List.replicate n.toNatClampNeg none))) = n.toNatClampNeg := by simp [ai_sz]
      have hc1 : cells + 1 ≤ R.cells := by
        have := hcap.1
        rw [List.length_append] at this
        simp only [List.length_cons, List.length_nil] at this
        omega
      have hc2 : slots + n.toNatClampNeg ≤ R.slots := by
        have := hcap.2
        rw [ai_sl_push, hsz] at this
        omega
      refine va_newq (C := RX0) (N' := n.toNatClampNeg) hx hb hown (hts _ r2) hZ.1 hK hP hD hS hA (fun q => hn (Or.inl q)) rfl (by omega) hc1 hc2 hd (fun q cA H1 gK g1 g2 g3 => ?_)
      intro T hT XX
      have hq := ai_fresh XX hT g1 g2 hA2 hz h1
      subst hq
      have hcA : cA = cB := by
        obtain ⟨_, _, _, _, _, k1⟩ := (gK.2 3 (cA, .object RX0) rfl).2
        obtain ⟨_, _, _, _, _, k2⟩ := (hK.2 1 (cB, .object RX0) rfl).2
        exact Option.some.inj (k1.symm.trans k2)
      subst hcA
      have e3 : (fun _ : Nat => (none : Option Nat)) = fun j => ((List.replicate n.toNatClampNeg (none : Option Nat)).getD j none).map (b.1 + ·) := by
        funext j
        simp only [List.getD_eq_getElem?_getD, List.getElem?_replicate]
        split <;> rfl
      have e2 : (Sum.inl (cA, n.toNatClampNeg, .inr (.inr (.inr (.inr (fun _ => none))))) : va_E) = ai_e b cI cA cY (.inr (.inl (List.replicate n.toNatClampNeg none))) := by
        rw [e3]
        simp only [ai_e, List.length_replicate]
      rw [e2, ai_w_push] at g1 g2
      exact kk arr H1 locs (cells + 1) (slots + n.toNatClampNeg) hl g1 g2 g3 (by rw [List.length_append]; simp only [List.length_cons, List.length_nil]; omega) (by rw [ai_sl_push, hsz]; omega) T hT XX
  · cases h
theorem ai_st_ok {y i pc pc2 : Nat} {ls st ls2 st2 : List Value} {ws ws2 : ai_W} (hF : ai_F p R s m args meth c b N n0 cI cB cY dC dI A y) (hL : ls.length = ai_L y) (hd : decode (ai_code y) pc = .ok (.invokestatic i, 3)) (h : ai_in y pc ls st ws (.invokestatic i) 3 = some (.inr (.inl (pc2, ls2, st2, ws2)))) (kk : ai_X p l e R s m args below meth c Q b n0 s0 cI cB cY dC dI A pc2 ls2 st2 ws2) : ai_X p l e R s m args below meth c Q b n0 s0 cI cB cY dC dI A pc ls st ws := by
  obtain ⟨hy, hx, hb, hml, hown, hts, hK, hr, hlk, hin, hZ, hA, hA2, hz, hR1, hR2, hY⟩ := hF
  simp only [ai_in, ai_ins] at h
  split at h
  · unfold ai_call at h
    split at h <;> cases h
  · unfold ai_call at h
    split at h <;> cases h
  · rename_i hv
    have hlk := ai_l_of hy hv
    have z0 : (0 : Int32).toNatClampNeg = 0 := by decide
    have hw : nativeFrameWords "java/lang/System" "arraycopy" 5 ≤ 20 := by decide
    split at h
    · rename_i n j d i0 a st
      split at h
      · rename_i ws1 hg
        split at h
        · rename_i h4
          obtain ⟨h4, hnat⟩ := h4
          have hnat := of_decide_eq_true hnat
          cases h
          unfold ai_copy at hg
          split at hg
          · rename_i q q2 hc hc2
            split at hg
            · rename_i hcc
              obtain ⟨rfl, rfl, hn0, hn1, hn2⟩ := hcc
              cases hg
              intro arr H locs cells slots hl hP hD hS h1 h2
              have hcat := ai_cats (b := b) h4
              refine va_copyi hx hb (by rw [hml, hl.1, hL]) hown (hts _ hlk) (hts _ (ai_has_in ai_wp_ok.2.1)) (hts _ (ai_has_in ai_wo_ok.2.2.1)) (hts _ (ai_has_in ai_wo_ok.2.2.2)) hK hP hD hS a d 0 0 (ai_w_get hc) (ai_w_get hc2) rfl rfl rfl (by decide) (by decide) hn0 (by rw [z0]; omega) (by rw [z0]; omega) (fun _ _ => rfl) (by omega) (by omega) hd (fun H1 locs1 g1 g2 g3 => ?_)
              have e3 : va_cpy (fun j => q.getD j 0) (fun j => q2.getD j 0) (0 : Int32).toNatClampNeg (0 : Int32).toNatClampNeg n.toNatClampNeg = fun j => q.getD j 0 := by
                funext k
                unfold va_cpy
                rw [z0]
                split
                · simp
                · rename_i hk
                  simp only [List.getD_eq_getElem?_getD]
                  rw [List.getElem?_eq_none (by omega), List.getElem?_eq_none (by omega)]
              have e2 : (b.1 + d, (Sum.inl (cI, q2.length, .inl (va_cpy (fun j => q.getD j 0) (fun j => q2.getD j 0) (0 : Int32).toNatClampNeg (0 : Int32).toNatClampNeg n.toNatClampNeg)) : va_E)) = (b.1 + d, ai_e b cI cB cY (.inl q)) := by
                rw [e3, hn2]
                rfl
              rw [e2, ai_w_set] at g1 g2
              exact kk arr H1 locs1 cells slots hl g1 g2 g3 (by rw [List.length_set]; exact h1) (by rw [ai_sl_set hc2 (by simp [ai_sz, hn2])]; exact h2)
            · cases hg
          · cases hg
        · cases h
      · split at h
        · rename_i ws1 hg
          split at h
          · rename_i h4
            obtain ⟨h4, hnat⟩ := h4
            have hnat := of_decide_eq_true hnat
            cases h
            unfold ai_cpb at hg
            split at hg
            · rename_i c0 fs hc
              split at hg
              · rename_i h7
                obtain ⟨rfl, had⟩ := h7
                unfold ai_bcopy at hg
                split at hg
                · rename_i c2 gs hc2
                  split at hg
                  · rename_i hcc
                    obtain ⟨rfl, hi, hj, hn, hs1, hs2, hal⟩ := hcc
                    cases hg
                    intro arr H locs cells slots hl hP hD hS h1 h2
                    have hcat := ai_cats (b := b) h4
                    refine va_copyi hx hb (by rw [hml, hl.1, hL]) hown (hts _ hlk) (hts _ (ai_has_in ai_wp_ok.2.1)) (hts _ (ai_has_in ai_wo_ok.2.2.1)) (hts _ (ai_has_in ai_wo_ok.2.2.2)) hK hP hD hS a d 2 2 (ai_w_getb hc) (ai_w_getb hc2) rfl rfl rfl hi hj hn hs1 hs2 (fun k hk => ?_) (by omega) (by omega) hd (fun H1 locs1 g1 g2 g3 => ?_)
                    · exact ai_fitL hal _ (by omega)
                    · rw [ai_lay_e (b := b) (cI := cI) (cB := cB) hs2, ai_w_set] at g1 g2
                      exact kk arr H1 locs1 cells slots hl g1 g2 g3 (by rw [List.length_set]; exact h1) (by rw [ai_sl_set hc2 (by simp [ai_sz, ai_lay_len])]; exact h2)
                  · cases hg
                · cases hg
              · cases hg
            · cases hg
          · cases h
        · cases h
    · rename_i n j d i0 k st
      split at h
      · rename_i ws1 hg
        split at h
        · rename_i h4
          obtain ⟨h4, hnat⟩ := h4
          have hnat := of_decide_eq_true hnat
          cases h
          unfold ai_cpx at hg
          split at hg
          · rename_i hq
            split at hg
            · rename_i l0 hl0
              unfold ai_bcopy at hg
              split at hg
              · rename_i c2 gs hc2
                split at hg
                · rename_i hcc
                  obtain ⟨rfl, hi, hj, hn, hs1, hs2, hal⟩ := hcc
                  cases hg
                  intro arr H locs cells slots hl hP hD hS h1 h2
                  have hcat := ai_cats (b := b) h4
                  have hE := hY.2.2.1.1 (k - 11) (by omega)
                  obtain ⟨e5, e6⟩ := ai_xb_of hq hl0
                  rw [List.length_map] at hs1
                  simp only [List.map_cons]
                  rw [ai_cv_x (show ¬ k = 23 by omega), show ai_xa b k = b.2.1 (k - 11 + 11) by unfold ai_xa; rw [if_neg (by omega), show k - 11 + 11 = k by omega]]
                  refine vk_copyt hx hb (by rw [hml, hl.1, hL]) hown (hts _ hlk) (hts _ (ai_has_in ai_wp_ok.2.1)) (hts _ (ai_has_in ai_wo_ok.2.2.1)) (hts _ (ai_has_in ai_wo_ok.2.2.2)) hK hP hD hS hE.2.2.2 d 2 (ai_w_getb hc2) rfl hi hj hn (by rw [e5]; exact hs1) hs2 (fun q hq2 => ?_) (by omega) (by omega) hd (fun H1 locs1 g1 g2 g3 => ?_)
                  · have := ai_fitL hal (i0.toNatClampNeg + q) (by rw [List.length_map]; omega)
                    rw [congrFun e6 (i0.toNatClampNeg + q), ← ai_map_iv]
                    exact this
                  · rw [e6, show (fun q => l0.getD q 0) = (fun q => ai_iv ((l0.map Value.int).getD q .null)) from funext fun q => (ai_map_iv l0 q).symm, ai_lay_e (b := b) (cI := cI) (cB := cB) hs2, ai_w_set] at g1 g2
                    exact kk arr H1 locs1 cells slots hl g1 g2 g3 (by rw [List.length_set]; exact h1) (by rw [ai_sl_set hc2 (by simp [ai_sz, ai_lay_len])]; exact h2)
                · cases hg
              · cases hg
            · cases hg
          · cases hg
        · cases h
      · cases h
    · cases h
  · cases h
theorem ai_sp_ok {y i pc pc2 : Nat} {ls st ls2 st2 : List Value} {ws ws2 : ai_W} (hF : ai_F p R s m args meth c b N n0 cI cB cY dC dI A y) (hL : ls.length = ai_L y) (hd : decode (ai_code y) pc = .ok (.invokespecial i, 3)) (h : ai_in y pc ls st ws (.invokespecial i) 3 = some (.inr (.inl (pc2, ls2, st2, ws2)))) (kk : ai_X p l e R s m args below meth c Q b n0 s0 cI cB cY dC dI A pc2 ls2 st2 ws2) : ai_X p l e R s m args below meth c Q b n0 s0 cI cB cY dC dI A pc ls st ws := by
  obtain ⟨hy, hx, hb, hml, hown, hts, hK, hr, hlk, hin, hZ, hA, hA2, hz, hR1, hR2, hY⟩ := hF
  simp only [ai_in, ai_spc] at h
  split at h
  · unfold ai_call at h
    split at h <;> cases h
  · unfold ai_call at h
    split at h <;> cases h
  · unfold ai_call at h
    split at h <;> cases h
  · rename_i hv
    split at h
    · split at h
      · rename_i x st h4
        obtain ⟨h4, hnat⟩ := h4
        have hnat := of_decide_eq_true hnat
        have hlk := ai_l_of hy hv
        cases h
        intro arr H locs cells slots hl hP hD hS h1 h2
        have hcat := ai_cats (b := b) h4
        refine W.objInit hx hb hown (hts _ hlk) (hts _ (ai_has_in ai_wo_ok.1)) (hts _ (ai_has_in ai_wo_ok.2.1)) rfl (by show arr.size = _; rw [hml, hl.1, hL]) rfl hd (by omega) (by show 2 * 0 + _ + 12 ≤ _; omega) ?_
        exact kk arr H locs cells slots hl hP hD hS h1 h2
      · cases h
    · cases h
  · cases h
end AIS
end
section
/-! Any instruction that is no call and no end. -/
theorem ai_nmB {cI cB cY : ClassId} {dC : Nat → ClassId} {dI : Nat → Nat → Nat} {s : State} (hK : va_K (dC, dI) vwCl (ai_tys cI cB cY) s) : s.vm.findClass "[B" = some cY := (hK.2 2 (cY, .byte) rfl).2
section AIS
variable {p : Program} {l : Launch} {e : Env} {R : Room} {s : State} {m : MethodId} {args : Array Value} {below : List Frame} {meth : Method} {c : Code} {Q : State → Prop} {b : ai_B} {N n0 s0 : Nat} {cI cB cY : ClassId} {dC : Nat → ClassId} {dI : Nat → Nat → Nat} {A : Nat → Prop}
theorem ai_ldcwF {cc : ByteArray} {pc : Nat} {arr : Array Slot} {rest : List Value} {H : Heap} {locs : List Loc} {cells slots : Nat} (hexec : p.tables.exec = Jvm.exec) (hb : c.code = cc) {own : String} {index : Nat} {v : UInt32} (hown : s.vm.findClass own = some m.cls) (hconst : (Jvm.Cond.constantFloat own index v).before args s = true) (hdg : decode cc pc = .ok (.ldc_w index, 3)) (k : W p l e R s m args below meth c H locs cells slots Q (F0 m (pc + 3) arr (.float v :: rest))) : W p l e R s m args below meth c H locs cells slots Q (F0 m pc arr rest) := by
  intro T hT X
  obtain ⟨t, a, b⟩ := k T hT X
  refine ⟨t, ?_, b⟩
  obtain ⟨k, cf, hk, hcf, hcp⟩ := Cond.constantFloat_spec hown hconst
  obtain ⟨k', hk', he⟩ := X.warmed.alike.2.2 _ _ hk
  jvm_step X.here [hexec, hb, hdg, ldc_w.wp_float (s := T) (f := F0 m pc arr rest) X.here.top hk' (by rw [he]; exact hcf) hcp]
  exact a
theorem ai_go_ok {y pc n pc2 : Nat} {i : Instr} {ls st ls2 st2 : List Value} {ws ws2 : ai_W} (hF : ai_F p R s m args meth c b N n0 cI cB cY dC dI A y) (hL : ls.length = ai_L y) (hgs : ∀ v ∈ st, ai_gv N v) (hd : decode (ai_code y) pc = .ok (i, n)) (h : ai_in y pc ls st ws i n = some (.inr (.inl (pc2, ls2, st2, ws2)))) (hcap : ws2.length ≤ n0 + R.cells ∧ ai_sl ws2 ≤ s0 + R.slots) (kk : ai_X p l e R s m args below meth c Q b n0 s0 cI cB cY dC dI A pc2 ls2 st2 ws2) : ai_X p l e R s m args below meth c Q b n0 s0 cI cB cY dC dI A pc ls st ws := by
  have hF0 := hF
  have h0 := h
  obtain ⟨hy, hx, hb, hml, hown, hts, hK, hr, hlk, hin, hZ, hA, hA2, hz, hR1, hR2, hY⟩ := hF
  unfold ai_in at h
  split at h
  · exact ai_lda_ok (fun q w => lv_aload_n hx hb hd rfl q w) h kk
  · exact ai_lda_ok (fun q w => lv_aload hx hb hd q w) h kk
  · exact ai_ldi_ok (fun q w => lv_iload_n hx hb hd rfl q w) h kk
  · exact ai_ldi_ok (fun q w => lv_iload hx hb hd q w) h kk
  · exact ai_ldf_ok (fun q w => lv_fload_n hx hb hd rfl q w) h kk
  · exact ai_sti_ok (fun q k w => lv_istore_n hx hb hd rfl q k rfl w) h kk
  · exact ai_sti_ok (fun q k w => lv_istore hx hb hd q k rfl w) h kk
  · exact ai_stf_ok (fun q k w => lv_fstore_n hx hb hd rfl q k rfl w) h kk
  · exact ai_sta_ok (fun q k w => lv_astore_n hx hb hd rfl q k rfl w) h kk
  · exact ai_sta_ok (fun q k w => lv_astore hx hb hd q k rfl w) h kk
  · split at h
    · rename_i x hxx
      unfold ai_go at h
      cases h
      intro arr H locs cells slots hl hP hD hS h1 h2
      obtain ⟨hk, -⟩ := List.getElem?_eq_some_iff.mp hxx
      obtain ⟨j, hj⟩ := List.getElem?_of_mem (ai_ps_mem (b := b).mpr ⟨_, hxx, rfl, rfl⟩)
      exact lv_iinc hx hb hd (ai_l_has hl) hj rfl hk rfl (fun arr2 h3 => kk arr2 H locs cells slots (ai_l_store (v := .int _) hk rfl h3) hP hD hS h1 h2)
    · cases h
  · unfold ai_go at h
    cases h
    intro arr H locs cells slots hl hP hD hS h1 h2
    exact lv_iconst hx hb hd rfl (kk arr H locs cells slots hl hP hD hS h1 h2)
  · unfold ai_go at h
    cases h
    intro arr H locs cells slots hl hP hD hS h1 h2
    exact lv_bipush hx hb hd rfl (kk arr H locs cells slots hl hP hD hS h1 h2)
  · unfold ai_go at h
    cases h
    intro arr H locs cells slots hl hP hD hS h1 h2
    exact lv_sipush hx hb hd rfl (kk arr H locs cells slots hl hP hD hS h1 h2)
  · rename_i f
    unfold ai_go at h
    cases h
    intro arr H locs cells slots hl hP hD hS h1 h2
    have := kk arr H locs cells slots hl hP hD hS h1 h2
    match f, hd, this with
    | 0, hd, this => exact lv_fconst0 hx hb hd this
    | 1, hd, this => exact lv_fconst1 hx hb hd this
    | 2, hd, this => exact lv_fconst2 hx hb hd this
  · split at h
    · rename_i k hk
      split at h
      · rename_i hk10
        unfold ai_go at h
        cases h
        obtain ⟨e1, q, hq, rfl⟩ := ai_t_of hy hk
        intro arr H locs cells slots hl hP hD hS h1 h2
        have hkk := kk arr H locs cells slots hl hP hD hS h1 h2
        rw [List.map_cons, ai_cv_x (show ¬ k + 1 = 23 by omega), show ai_xa b (k + 1) = b.2.1 (k + 1) by unfold ai_xa; rw [if_neg (by omega)]] at hkk
        rw [e1] at hown
        exact va_ldcS hx hb hown (hY.2.1 k q hq) hd hkk
      · cases h
    unfold ai_wide at h
    split at h
    · rename_i v w hv
      unfold ai_go at h
      cases h
      intro arr H locs cells slots hl hP hD hS h1 h2
      exact lv_ldc hx hb hown (hts _ (ai_k_of hy hv)) hd (kk arr H locs cells slots hl hP hD hS h1 h2)
    · rw [if_neg (by decide)] at h
      cases h
    · cases h
  · unfold ai_wide at h
    split at h
    · rename_i v w hv
      unfold ai_go at h
      cases h
      intro arr H locs cells slots hl hP hD hS h1 h2
      exact lv_ldcw hx hb hown (hts _ (ai_k_of hy hv)) hd (kk arr H locs cells slots hl hP hD hS h1 h2)
    · rename_i v w hv
      rw [if_pos rfl] at h
      unfold ai_go at h
      cases h
      intro arr H locs cells slots hl hP hD hS h1 h2
      exact ai_ldcwF hx hb hown (hts _ (ai_k_of hy hv)) hd (kk arr H locs cells slots hl hP hD hS h1 h2)
    · cases h
  · exact ai_bin_ok (fun q w => by cases q; exact lv_iadd hx hb hd w) h kk
  · exact ai_bin_ok (fun q w => by cases q; exact lv_isub hx hb hd w) h kk
  · exact ai_bin_ok (fun q w => by cases q; exact lv_imul hx hb hd w) h kk
  · exact ai_bin_ok (fun q w => by cases q; exact lv_iand hx hb hd w) h kk
  · exact ai_bin_ok (fun q w => by cases q; exact lv_ior hx hb hd w) h kk
  · exact ai_bin_ok (fun q w => by cases q; exact lv_ixor hx hb hd w) h kk
  · exact ai_bin_ok (fun q w => by cases q; exact lv_ishl hx hb hd w) h kk
  · exact ai_bin_ok (fun q w => by cases q; exact lv_ishr hx hb hd w) h kk
  · exact ai_bin_ok (fun q w => by cases q; exact lv_iushr hx hb hd rfl w) h kk
  · exact ai_bin_ok (fun {_ _ _ _ _ _ x y z} q w => by
      split at q
      · cases q
      · rename_i h9; cases q; exact lv_idiv hx hb hd h9 w) h kk
  · exact ai_bin_ok (fun {_ _ _ _ _ _ x y z} q w => by
      split at q
      · cases q
      · rename_i h9; cases q; exact lv_irem hx hb hd h9 w) h kk
  · split at h
    · unfold ai_go at h
      cases h
      intro arr H locs cells slots hl hP hD hS h1 h2
      exact lv_ineg hx hb hd (kk arr H locs cells slots hl hP hD hS h1 h2)
    · cases h
  · split at h
    · unfold ai_go at h
      cases h
      intro arr H locs cells slots hl hP hD hS h1 h2
      exact lv_i2f hx hb hd (kk arr H locs cells slots hl hP hD hS h1 h2)
    · cases h
  · split at h
    · unfold ai_go at h
      cases h
      intro arr H locs cells slots hl hP hD hS h1 h2
      exact lv_f2i hx hb hd (kk arr H locs cells slots hl hP hD hS h1 h2)
    · cases h
  · exact ai_fb_ok (fun q w => lv_fmul hx hb hd q w) h kk
  · exact ai_fb_ok (fun q w => lv_fdiv hx hb hd q w) h kk
  · exact ai_fb_ok (fun q w => lv_fsub hx hb hd q w) h kk
  · split at h
    · unfold ai_go at h
      cases h
      intro arr H locs cells slots hl hP hD hS h1 h2
      exact lv_dup hx hb hd rfl (kk arr H locs cells slots hl hP hD hS h1 h2)
    · cases h
  · split at h
    · unfold ai_go at h
      cases h
      intro arr H locs cells slots hl hP hD hS h1 h2
      exact lv_dup2_11 hx hb hd rfl rfl (kk arr H locs cells slots hl hP hD hS h1 h2)
    · cases h
  · split at h
    · unfold ai_go at h
      cases h
      intro arr H locs cells slots hl hP hD hS h1 h2
      exact lv_pop hx hb hd rfl (kk arr H locs cells slots hl hP hD hS h1 h2)
    · unfold ai_go at h
      cases h
      intro arr H locs cells slots hl hP hD hS h1 h2
      exact lv_pop hx hb hd rfl (kk arr H locs cells slots hl hP hD hS h1 h2)
    · cases h
  · split at h
    · unfold ai_go at h
      cases h
      intro arr H locs cells slots hl hP hD hS h1 h2
      exact lv_i2c hx hb hd rfl (kk arr H locs cells slots hl hP hD hS h1 h2)
    · cases h
  · unfold ai_go at h
    cases h
    intro arr H locs cells slots hl hP hD hS h1 h2
    exact lv_null hx hb hd (kk arr H locs cells slots hl hP hD hS h1 h2)
  · split at h
    · exact ai_jmp_ok (t := true) (pre := [.ref _]) (fun q w => lv_ifnonnull hx hb hd q w) h kk
    · rename_i k st
      split at h
      · cases h
      · rename_i h23
        exact ai_jmp_ok (t := true) (pre := [.retAddr k]) (fun q w => by
          simp only [List.map_cons, List.map_nil, ai_cv_x h23]
          exact lv_ifnonnull hx hb hd q w) h kk
    · cases h
  · split at h
    · rename_i w hv
      unfold ai_go at h
      cases h
      obtain ⟨r, hr1, hr2⟩ := ai_g_of hy hv
      cases hr1
      intro arr H locs cells slots hl hP hD hS h1 h2
      exact va_gets hx hb hY.2.2.2.1 hS hown (hts _ hr2) (fun _ q => q) hd (kk arr H locs cells slots hl hP hD hS h1 h2)
    · rename_i w hv
      unfold ai_go at h
      cases h
      obtain ⟨r, hr1, hr2⟩ := ai_g_of hy hv
      cases hr1
      intro arr H locs cells slots hl hP hD hS h1 h2
      have hkk := kk arr H locs cells slots hl hP hD hS h1 h2
      exact va_gets hx hb hY.2.2.2.2.1 hS hown (hts _ hr2) (fun _ q => q) hd hkk
    · rename_i w hv
      unfold ai_go at h
      cases h
      obtain ⟨r, hr1, hr2⟩ := ai_g_of hy hv
      cases hr1
      intro arr H locs cells slots hl hP hD hS h1 h2
      have hkk := kk arr H locs cells slots hl hP hD hS h1 h2
      exact va_gets hx hb hY.2.2.2.2.2.1 hS hown (hts _ hr2) (fun _ q => q) hd hkk
    · rename_i w hv
      unfold ai_go at h
      cases h
      obtain ⟨r, hr1, hr2⟩ := ai_g_of hy hv
      cases hr1
      intro arr H locs cells slots hl hP hD hS h1 h2
      have hkk := kk arr H locs cells slots hl hP hD hS h1 h2
      exact va_gets hx hb hY.2.2.2.2.2.2.1 hS hown (hts _ hr2) (fun _ q => q) hd hkk
    · cases h
  · split at h
    · rename_i a st
      split at h
      · rename_i c0 fs hc
        split at h
        · rename_i hcc
          obtain ⟨rfl, hvc, rfl⟩ := hcc
          unfold ai_go at h
          cases h
          have e1 : (ai_name y).cls = "java/util/Arrays" := by
            have := ai_vw hy
            rw [hvc] at this
            exact (Option.some.inj this).symm
          rw [e1] at hown
          intro arr H locs cells slots hl hP hD hS h1 h2
          exact va_castA hx hb hown (hts _ (ai_has_in ai_wc_ok.2.2.2.2.1)) hP a (ai_w_getb hc) (ai_nmB hK) hd (kk arr H locs cells slots hl hP hD hS h1 h2)
        · cases h
      · cases h
    · cases h
  · exact ai_bald_ok hF0 hd h0 kk
  · exact ai_bast_ok hF0 hd h0 kk
  · exact ai_jmp_ok (t := true) (pre := []) (fun q w => lv_goto hx hb hd q w) h kk
  · split at h
    · exact ai_jmp_ok (pre := [.int _, .int _]) (fun q w => ai_cmp_row hx hb hd q w) h kk
    · cases h
  · split at h
    · exact ai_jmp_ok (pre := [.int _]) (fun q w => ai_if_row hx hb hd q w) h kk
    · cases h
  · split at h
    · exact ai_jmp_ok (t := false) (pre := [.ref _]) (fun q w => lv_ifnull hx hb hd w) h kk
    · exact ai_jmp_ok (t := true) (pre := [.null]) (fun q w => lv_ifnullN hx hb hd q w) h kk
    · cases h
  · split at h
    · split at h
      · rename_i t ht
        unfold ai_go at h
        cases h
        intro arr H locs cells slots hl hP hD hS h1 h2
        have := kk arr H locs cells slots hl hP hD hS h1 h2
        unfold ai_sw at ht
        split at ht
        · rename_i hq
          exact lv_tableOut hx hb hd hq (ai_tgt_of ht) this
        · rename_i hq
          split at ht
          · rename_i o ho
            exact lv_tableIn hx hb hd (fun z => hq (Or.inl z)) (fun z => hq (Or.inr z)) ho (ai_tgt_of ht) this
          · cases ht
      · cases h
    · cases h
  · exact ai_get_ok hF0 hd h0 kk
  · exact ai_put_ok hF0 hd h0 kk
  · exact ai_iald_ok hF0 hgs hd h0 kk
  · exact ai_iast_ok hF0 hd h0 kk
  · exact ai_alen_ok hF0 hgs hd h0 kk
  · exact ai_aald_ok hF0 hd h0 kk
  · exact ai_aast_ok hF0 hd h0 kk
  · exact ai_new_ok hF0 hd h0 hcap kk
  · exact ai_newa_ok hF0 hd h0 hcap kk
  · exact ai_newb_ok hF0 hd h0 hcap kk
  · exact ai_newq_ok hF0 hd h0 hcap kk
  · unfold ai_inv ai_call at h
    split at h
    · split at h <;> cases h
    · split at h <;> cases h
    · rename_i y2 wi hv
      have hlk := ai_l_of hy hv
      split at h
      · rename_i a st
        split at h
        · rename_i c0 fs hc
          split at h
          · rename_i hcc
            obtain ⟨rfl, hal, h4, hnat⟩ := hcc
            have hnat := of_decide_eq_true hnat
            unfold ai_go at h
            cases h
            intro arr H locs cells slots hl hP hD hS h1 h2
            have hcat := ai_cats (b := b) h4
            have hsz : ai_sz (.inr (.inr (77, fs))) = fs.length := rfl
            have hc1 : cells + 1 ≤ R.cells := by
              have := hcap.1
              rw [List.length_append] at this
              simp only [List.length_cons, List.length_nil] at this
              omega
            have hc2 : slots + fs.length ≤ R.slots := by
              have := hcap.2
              rw [ai_sl_push, hsz] at this
              omega
            refine va_clone hx hb (by rw [hml, hl.1, hL]) hown (hts _ hlk) (hts _ (ai_has_in ai_wc_ok.1)) (hts _ (ai_has_in ai_wc_ok.2.1)) (hts _ (ai_has_in ai_wc_ok.2.2.1)) (hts _ (ai_has_in ai_wc_ok.2.2.2.1)) hZ.2.2 hK hP hD hS hA a 2 (ai_w_getb hc) rfl (ai_nmB hK) ?_ (by omega) (by omega) hc1 hc2 hd (fun q H1 gK g1 g2 g3 => ?_)
            · refine va_fit (fun i hi => ?_)
              exact ai_fitL hal i hi
            · intro T hT XX
              have hq := ai_fresh XX hT g1 g2 hA2 hz h1
              subst hq
              rw [← ai_e_b (b := b) (cI := cI) (cB := cB) (cY := cY) (fs := fs), ai_w_push] at g1 g2
              exact kk arr H1 locs (cells + 1) (slots + fs.length) hl g1 g2 g3 (by rw [List.length_append]; simp only [List.length_cons, List.length_nil]; omega) (by rw [ai_sl_push, hsz]; omega) T hT XX
          · cases h
        · cases h
      · cases h
    · cases h
  · exact ai_st_ok hF0 hL hd h0 kk
  · exact ai_sp_ok hF0 hL hd h0 kk
  · split at h
    · unfold ai_go at h
      cases h
      intro arr H locs cells slots hl hP hD hS h1 h2
      exact lv_fcmp hx hb hd (kk arr H locs cells slots hl hP hD hS h1 h2)
    · cases h
  · split at h
    · split at h <;> cases h
    · cases h
  · split at h
    · split at h <;> cases h
    · cases h
  · split at h
    · split at h <;> cases h
    · cases h
  · cases h
end AIS
/-! the values stay those that the machine may have -/
theorem ai_gl_set {N k : Nat} {ls : List Value} {x : Value} (h : ∀ v ∈ ls, ai_gv N v) (hx : ai_gv N x) : ∀ v ∈ ls.set k x, ai_gv N v := fun v hv => by
  rcases List.mem_or_eq_of_mem_set hv with q | rfl
  · exact h v q
  · exact hx
theorem ai_gl_cons {N : Nat} {l : List Value} {x : Value} (hx : ai_gv N x) (h : ∀ v ∈ l, ai_gv N v) : ∀ v ∈ x :: l, ai_gv N v := fun v hv => by
  rcases List.mem_cons.mp hv with rfl | q
  · exact hx
  · exact h v q
theorem ai_gl_t {N : Nat} {l : List Value} {x : Value} (h : ∀ v ∈ x :: l, ai_gv N v) : ∀ v ∈ l, ai_gv N v := fun v hv => h v (List.mem_cons_of_mem _ hv)
theorem ai_gv_fget {N a ci k : Nat} {ws : ai_W} {v : Value} (h : ai_fget ws a ci k = some v) : ai_gv N v := by
  unfold ai_fget at h
  split at h
  · split at h
    · exact fun k e => absurd e ((ai_nr_some h).2 k)
    · cases h
  · cases h
theorem ai_gv_xget {N q ci k : Nat} {v : Value} (h : ai_xget q ci k = some v) : ai_gv N v := by
  unfold ai_xget at h
  split at h
  · rename_i hq
    split at h
    · cases h
      exact ai_gv_x (by omega)
    · split at h
      · cases h
        exact ai_gv_i
      · cases h
  · cases h
theorem ai_gv_qget {N a : Nat} {i : Int32} {ws : ai_W} {v : Value} (h : ai_qget ws a i = some v) : ai_gv N v := by
  unfold ai_qget at h
  split at h
  · rw [Option.map_eq_some_iff] at h
    obtain ⟨j, -, rfl⟩ := h
    unfold ai_qv
    split
    · exact ai_gv_r
    · exact ai_gv_n
  · cases h
theorem ai_in_good {N y pc n pc2 : Nat} {i : Instr} {ls st ls2 st2 : List Value} {ws ws2 : ai_W} (h : ai_in y pc ls st ws i n = some (.inr (.inl (pc2, ls2, st2, ws2)))) (hl : ∀ v ∈ ls, ai_gv N v) (hs : ∀ v ∈ st, ai_gv N v) : (∀ v ∈ ls2, ai_gv N v) ∧ ∀ v ∈ st2, ai_gv N v := by
  unfold ai_in at h
  split at h <;> (try simp only [ai_lda, ai_ldi, ai_ldf, ai_sti, ai_stf, ai_sta, ai_bin, ai_fb, ai_jmp, ai_inv, ai_ins, ai_spc, ai_call, ai_wide, ai_go] at h) <;> (repeat' split at h) <;>
    first
    | (cases h; done)
    | (cases h; exact ⟨hl, hs⟩)
    | (cases h; exact ⟨hl, ai_gl_t hs⟩)
    | (cases h; exact ⟨hl, ai_gl_t (ai_gl_t hs)⟩)
    | (cases h; exact ⟨hl, ai_gl_t (ai_gl_t (ai_gl_t hs))⟩)
    | (cases h; exact ⟨hl, ai_gl_t (ai_gl_t (ai_gl_t (ai_gl_t (ai_gl_t hs))))⟩)
    | (cases h; exact ⟨hl, ai_gl_cons ai_gv_i hs⟩)
    | (cases h; exact ⟨hl, ai_gl_cons ai_gv_f hs⟩)
    | (cases h; exact ⟨hl, ai_gl_cons ai_gv_r hs⟩)
    | (cases h; exact ⟨hl, ai_gl_cons ai_gv_n hs⟩)
    | (cases h; exact ⟨hl, ai_gl_cons (ai_gv_x (by omega)) hs⟩)
    | (cases h; rename_i hv _; exact ⟨hl, ai_gl_cons (hl _ (List.mem_of_getElem? hv)) hs⟩)
    | (cases h; rename_i hv; exact ⟨hl, ai_gl_cons (hl _ (List.mem_of_getElem? hv)) hs⟩)
    | (cases h; exact ⟨hl, ai_gl_cons ai_gv_i (ai_gl_t hs)⟩)
    | (cases h; exact ⟨hl, ai_gl_cons ai_gv_f (ai_gl_t hs)⟩)
    | (cases h; exact ⟨hl, ai_gl_cons ai_gv_r (ai_gl_t hs)⟩)
    | (cases h; exact ⟨hl, ai_gl_cons ai_gv_i (ai_gl_t (ai_gl_t hs))⟩)
    | (cases h; exact ⟨hl, ai_gl_cons ai_gv_f (ai_gl_t (ai_gl_t hs))⟩)
    | (cases h; exact ⟨hl, ai_gl_cons ai_gv_r hs⟩)
    | (cases h; exact ⟨hl, ai_gl_cons ai_gv_i (ai_gl_cons ai_gv_r hs)⟩)
    | (cases h; exact ⟨ai_gl_set hl ai_gv_i, hs⟩)
    | (cases h; exact ⟨ai_gl_set hl ai_gv_i, ai_gl_t hs⟩)
    | (cases h; exact ⟨ai_gl_set hl ai_gv_f, ai_gl_t hs⟩)
    | (cases h; exact ⟨ai_gl_set hl ai_gv_r, ai_gl_t hs⟩)
    | (cases h; rename_i hv; exact ⟨hl, ai_gl_cons (ai_gv_fget hv) (ai_gl_t hs)⟩)
    | (cases h; rename_i hv; exact ⟨hl, ai_gl_cons (ai_gv_xget hv) (ai_gl_t hs)⟩)
    | (cases h; rename_i hv; exact ⟨hl, ai_gl_cons (ai_gv_qget hv) (ai_gl_t (ai_gl_t hs))⟩)
end
section
/-! Calls, ends, and the whole: what the plain machine answers, the JVM answers. -/
def ai_rm (y k n : Nat) : Room := { frames := ai_fr y, cells := k, slots := n, locals := ai_lo y }
def ai_ws (y : Nat) : List Cond := .code (ai_name y) (ai_code y) (ai_L y) (ai_ret y) :: ai_T
def ai_A (b : ai_B) (cI cB cY : ClassId) (ws : ai_W) : Nat → Prop := va_A (ai_w b cI cB cY ws) (b.1 + ws.length)
def ai_P (D : va_G) (cI cB cY : ClassId) (b : ai_B) (N : Nat) (as : List Value) (ws : ai_W) : Array Value → State → Prop := va_Pc (as.map (ai_cv b)) (fun U => U.heap.size = b.1 + ws.length ∧ va_P D vwCl (ai_w b cI cB cY ws) U.heap ∧ va_D (fun _ => True) (ai_w b cI cB cY ws) ∧ va_K D vwCl (ai_tys cI cB cY) U ∧ ai_Z U ∧ ai_Y b N (ai_A b cI cB cY ws) U U.heap)
def ai_Q (D : va_G) (cI cB cY : ClassId) (b : ai_B) (A : Nat → Prop) (ws : ai_W) : Option Value → Array Value → State → Outcome → State → Prop
  | some (.int x) => va_Qi (fun r (_ : Unit) => r = x) (fun _ t => va_P D vwCl (ai_w b cI cB cY ws) t.heap ∧ va_D A (ai_w b cI cB cY ws)) A
  | some (.ref a) => va_Qr (fun (_ : Unit) => True) (fun _ q t => q = b.1 + a ∧ va_P D vwCl (ai_w b cI cB cY ws) t.heap ∧ va_D A (ai_w b cI cB cY ws)) A
  | _ => va_Qv (fun (_ : Unit) => True) (fun _ t => va_P D vwCl (ai_w b cI cB cY ws) t.heap ∧ va_D A (ai_w b cI cB cY ws)) A
def ai_Met (l : Launch) (D : va_G) (cI cB cY : ClassId) (b : ai_B) (N y : Nat) (as : List Value) (ws : ai_W) (r : Option Value) (ws1 : ai_W) : Prop :=
  Met l (ai_name y) (ai_ws y) (ai_rm y (ws1.length - ws.length) (ai_sl ws1 - ai_sl ws)) (ai_P D cI cB cY b N as ws) (ai_Q D cI cB cY b (ai_A b cI cB cY ws) ws1 r) (ws1.length - ws.length) (ai_sl ws1 - ai_sl ws) (ai_A b cI cB cY ws)
theorem ai_blind {D : va_G} {cI cB cY : ClassId} {b : ai_B} {N : Nat} {as : List Value} {ws : ai_W} : FrameBlind (ai_P D cI cB cY b N as ws) := fun a U g mk q => ⟨q.1, q.2.1, q.2.2.1, q.2.2.2.1, va_K.moved (u := U) (U := U.calling g mk a) (Vm.Alike.refl U.vm) q.2.2.2.2.1, ai_Z.same (u := U) (U := U.calling g mk a) rfl q.2.2.2.2.2.1, ai_Y.same (u := U) (U := U.calling g mk a) rfl q.2.2.2.2.2.2⟩
theorem ai_goodIn {y : Nat} (hy : y < 202) : GoodIn ai_T (ai_ws y) := fun w hw => by
  have h : w ∈ ai_T := by
    rcases List.mem_cons.mp hw with h | h
    · rw [h]; exact ai_w_code hy
    · exact h
  exact ⟨h, good_of_word (ai_T_good w h)⟩
theorem ai_goodL {ws : List Cond} (h : ∀ w ∈ ws, w ∈ ai_T) : GoodIn ai_T ws := fun w hw => ⟨h w hw, good_of_word (ai_T_good w (h w hw))⟩
section AIS
variable {p : Program} {l : Launch} {e : Env} {R : Room} {s : State} {m : MethodId} {args : Array Value} {below : List Frame} {meth : Method} {c : Code} {Q : State → Prop} {b : ai_B} {N n0 s0 : Nat} {cI cB cY : ClassId} {dC : Nat → ClassId} {dI : Nat → Nat → Nat} {A : Nat → Prop}
theorem ai_back {pc : Nat} {arr : Array Slot} {st0 ls rest : List Value} {a : Array Value} {ws ws1 : ai_W} {r : Option Value} {H : Heap} {locs : List Loc} {cells slots : Nat} (hA : ∀ q, s.heap.size ≤ q → A q) (hrr : r = none ∨ (∃ x, r = some (.int x)) ∨ ∃ x, r = some (.ref x)) (hg : ws.length ≤ ws1.length ∧ ai_sl ws ≤ ai_sl ws1)
    (hr : va_Run p l e R s m args below meth c H locs cells slots (ws1.length - ws.length) (ai_sl ws1 - ai_sl ws) (F0 m pc arr st0) (rest.map (ai_cv b)) (ai_Q (dC, dI) cI cB cY b (ai_A b cI cB cY ws) ws1 r a) (ai_A b cI cB cY ws))
    (hl : ai_l b ls arr) (hD : va_D A (ai_w b cI cB cY ws)) (hS : va_S A s.heap H locs) (hz : H.size = b.1 + ws.length) (h1 : ws.length = n0 + cells) (h2 : ai_sl ws = s0 + slots) (kk : ai_X p l e R s m args below meth c Q b n0 s0 cI cB cY dC dI A (pc + 3) ls (r.toList ++ rest) ws1) : W p l e R s m args below meth c H locs cells slots Q (F0 m pc arr st0) := by
  have hf : ∀ q, ai_A b cI cB cY ws q → A q := by
    intro q hq
    rcases hq with ⟨k, e, h⟩ | h
    · exact hD.2 k (q, e) h
    · exact hA q (Nat.le_trans hS.1 (by rw [hz]; exact h))
  rcases hrr with rfl | ⟨x, rfl⟩ | ⟨x, rfl⟩
  · exact va_callv (a := a) hr hS (fun q _ h => hf q h) hf (fun u t H1 locs1 ht hvm hp hB hz1 hk1 hS1 => kk arr H1 locs1 _ _ hl (by rw [← ht]; exact hB.1) (hB.2.weaken (fun _ q _ h => hf q.1 h)) hS1 (by omega) (by omega))
  · exact va_calli (a := a) hr hS (fun q _ h => hf q h) hf (fun r u t H1 locs1 ht hvm hp hB hz1 hk1 hS1 => by
      subst hp
      exact kk arr H1 locs1 _ _ hl (by rw [← ht]; exact hB.1) (hB.2.weaken (fun _ q _ h => hf q.1 h)) hS1 (by omega) (by omega))
  · exact va_callr (a := a) hr hS (fun q _ h => hf q h) hf (fun u ra t H1 locs1 ht hvm hp hB hz1 hk1 hS1 => by
      obtain ⟨rfl, hB1, hB2⟩ := hB
      exact kk arr H1 locs1 _ _ hl (by rw [← ht]; exact hB1) (hB2.weaken (fun _ q _ h => hf q.1 h)) hS1 (by omega) (by omega))
theorem ai_call_ok {y y2 pc pc2 n : Nat} {i : Instr} {ls st as rest : List Value} {ws ws1 : ai_W} {r : Option Value} (hF : ai_F p R s m args meth c b N n0 cI cB cY dC dI A y) (hL : ls.length = ai_L y) (hd : decode (ai_code y) pc = .ok (i, n)) (h : ai_in y pc ls st ws i n = some (.inr (.inr (y2, as, rest, pc2)))) (hok : ai_ok y2 as ws = true) (hr8 : ai_cs rest ≤ 8) (hM : ai_Met l (dC, dI) cI cB cY b N y2 as ws r ws1) (hrr : r = none ∨ (∃ x, r = some (.int x)) ∨ ∃ x, r = some (.ref x)) (hg : ws.length ≤ ws1.length ∧ ai_sl ws ≤ ai_sl ws1) (hcap : ws1.length ≤ n0 + R.cells ∧ ai_sl ws1 ≤ s0 + R.slots) (kk : ai_X p l e R s m args below meth c Q b n0 s0 cI cB cY dC dI A pc2 ls (r.toList ++ rest) ws1) : ai_X p l e R s m args below meth c Q b n0 s0 cI cB cY dC dI A pc ls st ws := by
  obtain ⟨hy, hx, hb, hml, hown, hts, hK, hr, hlk, hin, hZ, hA, hA2, hz, hR1, hR2, hY⟩ := hF
  have key : ∀ (kd : Nat), ai_call y y2 kd pc st = some (.inr (.inr (y2, as, rest, pc2))) → (y2 < y ∧ ai_fr y2 + 1 ≤ ai_fr y ∧ 8 + (ai_L y2 + 11) + ai_lo y2 ≤ ai_lo y) ∧ ai_kind y2 = kd ∧ pc2 = pc + 3 ∧ st = as.reverse ++ rest := by
    intro kd hc
    unfold ai_call at hc
    split at hc
    · rename_i hq
      have e := Option.some.inj hc
      simp only [Sum.inr.injEq, Prod.mk.injEq, true_and] at e
      obtain ⟨e1, e2, e3⟩ := e
      refine ⟨⟨hq.1, hq.2.2.1, hq.2.2.2⟩, hq.2.1, e3.symm, ?_⟩
      rw [← e1, ← e2, List.reverse_reverse, List.take_append_drop]
    · cases hc
  have kc : ∀ {q : Nat} (kd : Nat), ai_call y q kd pc st = some (.inr (.inr (y2, as, rest, pc2))) → q = y2 := by
    intro q kd hc
    unfold ai_call at hc
    split at hc
    · have e := Option.some.inj hc
      simp only [Sum.inr.injEq, Prod.mk.injEq] at e
      exact e.1
    · cases hc
  have hf : ∀ {H : Heap} {locs : List Loc}, va_D A (ai_w b cI cB cY ws) → va_S A s.heap H locs → H.size = b.1 + ws.length → ∀ q, ai_A b cI cB cY ws q → A q := by
    intro H locs hD hS hz q hq
    rcases hq with ⟨k, e, h⟩ | h
    · exact hD.2 k (q, e) h
    · exact hA q (Nat.le_trans hS.1 (by rw [hz]; exact h))
  have pre : ∀ {H : Heap} {locs : List Loc}, va_P (dC, dI) vwCl (ai_w b cI cB cY ws) H → va_D A (ai_w b cI cB cY ws) → va_S A s.heap H locs → H.size = b.1 + ws.length → ∀ U : State, U.heap = H → s.WarmedH U.vm → ai_P (dC, dI) cI cB cY b N as ws (as.map (ai_cv b)).toArray U := fun hP hD hS hzz U hU hW => ⟨rfl, by rw [hU]; exact hzz, by rw [hU]; exact hP, hD.weaken (fun _ _ _ _ => trivial), va_K.moved hW.alike hK, hZ.warm hW, by rw [hU]; exact (((hY.kept hS.1 hS.2.1).narrow (hf hD hS hzz)).warm hW)⟩
  have fit : ∀ {cells slots : Nat}, ws.length = n0 + cells → ai_sl ws = s0 + slots → cells + (ws1.length - ws.length) ≤ R.cells ∧ slots + (ai_sl ws1 - ai_sl ws) ≤ R.slots := by
    intro cells slots h1 h2
    exact ⟨by omega, by omega⟩
  have room : (y2 < y ∧ ai_fr y2 + 1 ≤ ai_fr y ∧ 8 + (ai_L y2 + 11) + ai_lo y2 ≤ ai_lo y) → (ai_rm y2 (ws1.length - ws.length) (ai_sl ws1 - ai_sl ws)).frames + 1 ≤ R.frames ∧ 8 + (ai_L y2 + 11) + (ai_rm y2 (ws1.length - ws.length) (ai_sl ws1 - ai_sl ws)).locals ≤ R.locals := by
    intro hlt
    refine ⟨?_, ?_⟩
    · show ai_fr y2 + 1 ≤ _
      omega
    · show 8 + (ai_L y2 + 11) + ai_lo y2 ≤ _
      omega
  have ok := hok
  unfold ai_ok at ok
  simp only [Bool.and_eq_true, decide_eq_true_eq] at ok
  have hcat : ((rest.map (ai_cv b)).map fun v => v.category).sum ≤ 8 := by
    have e : (rest.map (ai_cv b)).map (fun v => v.category) = rest.map fun v => v.category := by
      rw [List.map_map]
      exact List.map_congr_left (fun v _ => ai_cv_cat2)
    rw [e]
    exact hr8
  have recv : ai_kind y2 ≠ 0 → ∃ v as2, as = v :: as2 ∧ ai_rcv ws v (ai_ci y2) = true ∧ as2.length = ai_n y2 := by
    intro hk
    have o1 := ok.1.1.1
    have o2 := ok.1.1.2
    rw [if_neg hk] at o1 o2
    split at o2
    · rename_i v as2
      exact ⟨v, as2, rfl, o2, by simpa using o1⟩
    · cases o2
  have obj : ∀ {H : Heap} {locs : List Loc} {v : Value}, ai_rcv ws v (ai_ci y2) = true → (∃ r, vwCl[ai_ci y2]? = some r) → va_P (dC, dI) vwCl (ai_w b cI cB cY ws) H → va_S A s.heap H locs → ∃ ad, ai_cv b v = .ref ad ∧ ∃ cellB : Cell, H[ad]? = some cellB ∧ cellB.vm.isStatics = false ∧ s.vm.findClass (ai_cn (ai_ci y2)) = some cellB.cls := by
    intro H locs v ho hr1 hP hS
    obtain ⟨r1, hr1⟩ := hr1
    unfold ai_rcv at ho
    split at ho
    · rename_i a
      refine ⟨b.1 + a, rfl, ?_⟩
      unfold ai_isob at ho
      split at ho
      · rename_i ci fs hc
        rw [decide_eq_true_eq] at ho
        subst ho
        have e1 : ai_cn (ai_ci y2) = r1.1 := by
          unfold ai_cn
          rw [hr1]
          rfl
        rw [e1]
        exact va_recv hK hP hr1 (ai_w_geto hc (ai_ne77 hr1))
      · cases ho
    · rename_i k
      rw [decide_eq_true_eq] at ho
      obtain ⟨e1, k1, k2⟩ := ho
      refine ⟨b.2.1 (k - 1 + 1), ?_, ?_⟩
      · rw [ai_cv_x (show ¬ k = 23 by omega)]
        unfold ai_xa
        rw [if_neg (by omega), show k - 1 + 1 = k by omega]
      · obtain ⟨cellB, c1, c2, c3, -⟩ := (hY.2.2.1.1 (k - 1) (by omega)).1.kept hS.2.1
        refine ⟨cellB, c1, c2, ?_⟩
        rw [e1]
        exact c3
    · cases ho
  unfold ai_in at h
  split at h <;> (try (simp only [ai_lda, ai_ldi, ai_ldf, ai_sti, ai_stf, ai_sta, ai_bin, ai_fb, ai_jmp, ai_wide, ai_go] at h; (repeat' split at h) <;> (cases h; done)))
  · -- invokevirtual
    unfold ai_inv at h
    split at h
    · rename_i y3 wi hv
      have e3 := kc _ h
      subst e3
      obtain ⟨hlt, hk1, rfl, rfl⟩ := key _ h
      have hl1 := ai_l_of hy hv
      obtain ⟨l1, l2, l3, l4, hy2⟩ := hl1
      have hyk := ai_yok hy2
      have hk0 : ai_kind y3 ≠ 0 := by rw [hk1]; decide
      obtain ⟨v, as2, rfl, ho, hn⟩ := recv hk0
      intro arr H locs cells slots hl hP hD hS h1 h2 T hT XX
      have hzz := ai_size XX hT hP hS hz h1
      obtain ⟨ad, hv1, hob⟩ := obj ho (hyk.2.2.2.2.2.2.1 hk0).2 hP hS
      rw [l4] at hob
      have cb := callB_of (R := R) (s := s) (args := args) (own := (ai_name y).cls) (index := _) (maxL := ai_L y3) (ai_n y3) hts (ai_goodIn hy2) rfl rfl rfl (hts _ hyk.1) (hts _ l1) ⟨hyk.2.1, hyk.2.2.1, hyk.2.2.2.2.1⟩ (room hlt)
      have hpre := pre (locs := locs) hP hD hS hzz
      rw [List.map_cons, hv1] at hpre
      have rn := va_runV (e := e) (below := below) (meth := meth) (locs := locs) (H := H) (rest := rest.map (ai_cv b)) (As := as2.map (ai_cv b)) (b := ad) (C := (ai_name y3).cls) (g := F0 m pc arr (((v :: as2).reverse ++ rest).map (ai_cv b))) (nL := ai_L y) ⟨hx, hb, hml, hown, hts⟩ hM ⟨cb, hts _ (hyk.2.2.2.2.2.2.1 hk0).1, hts _ l3⟩ ⟨ai_blind, hob, hpre⟩ rfl (by rw [List.length_map]; exact hn) (by show arr.size = _; rw [hl.1]; exact hL) (by show List.map (ai_cv b) _ = _; simp [hv1]) (by show 2 * 0 + _ ≤ 8; omega) hd (fit h1 h2)
      exact ai_back hA hrr hg rn hl hD hS hzz h1 h2 kk T hT XX
    · -- by another name
      rename_i y3 wi hv
      have e3 := kc _ h
      subst e3
      obtain ⟨hlt, hk1, rfl, rfl⟩ := key _ h
      have hl1 := ai_l_of hy hv
      obtain ⟨x, l1, l2, l3, l4, l5, hyx, hy2, l6⟩ := hl1
      have hyk := ai_yok hy2
      have hxk := ai_yok hyx
      have hk0 : ai_kind y3 ≠ 0 := by rw [hk1]; decide
      have hx0 : ai_kind x ≠ 0 := by rw [l5]; decide
      obtain ⟨v, as2, rfl, ho, hn⟩ := recv hk0
      intro arr H locs cells slots hl hP hD hS h1 h2 T hT XX
      have hzz := ai_size XX hT hP hS hz h1
      obtain ⟨ad, hv1, hob⟩ := obj ho (hyk.2.2.2.2.2.2.1 hk0).2 hP hS
      have cw := va_cwO (R := R) (s := s) (args := args) (own := (ai_name y).cls) (index := _) (C := ai_cn (ai_ci y3)) (owner := (ai_name x).cls) (x := ai_name x) (y := ai_name y3) (bytes := ai_code y3) (maxL := ai_L y3) (ret := ai_ret y3) (ws := ai_ws y3) (ws' := ai_T) (rm := ai_rm y3 (ws1.length - ws.length) (ai_sl ws1 - ai_sl ws)) (mc := ws1.length - ws.length) (ms := ai_sl ws1 - ai_sl ws) (ai_n x) hts (ai_goodL (by
        intro w hw
        unfold va_wsO at hw
        rcases List.mem_append.mp hw with hw | hw
        · simp only [List.mem_cons, List.not_mem_nil, or_false] at hw
          rcases hw with rfl | rfl | rfl | rfl | rfl | rfl
          · exact l1
          · exact l2
          · exact (hxk.2.2.2.2.2.2.1 hx0).1
          · exact l3
          · exact (hyk.2.2.2.2.2.2.1 hk0).1
          · exact hyk.1
        · exact (ai_goodIn hy2 w hw).1)) rfl rfl rfl (ai_w_code hyx) ⟨hxk.2.1, hxk.2.2.1, hxk.2.2.2.2.1⟩ (room hlt)
      have hpre := pre (locs := locs) hP hD hS hzz
      rw [List.map_cons, hv1] at hpre
      have rn := va_runU (e := e) (below := below) (meth := meth) (locs := locs) (H := H) (rest := rest.map (ai_cv b)) (As := as2.map (ai_cv b)) (b := ad) (g := F0 m pc arr (((v :: as2).reverse ++ rest).map (ai_cv b))) (nL := ai_L y) (cc := ai_code y) ⟨hx, hb, hml, hown, hts⟩ hM cw ⟨ai_blind, hob, hpre⟩ rfl (by rw [List.length_map, l6]; exact hn) (by show arr.size = _; rw [hl.1]; exact hL) (by show List.map (ai_cv b) _ = _; simp [hv1]) (by show 2 * 0 + _ ≤ 8; omega) hd (fit h1 h2)
      exact ai_back hA hrr hg rn hl hD hS hzz h1 h2 kk T hT XX
    · simp only [ai_go] at h
      (repeat' split at h) <;> cases h
    · cases h
  · -- invokestatic
    unfold ai_ins at h
    split at h
    · rename_i y3 wi hv
      have e3 := kc _ h
      subst e3
      obtain ⟨hlt, hk1, rfl, rfl⟩ := key _ h
      have hl1 := ai_l_of hy hv
      obtain ⟨l1, l2, hy2⟩ := hl1
      have hyk := ai_yok hy2
      have hn : as.length = ai_n y3 := by
        have o1 := ok.1.1.1
        rw [if_pos hk1] at o1
        exact o1
      intro arr H locs cells slots hl hP hD hS h1 h2 T hT XX
      have hzz := ai_size XX hT hP hS hz h1
      have cb := callB_of (R := R) (s := s) (args := args) (own := (ai_name y).cls) (index := _) (maxL := ai_L y3) (ai_n y3) hts (ai_goodIn hy2) rfl rfl rfl (hts _ hyk.1) (hts _ l1) ⟨hyk.2.1, hyk.2.2.1, hyk.2.2.2.2.1⟩ (room hlt)
      have rn := va_runS (e := e) (below := below) (meth := meth) (locs := locs) (H := H) (rest := rest.map (ai_cv b)) (As := as.map (ai_cv b)) (g := F0 m pc arr ((as.reverse ++ rest).map (ai_cv b))) (nL := ai_L y) ⟨hx, hb, hml, hown, hts⟩ hM ⟨cb, hts _ (hyk.2.2.2.2.2.1 hk1)⟩ ⟨ai_blind, pre (locs := locs) hP hD hS hzz⟩ rfl (by rw [List.length_map]; exact hn) (by show arr.size = _; rw [hl.1]; exact hL) (by show List.map (ai_cv b) _ = _; simp) (by show 2 * 0 + _ ≤ 8; omega) hd (fit h1 h2)
      exact ai_back hA hrr hg rn hl hD hS hzz h1 h2 kk T hT XX
    · rename_i y3 wi hv
      have e3 := kc _ h
      subst e3
      obtain ⟨hlt, hk1, rfl, rfl⟩ := key _ h
      have hl1 := ai_l_of hy hv
      obtain ⟨l1, l2, hy2⟩ := hl1
      have hyk := ai_yok hy2
      have hn : as.length = ai_n y3 := by
        have o1 := ok.1.1.1
        rw [if_pos hk1] at o1
        exact o1
      intro arr H locs cells slots hl hP hD hS h1 h2 T hT XX
      have hzz := ai_size XX hT hP hS hz h1
      have cb := va_cnB (R := R) (s := s) (args := args) (own := (ai_name y).cls) (host := "StoryCoroner") (index := _) (maxL := ai_L y3) (ai_n y3) hts (ai_goodIn hy2) rfl rfl rfl (hZ.2.1 _ l1) (hts _ hyk.1) ⟨hyk.2.1, hyk.2.2.1, hyk.2.2.2.2.1⟩ (room hlt)
      have rn := va_runSN (e := e) (below := below) (meth := meth) (locs := locs) (H := H) (rest := rest.map (ai_cv b)) (As := as.map (ai_cv b)) (g := F0 m pc arr ((as.reverse ++ rest).map (ai_cv b))) (nL := ai_L y) ⟨hx, hb, hml, hown, hts⟩ hM ⟨cb, hts _ (hyk.2.2.2.2.2.1 hk1), trivial⟩ ⟨ai_blind, pre (locs := locs) hP hD hS hzz⟩ rfl (by rw [List.length_map]; exact hn) (by show arr.size = _; rw [hl.1]; exact hL) (by show List.map (ai_cv b) _ = _; simp) (by show 2 * 0 + _ ≤ 8; omega) hd (fit h1 h2)
      exact ai_back hA hrr hg rn hl hD hS hzz h1 h2 kk T hT XX
    · simp only [ai_go] at h
      (repeat' split at h) <;> cases h
    · cases h
  · -- invokespecial
    unfold ai_spc at h
    split at h
    · rename_i y3 wi hv
      have e3 := kc _ h
      subst e3
      obtain ⟨hlt, hk1, rfl, rfl⟩ := key _ h
      have hl1 := ai_l_of hy hv
      obtain ⟨l1, l2, hy2⟩ := hl1
      have hyk := ai_yok hy2
      have hk0 : ai_kind y3 ≠ 0 := by rw [hk1]; decide
      obtain ⟨v, as2, rfl, ho, hn⟩ := recv hk0
      have hct := hyk.2.2.2.2.2.2.2.2.1 hk1
      intro arr H locs cells slots hl hP hD hS h1 h2 T hT XX
      have hzz := ai_size XX hT hP hS hz h1
      obtain ⟨ad, hv1, -⟩ := obj ho (hyk.2.2.2.2.2.2.1 hk0).2 hP hS
      have cb := callB_of (R := R) (s := s) (args := args) (own := (ai_name y).cls) (index := _) (maxL := ai_L y3) (ai_n y3) hts (ai_goodIn hy2) rfl rfl rfl (hts _ hyk.1) (hts _ l1) ⟨hyk.2.1, hyk.2.2.1, hyk.2.2.2.2.1⟩ (room hlt)
      rw [hct.2] at cb
      have hpre := pre (locs := locs) hP hD hS hzz
      rw [List.map_cons, hv1] at hpre
      have rn := va_runI (e := e) (below := below) (meth := meth) (locs := locs) (H := H) (rest := rest.map (ai_cv b)) (As := as2.map (ai_cv b)) (b := ad) (g := F0 m pc arr (((v :: as2).reverse ++ rest).map (ai_cv b))) (nL := ai_L y) ⟨hx, hb, hml, hown, hts⟩ hM ⟨cb, hct.1, hts _ (hyk.2.2.2.2.2.2.1 hk0).1⟩ ⟨ai_blind, hpre⟩ rfl (by rw [List.length_map]; exact hn) (by show arr.size = _; rw [hl.1]; exact hL) (by show List.map (ai_cv b) _ = _; simp [hv1]) (by show 2 * 0 + _ ≤ 8; omega) hd (fit h1 h2)
      exact ai_back hA hrr hg rn hl hD hS hzz h1 h2 kk T hT XX
    · rename_i y3 wi hv
      have e3 := kc _ h
      subst e3
      obtain ⟨hlt, hk1, rfl, rfl⟩ := key _ h
      have hl1 := ai_l_of hy hv
      obtain ⟨l1, l2, hy2⟩ := hl1
      have hyk := ai_yok hy2
      have hk0 : ai_kind y3 ≠ 0 := by rw [hk1]; decide
      obtain ⟨v, as2, rfl, ho, hn⟩ := recv hk0
      have hct := hyk.2.2.2.2.2.2.2.2.1 hk1
      intro arr H locs cells slots hl hP hD hS h1 h2 T hT XX
      have hzz := ai_size XX hT hP hS hz h1
      obtain ⟨ad, hv1, -⟩ := obj ho (hyk.2.2.2.2.2.2.1 hk0).2 hP hS
      have cb := va_cnB (R := R) (s := s) (args := args) (own := (ai_name y).cls) (host := "StoryCoroner") (index := _) (maxL := ai_L y3) (ai_n y3) hts (ai_goodIn hy2) rfl rfl rfl (hZ.2.1 _ l1) (hts _ hyk.1) ⟨hyk.2.1, hyk.2.2.1, hyk.2.2.2.2.1⟩ (room hlt)
      rw [hct.2] at cb
      have hpre := pre (locs := locs) hP hD hS hzz
      rw [List.map_cons, hv1] at hpre
      have rn := va_runIN (e := e) (below := below) (meth := meth) (locs := locs) (H := H) (rest := rest.map (ai_cv b)) (As := as2.map (ai_cv b)) (b := ad) (g := F0 m pc arr (((v :: as2).reverse ++ rest).map (ai_cv b))) (nL := ai_L y) ⟨hx, hb, hml, hown, hts⟩ hM ⟨cb, hct.1, hts _ (hyk.2.2.2.2.2.2.1 hk0).1⟩ ⟨ai_blind, hpre⟩ rfl (by rw [List.length_map]; exact hn) (by show arr.size = _; rw [hl.1]; exact hL) (by show List.map (ai_cv b) _ = _; simp [hv1]) (by show 2 * 0 + _ ≤ 8; omega) hd (fit h1 h2)
      exact ai_back hA hrr hg rn hl hD hS hzz h1 h2 kk T hT XX
    · -- the superclass's own
      rename_i y3 wi hv
      have e3 := kc _ h
      subst e3
      obtain ⟨hlt, hk1, rfl, rfl⟩ := key _ h
      have hl1 := ai_l_of hy hv
      obtain ⟨l1, l2, l3, l4, hy2⟩ := hl1
      have hyk := ai_yok hy2
      have hk0 : ai_kind y3 ≠ 0 := by rw [hk1]; decide
      obtain ⟨v, as2, rfl, ho, hn⟩ := recv hk0
      intro arr H locs cells slots hl hP hD hS h1 h2 T hT XX
      have hzz := ai_size XX hT hP hS hz h1
      obtain ⟨r1, hr1⟩ := (hyk.2.2.2.2.2.2.1 hk0).2
      obtain ⟨ad, hv1, hob⟩ := obj ho ⟨r1, hr1⟩ hP hS
      have hat := (hK.1 _ _ hr1).2
      have e1 : ai_cn (ai_ci y3) = r1.1 := by
        unfold ai_cn
        rw [hr1]
        rfl
      rw [e1] at hob
      have cw := va_cwSU (R := R) (s := s) (args := args) (own := (ai_name y).cls) (index := _) (y := ai_name y3) (bytes := ai_code y3) (maxL := ai_L y3) (ret := ai_ret y3) (ws := ai_ws y3) (ws' := ai_T) (rm := ai_rm y3 (ws1.length - ws.length) (ai_sl ws1 - ai_sl ws)) (mc := ws1.length - ws.length) (ms := ai_sl ws1 - ai_sl ws) (ai_n y3) hts (ai_goodL (by
        intro w hw
        unfold va_wsSU at hw
        rcases List.mem_append.mp hw with hw | hw
        · simp only [List.mem_cons, List.not_mem_nil, or_false] at hw
          rcases hw with rfl | rfl | rfl | rfl | rfl
          · exact l1
          · exact l2
          · exact l3
          · exact (hyk.2.2.2.2.2.2.1 hk0).1
          · exact hyk.1
        · exact (ai_goodIn hy2 w hw).1)) rfl rfl rfl ⟨hyk.2.2.2.2.2.2.2.1 hk1, hyk.2.2.2.2.1⟩ (room hlt)
      have hpre := pre (locs := locs) hP hD hS hzz
      rw [List.map_cons, hv1] at hpre
      have rn := va_runSU (e := e) (below := below) (meth := meth) (locs := locs) (H := H) (rest := rest.map (ai_cv b)) (As := as2.map (ai_cv b)) (b := ad) (g := F0 m pc arr (((v :: as2).reverse ++ rest).map (ai_cv b))) (nL := ai_L y) (cc := ai_code y) hat ⟨hx, hb, hml, hown, hts⟩ hM cw ⟨ai_blind, hob, hpre⟩ rfl (by rw [List.length_map]; exact hn) (by show arr.size = _; rw [hl.1]; exact hL) (by show List.map (ai_cv b) _ = _; simp [hv1]) (by show 2 * 0 + _ ≤ 8; omega) hd (fit h1 h2)
      exact ai_back hA hrr hg rn hl hD hS hzz h1 h2 kk T hT XX
    · simp only [ai_go] at h
      (repeat' split at h) <;> cases h
    · cases h
  · split at h
    · split at h <;> cases h
    · cases h
  · split at h
    · split at h <;> cases h
    · cases h
  · split at h
    · split at h <;> cases h
    · cases h
  · cases h
end AIS
end
section
/-! WHAT THE PLAIN MACHINE ANSWERS, THE JVM ANSWERS: a call's answer is its contract. -/
theorem ai_run_shape : ∀ (F y pc : Nat) (ls st : List Value) (ws : ai_W) (r : ai_R), ai_run F y pc ls st ws = some r → r.1 = none ∨ (∃ x, r.1 = some (.int x)) ∨ ∃ x, r.1 = some (.ref x) := by
  intro F
  induction F with
  | zero => intro y pc ls st ws r h; cases h
  | succ F ih =>
    intro y pc ls st ws r h
    unfold ai_run at h
    split at h
    · cases h
    · rename_i r2 hs
      cases h
      unfold ai_step at hs
      split at hs
      · unfold ai_in at hs
        split at hs <;> (try simp only [ai_lda, ai_ldi, ai_ldf, ai_sti, ai_stf, ai_sta, ai_bin, ai_fb, ai_jmp, ai_inv, ai_ins, ai_spc, ai_call, ai_wide, ai_go] at hs) <;> (repeat' split at hs) <;>
          first
          | (cases hs; done)
          | (cases hs; exact Or.inl rfl)
          | (cases hs; exact Or.inr (Or.inl ⟨_, rfl⟩))
          | (cases hs; exact Or.inr (Or.inr ⟨_, rfl⟩))
      · cases hs
    · exact ih _ _ _ _ _ _ h
    · split at h
      · split at h
        · cases h
        · exact ih _ _ _ _ _ _ h
      · cases h
theorem ai_in_end {y pc n : Nat} {i : Instr} {ls st : List Value} {ws ws1 : ai_W} {r : Option Value} (h : ai_in y pc ls st ws i n = some (.inl (r, ws1))) : ws1 = ws ∧ ((∃ x, i = .ireturn ∧ n = 1 ∧ st = [.int x] ∧ r = some (.int x) ∧ ai_pok (ai_ret y) (.int x) = true) ∨ (∃ a, i = .areturn ∧ n = 1 ∧ st = [.ref a] ∧ r = some (.ref a) ∧ ai_pok (ai_ret y) (.ref a) = true) ∨ (i = .return_ ∧ n = 1 ∧ st = [] ∧ r = none ∧ ai_ret y = none)) := by
  unfold ai_in at h
  split at h <;> (try (simp only [ai_lda, ai_ldi, ai_ldf, ai_sti, ai_stf, ai_sta, ai_bin, ai_fb, ai_jmp, ai_inv, ai_ins, ai_spc, ai_call, ai_wide, ai_go] at h; (repeat' split at h) <;> (cases h; done)))
  · split at h
    · rename_i x
      split at h
      · rename_i hp
        cases h
        exact ⟨rfl, Or.inl ⟨x, rfl, rfl, rfl, rfl, hp⟩⟩
      · cases h
    · cases h
  · split at h
    · rename_i a
      split at h
      · rename_i hp
        cases h
        exact ⟨rfl, Or.inr (Or.inl ⟨a, rfl, rfl, rfl, rfl, hp⟩)⟩
      · cases h
    · cases h
  · split at h
    · split at h
      · rename_i hq
        cases h
        exact ⟨rfl, Or.inr (Or.inr ⟨rfl, rfl, rfl, rfl, hq⟩)⟩
      · cases h
    · cases h
  · cases h
section AIS
variable {p : Program} {l : Launch} {e : Env} {R : Room} {s : State} {m : MethodId} {args : Array Value} {below : List Frame} {meth : Method} {c : Code} {Q : State → Prop} {b : ai_B} {N n0 s0 : Nat} {cI cB cY : ClassId} {dC : Nat → ClassId} {dI : Nat → Nat → Nat} {A : Nat → Prop}
theorem ai_ret_ok {y pc n : Nat} {i : Instr} {ls st : List Value} {ws ws1 : ai_W} {r : Option Value} {arr : Array Slot} {H : Heap} {locs : List Loc} {cells slots : Nat} (hF : ai_F p R s m args meth c b N n0 cI cB cY dC dI A y) (hd : decode (ai_code y) pc = .ok (i, n)) (h : ai_in y pc ls st ws i n = some (.inl (r, ws1))) (hP : va_P (dC, dI) vwCl (ai_w b cI cB cY ws1) H) (hD : va_D A (ai_w b cI cB cY ws1)) (hS : va_S A s.heap H locs) : W p l e R s m args below meth c H locs cells slots (MQ below (ai_Q (dC, dI) cI cB cY b A ws1 r) args s cells slots A) (F0 m pc arr (st.map (ai_cv b))) := by
  obtain ⟨hy, hx, hb, hml, hown, hts, hK, hr, hlk, hin, hZ, hA, hA2, hz, hR1, hR2, hY⟩ := hF
  obtain ⟨rfl, hx1⟩ := ai_in_end h
  rcases hx1 with ⟨x, rfl, rfl, rfl, rfl, hp⟩ | ⟨a, rfl, rfl, rfl, rfl, hp⟩ | ⟨rfl, rfl, rfl, rfl, hq⟩
  · have hty : ∃ ty, ai_ret y = some ty := by
      cases hq : ai_ret y with
      | none => rw [hq] at hp; cases hp
      | some ty => exact ⟨ty, rfl⟩
    obtain ⟨ty, hty⟩ := hty
    rw [hty] at hp
    exact W.zret (v := x) (ty := ty) hx hb (hr.trans hty) (ai_cv_nar (b := b) (v := .int x) hp).1 (fun t ht hW => ⟨⟨x, (), rfl, rfl, by rw [ht]; exact hP, hD⟩, hS.F ht⟩) hS.2.2 hd hlk
  · have hty : ∃ ty, ai_ret y = some ty ∧ ((∃ n, ty = .object n) ∨ ∃ t, ty = .array t) := by
      cases hq : ai_ret y with
      | none => rw [hq] at hp; cases hp
      | some ty =>
        rw [hq] at hp
        cases ty <;> first
          | (cases hp; done)
          | exact ⟨_, rfl, Or.inl ⟨_, rfl⟩⟩
          | exact ⟨_, rfl, Or.inr ⟨_, rfl⟩⟩
    obtain ⟨ty, hty, hto⟩ := hty
    exact W.aret (v := .ref (b.1 + a)) (rt := ty) hx hb (hr.trans hty) hto (Or.inr ⟨_, rfl⟩) (fun t ht hW => ⟨⟨(), b.1 + a, rfl, trivial, rfl, by rw [ht]; exact hP, hD⟩, hS.F ht⟩) hS.2.2 hd hlk
  · exact W.vret hx hb (hr.trans hq) (fun t ht hW => ⟨⟨(), rfl, trivial, by rw [ht]; exact hP, hD⟩, hS.F ht⟩) hS.2.2 hd hlk
theorem ai_call_lt {y y2 q kd pc pc2 : Nat} {st as rest : List Value} (h : ai_call y q kd pc st = some (.inr (.inr (y2, as, rest, pc2)))) : y2 < y ∧ (∀ v ∈ as, v ∈ st) ∧ ∀ v ∈ rest, v ∈ st := by
  unfold ai_call at h
  split at h
  · rename_i hq
    simp only [Option.some.injEq, Sum.inr.injEq, Prod.mk.injEq] at h
    obtain ⟨e1, e2, e3, -⟩ := h
    refine ⟨by rw [← e1]; exact hq.1, fun v hv => ?_, fun v hv => ?_⟩
    · rw [← e2] at hv
      exact List.mem_of_mem_take (List.mem_reverse.mp hv)
    · rw [← e3] at hv
      exact List.mem_of_mem_drop hv
  · cases h
theorem ai_in_lt {y y2 pc pc2 n : Nat} {i : Instr} {ls st as rest : List Value} {ws : ai_W} (h : ai_in y pc ls st ws i n = some (.inr (.inr (y2, as, rest, pc2)))) : y2 < y ∧ (∀ v ∈ as, v ∈ st) ∧ ∀ v ∈ rest, v ∈ st := by
  unfold ai_in at h
  split at h <;> (try simp only [ai_lda, ai_ldi, ai_ldf, ai_sti, ai_stf, ai_sta, ai_bin, ai_fb, ai_jmp, ai_inv, ai_ins, ai_spc, ai_wide, ai_go] at h) <;> (repeat' split at h) <;>
    first
    | (cases h; done)
    | exact ai_call_lt h
/-- from any point of a run to its end -/
theorem ai_body {y : Nat} {r : Option Value} {ws1 : ai_W} (hFF : ai_F p R s m args meth c b N n0 cI cB cY dC dI A y) (hcap : ws1.length ≤ n0 + R.cells ∧ ai_sl ws1 ≤ s0 + R.slots)
    (ih : ∀ y2, y2 < y → ∀ (as : List Value) (ws : ai_W) (r : Option Value) (ws1 : ai_W), ai_Call y2 as ws = some (r, ws1) → (∀ v ∈ as, ai_gv N v) → ai_Met l (dC, dI) cI cB cY b N y2 as ws r ws1)
    (hend : ∀ (pc n : Nat) (ls st : List Value) (i : Instr), decode (ai_code y) pc = .ok (i, n) → ai_in y pc ls st ws1 i n = some (.inl (r, ws1)) → ∀ (arr : Array Slot) (H : Heap) (locs : List Loc) (cells slots : Nat), va_P (dC, dI) vwCl (ai_w b cI cB cY ws1) H → va_D A (ai_w b cI cB cY ws1) → va_S A s.heap H locs → ws1.length = n0 + cells → ai_sl ws1 = s0 + slots → W p l e R s m args below meth c H locs cells slots Q (F0 m pc arr (st.map (ai_cv b)))) :
    ∀ (G pc : Nat) (ls st : List Value) (ws2 : ai_W), ai_run G y pc ls st ws2 = some (r, ws1) → ls.length = ai_L y → (∀ v ∈ ls, ai_gv N v) → (∀ v ∈ st, ai_gv N v) → ai_X p l e R s m args below meth c Q b n0 s0 cI cB cY dC dI A pc ls st ws2 := by
  intro G
  induction G with
  | zero => intro pc ls st ws2 h; cases h
  | succ G ihG =>
    intro pc ls st ws2 h hL hgl hgs
    have hgr2 := ai_run_grow _ _ _ _ _ _ _ h
    unfold ai_run at h
    split at h
    · cases h
    · rename_i r2 hs
      cases h
      unfold ai_step at hs
      split at hs
      · rename_i i n hd
        have e1 := (ai_in_end hs).1
        subst e1
        intro arr H locs cells slots hl hP hD hS h1 h2
        exact hend pc n ls st i hd hs arr H locs cells slots hP hD hS h1 h2
      · cases hs
    · rename_i pc2 ls2 st2 ws3 hs
      unfold ai_step at hs
      split at hs
      · rename_i i n hd
        have hgr3 := ai_run_grow _ _ _ _ _ _ _ h
        have hg1 := ai_in_grow hs
        have hgd := ai_in_good hs hgl hgs
        dsimp only at hgr3
        exact ai_go_ok hFF hL hgs hd hs ⟨by omega, by omega⟩ (ihG _ _ _ _ h (hg1.2.2.trans hL) hgd.1 hgd.2)
      · cases hs
    · rename_i y2 as2 rest pc2 hs
      split at h
      · rename_i hk
        split at h
        · cases h
        · rename_i v ws3 h3
          unfold ai_step at hs
          split at hs
          · rename_i i n hd
            obtain ⟨hy2, ha1, ha2⟩ := ai_in_lt hs
            have hgr3 := ai_run_grow _ _ _ _ _ _ _ h
            have hgr4 := ai_run_grow _ _ _ _ _ _ _ h3
            have hsh := ai_run_shape _ _ _ _ _ _ _ h3
            dsimp only at hgr3 hgr4 hsh
            have hcall : ai_Call y2 as2 ws2 = some (v, ws3) := by
              unfold ai_Call
              rw [if_pos hk.1]
              exact ai_Run_iff.mpr ⟨_, h3⟩
            refine ai_call_ok hFF hL hd hs hk.1 hk.2 (ih y2 hy2 _ _ _ _ hcall (fun v hv => hgs v (ha1 v hv))) hsh hgr4 ⟨by omega, by omega⟩ (ihG _ _ _ _ h hL hgl (fun q hq => ?_))
            rcases List.mem_append.mp hq with hq | hq
            · rcases hsh with rfl | ⟨x, rfl⟩ | ⟨x, rfl⟩
              · cases hq
              · rw [Option.toList_some, List.mem_singleton] at hq
                rw [hq]
                exact ai_gv_i
              · rw [Option.toList_some, List.mem_singleton] at hq
                rw [hq]
                exact ai_gv_r
            · exact hgs q (ha2 q hq)
          · cases hs
      · cases h
end AIS
theorem ai_sound (l : Launch) (N : Nat) : ∀ (y : Nat), y < 202 → ∀ (as : List Value) (ws : ai_W) (r : Option Value) (ws1 : ai_W), ai_Call y as ws = some (r, ws1) → (∀ v ∈ as, ai_gv N v) → ∀ (dC : Nat → ClassId) (dI : Nat → Nat → Nat) (cI cB cY : ClassId) (b : ai_B), ai_Met l (dC, dI) cI cB cY b N y as ws r ws1 := by
  intro y
  induction y using Nat.strongRecOn with
  | ind y ih =>
  intro hy as ws r ws1 hc hgv dC dI cI cB cY b
  unfold ai_Call at hc
  split at hc
  · rename_i hok
    obtain ⟨F, hF⟩ := ai_Run_iff.mp hc
    have hgr := ai_run_grow _ _ _ _ _ _ _ hF
    have hyk := ai_yok hy
    unfold ai_Met
    refine va_MetF (cc := ai_code y) (maxL := ai_L y) (ret := ai_ret y) hyk.2.2.2.1 rfl ?_
    intro p e s m args below meth c s₁ B hml hv
    obtain ⟨rfl, hsz, hP, hD0, hK, hZ, hY⟩ := hv
    have hok2 := hok
    unfold ai_ok at hok2
    simp only [Bool.and_eq_true, decide_eq_true_eq, List.all_eq_true] at hok2
    have hts := atoms_spec (ws := ai_ws y) B.pre
    rw [lg_entry_eq]
    have hl := ai_l_entry (b := b) (n := ai_L y) (as := as) (fun v hv => hok2.1.2 v hv) hok2.2
    have hFF : ∀ A, A = ai_A b cI cB cY ws → ai_F p (ai_rm y (ws1.length - ws.length) (ai_sl ws1 - ai_sl ws)) s m (as.map (ai_cv b)).toArray meth c b N ws.length cI cB cY dC dI A y := by
      intro A hA
      subst hA
      refine ⟨by omega, B.exec, B.bytes, hml, findClass_of_methodNamed B.named, fun w hw => hts w (List.mem_cons_of_mem _ hw), hK, B.returns, B.notSynchronized, fun hk => ?_, hZ, fun q hq => Or.inr (by rw [← hsz]; exact hq), fun q hq => ?_, hsz, Nat.le_refl _, Nat.le_refl _, hY⟩
      · exact ((name_of_methodNamed B.named B.method).1).trans (hyk.2.2.2.2.2.2.2.2.1 hk).1
      · rcases hq with ⟨k, e, h⟩ | h
        · obtain ⟨c, -, h3⟩ := ai_w_inv h
          have : q = b.1 + k := congrArg Prod.fst h3
          omega
        · omega
    have hD : va_D (ai_A b cI cB cY ws) (ai_w b cI cB cY ws) := hD0.self
    generalize hAe : ai_A b cI cB cY ws = A at hD hFF ⊢
    have hFF := hFF A rfl
    dsimp only at hgr
    refine ai_body (l := l) (e := e) (below := below) (n0 := ws.length) (s0 := ai_sl ws) hFF ⟨by show _ ≤ _ + (ws1.length - ws.length); omega, by show _ ≤ _ + (ai_sl ws1 - ai_sl ws); omega⟩ (fun y2 hy2 as ws r ws1 h hg => ih y2 hy2 (by omega) as ws r ws1 h hg dC dI cI cB cY b) ?_ F 0 (ai_ent y as) [] ws hF (by unfold ai_ent; rw [List.length_append, List.length_replicate]; omega) (fun v hv => ?_) (fun v hv => by cases hv) _ s.heap [] 0 0 hl hP hD va_S.rf (by omega) (by omega)
    · intro pc n ls st i hd hs arr H locs cells slots hP hD hS h1 h2
      have w := ai_ret_ok (l := l) (e := e) (below := below) (arr := arr) (cells := cells) (slots := slots) hFF hd hs hP hD hS
      rw [show cells = ws1.length - ws.length by omega, show slots = ai_sl ws1 - ai_sl ws by omega] at w ⊢
      exact w
    · unfold ai_ent at hv
      rcases List.mem_append.mp hv with h | h
      · exact hgv v h
      · rw [(List.mem_replicate.mp h).2]
        exact ai_gv_n
  · cases hc
end
