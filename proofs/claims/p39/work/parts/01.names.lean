-- ===== PART A: goes FIRST, ahead of the names: the tables' words, and 'selects' of the private methods out of them =====
/-- a private method of a class that the tables say can be made, by its rows of tables_1 -/
def lw_okq (q : MethodName × Nat) : Prop := (q.1.cls ≠ "java/lang/invoke/MethodHandle" ∧ q.1.cls ≠ "java/lang/invoke/VarHandle") ∧ Cond.instantiable q.1.cls q.2 ∈ tables_1 ∧ Cond.privateMethod q.1 ∈ tables_1 ∧ Cond.instanceMethod q.1 ∈ tables_1
theorem lw_p0 : lw_okq (⟨"StoryCoroner", "begin", "()V"⟩, 9) := ⟨⟨by decide +kernel, by decide +kernel⟩, List.mem_of_getElem? (i := 30) (by decide +kernel), List.mem_of_getElem? (i := 28) (by decide +kernel), List.mem_of_getElem? (i := 29) (by decide +kernel)⟩
theorem lw_p1 : lw_okq (⟨"StoryCoroner$History", "isInRing", "(I)Z"⟩, 5) := ⟨⟨by decide +kernel, by decide +kernel⟩, List.mem_of_getElem? (i := 43) (by decide +kernel), List.mem_of_getElem? (i := 41) (by decide +kernel), List.mem_of_getElem? (i := 42) (by decide +kernel)⟩
theorem lw_p2 : lw_okq (⟨"StoryCoroner", "finish", "(I)I"⟩, 9) := ⟨⟨by decide +kernel, by decide +kernel⟩, List.mem_of_getElem? (i := 30) (by decide +kernel), List.mem_of_getElem? (i := 68) (by decide +kernel), List.mem_of_getElem? (i := 69) (by decide +kernel)⟩
theorem lw_p3 : lw_okq (⟨"StoryCoroner$Changes", "canTurn", "(II)Z"⟩, 4) := ⟨⟨by decide +kernel, by decide +kernel⟩, List.mem_of_getElem? (i := 109) (by decide +kernel), List.mem_of_getElem? (i := 107) (by decide +kernel), List.mem_of_getElem? (i := 108) (by decide +kernel)⟩
theorem lw_p4 : lw_okq (⟨"StoryCoroner$Jury", "voteOn", "(II)I"⟩, 1) := ⟨⟨by decide +kernel, by decide +kernel⟩, List.mem_of_getElem? (i := 225) (by decide +kernel), List.mem_of_getElem? (i := 223) (by decide +kernel), List.mem_of_getElem? (i := 224) (by decide +kernel)⟩
theorem lw_p5 : lw_okq (⟨"StoryCoroner$Counts", "key", "(II)I"⟩, 2) := ⟨⟨by decide +kernel, by decide +kernel⟩, List.mem_of_getElem? (i := 252) (by decide +kernel), List.mem_of_getElem? (i := 250) (by decide +kernel), List.mem_of_getElem? (i := 251) (by decide +kernel)⟩
theorem lw_p6 : lw_okq (⟨"StoryCoroner$Counts", "isDeathBy", "(III)Z"⟩, 2) := ⟨⟨by decide +kernel, by decide +kernel⟩, List.mem_of_getElem? (i := 252) (by decide +kernel), List.mem_of_getElem? (i := 277) (by decide +kernel), List.mem_of_getElem? (i := 278) (by decide +kernel)⟩
theorem lw_p7 : lw_okq (⟨"StoryCoroner$Counts", "aheadOf", "(II)I"⟩, 2) := ⟨⟨by decide +kernel, by decide +kernel⟩, List.mem_of_getElem? (i := 252) (by decide +kernel), List.mem_of_getElem? (i := 283) (by decide +kernel), List.mem_of_getElem? (i := 284) (by decide +kernel)⟩
theorem lw_p8 : lw_okq (⟨"StoryCoroner", "addTurn", "(II)V"⟩, 9) := ⟨⟨by decide +kernel, by decide +kernel⟩, List.mem_of_getElem? (i := 30) (by decide +kernel), List.mem_of_getElem? (i := 307) (by decide +kernel), List.mem_of_getElem? (i := 308) (by decide +kernel)⟩
theorem lw_p9 : lw_okq (⟨"StoryCoroner$Text", "takeCommand", "()Z"⟩, 7) := ⟨⟨by decide +kernel, by decide +kernel⟩, List.mem_of_getElem? (i := 590) (by decide +kernel), List.mem_of_getElem? (i := 1022) (by decide +kernel), List.mem_of_getElem? (i := 1023) (by decide +kernel)⟩
theorem lw_p10 : lw_okq (⟨"StoryCoroner$Text", "ahead", "()I"⟩, 7) := ⟨⟨by decide +kernel, by decide +kernel⟩, List.mem_of_getElem? (i := 590) (by decide +kernel), List.mem_of_getElem? (i := 1026) (by decide +kernel), List.mem_of_getElem? (i := 1027) (by decide +kernel)⟩
theorem lw_p11 : lw_okq (⟨"StoryCoroner$Text", "take", "(I)Z"⟩, 7) := ⟨⟨by decide +kernel, by decide +kernel⟩, List.mem_of_getElem? (i := 590) (by decide +kernel), List.mem_of_getElem? (i := 1031) (by decide +kernel), List.mem_of_getElem? (i := 1032) (by decide +kernel)⟩
theorem lw_p12 : lw_okq (⟨"StoryCoroner$Text", "takeDigit", "()Z"⟩, 7) := ⟨⟨by decide +kernel, by decide +kernel⟩, List.mem_of_getElem? (i := 590) (by decide +kernel), List.mem_of_getElem? (i := 1035) (by decide +kernel), List.mem_of_getElem? (i := 1036) (by decide +kernel)⟩
theorem lw_p13 : lw_okq (⟨"StoryCoroner$Text", "give", "(I)V"⟩, 7) := ⟨⟨by decide +kernel, by decide +kernel⟩, List.mem_of_getElem? (i := 590) (by decide +kernel), List.mem_of_getElem? (i := 1042) (by decide +kernel), List.mem_of_getElem? (i := 1043) (by decide +kernel)⟩
theorem lw_p14 : lw_okq (⟨"StoryCoroner$Text", "takeNumber", "()Z"⟩, 7) := ⟨⟨by decide +kernel, by decide +kernel⟩, List.mem_of_getElem? (i := 590) (by decide +kernel), List.mem_of_getElem? (i := 1046) (by decide +kernel), List.mem_of_getElem? (i := 1047) (by decide +kernel)⟩
theorem lw_p15 : lw_okq (⟨"StoryCoroner$Text", "takePlusOrMinus", "()Z"⟩, 7) := ⟨⟨by decide +kernel, by decide +kernel⟩, List.mem_of_getElem? (i := 590) (by decide +kernel), List.mem_of_getElem? (i := 1050) (by decide +kernel), List.mem_of_getElem? (i := 1051) (by decide +kernel)⟩
def lw_privs_1 : List (MethodName × Nat) := [(⟨"StoryCoroner", "begin", "()V"⟩, 9), (⟨"StoryCoroner$History", "isInRing", "(I)Z"⟩, 5), (⟨"StoryCoroner", "finish", "(I)I"⟩, 9), (⟨"StoryCoroner$Changes", "canTurn", "(II)Z"⟩, 4), (⟨"StoryCoroner$Jury", "voteOn", "(II)I"⟩, 1), (⟨"StoryCoroner$Counts", "key", "(II)I"⟩, 2), (⟨"StoryCoroner$Counts", "isDeathBy", "(III)Z"⟩, 2), (⟨"StoryCoroner$Counts", "aheadOf", "(II)I"⟩, 2), (⟨"StoryCoroner", "addTurn", "(II)V"⟩, 9), (⟨"StoryCoroner$Text", "takeCommand", "()Z"⟩, 7), (⟨"StoryCoroner$Text", "ahead", "()I"⟩, 7), (⟨"StoryCoroner$Text", "take", "(I)Z"⟩, 7), (⟨"StoryCoroner$Text", "takeDigit", "()Z"⟩, 7), (⟨"StoryCoroner$Text", "give", "(I)V"⟩, 7), (⟨"StoryCoroner$Text", "takeNumber", "()Z"⟩, 7), (⟨"StoryCoroner$Text", "takePlusOrMinus", "()Z"⟩, 7)]
theorem lw_r1 : ∀ q ∈ lw_privs_1, lw_okq q := List.forall_mem_cons.mpr ⟨lw_p0, List.forall_mem_cons.mpr ⟨lw_p1, List.forall_mem_cons.mpr ⟨lw_p2, List.forall_mem_cons.mpr ⟨lw_p3, List.forall_mem_cons.mpr ⟨lw_p4, List.forall_mem_cons.mpr ⟨lw_p5, List.forall_mem_cons.mpr ⟨lw_p6, List.forall_mem_cons.mpr ⟨lw_p7, List.forall_mem_cons.mpr ⟨lw_p8, List.forall_mem_cons.mpr ⟨lw_p9, List.forall_mem_cons.mpr ⟨lw_p10, List.forall_mem_cons.mpr ⟨lw_p11, List.forall_mem_cons.mpr ⟨lw_p12, List.forall_mem_cons.mpr ⟨lw_p13, List.forall_mem_cons.mpr ⟨lw_p14, List.forall_mem_cons.mpr ⟨lw_p15, fun _ h => absurd h List.not_mem_nil⟩⟩⟩⟩⟩⟩⟩⟩⟩⟩⟩⟩⟩⟩⟩⟩
theorem lw_p16 : lw_okq (⟨"StoryCoroner$Text", "takeSeverityOrMinus", "()Z"⟩, 7) := ⟨⟨by decide +kernel, by decide +kernel⟩, List.mem_of_getElem? (i := 590) (by decide +kernel), List.mem_of_getElem? (i := 1054) (by decide +kernel), List.mem_of_getElem? (i := 1055) (by decide +kernel)⟩
theorem lw_p17 : lw_okq (⟨"StoryCoroner", "carryOut", "(I)I"⟩, 9) := ⟨⟨by decide +kernel, by decide +kernel⟩, List.mem_of_getElem? (i := 30) (by decide +kernel), List.mem_of_getElem? (i := 1066) (by decide +kernel), List.mem_of_getElem? (i := 1067) (by decide +kernel)⟩
theorem lw_p18 : lw_okq (⟨"StoryCoroner", "addWriter", "(I)V"⟩, 9) := ⟨⟨by decide +kernel, by decide +kernel⟩, List.mem_of_getElem? (i := 30) (by decide +kernel), List.mem_of_getElem? (i := 1095) (by decide +kernel), List.mem_of_getElem? (i := 1096) (by decide +kernel)⟩
theorem lw_p19 : lw_okq (⟨"StoryCoroner", "addDead", "(I)V"⟩, 9) := ⟨⟨by decide +kernel, by decide +kernel⟩, List.mem_of_getElem? (i := 30) (by decide +kernel), List.mem_of_getElem? (i := 1101) (by decide +kernel), List.mem_of_getElem? (i := 1102) (by decide +kernel)⟩
theorem lw_p20 : lw_okq (⟨"StoryCoroner$Inquest", "afterChapter", "(II)I"⟩, 1) := ⟨⟨by decide +kernel, by decide +kernel⟩, List.mem_of_getElem? (i := 496) (by decide +kernel), List.mem_of_getElem? (i := 1180) (by decide +kernel), List.mem_of_getElem? (i := 1181) (by decide +kernel)⟩
def lw_privs_2 : List (MethodName × Nat) := [(⟨"StoryCoroner$Text", "takeSeverityOrMinus", "()Z"⟩, 7), (⟨"StoryCoroner", "carryOut", "(I)I"⟩, 9), (⟨"StoryCoroner", "addWriter", "(I)V"⟩, 9), (⟨"StoryCoroner", "addDead", "(I)V"⟩, 9), (⟨"StoryCoroner$Inquest", "afterChapter", "(II)I"⟩, 1)]
theorem lw_r2 : ∀ q ∈ lw_privs_2, lw_okq q := List.forall_mem_cons.mpr ⟨lw_p16, List.forall_mem_cons.mpr ⟨lw_p17, List.forall_mem_cons.mpr ⟨lw_p18, List.forall_mem_cons.mpr ⟨lw_p19, List.forall_mem_cons.mpr ⟨lw_p20, fun _ h => absurd h List.not_mem_nil⟩⟩⟩⟩⟩
def lw_privs : List (MethodName × Nat) := lw_privs_1 ++ (lw_privs_2)
def lw_tbl : List Cond := k2_sels lw_privs ++ tables_1
theorem lw_privs_ok : ∀ q ∈ lw_privs, lw_okq q := by
  show ∀ q ∈ lw_privs_1 ++ (lw_privs_2), lw_okq q
  exact List.forall_mem_append.mpr ⟨lw_r1, lw_r2⟩
/-- the streams that the claim lets the run draw from -/
abbrev lw_cs : List Choice := [Jvm.Choice.named "NaN.bits"]
theorem lw_bits : nanBits ∈ lw_cs := by first | decide | exact List.mem_cons_self | simp [lw_cs, nanBits]
-- ===== end of PART A; then your names; then what follows =====

/-! names: printed by the kit, sorted by gen1.py; tables by gen1.py -/
def RX0 : String := "StoryCoroner$Book"
def TX0 : u_T := fun k => match k with
  | 0 => ("StoryCoroner$Book", "characters", "I", false)
  | 1 => ("StoryCoroner$Book", "authors", "I", false)
  | 2 => ("StoryCoroner$Book", "trials", "I", false)
  | 3 => ("StoryCoroner$Book", "turns", "LStoryCoroner$Row;", true)
  | 4 => ("StoryCoroner$Book", "chapters", "LStoryCoroner$Row;", true)
  | 5 => ("StoryCoroner$Book", "culprits", "LStoryCoroner$Row;", true)
  | 6 => ("StoryCoroner$Book", "writers", "LStoryCoroner$Row;", true)
  | 7 => ("StoryCoroner$Book", "sworn", "LStoryCoroner$Row;", true)
  | 8 => ("StoryCoroner$Book", "motives", "LStoryCoroner$Row;", true)
  | _ => ("StoryCoroner$Book", "severities", "LStoryCoroner$Row;", true)
abbrev cX0_init : ByteArray := prog_2_method_1_code
abbrev cX0_isChapter : ByteArray := prog_2_method_2_code
abbrev cX0_isCharacter : ByteArray := prog_2_method_3_code
abbrev cX0_isAuthor : ByteArray := prog_2_method_4_code
abbrev cX0_isDeath : ByteArray := prog_2_method_5_code
abbrev cX0_isCase : ByteArray := prog_2_method_6_code
abbrev cX0_deaths : ByteArray := prog_2_method_7_code
abbrev cX0_risings : ByteArray := prog_2_method_8_code
abbrev cX0_isDeadAtLast : ByteArray := prog_2_method_9_code
abbrev cX0_turnChapter : ByteArray := prog_2_method_10_code
abbrev cX0_lastChapter : ByteArray := prog_2_method_11_code
abbrev cX0_deathChapter : ByteArray := prog_2_method_12_code
abbrev cX0_nextRising : ByteArray := prog_2_method_13_code
abbrev cX0_culprit : ByteArray := prog_2_method_14_code
abbrev cX0_isSolved : ByteArray := prog_2_method_15_code
abbrev cX0_setCulprit : ByteArray := prog_2_method_16_code
abbrev cX0_addTurn : ByteArray := prog_2_method_17_code
abbrev cX0_removeLastTurn : ByteArray := prog_2_method_18_code
abbrev cX0_motivePages : ByteArray := prog_2_method_19_code
abbrev cX0_isBySworn : ByteArray := prog_2_method_20_code
abbrev cX0_swornAuthors : ByteArray := prog_2_method_21_code
abbrev cX0_copyFrom : ByteArray := prog_2_method_22_code
def RX1 : String := "StoryCoroner$Changes"
def TX1 : u_T := fun k => match k with
  | 0 => ("StoryCoroner$Changes", "book", "LStoryCoroner$Book;", true)
  | 1 => ("StoryCoroner$Changes", "inquest", "LStoryCoroner$Inquest;", true)
  | 2 => ("StoryCoroner$Changes", "jury", "LStoryCoroner$Jury;", true)
  | _ => ("StoryCoroner$Changes", "refusals", "LStoryCoroner$Refusals;", true)
abbrev cX1_init : ByteArray := prog_3_method_1_code
abbrev cX1_addCharacter : ByteArray := prog_3_method_2_code
abbrev cX1_addAuthor : ByteArray := prog_3_method_3_code
abbrev cX1_letDie : ByteArray := prog_3_method_4_code
abbrev cX1_letRise : ByteArray := prog_3_method_5_code
abbrev cX1_canTurn : ByteArray := prog_3_method_6_code
abbrev cX1_strikeOut : ByteArray := prog_3_method_7_code
abbrev cX1_setWriter : ByteArray := prog_3_method_8_code
abbrev cX1_setSworn : ByteArray := prog_3_method_9_code
abbrev cX1_setMotive : ByteArray := prog_3_method_10_code
abbrev cX1_seatReader : ByteArray := prog_3_method_11_code
abbrev cX1_letGo : ByteArray := prog_3_method_12_code
abbrev cX1_holdTrial : ByteArray := prog_3_method_13_code
def RX2 : String := "StoryCoroner$Counts"
def TX2 : u_T := fun k => match k with
  | 0 => ("StoryCoroner$Counts", "book", "LStoryCoroner$Book;", true)
  | _ => ("StoryCoroner$Counts", "keys", "LStoryCoroner$Row;", true)
abbrev cX2_init : ByteArray := prog_4_method_1_code
abbrev cX2_chaptersLived : ByteArray := prog_4_method_2_code
abbrev cX2_solvedDeaths : ByteArray := prog_4_method_3_code
abbrev cX2_deathsCausedBy : ByteArray := prog_4_method_4_code
abbrev cX2_pagesHeldBy : ByteArray := prog_4_method_5_code
abbrev cX2_pagesAgainst : ByteArray := prog_4_method_6_code
abbrev cX2_chaptersBy : ByteArray := prog_4_method_7_code
abbrev cX2_writtenChapters : ByteArray := prog_4_method_8_code
abbrev cX2_deathsBy : ByteArray := prog_4_method_9_code
abbrev cX2_solvedDeathsBy : ByteArray := prog_4_method_10_code
abbrev cX2_isDeathBy : ByteArray := prog_4_method_11_code
abbrev cX2_allDeaths : ByteArray := prog_4_method_12_code
abbrev cX2_allRisings : ByteArray := prog_4_method_13_code
abbrev cX2_allSolvedDeaths : ByteArray := prog_4_method_14_code
abbrev cX2_atPlace : ByteArray := prog_4_method_15_code
abbrev cX2_key : ByteArray := prog_4_method_16_code
abbrev cX2_aheadOf : ByteArray := prog_4_method_17_code
def RX3 : String := "StoryCoroner$History"
def TX3 : u_T := fun k => match k with
  | 0 => ("StoryCoroner$History", "states", "[LStoryCoroner$Book;", true)
  | 1 => ("StoryCoroner$History", "snapshot", "LStoryCoroner$Book;", true)
  | 2 => ("StoryCoroner$History", "next", "I", false)
  | 3 => ("StoryCoroner$History", "many", "I", false)
  | _ => ("StoryCoroner$History", "isSaved", "Z", false)
abbrev cX3_init : ByteArray := prog_5_method_1_code
abbrev cX3_size : ByteArray := prog_5_method_2_code
abbrev cX3_keep : ByteArray := prog_5_method_3_code
abbrev cX3_confirm : ByteArray := prog_5_method_4_code
abbrev cX3_takeBack : ByteArray := prog_5_method_5_code
abbrev cX3_stepBack : ByteArray := prog_5_method_6_code
abbrev cX3_saveSnapshot : ByteArray := prog_5_method_7_code
abbrev cX3_restoreSnapshot : ByteArray := prog_5_method_8_code
abbrev cX3_isInRing : ByteArray := prog_5_method_9_code
def RX4 : String := "StoryCoroner$Inquest"
def TX4 : u_T := fun k => match k with
  | _ => ("StoryCoroner$Inquest", "book", "LStoryCoroner$Book;", true)
abbrev cX4_init : ByteArray := prog_6_method_1_code
abbrev cX4_isDeadIn : ByteArray := prog_6_method_2_code
abbrev cX4_deadByLatest : ByteArray := prog_6_method_3_code
abbrev cX4_deadByChapters : ByteArray := prog_6_method_4_code
abbrev cX4_afterChapter : ByteArray := prog_6_method_5_code
abbrev cX4_darkestChapter : ByteArray := prog_6_method_6_code
abbrev cX4_couldCause : ByteArray := prog_6_method_7_code
abbrev cX4_possibleCulprits : ByteArray := prog_6_method_8_code
abbrev cX4_suspectByCharacters : ByteArray := prog_6_method_9_code
abbrev cX4_suspectByPages : ByteArray := prog_6_method_10_code
abbrev cX4_weight : ByteArray := prog_6_method_11_code
abbrev cX4_deadAgree : ByteArray := prog_6_method_12_code
abbrev cX4_suspectsAgree : ByteArray := prog_6_method_13_code
abbrev cX4_turnsAreInOrder : ByteArray := prog_6_method_14_code
def RX5 : String := "StoryCoroner$Jury"
def TX5 : u_T := fun k => match k with
  | _ => ("StoryCoroner$Jury", "book", "LStoryCoroner$Book;", true)
abbrev cX5_init : ByteArray := prog_7_method_1_code
abbrev cX5_isSeat : ByteArray := prog_7_method_2_code
abbrev cX5_isSeverity : ByteArray := prog_7_method_3_code
abbrev cX5_isTaken : ByteArray := prog_7_method_4_code
abbrev cX5_sitting : ByteArray := prog_7_method_5_code
abbrev cX5_votes : ByteArray := prog_7_method_6_code
abbrev cX5_voteOn : ByteArray := prog_7_method_7_code
abbrev cX5_findsGuilty : ByteArray := prog_7_method_8_code
abbrev cX5_wouldFindGuilty : ByteArray := prog_7_method_9_code
def RX6 : String := "StoryCoroner$Line"
def TX6 : u_T := fun k => match k with
  | 0 => ("StoryCoroner$Line", "codes", "LStoryCoroner$Row;", true)
  | _ => ("StoryCoroner$Line", "length", "I", false)
abbrev cX6_init : ByteArray := prog_8_method_1_code
abbrev cX6_size : ByteArray := prog_8_method_2_code
abbrev cX6_clear : ByteArray := prog_8_method_3_code
abbrev cX6_codeAt : ByteArray := prog_8_method_4_code
abbrev cX6_addCode : ByteArray := prog_8_method_5_code
abbrev cX6_addNumber : ByteArray := prog_8_method_6_code
def RX7 : String := "StoryCoroner$Refusals"
def TX7 : u_T := fun k => match k with
  | 0 => ("StoryCoroner$Refusals", "commandNow", "I", false)
  | 1 => ("StoryCoroner$Refusals", "reason", "I", false)
  | 2 => ("StoryCoroner$Refusals", "detail", "I", false)
  | _ => ("StoryCoroner$Refusals", "command", "I", false)
abbrev cX7_init : ByteArray := prog_9_method_1_code
abbrev cX7_setCommand : ByteArray := prog_9_method_2_code
abbrev cX7_refuse : ByteArray := prog_9_method_3_code
def RX8 : String := "StoryCoroner$Row"
def TX8 : u_T := fun k => match k with
  | _ => ("StoryCoroner$Row", "cells", "[I", true)
abbrev cX8_init : ByteArray := prog_10_method_1_code
abbrev cX8_get : ByteArray := prog_10_method_2_code
abbrev cX8_set : ByteArray := prog_10_method_3_code
abbrev cX8_copyFrom : ByteArray := prog_10_method_4_code
def RX9 : String := "StoryCoroner$Text"
def TX9 : u_T := fun k => match k with
  | 0 => ("StoryCoroner$Text", "codes", "LStoryCoroner$Row;", true)
  | 1 => ("StoryCoroner$Text", "kinds", "LStoryCoroner$Row;", true)
  | 2 => ("StoryCoroner$Text", "arguments", "LStoryCoroner$Row;", true)
  | 3 => ("StoryCoroner$Text", "length", "I", false)
  | 4 => ("StoryCoroner$Text", "commands", "I", false)
  | 5 => ("StoryCoroner$Text", "position", "I", false)
  | _ => ("StoryCoroner$Text", "given", "I", false)
abbrev cX9_init : ByteArray := prog_11_method_1_code
abbrev cX9_size : ByteArray := prog_11_method_2_code
abbrev cX9_clear : ByteArray := prog_11_method_3_code
abbrev cX9_addCode : ByteArray := prog_11_method_4_code
abbrev cX9_commands : ByteArray := prog_11_method_5_code
abbrev cX9_kind : ByteArray := prog_11_method_6_code
abbrev cX9_argument : ByteArray := prog_11_method_7_code
abbrev cX9_parse : ByteArray := prog_11_method_8_code
abbrev cX9_takeCommand : ByteArray := prog_11_method_9_code
abbrev cX9_ahead : ByteArray := prog_11_method_10_code
abbrev cX9_isDigit : ByteArray := prog_11_method_11_code
abbrev cX9_take : ByteArray := prog_11_method_12_code
abbrev cX9_takeDigit : ByteArray := prog_11_method_13_code
abbrev cX9_takeNumber : ByteArray := prog_11_method_14_code
abbrev cX9_takePlusOrMinus : ByteArray := prog_11_method_15_code
abbrev cX9_takeSeverityOrMinus : ByteArray := prog_11_method_16_code
abbrev cX9_give : ByteArray := prog_11_method_17_code
def RX10 : String := "StoryCoroner"
def TX10 : u_T := fun k => match k with
  | 0 => ("StoryCoroner", "book", "LStoryCoroner$Book;", true)
  | 1 => ("StoryCoroner", "inquest", "LStoryCoroner$Inquest;", true)
  | 2 => ("StoryCoroner", "jury", "LStoryCoroner$Jury;", true)
  | 3 => ("StoryCoroner", "counts", "LStoryCoroner$Counts;", true)
  | 4 => ("StoryCoroner", "refusals", "LStoryCoroner$Refusals;", true)
  | 5 => ("StoryCoroner", "changes", "LStoryCoroner$Changes;", true)
  | 6 => ("StoryCoroner", "history", "LStoryCoroner$History;", true)
  | 7 => ("StoryCoroner", "text", "LStoryCoroner$Text;", true)
  | _ => ("StoryCoroner", "line", "LStoryCoroner$Line;", true)
abbrev cX10_init : ByteArray := prog_1_method_1_code
abbrev cX10_character : ByteArray := prog_1_method_2_code
abbrev cX10_author : ByteArray := prog_1_method_3_code
abbrev cX10_die : ByteArray := prog_1_method_4_code
abbrev cX10_rise : ByteArray := prog_1_method_5_code
abbrev cX10_strike : ByteArray := prog_1_method_6_code
abbrev cX10_write : ByteArray := prog_1_method_7_code
abbrev cX10_swear : ByteArray := prog_1_method_8_code
abbrev cX10_motive : ByteArray := prog_1_method_9_code
abbrev cX10_seat : ByteArray := prog_1_method_10_code
abbrev cX10_leave : ByteArray := prog_1_method_11_code
abbrev cX10_trial : ByteArray := prog_1_method_12_code
abbrev cX10_characterOf : ByteArray := prog_1_method_13_code
abbrev cX10_deathOf : ByteArray := prog_1_method_14_code
abbrev cX10_authorOf : ByteArray := prog_1_method_15_code
abbrev cX10_pages : ByteArray := prog_1_method_16_code
abbrev cX10_dead : ByteArray := prog_1_method_17_code
abbrev cX10_deadAgain : ByteArray := prog_1_method_18_code
abbrev cX10_darkest : ByteArray := prog_1_method_19_code
abbrev cX10_suspect : ByteArray := prog_1_method_20_code
abbrev cX10_suspectAgain : ByteArray := prog_1_method_21_code
abbrev cX10_guilty : ByteArray := prog_1_method_22_code
abbrev cX10_would : ByteArray := prog_1_method_23_code
abbrev cX10_ranked : ByteArray := prog_1_method_24_code
abbrev cX10_tellCharacter : ByteArray := prog_1_method_25_code
abbrev cX10_tellChapter : ByteArray := prog_1_method_26_code
abbrev cX10_tellJury : ByteArray := prog_1_method_27_code
abbrev cX10_sign : ByteArray := prog_1_method_28_code
abbrev cX10_append : ByteArray := prog_1_method_29_code
abbrev cX10_read : ByteArray := prog_1_method_30_code
abbrev cX10_account : ByteArray := prog_1_method_32_code
abbrev cX10_isWell : ByteArray := prog_1_method_33_code
abbrev cX10_share : ByteArray := prog_1_method_34_code
abbrev cX10_undo : ByteArray := prog_1_method_35_code
abbrev cX10_save : ByteArray := prog_1_method_36_code
abbrev cX10_restore : ByteArray := prog_1_method_37_code
abbrev cX10_isYesOrNo : ByteArray := prog_1_method_38_code
abbrev cX10_isError : ByteArray := prog_1_method_39_code
abbrev cX10_begin : ByteArray := prog_1_method_40_code
abbrev cX10_finish : ByteArray := prog_1_method_41_code
abbrev cX10_carryOut : ByteArray := prog_1_method_42_code
abbrev cX10_addTurn : ByteArray := prog_1_method_43_code
abbrev cX10_addWriter : ByteArray := prog_1_method_44_code
abbrev cX10_addDead : ByteArray := prog_1_method_45_code
abbrev cX10_bitsOfShare : ByteArray := prog_1_method_46_code
def RX11 : String := "StoryCoronerModel"
def TX11 : u_T := fun k => match k with
  | _ => ("", "", "", false)
def RJ5 : String := "java/lang/AbstractStringBuilder"
abbrev cJ5_init_d00df : ByteArray := prog_14_method_2_code
abbrev cJ5_length_8abf5 : ByteArray := prog_14_method_6_code
abbrev cJ5_ensureCapacityInternal_d00df : ByteArray := prog_14_method_9_code
abbrev cJ5_newCapacity_0f7a4 : ByteArray := prog_14_method_10_code
abbrev cJ5_inflate_da8c8 : ByteArray := prog_14_method_11_code
abbrev cJ5_append_cf1ce : ByteArray := prog_14_method_22_code
abbrev cJ5_appendNull_278bc : ByteArray := prog_14_method_26_code
abbrev cJ5_append_c97b9 : ByteArray := prog_14_method_32_code
abbrev cJ5_getValue_6d5f1 : ByteArray := prog_14_method_64_code
abbrev cJ5_isLatin1_aae02 : ByteArray := prog_14_method_68_code
abbrev cJ5_inflateIfNeededFor_a7421 : ByteArray := prog_14_method_71_code
abbrev cJ5_putStringAt_47b60 : ByteArray := prog_14_method_73_code
def RJx8e188 : String := "java/lang/Cloneable"
def RJ6 : String := "java/lang/Integer"
abbrev cJ6_getChars_ba4f3 : ByteArray := prog_16_method_12_code
abbrev cJ6_stringSize_0f7a4 : ByteArray := prog_16_method_13_code
abbrev cJ6_bitCount_0f7a4 : ByteArray := prog_16_method_49_code
def RJ9 : String := "java/lang/Math"
abbrev cJ9_max_7cf53 : ByteArray := prog_17_method_65_code
abbrev cJ9_min_7cf53 : ByteArray := prog_17_method_69_code
def RJ0 : String := "java/lang/String"
def TJ0 : u_T := fun k => match k with
  | 0 => ("java/lang/String", "value", "[B", true)
  | 1 => ("java/lang/String", "coder", "B", true)
  | 2 => ("java/lang/String", "hash", "I", false)
  | _ => ("java/lang/String", "hashIsZero", "Z", false)
abbrev cJ0_init_81219 : ByteArray := prog_18_method_53_code
abbrev cJ0_length_8abf5 : ByteArray := prog_18_method_54_code
abbrev cJ0_charAt_5068e : ByteArray := prog_18_method_56_code
abbrev cJ0_getBytes_840e7 : ByteArray := prog_18_method_147_code
abbrev cJ0_init_db425 : ByteArray := prog_18_method_150_code
abbrev cJ0_coder_7d493 : ByteArray := prog_18_method_152_code
abbrev cJ0_isLatin1_aae02 : ByteArray := prog_18_method_154_code
abbrev cJ0_checkIndex_df160 : ByteArray := prog_18_method_155_code
abbrev cJ0_checkBoundsOffCount_cabcc : ByteArray := prog_18_method_157_code
abbrev cJ0_checkBoundsBeginEnd_23922 : ByteArray := prog_18_method_158_code
def RJ4 : String := "java/lang/StringBuilder"
def TJ4 : u_T := fun k => match k with
  | 0 => ("java/lang/AbstractStringBuilder", "value", "[B", false)
  | 1 => ("java/lang/AbstractStringBuilder", "coder", "B", false)
  | 2 => ("java/lang/AbstractStringBuilder", "maybeLatin1", "Z", false)
  | _ => ("java/lang/AbstractStringBuilder", "count", "I", false)
abbrev cJ4_init_da8c8 : ByteArray := prog_19_method_1_code
abbrev cJ4_append_15ec4 : ByteArray := prog_19_method_7_code
abbrev cJ4_append_bf812 : ByteArray := prog_19_method_15_code
abbrev cJ4_toString_0e30d : ByteArray := prog_19_method_42_code
abbrev cJ4_length_8abf5 : ByteArray := prog_19_method_93_code
def RJ1 : String := "java/lang/StringLatin1"
abbrev cJ1_charAt_3b067 : ByteArray := prog_20_method_2_code
abbrev cJ1_inflate_0e8fd : ByteArray := prog_20_method_50_code
def RJ2 : String := "java/lang/StringUTF16"
abbrev cJ2_newBytesFor_77867 : ByteArray := prog_21_method_2_code
abbrev cJ2_newBytesLength_0f7a4 : ByteArray := prog_21_method_3_code
abbrev cJ2_putChar_b72d1 : ByteArray := prog_21_method_4_code
abbrev cJ2_getChar_3b067 : ByteArray := prog_21_method_5_code
abbrev cJ2_length_9d52b : ByteArray := prog_21_method_6_code
abbrev cJ2_coderFromArrayLen_85cad : ByteArray := prog_21_method_15_code
abbrev cJ2_compress_39247 : ByteArray := prog_21_method_17_code
abbrev cJ2_compress_5af95 : ByteArray := prog_21_method_22_code
abbrev cJ2_getChars_46870 : ByteArray := prog_21_method_77_code
abbrev cJ2_putCharsAt_cd4e5 : ByteArray := prog_21_method_81_code
abbrev cJ2_charAt_3b067 : ByteArray := prog_21_method_83_code
abbrev cJ2_inflate_0e8fd : ByteArray := prog_21_method_86_code
abbrev cJ2_getChars_ba4f3 : ByteArray := prog_21_method_89_code
abbrev cJ2_checkIndex_2214a : ByteArray := prog_21_method_91_code
abbrev cJ2_checkBoundsBeginEnd_d044e : ByteArray := prog_21_method_93_code
abbrev cJ2_checkBoundsOffCount_d044e : ByteArray := prog_21_method_94_code
def RJ10 : String := "java/lang/System"
def RJ7 : String := "java/util/Arrays"
abbrev cJ7_copyOf_9075b : ByteArray := prog_23_method_121_code
abbrev cJ7_checkLength_df160 : ByteArray := prog_23_method_131_code
abbrev cJ7_copyOfRange_39247 : ByteArray := prog_23_method_132_code
abbrev cJ7_copyOfRangeByte_39247 : ByteArray := prog_23_method_133_code
def RJ8 : String := "jdk/internal/util/ArraysSupport"
abbrev cJ8_newLength_cabcc : ByteArray := prog_24_method_27_code
abbrev cJ8_hugeLength_7cf53 : ByteArray := prog_24_method_28_code
def RJ3 : String := "jdk/internal/util/Preconditions"
abbrev cJ3_checkIndex_8e157 : ByteArray := prog_25_method_11_code
abbrev cJ3_checkFromToIndex_8c36e : ByteArray := prog_25_method_12_code
abbrev cJ3_checkFromIndexSize_8c36e : ByteArray := prog_25_method_13_code
def RL : String := "StoryCoronerLaw"
abbrev cL_cell : ByteArray := method_2_code
abbrev cL_in : ByteArray := method_3_code
abbrev cL_reads : ByteArray := method_4_code
abbrev cL_isError : ByteArray := method_5_code
abbrev cL_begun : ByteArray := method_6_code
abbrev cL_does : ByteArray := method_7_code
abbrev cL_seen : ByteArray := method_8_code
abbrev cL_areAlike : ByteArray := method_9_code
abbrev cL_isDead : ByteArray := method_10_code
abbrev cL_could : ByteArray := method_11_code
abbrev cL_isWell : ByteArray := method_12_code
abbrev cL_law : ByteArray := code
abbrev vwCl : List vw_C := [(RX0, TX0, 10), (RX1, TX1, 4), (RX2, TX2, 2), (RX3, TX3, 5), (RX4, TX4, 1), (RX5, TX5, 1), (RX6, TX6, 2), (RX7, TX7, 4), (RX8, TX8, 1), (RX9, TX9, 7), (RX10, TX10, 9), (RJ4, TJ4, 4), (RJ0, TJ0, 4)]
/-- a method: name, code, locals, return type, parameters, kind (0 static, 1 instance, 2 constructor), class of its receiver among vwCl, view, frames, words of locals -/
abbrev ai_MI : Type := MethodName × ByteArray × Nat × Option FieldType × Nat × Nat × Nat × Nat × Nat × Nat
def ai_mt : List ai_MI := [
  (⟨"java/lang/Math", "max", "(II)I"⟩, prog_17_method_65_code, 2, some .int, 2, 0, 99, 12, 1, 0),
  (⟨"StoryCoroner$Row", "<init>", "(II)V"⟩, prog_10_method_1_code, 4, none, 2, 2, 8, 8, 2, 40),
  (⟨"StoryCoroner$Book", "<init>", "()V"⟩, prog_2_method_1_code, 1, none, 0, 2, 0, 0, 3, 63),
  (⟨"StoryCoroner$Inquest", "<init>", "(LStoryCoroner$Book;)V"⟩, prog_6_method_1_code, 2, none, 1, 2, 4, 4, 1, 40),
  (⟨"StoryCoroner$Jury", "<init>", "(LStoryCoroner$Book;)V"⟩, prog_7_method_1_code, 2, none, 1, 2, 5, 5, 1, 40),
  (⟨"StoryCoroner$Refusals", "<init>", "()V"⟩, prog_9_method_1_code, 1, none, 0, 2, 7, 7, 1, 40),
  (⟨"StoryCoroner$Counts", "<init>", "(LStoryCoroner$Book;)V"⟩, prog_4_method_1_code, 2, none, 1, 2, 2, 2, 3, 63),
  (⟨"StoryCoroner$Changes", "<init>", "(LStoryCoroner$Book;LStoryCoroner$Inquest;LStoryCoroner$Jury;LStoryCoroner$Refusals;)V"⟩, prog_3_method_1_code, 5, none, 4, 2, 1, 1, 1, 40),
  (⟨"StoryCoroner$History", "<init>", "()V"⟩, prog_5_method_1_code, 2, none, 0, 2, 3, 3, 4, 83),
  (⟨"StoryCoroner$Text", "<init>", "()V"⟩, prog_11_method_1_code, 1, none, 0, 2, 9, 9, 3, 63),
  (⟨"StoryCoroner$Line", "<init>", "()V"⟩, prog_8_method_1_code, 1, none, 0, 2, 6, 6, 3, 63),
  (⟨"StoryCoroner", "<init>", "()V"⟩, prog_1_method_1_code, 5, none, 0, 2, 10, 10, 5, 104),
  (⟨"StoryCoroner$Row", "get", "(I)I"⟩, prog_10_method_2_code, 2, some .int, 1, 1, 8, 8, 1, 0),
  (⟨"StoryCoroner$Book", "deaths", "(I)I"⟩, prog_2_method_7_code, 2, some .int, 1, 1, 0, 0, 2, 21),
  (⟨"StoryCoroner$Counts", "allDeaths", "()I"⟩, prog_4_method_12_code, 3, some .int, 0, 1, 2, 2, 3, 42),
  (⟨"StoryCoroner$Book", "risings", "(I)I"⟩, prog_2_method_8_code, 2, some .int, 1, 1, 0, 0, 2, 21),
  (⟨"StoryCoroner$Counts", "allRisings", "()I"⟩, prog_4_method_13_code, 3, some .int, 0, 1, 2, 2, 3, 42),
  (⟨"StoryCoroner$Book", "culprit", "(II)I"⟩, prog_2_method_14_code, 3, some .int, 2, 1, 0, 0, 2, 21),
  (⟨"StoryCoroner$Book", "isSolved", "(II)Z"⟩, prog_2_method_15_code, 3, some .boolean, 2, 1, 0, 0, 3, 43),
  (⟨"StoryCoroner$Counts", "solvedDeaths", "(I)I"⟩, prog_4_method_3_code, 4, some .int, 1, 1, 2, 2, 4, 65),
  (⟨"StoryCoroner$Counts", "allSolvedDeaths", "()I"⟩, prog_4_method_14_code, 3, some .int, 0, 1, 2, 2, 5, 88),
  (⟨"StoryCoroner$Jury", "isTaken", "(I)Z"⟩, prog_7_method_4_code, 2, some .boolean, 1, 1, 5, 5, 2, 21),
  (⟨"StoryCoroner$Jury", "sitting", "()I"⟩, prog_7_method_5_code, 3, some .int, 0, 1, 5, 5, 3, 42),
  (⟨"StoryCoroner$Counts", "chaptersBy", "(I)I"⟩, prog_4_method_7_code, 4, some .int, 1, 1, 2, 2, 2, 21),
  (⟨"StoryCoroner$Counts", "writtenChapters", "()I"⟩, prog_4_method_8_code, 1, some .int, 0, 1, 2, 2, 3, 44),
  (⟨"StoryCoroner$Book", "swornAuthors", "()I"⟩, prog_2_method_21_code, 3, some .int, 0, 1, 0, 0, 2, 21),
  (⟨"StoryCoroner$Text", "size", "()I"⟩, prog_11_method_2_code, 1, some .int, 0, 1, 9, 9, 1, 0),
  (⟨"StoryCoroner$History", "size", "()I"⟩, prog_5_method_2_code, 1, some .int, 0, 1, 3, 3, 1, 0),
  (⟨"StoryCoroner", "account", "(I)I"⟩, prog_1_method_32_code, 2, some .int, 1, 1, 10, 10, 6, 110),
  (⟨"StoryCoroner$Row", "set", "(II)V"⟩, prog_10_method_3_code, 3, none, 2, 1, 8, 8, 1, 0),
  (⟨"StoryCoroner$Line", "addCode", "(I)V"⟩, prog_8_method_5_code, 2, none, 1, 1, 6, 6, 2, 22),
  (⟨"StoryCoroner$Line", "addNumber", "(I)V"⟩, prog_8_method_6_code, 2, none, 1, 1, 6, 6, 3, 43),
  (⟨"StoryCoroner", "addDead", "(I)V"⟩, prog_1_method_45_code, 4, none, 1, 1, 10, 10, 4, 64),
  (⟨"StoryCoroner$Book", "turnChapter", "(II)I"⟩, prog_2_method_10_code, 3, some .int, 2, 1, 0, 0, 2, 21),
  (⟨"StoryCoroner", "addTurn", "(II)V"⟩, prog_1_method_43_code, 4, none, 2, 1, 10, 10, 4, 65),
  (⟨"StoryCoroner$Book", "isAuthor", "(I)Z"⟩, prog_2_method_4_code, 2, some .boolean, 1, 1, 0, 0, 1, 0),
  (⟨"StoryCoroner$Book", "isBySworn", "(I)Z"⟩, prog_2_method_20_code, 3, some .boolean, 1, 1, 0, 0, 2, 21),
  (⟨"StoryCoroner", "addWriter", "(I)V"⟩, prog_1_method_44_code, 3, none, 1, 1, 10, 10, 4, 64),
  (⟨"StoryCoroner$Text", "addCode", "(I)Z"⟩, prog_11_method_4_code, 2, some .boolean, 1, 1, 9, 9, 2, 22),
  (⟨"StoryCoroner", "append", "(I)I"⟩, prog_1_method_29_code, 2, some .int, 1, 1, 10, 10, 3, 43),
  (⟨"StoryCoroner$Refusals", "setCommand", "(I)V"⟩, prog_9_method_2_code, 2, none, 1, 1, 7, 7, 1, 0),
  (⟨"StoryCoroner$History", "isInRing", "(I)Z"⟩, prog_5_method_9_code, 2, some .boolean, 1, 1, 3, 3, 1, 0),
  (⟨"java/lang/Math", "min", "(II)I"⟩, prog_17_method_69_code, 2, some .int, 2, 0, 99, 12, 1, 0),
  (⟨"StoryCoroner$Row", "copyFrom", "(LStoryCoroner$Row;)V"⟩, prog_10_method_4_code, 3, none, 1, 1, 8, 8, 2, 40),
  (⟨"StoryCoroner$Book", "copyFrom", "(LStoryCoroner$Book;)V"⟩, prog_2_method_22_code, 2, none, 1, 1, 0, 0, 3, 62),
  (⟨"StoryCoroner$History", "keep", "(LStoryCoroner$Book;)V"⟩, prog_5_method_3_code, 2, none, 1, 1, 3, 3, 4, 83),
  (⟨"StoryCoroner", "begin", "()V"⟩, prog_1_method_40_code, 1, none, 0, 1, 10, 10, 5, 104),
  (⟨"StoryCoroner$Refusals", "refuse", "(II)I"⟩, prog_9_method_3_code, 3, some .int, 2, 1, 7, 7, 1, 0),
  (⟨"StoryCoroner$Changes", "addAuthor", "()I"⟩, prog_3_method_3_code, 2, some .int, 0, 1, 1, 1, 2, 22),
  (⟨"StoryCoroner", "isError", "(I)Z"⟩, prog_1_method_39_code, 1, some .boolean, 1, 0, 10, 10, 1, 0),
  (⟨"StoryCoroner$History", "confirm", "()V"⟩, prog_5_method_4_code, 1, none, 0, 1, 3, 3, 2, 21),
  (⟨"StoryCoroner", "finish", "(I)I"⟩, prog_1_method_41_code, 2, some .int, 1, 1, 10, 10, 3, 41),
  (⟨"StoryCoroner", "author", "()I"⟩, prog_1_method_3_code, 1, some .int, 0, 1, 10, 10, 6, 124),
  (⟨"StoryCoroner$Book", "deathChapter", "(II)I"⟩, prog_2_method_12_code, 3, some .int, 2, 1, 0, 0, 2, 21),
  (⟨"StoryCoroner$Counts", "isDeathBy", "(III)Z"⟩, prog_4_method_11_code, 4, some .boolean, 3, 1, 2, 2, 3, 43),
  (⟨"StoryCoroner$Counts", "deathsBy", "(I)I"⟩, prog_4_method_9_code, 5, some .int, 1, 1, 2, 2, 4, 66),
  (⟨"StoryCoroner$Counts", "solvedDeathsBy", "(I)I"⟩, prog_4_method_10_code, 5, some .int, 1, 1, 2, 2, 4, 66),
  (⟨"StoryCoroner", "authorOf", "(II)I"⟩, prog_1_method_15_code, 3, some .int, 2, 1, 10, 10, 5, 90),
  (⟨"StoryCoroner", "bitsOfShare", "(F)I"⟩, prog_1_method_46_code, 4, some .int, 1, 0, 10, 10, 1, 0),
  (⟨"StoryCoroner$Text", "argument", "(II)I"⟩, prog_11_method_7_code, 3, some .int, 2, 1, 9, 9, 2, 21),
  (⟨"StoryCoroner$Text", "kind", "(I)I"⟩, prog_11_method_6_code, 2, some .int, 1, 1, 9, 9, 2, 21),
  (⟨"StoryCoroner$Changes", "addCharacter", "()I"⟩, prog_3_method_2_code, 2, some .int, 0, 1, 1, 1, 2, 22),
  (⟨"StoryCoroner$Book", "isCharacter", "(I)Z"⟩, prog_2_method_3_code, 2, some .boolean, 1, 1, 0, 0, 1, 0),
  (⟨"StoryCoroner$Book", "isChapter", "(I)Z"⟩, prog_2_method_2_code, 1, some .boolean, 1, 0, 0, 0, 1, 0),
  (⟨"StoryCoroner$Book", "isDeadAtLast", "(I)Z"⟩, prog_2_method_9_code, 2, some .boolean, 1, 1, 0, 0, 2, 21),
  (⟨"StoryCoroner$Book", "lastChapter", "(I)I"⟩, prog_2_method_11_code, 3, some .int, 1, 1, 0, 0, 3, 43),
  (⟨"StoryCoroner$Changes", "canTurn", "(II)Z"⟩, prog_3_method_6_code, 5, some .boolean, 2, 1, 1, 1, 4, 65),
  (⟨"StoryCoroner$Book", "addTurn", "(II)V"⟩, prog_2_method_17_code, 4, none, 2, 1, 0, 0, 2, 22),
  (⟨"StoryCoroner$Changes", "letDie", "(II)I"⟩, prog_3_method_4_code, 3, some .int, 2, 1, 1, 1, 5, 89),
  (⟨"StoryCoroner$Changes", "letRise", "(II)I"⟩, prog_3_method_5_code, 4, some .int, 2, 1, 1, 1, 5, 89),
  (⟨"StoryCoroner$Book", "setCulprit", "(III)V"⟩, prog_2_method_16_code, 4, none, 3, 1, 0, 0, 2, 22),
  (⟨"StoryCoroner$Book", "removeLastTurn", "(I)V"⟩, prog_2_method_18_code, 3, none, 1, 1, 0, 0, 3, 45),
  (⟨"StoryCoroner$Changes", "strikeOut", "(I)I"⟩, prog_3_method_7_code, 3, some .int, 1, 1, 1, 1, 4, 67),
  (⟨"StoryCoroner$Changes", "setWriter", "(II)I"⟩, prog_3_method_8_code, 4, some .int, 2, 1, 1, 1, 2, 22),
  (⟨"StoryCoroner", "isYesOrNo", "(I)Z"⟩, prog_1_method_38_code, 1, some .boolean, 1, 0, 10, 10, 1, 0),
  (⟨"StoryCoroner$Changes", "setSworn", "(II)I"⟩, prog_3_method_9_code, 3, some .int, 2, 1, 1, 1, 3, 43),
  (⟨"StoryCoroner$Book", "motivePages", "(II)I"⟩, prog_2_method_19_code, 3, some .int, 2, 1, 0, 0, 2, 21),
  (⟨"StoryCoroner$Changes", "setMotive", "(III)I"⟩, prog_3_method_10_code, 5, some .int, 3, 1, 1, 1, 3, 43),
  (⟨"StoryCoroner$Jury", "isSeat", "(I)Z"⟩, prog_7_method_2_code, 1, some .boolean, 1, 0, 5, 5, 1, 0),
  (⟨"StoryCoroner$Changes", "letGo", "(I)I"⟩, prog_3_method_12_code, 2, some .int, 1, 1, 1, 1, 4, 64),
  (⟨"StoryCoroner$Jury", "isSeverity", "(I)Z"⟩, prog_7_method_3_code, 1, some .boolean, 1, 0, 5, 5, 1, 0),
  (⟨"StoryCoroner$Changes", "seatReader", "(II)I"⟩, prog_3_method_11_code, 3, some .int, 2, 1, 1, 1, 4, 64),
  (⟨"StoryCoroner$Book", "isDeath", "(II)Z"⟩, prog_2_method_5_code, 3, some .boolean, 2, 1, 0, 0, 3, 42),
  (⟨"StoryCoroner$Book", "isCase", "(III)Z"⟩, prog_2_method_6_code, 4, some .boolean, 3, 1, 0, 0, 4, 64),
  (⟨"StoryCoroner$Inquest", "isDeadIn", "(II)Z"⟩, prog_6_method_2_code, 6, some .boolean, 2, 1, 4, 4, 2, 21),
  (⟨"StoryCoroner$Inquest", "couldCause", "(III)Z"⟩, prog_6_method_7_code, 4, some .boolean, 3, 1, 4, 4, 3, 46),
  (⟨"StoryCoroner$Inquest", "weight", "(III)I"⟩, prog_6_method_11_code, 5, some .int, 3, 1, 4, 4, 4, 69),
  (⟨"StoryCoroner$Jury", "voteOn", "(II)I"⟩, prog_7_method_7_code, 4, some .int, 2, 1, 5, 5, 2, 21),
  (⟨"StoryCoroner$Jury", "votes", "(I)I"⟩, prog_7_method_6_code, 4, some .int, 1, 1, 5, 5, 3, 44),
  (⟨"StoryCoroner$Jury", "findsGuilty", "(I)Z"⟩, prog_7_method_8_code, 2, some .boolean, 1, 1, 5, 5, 4, 67),
  (⟨"StoryCoroner$Changes", "holdTrial", "(III)I"⟩, prog_3_method_13_code, 4, some .int, 3, 1, 1, 1, 5, 93),
  (⟨"StoryCoroner", "carryOut", "(I)I"⟩, prog_1_method_42_code, 5, some .int, 1, 1, 10, 10, 6, 116),
  (⟨"StoryCoroner", "character", "()I"⟩, prog_1_method_2_code, 1, some .int, 0, 1, 10, 10, 6, 124),
  (⟨"StoryCoroner$Book", "nextRising", "(II)I"⟩, prog_2_method_13_code, 4, some .int, 2, 1, 0, 0, 3, 43),
  (⟨"StoryCoroner$Counts", "chaptersLived", "(I)I"⟩, prog_4_method_2_code, 6, some .int, 1, 1, 2, 2, 4, 66),
  (⟨"StoryCoroner$Counts", "deathsCausedBy", "(I)I"⟩, prog_4_method_4_code, 5, some .int, 1, 1, 2, 2, 3, 43),
  (⟨"StoryCoroner$Counts", "pagesHeldBy", "(I)I"⟩, prog_4_method_5_code, 4, some .int, 1, 1, 2, 2, 3, 43),
  (⟨"StoryCoroner$Counts", "pagesAgainst", "(I)I"⟩, prog_4_method_6_code, 4, some .int, 1, 1, 2, 2, 3, 43),
  (⟨"StoryCoroner", "characterOf", "(II)I"⟩, prog_1_method_13_code, 3, some .int, 2, 1, 10, 10, 5, 91),
  (⟨"StoryCoroner$Inquest", "deadByLatest", "(I)I"⟩, prog_6_method_3_code, 4, some .int, 1, 1, 4, 4, 3, 46),
  (⟨"java/lang/Integer", "bitCount", "(I)I"⟩, prog_16_method_49_code, 1, some .int, 1, 0, 99, 11, 1, 0),
  (⟨"StoryCoroner$Inquest", "darkestChapter", "()I"⟩, prog_6_method_6_code, 5, some .int, 0, 1, 4, 4, 4, 69),
  (⟨"StoryCoroner", "darkest", "(I)I"⟩, prog_1_method_19_code, 3, some .int, 1, 1, 10, 10, 5, 93),
  (⟨"StoryCoroner", "dead", "(I)I"⟩, prog_1_method_17_code, 2, some .int, 1, 1, 10, 10, 4, 69),
  (⟨"StoryCoroner$Inquest", "afterChapter", "(II)I"⟩, prog_6_method_5_code, 7, some .int, 2, 1, 4, 4, 3, 43),
  (⟨"StoryCoroner$Inquest", "deadByChapters", "(I)I"⟩, prog_6_method_4_code, 4, some .int, 1, 1, 4, 4, 4, 69),
  (⟨"StoryCoroner", "deadAgain", "(I)I"⟩, prog_1_method_18_code, 2, some .int, 1, 1, 10, 10, 5, 92),
  (⟨"StoryCoroner$Inquest", "possibleCulprits", "(II)I"⟩, prog_6_method_8_code, 5, some .int, 2, 1, 4, 4, 4, 69),
  (⟨"StoryCoroner", "deathOf", "(III)I"⟩, prog_1_method_14_code, 4, some .int, 3, 1, 10, 10, 5, 93),
  (⟨"StoryCoroner", "die", "(II)I"⟩, prog_1_method_4_code, 3, some .int, 2, 1, 10, 10, 6, 124),
  (⟨"StoryCoroner", "guilty", "(III)I"⟩, prog_1_method_22_code, 4, some .int, 3, 1, 10, 10, 5, 93),
  (⟨"StoryCoroner$Inquest", "deadAgree", "()Z"⟩, prog_6_method_12_code, 3, some .boolean, 0, 1, 4, 4, 4, 69),
  (⟨"StoryCoroner$Inquest", "suspectByCharacters", "(II)I"⟩, prog_6_method_9_code, 7, some .int, 2, 1, 4, 4, 4, 69),
  (⟨"StoryCoroner$Inquest", "suspectByPages", "(II)I"⟩, prog_6_method_10_code, 5, some .int, 2, 1, 4, 4, 4, 69),
  (⟨"StoryCoroner$Inquest", "suspectsAgree", "()Z"⟩, prog_6_method_13_code, 3, some .boolean, 0, 1, 4, 4, 5, 95),
  (⟨"StoryCoroner$Inquest", "turnsAreInOrder", "()Z"⟩, prog_6_method_14_code, 5, some .boolean, 0, 1, 4, 4, 3, 43),
  (⟨"StoryCoroner", "isWell", "()I"⟩, prog_1_method_33_code, 1, some .int, 0, 1, 10, 10, 6, 117),
  (⟨"StoryCoroner", "leave", "(I)I"⟩, prog_1_method_11_code, 2, some .int, 1, 1, 10, 10, 6, 124),
  (⟨"StoryCoroner", "motive", "(III)I"⟩, prog_1_method_9_code, 4, some .int, 3, 1, 10, 10, 6, 124),
  (⟨"StoryCoroner", "pages", "(II)I"⟩, prog_1_method_16_code, 3, some .int, 2, 1, 10, 10, 3, 43),
  (⟨"StoryCoroner$Counts", "key", "(II)I"⟩, prog_4_method_16_code, 3, some .int, 2, 1, 2, 2, 5, 91),
  (⟨"StoryCoroner$Counts", "aheadOf", "(II)I"⟩, prog_4_method_17_code, 7, some .int, 2, 1, 2, 2, 2, 21),
  (⟨"StoryCoroner$Counts", "atPlace", "(II)I"⟩, prog_4_method_15_code, 5, some .int, 2, 1, 2, 2, 6, 113),
  (⟨"StoryCoroner", "ranked", "(II)I"⟩, prog_1_method_24_code, 3, some .int, 2, 1, 10, 10, 7, 137),
  (⟨"StoryCoroner$Text", "ahead", "()I"⟩, prog_11_method_10_code, 1, some .int, 0, 1, 9, 9, 2, 21),
  (⟨"StoryCoroner$Text", "take", "(I)Z"⟩, prog_11_method_12_code, 2, some .boolean, 1, 1, 9, 9, 3, 41),
  (⟨"StoryCoroner$Text", "isDigit", "(I)Z"⟩, prog_11_method_11_code, 1, some .boolean, 1, 0, 9, 9, 1, 0),
  (⟨"StoryCoroner$Text", "give", "(I)V"⟩, prog_11_method_17_code, 2, none, 1, 1, 9, 9, 2, 22),
  (⟨"StoryCoroner$Text", "takeDigit", "()Z"⟩, prog_11_method_13_code, 2, some .boolean, 0, 1, 9, 9, 3, 43),
  (⟨"StoryCoroner$Text", "takeNumber", "()Z"⟩, prog_11_method_14_code, 4, some .boolean, 0, 1, 9, 9, 3, 43),
  (⟨"StoryCoroner$Text", "takePlusOrMinus", "()Z"⟩, prog_11_method_15_code, 1, some .boolean, 0, 1, 9, 9, 4, 62),
  (⟨"StoryCoroner$Text", "takeSeverityOrMinus", "()Z"⟩, prog_11_method_16_code, 1, some .boolean, 0, 1, 9, 9, 4, 64),
  (⟨"StoryCoroner$Text", "takeCommand", "()Z"⟩, prog_11_method_9_code, 2, some .boolean, 0, 1, 9, 9, 5, 84),
  (⟨"StoryCoroner$Text", "parse", "()I"⟩, prog_11_method_8_code, 2, some .int, 0, 1, 9, 9, 6, 105),
  (⟨"StoryCoroner$Text", "clear", "()V"⟩, prog_11_method_3_code, 1, none, 0, 1, 9, 9, 1, 0),
  (⟨"StoryCoroner$Text", "commands", "()I"⟩, prog_11_method_5_code, 1, some .int, 0, 1, 9, 9, 1, 0),
  (⟨"StoryCoroner$History", "takeBack", "(LStoryCoroner$Book;)V"⟩, prog_5_method_5_code, 2, none, 1, 1, 3, 3, 4, 83),
  (⟨"StoryCoroner", "read", "()I"⟩, prog_1_method_30_code, 5, some .int, 0, 1, 10, 10, 7, 140),
  (⟨"StoryCoroner$History", "restoreSnapshot", "(LStoryCoroner$Book;)Z"⟩, prog_5_method_8_code, 2, some .boolean, 1, 1, 3, 3, 4, 83),
  (⟨"StoryCoroner", "restore", "()I"⟩, prog_1_method_37_code, 1, some .int, 0, 1, 10, 10, 5, 104),
  (⟨"StoryCoroner", "rise", "(II)I"⟩, prog_1_method_5_code, 3, some .int, 2, 1, 10, 10, 6, 124),
  (⟨"StoryCoroner$History", "saveSnapshot", "(LStoryCoroner$Book;)V"⟩, prog_5_method_7_code, 2, none, 1, 1, 3, 3, 4, 83),
  (⟨"StoryCoroner", "save", "()I"⟩, prog_1_method_36_code, 1, some .int, 0, 1, 10, 10, 5, 104),
  (⟨"StoryCoroner", "seat", "(II)I"⟩, prog_1_method_10_code, 3, some .int, 2, 1, 10, 10, 6, 124),
  (⟨"StoryCoroner", "share", "()I"⟩, prog_1_method_34_code, 2, some .int, 0, 1, 10, 10, 6, 110),
  (⟨"StoryCoroner$Line", "codeAt", "(I)I"⟩, prog_8_method_4_code, 2, some .int, 1, 1, 6, 6, 2, 21),
  (⟨"StoryCoroner", "sign", "(I)I"⟩, prog_1_method_28_code, 2, some .int, 1, 1, 10, 10, 3, 42),
  (⟨"StoryCoroner", "strike", "(I)I"⟩, prog_1_method_6_code, 2, some .int, 1, 1, 10, 10, 6, 124),
  (⟨"StoryCoroner", "suspect", "(II)I"⟩, prog_1_method_20_code, 3, some .int, 2, 1, 10, 10, 5, 95),
  (⟨"StoryCoroner", "suspectAgain", "(II)I"⟩, prog_1_method_21_code, 3, some .int, 2, 1, 10, 10, 5, 93),
  (⟨"StoryCoroner", "swear", "(II)I"⟩, prog_1_method_8_code, 3, some .int, 2, 1, 10, 10, 6, 124),
  (⟨"StoryCoroner$Line", "clear", "()V"⟩, prog_8_method_3_code, 1, none, 0, 1, 6, 6, 1, 0),
  (⟨"StoryCoroner$Line", "size", "()I"⟩, prog_8_method_2_code, 1, some .int, 0, 1, 6, 6, 1, 0),
  (⟨"StoryCoroner", "tellChapter", "(I)I"⟩, prog_1_method_26_code, 2, some .int, 1, 1, 10, 10, 5, 87),
  (⟨"StoryCoroner", "tellCharacter", "(I)I"⟩, prog_1_method_25_code, 3, some .int, 1, 1, 10, 10, 5, 88),
  (⟨"StoryCoroner", "tellJury", "()I"⟩, prog_1_method_27_code, 2, some .int, 0, 1, 10, 10, 4, 64),
  (⟨"StoryCoroner", "trial", "(III)I"⟩, prog_1_method_12_code, 4, some .int, 3, 1, 10, 10, 6, 124),
  (⟨"StoryCoroner$History", "stepBack", "(LStoryCoroner$Book;)Z"⟩, prog_5_method_6_code, 2, some .boolean, 1, 1, 3, 3, 5, 104),
  (⟨"StoryCoroner", "undo", "()I"⟩, prog_1_method_35_code, 1, some .int, 0, 1, 10, 10, 6, 125),
  (⟨"StoryCoroner$Jury", "wouldFindGuilty", "(III)Z"⟩, prog_7_method_9_code, 7, some .boolean, 3, 1, 5, 5, 4, 67),
  (⟨"StoryCoroner", "would", "(IIIII)I"⟩, prog_1_method_23_code, 7, some .int, 5, 1, 10, 10, 5, 93),
  (⟨"StoryCoroner", "write", "(II)I"⟩, prog_1_method_7_code, 3, some .int, 2, 1, 10, 10, 6, 124),
  (⟨"StoryCoronerLaw", "areAlike", "([I[I)Z"⟩, method_9_code, 3, some .boolean, 2, 0, 99, 19, 1, 0),
  (⟨"StoryCoronerLaw", "cell", "([II)I"⟩, method_2_code, 3, some .int, 2, 0, 99, 19, 1, 0),
  (⟨"StoryCoronerLaw", "in", "([III)I"⟩, method_3_code, 3, some .int, 3, 0, 99, 19, 2, 22),
  (⟨"StoryCoronerLaw", "begun", "([I)LStoryCoroner;"⟩, method_6_code, 5, some (.object "StoryCoroner"), 1, 0, 99, 19, 7, 147),
  (⟨"StoryCoronerLaw", "isDead", "(LStoryCoroner;II)Z"⟩, method_10_code, 5, some .boolean, 3, 0, 99, 19, 6, 116),
  (⟨"StoryCoronerLaw", "could", "(LStoryCoroner;III)Z"⟩, method_11_code, 4, some .boolean, 4, 0, 99, 19, 7, 140),
  (⟨"java/lang/AbstractStringBuilder", "<init>", "(I)V"⟩, prog_14_method_2_code, 2, none, 1, 2, 11, 15, 1, 40),
  (⟨"java/lang/StringBuilder", "<init>", "()V"⟩, prog_19_method_1_code, 1, none, 0, 2, 11, 14, 2, 61),
  (⟨"java/lang/String", "coder", "()B"⟩, prog_18_method_152_code, 1, some .byte, 0, 1, 12, 13, 1, 0),
  (⟨"java/lang/String", "length", "()I"⟩, prog_18_method_54_code, 1, some .int, 0, 1, 12, 13, 2, 20),
  (⟨"java/lang/AbstractStringBuilder", "ensureCapacityInternal", "(I)V"⟩, prog_14_method_9_code, 3, none, 1, 1, 11, 15, 1, 0),
  (⟨"java/lang/AbstractStringBuilder", "inflateIfNeededFor", "(Ljava/lang/String;)V"⟩, prog_14_method_71_code, 2, none, 1, 1, 11, 15, 2, 20),
  (⟨"java/lang/String", "getBytes", "([BIB)V"⟩, prog_18_method_147_code, 4, none, 3, 1, 12, 13, 2, 40),
  (⟨"java/lang/AbstractStringBuilder", "putStringAt", "(ILjava/lang/String;)V"⟩, prog_14_method_73_code, 3, none, 2, 1, 11, 15, 3, 63),
  (⟨"java/lang/AbstractStringBuilder", "append", "(Ljava/lang/String;)Ljava/lang/AbstractStringBuilder;"⟩, prog_14_method_22_code, 3, some (.object "java/lang/AbstractStringBuilder"), 1, 1, 11, 15, 4, 85),
  (⟨"java/lang/StringBuilder", "append", "(Ljava/lang/String;)Ljava/lang/StringBuilder;"⟩, prog_19_method_7_code, 2, some (.object "java/lang/StringBuilder"), 1, 1, 11, 14, 5, 107),
  (⟨"java/lang/Integer", "stringSize", "(I)I"⟩, prog_16_method_13_code, 4, some .int, 1, 0, 99, 11, 1, 0),
  (⟨"java/lang/AbstractStringBuilder", "isLatin1", "()Z"⟩, prog_14_method_68_code, 1, some .boolean, 0, 1, 11, 15, 1, 0),
  (⟨"java/lang/Integer", "getChars", "(II[B)I"⟩, prog_16_method_12_code, 7, some .int, 3, 0, 99, 11, 1, 0),
  (⟨"java/lang/AbstractStringBuilder", "append", "(I)Ljava/lang/AbstractStringBuilder;"⟩, prog_14_method_32_code, 4, some (.object "java/lang/AbstractStringBuilder"), 1, 1, 11, 15, 2, 26),
  (⟨"java/lang/StringBuilder", "append", "(I)Ljava/lang/StringBuilder;"⟩, prog_19_method_15_code, 2, some (.object "java/lang/StringBuilder"), 1, 1, 11, 14, 3, 49),
  (⟨"java/lang/AbstractStringBuilder", "getValue", "()[B"⟩, prog_14_method_64_code, 1, some (.array .byte), 0, 1, 11, 15, 1, 0),
  (⟨"java/lang/AbstractStringBuilder", "length", "()I"⟩, prog_14_method_6_code, 1, some .int, 0, 1, 11, 15, 1, 0),
  (⟨"java/lang/StringBuilder", "length", "()I"⟩, prog_19_method_93_code, 1, some .int, 0, 1, 11, 14, 2, 20),
  (⟨"java/util/Arrays", "checkLength", "(II)V"⟩, prog_23_method_131_code, 2, none, 2, 0, 99, 17, 1, 0),
  (⟨"java/util/Arrays", "copyOfRangeByte", "([BII)[B"⟩, prog_23_method_133_code, 5, some (.array .byte), 3, 0, 99, 17, 2, 40),
  (⟨"java/util/Arrays", "copyOfRange", "([BII)[B"⟩, prog_23_method_132_code, 3, some (.array .byte), 3, 0, 99, 17, 3, 64),
  (⟨"java/lang/String", "<init>", "(Ljava/lang/AbstractStringBuilder;Ljava/lang/Void;)V"⟩, prog_18_method_150_code, 5, none, 2, 2, 12, 13, 4, 86),
  (⟨"java/lang/String", "<init>", "(Ljava/lang/StringBuilder;)V"⟩, prog_18_method_53_code, 2, none, 1, 2, 12, 13, 5, 110),
  (⟨"java/lang/StringBuilder", "toString", "()Ljava/lang/String;"⟩, prog_19_method_42_code, 1, some (.object "java/lang/String"), 0, 1, 11, 14, 6, 131),
  (⟨"java/lang/String", "isLatin1", "()Z"⟩, prog_18_method_154_code, 1, some .boolean, 0, 1, 12, 13, 1, 0),
  (⟨"jdk/internal/util/Preconditions", "checkIndex", "(IILjava/util/function/BiFunction;)I"⟩, prog_25_method_11_code, 3, some .int, 3, 0, 99, 18, 1, 0),
  (⟨"java/lang/String", "checkIndex", "(II)V"⟩, prog_18_method_155_code, 2, none, 2, 0, 12, 13, 2, 22),
  (⟨"java/lang/StringLatin1", "charAt", "([BI)C"⟩, prog_20_method_2_code, 2, some .char, 2, 0, 99, 16, 3, 43),
  (⟨"java/lang/String", "charAt", "(I)C"⟩, prog_18_method_56_code, 2, some .char, 1, 1, 12, 13, 4, 64),
  (⟨"StoryCoronerLaw", "reads", "(LStoryCoroner;Ljava/lang/String;)I"⟩, method_4_code, 4, some .int, 2, 0, 99, 19, 8, 164),
  (⟨"StoryCoronerLaw", "does", "(LStoryCoroner;[II)I"⟩, method_7_code, 6, some .int, 3, 0, 99, 19, 9, 187),
  (⟨"StoryCoronerLaw", "isError", "(I)Z"⟩, method_5_code, 1, some .boolean, 1, 0, 99, 19, 1, 0),
  (⟨"StoryCoronerLaw", "isWell", "(LStoryCoroner;)Z"⟩, method_12_code, 22, some .boolean, 1, 0, 99, 19, 8, 163),
  (⟨"StoryCoronerLaw", "seen", "(LStoryCoroner;)[I"⟩, method_8_code, 5, some (.array .int), 1, 0, 99, 19, 7, 131),
  (⟨"StoryCoronerLaw", "law", "([I)Z"⟩, code, 5, some .boolean, 1, 0, 99, 19, 10, 212)]
def ai_mw : List (Nat × Nat × Nat × Nat) := [(457, 25, 456, 0), (453, 24, 452, 0), (447, 23, 446, 0), (520, 26, 519, 0), (529, 27, 528, 0), (539, 28, 538, 0), (557, 29, 556, 0), (571, 30, 570, 0), (589, 31, 588, 0), (614, 32, 613, 0), (644, 33, 643, 0), (439, 22, 438, 0), (122, 24, 120, 121), (126, 23, 124, 125), (349, 29, 347, 348), (357, 23, 355, 356), (353, 29, 351, 352), (292, 23, 290, 291), (335, 23, 333, 334), (365, 29, 363, 364), (361, 29, 359, 360), (195, 27, 193, 194), (200, 27, 198, 199), (375, 29, 373, 374), (371, 29, 369, 370), (168, 23, 166, 167), (380, 32, 378, 379), (384, 31, 382, 383), (345, 22, 343, 344), (148, 24, 146, 147), (323, 33, 321, 322), (319, 33, 317, 318), (1124, 22, 1123, 19), (139, 23, 137, 138), (330, 22, 329, 8), (160, 23, 158, 159), (237, 23, 235, 236), (1118, 22, 1117, 18), (1031, 32, 1029, 1030), (1027, 22, 1025, 1026), (56, 28, 54, 55), (65, 31, 63, 1), (76, 25, 75, 0), (73, 24, 71, 72), (69, 23, 67, 68), (60, 31, 58, 59), (52, 22, 50, 0), (87, 28, 85, 86), (698, 30, 696, 697), (94, 22, 93, 0), (98, 31, 96, 97), (91, 22, 90, 2), (694, 22, 692, 693), (228, 23, 226, 227), (300, 29, 299, 6), (296, 29, 294, 295), (1150, 29, 1148, 1149), (1144, 22, 1142, 1143), (391, 22, 390, 0), (1093, 32, 1091, 1092), (1097, 32, 1095, 1096), (83, 30, 81, 82), (111, 23, 109, 110), (114, 23, 113, 0), (118, 23, 116, 117), (135, 23, 133, 134), (131, 30, 129, 3), (144, 23, 142, 143), (690, 30, 688, 689), (107, 30, 105, 106), (735, 23, 733, 734), (731, 23, 729, 730), (727, 30, 725, 726), (706, 30, 704, 705), (163, 22, 162, 0), (156, 30, 154, 155), (180, 23, 178, 179), (176, 30, 174, 175), (191, 27, 190, 0), (188, 30, 186, 187), (255, 27, 254, 0), (714, 30, 712, 713), (214, 23, 212, 213), (209, 23, 207, 208), (232, 26, 230, 231), (223, 26, 221, 222), (219, 26, 217, 218), (247, 27, 245, 4), (242, 27, 240, 241), (753, 27, 751, 752), (743, 30, 741, 742), (1089, 22, 1088, 17), (47, 22, 45, 46), (283, 23, 281, 282), (279, 29, 277, 278), (288, 29, 286, 287), (1186, 29, 1184, 1185), (1191, 29, 1189, 1190), (1177, 22, 1175, 1176), (1110, 26, 1108, 1109), (1207, 35, 1206, 0), (1238, 26, 1236, 1237), (1233, 22, 1231, 1232), (1105, 22, 1103, 1104), (1203, 26, 1202, 20), (1199, 26, 1197, 1198), (1195, 22, 1193, 1194), (1134, 26, 1132, 1133), (1128, 22, 1126, 1127), (686, 22, 684, 685), (205, 22, 203, 204), (1249, 26, 1247, 1248), (1221, 26, 1219, 1220), (1229, 26, 1227, 1228), (1253, 26, 1251, 1252), (1260, 26, 1258, 1259), (1245, 22, 1243, 1244), (184, 22, 182, 183), (172, 22, 170, 171), (1139, 22, 1137, 1138), (274, 29, 272, 5), (306, 29, 305, 7), (269, 29, 267, 268), (265, 22, 263, 264), (1049, 32, 1048, 10), (1054, 32, 1053, 11), (1061, 32, 1060, 0), (1065, 32, 1064, 13), (1058, 32, 1057, 12), (1069, 32, 1068, 14), (1073, 32, 1072, 15), (1077, 32, 1076, 16), (1045, 32, 1044, 9), (1041, 32, 1039, 1040), (1081, 32, 1079, 1080), (1085, 32, 1083, 1084), (404, 31, 402, 403), (1037, 22, 1035, 1036), (420, 31, 418, 419), (416, 22, 414, 415), (103, 22, 101, 102), (412, 31, 410, 411), (408, 22, 406, 407), (710, 22, 708, 709), (388, 22, 386, 387), (1163, 33, 1161, 1162), (1159, 22, 1157, 1158), (723, 22, 721, 722), (1217, 22, 1215, 1216), (1225, 22, 1223, 1224), (152, 22, 150, 151), (315, 33, 313, 314), (341, 33, 339, 340), (1114, 22, 1112, 1113), (310, 22, 308, 309), (1154, 22, 1152, 1153), (739, 22, 737, 738), (400, 31, 398, 399), (396, 22, 394, 395), (259, 27, 257, 258), (251, 22, 249, 250), (702, 22, 700, 701), (1167, 21, 1166, 0), (426, 21, 425, 0), (423, 21, 422, 0), (435, 21, 434, 0), (1173, 21, 1172, 0), (1213, 21, 1212, 0), (762, 36, 761, 0), (759, 37, 758, 0), (866, 38, 864, 865), (862, 38, 860, 861), (802, 36, 801, 1269), (875, 36, 874, 1270), (899, 38, 897, 898), (871, 36, 870, 1271), (794, 36, 793, 0), (791, 37, 789, 790), (911, 35, 910, 0), (832, 36, 829, 831), (914, 35, 913, 0), (908, 36, 907, 0), (905, 37, 903, 904), (947, 36, 944, 946), (955, 36, 949, 0), (953, 37, 952, 0), (965, 41, 964, 0), (962, 41, 961, 0), (959, 41, 958, 0), (941, 38, 940, 0), (938, 38, 937, 0), (933, 37, 931, 932), (1007, 38, 1005, 1006), (1016, 42, 1015, 0), (1013, 38, 1012, 0), (1010, 43, 1009, 0), (1003, 38, 1001, 1002), (998, 21, 997, 0), (719, 21, 718, 0), (432, 21, 431, 0), (1170, 21, 1169, 0), (1101, 21, 1100, 0), (0, 21, 0, 0)]
/-- the classes of the views -/
def ai_vc : List String := ["StoryCoroner$Book", "StoryCoroner$Changes", "StoryCoroner$Counts", "StoryCoroner$History", "StoryCoroner$Inquest", "StoryCoroner$Jury", "StoryCoroner$Line", "StoryCoroner$Refusals", "StoryCoroner$Row", "StoryCoroner$Text", "StoryCoroner", "java/lang/Integer", "java/lang/Math", "java/lang/String", "java/lang/StringBuilder", "java/lang/AbstractStringBuilder", "java/lang/StringLatin1", "java/util/Arrays", "jdk/internal/util/Preconditions", "StoryCoronerLaw"]
/-- calls: a view, a place in the pool: kind (0 virtual, 1 static, 2 special, 3 static among nest mates, 4 special among nest mates, 5 Object, 6 arraycopy, 8 virtual by another name, 9 the superclass's own, 10 clone), callee, place of the word (8, 9: place in ai_vu, ai_vs) -/
def ai_vm : List (List (Nat × (Nat × Nat × Nat))) := [
  [(3, (5, 0, 448)), (11, (2, 1, 451)), (45, (0, 13, 215)), (49, (0, 62, 210)), (53, (0, 82, 211)), (57, (0, 12, 119)), (60, (0, 33, 136)), (64, (0, 17, 336)), (67, (0, 29, 145)), (70, (0, 70, 732)), (74, (0, 35, 238)), (80, (0, 43, 70))],
  [(3, (5, 0, 572)), (33, (0, 47, 84)), (42, (0, 62, 108)), (46, (1, 63, 112)), (49, (0, 64, 115)), (52, (0, 13, 123)), (56, (0, 66, 127)), (60, (0, 67, 141)), (64, (0, 65, 132)), (71, (0, 12, 140)), (76, (0, 71, 728)), (80, (0, 35, 157)), (86, (0, 29, 164)), (95, (0, 25, 165)), (99, (0, 76, 177)), (105, (1, 78, 189)), (110, (1, 80, 715)), (113, (0, 21, 192)), (119, (0, 22, 197)), (122, (0, 83, 744)), (126, (0, 18, 745)), (129, (0, 17, 746)), (132, (0, 85, 747)), (137, (0, 53, 748)), (143, (0, 86, 749)), (147, (0, 89, 750)), (150, (0, 70, 754)), (89, (3, 74, 161))],
  [(3, (5, 0, 558)), (11, (2, 1, 560)), (24, (0, 13, 275)), (30, (0, 93, 280)), (34, (0, 53, 284)), (37, (0, 18, 366)), (45, (0, 17, 289)), (48, (0, 76, 1187)), (54, (0, 12, 301)), (57, (0, 23, 372)), (60, (0, 54, 297)), (64, (0, 15, 354)), (67, (0, 19, 362)), (73, (0, 120, 270)), (76, (0, 29, 302)), (79, (0, 121, 303)), (82, (0, 94, 276)), (85, (0, 95, 285)), (88, (0, 55, 293))],
  [(3, (5, 0, 590)), (29, (0, 41, 61)), (33, (0, 44, 66)), (37, (1, 42, 99)), (43, (0, 136, 401)), (17, (4, 2, 593))],
  [(3, (5, 0, 521)), (21, (0, 12, 233)), (34, (0, 84, 229)), (38, (0, 104, 1200)), (42, (0, 33, 1204)), (45, (0, 99, 1239)), (48, (1, 100, 1240)), (53, (0, 76, 224)), (56, (0, 53, 225)), (59, (0, 85, 220)), (63, (0, 36, 234)), (67, (0, 13, 1254)), (70, (0, 112, 1255)), (73, (0, 113, 1256))],
  [(3, (5, 0, 530)), (21, (0, 12, 196)), (27, (0, 21, 201)), (31, (0, 87, 243)), (35, (0, 88, 260)), (38, (0, 22, 261))],
  [(3, (5, 0, 645)), (11, (2, 1, 647)), (24, (0, 12, 1164)), (28, (0, 29, 324)), (31, (0, 30, 320))],
  [(3, (5, 0, 540))],
  [(1, (5, 0, 454)), (7, (1, 0, 455)), (19, (1, 42, 74)), (22, (6, 0, 77))],
  [(3, (5, 0, 615)), (11, (2, 1, 617)), (30, (0, 29, 1032)), (36, (0, 12, 1050)), (43, (0, 132, 1042)), (47, (0, 125, 1051)), (51, (0, 124, 1046)), (58, (0, 128, 1055)), (61, (0, 129, 1066)), (64, (0, 130, 1070)), (67, (0, 131, 1074)), (70, (1, 126, 1059)), (73, (0, 127, 1062))],
  [(1, (5, 0, 440)), (12, (2, 3, 518)), (17, (2, 4, 527)), (37, (2, 6, 555)), (48, (2, 7, 569)), (57, (2, 8, 587)), (76, (0, 46, 48)), (79, (0, 61, 80)), (83, (0, 51, 88)), (87, (0, 48, 695)), (90, (0, 68, 687)), (94, (0, 69, 104)), (97, (0, 72, 724)), (100, (0, 73, 703)), (103, (0, 75, 153)), (106, (0, 77, 173)), (110, (0, 81, 711)), (113, (0, 79, 185)), (116, (0, 90, 740)), (119, (0, 62, 311)), (123, (0, 13, 1178)), (126, (0, 15, 1179)), (129, (0, 94, 1180)), (132, (0, 19, 1181)), (135, (0, 95, 1182)), (138, (0, 96, 1183)), (141, (0, 97, 1188)), (144, (0, 82, 1129)), (148, (0, 53, 1130)), (151, (0, 17, 337)), (158, (0, 12, 326)), (163, (0, 107, 1131)), (166, (0, 93, 1135)), (169, (0, 35, 1119)), (175, (0, 23, 1145)), (178, (0, 55, 1146)), (181, (0, 56, 1147)), (184, (0, 76, 1140)), (187, (1, 63, 1106)), (190, (0, 99, 1107)), (193, (0, 105, 1196)), (196, (1, 74, 1234)), (199, (0, 101, 1235)), (202, (1, 100, 1241)), (207, (0, 112, 1218)), (210, (0, 113, 1226)), (213, (0, 83, 206)), (217, (0, 86, 216)), (220, (0, 88, 239)), (223, (1, 78, 252)), (226, (1, 80, 253)), (229, (0, 159, 256)), (232, (0, 122, 266)), (235, (0, 151, 312)), (238, (0, 31, 316)), (242, (0, 30, 325)), (248, (0, 34, 327)), (252, (0, 152, 338)), (255, (0, 37, 1115)), (258, (0, 32, 1121)), (261, (0, 21, 1155)), (267, (0, 145, 1160)), (270, (0, 38, 1028)), (272, (0, 26, 377)), (273, (0, 133, 1038)), (276, (0, 134, 1078)), (277, (0, 45, 57)), (280, (0, 135, 1082)), (283, (0, 40, 53)), (286, (0, 91, 1086)), (289, (1, 49, 92)), (292, (0, 136, 1098)), (295, (0, 50, 95)), (308, (0, 14, 346)), (311, (0, 16, 350)), (314, (0, 20, 358)), (317, (0, 22, 367)), (323, (0, 24, 368)), (326, (0, 25, 376)), (329, (0, 27, 381)), (330, (0, 111, 1246)), (334, (0, 114, 1250)), (337, (0, 115, 1257)), (340, (1, 58, 389)), (344, (0, 157, 397)), (348, (0, 141, 409)), (351, (0, 138, 417)), (354, (0, 59, 1090)), (357, (0, 60, 1094)), (360, (0, 33, 331)), (363, (0, 18, 332)), (366, (0, 36, 1120)), (9, (4, 2, 445)), (20, (4, 5, 537)), (64, (4, 9, 612)), (71, (4, 10, 642))],
  [],
  [],
  [(1, (5, 0, 942)), (54, (1, 188, 957)), (212, (6, 0, 900)), (335, (0, 170, 863)), (489, (2, 189, 939)), (492, (0, 192, 1004)), (495, (1, 195, 1008)), (549, (8, 185, 0)), (552, (8, 183, 1)), (1047, (8, 179, 2)), (1059, (1, 193, 1014))],
  [(1, (2, 168, 760)), (29, (9, 176, 0)), (53, (9, 181, 1)), (137, (2, 190, 936)), (343, (9, 184, 2))],
  [(3, (5, 0, 763)), (32, (0, 171, 859)), (40, (0, 170, 876)), (83, (8, 179, 3)), (100, (8, 172, 4)), (208, (8, 175, 5)), (245, (1, 178, 909)), (248, (1, 180, 912)), (397, (8, 173, 6)), (399, (0, 174, 896))],
  [(9, (1, 194, 1011))],
  [(150, (6, 0, 827)), (304, (1, 42, 826)), (310, (10, 0, 819)), (339, (1, 187, 960)), (343, (1, 186, 963))],
  [],
  [(9, (1, 163, 424)), (16, (0, 171, 999)), (22, (0, 196, 1000)), (26, (0, 39, 1024)), (33, (0, 137, 1034)), (36, (2, 11, 437)), (37, (1, 164, 421)), (41, (0, 92, 44)), (44, (0, 109, 683)), (48, (0, 140, 100)), (51, (0, 52, 691)), (54, (0, 150, 149)), (57, (0, 161, 699)), (60, (0, 118, 169)), (64, (0, 143, 707)), (68, (0, 147, 720)), (71, (0, 117, 181)), (74, (0, 156, 736)), (79, (2, 169, 757)), (82, (0, 177, 788)), (85, (0, 182, 902)), (94, (0, 191, 930)), (110, (1, 197, 996)), (114, (0, 28, 342)), (117, (0, 103, 1102)), (120, (0, 153, 1111)), (123, (0, 108, 1125)), (126, (0, 119, 1136)), (129, (0, 57, 1141)), (132, (0, 155, 1151)), (135, (0, 146, 1156)), (138, (0, 98, 1174)), (141, (1, 166, 1171)), (145, (0, 106, 1192)), (148, (1, 100, 1205)), (153, (1, 167, 1211)), (157, (0, 148, 1214)), (160, (0, 149, 1222)), (163, (0, 102, 1230)), (166, (0, 116, 1242)), (169, (1, 165, 433)), (173, (1, 200, 1168)), (176, (1, 201, 1099)), (180, (1, 198, 717)), (184, (1, 199, 430)), (188, (1, 162, 1165)), (192, (0, 158, 393)), (195, (0, 142, 405)), (198, (0, 110, 202)), (201, (0, 160, 248)), (205, (0, 123, 262)), (208, (0, 154, 307)), (211, (0, 144, 385)), (214, (0, 139, 413))]]
/-- virtual by another name: the method that is named, places of the words link, sameMethod, selects -/
def ai_vu : List (Nat × Nat × Nat × Nat) := [(184, 948, 950, 951), (183, 943, 945, 946), (179, 956, 830, 831), (179, 828, 830, 831), (172, 799, 1263, 1269), (175, 868, 1265, 1271), (173, 872, 1266, 1270)]
/-- the superclass's own: places of the words link, sameMethod, superclass -/
def ai_vs : List (Nat × Nat × Nat) := [(792, 1261, 785), (906, 1268, 785), (954, 950, 785)]
/-- fields: class, slot, place of the word -/
def ai_vf : List (List (Nat × (Nat × Nat × Nat))) := [
  [(14, (0, 3, 475)), (20, (0, 4, 479)), (23, (0, 5, 481)), (26, (0, 6, 482)), (29, (0, 7, 486)), (32, (0, 8, 489)), (35, (0, 9, 491)), (38, (0, 0, 464)), (42, (0, 1, 469)), (77, (0, 2, 473))],
  [(9, (1, 0, 573)), (15, (1, 1, 574)), (19, (1, 2, 575)), (23, (1, 3, 576)), (27, (0, 0, 463)), (39, (0, 1, 468)), (67, (0, 3, 477)), (83, (0, 6, 484)), (92, (0, 7, 487)), (102, (0, 8, 490)), (116, (0, 9, 493)), (140, (0, 2, 472))],
  [(14, (2, 1, 562)), (20, (2, 0, 561)), (41, (0, 0, 466)), (51, (0, 6, 483)), (70, (0, 1, 470))],
  [(11, (3, 0, 594)), (18, (3, 1, 595)), (22, (3, 3, 597)), (26, (3, 2, 596)), (46, (3, 4, 598))],
  [(9, (4, 0, 522)), (15, (0, 3, 476)), (27, (0, 4, 480)), (30, (0, 0, 465))],
  [(9, (5, 0, 531)), (15, (0, 9, 492))],
  [(14, (6, 0, 648)), (20, (6, 1, 649))],
  [(9, (7, 0, 541)), (15, (7, 1, 542)), (18, (7, 2, 543)), (21, (7, 3, 544))],
  [(13, (8, 0, 458))],
  [(14, (9, 0, 618)), (20, (9, 1, 619)), (23, (9, 2, 620)), (26, (9, 3, 621)), (33, (9, 4, 622)), (40, (9, 5, 623)), (55, (9, 6, 624))],
  [(21, (10, 0, 655)), (27, (10, 1, 656)), (31, (10, 2, 657)), (38, (10, 3, 658)), (42, (10, 4, 659)), (51, (10, 5, 660)), (58, (10, 6, 661)), (65, (10, 7, 662)), (72, (10, 8, 663)), (154, (0, 6, 485)), (172, (0, 7, 488)), (245, (0, 3, 478)), (264, (0, 9, 494)), (301, (0, 0, 467)), (305, (0, 1, 471)), (320, (0, 2, 474))],
  [],
  [],
  [(9, (12, 0, 979)), (15, (12, 1, 980)), (1048, (11, 2, 775))],
  [],
  [(15, (11, 0, 773)), (22, (11, 1, 774)), (79, (11, 3, 776))],
  [],
  [],
  [],
  []]
/-- statics: which (0 COMPACT_STRINGS, 1 DigitOnes, 2 DigitTens, 3 SIOOBE_FORMATTER), place of the word -/
def ai_vg : List (List (Nat × (Nat × Nat))) := [
  [],
  [],
  [],
  [],
  [],
  [],
  [],
  [],
  [],
  [],
  [],
  [(83, (1, 915)), (87, (2, 917))],
  [],
  [(38, (0, 867)), (1053, (3, 845))],
  [],
  [(18, (0, 764))],
  [],
  [],
  [],
  []]
/-- new: class, places of the words -/
def ai_vn : List (List (Nat × (Nat × Nat × Nat × Nat))) := [
  [(9, (8, 449, 450, 24))],
  [],
  [(9, (8, 559, 450, 24))],
  [(9, (0, 591, 444, 23))],
  [],
  [],
  [(9, (8, 646, 450, 24))],
  [],
  [],
  [(9, (8, 616, 450, 24))],
  [(7, (0, 443, 444, 23)), (10, (4, 516, 517, 26)), (15, (5, 526, 246, 27)), (18, (7, 535, 536, 28)), (35, (2, 554, 273, 29)), (46, (1, 568, 130, 30)), (55, (3, 586, 64, 31)), (62, (9, 610, 611, 32)), (69, (6, 640, 641, 33))],
  [],
  [],
  [],
  [(18, (12, 934, 935, 38))],
  [],
  [],
  [],
  [],
  [(27, (10, 436, 51, 22)), (77, (11, 755, 756, 37))]]
/-- constants -/
def ai_vk : List (List (Nat × ((Int32 ⊕ UInt32) × Nat))) := [
  [],
  [],
  [],
  [],
  [],
  [],
  [],
  [],
  [],
  [],
  [(369, (.inr 1258291200, 392))],
  [(265, (.inl (1431655765), 1208)), (266, (.inl (858993459), 1209)), (267, (.inl (252645135), 1210))],
  [],
  [],
  [],
  [(39, (.inl (2147483647), 815))],
  [],
  [],
  [],
  [(7, (.inl (69069), 427)), (8, (.inl (1103515245), 428)), (15, (.inl (2147483647), 429)), (32, (.inl (-99999), 1033)), (67, (.inl (-90000), 716))]]
/-- texts: which -/
def ai_vt : List (List (Nat × Nat)) := [
  [],
  [],
  [],
  [],
  [],
  [],
  [],
  [],
  [],
  [],
  [],
  [],
  [],
  [],
  [],
  [],
  [],
  [],
  [],
  [(80, 0), (88, 1), (90, 2), (92, 3), (98, 4), (100, 5), (102, 6), (104, 7), (106, 8), (108, 9)]]
/-- the texts, by their places in the law's pool -/
def ai_tx : List (Nat × String × List Int32) := [(80, "m", [109]), (88, "=", [61]), (90, ";t", [59, 116]), (92, "0", [48]), (98, ";x", [59, 120]), (100, ";d", [59, 100]), (102, "@", [64]), (104, ";w", [59, 119]), (106, ";j", [59, 106]), (108, "-", [45])]
/-- private methods that a StringBuilder inherits -/
def ai_pv : List MethodName := [⟨"java/lang/AbstractStringBuilder", "ensureCapacityInternal", "(I)V"⟩, ⟨"java/lang/AbstractStringBuilder", "inflateIfNeededFor", "(Ljava/lang/String;)V"⟩, ⟨"java/lang/AbstractStringBuilder", "putStringAt", "(ILjava/lang/String;)V"⟩]
def ai_w_arri : Nat := 462
def ai_w_arrb : Nat := 786
def ai_w_arro : Nat := 592
def ai_w_ncopy : Nat := 79
def ai_w_nclone : Nat := 821
def ai_w_obji : Nat := 441
def ai_w_objc : Nat := 442
def ai_w_syss : Nat := 78
def ai_w_sysi : Nat := 34
def ai_w_clsame : Nat := 820
def ai_w_clinst : Nat := 822
def ai_w_clsel : Nat := 823
def ai_w_clcast : Nat := 824
def ai_w_clcl : Nat := 825
def ai_pvw : List (Nat × Nat) := [(800, 801), (873, 874), (869, 870)]
def ai_w_sbi : Nat := 756
