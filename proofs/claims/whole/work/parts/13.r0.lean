/-! methods: printed by gen2.py -/
theorem hc_0 : ai_code 0 = cJ9_max_7cf53 := rfl
theorem hv_0 : ai_view 0 = 13 := rfl
theorem hk_0 : ai_kind 0 = 0 := rfl
theorem hn_0 : ai_n 0 = 2 := rfl
theorem ht_0 : ai_ret 0 = some .int := rfl
theorem hc_12 : ai_code 12 = cX8_get := rfl
theorem hv_12 : ai_view 12 = 8 := rfl
theorem hk_12 : ai_kind 12 = 1 := rfl
theorem hn_12 : ai_n 12 = 1 := rfl
theorem ht_12 : ai_ret 12 = some .int := rfl
theorem hc_13 : ai_code 13 = cX0_deaths := rfl
theorem hv_13 : ai_view 13 = 0 := rfl
theorem hk_13 : ai_kind 13 = 1 := rfl
theorem hn_13 : ai_n 13 = 1 := rfl
theorem ht_13 : ai_ret 13 = some .int := rfl
theorem hc_14 : ai_code 14 = cX2_allDeaths := rfl
theorem hv_14 : ai_view 14 = 2 := rfl
theorem hk_14 : ai_kind 14 = 1 := rfl
theorem hn_14 : ai_n 14 = 0 := rfl
theorem ht_14 : ai_ret 14 = some .int := rfl
theorem hc_15 : ai_code 15 = cX0_risings := rfl
theorem hv_15 : ai_view 15 = 0 := rfl
theorem hk_15 : ai_kind 15 = 1 := rfl
theorem hn_15 : ai_n 15 = 1 := rfl
theorem ht_15 : ai_ret 15 = some .int := rfl
theorem hc_16 : ai_code 16 = cX2_allRisings := rfl
theorem hv_16 : ai_view 16 = 2 := rfl
theorem hk_16 : ai_kind 16 = 1 := rfl
theorem hn_16 : ai_n 16 = 0 := rfl
theorem ht_16 : ai_ret 16 = some .int := rfl
theorem hc_17 : ai_code 17 = cX0_culprit := rfl
theorem hv_17 : ai_view 17 = 0 := rfl
theorem hk_17 : ai_kind 17 = 1 := rfl
theorem hn_17 : ai_n 17 = 2 := rfl
theorem ht_17 : ai_ret 17 = some .int := rfl
theorem hc_18 : ai_code 18 = cX0_isSolved := rfl
theorem hv_18 : ai_view 18 = 0 := rfl
theorem hk_18 : ai_kind 18 = 1 := rfl
theorem hn_18 : ai_n 18 = 2 := rfl
theorem ht_18 : ai_ret 18 = some .boolean := rfl
theorem hc_19 : ai_code 19 = cX2_solvedDeaths := rfl
theorem hv_19 : ai_view 19 = 2 := rfl
theorem hk_19 : ai_kind 19 = 1 := rfl
theorem hn_19 : ai_n 19 = 1 := rfl
theorem ht_19 : ai_ret 19 = some .int := rfl
theorem hc_20 : ai_code 20 = cX2_allSolvedDeaths := rfl
theorem hv_20 : ai_view 20 = 2 := rfl
theorem hk_20 : ai_kind 20 = 1 := rfl
theorem hn_20 : ai_n 20 = 0 := rfl
theorem ht_20 : ai_ret 20 = some .int := rfl
theorem hc_21 : ai_code 21 = cX5_isTaken := rfl
theorem hv_21 : ai_view 21 = 5 := rfl
theorem hk_21 : ai_kind 21 = 1 := rfl
theorem hn_21 : ai_n 21 = 1 := rfl
theorem ht_21 : ai_ret 21 = some .boolean := rfl
theorem hc_22 : ai_code 22 = cX5_sitting := rfl
theorem hv_22 : ai_view 22 = 5 := rfl
theorem hk_22 : ai_kind 22 = 1 := rfl
theorem hn_22 : ai_n 22 = 0 := rfl
theorem ht_22 : ai_ret 22 = some .int := rfl
theorem hc_23 : ai_code 23 = cX2_chaptersBy := rfl
theorem hv_23 : ai_view 23 = 2 := rfl
theorem hk_23 : ai_kind 23 = 1 := rfl
theorem hn_23 : ai_n 23 = 1 := rfl
theorem ht_23 : ai_ret 23 = some .int := rfl
theorem hc_24 : ai_code 24 = cX2_writtenChapters := rfl
theorem hv_24 : ai_view 24 = 2 := rfl
theorem hk_24 : ai_kind 24 = 1 := rfl
theorem hn_24 : ai_n 24 = 0 := rfl
theorem ht_24 : ai_ret 24 = some .int := rfl
theorem hc_25 : ai_code 25 = cX0_swornAuthors := rfl
theorem hv_25 : ai_view 25 = 0 := rfl
theorem hk_25 : ai_kind 25 = 1 := rfl
theorem hn_25 : ai_n 25 = 0 := rfl
theorem ht_25 : ai_ret 25 = some .int := rfl
theorem hc_26 : ai_code 26 = cX9_size := rfl
theorem hv_26 : ai_view 26 = 9 := rfl
theorem hk_26 : ai_kind 26 = 1 := rfl
theorem hn_26 : ai_n 26 = 0 := rfl
theorem ht_26 : ai_ret 26 = some .int := rfl
theorem hc_27 : ai_code 27 = cX3_size := rfl
theorem hv_27 : ai_view 27 = 3 := rfl
theorem hk_27 : ai_kind 27 = 1 := rfl
theorem hn_27 : ai_n 27 = 0 := rfl
theorem ht_27 : ai_ret 27 = some .int := rfl
theorem hc_28 : ai_code 28 = cX10_account := rfl
theorem hv_28 : ai_view 28 = 10 := rfl
theorem hk_28 : ai_kind 28 = 1 := rfl
theorem hn_28 : ai_n 28 = 1 := rfl
theorem ht_28 : ai_ret 28 = some .int := rfl
theorem hc_29 : ai_code 29 = cX8_set := rfl
theorem hv_29 : ai_view 29 = 8 := rfl
theorem hk_29 : ai_kind 29 = 1 := rfl
theorem hn_29 : ai_n 29 = 2 := rfl
theorem ht_29 : ai_ret 29 = none := rfl
theorem hc_30 : ai_code 30 = cX6_addCode := rfl
theorem hv_30 : ai_view 30 = 6 := rfl
theorem hk_30 : ai_kind 30 = 1 := rfl
theorem hn_30 : ai_n 30 = 1 := rfl
theorem ht_30 : ai_ret 30 = none := rfl
theorem hc_31 : ai_code 31 = cX6_addNumber := rfl
theorem hv_31 : ai_view 31 = 6 := rfl
theorem hk_31 : ai_kind 31 = 1 := rfl
theorem hn_31 : ai_n 31 = 1 := rfl
theorem ht_31 : ai_ret 31 = none := rfl
theorem hc_32 : ai_code 32 = cX10_addDead := rfl
theorem hv_32 : ai_view 32 = 10 := rfl
theorem hk_32 : ai_kind 32 = 1 := rfl
theorem hn_32 : ai_n 32 = 1 := rfl
theorem ht_32 : ai_ret 32 = none := rfl
theorem hc_33 : ai_code 33 = cX0_turnChapter := rfl
theorem hv_33 : ai_view 33 = 0 := rfl
theorem hk_33 : ai_kind 33 = 1 := rfl
theorem hn_33 : ai_n 33 = 2 := rfl
theorem ht_33 : ai_ret 33 = some .int := rfl
theorem hc_34 : ai_code 34 = cX10_addTurn := rfl
theorem hv_34 : ai_view 34 = 10 := rfl
theorem hk_34 : ai_kind 34 = 1 := rfl
theorem hn_34 : ai_n 34 = 2 := rfl
theorem ht_34 : ai_ret 34 = none := rfl
theorem hc_35 : ai_code 35 = cX0_isAuthor := rfl
theorem hv_35 : ai_view 35 = 0 := rfl
theorem hk_35 : ai_kind 35 = 1 := rfl
theorem hn_35 : ai_n 35 = 1 := rfl
theorem ht_35 : ai_ret 35 = some .boolean := rfl
theorem hc_36 : ai_code 36 = cX0_isBySworn := rfl
theorem hv_36 : ai_view 36 = 0 := rfl
theorem hk_36 : ai_kind 36 = 1 := rfl
theorem hn_36 : ai_n 36 = 1 := rfl
theorem ht_36 : ai_ret 36 = some .boolean := rfl
theorem hc_37 : ai_code 37 = cX10_addWriter := rfl
theorem hv_37 : ai_view 37 = 10 := rfl
theorem hk_37 : ai_kind 37 = 1 := rfl
theorem hn_37 : ai_n 37 = 1 := rfl
theorem ht_37 : ai_ret 37 = none := rfl
theorem hc_38 : ai_code 38 = cX9_addCode := rfl
theorem hv_38 : ai_view 38 = 9 := rfl
theorem hk_38 : ai_kind 38 = 1 := rfl
theorem hn_38 : ai_n 38 = 1 := rfl
theorem ht_38 : ai_ret 38 = some .boolean := rfl
theorem hc_39 : ai_code 39 = cX10_append := rfl
theorem hv_39 : ai_view 39 = 10 := rfl
theorem hk_39 : ai_kind 39 = 1 := rfl
theorem hn_39 : ai_n 39 = 1 := rfl
theorem ht_39 : ai_ret 39 = some .int := rfl
theorem hc_40 : ai_code 40 = cX7_setCommand := rfl
theorem hv_40 : ai_view 40 = 7 := rfl
theorem hk_40 : ai_kind 40 = 1 := rfl
theorem hn_40 : ai_n 40 = 1 := rfl
theorem ht_40 : ai_ret 40 = none := rfl
theorem hc_41 : ai_code 41 = cX3_isInRing := rfl
theorem hv_41 : ai_view 41 = 3 := rfl
theorem hk_41 : ai_kind 41 = 1 := rfl
theorem hn_41 : ai_n 41 = 1 := rfl
theorem ht_41 : ai_ret 41 = some .boolean := rfl
theorem hc_42 : ai_code 42 = cJ9_min_7cf53 := rfl
theorem hv_42 : ai_view 42 = 13 := rfl
theorem hk_42 : ai_kind 42 = 0 := rfl
theorem hn_42 : ai_n 42 = 2 := rfl
theorem ht_42 : ai_ret 42 = some .int := rfl
theorem hc_43 : ai_code 43 = cX8_copyFrom := rfl
theorem hv_43 : ai_view 43 = 8 := rfl
theorem hk_43 : ai_kind 43 = 1 := rfl
theorem hn_43 : ai_n 43 = 1 := rfl
theorem ht_43 : ai_ret 43 = none := rfl
theorem hc_44 : ai_code 44 = cX0_copyFrom := rfl
theorem hv_44 : ai_view 44 = 0 := rfl
theorem hk_44 : ai_kind 44 = 1 := rfl
theorem hn_44 : ai_n 44 = 1 := rfl
theorem ht_44 : ai_ret 44 = none := rfl
theorem hc_45 : ai_code 45 = cX3_keep := rfl
theorem hv_45 : ai_view 45 = 3 := rfl
theorem hk_45 : ai_kind 45 = 1 := rfl
theorem hn_45 : ai_n 45 = 1 := rfl
theorem ht_45 : ai_ret 45 = none := rfl
theorem hc_46 : ai_code 46 = cX10_begin := rfl
theorem hv_46 : ai_view 46 = 10 := rfl
theorem hk_46 : ai_kind 46 = 1 := rfl
theorem hn_46 : ai_n 46 = 0 := rfl
theorem ht_46 : ai_ret 46 = none := rfl
theorem hc_47 : ai_code 47 = cX7_refuse := rfl
theorem hv_47 : ai_view 47 = 7 := rfl
theorem hk_47 : ai_kind 47 = 1 := rfl
theorem hn_47 : ai_n 47 = 2 := rfl
theorem ht_47 : ai_ret 47 = some .int := rfl
theorem hc_48 : ai_code 48 = cX1_addAuthor := rfl
theorem hv_48 : ai_view 48 = 1 := rfl
theorem hk_48 : ai_kind 48 = 1 := rfl
theorem hn_48 : ai_n 48 = 0 := rfl
theorem ht_48 : ai_ret 48 = some .int := rfl
theorem hc_49 : ai_code 49 = cX10_isError := rfl
theorem hv_49 : ai_view 49 = 10 := rfl
theorem hk_49 : ai_kind 49 = 0 := rfl
theorem hn_49 : ai_n 49 = 1 := rfl
theorem ht_49 : ai_ret 49 = some .boolean := rfl
theorem hc_50 : ai_code 50 = cX3_confirm := rfl
theorem hv_50 : ai_view 50 = 3 := rfl
theorem hk_50 : ai_kind 50 = 1 := rfl
theorem hn_50 : ai_n 50 = 0 := rfl
theorem ht_50 : ai_ret 50 = none := rfl
theorem hc_51 : ai_code 51 = cX10_finish := rfl
theorem hv_51 : ai_view 51 = 10 := rfl
theorem hk_51 : ai_kind 51 = 1 := rfl
theorem hn_51 : ai_n 51 = 1 := rfl
theorem ht_51 : ai_ret 51 = some .int := rfl
theorem hc_52 : ai_code 52 = cX10_author := rfl
theorem hv_52 : ai_view 52 = 10 := rfl
theorem hk_52 : ai_kind 52 = 1 := rfl
theorem hn_52 : ai_n 52 = 0 := rfl
theorem ht_52 : ai_ret 52 = some .int := rfl
theorem hc_53 : ai_code 53 = cX0_deathChapter := rfl
theorem hv_53 : ai_view 53 = 0 := rfl
theorem hk_53 : ai_kind 53 = 1 := rfl
theorem hn_53 : ai_n 53 = 2 := rfl
theorem ht_53 : ai_ret 53 = some .int := rfl
theorem hc_54 : ai_code 54 = cX2_isDeathBy := rfl
theorem hv_54 : ai_view 54 = 2 := rfl
theorem hk_54 : ai_kind 54 = 1 := rfl
theorem hn_54 : ai_n 54 = 3 := rfl
theorem ht_54 : ai_ret 54 = some .boolean := rfl
theorem hc_55 : ai_code 55 = cX2_deathsBy := rfl
theorem hv_55 : ai_view 55 = 2 := rfl
theorem hk_55 : ai_kind 55 = 1 := rfl
theorem hn_55 : ai_n 55 = 1 := rfl
theorem ht_55 : ai_ret 55 = some .int := rfl
theorem hc_56 : ai_code 56 = cX2_solvedDeathsBy := rfl
theorem hv_56 : ai_view 56 = 2 := rfl
theorem hk_56 : ai_kind 56 = 1 := rfl
theorem hn_56 : ai_n 56 = 1 := rfl
theorem ht_56 : ai_ret 56 = some .int := rfl
theorem hc_57 : ai_code 57 = cX10_authorOf := rfl
theorem hv_57 : ai_view 57 = 10 := rfl
theorem hk_57 : ai_kind 57 = 1 := rfl
theorem hn_57 : ai_n 57 = 2 := rfl
theorem ht_57 : ai_ret 57 = some .int := rfl
theorem hc_58 : ai_code 58 = cX10_bitsOfShare := rfl
theorem hv_58 : ai_view 58 = 10 := rfl
theorem hk_58 : ai_kind 58 = 0 := rfl
theorem hn_58 : ai_n 58 = 1 := rfl
theorem ht_58 : ai_ret 58 = some .int := rfl
theorem hc_59 : ai_code 59 = cX9_argument := rfl
theorem hv_59 : ai_view 59 = 9 := rfl
theorem hk_59 : ai_kind 59 = 1 := rfl
theorem hn_59 : ai_n 59 = 2 := rfl
theorem ht_59 : ai_ret 59 = some .int := rfl
theorem hc_60 : ai_code 60 = cX9_kind := rfl
theorem hv_60 : ai_view 60 = 9 := rfl
theorem hk_60 : ai_kind 60 = 1 := rfl
theorem hn_60 : ai_n 60 = 1 := rfl
theorem ht_60 : ai_ret 60 = some .int := rfl
theorem hc_61 : ai_code 61 = cX1_addCharacter := rfl
theorem hv_61 : ai_view 61 = 1 := rfl
theorem hk_61 : ai_kind 61 = 1 := rfl
theorem hn_61 : ai_n 61 = 0 := rfl
theorem ht_61 : ai_ret 61 = some .int := rfl
theorem hc_62 : ai_code 62 = cX0_isCharacter := rfl
theorem hv_62 : ai_view 62 = 0 := rfl
theorem hk_62 : ai_kind 62 = 1 := rfl
theorem hn_62 : ai_n 62 = 1 := rfl
theorem ht_62 : ai_ret 62 = some .boolean := rfl
theorem hc_63 : ai_code 63 = cX0_isChapter := rfl
theorem hv_63 : ai_view 63 = 0 := rfl
theorem hk_63 : ai_kind 63 = 0 := rfl
theorem hn_63 : ai_n 63 = 1 := rfl
theorem ht_63 : ai_ret 63 = some .boolean := rfl
theorem hc_64 : ai_code 64 = cX0_isDeadAtLast := rfl
theorem hv_64 : ai_view 64 = 0 := rfl
theorem hk_64 : ai_kind 64 = 1 := rfl
theorem hn_64 : ai_n 64 = 1 := rfl
theorem ht_64 : ai_ret 64 = some .boolean := rfl
theorem hc_65 : ai_code 65 = cX0_lastChapter := rfl
theorem hv_65 : ai_view 65 = 0 := rfl
theorem hk_65 : ai_kind 65 = 1 := rfl
theorem hn_65 : ai_n 65 = 1 := rfl
theorem ht_65 : ai_ret 65 = some .int := rfl
theorem hc_66 : ai_code 66 = cX1_canTurn := rfl
theorem hv_66 : ai_view 66 = 1 := rfl
theorem hk_66 : ai_kind 66 = 1 := rfl
theorem hn_66 : ai_n 66 = 2 := rfl
theorem ht_66 : ai_ret 66 = some .boolean := rfl
theorem hc_67 : ai_code 67 = cX0_addTurn := rfl
theorem hv_67 : ai_view 67 = 0 := rfl
theorem hk_67 : ai_kind 67 = 1 := rfl
theorem hn_67 : ai_n 67 = 2 := rfl
theorem ht_67 : ai_ret 67 = none := rfl
theorem hc_68 : ai_code 68 = cX1_letDie := rfl
theorem hv_68 : ai_view 68 = 1 := rfl
theorem hk_68 : ai_kind 68 = 1 := rfl
theorem hn_68 : ai_n 68 = 2 := rfl
theorem ht_68 : ai_ret 68 = some .int := rfl
theorem hc_69 : ai_code 69 = cX1_letRise := rfl
theorem hv_69 : ai_view 69 = 1 := rfl
theorem hk_69 : ai_kind 69 = 1 := rfl
theorem hn_69 : ai_n 69 = 2 := rfl
theorem ht_69 : ai_ret 69 = some .int := rfl
theorem hc_70 : ai_code 70 = cX0_setCulprit := rfl
theorem hv_70 : ai_view 70 = 0 := rfl
theorem hk_70 : ai_kind 70 = 1 := rfl
theorem hn_70 : ai_n 70 = 3 := rfl
theorem ht_70 : ai_ret 70 = none := rfl
theorem hc_71 : ai_code 71 = cX0_removeLastTurn := rfl
theorem hv_71 : ai_view 71 = 0 := rfl
theorem hk_71 : ai_kind 71 = 1 := rfl
theorem hn_71 : ai_n 71 = 1 := rfl
theorem ht_71 : ai_ret 71 = none := rfl
theorem hc_72 : ai_code 72 = cX1_strikeOut := rfl
theorem hv_72 : ai_view 72 = 1 := rfl
theorem hk_72 : ai_kind 72 = 1 := rfl
theorem hn_72 : ai_n 72 = 1 := rfl
theorem ht_72 : ai_ret 72 = some .int := rfl
theorem hc_73 : ai_code 73 = cX1_setWriter := rfl
theorem hv_73 : ai_view 73 = 1 := rfl
theorem hk_73 : ai_kind 73 = 1 := rfl
theorem hn_73 : ai_n 73 = 2 := rfl
theorem ht_73 : ai_ret 73 = some .int := rfl
theorem hc_74 : ai_code 74 = cX10_isYesOrNo := rfl
theorem hv_74 : ai_view 74 = 10 := rfl
theorem hk_74 : ai_kind 74 = 0 := rfl
theorem hn_74 : ai_n 74 = 1 := rfl
theorem ht_74 : ai_ret 74 = some .boolean := rfl
theorem hc_75 : ai_code 75 = cX1_setSworn := rfl
theorem hv_75 : ai_view 75 = 1 := rfl
theorem hk_75 : ai_kind 75 = 1 := rfl
theorem hn_75 : ai_n 75 = 2 := rfl
theorem ht_75 : ai_ret 75 = some .int := rfl
theorem hc_76 : ai_code 76 = cX0_motivePages := rfl
theorem hv_76 : ai_view 76 = 0 := rfl
theorem hk_76 : ai_kind 76 = 1 := rfl
theorem hn_76 : ai_n 76 = 2 := rfl
theorem ht_76 : ai_ret 76 = some .int := rfl
theorem hc_77 : ai_code 77 = cX1_setMotive := rfl
theorem hv_77 : ai_view 77 = 1 := rfl
theorem hk_77 : ai_kind 77 = 1 := rfl
theorem hn_77 : ai_n 77 = 3 := rfl
theorem ht_77 : ai_ret 77 = some .int := rfl
theorem hc_78 : ai_code 78 = cX5_isSeat := rfl
theorem hv_78 : ai_view 78 = 5 := rfl
theorem hk_78 : ai_kind 78 = 0 := rfl
theorem hn_78 : ai_n 78 = 1 := rfl
theorem ht_78 : ai_ret 78 = some .boolean := rfl
theorem hc_79 : ai_code 79 = cX1_letGo := rfl
theorem hv_79 : ai_view 79 = 1 := rfl
theorem hk_79 : ai_kind 79 = 1 := rfl
theorem hn_79 : ai_n 79 = 1 := rfl
theorem ht_79 : ai_ret 79 = some .int := rfl
theorem hc_80 : ai_code 80 = cX5_isSeverity := rfl
theorem hv_80 : ai_view 80 = 5 := rfl
theorem hk_80 : ai_kind 80 = 0 := rfl
theorem hn_80 : ai_n 80 = 1 := rfl
theorem ht_80 : ai_ret 80 = some .boolean := rfl
theorem hc_81 : ai_code 81 = cX1_seatReader := rfl
theorem hv_81 : ai_view 81 = 1 := rfl
theorem hk_81 : ai_kind 81 = 1 := rfl
theorem hn_81 : ai_n 81 = 2 := rfl
theorem ht_81 : ai_ret 81 = some .int := rfl
theorem hc_82 : ai_code 82 = cX0_isDeath := rfl
theorem hv_82 : ai_view 82 = 0 := rfl
theorem hk_82 : ai_kind 82 = 1 := rfl
theorem hn_82 : ai_n 82 = 2 := rfl
theorem ht_82 : ai_ret 82 = some .boolean := rfl
theorem hc_83 : ai_code 83 = cX0_isCase := rfl
theorem hv_83 : ai_view 83 = 0 := rfl
theorem hk_83 : ai_kind 83 = 1 := rfl
theorem hn_83 : ai_n 83 = 3 := rfl
theorem ht_83 : ai_ret 83 = some .boolean := rfl
theorem hc_84 : ai_code 84 = cX4_isDeadIn := rfl
theorem hv_84 : ai_view 84 = 4 := rfl
theorem hk_84 : ai_kind 84 = 1 := rfl
theorem hn_84 : ai_n 84 = 2 := rfl
theorem ht_84 : ai_ret 84 = some .boolean := rfl
theorem hc_85 : ai_code 85 = cX4_couldCause := rfl
theorem hv_85 : ai_view 85 = 4 := rfl
theorem hk_85 : ai_kind 85 = 1 := rfl
theorem hn_85 : ai_n 85 = 3 := rfl
theorem ht_85 : ai_ret 85 = some .boolean := rfl
theorem hc_86 : ai_code 86 = cX4_weight := rfl
theorem hv_86 : ai_view 86 = 4 := rfl
theorem hk_86 : ai_kind 86 = 1 := rfl
theorem hn_86 : ai_n 86 = 3 := rfl
theorem ht_86 : ai_ret 86 = some .int := rfl
theorem hc_87 : ai_code 87 = cX5_voteOn := rfl
theorem hv_87 : ai_view 87 = 5 := rfl
theorem hk_87 : ai_kind 87 = 1 := rfl
theorem hn_87 : ai_n 87 = 2 := rfl
theorem ht_87 : ai_ret 87 = some .int := rfl
theorem hc_88 : ai_code 88 = cX5_votes := rfl
theorem hv_88 : ai_view 88 = 5 := rfl
theorem hk_88 : ai_kind 88 = 1 := rfl
theorem hn_88 : ai_n 88 = 1 := rfl
theorem ht_88 : ai_ret 88 = some .int := rfl
theorem hc_89 : ai_code 89 = cX5_findsGuilty := rfl
theorem hv_89 : ai_view 89 = 5 := rfl
theorem hk_89 : ai_kind 89 = 1 := rfl
theorem hn_89 : ai_n 89 = 1 := rfl
theorem ht_89 : ai_ret 89 = some .boolean := rfl
theorem hc_90 : ai_code 90 = cX1_holdTrial := rfl
theorem hv_90 : ai_view 90 = 1 := rfl
theorem hk_90 : ai_kind 90 = 1 := rfl
theorem hn_90 : ai_n 90 = 3 := rfl
theorem ht_90 : ai_ret 90 = some .int := rfl
theorem hc_91 : ai_code 91 = cX10_carryOut := rfl
theorem hv_91 : ai_view 91 = 10 := rfl
theorem hk_91 : ai_kind 91 = 1 := rfl
theorem hn_91 : ai_n 91 = 1 := rfl
theorem ht_91 : ai_ret 91 = some .int := rfl
theorem hc_92 : ai_code 92 = cX10_character := rfl
theorem hv_92 : ai_view 92 = 10 := rfl
theorem hk_92 : ai_kind 92 = 1 := rfl
theorem hn_92 : ai_n 92 = 0 := rfl
theorem ht_92 : ai_ret 92 = some .int := rfl
theorem hc_93 : ai_code 93 = cX0_nextRising := rfl
theorem hv_93 : ai_view 93 = 0 := rfl
theorem hk_93 : ai_kind 93 = 1 := rfl
theorem hn_93 : ai_n 93 = 2 := rfl
theorem ht_93 : ai_ret 93 = some .int := rfl
theorem hc_94 : ai_code 94 = cX2_chaptersLived := rfl
theorem hv_94 : ai_view 94 = 2 := rfl
theorem hk_94 : ai_kind 94 = 1 := rfl
theorem hn_94 : ai_n 94 = 1 := rfl
theorem ht_94 : ai_ret 94 = some .int := rfl
theorem hc_95 : ai_code 95 = cX2_deathsCausedBy := rfl
theorem hv_95 : ai_view 95 = 2 := rfl
theorem hk_95 : ai_kind 95 = 1 := rfl
theorem hn_95 : ai_n 95 = 1 := rfl
theorem ht_95 : ai_ret 95 = some .int := rfl
theorem hc_96 : ai_code 96 = cX2_pagesHeldBy := rfl
theorem hv_96 : ai_view 96 = 2 := rfl
theorem hk_96 : ai_kind 96 = 1 := rfl
theorem hn_96 : ai_n 96 = 1 := rfl
theorem ht_96 : ai_ret 96 = some .int := rfl
theorem hc_97 : ai_code 97 = cX2_pagesAgainst := rfl
theorem hv_97 : ai_view 97 = 2 := rfl
theorem hk_97 : ai_kind 97 = 1 := rfl
theorem hn_97 : ai_n 97 = 1 := rfl
theorem ht_97 : ai_ret 97 = some .int := rfl
theorem hc_98 : ai_code 98 = cX10_characterOf := rfl
theorem hv_98 : ai_view 98 = 10 := rfl
theorem hk_98 : ai_kind 98 = 1 := rfl
theorem hn_98 : ai_n 98 = 2 := rfl
theorem ht_98 : ai_ret 98 = some .int := rfl
theorem hc_99 : ai_code 99 = cX4_deadByLatest := rfl
theorem hv_99 : ai_view 99 = 4 := rfl
theorem hk_99 : ai_kind 99 = 1 := rfl
theorem hn_99 : ai_n 99 = 1 := rfl
theorem ht_99 : ai_ret 99 = some .int := rfl
theorem hc_100 : ai_code 100 = cJ6_bitCount_0f7a4 := rfl
theorem hv_100 : ai_view 100 = 12 := rfl
theorem hk_100 : ai_kind 100 = 0 := rfl
theorem hn_100 : ai_n 100 = 1 := rfl
theorem ht_100 : ai_ret 100 = some .int := rfl
theorem hc_101 : ai_code 101 = cX4_darkestChapter := rfl
theorem hv_101 : ai_view 101 = 4 := rfl
theorem hk_101 : ai_kind 101 = 1 := rfl
theorem hn_101 : ai_n 101 = 0 := rfl
theorem ht_101 : ai_ret 101 = some .int := rfl
theorem hc_102 : ai_code 102 = cX10_darkest := rfl
theorem hv_102 : ai_view 102 = 10 := rfl
theorem hk_102 : ai_kind 102 = 1 := rfl
theorem hn_102 : ai_n 102 = 1 := rfl
theorem ht_102 : ai_ret 102 = some .int := rfl
theorem hc_103 : ai_code 103 = cX10_dead := rfl
theorem hv_103 : ai_view 103 = 10 := rfl
theorem hk_103 : ai_kind 103 = 1 := rfl
theorem hn_103 : ai_n 103 = 1 := rfl
theorem ht_103 : ai_ret 103 = some .int := rfl
theorem hc_104 : ai_code 104 = cX4_afterChapter := rfl
theorem hv_104 : ai_view 104 = 4 := rfl
theorem hk_104 : ai_kind 104 = 1 := rfl
theorem hn_104 : ai_n 104 = 2 := rfl
theorem ht_104 : ai_ret 104 = some .int := rfl
theorem hc_105 : ai_code 105 = cX4_deadByChapters := rfl
theorem hv_105 : ai_view 105 = 4 := rfl
theorem hk_105 : ai_kind 105 = 1 := rfl
theorem hn_105 : ai_n 105 = 1 := rfl
theorem ht_105 : ai_ret 105 = some .int := rfl
theorem hc_106 : ai_code 106 = cX10_deadAgain := rfl
theorem hv_106 : ai_view 106 = 10 := rfl
theorem hk_106 : ai_kind 106 = 1 := rfl
theorem hn_106 : ai_n 106 = 1 := rfl
theorem ht_106 : ai_ret 106 = some .int := rfl
theorem hc_107 : ai_code 107 = cX4_possibleCulprits := rfl
theorem hv_107 : ai_view 107 = 4 := rfl
theorem hk_107 : ai_kind 107 = 1 := rfl
theorem hn_107 : ai_n 107 = 2 := rfl
theorem ht_107 : ai_ret 107 = some .int := rfl
theorem hc_108 : ai_code 108 = cX10_deathOf := rfl
theorem hv_108 : ai_view 108 = 10 := rfl
theorem hk_108 : ai_kind 108 = 1 := rfl
theorem hn_108 : ai_n 108 = 3 := rfl
theorem ht_108 : ai_ret 108 = some .int := rfl
theorem hc_109 : ai_code 109 = cX10_die := rfl
theorem hv_109 : ai_view 109 = 10 := rfl
theorem hk_109 : ai_kind 109 = 1 := rfl
theorem hn_109 : ai_n 109 = 2 := rfl
theorem ht_109 : ai_ret 109 = some .int := rfl
theorem hc_110 : ai_code 110 = cX10_guilty := rfl
theorem hv_110 : ai_view 110 = 10 := rfl
theorem hk_110 : ai_kind 110 = 1 := rfl
theorem hn_110 : ai_n 110 = 3 := rfl
theorem ht_110 : ai_ret 110 = some .int := rfl
theorem hc_111 : ai_code 111 = cX4_deadAgree := rfl
theorem hv_111 : ai_view 111 = 4 := rfl
theorem hk_111 : ai_kind 111 = 1 := rfl
theorem hn_111 : ai_n 111 = 0 := rfl
theorem ht_111 : ai_ret 111 = some .boolean := rfl
theorem hc_112 : ai_code 112 = cX4_suspectByCharacters := rfl
theorem hv_112 : ai_view 112 = 4 := rfl
theorem hk_112 : ai_kind 112 = 1 := rfl
theorem hn_112 : ai_n 112 = 2 := rfl
theorem ht_112 : ai_ret 112 = some .int := rfl
theorem hc_113 : ai_code 113 = cX4_suspectByPages := rfl
theorem hv_113 : ai_view 113 = 4 := rfl
theorem hk_113 : ai_kind 113 = 1 := rfl
theorem hn_113 : ai_n 113 = 2 := rfl
theorem ht_113 : ai_ret 113 = some .int := rfl
theorem hc_114 : ai_code 114 = cX4_suspectsAgree := rfl
theorem hv_114 : ai_view 114 = 4 := rfl
theorem hk_114 : ai_kind 114 = 1 := rfl
theorem hn_114 : ai_n 114 = 0 := rfl
theorem ht_114 : ai_ret 114 = some .boolean := rfl
theorem hc_115 : ai_code 115 = cX4_turnsAreInOrder := rfl
theorem hv_115 : ai_view 115 = 4 := rfl
theorem hk_115 : ai_kind 115 = 1 := rfl
theorem hn_115 : ai_n 115 = 0 := rfl
theorem ht_115 : ai_ret 115 = some .boolean := rfl
theorem hc_116 : ai_code 116 = cX10_isWell := rfl
theorem hv_116 : ai_view 116 = 10 := rfl
theorem hk_116 : ai_kind 116 = 1 := rfl
theorem hn_116 : ai_n 116 = 0 := rfl
theorem ht_116 : ai_ret 116 = some .int := rfl
theorem hc_117 : ai_code 117 = cX10_leave := rfl
theorem hv_117 : ai_view 117 = 10 := rfl
theorem hk_117 : ai_kind 117 = 1 := rfl
theorem hn_117 : ai_n 117 = 1 := rfl
theorem ht_117 : ai_ret 117 = some .int := rfl
theorem hc_118 : ai_code 118 = cX10_motive := rfl
theorem hv_118 : ai_view 118 = 10 := rfl
theorem hk_118 : ai_kind 118 = 1 := rfl
theorem hn_118 : ai_n 118 = 3 := rfl
theorem ht_118 : ai_ret 118 = some .int := rfl
theorem hc_119 : ai_code 119 = cX10_pages := rfl
theorem hv_119 : ai_view 119 = 10 := rfl
theorem hk_119 : ai_kind 119 = 1 := rfl
theorem hn_119 : ai_n 119 = 2 := rfl
theorem ht_119 : ai_ret 119 = some .int := rfl
theorem hc_120 : ai_code 120 = cX2_key := rfl
theorem hv_120 : ai_view 120 = 2 := rfl
theorem hk_120 : ai_kind 120 = 1 := rfl
theorem hn_120 : ai_n 120 = 2 := rfl
theorem ht_120 : ai_ret 120 = some .int := rfl
theorem hc_121 : ai_code 121 = cX2_aheadOf := rfl
theorem hv_121 : ai_view 121 = 2 := rfl
theorem hk_121 : ai_kind 121 = 1 := rfl
theorem hn_121 : ai_n 121 = 2 := rfl
theorem ht_121 : ai_ret 121 = some .int := rfl
theorem hc_122 : ai_code 122 = cX2_atPlace := rfl
theorem hv_122 : ai_view 122 = 2 := rfl
theorem hk_122 : ai_kind 122 = 1 := rfl
theorem hn_122 : ai_n 122 = 2 := rfl
theorem ht_122 : ai_ret 122 = some .int := rfl
theorem hc_123 : ai_code 123 = cX10_ranked := rfl
theorem hv_123 : ai_view 123 = 10 := rfl
theorem hk_123 : ai_kind 123 = 1 := rfl
theorem hn_123 : ai_n 123 = 2 := rfl
theorem ht_123 : ai_ret 123 = some .int := rfl
theorem hc_124 : ai_code 124 = cX9_ahead := rfl
theorem hv_124 : ai_view 124 = 9 := rfl
theorem hk_124 : ai_kind 124 = 1 := rfl
theorem hn_124 : ai_n 124 = 0 := rfl
theorem ht_124 : ai_ret 124 = some .int := rfl
theorem hc_125 : ai_code 125 = cX9_take := rfl
theorem hv_125 : ai_view 125 = 9 := rfl
theorem hk_125 : ai_kind 125 = 1 := rfl
theorem hn_125 : ai_n 125 = 1 := rfl
theorem ht_125 : ai_ret 125 = some .boolean := rfl
theorem hc_126 : ai_code 126 = cX9_isDigit := rfl
theorem hv_126 : ai_view 126 = 9 := rfl
theorem hk_126 : ai_kind 126 = 0 := rfl
theorem hn_126 : ai_n 126 = 1 := rfl
theorem ht_126 : ai_ret 126 = some .boolean := rfl
theorem hc_127 : ai_code 127 = cX9_give := rfl
theorem hv_127 : ai_view 127 = 9 := rfl
theorem hk_127 : ai_kind 127 = 1 := rfl
theorem hn_127 : ai_n 127 = 1 := rfl
theorem ht_127 : ai_ret 127 = none := rfl
theorem hc_128 : ai_code 128 = cX9_takeDigit := rfl
theorem hv_128 : ai_view 128 = 9 := rfl
theorem hk_128 : ai_kind 128 = 1 := rfl
theorem hn_128 : ai_n 128 = 0 := rfl
theorem ht_128 : ai_ret 128 = some .boolean := rfl
theorem hc_129 : ai_code 129 = cX9_takeNumber := rfl
theorem hv_129 : ai_view 129 = 9 := rfl
theorem hk_129 : ai_kind 129 = 1 := rfl
theorem hn_129 : ai_n 129 = 0 := rfl
theorem ht_129 : ai_ret 129 = some .boolean := rfl
theorem hc_130 : ai_code 130 = cX9_takePlusOrMinus := rfl
theorem hv_130 : ai_view 130 = 9 := rfl
theorem hk_130 : ai_kind 130 = 1 := rfl
theorem hn_130 : ai_n 130 = 0 := rfl
theorem ht_130 : ai_ret 130 = some .boolean := rfl
theorem hc_131 : ai_code 131 = cX9_takeSeverityOrMinus := rfl
theorem hv_131 : ai_view 131 = 9 := rfl
theorem hk_131 : ai_kind 131 = 1 := rfl
theorem hn_131 : ai_n 131 = 0 := rfl
theorem ht_131 : ai_ret 131 = some .boolean := rfl
theorem hc_132 : ai_code 132 = cX9_takeCommand := rfl
theorem hv_132 : ai_view 132 = 9 := rfl
theorem hk_132 : ai_kind 132 = 1 := rfl
theorem hn_132 : ai_n 132 = 0 := rfl
theorem ht_132 : ai_ret 132 = some .boolean := rfl
theorem hc_133 : ai_code 133 = cX9_parse := rfl
theorem hv_133 : ai_view 133 = 9 := rfl
theorem hk_133 : ai_kind 133 = 1 := rfl
theorem hn_133 : ai_n 133 = 0 := rfl
theorem ht_133 : ai_ret 133 = some .int := rfl
theorem hc_134 : ai_code 134 = cX9_clear := rfl
theorem hv_134 : ai_view 134 = 9 := rfl
theorem hk_134 : ai_kind 134 = 1 := rfl
theorem hn_134 : ai_n 134 = 0 := rfl
theorem ht_134 : ai_ret 134 = none := rfl
theorem hc_135 : ai_code 135 = cX9_commands := rfl
theorem hv_135 : ai_view 135 = 9 := rfl
theorem hk_135 : ai_kind 135 = 1 := rfl
theorem hn_135 : ai_n 135 = 0 := rfl
theorem ht_135 : ai_ret 135 = some .int := rfl
theorem hc_136 : ai_code 136 = cX3_takeBack := rfl
theorem hv_136 : ai_view 136 = 3 := rfl
theorem hk_136 : ai_kind 136 = 1 := rfl
theorem hn_136 : ai_n 136 = 1 := rfl
theorem ht_136 : ai_ret 136 = none := rfl
theorem hc_137 : ai_code 137 = cX10_read := rfl
theorem hv_137 : ai_view 137 = 10 := rfl
theorem hk_137 : ai_kind 137 = 1 := rfl
theorem hn_137 : ai_n 137 = 0 := rfl
theorem ht_137 : ai_ret 137 = some .int := rfl
theorem hc_138 : ai_code 138 = cX7_tell := rfl
theorem hv_138 : ai_view 138 = 7 := rfl
theorem hk_138 : ai_kind 138 = 1 := rfl
theorem hn_138 : ai_n 138 = 1 := rfl
theorem ht_138 : ai_ret 138 = some .int := rfl
theorem hc_139 : ai_code 139 = cX10_refusal := rfl
theorem hv_139 : ai_view 139 = 10 := rfl
theorem hk_139 : ai_kind 139 = 1 := rfl
theorem hn_139 : ai_n 139 = 1 := rfl
theorem ht_139 : ai_ret 139 = some .int := rfl
theorem hc_140 : ai_code 140 = cX3_restoreSnapshot := rfl
theorem hv_140 : ai_view 140 = 3 := rfl
theorem hk_140 : ai_kind 140 = 1 := rfl
theorem hn_140 : ai_n 140 = 1 := rfl
theorem ht_140 : ai_ret 140 = some .boolean := rfl
theorem hc_141 : ai_code 141 = cX10_restore := rfl
theorem hv_141 : ai_view 141 = 10 := rfl
theorem hk_141 : ai_kind 141 = 1 := rfl
theorem hn_141 : ai_n 141 = 0 := rfl
theorem ht_141 : ai_ret 141 = some .int := rfl
theorem hc_142 : ai_code 142 = cX10_rise := rfl
theorem hv_142 : ai_view 142 = 10 := rfl
theorem hk_142 : ai_kind 142 = 1 := rfl
theorem hn_142 : ai_n 142 = 2 := rfl
theorem ht_142 : ai_ret 142 = some .int := rfl
theorem hc_143 : ai_code 143 = cX3_saveSnapshot := rfl
theorem hv_143 : ai_view 143 = 3 := rfl
theorem hk_143 : ai_kind 143 = 1 := rfl
theorem hn_143 : ai_n 143 = 1 := rfl
theorem ht_143 : ai_ret 143 = none := rfl
theorem hc_144 : ai_code 144 = cX10_save := rfl
theorem hv_144 : ai_view 144 = 10 := rfl
theorem hk_144 : ai_kind 144 = 1 := rfl
theorem hn_144 : ai_n 144 = 0 := rfl
theorem ht_144 : ai_ret 144 = some .int := rfl
theorem hc_145 : ai_code 145 = cX10_seat := rfl
theorem hv_145 : ai_view 145 = 10 := rfl
theorem hk_145 : ai_kind 145 = 1 := rfl
theorem hn_145 : ai_n 145 = 2 := rfl
theorem ht_145 : ai_ret 145 = some .int := rfl
theorem hc_146 : ai_code 146 = cX10_share := rfl
theorem hv_146 : ai_view 146 = 10 := rfl
theorem hk_146 : ai_kind 146 = 1 := rfl
theorem hn_146 : ai_n 146 = 0 := rfl
theorem ht_146 : ai_ret 146 = some .int := rfl
theorem hc_147 : ai_code 147 = cX6_codeAt := rfl
theorem hv_147 : ai_view 147 = 6 := rfl
theorem hk_147 : ai_kind 147 = 1 := rfl
theorem hn_147 : ai_n 147 = 1 := rfl
theorem ht_147 : ai_ret 147 = some .int := rfl
theorem hc_148 : ai_code 148 = cX10_sign := rfl
theorem hv_148 : ai_view 148 = 10 := rfl
theorem hk_148 : ai_kind 148 = 1 := rfl
theorem hn_148 : ai_n 148 = 1 := rfl
theorem ht_148 : ai_ret 148 = some .int := rfl
theorem hc_149 : ai_code 149 = cX10_strike := rfl
theorem hv_149 : ai_view 149 = 10 := rfl
theorem hk_149 : ai_kind 149 = 1 := rfl
theorem hn_149 : ai_n 149 = 1 := rfl
theorem ht_149 : ai_ret 149 = some .int := rfl
theorem hc_150 : ai_code 150 = cX10_suspect := rfl
theorem hv_150 : ai_view 150 = 10 := rfl
theorem hk_150 : ai_kind 150 = 1 := rfl
theorem hn_150 : ai_n 150 = 2 := rfl
theorem ht_150 : ai_ret 150 = some .int := rfl
theorem hc_151 : ai_code 151 = cX10_suspectAgain := rfl
theorem hv_151 : ai_view 151 = 10 := rfl
theorem hk_151 : ai_kind 151 = 1 := rfl
theorem hn_151 : ai_n 151 = 2 := rfl
theorem ht_151 : ai_ret 151 = some .int := rfl
theorem hc_152 : ai_code 152 = cX10_swear := rfl
theorem hv_152 : ai_view 152 = 10 := rfl
theorem hk_152 : ai_kind 152 = 1 := rfl
theorem hn_152 : ai_n 152 = 2 := rfl
theorem ht_152 : ai_ret 152 = some .int := rfl
theorem hc_153 : ai_code 153 = cX6_clear := rfl
theorem hv_153 : ai_view 153 = 6 := rfl
theorem hk_153 : ai_kind 153 = 1 := rfl
theorem hn_153 : ai_n 153 = 0 := rfl
theorem ht_153 : ai_ret 153 = none := rfl
theorem hc_154 : ai_code 154 = cX6_size := rfl
theorem hv_154 : ai_view 154 = 6 := rfl
theorem hk_154 : ai_kind 154 = 1 := rfl
theorem hn_154 : ai_n 154 = 0 := rfl
theorem ht_154 : ai_ret 154 = some .int := rfl
theorem hc_155 : ai_code 155 = cX10_tellChapter := rfl
theorem hv_155 : ai_view 155 = 10 := rfl
theorem hk_155 : ai_kind 155 = 1 := rfl
theorem hn_155 : ai_n 155 = 1 := rfl
theorem ht_155 : ai_ret 155 = some .int := rfl
theorem hc_156 : ai_code 156 = cX10_tellCharacter := rfl
theorem hv_156 : ai_view 156 = 10 := rfl
theorem hk_156 : ai_kind 156 = 1 := rfl
theorem hn_156 : ai_n 156 = 1 := rfl
theorem ht_156 : ai_ret 156 = some .int := rfl
theorem hc_157 : ai_code 157 = cX10_tellJury := rfl
theorem hv_157 : ai_view 157 = 10 := rfl
theorem hk_157 : ai_kind 157 = 1 := rfl
theorem hn_157 : ai_n 157 = 0 := rfl
theorem ht_157 : ai_ret 157 = some .int := rfl
theorem hc_158 : ai_code 158 = cX10_trial := rfl
theorem hv_158 : ai_view 158 = 10 := rfl
theorem hk_158 : ai_kind 158 = 1 := rfl
theorem hn_158 : ai_n 158 = 3 := rfl
theorem ht_158 : ai_ret 158 = some .int := rfl
theorem hc_159 : ai_code 159 = cX3_stepBack := rfl
theorem hv_159 : ai_view 159 = 3 := rfl
theorem hk_159 : ai_kind 159 = 1 := rfl
theorem hn_159 : ai_n 159 = 1 := rfl
theorem ht_159 : ai_ret 159 = some .boolean := rfl
theorem hc_160 : ai_code 160 = cX10_undo := rfl
theorem hv_160 : ai_view 160 = 10 := rfl
theorem hk_160 : ai_kind 160 = 1 := rfl
theorem hn_160 : ai_n 160 = 0 := rfl
theorem ht_160 : ai_ret 160 = some .int := rfl
theorem hc_161 : ai_code 161 = cX5_wouldFindGuilty := rfl
theorem hv_161 : ai_view 161 = 5 := rfl
theorem hk_161 : ai_kind 161 = 1 := rfl
theorem hn_161 : ai_n 161 = 3 := rfl
theorem ht_161 : ai_ret 161 = some .boolean := rfl
theorem hc_162 : ai_code 162 = cX10_would := rfl
theorem hv_162 : ai_view 162 = 10 := rfl
theorem hk_162 : ai_kind 162 = 1 := rfl
theorem hn_162 : ai_n 162 = 5 := rfl
theorem ht_162 : ai_ret 162 = some .int := rfl
theorem hc_163 : ai_code 163 = cX10_write := rfl
theorem hv_163 : ai_view 163 = 10 := rfl
theorem hk_163 : ai_kind 163 = 1 := rfl
theorem hn_163 : ai_n 163 = 2 := rfl
theorem ht_163 : ai_ret 163 = some .int := rfl
theorem hc_165 : ai_code 165 = cX11_of := rfl
theorem hv_165 : ai_view 165 = 11 := rfl
theorem hk_165 : ai_kind 165 = 1 := rfl
theorem hn_165 : ai_n 165 = 2 := rfl
theorem ht_165 : ai_ret 165 = some .int := rfl
theorem hc_166 : ai_code 166 = cX11_deathsOf := rfl
theorem hv_166 : ai_view 166 = 11 := rfl
theorem hk_166 : ai_kind 166 = 1 := rfl
theorem hn_166 : ai_n 166 = 1 := rfl
theorem ht_166 : ai_ret 166 = some .int := rfl
theorem hc_167 : ai_code 167 = cX11_allDeaths := rfl
theorem hv_167 : ai_view 167 = 11 := rfl
theorem hk_167 : ai_kind 167 = 1 := rfl
theorem hn_167 : ai_n 167 = 0 := rfl
theorem ht_167 : ai_ret 167 = some .int := rfl
theorem hc_168 : ai_code 168 = cX11_risingsOf := rfl
theorem hv_168 : ai_view 168 = 11 := rfl
theorem hk_168 : ai_kind 168 = 1 := rfl
theorem hn_168 : ai_n 168 = 1 := rfl
theorem ht_168 : ai_ret 168 = some .int := rfl
theorem hc_169 : ai_code 169 = cX11_allRisings := rfl
theorem hv_169 : ai_view 169 = 11 := rfl
theorem hk_169 : ai_kind 169 = 1 := rfl
theorem hn_169 : ai_n 169 = 0 := rfl
theorem ht_169 : ai_ret 169 = some .int := rfl
theorem hc_170 : ai_code 170 = cX11_culprit := rfl
theorem hv_170 : ai_view 170 = 11 := rfl
theorem hk_170 : ai_kind 170 = 1 := rfl
theorem hn_170 : ai_n 170 = 2 := rfl
theorem ht_170 : ai_ret 170 = some .int := rfl
theorem hc_171 : ai_code 171 = cX11_solvedOf := rfl
theorem hv_171 : ai_view 171 = 11 := rfl
theorem hk_171 : ai_kind 171 = 1 := rfl
theorem hn_171 : ai_n 171 = 1 := rfl
theorem ht_171 : ai_ret 171 = some .int := rfl
theorem hc_172 : ai_code 172 = cX11_allSolved := rfl
theorem hv_172 : ai_view 172 = 11 := rfl
theorem hk_172 : ai_kind 172 = 1 := rfl
theorem hn_172 : ai_n 172 = 0 := rfl
theorem ht_172 : ai_ret 172 = some .int := rfl
theorem hc_173 : ai_code 173 = cX11_sitting := rfl
theorem hv_173 : ai_view 173 = 11 := rfl
theorem hk_173 : ai_kind 173 = 1 := rfl
theorem hn_173 : ai_n 173 = 0 := rfl
theorem ht_173 : ai_ret 173 = some .int := rfl
theorem hc_174 : ai_code 174 = cX11_written := rfl
theorem hv_174 : ai_view 174 = 11 := rfl
theorem hk_174 : ai_kind 174 = 1 := rfl
theorem hn_174 : ai_n 174 = 0 := rfl
theorem ht_174 : ai_ret 174 = some .int := rfl
theorem hc_175 : ai_code 175 = cX11_swornMany := rfl
theorem hv_175 : ai_view 175 = 11 := rfl
theorem hk_175 : ai_kind 175 = 1 := rfl
theorem hn_175 : ai_n 175 = 0 := rfl
theorem ht_175 : ai_ret 175 = some .int := rfl
theorem hc_176 : ai_code 176 = cX11_account := rfl
theorem hv_176 : ai_view 176 = 11 := rfl
theorem hk_176 : ai_kind 176 = 1 := rfl
theorem hn_176 : ai_n 176 = 1 := rfl
theorem ht_176 : ai_ret 176 = some .int := rfl
theorem hc_177 : ai_code 177 = cX11_sets := rfl
theorem hv_177 : ai_view 177 = 11 := rfl
theorem hk_177 : ai_kind 177 = 1 := rfl
theorem hn_177 : ai_n 177 = 3 := rfl
theorem ht_177 : ai_ret 177 = none := rfl
theorem hc_178 : ai_code 178 = cX11_adds := rfl
theorem hv_178 : ai_view 178 = 11 := rfl
theorem hk_178 : ai_kind 178 = 1 := rfl
theorem hn_178 : ai_n 178 = 2 := rfl
theorem ht_178 : ai_ret 178 = none := rfl
theorem hc_179 : ai_code 179 = cX11_isIn := rfl
theorem hv_179 : ai_view 179 = 11 := rfl
theorem hk_179 : ai_kind 179 = 0 := rfl
theorem hn_179 : ai_n 179 = 3 := rfl
theorem ht_179 : ai_ret 179 = some .boolean := rfl
theorem hc_180 : ai_code 180 = cX11_append := rfl
theorem hv_180 : ai_view 180 = 11 := rfl
theorem hk_180 : ai_kind 180 = 1 := rfl
theorem hn_180 : ai_n 180 = 1 := rfl
theorem ht_180 : ai_ret 180 = some .int := rfl
theorem hc_181 : ai_code 181 = cX11_copies := rfl
theorem hv_181 : ai_view 181 = 11 := rfl
theorem hk_181 : ai_kind 181 = 0 := rfl
theorem hn_181 : ai_n 181 = 4 := rfl
theorem ht_181 : ai_ret 181 = none := rfl
theorem hc_182 : ai_code 182 = cX11_keeps := rfl
theorem hv_182 : ai_view 182 = 11 := rfl
theorem hk_182 : ai_kind 182 = 1 := rfl
theorem hn_182 : ai_n 182 = 0 := rfl
theorem ht_182 : ai_ret 182 = none := rfl
theorem hc_183 : ai_code 183 = cX11_isRefused := rfl
theorem hv_183 : ai_view 183 = 11 := rfl
theorem hk_183 : ai_kind 183 = 1 := rfl
theorem hn_183 : ai_n 183 = 3 := rfl
theorem ht_183 : ai_ret 183 = some .boolean := rfl
theorem hc_184 : ai_code 184 = cX11_tellsAuthor := rfl
theorem hv_184 : ai_view 184 = 11 := rfl
theorem hk_184 : ai_kind 184 = 1 := rfl
theorem hn_184 : ai_n 184 = 0 := rfl
theorem ht_184 : ai_ret 184 = some .int := rfl
theorem hc_185 : ai_code 185 = cX11_isError := rfl
theorem hv_185 : ai_view 185 = 11 := rfl
theorem hk_185 : ai_kind 185 = 0 := rfl
theorem hn_185 : ai_n 185 = 1 := rfl
theorem ht_185 : ai_ret 185 = some .boolean := rfl
theorem hc_186 : ai_code 186 = cX11_changed := rfl
theorem hv_186 : ai_view 186 = 11 := rfl
theorem hk_186 : ai_kind 186 = 1 := rfl
theorem hn_186 : ai_n 186 = 0 := rfl
theorem ht_186 : ai_ret 186 = none := rfl
theorem hc_187 : ai_code 187 = cX11_ends := rfl
theorem hv_187 : ai_view 187 = 11 := rfl
theorem hk_187 : ai_kind 187 = 1 := rfl
theorem hn_187 : ai_n 187 = 1 := rfl
theorem ht_187 : ai_ret 187 = some .int := rfl
theorem hc_188 : ai_code 188 = cX11_author := rfl
theorem hv_188 : ai_view 188 = 11 := rfl
theorem hk_188 : ai_kind 188 = 1 := rfl
theorem hn_188 : ai_n 188 = 0 := rfl
theorem ht_188 : ai_ret 188 = some .int := rfl
theorem hc_189 : ai_code 189 = cX11_isAuthor := rfl
theorem hv_189 : ai_view 189 = 11 := rfl
theorem hk_189 : ai_kind 189 = 1 := rfl
theorem hn_189 : ai_n 189 = 1 := rfl
theorem ht_189 : ai_ret 189 = some .boolean := rfl
theorem hc_190 : ai_code 190 = cX11_chaptersBy := rfl
theorem hv_190 : ai_view 190 = 11 := rfl
theorem hk_190 : ai_kind 190 = 1 := rfl
theorem hn_190 : ai_n 190 = 1 := rfl
theorem ht_190 : ai_ret 190 = some .int := rfl
theorem hc_191 : ai_code 191 = cX11_chapterOf := rfl
theorem hv_191 : ai_view 191 = 11 := rfl
theorem hk_191 : ai_kind 191 = 1 := rfl
theorem hn_191 : ai_n 191 = 2 := rfl
theorem ht_191 : ai_ret 191 = some .int := rfl
theorem hc_192 : ai_code 192 = cX11_deathsBy := rfl
theorem hv_192 : ai_view 192 = 11 := rfl
theorem hk_192 : ai_kind 192 = 1 := rfl
theorem hn_192 : ai_n 192 = 2 := rfl
theorem ht_192 : ai_ret 192 = some .int := rfl
theorem hc_193 : ai_code 193 = cX11_authorOf := rfl
theorem hv_193 : ai_view 193 = 11 := rfl
theorem hk_193 : ai_kind 193 = 1 := rfl
theorem hn_193 : ai_n 193 = 2 := rfl
theorem ht_193 : ai_ret 193 = some .int := rfl
theorem hc_194 : ai_code 194 = cX11_pagesOf := rfl
theorem hv_194 : ai_view 194 = 11 := rfl
theorem hk_194 : ai_kind 194 = 1 := rfl
theorem hn_194 : ai_n 194 = 2 := rfl
theorem ht_194 : ai_ret 194 = some .int := rfl
theorem hc_195 : ai_code 195 = cX11_isDeadIn := rfl
theorem hv_195 : ai_view 195 = 11 := rfl
theorem hk_195 : ai_kind 195 = 1 := rfl
theorem hn_195 : ai_n 195 = 2 := rfl
theorem ht_195 : ai_ret 195 = some .boolean := rfl
theorem hc_196 : ai_code 196 = cX11_could := rfl
theorem hv_196 : ai_view 196 = 11 := rfl
theorem hk_196 : ai_kind 196 = 1 := rfl
theorem hn_196 : ai_n 196 = 3 := rfl
theorem ht_196 : ai_ret 196 = some .boolean := rfl
theorem hc_197 : ai_code 197 = cX11_causers := rfl
theorem hv_197 : ai_view 197 = 11 := rfl
theorem hk_197 : ai_kind 197 = 1 := rfl
theorem hn_197 : ai_n 197 = 2 := rfl
theorem ht_197 : ai_ret 197 = some .int := rfl
theorem hc_198 : ai_code 198 = cX11_comes := rfl
theorem hv_198 : ai_view 198 = 11 := rfl
theorem hk_198 : ai_kind 198 = 1 := rfl
theorem hn_198 : ai_n 198 = 0 := rfl
theorem ht_198 : ai_ret 198 = some .int := rfl
theorem hc_199 : ai_code 199 = cX11_character := rfl
theorem hv_199 : ai_view 199 = 11 := rfl
theorem hk_199 : ai_kind 199 = 1 := rfl
theorem hn_199 : ai_n 199 = 0 := rfl
theorem ht_199 : ai_ret 199 = some .int := rfl
theorem hc_200 : ai_code 200 = cX11_isCharacter := rfl
theorem hv_200 : ai_view 200 = 11 := rfl
theorem hk_200 : ai_kind 200 = 1 := rfl
theorem hn_200 : ai_n 200 = 1 := rfl
theorem ht_200 : ai_ret 200 = some .boolean := rfl
theorem hc_201 : ai_code 201 = cX11_lives := rfl
theorem hv_201 : ai_view 201 = 11 := rfl
theorem hk_201 : ai_kind 201 = 1 := rfl
theorem hn_201 : ai_n 201 = 1 := rfl
theorem ht_201 : ai_ret 201 = some .int := rfl
theorem hc_202 : ai_code 202 = cX11_culpritMany := rfl
theorem hv_202 : ai_view 202 = 11 := rfl
theorem hk_202 : ai_kind 202 = 1 := rfl
theorem hn_202 : ai_n 202 = 1 := rfl
theorem ht_202 : ai_ret 202 = some .int := rfl
theorem hc_203 : ai_code 203 = cX11_motives := rfl
theorem hv_203 : ai_view 203 = 11 := rfl
theorem hk_203 : ai_kind 203 = 1 := rfl
theorem hn_203 : ai_n 203 = 2 := rfl
theorem ht_203 : ai_ret 203 = some .int := rfl
theorem hc_204 : ai_code 204 = cX11_characterOf := rfl
theorem hv_204 : ai_view 204 = 11 := rfl
theorem hk_204 : ai_kind 204 = 1 := rfl
theorem hn_204 : ai_n 204 = 2 := rfl
theorem ht_204 : ai_ret 204 = some .int := rfl
theorem hc_205 : ai_code 205 = cX11_deadMany := rfl
theorem hv_205 : ai_view 205 = 11 := rfl
theorem hk_205 : ai_kind 205 = 1 := rfl
theorem hn_205 : ai_n 205 = 1 := rfl
theorem ht_205 : ai_ret 205 = some .int := rfl
theorem hc_206 : ai_code 206 = cX11_darkest := rfl
theorem hv_206 : ai_view 206 = 11 := rfl
theorem hk_206 : ai_kind 206 = 1 := rfl
theorem hn_206 : ai_n 206 = 1 := rfl
theorem ht_206 : ai_ret 206 = some .int := rfl
theorem hc_207 : ai_code 207 = cX11_isChapter := rfl
theorem hv_207 : ai_view 207 = 11 := rfl
theorem hk_207 : ai_kind 207 = 0 := rfl
theorem hn_207 : ai_n 207 = 1 := rfl
theorem ht_207 : ai_ret 207 = some .boolean := rfl
theorem hc_208 : ai_code 208 = cX11_deadIn := rfl
theorem hv_208 : ai_view 208 = 11 := rfl
theorem hk_208 : ai_kind 208 = 1 := rfl
theorem hn_208 : ai_n 208 = 1 := rfl
theorem ht_208 : ai_ret 208 = some .int := rfl
theorem hc_209 : ai_code 209 = cX11_dead := rfl
theorem hv_209 : ai_view 209 = 11 := rfl
theorem hk_209 : ai_kind 209 = 1 := rfl
theorem hn_209 : ai_n 209 = 1 := rfl
theorem ht_209 : ai_ret 209 = some .int := rfl
theorem hc_210 : ai_code 210 = cX11_deadAgain := rfl
theorem hv_210 : ai_view 210 = 11 := rfl
theorem hk_210 : ai_kind 210 = 1 := rfl
theorem hn_210 : ai_n 210 = 1 := rfl
theorem ht_210 : ai_ret 210 = some .int := rfl
theorem hc_211 : ai_code 211 = cX11_isDeath := rfl
theorem hv_211 : ai_view 211 = 11 := rfl
theorem hk_211 : ai_kind 211 = 1 := rfl
theorem hn_211 : ai_n 211 = 2 := rfl
theorem ht_211 : ai_ret 211 = some .boolean := rfl
theorem hc_212 : ai_code 212 = cX11_deathOf := rfl
theorem hv_212 : ai_view 212 = 11 := rfl
theorem hk_212 : ai_kind 212 = 1 := rfl
theorem hn_212 : ai_n 212 = 3 := rfl
theorem ht_212 : ai_ret 212 = some .int := rfl
theorem hc_213 : ai_code 213 = cX11_isDeadNow := rfl
theorem hv_213 : ai_view 213 = 11 := rfl
theorem hk_213 : ai_kind 213 = 1 := rfl
theorem hn_213 : ai_n 213 = 1 := rfl
theorem ht_213 : ai_ret 213 = some .boolean := rfl
theorem hc_214 : ai_code 214 = cX11_lastChapter := rfl
theorem hv_214 : ai_view 214 = 11 := rfl
theorem hk_214 : ai_kind 214 = 1 := rfl
theorem hn_214 : ai_n 214 = 1 := rfl
theorem ht_214 : ai_ret 214 = some .int := rfl
theorem hc_215 : ai_code 215 = cX11_isTooEarly := rfl
theorem hv_215 : ai_view 215 = 11 := rfl
theorem hk_215 : ai_kind 215 = 1 := rfl
theorem hn_215 : ai_n 215 = 2 := rfl
theorem ht_215 : ai_ret 215 = some .boolean := rfl
theorem hc_216 : ai_code 216 = cX11_dies := rfl
theorem hv_216 : ai_view 216 = 11 := rfl
theorem hk_216 : ai_kind 216 = 1 := rfl
theorem hn_216 : ai_n 216 = 2 := rfl
theorem ht_216 : ai_ret 216 = some .int := rfl
theorem hc_217 : ai_code 217 = cX11_die := rfl
theorem hv_217 : ai_view 217 = 11 := rfl
theorem hk_217 : ai_kind 217 = 1 := rfl
theorem hn_217 : ai_n 217 = 2 := rfl
theorem ht_217 : ai_ret 217 = some .int := rfl
theorem hc_218 : ai_code 218 = cX11_rises := rfl
theorem hv_218 : ai_view 218 = 11 := rfl
theorem hk_218 : ai_kind 218 = 1 := rfl
theorem hn_218 : ai_n 218 = 2 := rfl
theorem ht_218 : ai_ret 218 = some .int := rfl
theorem hc_219 : ai_code 219 = cX11_strikes := rfl
theorem hv_219 : ai_view 219 = 11 := rfl
theorem hk_219 : ai_kind 219 = 1 := rfl
theorem hn_219 : ai_n 219 = 1 := rfl
theorem ht_219 : ai_ret 219 = some .int := rfl
theorem hc_220 : ai_code 220 = cX11_writes := rfl
theorem hv_220 : ai_view 220 = 11 := rfl
theorem hk_220 : ai_kind 220 = 1 := rfl
theorem hn_220 : ai_n 220 = 2 := rfl
theorem ht_220 : ai_ret 220 = some .int := rfl
theorem hc_221 : ai_code 221 = cX11_swears := rfl
theorem hv_221 : ai_view 221 = 11 := rfl
theorem hk_221 : ai_kind 221 = 1 := rfl
theorem hn_221 : ai_n 221 = 2 := rfl
theorem ht_221 : ai_ret 221 = some .int := rfl
theorem hc_222 : ai_code 222 = cX11_tellsMotive := rfl
theorem hv_222 : ai_view 222 = 11 := rfl
theorem hk_222 : ai_kind 222 = 1 := rfl
theorem hn_222 : ai_n 222 = 3 := rfl
theorem ht_222 : ai_ret 222 = some .int := rfl
theorem hc_223 : ai_code 223 = cX11_isSeat := rfl
theorem hv_223 : ai_view 223 = 11 := rfl
theorem hk_223 : ai_kind 223 = 0 := rfl
theorem hn_223 : ai_n 223 = 1 := rfl
theorem ht_223 : ai_ret 223 = some .boolean := rfl
theorem hc_224 : ai_code 224 = cX11_lets := rfl
theorem hv_224 : ai_view 224 = 11 := rfl
theorem hk_224 : ai_kind 224 = 1 := rfl
theorem hn_224 : ai_n 224 = 1 := rfl
theorem ht_224 : ai_ret 224 = some .int := rfl
theorem hc_225 : ai_code 225 = cX11_seats := rfl
theorem hv_225 : ai_view 225 = 11 := rfl
theorem hk_225 : ai_kind 225 = 1 := rfl
theorem hn_225 : ai_n 225 = 2 := rfl
theorem ht_225 : ai_ret 225 = some .int := rfl
theorem hc_226 : ai_code 226 = cX11_weight := rfl
theorem hv_226 : ai_view 226 = 11 := rfl
theorem hk_226 : ai_kind 226 = 1 := rfl
theorem hn_226 : ai_n 226 = 3 := rfl
theorem ht_226 : ai_ret 226 = some .int := rfl
theorem hc_227 : ai_code 227 = cX11_guiltyMany := rfl
theorem hv_227 : ai_view 227 = 11 := rfl
theorem hk_227 : ai_kind 227 = 1 := rfl
theorem hn_227 : ai_n 227 = 3 := rfl
theorem ht_227 : ai_ret 227 = some .int := rfl
theorem hc_228 : ai_code 228 = cX11_isFound := rfl
theorem hv_228 : ai_view 228 = 11 := rfl
theorem hk_228 : ai_kind 228 = 1 := rfl
theorem hn_228 : ai_n 228 = 3 := rfl
theorem ht_228 : ai_ret 228 = some .boolean := rfl
theorem hc_229 : ai_code 229 = cX11_tries := rfl
theorem hv_229 : ai_view 229 = 11 := rfl
theorem hk_229 : ai_kind 229 = 1 := rfl
theorem hn_229 : ai_n 229 = 3 := rfl
theorem ht_229 : ai_ret 229 = some .int := rfl
theorem hc_230 : ai_code 230 = cX11_does := rfl
theorem hv_230 : ai_view 230 = 11 := rfl
theorem hk_230 : ai_kind 230 = 1 := rfl
theorem hn_230 : ai_n 230 = 1 := rfl
theorem ht_230 : ai_ret 230 = some .int := rfl
theorem hc_231 : ai_code 231 = cX11_guilty := rfl
theorem hv_231 : ai_view 231 = 11 := rfl
theorem hk_231 : ai_kind 231 = 1 := rfl
theorem hn_231 : ai_n 231 = 3 := rfl
theorem ht_231 : ai_ret 231 = some .int := rfl
theorem hc_232 : ai_code 232 = cX11_isAhead := rfl
theorem hv_232 : ai_view 232 = 11 := rfl
theorem hk_232 : ai_kind 232 = 1 := rfl
theorem hn_232 : ai_n 232 = 3 := rfl
theorem ht_232 : ai_ret 232 = some .boolean := rfl
theorem hc_233 : ai_code 233 = cX11_signHere := rfl
theorem hv_233 : ai_view 233 = 11 := rfl
theorem hk_233 : ai_kind 233 = 1 := rfl
theorem hn_233 : ai_n 233 = 0 := rfl
theorem ht_233 : ai_ret 233 = some .int := rfl
theorem hc_234 : ai_code 234 = cX11_isHere := rfl
theorem hv_234 : ai_view 234 = 11 := rfl
theorem hk_234 : ai_kind 234 = 1 := rfl
theorem hn_234 : ai_n 234 = 1 := rfl
theorem ht_234 : ai_ret 234 = some .boolean := rfl
theorem hc_235 : ai_code 235 = cX11_isKind := rfl
theorem hv_235 : ai_view 235 = 11 := rfl
theorem hk_235 : ai_kind 235 = 0 := rfl
theorem hn_235 : ai_n 235 = 1 := rfl
theorem ht_235 : ai_ret 235 = some .boolean := rfl
theorem hc_236 : ai_code 236 = cX11_isNumber := rfl
theorem hv_236 : ai_view 236 = 11 := rfl
theorem hk_236 : ai_kind 236 = 1 := rfl
theorem hn_236 : ai_n 236 = 2 := rfl
theorem ht_236 : ai_ret 236 = some .boolean := rfl
theorem hc_237 : ai_code 237 = cX11_isOath := rfl
theorem hv_237 : ai_view 237 = 11 := rfl
theorem hk_237 : ai_kind 237 = 1 := rfl
theorem hn_237 : ai_n 237 = 1 := rfl
theorem ht_237 : ai_ret 237 = some .boolean := rfl
theorem hc_238 : ai_code 238 = cX11_isReader := rfl
theorem hv_238 : ai_view 238 = 11 := rfl
theorem hk_238 : ai_kind 238 = 1 := rfl
theorem hn_238 : ai_n 238 = 1 := rfl
theorem ht_238 : ai_ret 238 = some .boolean := rfl
theorem hc_239 : ai_code 239 = cX11_readsCommand := rfl
theorem hv_239 : ai_view 239 = 11 := rfl
theorem hk_239 : ai_kind 239 = 1 := rfl
theorem hn_239 : ai_n 239 = 0 := rfl
theorem ht_239 : ai_ret 239 = some .boolean := rfl
theorem hc_240 : ai_code 240 = cX11_isText := rfl
theorem hv_240 : ai_view 240 = 11 := rfl
theorem hk_240 : ai_kind 240 = 1 := rfl
theorem hn_240 : ai_n 240 = 0 := rfl
theorem ht_240 : ai_ret 240 = some .boolean := rfl
theorem hc_241 : ai_code 241 = cX11_isWell := rfl
theorem hv_241 : ai_view 241 = 11 := rfl
theorem hk_241 : ai_kind 241 = 1 := rfl
theorem hn_241 : ai_n 241 = 0 := rfl
theorem ht_241 : ai_ret 241 = some .int := rfl
theorem hc_242 : ai_code 242 = cX11_leave := rfl
theorem hv_242 : ai_view 242 = 11 := rfl
theorem hk_242 : ai_kind 242 = 1 := rfl
theorem hn_242 : ai_n 242 = 1 := rfl
theorem ht_242 : ai_ret 242 = some .int := rfl
theorem hc_243 : ai_code 243 = cX11_motive := rfl
theorem hv_243 : ai_view 243 = 11 := rfl
theorem hk_243 : ai_kind 243 = 1 := rfl
theorem hn_243 : ai_n 243 = 3 := rfl
theorem ht_243 : ai_ret 243 = some .int := rfl
theorem hc_244 : ai_code 244 = cX11_puts := rfl
theorem hv_244 : ai_view 244 = 11 := rfl
theorem hk_244 : ai_kind 244 = 1 := rfl
theorem hn_244 : ai_n 244 = 1 := rfl
theorem ht_244 : ai_ret 244 = none := rfl
theorem hc_245 : ai_code 245 = cX11_number := rfl
theorem hv_245 : ai_view 245 = 15 := rfl
theorem hk_245 : ai_kind 245 = 1 := rfl
theorem hn_245 : ai_n 245 = 1 := rfl
theorem ht_245 : ai_ret 245 = none := rfl
theorem hc_246 : ai_code 246 = cX11_number := rfl
theorem hv_246 : ai_view 246 = 16 := rfl
theorem hk_246 : ai_kind 246 = 1 := rfl
theorem hn_246 : ai_n 246 = 1 := rfl
theorem ht_246 : ai_ret 246 = none := rfl
theorem hc_247 : ai_code 247 = cX11_pages := rfl
theorem hv_247 : ai_view 247 = 11 := rfl
theorem hk_247 : ai_kind 247 = 1 := rfl
theorem hn_247 : ai_n 247 = 2 := rfl
theorem ht_247 : ai_ret 247 = some .int := rfl
theorem hc_248 : ai_code 248 = cX11_ranked := rfl
theorem hv_248 : ai_view 248 = 11 := rfl
theorem hk_248 : ai_kind 248 = 1 := rfl
theorem hn_248 : ai_n 248 = 2 := rfl
theorem ht_248 : ai_ret 248 = some .int := rfl
theorem hc_249 : ai_code 249 = cX11_read := rfl
theorem hv_249 : ai_view 249 = 11 := rfl
theorem hk_249 : ai_kind 249 = 1 := rfl
theorem hn_249 : ai_n 249 = 0 := rfl
theorem ht_249 : ai_ret 249 = some .int := rfl
theorem hc_250 : ai_code 250 = cX11_refusal := rfl
theorem hv_250 : ai_view 250 = 11 := rfl
theorem hk_250 : ai_kind 250 = 1 := rfl
theorem hn_250 : ai_n 250 = 1 := rfl
theorem ht_250 : ai_ret 250 = some .int := rfl
theorem hc_251 : ai_code 251 = cX11_restore := rfl
theorem hv_251 : ai_view 251 = 11 := rfl
theorem hk_251 : ai_kind 251 = 1 := rfl
theorem hn_251 : ai_n 251 = 0 := rfl
theorem ht_251 : ai_ret 251 = some .int := rfl
theorem hc_252 : ai_code 252 = cX11_rise := rfl
theorem hv_252 : ai_view 252 = 11 := rfl
theorem hk_252 : ai_kind 252 = 1 := rfl
theorem hn_252 : ai_n 252 = 2 := rfl
theorem ht_252 : ai_ret 252 = some .int := rfl
theorem hc_253 : ai_code 253 = cX11_save := rfl
theorem hv_253 : ai_view 253 = 11 := rfl
theorem hk_253 : ai_kind 253 = 1 := rfl
theorem hn_253 : ai_n 253 = 0 := rfl
theorem ht_253 : ai_ret 253 = some .int := rfl
theorem hc_254 : ai_code 254 = cX11_seat := rfl
theorem hv_254 : ai_view 254 = 11 := rfl
theorem hk_254 : ai_kind 254 = 1 := rfl
theorem hn_254 : ai_n 254 = 2 := rfl
theorem ht_254 : ai_ret 254 = some .int := rfl
theorem hc_255 : ai_code 255 = cJxf58ca_isNaN_12338 := rfl
theorem hv_255 : ai_view 255 = 14 := rfl
theorem hk_255 : ai_kind 255 = 0 := rfl
theorem hn_255 : ai_n 255 = 1 := rfl
theorem ht_255 : ai_ret 255 = some .boolean := rfl
theorem hc_256 : ai_code 256 = cJxf58ca_floatToIntBits_5c35a := rfl
theorem hv_256 : ai_view 256 = 14 := rfl
theorem hk_256 : ai_kind 256 = 0 := rfl
theorem hn_256 : ai_n 256 = 1 := rfl
theorem ht_256 : ai_ret 256 = some .int := rfl
theorem hc_257 : ai_code 257 = cX11_share := rfl
theorem hv_257 : ai_view 257 = 11 := rfl
theorem hk_257 : ai_kind 257 = 1 := rfl
theorem hn_257 : ai_n 257 = 0 := rfl
theorem ht_257 : ai_ret 257 = some .int := rfl
theorem hc_258 : ai_code 258 = cX11_sign := rfl
theorem hv_258 : ai_view 258 = 11 := rfl
theorem hk_258 : ai_kind 258 = 1 := rfl
theorem hn_258 : ai_n 258 = 1 := rfl
theorem ht_258 : ai_ret 258 = some .int := rfl
theorem hc_259 : ai_code 259 = cX11_strike := rfl
theorem hv_259 : ai_view 259 = 11 := rfl
theorem hk_259 : ai_kind 259 = 1 := rfl
theorem hn_259 : ai_n 259 = 1 := rfl
theorem ht_259 : ai_ret 259 = some .int := rfl
theorem hc_260 : ai_code 260 = cX11_suspect := rfl
theorem hv_260 : ai_view 260 = 11 := rfl
theorem hk_260 : ai_kind 260 = 1 := rfl
theorem hn_260 : ai_n 260 = 2 := rfl
theorem ht_260 : ai_ret 260 = some .int := rfl
theorem hc_261 : ai_code 261 = cX11_suspectAgain := rfl
theorem hv_261 : ai_view 261 = 11 := rfl
theorem hk_261 : ai_kind 261 = 1 := rfl
theorem hn_261 : ai_n 261 = 2 := rfl
theorem ht_261 : ai_ret 261 = some .int := rfl
theorem hc_262 : ai_code 262 = cX11_swear := rfl
theorem hv_262 : ai_view 262 = 11 := rfl
theorem hk_262 : ai_kind 262 = 1 := rfl
theorem hn_262 : ai_n 262 = 2 := rfl
theorem ht_262 : ai_ret 262 = some .int := rfl
theorem hc_263 : ai_code 263 = cX11_tellChapter := rfl
theorem hv_263 : ai_view 263 = 11 := rfl
theorem hk_263 : ai_kind 263 = 1 := rfl
theorem hn_263 : ai_n 263 = 1 := rfl
theorem ht_263 : ai_ret 263 = some .int := rfl
theorem hc_264 : ai_code 264 = cX11_tellCharacter := rfl
theorem hv_264 : ai_view 264 = 11 := rfl
theorem hk_264 : ai_kind 264 = 1 := rfl
theorem hn_264 : ai_n 264 = 1 := rfl
theorem ht_264 : ai_ret 264 = some .int := rfl
theorem hc_265 : ai_code 265 = cX11_tellJury := rfl
theorem hv_265 : ai_view 265 = 11 := rfl
theorem hk_265 : ai_kind 265 = 1 := rfl
theorem hn_265 : ai_n 265 = 0 := rfl
theorem ht_265 : ai_ret 265 = some .int := rfl
theorem hc_266 : ai_code 266 = cX11_trial := rfl
theorem hv_266 : ai_view 266 = 11 := rfl
theorem hk_266 : ai_kind 266 = 1 := rfl
theorem hn_266 : ai_n 266 = 3 := rfl
theorem ht_266 : ai_ret 266 = some .int := rfl
theorem hc_267 : ai_code 267 = cX11_undo := rfl
theorem hv_267 : ai_view 267 = 11 := rfl
theorem hk_267 : ai_kind 267 = 1 := rfl
theorem hn_267 : ai_n 267 = 0 := rfl
theorem ht_267 : ai_ret 267 = some .int := rfl
theorem hc_268 : ai_code 268 = cX11_would := rfl
theorem hv_268 : ai_view 268 = 11 := rfl
theorem hk_268 : ai_kind 268 = 1 := rfl
theorem hn_268 : ai_n 268 = 5 := rfl
theorem ht_268 : ai_ret 268 = some .int := rfl
theorem hc_269 : ai_code 269 = cX11_write := rfl
theorem hv_269 : ai_view 269 = 11 := rfl
theorem hk_269 : ai_kind 269 = 1 := rfl
theorem hn_269 : ai_n 269 = 2 := rfl
theorem ht_269 : ai_ret 269 = some .int := rfl
