/-! methods: printed by gen2.py -/
theorem hc_0 : ai_code 0 = cJ9_max_7cf53 := rfl
theorem hv_0 : ai_view 0 = 12 := rfl
theorem hk_0 : ai_kind 0 = 0 := rfl
theorem hn_0 : ai_n 0 = 2 := rfl
theorem hf_0 : ai_fr 0 = 1 := rfl
theorem ho_0 : ai_lo 0 = 0 := rfl
theorem hL_0 : ai_L 0 = 2 := rfl
theorem ht_0 : ai_ret 0 = some .int := rfl
theorem hc_1 : ai_code 1 = cX8_init := rfl
theorem hv_1 : ai_view 1 = 8 := rfl
theorem hk_1 : ai_kind 1 = 2 := rfl
theorem hn_1 : ai_n 1 = 2 := rfl
theorem hf_1 : ai_fr 1 = 2 := rfl
theorem ho_1 : ai_lo 1 = 40 := rfl
theorem hL_1 : ai_L 1 = 4 := rfl
theorem ht_1 : ai_ret 1 = none := rfl
theorem hc_2 : ai_code 2 = cX0_init := rfl
theorem hv_2 : ai_view 2 = 0 := rfl
theorem hk_2 : ai_kind 2 = 2 := rfl
theorem hn_2 : ai_n 2 = 0 := rfl
theorem hf_2 : ai_fr 2 = 3 := rfl
theorem ho_2 : ai_lo 2 = 63 := rfl
theorem hL_2 : ai_L 2 = 1 := rfl
theorem ht_2 : ai_ret 2 = none := rfl
theorem hc_3 : ai_code 3 = cX4_init := rfl
theorem hv_3 : ai_view 3 = 4 := rfl
theorem hk_3 : ai_kind 3 = 2 := rfl
theorem hn_3 : ai_n 3 = 1 := rfl
theorem hf_3 : ai_fr 3 = 1 := rfl
theorem ho_3 : ai_lo 3 = 40 := rfl
theorem hL_3 : ai_L 3 = 2 := rfl
theorem ht_3 : ai_ret 3 = none := rfl
theorem hc_4 : ai_code 4 = cX5_init := rfl
theorem hv_4 : ai_view 4 = 5 := rfl
theorem hk_4 : ai_kind 4 = 2 := rfl
theorem hn_4 : ai_n 4 = 1 := rfl
theorem hf_4 : ai_fr 4 = 1 := rfl
theorem ho_4 : ai_lo 4 = 40 := rfl
theorem hL_4 : ai_L 4 = 2 := rfl
theorem ht_4 : ai_ret 4 = none := rfl
theorem hc_5 : ai_code 5 = cX7_init := rfl
theorem hv_5 : ai_view 5 = 7 := rfl
theorem hk_5 : ai_kind 5 = 2 := rfl
theorem hn_5 : ai_n 5 = 0 := rfl
theorem hf_5 : ai_fr 5 = 1 := rfl
theorem ho_5 : ai_lo 5 = 40 := rfl
theorem hL_5 : ai_L 5 = 1 := rfl
theorem ht_5 : ai_ret 5 = none := rfl
theorem hc_6 : ai_code 6 = cX2_init := rfl
theorem hv_6 : ai_view 6 = 2 := rfl
theorem hk_6 : ai_kind 6 = 2 := rfl
theorem hn_6 : ai_n 6 = 1 := rfl
theorem hf_6 : ai_fr 6 = 3 := rfl
theorem ho_6 : ai_lo 6 = 63 := rfl
theorem hL_6 : ai_L 6 = 2 := rfl
theorem ht_6 : ai_ret 6 = none := rfl
theorem hc_7 : ai_code 7 = cX1_init := rfl
theorem hv_7 : ai_view 7 = 1 := rfl
theorem hk_7 : ai_kind 7 = 2 := rfl
theorem hn_7 : ai_n 7 = 4 := rfl
theorem hf_7 : ai_fr 7 = 1 := rfl
theorem ho_7 : ai_lo 7 = 40 := rfl
theorem hL_7 : ai_L 7 = 5 := rfl
theorem ht_7 : ai_ret 7 = none := rfl
theorem hc_8 : ai_code 8 = cX3_init := rfl
theorem hv_8 : ai_view 8 = 3 := rfl
theorem hk_8 : ai_kind 8 = 2 := rfl
theorem hn_8 : ai_n 8 = 0 := rfl
theorem hf_8 : ai_fr 8 = 4 := rfl
theorem ho_8 : ai_lo 8 = 83 := rfl
theorem hL_8 : ai_L 8 = 2 := rfl
theorem ht_8 : ai_ret 8 = none := rfl
theorem hc_9 : ai_code 9 = cX9_init := rfl
theorem hv_9 : ai_view 9 = 9 := rfl
theorem hk_9 : ai_kind 9 = 2 := rfl
theorem hn_9 : ai_n 9 = 0 := rfl
theorem hf_9 : ai_fr 9 = 3 := rfl
theorem ho_9 : ai_lo 9 = 63 := rfl
theorem hL_9 : ai_L 9 = 1 := rfl
theorem ht_9 : ai_ret 9 = none := rfl
theorem hc_10 : ai_code 10 = cX6_init := rfl
theorem hv_10 : ai_view 10 = 6 := rfl
theorem hk_10 : ai_kind 10 = 2 := rfl
theorem hn_10 : ai_n 10 = 0 := rfl
theorem hf_10 : ai_fr 10 = 3 := rfl
theorem ho_10 : ai_lo 10 = 63 := rfl
theorem hL_10 : ai_L 10 = 1 := rfl
theorem ht_10 : ai_ret 10 = none := rfl
theorem hc_11 : ai_code 11 = cX10_init := rfl
theorem hv_11 : ai_view 11 = 10 := rfl
theorem hk_11 : ai_kind 11 = 2 := rfl
theorem hn_11 : ai_n 11 = 0 := rfl
theorem hf_11 : ai_fr 11 = 5 := rfl
theorem ho_11 : ai_lo 11 = 104 := rfl
theorem hL_11 : ai_L 11 = 5 := rfl
theorem ht_11 : ai_ret 11 = none := rfl
theorem hc_12 : ai_code 12 = cX8_get := rfl
theorem hv_12 : ai_view 12 = 8 := rfl
theorem hk_12 : ai_kind 12 = 1 := rfl
theorem hn_12 : ai_n 12 = 1 := rfl
theorem hf_12 : ai_fr 12 = 1 := rfl
theorem ho_12 : ai_lo 12 = 0 := rfl
theorem hL_12 : ai_L 12 = 2 := rfl
theorem ht_12 : ai_ret 12 = some .int := rfl
theorem hc_13 : ai_code 13 = cX0_deaths := rfl
theorem hv_13 : ai_view 13 = 0 := rfl
theorem hk_13 : ai_kind 13 = 1 := rfl
theorem hn_13 : ai_n 13 = 1 := rfl
theorem hf_13 : ai_fr 13 = 2 := rfl
theorem ho_13 : ai_lo 13 = 21 := rfl
theorem hL_13 : ai_L 13 = 2 := rfl
theorem ht_13 : ai_ret 13 = some .int := rfl
theorem hc_14 : ai_code 14 = cX2_allDeaths := rfl
theorem hv_14 : ai_view 14 = 2 := rfl
theorem hk_14 : ai_kind 14 = 1 := rfl
theorem hn_14 : ai_n 14 = 0 := rfl
theorem hf_14 : ai_fr 14 = 3 := rfl
theorem ho_14 : ai_lo 14 = 42 := rfl
theorem hL_14 : ai_L 14 = 3 := rfl
theorem ht_14 : ai_ret 14 = some .int := rfl
theorem hc_15 : ai_code 15 = cX0_risings := rfl
theorem hv_15 : ai_view 15 = 0 := rfl
theorem hk_15 : ai_kind 15 = 1 := rfl
theorem hn_15 : ai_n 15 = 1 := rfl
theorem hf_15 : ai_fr 15 = 2 := rfl
theorem ho_15 : ai_lo 15 = 21 := rfl
theorem hL_15 : ai_L 15 = 2 := rfl
theorem ht_15 : ai_ret 15 = some .int := rfl
theorem hc_16 : ai_code 16 = cX2_allRisings := rfl
theorem hv_16 : ai_view 16 = 2 := rfl
theorem hk_16 : ai_kind 16 = 1 := rfl
theorem hn_16 : ai_n 16 = 0 := rfl
theorem hf_16 : ai_fr 16 = 3 := rfl
theorem ho_16 : ai_lo 16 = 42 := rfl
theorem hL_16 : ai_L 16 = 3 := rfl
theorem ht_16 : ai_ret 16 = some .int := rfl
theorem hc_17 : ai_code 17 = cX0_culprit := rfl
theorem hv_17 : ai_view 17 = 0 := rfl
theorem hk_17 : ai_kind 17 = 1 := rfl
theorem hn_17 : ai_n 17 = 2 := rfl
theorem hf_17 : ai_fr 17 = 2 := rfl
theorem ho_17 : ai_lo 17 = 21 := rfl
theorem hL_17 : ai_L 17 = 3 := rfl
theorem ht_17 : ai_ret 17 = some .int := rfl
theorem hc_18 : ai_code 18 = cX0_isSolved := rfl
theorem hv_18 : ai_view 18 = 0 := rfl
theorem hk_18 : ai_kind 18 = 1 := rfl
theorem hn_18 : ai_n 18 = 2 := rfl
theorem hf_18 : ai_fr 18 = 3 := rfl
theorem ho_18 : ai_lo 18 = 43 := rfl
theorem hL_18 : ai_L 18 = 3 := rfl
theorem ht_18 : ai_ret 18 = some .boolean := rfl
theorem hc_19 : ai_code 19 = cX2_solvedDeaths := rfl
theorem hv_19 : ai_view 19 = 2 := rfl
theorem hk_19 : ai_kind 19 = 1 := rfl
theorem hn_19 : ai_n 19 = 1 := rfl
theorem hf_19 : ai_fr 19 = 4 := rfl
theorem ho_19 : ai_lo 19 = 65 := rfl
theorem hL_19 : ai_L 19 = 4 := rfl
theorem ht_19 : ai_ret 19 = some .int := rfl
theorem hc_20 : ai_code 20 = cX2_allSolvedDeaths := rfl
theorem hv_20 : ai_view 20 = 2 := rfl
theorem hk_20 : ai_kind 20 = 1 := rfl
theorem hn_20 : ai_n 20 = 0 := rfl
theorem hf_20 : ai_fr 20 = 5 := rfl
theorem ho_20 : ai_lo 20 = 88 := rfl
theorem hL_20 : ai_L 20 = 3 := rfl
theorem ht_20 : ai_ret 20 = some .int := rfl
theorem hc_21 : ai_code 21 = cX5_isTaken := rfl
theorem hv_21 : ai_view 21 = 5 := rfl
theorem hk_21 : ai_kind 21 = 1 := rfl
theorem hn_21 : ai_n 21 = 1 := rfl
theorem hf_21 : ai_fr 21 = 2 := rfl
theorem ho_21 : ai_lo 21 = 21 := rfl
theorem hL_21 : ai_L 21 = 2 := rfl
theorem ht_21 : ai_ret 21 = some .boolean := rfl
theorem hc_22 : ai_code 22 = cX5_sitting := rfl
theorem hv_22 : ai_view 22 = 5 := rfl
theorem hk_22 : ai_kind 22 = 1 := rfl
theorem hn_22 : ai_n 22 = 0 := rfl
theorem hf_22 : ai_fr 22 = 3 := rfl
theorem ho_22 : ai_lo 22 = 42 := rfl
theorem hL_22 : ai_L 22 = 3 := rfl
theorem ht_22 : ai_ret 22 = some .int := rfl
theorem hc_23 : ai_code 23 = cX2_chaptersBy := rfl
theorem hv_23 : ai_view 23 = 2 := rfl
theorem hk_23 : ai_kind 23 = 1 := rfl
theorem hn_23 : ai_n 23 = 1 := rfl
theorem hf_23 : ai_fr 23 = 2 := rfl
theorem ho_23 : ai_lo 23 = 21 := rfl
theorem hL_23 : ai_L 23 = 4 := rfl
theorem ht_23 : ai_ret 23 = some .int := rfl
theorem hc_24 : ai_code 24 = cX2_writtenChapters := rfl
theorem hv_24 : ai_view 24 = 2 := rfl
theorem hk_24 : ai_kind 24 = 1 := rfl
theorem hn_24 : ai_n 24 = 0 := rfl
theorem hf_24 : ai_fr 24 = 3 := rfl
theorem ho_24 : ai_lo 24 = 44 := rfl
theorem hL_24 : ai_L 24 = 1 := rfl
theorem ht_24 : ai_ret 24 = some .int := rfl
theorem hc_25 : ai_code 25 = cX0_swornAuthors := rfl
theorem hv_25 : ai_view 25 = 0 := rfl
theorem hk_25 : ai_kind 25 = 1 := rfl
theorem hn_25 : ai_n 25 = 0 := rfl
theorem hf_25 : ai_fr 25 = 2 := rfl
theorem ho_25 : ai_lo 25 = 21 := rfl
theorem hL_25 : ai_L 25 = 3 := rfl
theorem ht_25 : ai_ret 25 = some .int := rfl
theorem hc_26 : ai_code 26 = cX9_size := rfl
theorem hv_26 : ai_view 26 = 9 := rfl
theorem hk_26 : ai_kind 26 = 1 := rfl
theorem hn_26 : ai_n 26 = 0 := rfl
theorem hf_26 : ai_fr 26 = 1 := rfl
theorem ho_26 : ai_lo 26 = 0 := rfl
theorem hL_26 : ai_L 26 = 1 := rfl
theorem ht_26 : ai_ret 26 = some .int := rfl
theorem hc_27 : ai_code 27 = cX3_size := rfl
theorem hv_27 : ai_view 27 = 3 := rfl
theorem hk_27 : ai_kind 27 = 1 := rfl
theorem hn_27 : ai_n 27 = 0 := rfl
theorem hf_27 : ai_fr 27 = 1 := rfl
theorem ho_27 : ai_lo 27 = 0 := rfl
theorem hL_27 : ai_L 27 = 1 := rfl
theorem ht_27 : ai_ret 27 = some .int := rfl
theorem hc_28 : ai_code 28 = cX10_account := rfl
theorem hv_28 : ai_view 28 = 10 := rfl
theorem hk_28 : ai_kind 28 = 1 := rfl
theorem hn_28 : ai_n 28 = 1 := rfl
theorem hf_28 : ai_fr 28 = 6 := rfl
theorem ho_28 : ai_lo 28 = 110 := rfl
theorem hL_28 : ai_L 28 = 2 := rfl
theorem ht_28 : ai_ret 28 = some .int := rfl
theorem hc_29 : ai_code 29 = cX8_set := rfl
theorem hv_29 : ai_view 29 = 8 := rfl
theorem hk_29 : ai_kind 29 = 1 := rfl
theorem hn_29 : ai_n 29 = 2 := rfl
theorem hf_29 : ai_fr 29 = 1 := rfl
theorem ho_29 : ai_lo 29 = 0 := rfl
theorem hL_29 : ai_L 29 = 3 := rfl
theorem ht_29 : ai_ret 29 = none := rfl
theorem hc_30 : ai_code 30 = cX6_addCode := rfl
theorem hv_30 : ai_view 30 = 6 := rfl
theorem hk_30 : ai_kind 30 = 1 := rfl
theorem hn_30 : ai_n 30 = 1 := rfl
theorem hf_30 : ai_fr 30 = 2 := rfl
theorem ho_30 : ai_lo 30 = 22 := rfl
theorem hL_30 : ai_L 30 = 2 := rfl
theorem ht_30 : ai_ret 30 = none := rfl
theorem hc_31 : ai_code 31 = cX6_addNumber := rfl
theorem hv_31 : ai_view 31 = 6 := rfl
theorem hk_31 : ai_kind 31 = 1 := rfl
theorem hn_31 : ai_n 31 = 1 := rfl
theorem hf_31 : ai_fr 31 = 3 := rfl
theorem ho_31 : ai_lo 31 = 43 := rfl
theorem hL_31 : ai_L 31 = 2 := rfl
theorem ht_31 : ai_ret 31 = none := rfl
theorem hc_32 : ai_code 32 = cX10_addDead := rfl
theorem hv_32 : ai_view 32 = 10 := rfl
theorem hk_32 : ai_kind 32 = 1 := rfl
theorem hn_32 : ai_n 32 = 1 := rfl
theorem hf_32 : ai_fr 32 = 4 := rfl
theorem ho_32 : ai_lo 32 = 64 := rfl
theorem hL_32 : ai_L 32 = 4 := rfl
theorem ht_32 : ai_ret 32 = none := rfl
theorem hc_33 : ai_code 33 = cX0_turnChapter := rfl
theorem hv_33 : ai_view 33 = 0 := rfl
theorem hk_33 : ai_kind 33 = 1 := rfl
theorem hn_33 : ai_n 33 = 2 := rfl
theorem hf_33 : ai_fr 33 = 2 := rfl
theorem ho_33 : ai_lo 33 = 21 := rfl
theorem hL_33 : ai_L 33 = 3 := rfl
theorem ht_33 : ai_ret 33 = some .int := rfl
theorem hc_34 : ai_code 34 = cX10_addTurn := rfl
theorem hv_34 : ai_view 34 = 10 := rfl
theorem hk_34 : ai_kind 34 = 1 := rfl
theorem hn_34 : ai_n 34 = 2 := rfl
theorem hf_34 : ai_fr 34 = 4 := rfl
theorem ho_34 : ai_lo 34 = 65 := rfl
theorem hL_34 : ai_L 34 = 4 := rfl
theorem ht_34 : ai_ret 34 = none := rfl
theorem hc_35 : ai_code 35 = cX0_isAuthor := rfl
theorem hv_35 : ai_view 35 = 0 := rfl
theorem hk_35 : ai_kind 35 = 1 := rfl
theorem hn_35 : ai_n 35 = 1 := rfl
theorem hf_35 : ai_fr 35 = 1 := rfl
theorem ho_35 : ai_lo 35 = 0 := rfl
theorem hL_35 : ai_L 35 = 2 := rfl
theorem ht_35 : ai_ret 35 = some .boolean := rfl
theorem hc_36 : ai_code 36 = cX0_isBySworn := rfl
theorem hv_36 : ai_view 36 = 0 := rfl
theorem hk_36 : ai_kind 36 = 1 := rfl
theorem hn_36 : ai_n 36 = 1 := rfl
theorem hf_36 : ai_fr 36 = 2 := rfl
theorem ho_36 : ai_lo 36 = 21 := rfl
theorem hL_36 : ai_L 36 = 3 := rfl
theorem ht_36 : ai_ret 36 = some .boolean := rfl
theorem hc_37 : ai_code 37 = cX10_addWriter := rfl
theorem hv_37 : ai_view 37 = 10 := rfl
theorem hk_37 : ai_kind 37 = 1 := rfl
theorem hn_37 : ai_n 37 = 1 := rfl
theorem hf_37 : ai_fr 37 = 4 := rfl
theorem ho_37 : ai_lo 37 = 64 := rfl
theorem hL_37 : ai_L 37 = 3 := rfl
theorem ht_37 : ai_ret 37 = none := rfl
theorem hc_38 : ai_code 38 = cX9_addCode := rfl
theorem hv_38 : ai_view 38 = 9 := rfl
theorem hk_38 : ai_kind 38 = 1 := rfl
theorem hn_38 : ai_n 38 = 1 := rfl
theorem hf_38 : ai_fr 38 = 2 := rfl
theorem ho_38 : ai_lo 38 = 22 := rfl
theorem hL_38 : ai_L 38 = 2 := rfl
theorem ht_38 : ai_ret 38 = some .boolean := rfl
theorem hc_39 : ai_code 39 = cX10_append := rfl
theorem hv_39 : ai_view 39 = 10 := rfl
theorem hk_39 : ai_kind 39 = 1 := rfl
theorem hn_39 : ai_n 39 = 1 := rfl
theorem hf_39 : ai_fr 39 = 3 := rfl
theorem ho_39 : ai_lo 39 = 43 := rfl
theorem hL_39 : ai_L 39 = 2 := rfl
theorem ht_39 : ai_ret 39 = some .int := rfl
theorem hc_40 : ai_code 40 = cX7_setCommand := rfl
theorem hv_40 : ai_view 40 = 7 := rfl
theorem hk_40 : ai_kind 40 = 1 := rfl
theorem hn_40 : ai_n 40 = 1 := rfl
theorem hf_40 : ai_fr 40 = 1 := rfl
theorem ho_40 : ai_lo 40 = 0 := rfl
theorem hL_40 : ai_L 40 = 2 := rfl
theorem ht_40 : ai_ret 40 = none := rfl
theorem hc_41 : ai_code 41 = cX3_isInRing := rfl
theorem hv_41 : ai_view 41 = 3 := rfl
theorem hk_41 : ai_kind 41 = 1 := rfl
theorem hn_41 : ai_n 41 = 1 := rfl
theorem hf_41 : ai_fr 41 = 1 := rfl
theorem ho_41 : ai_lo 41 = 0 := rfl
theorem hL_41 : ai_L 41 = 2 := rfl
theorem ht_41 : ai_ret 41 = some .boolean := rfl
theorem hc_42 : ai_code 42 = cJ9_min_7cf53 := rfl
theorem hv_42 : ai_view 42 = 12 := rfl
theorem hk_42 : ai_kind 42 = 0 := rfl
theorem hn_42 : ai_n 42 = 2 := rfl
theorem hf_42 : ai_fr 42 = 1 := rfl
theorem ho_42 : ai_lo 42 = 0 := rfl
theorem hL_42 : ai_L 42 = 2 := rfl
theorem ht_42 : ai_ret 42 = some .int := rfl
theorem hc_43 : ai_code 43 = cX8_copyFrom := rfl
theorem hv_43 : ai_view 43 = 8 := rfl
theorem hk_43 : ai_kind 43 = 1 := rfl
theorem hn_43 : ai_n 43 = 1 := rfl
theorem hf_43 : ai_fr 43 = 2 := rfl
theorem ho_43 : ai_lo 43 = 40 := rfl
theorem hL_43 : ai_L 43 = 3 := rfl
theorem ht_43 : ai_ret 43 = none := rfl
theorem hc_44 : ai_code 44 = cX0_copyFrom := rfl
theorem hv_44 : ai_view 44 = 0 := rfl
theorem hk_44 : ai_kind 44 = 1 := rfl
theorem hn_44 : ai_n 44 = 1 := rfl
theorem hf_44 : ai_fr 44 = 3 := rfl
theorem ho_44 : ai_lo 44 = 62 := rfl
theorem hL_44 : ai_L 44 = 2 := rfl
theorem ht_44 : ai_ret 44 = none := rfl
theorem hc_45 : ai_code 45 = cX3_keep := rfl
theorem hv_45 : ai_view 45 = 3 := rfl
theorem hk_45 : ai_kind 45 = 1 := rfl
theorem hn_45 : ai_n 45 = 1 := rfl
theorem hf_45 : ai_fr 45 = 4 := rfl
theorem ho_45 : ai_lo 45 = 83 := rfl
theorem hL_45 : ai_L 45 = 2 := rfl
theorem ht_45 : ai_ret 45 = none := rfl
theorem hc_46 : ai_code 46 = cX10_begin := rfl
theorem hv_46 : ai_view 46 = 10 := rfl
theorem hk_46 : ai_kind 46 = 1 := rfl
theorem hn_46 : ai_n 46 = 0 := rfl
theorem hf_46 : ai_fr 46 = 5 := rfl
theorem ho_46 : ai_lo 46 = 104 := rfl
theorem hL_46 : ai_L 46 = 1 := rfl
theorem ht_46 : ai_ret 46 = none := rfl
theorem hc_47 : ai_code 47 = cX7_refuse := rfl
theorem hv_47 : ai_view 47 = 7 := rfl
theorem hk_47 : ai_kind 47 = 1 := rfl
theorem hn_47 : ai_n 47 = 2 := rfl
theorem hf_47 : ai_fr 47 = 1 := rfl
theorem ho_47 : ai_lo 47 = 0 := rfl
theorem hL_47 : ai_L 47 = 3 := rfl
theorem ht_47 : ai_ret 47 = some .int := rfl
theorem hc_48 : ai_code 48 = cX1_addAuthor := rfl
theorem hv_48 : ai_view 48 = 1 := rfl
theorem hk_48 : ai_kind 48 = 1 := rfl
theorem hn_48 : ai_n 48 = 0 := rfl
theorem hf_48 : ai_fr 48 = 2 := rfl
theorem ho_48 : ai_lo 48 = 22 := rfl
theorem hL_48 : ai_L 48 = 2 := rfl
theorem ht_48 : ai_ret 48 = some .int := rfl
theorem hc_49 : ai_code 49 = cX10_isError := rfl
theorem hv_49 : ai_view 49 = 10 := rfl
theorem hk_49 : ai_kind 49 = 0 := rfl
theorem hn_49 : ai_n 49 = 1 := rfl
theorem hf_49 : ai_fr 49 = 1 := rfl
theorem ho_49 : ai_lo 49 = 0 := rfl
theorem hL_49 : ai_L 49 = 1 := rfl
theorem ht_49 : ai_ret 49 = some .boolean := rfl
theorem hc_50 : ai_code 50 = cX3_confirm := rfl
theorem hv_50 : ai_view 50 = 3 := rfl
theorem hk_50 : ai_kind 50 = 1 := rfl
theorem hn_50 : ai_n 50 = 0 := rfl
theorem hf_50 : ai_fr 50 = 2 := rfl
theorem ho_50 : ai_lo 50 = 21 := rfl
theorem hL_50 : ai_L 50 = 1 := rfl
theorem ht_50 : ai_ret 50 = none := rfl
theorem hc_51 : ai_code 51 = cX10_finish := rfl
theorem hv_51 : ai_view 51 = 10 := rfl
theorem hk_51 : ai_kind 51 = 1 := rfl
theorem hn_51 : ai_n 51 = 1 := rfl
theorem hf_51 : ai_fr 51 = 3 := rfl
theorem ho_51 : ai_lo 51 = 41 := rfl
theorem hL_51 : ai_L 51 = 2 := rfl
theorem ht_51 : ai_ret 51 = some .int := rfl
theorem hc_52 : ai_code 52 = cX10_author := rfl
theorem hv_52 : ai_view 52 = 10 := rfl
theorem hk_52 : ai_kind 52 = 1 := rfl
theorem hn_52 : ai_n 52 = 0 := rfl
theorem hf_52 : ai_fr 52 = 6 := rfl
theorem ho_52 : ai_lo 52 = 124 := rfl
theorem hL_52 : ai_L 52 = 1 := rfl
theorem ht_52 : ai_ret 52 = some .int := rfl
theorem hc_53 : ai_code 53 = cX0_deathChapter := rfl
theorem hv_53 : ai_view 53 = 0 := rfl
theorem hk_53 : ai_kind 53 = 1 := rfl
theorem hn_53 : ai_n 53 = 2 := rfl
theorem hf_53 : ai_fr 53 = 2 := rfl
theorem ho_53 : ai_lo 53 = 21 := rfl
theorem hL_53 : ai_L 53 = 3 := rfl
theorem ht_53 : ai_ret 53 = some .int := rfl
theorem hc_54 : ai_code 54 = cX2_isDeathBy := rfl
theorem hv_54 : ai_view 54 = 2 := rfl
theorem hk_54 : ai_kind 54 = 1 := rfl
theorem hn_54 : ai_n 54 = 3 := rfl
theorem hf_54 : ai_fr 54 = 3 := rfl
theorem ho_54 : ai_lo 54 = 43 := rfl
theorem hL_54 : ai_L 54 = 4 := rfl
theorem ht_54 : ai_ret 54 = some .boolean := rfl
theorem hc_55 : ai_code 55 = cX2_deathsBy := rfl
theorem hv_55 : ai_view 55 = 2 := rfl
theorem hk_55 : ai_kind 55 = 1 := rfl
theorem hn_55 : ai_n 55 = 1 := rfl
theorem hf_55 : ai_fr 55 = 4 := rfl
theorem ho_55 : ai_lo 55 = 66 := rfl
theorem hL_55 : ai_L 55 = 5 := rfl
theorem ht_55 : ai_ret 55 = some .int := rfl
theorem hc_56 : ai_code 56 = cX2_solvedDeathsBy := rfl
theorem hv_56 : ai_view 56 = 2 := rfl
theorem hk_56 : ai_kind 56 = 1 := rfl
theorem hn_56 : ai_n 56 = 1 := rfl
theorem hf_56 : ai_fr 56 = 4 := rfl
theorem ho_56 : ai_lo 56 = 66 := rfl
theorem hL_56 : ai_L 56 = 5 := rfl
theorem ht_56 : ai_ret 56 = some .int := rfl
theorem hc_57 : ai_code 57 = cX10_authorOf := rfl
theorem hv_57 : ai_view 57 = 10 := rfl
theorem hk_57 : ai_kind 57 = 1 := rfl
theorem hn_57 : ai_n 57 = 2 := rfl
theorem hf_57 : ai_fr 57 = 5 := rfl
theorem ho_57 : ai_lo 57 = 90 := rfl
theorem hL_57 : ai_L 57 = 3 := rfl
theorem ht_57 : ai_ret 57 = some .int := rfl
theorem hc_58 : ai_code 58 = cX10_bitsOfShare := rfl
theorem hv_58 : ai_view 58 = 10 := rfl
theorem hk_58 : ai_kind 58 = 0 := rfl
theorem hn_58 : ai_n 58 = 1 := rfl
theorem hf_58 : ai_fr 58 = 1 := rfl
theorem ho_58 : ai_lo 58 = 0 := rfl
theorem hL_58 : ai_L 58 = 4 := rfl
theorem ht_58 : ai_ret 58 = some .int := rfl
theorem hc_59 : ai_code 59 = cX9_argument := rfl
theorem hv_59 : ai_view 59 = 9 := rfl
theorem hk_59 : ai_kind 59 = 1 := rfl
theorem hn_59 : ai_n 59 = 2 := rfl
theorem hf_59 : ai_fr 59 = 2 := rfl
theorem ho_59 : ai_lo 59 = 21 := rfl
theorem hL_59 : ai_L 59 = 3 := rfl
theorem ht_59 : ai_ret 59 = some .int := rfl
theorem hc_60 : ai_code 60 = cX9_kind := rfl
theorem hv_60 : ai_view 60 = 9 := rfl
theorem hk_60 : ai_kind 60 = 1 := rfl
theorem hn_60 : ai_n 60 = 1 := rfl
theorem hf_60 : ai_fr 60 = 2 := rfl
theorem ho_60 : ai_lo 60 = 21 := rfl
theorem hL_60 : ai_L 60 = 2 := rfl
theorem ht_60 : ai_ret 60 = some .int := rfl
theorem hc_61 : ai_code 61 = cX1_addCharacter := rfl
theorem hv_61 : ai_view 61 = 1 := rfl
theorem hk_61 : ai_kind 61 = 1 := rfl
theorem hn_61 : ai_n 61 = 0 := rfl
theorem hf_61 : ai_fr 61 = 2 := rfl
theorem ho_61 : ai_lo 61 = 22 := rfl
theorem hL_61 : ai_L 61 = 2 := rfl
theorem ht_61 : ai_ret 61 = some .int := rfl
theorem hc_62 : ai_code 62 = cX0_isCharacter := rfl
theorem hv_62 : ai_view 62 = 0 := rfl
theorem hk_62 : ai_kind 62 = 1 := rfl
theorem hn_62 : ai_n 62 = 1 := rfl
theorem hf_62 : ai_fr 62 = 1 := rfl
theorem ho_62 : ai_lo 62 = 0 := rfl
theorem hL_62 : ai_L 62 = 2 := rfl
theorem ht_62 : ai_ret 62 = some .boolean := rfl
theorem hc_63 : ai_code 63 = cX0_isChapter := rfl
theorem hv_63 : ai_view 63 = 0 := rfl
theorem hk_63 : ai_kind 63 = 0 := rfl
theorem hn_63 : ai_n 63 = 1 := rfl
theorem hf_63 : ai_fr 63 = 1 := rfl
theorem ho_63 : ai_lo 63 = 0 := rfl
theorem hL_63 : ai_L 63 = 1 := rfl
theorem ht_63 : ai_ret 63 = some .boolean := rfl
theorem hc_64 : ai_code 64 = cX0_isDeadAtLast := rfl
theorem hv_64 : ai_view 64 = 0 := rfl
theorem hk_64 : ai_kind 64 = 1 := rfl
theorem hn_64 : ai_n 64 = 1 := rfl
theorem hf_64 : ai_fr 64 = 2 := rfl
theorem ho_64 : ai_lo 64 = 21 := rfl
theorem hL_64 : ai_L 64 = 2 := rfl
theorem ht_64 : ai_ret 64 = some .boolean := rfl
theorem hc_65 : ai_code 65 = cX0_lastChapter := rfl
theorem hv_65 : ai_view 65 = 0 := rfl
theorem hk_65 : ai_kind 65 = 1 := rfl
theorem hn_65 : ai_n 65 = 1 := rfl
theorem hf_65 : ai_fr 65 = 3 := rfl
theorem ho_65 : ai_lo 65 = 43 := rfl
theorem hL_65 : ai_L 65 = 3 := rfl
theorem ht_65 : ai_ret 65 = some .int := rfl
theorem hc_66 : ai_code 66 = cX1_canTurn := rfl
theorem hv_66 : ai_view 66 = 1 := rfl
theorem hk_66 : ai_kind 66 = 1 := rfl
theorem hn_66 : ai_n 66 = 2 := rfl
theorem hf_66 : ai_fr 66 = 4 := rfl
theorem ho_66 : ai_lo 66 = 65 := rfl
theorem hL_66 : ai_L 66 = 5 := rfl
theorem ht_66 : ai_ret 66 = some .boolean := rfl
theorem hc_67 : ai_code 67 = cX0_addTurn := rfl
theorem hv_67 : ai_view 67 = 0 := rfl
theorem hk_67 : ai_kind 67 = 1 := rfl
theorem hn_67 : ai_n 67 = 2 := rfl
theorem hf_67 : ai_fr 67 = 2 := rfl
theorem ho_67 : ai_lo 67 = 22 := rfl
theorem hL_67 : ai_L 67 = 4 := rfl
theorem ht_67 : ai_ret 67 = none := rfl
theorem hc_68 : ai_code 68 = cX1_letDie := rfl
theorem hv_68 : ai_view 68 = 1 := rfl
theorem hk_68 : ai_kind 68 = 1 := rfl
theorem hn_68 : ai_n 68 = 2 := rfl
theorem hf_68 : ai_fr 68 = 5 := rfl
theorem ho_68 : ai_lo 68 = 89 := rfl
theorem hL_68 : ai_L 68 = 3 := rfl
theorem ht_68 : ai_ret 68 = some .int := rfl
theorem hc_69 : ai_code 69 = cX1_letRise := rfl
theorem hv_69 : ai_view 69 = 1 := rfl
theorem hk_69 : ai_kind 69 = 1 := rfl
theorem hn_69 : ai_n 69 = 2 := rfl
theorem hf_69 : ai_fr 69 = 5 := rfl
theorem ho_69 : ai_lo 69 = 89 := rfl
theorem hL_69 : ai_L 69 = 4 := rfl
theorem ht_69 : ai_ret 69 = some .int := rfl
theorem hc_70 : ai_code 70 = cX0_setCulprit := rfl
theorem hv_70 : ai_view 70 = 0 := rfl
theorem hk_70 : ai_kind 70 = 1 := rfl
theorem hn_70 : ai_n 70 = 3 := rfl
theorem hf_70 : ai_fr 70 = 2 := rfl
theorem ho_70 : ai_lo 70 = 22 := rfl
theorem hL_70 : ai_L 70 = 4 := rfl
theorem ht_70 : ai_ret 70 = none := rfl
theorem hc_71 : ai_code 71 = cX0_removeLastTurn := rfl
theorem hv_71 : ai_view 71 = 0 := rfl
theorem hk_71 : ai_kind 71 = 1 := rfl
theorem hn_71 : ai_n 71 = 1 := rfl
theorem hf_71 : ai_fr 71 = 3 := rfl
theorem ho_71 : ai_lo 71 = 45 := rfl
theorem hL_71 : ai_L 71 = 3 := rfl
theorem ht_71 : ai_ret 71 = none := rfl
theorem hc_72 : ai_code 72 = cX1_strikeOut := rfl
theorem hv_72 : ai_view 72 = 1 := rfl
theorem hk_72 : ai_kind 72 = 1 := rfl
theorem hn_72 : ai_n 72 = 1 := rfl
theorem hf_72 : ai_fr 72 = 4 := rfl
theorem ho_72 : ai_lo 72 = 67 := rfl
theorem hL_72 : ai_L 72 = 3 := rfl
theorem ht_72 : ai_ret 72 = some .int := rfl
theorem hc_73 : ai_code 73 = cX1_setWriter := rfl
theorem hv_73 : ai_view 73 = 1 := rfl
theorem hk_73 : ai_kind 73 = 1 := rfl
theorem hn_73 : ai_n 73 = 2 := rfl
theorem hf_73 : ai_fr 73 = 2 := rfl
theorem ho_73 : ai_lo 73 = 22 := rfl
theorem hL_73 : ai_L 73 = 4 := rfl
theorem ht_73 : ai_ret 73 = some .int := rfl
theorem hc_74 : ai_code 74 = cX10_isYesOrNo := rfl
theorem hv_74 : ai_view 74 = 10 := rfl
theorem hk_74 : ai_kind 74 = 0 := rfl
theorem hn_74 : ai_n 74 = 1 := rfl
theorem hf_74 : ai_fr 74 = 1 := rfl
theorem ho_74 : ai_lo 74 = 0 := rfl
theorem hL_74 : ai_L 74 = 1 := rfl
theorem ht_74 : ai_ret 74 = some .boolean := rfl
theorem hc_75 : ai_code 75 = cX1_setSworn := rfl
theorem hv_75 : ai_view 75 = 1 := rfl
theorem hk_75 : ai_kind 75 = 1 := rfl
theorem hn_75 : ai_n 75 = 2 := rfl
theorem hf_75 : ai_fr 75 = 3 := rfl
theorem ho_75 : ai_lo 75 = 43 := rfl
theorem hL_75 : ai_L 75 = 3 := rfl
theorem ht_75 : ai_ret 75 = some .int := rfl
theorem hc_76 : ai_code 76 = cX0_motivePages := rfl
theorem hv_76 : ai_view 76 = 0 := rfl
theorem hk_76 : ai_kind 76 = 1 := rfl
theorem hn_76 : ai_n 76 = 2 := rfl
theorem hf_76 : ai_fr 76 = 2 := rfl
theorem ho_76 : ai_lo 76 = 21 := rfl
theorem hL_76 : ai_L 76 = 3 := rfl
theorem ht_76 : ai_ret 76 = some .int := rfl
theorem hc_77 : ai_code 77 = cX1_setMotive := rfl
theorem hv_77 : ai_view 77 = 1 := rfl
theorem hk_77 : ai_kind 77 = 1 := rfl
theorem hn_77 : ai_n 77 = 3 := rfl
theorem hf_77 : ai_fr 77 = 3 := rfl
theorem ho_77 : ai_lo 77 = 43 := rfl
theorem hL_77 : ai_L 77 = 5 := rfl
theorem ht_77 : ai_ret 77 = some .int := rfl
theorem hc_78 : ai_code 78 = cX5_isSeat := rfl
theorem hv_78 : ai_view 78 = 5 := rfl
theorem hk_78 : ai_kind 78 = 0 := rfl
theorem hn_78 : ai_n 78 = 1 := rfl
theorem hf_78 : ai_fr 78 = 1 := rfl
theorem ho_78 : ai_lo 78 = 0 := rfl
theorem hL_78 : ai_L 78 = 1 := rfl
theorem ht_78 : ai_ret 78 = some .boolean := rfl
theorem hc_79 : ai_code 79 = cX1_letGo := rfl
theorem hv_79 : ai_view 79 = 1 := rfl
theorem hk_79 : ai_kind 79 = 1 := rfl
theorem hn_79 : ai_n 79 = 1 := rfl
theorem hf_79 : ai_fr 79 = 4 := rfl
theorem ho_79 : ai_lo 79 = 64 := rfl
theorem hL_79 : ai_L 79 = 2 := rfl
theorem ht_79 : ai_ret 79 = some .int := rfl
theorem hc_80 : ai_code 80 = cX5_isSeverity := rfl
theorem hv_80 : ai_view 80 = 5 := rfl
theorem hk_80 : ai_kind 80 = 0 := rfl
theorem hn_80 : ai_n 80 = 1 := rfl
theorem hf_80 : ai_fr 80 = 1 := rfl
theorem ho_80 : ai_lo 80 = 0 := rfl
theorem hL_80 : ai_L 80 = 1 := rfl
theorem ht_80 : ai_ret 80 = some .boolean := rfl
theorem hc_81 : ai_code 81 = cX1_seatReader := rfl
theorem hv_81 : ai_view 81 = 1 := rfl
theorem hk_81 : ai_kind 81 = 1 := rfl
theorem hn_81 : ai_n 81 = 2 := rfl
theorem hf_81 : ai_fr 81 = 4 := rfl
theorem ho_81 : ai_lo 81 = 64 := rfl
theorem hL_81 : ai_L 81 = 3 := rfl
theorem ht_81 : ai_ret 81 = some .int := rfl
theorem hc_82 : ai_code 82 = cX0_isDeath := rfl
theorem hv_82 : ai_view 82 = 0 := rfl
theorem hk_82 : ai_kind 82 = 1 := rfl
theorem hn_82 : ai_n 82 = 2 := rfl
theorem hf_82 : ai_fr 82 = 3 := rfl
theorem ho_82 : ai_lo 82 = 42 := rfl
theorem hL_82 : ai_L 82 = 3 := rfl
theorem ht_82 : ai_ret 82 = some .boolean := rfl
theorem hc_83 : ai_code 83 = cX0_isCase := rfl
theorem hv_83 : ai_view 83 = 0 := rfl
theorem hk_83 : ai_kind 83 = 1 := rfl
theorem hn_83 : ai_n 83 = 3 := rfl
theorem hf_83 : ai_fr 83 = 4 := rfl
theorem ho_83 : ai_lo 83 = 64 := rfl
theorem hL_83 : ai_L 83 = 4 := rfl
theorem ht_83 : ai_ret 83 = some .boolean := rfl
theorem hc_84 : ai_code 84 = cX4_isDeadIn := rfl
theorem hv_84 : ai_view 84 = 4 := rfl
theorem hk_84 : ai_kind 84 = 1 := rfl
theorem hn_84 : ai_n 84 = 2 := rfl
theorem hf_84 : ai_fr 84 = 2 := rfl
theorem ho_84 : ai_lo 84 = 21 := rfl
theorem hL_84 : ai_L 84 = 6 := rfl
theorem ht_84 : ai_ret 84 = some .boolean := rfl
theorem hc_85 : ai_code 85 = cX4_couldCause := rfl
theorem hv_85 : ai_view 85 = 4 := rfl
theorem hk_85 : ai_kind 85 = 1 := rfl
theorem hn_85 : ai_n 85 = 3 := rfl
theorem hf_85 : ai_fr 85 = 3 := rfl
theorem ho_85 : ai_lo 85 = 46 := rfl
theorem hL_85 : ai_L 85 = 4 := rfl
theorem ht_85 : ai_ret 85 = some .boolean := rfl
theorem hc_86 : ai_code 86 = cX4_weight := rfl
theorem hv_86 : ai_view 86 = 4 := rfl
theorem hk_86 : ai_kind 86 = 1 := rfl
theorem hn_86 : ai_n 86 = 3 := rfl
theorem hf_86 : ai_fr 86 = 4 := rfl
theorem ho_86 : ai_lo 86 = 69 := rfl
theorem hL_86 : ai_L 86 = 5 := rfl
theorem ht_86 : ai_ret 86 = some .int := rfl
theorem hc_87 : ai_code 87 = cX5_voteOn := rfl
theorem hv_87 : ai_view 87 = 5 := rfl
theorem hk_87 : ai_kind 87 = 1 := rfl
theorem hn_87 : ai_n 87 = 2 := rfl
theorem hf_87 : ai_fr 87 = 2 := rfl
theorem ho_87 : ai_lo 87 = 21 := rfl
theorem hL_87 : ai_L 87 = 4 := rfl
theorem ht_87 : ai_ret 87 = some .int := rfl
theorem hc_88 : ai_code 88 = cX5_votes := rfl
theorem hv_88 : ai_view 88 = 5 := rfl
theorem hk_88 : ai_kind 88 = 1 := rfl
theorem hn_88 : ai_n 88 = 1 := rfl
theorem hf_88 : ai_fr 88 = 3 := rfl
theorem ho_88 : ai_lo 88 = 44 := rfl
theorem hL_88 : ai_L 88 = 4 := rfl
theorem ht_88 : ai_ret 88 = some .int := rfl
theorem hc_89 : ai_code 89 = cX5_findsGuilty := rfl
theorem hv_89 : ai_view 89 = 5 := rfl
theorem hk_89 : ai_kind 89 = 1 := rfl
theorem hn_89 : ai_n 89 = 1 := rfl
theorem hf_89 : ai_fr 89 = 4 := rfl
theorem ho_89 : ai_lo 89 = 67 := rfl
theorem hL_89 : ai_L 89 = 2 := rfl
theorem ht_89 : ai_ret 89 = some .boolean := rfl
theorem hc_90 : ai_code 90 = cX1_holdTrial := rfl
theorem hv_90 : ai_view 90 = 1 := rfl
theorem hk_90 : ai_kind 90 = 1 := rfl
theorem hn_90 : ai_n 90 = 3 := rfl
theorem hf_90 : ai_fr 90 = 5 := rfl
theorem ho_90 : ai_lo 90 = 93 := rfl
theorem hL_90 : ai_L 90 = 4 := rfl
theorem ht_90 : ai_ret 90 = some .int := rfl
theorem hc_91 : ai_code 91 = cX10_carryOut := rfl
theorem hv_91 : ai_view 91 = 10 := rfl
theorem hk_91 : ai_kind 91 = 1 := rfl
theorem hn_91 : ai_n 91 = 1 := rfl
theorem hf_91 : ai_fr 91 = 6 := rfl
theorem ho_91 : ai_lo 91 = 116 := rfl
theorem hL_91 : ai_L 91 = 5 := rfl
theorem ht_91 : ai_ret 91 = some .int := rfl
theorem hc_92 : ai_code 92 = cX10_character := rfl
theorem hv_92 : ai_view 92 = 10 := rfl
theorem hk_92 : ai_kind 92 = 1 := rfl
theorem hn_92 : ai_n 92 = 0 := rfl
theorem hf_92 : ai_fr 92 = 6 := rfl
theorem ho_92 : ai_lo 92 = 124 := rfl
theorem hL_92 : ai_L 92 = 1 := rfl
theorem ht_92 : ai_ret 92 = some .int := rfl
theorem hc_93 : ai_code 93 = cX0_nextRising := rfl
theorem hv_93 : ai_view 93 = 0 := rfl
theorem hk_93 : ai_kind 93 = 1 := rfl
theorem hn_93 : ai_n 93 = 2 := rfl
theorem hf_93 : ai_fr 93 = 3 := rfl
theorem ho_93 : ai_lo 93 = 43 := rfl
theorem hL_93 : ai_L 93 = 4 := rfl
theorem ht_93 : ai_ret 93 = some .int := rfl
theorem hc_94 : ai_code 94 = cX2_chaptersLived := rfl
theorem hv_94 : ai_view 94 = 2 := rfl
theorem hk_94 : ai_kind 94 = 1 := rfl
theorem hn_94 : ai_n 94 = 1 := rfl
theorem hf_94 : ai_fr 94 = 4 := rfl
theorem ho_94 : ai_lo 94 = 66 := rfl
theorem hL_94 : ai_L 94 = 6 := rfl
theorem ht_94 : ai_ret 94 = some .int := rfl
theorem hc_95 : ai_code 95 = cX2_deathsCausedBy := rfl
theorem hv_95 : ai_view 95 = 2 := rfl
theorem hk_95 : ai_kind 95 = 1 := rfl
theorem hn_95 : ai_n 95 = 1 := rfl
theorem hf_95 : ai_fr 95 = 3 := rfl
theorem ho_95 : ai_lo 95 = 43 := rfl
theorem hL_95 : ai_L 95 = 5 := rfl
theorem ht_95 : ai_ret 95 = some .int := rfl
theorem hc_96 : ai_code 96 = cX2_pagesHeldBy := rfl
theorem hv_96 : ai_view 96 = 2 := rfl
theorem hk_96 : ai_kind 96 = 1 := rfl
theorem hn_96 : ai_n 96 = 1 := rfl
theorem hf_96 : ai_fr 96 = 3 := rfl
theorem ho_96 : ai_lo 96 = 43 := rfl
theorem hL_96 : ai_L 96 = 4 := rfl
theorem ht_96 : ai_ret 96 = some .int := rfl
theorem hc_97 : ai_code 97 = cX2_pagesAgainst := rfl
theorem hv_97 : ai_view 97 = 2 := rfl
theorem hk_97 : ai_kind 97 = 1 := rfl
theorem hn_97 : ai_n 97 = 1 := rfl
theorem hf_97 : ai_fr 97 = 3 := rfl
theorem ho_97 : ai_lo 97 = 43 := rfl
theorem hL_97 : ai_L 97 = 4 := rfl
theorem ht_97 : ai_ret 97 = some .int := rfl
theorem hc_98 : ai_code 98 = cX10_characterOf := rfl
theorem hv_98 : ai_view 98 = 10 := rfl
theorem hk_98 : ai_kind 98 = 1 := rfl
theorem hn_98 : ai_n 98 = 2 := rfl
theorem hf_98 : ai_fr 98 = 5 := rfl
theorem ho_98 : ai_lo 98 = 91 := rfl
theorem hL_98 : ai_L 98 = 3 := rfl
theorem ht_98 : ai_ret 98 = some .int := rfl
theorem hc_99 : ai_code 99 = cX4_deadByLatest := rfl
theorem hv_99 : ai_view 99 = 4 := rfl
theorem hk_99 : ai_kind 99 = 1 := rfl
theorem hn_99 : ai_n 99 = 1 := rfl
theorem hf_99 : ai_fr 99 = 3 := rfl
theorem ho_99 : ai_lo 99 = 46 := rfl
theorem hL_99 : ai_L 99 = 4 := rfl
theorem ht_99 : ai_ret 99 = some .int := rfl
theorem hc_100 : ai_code 100 = cJ6_bitCount_0f7a4 := rfl
theorem hv_100 : ai_view 100 = 11 := rfl
theorem hk_100 : ai_kind 100 = 0 := rfl
theorem hn_100 : ai_n 100 = 1 := rfl
theorem hf_100 : ai_fr 100 = 1 := rfl
theorem ho_100 : ai_lo 100 = 0 := rfl
theorem hL_100 : ai_L 100 = 1 := rfl
theorem ht_100 : ai_ret 100 = some .int := rfl
theorem hc_101 : ai_code 101 = cX4_darkestChapter := rfl
theorem hv_101 : ai_view 101 = 4 := rfl
theorem hk_101 : ai_kind 101 = 1 := rfl
theorem hn_101 : ai_n 101 = 0 := rfl
theorem hf_101 : ai_fr 101 = 4 := rfl
theorem ho_101 : ai_lo 101 = 69 := rfl
theorem hL_101 : ai_L 101 = 5 := rfl
theorem ht_101 : ai_ret 101 = some .int := rfl
theorem hc_102 : ai_code 102 = cX10_darkest := rfl
theorem hv_102 : ai_view 102 = 10 := rfl
theorem hk_102 : ai_kind 102 = 1 := rfl
theorem hn_102 : ai_n 102 = 1 := rfl
theorem hf_102 : ai_fr 102 = 5 := rfl
theorem ho_102 : ai_lo 102 = 93 := rfl
theorem hL_102 : ai_L 102 = 3 := rfl
theorem ht_102 : ai_ret 102 = some .int := rfl
theorem hc_103 : ai_code 103 = cX10_dead := rfl
theorem hv_103 : ai_view 103 = 10 := rfl
theorem hk_103 : ai_kind 103 = 1 := rfl
theorem hn_103 : ai_n 103 = 1 := rfl
theorem hf_103 : ai_fr 103 = 4 := rfl
theorem ho_103 : ai_lo 103 = 69 := rfl
theorem hL_103 : ai_L 103 = 2 := rfl
theorem ht_103 : ai_ret 103 = some .int := rfl
theorem hc_104 : ai_code 104 = cX4_afterChapter := rfl
theorem hv_104 : ai_view 104 = 4 := rfl
theorem hk_104 : ai_kind 104 = 1 := rfl
theorem hn_104 : ai_n 104 = 2 := rfl
theorem hf_104 : ai_fr 104 = 3 := rfl
theorem ho_104 : ai_lo 104 = 43 := rfl
theorem hL_104 : ai_L 104 = 7 := rfl
theorem ht_104 : ai_ret 104 = some .int := rfl
theorem hc_105 : ai_code 105 = cX4_deadByChapters := rfl
theorem hv_105 : ai_view 105 = 4 := rfl
theorem hk_105 : ai_kind 105 = 1 := rfl
theorem hn_105 : ai_n 105 = 1 := rfl
theorem hf_105 : ai_fr 105 = 4 := rfl
theorem ho_105 : ai_lo 105 = 69 := rfl
theorem hL_105 : ai_L 105 = 4 := rfl
theorem ht_105 : ai_ret 105 = some .int := rfl
theorem hc_106 : ai_code 106 = cX10_deadAgain := rfl
theorem hv_106 : ai_view 106 = 10 := rfl
theorem hk_106 : ai_kind 106 = 1 := rfl
theorem hn_106 : ai_n 106 = 1 := rfl
theorem hf_106 : ai_fr 106 = 5 := rfl
theorem ho_106 : ai_lo 106 = 92 := rfl
theorem hL_106 : ai_L 106 = 2 := rfl
theorem ht_106 : ai_ret 106 = some .int := rfl
theorem hc_107 : ai_code 107 = cX4_possibleCulprits := rfl
theorem hv_107 : ai_view 107 = 4 := rfl
theorem hk_107 : ai_kind 107 = 1 := rfl
theorem hn_107 : ai_n 107 = 2 := rfl
theorem hf_107 : ai_fr 107 = 4 := rfl
theorem ho_107 : ai_lo 107 = 69 := rfl
theorem hL_107 : ai_L 107 = 5 := rfl
theorem ht_107 : ai_ret 107 = some .int := rfl
theorem hc_108 : ai_code 108 = cX10_deathOf := rfl
theorem hv_108 : ai_view 108 = 10 := rfl
theorem hk_108 : ai_kind 108 = 1 := rfl
theorem hn_108 : ai_n 108 = 3 := rfl
theorem hf_108 : ai_fr 108 = 5 := rfl
theorem ho_108 : ai_lo 108 = 93 := rfl
theorem hL_108 : ai_L 108 = 4 := rfl
theorem ht_108 : ai_ret 108 = some .int := rfl
theorem hc_109 : ai_code 109 = cX10_die := rfl
theorem hv_109 : ai_view 109 = 10 := rfl
theorem hk_109 : ai_kind 109 = 1 := rfl
theorem hn_109 : ai_n 109 = 2 := rfl
theorem hf_109 : ai_fr 109 = 6 := rfl
theorem ho_109 : ai_lo 109 = 124 := rfl
theorem hL_109 : ai_L 109 = 3 := rfl
theorem ht_109 : ai_ret 109 = some .int := rfl
theorem hc_110 : ai_code 110 = cX10_guilty := rfl
theorem hv_110 : ai_view 110 = 10 := rfl
theorem hk_110 : ai_kind 110 = 1 := rfl
theorem hn_110 : ai_n 110 = 3 := rfl
theorem hf_110 : ai_fr 110 = 5 := rfl
theorem ho_110 : ai_lo 110 = 93 := rfl
theorem hL_110 : ai_L 110 = 4 := rfl
theorem ht_110 : ai_ret 110 = some .int := rfl
theorem hc_111 : ai_code 111 = cX4_deadAgree := rfl
theorem hv_111 : ai_view 111 = 4 := rfl
theorem hk_111 : ai_kind 111 = 1 := rfl
theorem hn_111 : ai_n 111 = 0 := rfl
theorem hf_111 : ai_fr 111 = 4 := rfl
theorem ho_111 : ai_lo 111 = 69 := rfl
theorem hL_111 : ai_L 111 = 3 := rfl
theorem ht_111 : ai_ret 111 = some .boolean := rfl
theorem hc_112 : ai_code 112 = cX4_suspectByCharacters := rfl
theorem hv_112 : ai_view 112 = 4 := rfl
theorem hk_112 : ai_kind 112 = 1 := rfl
theorem hn_112 : ai_n 112 = 2 := rfl
theorem hf_112 : ai_fr 112 = 4 := rfl
theorem ho_112 : ai_lo 112 = 69 := rfl
theorem hL_112 : ai_L 112 = 7 := rfl
theorem ht_112 : ai_ret 112 = some .int := rfl
theorem hc_113 : ai_code 113 = cX4_suspectByPages := rfl
theorem hv_113 : ai_view 113 = 4 := rfl
theorem hk_113 : ai_kind 113 = 1 := rfl
theorem hn_113 : ai_n 113 = 2 := rfl
theorem hf_113 : ai_fr 113 = 4 := rfl
theorem ho_113 : ai_lo 113 = 69 := rfl
theorem hL_113 : ai_L 113 = 5 := rfl
theorem ht_113 : ai_ret 113 = some .int := rfl
theorem hc_114 : ai_code 114 = cX4_suspectsAgree := rfl
theorem hv_114 : ai_view 114 = 4 := rfl
theorem hk_114 : ai_kind 114 = 1 := rfl
theorem hn_114 : ai_n 114 = 0 := rfl
theorem hf_114 : ai_fr 114 = 5 := rfl
theorem ho_114 : ai_lo 114 = 95 := rfl
theorem hL_114 : ai_L 114 = 3 := rfl
theorem ht_114 : ai_ret 114 = some .boolean := rfl
theorem hc_115 : ai_code 115 = cX4_turnsAreInOrder := rfl
theorem hv_115 : ai_view 115 = 4 := rfl
theorem hk_115 : ai_kind 115 = 1 := rfl
theorem hn_115 : ai_n 115 = 0 := rfl
theorem hf_115 : ai_fr 115 = 3 := rfl
theorem ho_115 : ai_lo 115 = 43 := rfl
theorem hL_115 : ai_L 115 = 5 := rfl
theorem ht_115 : ai_ret 115 = some .boolean := rfl
theorem hc_116 : ai_code 116 = cX10_isWell := rfl
theorem hv_116 : ai_view 116 = 10 := rfl
theorem hk_116 : ai_kind 116 = 1 := rfl
theorem hn_116 : ai_n 116 = 0 := rfl
theorem hf_116 : ai_fr 116 = 6 := rfl
theorem ho_116 : ai_lo 116 = 117 := rfl
theorem hL_116 : ai_L 116 = 1 := rfl
theorem ht_116 : ai_ret 116 = some .int := rfl
theorem hc_117 : ai_code 117 = cX10_leave := rfl
theorem hv_117 : ai_view 117 = 10 := rfl
theorem hk_117 : ai_kind 117 = 1 := rfl
theorem hn_117 : ai_n 117 = 1 := rfl
theorem hf_117 : ai_fr 117 = 6 := rfl
theorem ho_117 : ai_lo 117 = 124 := rfl
theorem hL_117 : ai_L 117 = 2 := rfl
theorem ht_117 : ai_ret 117 = some .int := rfl
theorem hc_118 : ai_code 118 = cX10_motive := rfl
theorem hv_118 : ai_view 118 = 10 := rfl
theorem hk_118 : ai_kind 118 = 1 := rfl
theorem hn_118 : ai_n 118 = 3 := rfl
theorem hf_118 : ai_fr 118 = 6 := rfl
theorem ho_118 : ai_lo 118 = 124 := rfl
theorem hL_118 : ai_L 118 = 4 := rfl
theorem ht_118 : ai_ret 118 = some .int := rfl
theorem hc_119 : ai_code 119 = cX10_pages := rfl
theorem hv_119 : ai_view 119 = 10 := rfl
theorem hk_119 : ai_kind 119 = 1 := rfl
theorem hn_119 : ai_n 119 = 2 := rfl
theorem hf_119 : ai_fr 119 = 3 := rfl
theorem ho_119 : ai_lo 119 = 43 := rfl
theorem hL_119 : ai_L 119 = 3 := rfl
theorem ht_119 : ai_ret 119 = some .int := rfl
theorem hc_120 : ai_code 120 = cX2_key := rfl
theorem hv_120 : ai_view 120 = 2 := rfl
theorem hk_120 : ai_kind 120 = 1 := rfl
theorem hn_120 : ai_n 120 = 2 := rfl
theorem hf_120 : ai_fr 120 = 5 := rfl
theorem ho_120 : ai_lo 120 = 91 := rfl
theorem hL_120 : ai_L 120 = 3 := rfl
theorem ht_120 : ai_ret 120 = some .int := rfl
theorem hc_121 : ai_code 121 = cX2_aheadOf := rfl
theorem hv_121 : ai_view 121 = 2 := rfl
theorem hk_121 : ai_kind 121 = 1 := rfl
theorem hn_121 : ai_n 121 = 2 := rfl
theorem hf_121 : ai_fr 121 = 2 := rfl
theorem ho_121 : ai_lo 121 = 21 := rfl
theorem hL_121 : ai_L 121 = 7 := rfl
theorem ht_121 : ai_ret 121 = some .int := rfl
theorem hc_122 : ai_code 122 = cX2_atPlace := rfl
theorem hv_122 : ai_view 122 = 2 := rfl
theorem hk_122 : ai_kind 122 = 1 := rfl
theorem hn_122 : ai_n 122 = 2 := rfl
theorem hf_122 : ai_fr 122 = 6 := rfl
theorem ho_122 : ai_lo 122 = 113 := rfl
theorem hL_122 : ai_L 122 = 5 := rfl
theorem ht_122 : ai_ret 122 = some .int := rfl
theorem hc_123 : ai_code 123 = cX10_ranked := rfl
theorem hv_123 : ai_view 123 = 10 := rfl
theorem hk_123 : ai_kind 123 = 1 := rfl
theorem hn_123 : ai_n 123 = 2 := rfl
theorem hf_123 : ai_fr 123 = 7 := rfl
theorem ho_123 : ai_lo 123 = 137 := rfl
theorem hL_123 : ai_L 123 = 3 := rfl
theorem ht_123 : ai_ret 123 = some .int := rfl
theorem hc_124 : ai_code 124 = cX9_ahead := rfl
theorem hv_124 : ai_view 124 = 9 := rfl
theorem hk_124 : ai_kind 124 = 1 := rfl
theorem hn_124 : ai_n 124 = 0 := rfl
theorem hf_124 : ai_fr 124 = 2 := rfl
theorem ho_124 : ai_lo 124 = 21 := rfl
theorem hL_124 : ai_L 124 = 1 := rfl
theorem ht_124 : ai_ret 124 = some .int := rfl
theorem hc_125 : ai_code 125 = cX9_take := rfl
theorem hv_125 : ai_view 125 = 9 := rfl
theorem hk_125 : ai_kind 125 = 1 := rfl
theorem hn_125 : ai_n 125 = 1 := rfl
theorem hf_125 : ai_fr 125 = 3 := rfl
theorem ho_125 : ai_lo 125 = 41 := rfl
theorem hL_125 : ai_L 125 = 2 := rfl
theorem ht_125 : ai_ret 125 = some .boolean := rfl
theorem hc_126 : ai_code 126 = cX9_isDigit := rfl
theorem hv_126 : ai_view 126 = 9 := rfl
theorem hk_126 : ai_kind 126 = 0 := rfl
theorem hn_126 : ai_n 126 = 1 := rfl
theorem hf_126 : ai_fr 126 = 1 := rfl
theorem ho_126 : ai_lo 126 = 0 := rfl
theorem hL_126 : ai_L 126 = 1 := rfl
theorem ht_126 : ai_ret 126 = some .boolean := rfl
theorem hc_127 : ai_code 127 = cX9_give := rfl
theorem hv_127 : ai_view 127 = 9 := rfl
theorem hk_127 : ai_kind 127 = 1 := rfl
theorem hn_127 : ai_n 127 = 1 := rfl
theorem hf_127 : ai_fr 127 = 2 := rfl
theorem ho_127 : ai_lo 127 = 22 := rfl
theorem hL_127 : ai_L 127 = 2 := rfl
theorem ht_127 : ai_ret 127 = none := rfl
theorem hc_128 : ai_code 128 = cX9_takeDigit := rfl
theorem hv_128 : ai_view 128 = 9 := rfl
theorem hk_128 : ai_kind 128 = 1 := rfl
theorem hn_128 : ai_n 128 = 0 := rfl
theorem hf_128 : ai_fr 128 = 3 := rfl
theorem ho_128 : ai_lo 128 = 43 := rfl
theorem hL_128 : ai_L 128 = 2 := rfl
theorem ht_128 : ai_ret 128 = some .boolean := rfl
theorem hc_129 : ai_code 129 = cX9_takeNumber := rfl
theorem hv_129 : ai_view 129 = 9 := rfl
theorem hk_129 : ai_kind 129 = 1 := rfl
theorem hn_129 : ai_n 129 = 0 := rfl
theorem hf_129 : ai_fr 129 = 3 := rfl
theorem ho_129 : ai_lo 129 = 43 := rfl
theorem hL_129 : ai_L 129 = 4 := rfl
theorem ht_129 : ai_ret 129 = some .boolean := rfl
theorem hc_130 : ai_code 130 = cX9_takePlusOrMinus := rfl
theorem hv_130 : ai_view 130 = 9 := rfl
theorem hk_130 : ai_kind 130 = 1 := rfl
theorem hn_130 : ai_n 130 = 0 := rfl
theorem hf_130 : ai_fr 130 = 4 := rfl
theorem ho_130 : ai_lo 130 = 62 := rfl
theorem hL_130 : ai_L 130 = 1 := rfl
theorem ht_130 : ai_ret 130 = some .boolean := rfl
theorem hc_131 : ai_code 131 = cX9_takeSeverityOrMinus := rfl
theorem hv_131 : ai_view 131 = 9 := rfl
theorem hk_131 : ai_kind 131 = 1 := rfl
theorem hn_131 : ai_n 131 = 0 := rfl
theorem hf_131 : ai_fr 131 = 4 := rfl
theorem ho_131 : ai_lo 131 = 64 := rfl
theorem hL_131 : ai_L 131 = 1 := rfl
theorem ht_131 : ai_ret 131 = some .boolean := rfl
theorem hc_132 : ai_code 132 = cX9_takeCommand := rfl
theorem hv_132 : ai_view 132 = 9 := rfl
theorem hk_132 : ai_kind 132 = 1 := rfl
theorem hn_132 : ai_n 132 = 0 := rfl
theorem hf_132 : ai_fr 132 = 5 := rfl
theorem ho_132 : ai_lo 132 = 84 := rfl
theorem hL_132 : ai_L 132 = 2 := rfl
theorem ht_132 : ai_ret 132 = some .boolean := rfl
theorem hc_133 : ai_code 133 = cX9_parse := rfl
theorem hv_133 : ai_view 133 = 9 := rfl
theorem hk_133 : ai_kind 133 = 1 := rfl
theorem hn_133 : ai_n 133 = 0 := rfl
theorem hf_133 : ai_fr 133 = 6 := rfl
theorem ho_133 : ai_lo 133 = 105 := rfl
theorem hL_133 : ai_L 133 = 2 := rfl
theorem ht_133 : ai_ret 133 = some .int := rfl
theorem hc_134 : ai_code 134 = cX9_clear := rfl
theorem hv_134 : ai_view 134 = 9 := rfl
theorem hk_134 : ai_kind 134 = 1 := rfl
theorem hn_134 : ai_n 134 = 0 := rfl
theorem hf_134 : ai_fr 134 = 1 := rfl
theorem ho_134 : ai_lo 134 = 0 := rfl
theorem hL_134 : ai_L 134 = 1 := rfl
theorem ht_134 : ai_ret 134 = none := rfl
theorem hc_135 : ai_code 135 = cX9_commands := rfl
theorem hv_135 : ai_view 135 = 9 := rfl
theorem hk_135 : ai_kind 135 = 1 := rfl
theorem hn_135 : ai_n 135 = 0 := rfl
theorem hf_135 : ai_fr 135 = 1 := rfl
theorem ho_135 : ai_lo 135 = 0 := rfl
theorem hL_135 : ai_L 135 = 1 := rfl
theorem ht_135 : ai_ret 135 = some .int := rfl
theorem hc_136 : ai_code 136 = cX3_takeBack := rfl
theorem hv_136 : ai_view 136 = 3 := rfl
theorem hk_136 : ai_kind 136 = 1 := rfl
theorem hn_136 : ai_n 136 = 1 := rfl
theorem hf_136 : ai_fr 136 = 4 := rfl
theorem ho_136 : ai_lo 136 = 83 := rfl
theorem hL_136 : ai_L 136 = 2 := rfl
theorem ht_136 : ai_ret 136 = none := rfl
theorem hc_137 : ai_code 137 = cX10_read := rfl
theorem hv_137 : ai_view 137 = 10 := rfl
theorem hk_137 : ai_kind 137 = 1 := rfl
theorem hn_137 : ai_n 137 = 0 := rfl
theorem hf_137 : ai_fr 137 = 7 := rfl
theorem ho_137 : ai_lo 137 = 140 := rfl
theorem hL_137 : ai_L 137 = 5 := rfl
theorem ht_137 : ai_ret 137 = some .int := rfl
theorem hc_138 : ai_code 138 = cX3_restoreSnapshot := rfl
theorem hv_138 : ai_view 138 = 3 := rfl
theorem hk_138 : ai_kind 138 = 1 := rfl
theorem hn_138 : ai_n 138 = 1 := rfl
theorem hf_138 : ai_fr 138 = 4 := rfl
theorem ho_138 : ai_lo 138 = 83 := rfl
theorem hL_138 : ai_L 138 = 2 := rfl
theorem ht_138 : ai_ret 138 = some .boolean := rfl
theorem hc_139 : ai_code 139 = cX10_restore := rfl
theorem hv_139 : ai_view 139 = 10 := rfl
theorem hk_139 : ai_kind 139 = 1 := rfl
theorem hn_139 : ai_n 139 = 0 := rfl
theorem hf_139 : ai_fr 139 = 5 := rfl
theorem ho_139 : ai_lo 139 = 104 := rfl
theorem hL_139 : ai_L 139 = 1 := rfl
theorem ht_139 : ai_ret 139 = some .int := rfl
theorem hc_140 : ai_code 140 = cX10_rise := rfl
theorem hv_140 : ai_view 140 = 10 := rfl
theorem hk_140 : ai_kind 140 = 1 := rfl
theorem hn_140 : ai_n 140 = 2 := rfl
theorem hf_140 : ai_fr 140 = 6 := rfl
theorem ho_140 : ai_lo 140 = 124 := rfl
theorem hL_140 : ai_L 140 = 3 := rfl
theorem ht_140 : ai_ret 140 = some .int := rfl
theorem hc_141 : ai_code 141 = cX3_saveSnapshot := rfl
theorem hv_141 : ai_view 141 = 3 := rfl
theorem hk_141 : ai_kind 141 = 1 := rfl
theorem hn_141 : ai_n 141 = 1 := rfl
theorem hf_141 : ai_fr 141 = 4 := rfl
theorem ho_141 : ai_lo 141 = 83 := rfl
theorem hL_141 : ai_L 141 = 2 := rfl
theorem ht_141 : ai_ret 141 = none := rfl
theorem hc_142 : ai_code 142 = cX10_save := rfl
theorem hv_142 : ai_view 142 = 10 := rfl
theorem hk_142 : ai_kind 142 = 1 := rfl
theorem hn_142 : ai_n 142 = 0 := rfl
theorem hf_142 : ai_fr 142 = 5 := rfl
theorem ho_142 : ai_lo 142 = 104 := rfl
theorem hL_142 : ai_L 142 = 1 := rfl
theorem ht_142 : ai_ret 142 = some .int := rfl
theorem hc_143 : ai_code 143 = cX10_seat := rfl
theorem hv_143 : ai_view 143 = 10 := rfl
theorem hk_143 : ai_kind 143 = 1 := rfl
theorem hn_143 : ai_n 143 = 2 := rfl
theorem hf_143 : ai_fr 143 = 6 := rfl
theorem ho_143 : ai_lo 143 = 124 := rfl
theorem hL_143 : ai_L 143 = 3 := rfl
theorem ht_143 : ai_ret 143 = some .int := rfl
theorem hc_144 : ai_code 144 = cX10_share := rfl
theorem hv_144 : ai_view 144 = 10 := rfl
theorem hk_144 : ai_kind 144 = 1 := rfl
theorem hn_144 : ai_n 144 = 0 := rfl
theorem hf_144 : ai_fr 144 = 6 := rfl
theorem ho_144 : ai_lo 144 = 110 := rfl
theorem hL_144 : ai_L 144 = 2 := rfl
theorem ht_144 : ai_ret 144 = some .int := rfl
theorem hc_145 : ai_code 145 = cX6_codeAt := rfl
theorem hv_145 : ai_view 145 = 6 := rfl
theorem hk_145 : ai_kind 145 = 1 := rfl
theorem hn_145 : ai_n 145 = 1 := rfl
theorem hf_145 : ai_fr 145 = 2 := rfl
theorem ho_145 : ai_lo 145 = 21 := rfl
theorem hL_145 : ai_L 145 = 2 := rfl
theorem ht_145 : ai_ret 145 = some .int := rfl
theorem hc_146 : ai_code 146 = cX10_sign := rfl
theorem hv_146 : ai_view 146 = 10 := rfl
theorem hk_146 : ai_kind 146 = 1 := rfl
theorem hn_146 : ai_n 146 = 1 := rfl
theorem hf_146 : ai_fr 146 = 3 := rfl
theorem ho_146 : ai_lo 146 = 42 := rfl
theorem hL_146 : ai_L 146 = 2 := rfl
theorem ht_146 : ai_ret 146 = some .int := rfl
theorem hc_147 : ai_code 147 = cX10_strike := rfl
theorem hv_147 : ai_view 147 = 10 := rfl
theorem hk_147 : ai_kind 147 = 1 := rfl
theorem hn_147 : ai_n 147 = 1 := rfl
theorem hf_147 : ai_fr 147 = 6 := rfl
theorem ho_147 : ai_lo 147 = 124 := rfl
theorem hL_147 : ai_L 147 = 2 := rfl
theorem ht_147 : ai_ret 147 = some .int := rfl
theorem hc_148 : ai_code 148 = cX10_suspect := rfl
theorem hv_148 : ai_view 148 = 10 := rfl
theorem hk_148 : ai_kind 148 = 1 := rfl
theorem hn_148 : ai_n 148 = 2 := rfl
theorem hf_148 : ai_fr 148 = 5 := rfl
theorem ho_148 : ai_lo 148 = 95 := rfl
theorem hL_148 : ai_L 148 = 3 := rfl
theorem ht_148 : ai_ret 148 = some .int := rfl
theorem hc_149 : ai_code 149 = cX10_suspectAgain := rfl
theorem hv_149 : ai_view 149 = 10 := rfl
theorem hk_149 : ai_kind 149 = 1 := rfl
theorem hn_149 : ai_n 149 = 2 := rfl
theorem hf_149 : ai_fr 149 = 5 := rfl
theorem ho_149 : ai_lo 149 = 93 := rfl
theorem hL_149 : ai_L 149 = 3 := rfl
theorem ht_149 : ai_ret 149 = some .int := rfl
theorem hc_150 : ai_code 150 = cX10_swear := rfl
theorem hv_150 : ai_view 150 = 10 := rfl
theorem hk_150 : ai_kind 150 = 1 := rfl
theorem hn_150 : ai_n 150 = 2 := rfl
theorem hf_150 : ai_fr 150 = 6 := rfl
theorem ho_150 : ai_lo 150 = 124 := rfl
theorem hL_150 : ai_L 150 = 3 := rfl
theorem ht_150 : ai_ret 150 = some .int := rfl
theorem hc_151 : ai_code 151 = cX6_clear := rfl
theorem hv_151 : ai_view 151 = 6 := rfl
theorem hk_151 : ai_kind 151 = 1 := rfl
theorem hn_151 : ai_n 151 = 0 := rfl
theorem hf_151 : ai_fr 151 = 1 := rfl
theorem ho_151 : ai_lo 151 = 0 := rfl
theorem hL_151 : ai_L 151 = 1 := rfl
theorem ht_151 : ai_ret 151 = none := rfl
theorem hc_152 : ai_code 152 = cX6_size := rfl
theorem hv_152 : ai_view 152 = 6 := rfl
theorem hk_152 : ai_kind 152 = 1 := rfl
theorem hn_152 : ai_n 152 = 0 := rfl
theorem hf_152 : ai_fr 152 = 1 := rfl
theorem ho_152 : ai_lo 152 = 0 := rfl
theorem hL_152 : ai_L 152 = 1 := rfl
theorem ht_152 : ai_ret 152 = some .int := rfl
theorem hc_153 : ai_code 153 = cX10_tellChapter := rfl
theorem hv_153 : ai_view 153 = 10 := rfl
theorem hk_153 : ai_kind 153 = 1 := rfl
theorem hn_153 : ai_n 153 = 1 := rfl
theorem hf_153 : ai_fr 153 = 5 := rfl
theorem ho_153 : ai_lo 153 = 87 := rfl
theorem hL_153 : ai_L 153 = 2 := rfl
theorem ht_153 : ai_ret 153 = some .int := rfl
theorem hc_154 : ai_code 154 = cX10_tellCharacter := rfl
theorem hv_154 : ai_view 154 = 10 := rfl
theorem hk_154 : ai_kind 154 = 1 := rfl
theorem hn_154 : ai_n 154 = 1 := rfl
theorem hf_154 : ai_fr 154 = 5 := rfl
theorem ho_154 : ai_lo 154 = 88 := rfl
theorem hL_154 : ai_L 154 = 3 := rfl
theorem ht_154 : ai_ret 154 = some .int := rfl
theorem hc_155 : ai_code 155 = cX10_tellJury := rfl
theorem hv_155 : ai_view 155 = 10 := rfl
theorem hk_155 : ai_kind 155 = 1 := rfl
theorem hn_155 : ai_n 155 = 0 := rfl
theorem hf_155 : ai_fr 155 = 4 := rfl
theorem ho_155 : ai_lo 155 = 64 := rfl
theorem hL_155 : ai_L 155 = 2 := rfl
theorem ht_155 : ai_ret 155 = some .int := rfl
theorem hc_156 : ai_code 156 = cX10_trial := rfl
theorem hv_156 : ai_view 156 = 10 := rfl
theorem hk_156 : ai_kind 156 = 1 := rfl
theorem hn_156 : ai_n 156 = 3 := rfl
theorem hf_156 : ai_fr 156 = 6 := rfl
theorem ho_156 : ai_lo 156 = 124 := rfl
theorem hL_156 : ai_L 156 = 4 := rfl
theorem ht_156 : ai_ret 156 = some .int := rfl
theorem hc_157 : ai_code 157 = cX3_stepBack := rfl
theorem hv_157 : ai_view 157 = 3 := rfl
theorem hk_157 : ai_kind 157 = 1 := rfl
theorem hn_157 : ai_n 157 = 1 := rfl
theorem hf_157 : ai_fr 157 = 5 := rfl
theorem ho_157 : ai_lo 157 = 104 := rfl
theorem hL_157 : ai_L 157 = 2 := rfl
theorem ht_157 : ai_ret 157 = some .boolean := rfl
theorem hc_158 : ai_code 158 = cX10_undo := rfl
theorem hv_158 : ai_view 158 = 10 := rfl
theorem hk_158 : ai_kind 158 = 1 := rfl
theorem hn_158 : ai_n 158 = 0 := rfl
theorem hf_158 : ai_fr 158 = 6 := rfl
theorem ho_158 : ai_lo 158 = 125 := rfl
theorem hL_158 : ai_L 158 = 1 := rfl
theorem ht_158 : ai_ret 158 = some .int := rfl
theorem hc_159 : ai_code 159 = cX5_wouldFindGuilty := rfl
theorem hv_159 : ai_view 159 = 5 := rfl
theorem hk_159 : ai_kind 159 = 1 := rfl
theorem hn_159 : ai_n 159 = 3 := rfl
theorem hf_159 : ai_fr 159 = 4 := rfl
theorem ho_159 : ai_lo 159 = 67 := rfl
theorem hL_159 : ai_L 159 = 7 := rfl
theorem ht_159 : ai_ret 159 = some .boolean := rfl
theorem hc_160 : ai_code 160 = cX10_would := rfl
theorem hv_160 : ai_view 160 = 10 := rfl
theorem hk_160 : ai_kind 160 = 1 := rfl
theorem hn_160 : ai_n 160 = 5 := rfl
theorem hf_160 : ai_fr 160 = 5 := rfl
theorem ho_160 : ai_lo 160 = 93 := rfl
theorem hL_160 : ai_L 160 = 7 := rfl
theorem ht_160 : ai_ret 160 = some .int := rfl
theorem hc_161 : ai_code 161 = cX10_write := rfl
theorem hv_161 : ai_view 161 = 10 := rfl
theorem hk_161 : ai_kind 161 = 1 := rfl
theorem hn_161 : ai_n 161 = 2 := rfl
theorem hf_161 : ai_fr 161 = 6 := rfl
theorem ho_161 : ai_lo 161 = 124 := rfl
theorem hL_161 : ai_L 161 = 3 := rfl
theorem ht_161 : ai_ret 161 = some .int := rfl
theorem hc_162 : ai_code 162 = cL_areAlike := rfl
theorem hv_162 : ai_view 162 = 19 := rfl
theorem hk_162 : ai_kind 162 = 0 := rfl
theorem hn_162 : ai_n 162 = 2 := rfl
theorem hf_162 : ai_fr 162 = 1 := rfl
theorem ho_162 : ai_lo 162 = 0 := rfl
theorem hL_162 : ai_L 162 = 3 := rfl
theorem ht_162 : ai_ret 162 = some .boolean := rfl
theorem hc_163 : ai_code 163 = cL_cell := rfl
theorem hv_163 : ai_view 163 = 19 := rfl
theorem hk_163 : ai_kind 163 = 0 := rfl
theorem hn_163 : ai_n 163 = 2 := rfl
theorem hf_163 : ai_fr 163 = 1 := rfl
theorem ho_163 : ai_lo 163 = 0 := rfl
theorem hL_163 : ai_L 163 = 3 := rfl
theorem ht_163 : ai_ret 163 = some .int := rfl
theorem hc_164 : ai_code 164 = cL_in := rfl
theorem hv_164 : ai_view 164 = 19 := rfl
theorem hk_164 : ai_kind 164 = 0 := rfl
theorem hn_164 : ai_n 164 = 3 := rfl
theorem hf_164 : ai_fr 164 = 2 := rfl
theorem ho_164 : ai_lo 164 = 22 := rfl
theorem hL_164 : ai_L 164 = 3 := rfl
theorem ht_164 : ai_ret 164 = some .int := rfl
theorem hc_165 : ai_code 165 = cL_begun := rfl
theorem hv_165 : ai_view 165 = 19 := rfl
theorem hk_165 : ai_kind 165 = 0 := rfl
theorem hn_165 : ai_n 165 = 1 := rfl
theorem hf_165 : ai_fr 165 = 7 := rfl
theorem ho_165 : ai_lo 165 = 147 := rfl
theorem hL_165 : ai_L 165 = 5 := rfl
theorem ht_165 : ai_ret 165 = some (.object "StoryCoroner") := rfl
theorem hc_166 : ai_code 166 = cL_isDead := rfl
theorem hv_166 : ai_view 166 = 19 := rfl
theorem hk_166 : ai_kind 166 = 0 := rfl
theorem hn_166 : ai_n 166 = 3 := rfl
theorem hf_166 : ai_fr 166 = 6 := rfl
theorem ho_166 : ai_lo 166 = 116 := rfl
theorem hL_166 : ai_L 166 = 5 := rfl
theorem ht_166 : ai_ret 166 = some .boolean := rfl
theorem hc_167 : ai_code 167 = cL_could := rfl
theorem hv_167 : ai_view 167 = 19 := rfl
theorem hk_167 : ai_kind 167 = 0 := rfl
theorem hn_167 : ai_n 167 = 4 := rfl
theorem hf_167 : ai_fr 167 = 7 := rfl
theorem ho_167 : ai_lo 167 = 140 := rfl
theorem hL_167 : ai_L 167 = 4 := rfl
theorem ht_167 : ai_ret 167 = some .boolean := rfl
theorem hc_168 : ai_code 168 = cJ5_init_d00df := rfl
theorem hv_168 : ai_view 168 = 15 := rfl
theorem hk_168 : ai_kind 168 = 2 := rfl
theorem hn_168 : ai_n 168 = 1 := rfl
theorem hf_168 : ai_fr 168 = 1 := rfl
theorem ho_168 : ai_lo 168 = 40 := rfl
theorem hL_168 : ai_L 168 = 2 := rfl
theorem ht_168 : ai_ret 168 = none := rfl
theorem hc_169 : ai_code 169 = cJ4_init_da8c8 := rfl
theorem hv_169 : ai_view 169 = 14 := rfl
theorem hk_169 : ai_kind 169 = 2 := rfl
theorem hn_169 : ai_n 169 = 0 := rfl
theorem hf_169 : ai_fr 169 = 2 := rfl
theorem ho_169 : ai_lo 169 = 61 := rfl
theorem hL_169 : ai_L 169 = 1 := rfl
theorem ht_169 : ai_ret 169 = none := rfl
theorem hc_170 : ai_code 170 = cJ0_coder_7d493 := rfl
theorem hv_170 : ai_view 170 = 13 := rfl
theorem hk_170 : ai_kind 170 = 1 := rfl
theorem hn_170 : ai_n 170 = 0 := rfl
theorem hf_170 : ai_fr 170 = 1 := rfl
theorem ho_170 : ai_lo 170 = 0 := rfl
theorem hL_170 : ai_L 170 = 1 := rfl
theorem ht_170 : ai_ret 170 = some .byte := rfl
theorem hc_171 : ai_code 171 = cJ0_length_8abf5 := rfl
theorem hv_171 : ai_view 171 = 13 := rfl
theorem hk_171 : ai_kind 171 = 1 := rfl
theorem hn_171 : ai_n 171 = 0 := rfl
theorem hf_171 : ai_fr 171 = 2 := rfl
theorem ho_171 : ai_lo 171 = 20 := rfl
theorem hL_171 : ai_L 171 = 1 := rfl
theorem ht_171 : ai_ret 171 = some .int := rfl
theorem hc_172 : ai_code 172 = cJ5_ensureCapacityInternal_d00df := rfl
theorem hv_172 : ai_view 172 = 15 := rfl
theorem hk_172 : ai_kind 172 = 1 := rfl
theorem hn_172 : ai_n 172 = 1 := rfl
theorem hf_172 : ai_fr 172 = 1 := rfl
theorem ho_172 : ai_lo 172 = 0 := rfl
theorem hL_172 : ai_L 172 = 3 := rfl
theorem ht_172 : ai_ret 172 = none := rfl
theorem hc_173 : ai_code 173 = cJ5_inflateIfNeededFor_a7421 := rfl
theorem hv_173 : ai_view 173 = 15 := rfl
theorem hk_173 : ai_kind 173 = 1 := rfl
theorem hn_173 : ai_n 173 = 1 := rfl
theorem hf_173 : ai_fr 173 = 2 := rfl
theorem ho_173 : ai_lo 173 = 20 := rfl
theorem hL_173 : ai_L 173 = 2 := rfl
theorem ht_173 : ai_ret 173 = none := rfl
theorem hc_174 : ai_code 174 = cJ0_getBytes_840e7 := rfl
theorem hv_174 : ai_view 174 = 13 := rfl
theorem hk_174 : ai_kind 174 = 1 := rfl
theorem hn_174 : ai_n 174 = 3 := rfl
theorem hf_174 : ai_fr 174 = 2 := rfl
theorem ho_174 : ai_lo 174 = 40 := rfl
theorem hL_174 : ai_L 174 = 4 := rfl
theorem ht_174 : ai_ret 174 = none := rfl
theorem hc_175 : ai_code 175 = cJ5_putStringAt_47b60 := rfl
theorem hv_175 : ai_view 175 = 15 := rfl
theorem hk_175 : ai_kind 175 = 1 := rfl
theorem hn_175 : ai_n 175 = 2 := rfl
theorem hf_175 : ai_fr 175 = 3 := rfl
theorem ho_175 : ai_lo 175 = 63 := rfl
theorem hL_175 : ai_L 175 = 3 := rfl
theorem ht_175 : ai_ret 175 = none := rfl
theorem hc_176 : ai_code 176 = cJ5_append_cf1ce := rfl
theorem hv_176 : ai_view 176 = 15 := rfl
theorem hk_176 : ai_kind 176 = 1 := rfl
theorem hn_176 : ai_n 176 = 1 := rfl
theorem hf_176 : ai_fr 176 = 4 := rfl
theorem ho_176 : ai_lo 176 = 85 := rfl
theorem hL_176 : ai_L 176 = 3 := rfl
theorem ht_176 : ai_ret 176 = some (.object "java/lang/AbstractStringBuilder") := rfl
theorem hc_177 : ai_code 177 = cJ4_append_15ec4 := rfl
theorem hv_177 : ai_view 177 = 14 := rfl
theorem hk_177 : ai_kind 177 = 1 := rfl
theorem hn_177 : ai_n 177 = 1 := rfl
theorem hf_177 : ai_fr 177 = 5 := rfl
theorem ho_177 : ai_lo 177 = 107 := rfl
theorem hL_177 : ai_L 177 = 2 := rfl
theorem ht_177 : ai_ret 177 = some (.object "java/lang/StringBuilder") := rfl
theorem hc_178 : ai_code 178 = cJ6_stringSize_0f7a4 := rfl
theorem hv_178 : ai_view 178 = 11 := rfl
theorem hk_178 : ai_kind 178 = 0 := rfl
theorem hn_178 : ai_n 178 = 1 := rfl
theorem hf_178 : ai_fr 178 = 1 := rfl
theorem ho_178 : ai_lo 178 = 0 := rfl
theorem hL_178 : ai_L 178 = 4 := rfl
theorem ht_178 : ai_ret 178 = some .int := rfl
theorem hc_179 : ai_code 179 = cJ5_isLatin1_aae02 := rfl
theorem hv_179 : ai_view 179 = 15 := rfl
theorem hk_179 : ai_kind 179 = 1 := rfl
theorem hn_179 : ai_n 179 = 0 := rfl
theorem hf_179 : ai_fr 179 = 1 := rfl
theorem ho_179 : ai_lo 179 = 0 := rfl
theorem hL_179 : ai_L 179 = 1 := rfl
theorem ht_179 : ai_ret 179 = some .boolean := rfl
theorem hc_180 : ai_code 180 = cJ6_getChars_ba4f3 := rfl
theorem hv_180 : ai_view 180 = 11 := rfl
theorem hk_180 : ai_kind 180 = 0 := rfl
theorem hn_180 : ai_n 180 = 3 := rfl
theorem hf_180 : ai_fr 180 = 1 := rfl
theorem ho_180 : ai_lo 180 = 0 := rfl
theorem hL_180 : ai_L 180 = 7 := rfl
theorem ht_180 : ai_ret 180 = some .int := rfl
theorem hc_181 : ai_code 181 = cJ5_append_c97b9 := rfl
theorem hv_181 : ai_view 181 = 15 := rfl
theorem hk_181 : ai_kind 181 = 1 := rfl
theorem hn_181 : ai_n 181 = 1 := rfl
theorem hf_181 : ai_fr 181 = 2 := rfl
theorem ho_181 : ai_lo 181 = 26 := rfl
theorem hL_181 : ai_L 181 = 4 := rfl
theorem ht_181 : ai_ret 181 = some (.object "java/lang/AbstractStringBuilder") := rfl
theorem hc_182 : ai_code 182 = cJ4_append_bf812 := rfl
theorem hv_182 : ai_view 182 = 14 := rfl
theorem hk_182 : ai_kind 182 = 1 := rfl
theorem hn_182 : ai_n 182 = 1 := rfl
theorem hf_182 : ai_fr 182 = 3 := rfl
theorem ho_182 : ai_lo 182 = 49 := rfl
theorem hL_182 : ai_L 182 = 2 := rfl
theorem ht_182 : ai_ret 182 = some (.object "java/lang/StringBuilder") := rfl
theorem hc_183 : ai_code 183 = cJ5_getValue_6d5f1 := rfl
theorem hv_183 : ai_view 183 = 15 := rfl
theorem hk_183 : ai_kind 183 = 1 := rfl
theorem hn_183 : ai_n 183 = 0 := rfl
theorem hf_183 : ai_fr 183 = 1 := rfl
theorem ho_183 : ai_lo 183 = 0 := rfl
theorem hL_183 : ai_L 183 = 1 := rfl
theorem ht_183 : ai_ret 183 = some (.array .byte) := rfl
theorem hc_184 : ai_code 184 = cJ5_length_8abf5 := rfl
theorem hv_184 : ai_view 184 = 15 := rfl
theorem hk_184 : ai_kind 184 = 1 := rfl
theorem hn_184 : ai_n 184 = 0 := rfl
theorem hf_184 : ai_fr 184 = 1 := rfl
theorem ho_184 : ai_lo 184 = 0 := rfl
theorem hL_184 : ai_L 184 = 1 := rfl
theorem ht_184 : ai_ret 184 = some .int := rfl
theorem hc_185 : ai_code 185 = cJ4_length_8abf5 := rfl
theorem hv_185 : ai_view 185 = 14 := rfl
theorem hk_185 : ai_kind 185 = 1 := rfl
theorem hn_185 : ai_n 185 = 0 := rfl
theorem hf_185 : ai_fr 185 = 2 := rfl
theorem ho_185 : ai_lo 185 = 20 := rfl
theorem hL_185 : ai_L 185 = 1 := rfl
theorem ht_185 : ai_ret 185 = some .int := rfl
theorem hc_186 : ai_code 186 = cJ7_checkLength_df160 := rfl
theorem hv_186 : ai_view 186 = 17 := rfl
theorem hk_186 : ai_kind 186 = 0 := rfl
theorem hn_186 : ai_n 186 = 2 := rfl
theorem hf_186 : ai_fr 186 = 1 := rfl
theorem ho_186 : ai_lo 186 = 0 := rfl
theorem hL_186 : ai_L 186 = 2 := rfl
theorem ht_186 : ai_ret 186 = none := rfl
theorem hc_187 : ai_code 187 = cJ7_copyOfRangeByte_39247 := rfl
theorem hv_187 : ai_view 187 = 17 := rfl
theorem hk_187 : ai_kind 187 = 0 := rfl
theorem hn_187 : ai_n 187 = 3 := rfl
theorem hf_187 : ai_fr 187 = 2 := rfl
theorem ho_187 : ai_lo 187 = 40 := rfl
theorem hL_187 : ai_L 187 = 5 := rfl
theorem ht_187 : ai_ret 187 = some (.array .byte) := rfl
theorem hc_188 : ai_code 188 = cJ7_copyOfRange_39247 := rfl
theorem hv_188 : ai_view 188 = 17 := rfl
theorem hk_188 : ai_kind 188 = 0 := rfl
theorem hn_188 : ai_n 188 = 3 := rfl
theorem hf_188 : ai_fr 188 = 3 := rfl
theorem ho_188 : ai_lo 188 = 64 := rfl
theorem hL_188 : ai_L 188 = 3 := rfl
theorem ht_188 : ai_ret 188 = some (.array .byte) := rfl
theorem hc_189 : ai_code 189 = cJ0_init_db425 := rfl
theorem hv_189 : ai_view 189 = 13 := rfl
theorem hk_189 : ai_kind 189 = 2 := rfl
theorem hn_189 : ai_n 189 = 2 := rfl
theorem hf_189 : ai_fr 189 = 4 := rfl
theorem ho_189 : ai_lo 189 = 86 := rfl
theorem hL_189 : ai_L 189 = 5 := rfl
theorem ht_189 : ai_ret 189 = none := rfl
theorem hc_190 : ai_code 190 = cJ0_init_81219 := rfl
theorem hv_190 : ai_view 190 = 13 := rfl
theorem hk_190 : ai_kind 190 = 2 := rfl
theorem hn_190 : ai_n 190 = 1 := rfl
theorem hf_190 : ai_fr 190 = 5 := rfl
theorem ho_190 : ai_lo 190 = 110 := rfl
theorem hL_190 : ai_L 190 = 2 := rfl
theorem ht_190 : ai_ret 190 = none := rfl
theorem hc_191 : ai_code 191 = cJ4_toString_0e30d := rfl
theorem hv_191 : ai_view 191 = 14 := rfl
theorem hk_191 : ai_kind 191 = 1 := rfl
theorem hn_191 : ai_n 191 = 0 := rfl
theorem hf_191 : ai_fr 191 = 6 := rfl
theorem ho_191 : ai_lo 191 = 131 := rfl
theorem hL_191 : ai_L 191 = 1 := rfl
theorem ht_191 : ai_ret 191 = some (.object "java/lang/String") := rfl
theorem hc_192 : ai_code 192 = cJ0_isLatin1_aae02 := rfl
theorem hv_192 : ai_view 192 = 13 := rfl
theorem hk_192 : ai_kind 192 = 1 := rfl
theorem hn_192 : ai_n 192 = 0 := rfl
theorem hf_192 : ai_fr 192 = 1 := rfl
theorem ho_192 : ai_lo 192 = 0 := rfl
theorem hL_192 : ai_L 192 = 1 := rfl
theorem ht_192 : ai_ret 192 = some .boolean := rfl
theorem hc_193 : ai_code 193 = cJ3_checkIndex_8e157 := rfl
theorem hv_193 : ai_view 193 = 18 := rfl
theorem hk_193 : ai_kind 193 = 0 := rfl
theorem hn_193 : ai_n 193 = 3 := rfl
theorem hf_193 : ai_fr 193 = 1 := rfl
theorem ho_193 : ai_lo 193 = 0 := rfl
theorem hL_193 : ai_L 193 = 3 := rfl
theorem ht_193 : ai_ret 193 = some .int := rfl
theorem hc_194 : ai_code 194 = cJ0_checkIndex_df160 := rfl
theorem hv_194 : ai_view 194 = 13 := rfl
theorem hk_194 : ai_kind 194 = 0 := rfl
theorem hn_194 : ai_n 194 = 2 := rfl
theorem hf_194 : ai_fr 194 = 2 := rfl
theorem ho_194 : ai_lo 194 = 22 := rfl
theorem hL_194 : ai_L 194 = 2 := rfl
theorem ht_194 : ai_ret 194 = none := rfl
theorem hc_195 : ai_code 195 = cJ1_charAt_3b067 := rfl
theorem hv_195 : ai_view 195 = 16 := rfl
theorem hk_195 : ai_kind 195 = 0 := rfl
theorem hn_195 : ai_n 195 = 2 := rfl
theorem hf_195 : ai_fr 195 = 3 := rfl
theorem ho_195 : ai_lo 195 = 43 := rfl
theorem hL_195 : ai_L 195 = 2 := rfl
theorem ht_195 : ai_ret 195 = some .char := rfl
theorem hc_196 : ai_code 196 = cJ0_charAt_5068e := rfl
theorem hv_196 : ai_view 196 = 13 := rfl
theorem hk_196 : ai_kind 196 = 1 := rfl
theorem hn_196 : ai_n 196 = 1 := rfl
theorem hf_196 : ai_fr 196 = 4 := rfl
theorem ho_196 : ai_lo 196 = 64 := rfl
theorem hL_196 : ai_L 196 = 2 := rfl
theorem ht_196 : ai_ret 196 = some .char := rfl
theorem hc_197 : ai_code 197 = cL_reads := rfl
theorem hv_197 : ai_view 197 = 19 := rfl
theorem hk_197 : ai_kind 197 = 0 := rfl
theorem hn_197 : ai_n 197 = 2 := rfl
theorem hf_197 : ai_fr 197 = 8 := rfl
theorem ho_197 : ai_lo 197 = 164 := rfl
theorem hL_197 : ai_L 197 = 4 := rfl
theorem ht_197 : ai_ret 197 = some .int := rfl
theorem hc_198 : ai_code 198 = cL_does := rfl
theorem hv_198 : ai_view 198 = 19 := rfl
theorem hk_198 : ai_kind 198 = 0 := rfl
theorem hn_198 : ai_n 198 = 3 := rfl
theorem hf_198 : ai_fr 198 = 9 := rfl
theorem ho_198 : ai_lo 198 = 187 := rfl
theorem hL_198 : ai_L 198 = 6 := rfl
theorem ht_198 : ai_ret 198 = some .int := rfl
theorem hc_199 : ai_code 199 = cL_isError := rfl
theorem hv_199 : ai_view 199 = 19 := rfl
theorem hk_199 : ai_kind 199 = 0 := rfl
theorem hn_199 : ai_n 199 = 1 := rfl
theorem hf_199 : ai_fr 199 = 1 := rfl
theorem ho_199 : ai_lo 199 = 0 := rfl
theorem hL_199 : ai_L 199 = 1 := rfl
theorem ht_199 : ai_ret 199 = some .boolean := rfl
theorem hc_200 : ai_code 200 = cL_isWell := rfl
theorem hv_200 : ai_view 200 = 19 := rfl
theorem hk_200 : ai_kind 200 = 0 := rfl
theorem hn_200 : ai_n 200 = 1 := rfl
theorem hf_200 : ai_fr 200 = 8 := rfl
theorem ho_200 : ai_lo 200 = 163 := rfl
theorem hL_200 : ai_L 200 = 22 := rfl
theorem ht_200 : ai_ret 200 = some .boolean := rfl
theorem hc_201 : ai_code 201 = cL_seen := rfl
theorem hv_201 : ai_view 201 = 19 := rfl
theorem hk_201 : ai_kind 201 = 0 := rfl
theorem hn_201 : ai_n 201 = 1 := rfl
theorem hf_201 : ai_fr 201 = 7 := rfl
theorem ho_201 : ai_lo 201 = 131 := rfl
theorem hL_201 : ai_L 201 = 5 := rfl
theorem ht_201 : ai_ret 201 = some (.array .int) := rfl
theorem hc_202 : ai_code 202 = cL_law := rfl
theorem hv_202 : ai_view 202 = 19 := rfl
theorem hk_202 : ai_kind 202 = 0 := rfl
theorem hn_202 : ai_n 202 = 1 := rfl
theorem hf_202 : ai_fr 202 = 10 := rfl
theorem ho_202 : ai_lo 202 = 212 := rfl
theorem hL_202 : ai_L 202 = 5 := rfl
theorem ht_202 : ai_ret 202 = some .boolean := rfl
