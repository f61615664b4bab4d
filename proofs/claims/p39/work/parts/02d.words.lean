/-! Every method's code has its word. -/
theorem ai_okd_0 : ((List.range 6).map (0 + ·)).all ai_okd = true := by decide +kernel
theorem ai_okd_1 : ((List.range 6).map (6 + ·)).all ai_okd = true := by decide +kernel
theorem ai_okd_2 : ((List.range 6).map (12 + ·)).all ai_okd = true := by decide +kernel
theorem ai_okd_3 : ((List.range 6).map (18 + ·)).all ai_okd = true := by decide +kernel
theorem ai_okd_4 : ((List.range 6).map (24 + ·)).all ai_okd = true := by decide +kernel
theorem ai_okd_5 : ((List.range 6).map (30 + ·)).all ai_okd = true := by decide +kernel
theorem ai_okd_6 : ((List.range 6).map (36 + ·)).all ai_okd = true := by decide +kernel
theorem ai_okd_7 : ((List.range 6).map (42 + ·)).all ai_okd = true := by decide +kernel
theorem ai_okd_8 : ((List.range 6).map (48 + ·)).all ai_okd = true := by decide +kernel
theorem ai_okd_9 : ((List.range 6).map (54 + ·)).all ai_okd = true := by decide +kernel
theorem ai_okd_10 : ((List.range 6).map (60 + ·)).all ai_okd = true := by decide +kernel
theorem ai_okd_11 : ((List.range 6).map (66 + ·)).all ai_okd = true := by decide +kernel
theorem ai_okd_12 : ((List.range 6).map (72 + ·)).all ai_okd = true := by decide +kernel
theorem ai_okd_13 : ((List.range 6).map (78 + ·)).all ai_okd = true := by decide +kernel
theorem ai_okd_14 : ((List.range 6).map (84 + ·)).all ai_okd = true := by decide +kernel
theorem ai_okd_15 : ((List.range 6).map (90 + ·)).all ai_okd = true := by decide +kernel
