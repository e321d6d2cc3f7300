/-! ===== by program: words ===== -/
theorem inX11_isReach_X11 : ∀ w ∈ wsX110, w ∈ wsX11_isReach := by decide +kernel
theorem inX11_isCard_X11 : ∀ w ∈ wsX110, w ∈ wsX11_isCard := by decide +kernel
theorem inX11_isRiver_X11 : ∀ w ∈ wsX110, w ∈ wsX11_isRiver := by decide +kernel
theorem inX11_feed_X11 : ∀ w ∈ wsX110, w ∈ wsX11_feed := by decide +kernel
theorem inX11_starts_X11 : ∀ w ∈ wsX110, w ∈ wsX11_starts := by decide +kernel
theorem inX11_here_X11 : ∀ w ∈ wsX110, w ∈ wsX11_here := by decide +kernel
theorem inX11_must_X11 : ∀ w ∈ wsX110, w ∈ wsX11_must := by decide +kernel
theorem inX11_figure_X11 : ∀ w ∈ wsX110, w ∈ wsX11_figure := by decide +kernel
theorem inX11_reachHere_X11 : ∀ w ∈ wsX110, w ∈ wsX11_reachHere := by decide +kernel
theorem inX11_riverHere_X11 : ∀ w ∈ wsX110, w ∈ wsX11_riverHere := by decide +kernel
theorem inX11_river_X11 : ∀ w ∈ wsX110, w ∈ wsX11_river := by decide +kernel
theorem inX11_emits_X11 : ∀ w ∈ wsX110, w ∈ wsX11_emits := by decide +kernel
theorem inX11_among_X11 : ∀ w ∈ wsX110, w ∈ wsX11_among := by decide +kernel
theorem inX11_factor_X11 : ∀ w ∈ wsX110, w ∈ wsX11_factor := by decide +kernel
theorem inX11_every_X11 : ∀ w ∈ wsX110, w ∈ wsX11_every := by decide +kernel
theorem inX11_some_X11 : ∀ w ∈ wsX110, w ∈ wsX11_some := by decide +kernel
theorem inX11_lineHere_X11 : ∀ w ∈ wsX110, w ∈ wsX11_lineHere := by decide +kernel
theorem inX11_card_X11 : ∀ w ∈ wsX110, w ∈ wsX11_card := by decide +kernel
theorem inX11_told_X11 : ∀ w ∈ wsX110, w ∈ wsX11_told := by decide +kernel
theorem inX11_hang_X11 : ∀ w ∈ wsX110, w ∈ wsX11_hang := by decide +kernel
theorem inX11_takes_X11 : ∀ w ∈ wsX110, w ∈ wsX11_takes := by decide +kernel
theorem inX11_bank_X11 : ∀ w ∈ wsX110, w ∈ wsX11_bank := by decide +kernel
theorem inX11_rings_X11 : ∀ w ∈ wsX110, w ∈ wsX11_rings := by decide +kernel
theorem inX11_lineHolds_X11 : ∀ w ∈ wsX110, w ∈ wsX11_lineHolds := by decide +kernel
theorem inX11_byLines_X11 : ∀ w ∈ wsX110, w ∈ wsX11_byLines := by decide +kernel
theorem inX11_byTurns_X11 : ∀ w ∈ wsX110, w ∈ wsX11_byTurns := by decide +kernel
theorem inX11_rising_X11 : ∀ w ∈ wsX110, w ∈ wsX11_rising := by decide +kernel
theorem inX11_boardsBy_X11 : ∀ w ∈ wsX110, w ∈ wsX11_boardsBy := by decide +kernel
theorem inX11_boardsOf_X11 : ∀ w ∈ wsX110, w ∈ wsX11_boardsOf := by decide +kernel
theorem inX11_hourGoes_X11 : ∀ w ∈ wsX110, w ∈ wsX11_hourGoes := by decide +kernel
theorem inX11_of_X11 : ∀ w ∈ wsX110, w ∈ wsX11_of := by decide +kernel
theorem inX11_stream_X11 : ∀ w ∈ wsX110, w ∈ wsX11_stream := by decide +kernel
theorem inX11_level_X11 : ∀ w ∈ wsX110, w ∈ wsX11_level := by decide +kernel
theorem inX11_hour_X11 : ∀ w ∈ wsX110, w ∈ wsX11_hour := by decide +kernel
theorem inX11_rain_X11 : ∀ w ∈ wsX110, w ∈ wsX11_rain := by decide +kernel
theorem inX11_run_X11 : ∀ w ∈ wsX110, w ∈ wsX11_run := by decide +kernel
theorem inX11_power_X11 : ∀ w ∈ wsX110, w ∈ wsX11_power := by decide +kernel
theorem inX11_rainOf_X11 : ∀ w ∈ wsX110, w ∈ wsX11_rainOf := by decide +kernel
theorem inX11_failsBy_X11 : ∀ w ∈ wsX110, w ∈ wsX11_failsBy := by decide +kernel
theorem inX11_areHolding_X11 : ∀ w ∈ wsX110, w ∈ wsX11_areHolding := by decide +kernel
theorem inX11_fails_X11 : ∀ w ∈ wsX110, w ∈ wsX11_fails := by decide +kernel
theorem inX11_fixed_X11 : ∀ w ∈ wsX110, w ∈ wsX11_fixed := by decide +kernel
theorem inX11_found_X11 : ∀ w ∈ wsX110, w ∈ wsX11_found := by decide +kernel
theorem inX11_lines_X11 : ∀ w ∈ wsX110, w ∈ wsX11_lines := by decide +kernel
theorem inX11_drunk_X11 : ∀ w ∈ wsX110, w ∈ wsX11_drunk := by decide +kernel
theorem inX11_raised_X11 : ∀ w ∈ wsX110, w ∈ wsX11_raised := by decide +kernel
theorem inX11_often_X11 : ∀ w ∈ wsX110, w ∈ wsX11_often := by decide +kernel
theorem inX11_mean_X11 : ∀ w ∈ wsX110, w ∈ wsX11_mean := by decide +kernel
theorem inX11_same_X11 : ∀ w ∈ wsX110, w ∈ wsX11_same := by decide +kernel
theorem inX11_runs_X11 : ∀ w ∈ wsX110, w ∈ wsX11_runs := by decide +kernel
theorem inX11_plainSees_X11 : ∀ w ∈ wsX110, w ∈ wsX11_plainSees := by decide +kernel
theorem inX11_seesActs_X11 : ∀ w ∈ wsX110, w ∈ wsX11_seesActs := by decide +kernel
theorem inX11_plainSets_X11 : ∀ w ∈ wsX110, w ∈ wsX11_plainSets := by decide +kernel
theorem inX11_setsActs_X11 : ∀ w ∈ wsX110, w ∈ wsX11_setsActs := by decide +kernel
theorem inX11_wakesActs_X11 : ∀ w ∈ wsX110, w ∈ wsX11_wakesActs := by decide +kernel
theorem inX11_act_X11 : ∀ w ∈ wsX110, w ∈ wsX11_act := by decide +kernel
theorem inX11_trace_X11 : ∀ w ∈ wsX110, w ∈ wsX11_trace := by decide +kernel
theorem inX11_as_X11 : ∀ w ∈ wsX110, w ∈ wsX11_as := by decide +kernel
theorem inX11_image_X11 : ∀ w ∈ wsX110, w ∈ wsX11_image := by decide +kernel
theorem inX11_undo_X11 : ∀ w ∈ wsX110, w ∈ wsX11_undo := by decide +kernel
theorem inX11_count_X11 : ∀ w ∈ wsX110, w ∈ wsX11_count := by decide +kernel
theorem inX10_feed_X10 : ∀ w ∈ wsX100, w ∈ wsX10_feed := by decide +kernel
theorem inX10_feed_X9 : ∀ w ∈ wsX90, w ∈ wsX10_feed := by decide +kernel
theorem inX9_putByte_X9 : ∀ w ∈ wsX90, w ∈ wsX9_putByte := by decide +kernel
theorem inX10_river_X10 : ∀ w ∈ wsX100, w ∈ wsX10_river := by decide +kernel
theorem inX2_begin_X9 : ∀ w ∈ wsX90, w ∈ wsX2_begin := by decide +kernel
theorem inX2_begin_X4 : ∀ w ∈ wsX40, w ∈ wsX2_begin := by decide +kernel
theorem inX4_reads_X4 : ∀ w ∈ wsX40, w ∈ wsX4_reads := by decide +kernel
theorem inX3_clear_X3 : ∀ w ∈ wsX30, w ∈ wsX3_clear := by decide +kernel
theorem inX3_clear_X8 : ∀ w ∈ wsX80, w ∈ wsX3_clear := by decide +kernel
theorem inX2_needsEnd_X4 : ∀ w ∈ wsX40, w ∈ wsX2_needsEnd := by decide +kernel
theorem inX2_fail_X4 : ∀ w ∈ wsX40, w ∈ wsX2_fail := by decide +kernel
theorem inX4_reads_X3 : ∀ w ∈ wsX30, w ∈ wsX4_reads := by decide +kernel
theorem inX2_faultPlace_X4 : ∀ w ∈ wsX40, w ∈ wsX2_faultPlace := by decide +kernel
theorem inX2_next_X4 : ∀ w ∈ wsX40, w ∈ wsX2_next := by decide +kernel
theorem inX2_takes_X4 : ∀ w ∈ wsX40, w ∈ wsX2_takes := by decide +kernel
theorem inX4_readSpanOrSum_X4 : ∀ w ∈ wsX40, w ∈ wsX4_readSpanOrSum := by decide +kernel
theorem inX2_digit_X4 : ∀ w ∈ wsX40, w ∈ wsX2_digit := by decide +kernel
theorem inX4_readSpanOrSum_X3 : ∀ w ∈ wsX30, w ∈ wsX4_readSpanOrSum := by decide +kernel
theorem inX4_readClause_X4 : ∀ w ∈ wsX40, w ∈ wsX4_readClause := by decide +kernel
theorem inX4_readClause_X3 : ∀ w ∈ wsX30, w ∈ wsX4_readClause := by decide +kernel
theorem inX4_readReach_X4 : ∀ w ∈ wsX40, w ∈ wsX4_readReach := by decide +kernel
theorem inX3_addReach_X3 : ∀ w ∈ wsX30, w ∈ wsX3_addReach := by decide +kernel
theorem inX3_addReach_X8 : ∀ w ∈ wsX80, w ∈ wsX3_addReach := by decide +kernel
theorem inX10_river_X9 : ∀ w ∈ wsX90, w ∈ wsX10_river := by decide +kernel
theorem inX10_river_X4 : ∀ w ∈ wsX40, w ∈ wsX10_river := by decide +kernel
theorem inX3_becomes_X3 : ∀ w ∈ wsX30, w ∈ wsX3_becomes := by decide +kernel
theorem inX8_becomes_X8 : ∀ w ∈ wsX80, w ∈ wsX8_becomes := by decide +kernel
theorem inX10_river_X3 : ∀ w ∈ wsX30, w ∈ wsX10_river := by decide +kernel
theorem inX10_told_X10 : ∀ w ∈ wsX100, w ∈ wsX10_told := by decide +kernel
theorem inX9_cardOf_X9 : ∀ w ∈ wsX90, w ∈ wsX9_cardOf := by decide +kernel
theorem inX10_told_X0 : ∀ w ∈ wsX00, w ∈ wsX10_told := by decide +kernel
theorem inX10_isReach_X10 : ∀ w ∈ wsX100, w ∈ wsX10_isReach := by decide +kernel
theorem inX10_isReach_X9 : ∀ w ∈ wsX90, w ∈ wsX10_isReach := by decide +kernel
theorem inX10_isReach_X3 : ∀ w ∈ wsX30, w ∈ wsX10_isReach := by decide +kernel
theorem inX10_hang_X10 : ∀ w ∈ wsX100, w ∈ wsX10_hang := by decide +kernel
theorem inX10_hang_X9 : ∀ w ∈ wsX90, w ∈ wsX10_hang := by decide +kernel
theorem inX10_hang_X3 : ∀ w ∈ wsX30, w ∈ wsX10_hang := by decide +kernel
theorem inX10_of_X10 : ∀ w ∈ wsX100, w ∈ wsX10_of := by decide +kernel
theorem inX10_of_X9 : ∀ w ∈ wsX90, w ∈ wsX10_of := by decide +kernel
theorem inX10_of_X3 : ∀ w ∈ wsX30, w ∈ wsX10_of := by decide +kernel
theorem inX10_of_X8 : ∀ w ∈ wsX80, w ∈ wsX10_of := by decide +kernel
theorem inX10_isRiver_X10 : ∀ w ∈ wsX100, w ∈ wsX10_isRiver := by decide +kernel
theorem inX10_isRiver_X9 : ∀ w ∈ wsX90, w ∈ wsX10_isRiver := by decide +kernel
theorem inX10_isRiver_X3 : ∀ w ∈ wsX30, w ∈ wsX10_isRiver := by decide +kernel
theorem inX10_stream_X10 : ∀ w ∈ wsX100, w ∈ wsX10_stream := by decide +kernel
theorem inX10_stream_X9 : ∀ w ∈ wsX90, w ∈ wsX10_stream := by decide +kernel
theorem inX10_stream_X3 : ∀ w ∈ wsX30, w ∈ wsX10_stream := by decide +kernel
theorem inX10_stream_X8 : ∀ w ∈ wsX80, w ∈ wsX10_stream := by decide +kernel
theorem inX10_level_X10 : ∀ w ∈ wsX100, w ∈ wsX10_level := by decide +kernel
theorem inX10_level_X9 : ∀ w ∈ wsX90, w ∈ wsX10_level := by decide +kernel
theorem inX10_level_X3 : ∀ w ∈ wsX30, w ∈ wsX10_level := by decide +kernel
theorem inX10_level_X8 : ∀ w ∈ wsX80, w ∈ wsX10_level := by decide +kernel
theorem inX10_boards_X10 : ∀ w ∈ wsX100, w ∈ wsX10_boards := by decide +kernel
theorem inX7_begin_X7 : ∀ w ∈ wsX70, w ∈ wsX7_begin := by decide +kernel
theorem inX7_begin_X9 : ∀ w ∈ wsX90, w ∈ wsX7_begin := by decide +kernel
theorem inX7_begin_X3 : ∀ w ∈ wsX30, w ∈ wsX7_begin := by decide +kernel
theorem inX7_boardsNext_X7 : ∀ w ∈ wsX70, w ∈ wsX7_boardsNext := by decide +kernel
theorem inX7_boardsNext_X8 : ∀ w ∈ wsX80, w ∈ wsX7_boardsNext := by decide +kernel
theorem inX7_setBoards_X7 : ∀ w ∈ wsX70, w ∈ wsX7_setBoards := by decide +kernel
theorem inX7_setBoards_X8 : ∀ w ∈ wsX80, w ∈ wsX7_setBoards := by decide +kernel
theorem inX7_setBoards_X5 : ∀ w ∈ wsX50, w ∈ wsX7_setBoards := by decide +kernel
theorem inX7_setBoards_X3 : ∀ w ∈ wsX30, w ∈ wsX7_setBoards := by decide +kernel
theorem inX0_boardsBy_X0 : ∀ w ∈ wsX00, w ∈ wsX0_boardsBy := by decide +kernel
theorem inX0_byLines_X0 : ∀ w ∈ wsX00, w ∈ wsX0_byLines := by decide +kernel
theorem inX0_lineHolds_X0 : ∀ w ∈ wsX00, w ∈ wsX0_lineHolds := by decide +kernel
theorem inX5_passes_X5 : ∀ w ∈ wsX50, w ∈ wsX5_passes := by decide +kernel
theorem inX0_risen_X5 : ∀ w ∈ wsX50, w ∈ wsX0_risen := by decide +kernel
theorem inX0_boardsBy_X5 : ∀ w ∈ wsX50, w ∈ wsX0_boardsBy := by decide +kernel
theorem inX0_inTurn_X0 : ∀ w ∈ wsX00, w ∈ wsX0_inTurn := by decide +kernel
theorem inX10_hour_X10 : ∀ w ∈ wsX100, w ∈ wsX10_hour := by decide +kernel
theorem inX10_hour_X9 : ∀ w ∈ wsX90, w ∈ wsX10_hour := by decide +kernel
theorem inX10_hour_X3 : ∀ w ∈ wsX30, w ∈ wsX10_hour := by decide +kernel
theorem inX10_hour_X8 : ∀ w ∈ wsX80, w ∈ wsX10_hour := by decide +kernel
theorem inX7_goesBy_X7 : ∀ w ∈ wsX70, w ∈ wsX7_goesBy := by decide +kernel
theorem inX7_goesBy_X8 : ∀ w ∈ wsX80, w ∈ wsX7_goesBy := by decide +kernel
theorem inX7_letFall_X7 : ∀ w ∈ wsX70, w ∈ wsX7_letFall := by decide +kernel
theorem inX7_letFall_X3 : ∀ w ∈ wsX30, w ∈ wsX7_letFall := by decide +kernel
theorem inX7_letFall_X8 : ∀ w ∈ wsX80, w ∈ wsX7_letFall := by decide +kernel
theorem inX10_hour_X7 : ∀ w ∈ wsX70, w ∈ wsX10_hour := by decide +kernel
theorem inX10_rain_X10 : ∀ w ∈ wsX100, w ∈ wsX10_rain := by decide +kernel
theorem inX10_rain_X9 : ∀ w ∈ wsX90, w ∈ wsX10_rain := by decide +kernel
theorem inX9_putRain_X9 : ∀ w ∈ wsX90, w ∈ wsX9_putRain := by decide +kernel
theorem inX10_run_X10 : ∀ w ∈ wsX100, w ∈ wsX10_run := by decide +kernel
theorem inX10_run_X9 : ∀ w ∈ wsX90, w ∈ wsX10_run := by decide +kernel
theorem inX7_sumOfLevels_X7 : ∀ w ∈ wsX70, w ∈ wsX7_sumOfLevels := by decide +kernel
theorem inX7_sumOfLevels_X3 : ∀ w ∈ wsX30, w ∈ wsX7_sumOfLevels := by decide +kernel
theorem inX7_sumOfLevels_X8 : ∀ w ∈ wsX80, w ∈ wsX7_sumOfLevels := by decide +kernel
theorem inX10_run_X7 : ∀ w ∈ wsX70, w ∈ wsX10_run := by decide +kernel
theorem inX7_dryMills_X7 : ∀ w ∈ wsX70, w ∈ wsX7_dryMills := by decide +kernel
theorem inX7_dryMills_X3 : ∀ w ∈ wsX30, w ∈ wsX7_dryMills := by decide +kernel
theorem inX7_dryMills_X8 : ∀ w ∈ wsX80, w ∈ wsX7_dryMills := by decide +kernel
theorem inX10_holds_X10 : ∀ w ∈ wsX100, w ∈ wsX10_holds := by decide +kernel
theorem inX7_isSafe_X7 : ∀ w ∈ wsX70, w ∈ wsX7_isSafe := by decide +kernel
theorem inX7_isSafe_X3 : ∀ w ∈ wsX30, w ∈ wsX7_isSafe := by decide +kernel
theorem inX7_goesOver_X8 : ∀ w ∈ wsX80, w ∈ wsX7_goesOver := by decide +kernel
theorem inX7_goesOver_X7 : ∀ w ∈ wsX70, w ∈ wsX7_goesOver := by decide +kernel
theorem inX7_goesOver_X3 : ∀ w ∈ wsX30, w ∈ wsX7_goesOver := by decide +kernel
theorem inX7_mayGoOver_X7 : ∀ w ∈ wsX70, w ∈ wsX7_mayGoOver := by decide +kernel
theorem inX7_mayGoOver_X3 : ∀ w ∈ wsX30, w ∈ wsX7_mayGoOver := by decide +kernel
theorem inX7_mayGoOver_X8 : ∀ w ∈ wsX80, w ∈ wsX7_mayGoOver := by decide +kernel
theorem inX10_fails_X10 : ∀ w ∈ wsX100, w ∈ wsX10_fails := by decide +kernel
theorem inX10_fails_X7 : ∀ w ∈ wsX70, w ∈ wsX10_fails := by decide +kernel
theorem inX7_rainOf_X7 : ∀ w ∈ wsX70, w ∈ wsX7_rainOf := by decide +kernel
theorem inX7_rainOf_X8 : ∀ w ∈ wsX80, w ∈ wsX7_rainOf := by decide +kernel
theorem inX10_fixed_X10 : ∀ w ∈ wsX100, w ∈ wsX10_fixed := by decide +kernel
theorem inX10_fixed_X9 : ∀ w ∈ wsX90, w ∈ wsX10_fixed := by decide +kernel
theorem inX10_fixed_X3 : ∀ w ∈ wsX30, w ∈ wsX10_fixed := by decide +kernel
theorem inX7_fixBoards_X7 : ∀ w ∈ wsX70, w ∈ wsX7_fixBoards := by decide +kernel
theorem inX7_fixBoards_X3 : ∀ w ∈ wsX30, w ∈ wsX7_fixBoards := by decide +kernel
theorem inX7_fixBoards_X8 : ∀ w ∈ wsX80, w ∈ wsX7_fixBoards := by decide +kernel
theorem inX10_fixed_X7 : ∀ w ∈ wsX70, w ∈ wsX10_fixed := by decide +kernel
theorem inX10_fixed_X8 : ∀ w ∈ wsX80, w ∈ wsX10_fixed := by decide +kernel
theorem inX10_drunk_X10 : ∀ w ∈ wsX100, w ∈ wsX10_drunk := by decide +kernel
theorem inX10_drunk_X9 : ∀ w ∈ wsX90, w ∈ wsX10_drunk := by decide +kernel
theorem inX10_drunk_X3 : ∀ w ∈ wsX30, w ∈ wsX10_drunk := by decide +kernel
theorem inX10_drunk_X7 : ∀ w ∈ wsX70, w ∈ wsX10_drunk := by decide +kernel
theorem inX10_raised_X10 : ∀ w ∈ wsX100, w ∈ wsX10_raised := by decide +kernel
theorem inX10_raised_X9 : ∀ w ∈ wsX90, w ∈ wsX10_raised := by decide +kernel
theorem inX7_raiseBanks_X7 : ∀ w ∈ wsX70, w ∈ wsX7_raiseBanks := by decide +kernel
theorem inX7_raiseBanks_X3 : ∀ w ∈ wsX30, w ∈ wsX7_raiseBanks := by decide +kernel
theorem inX10_mean_X10 : ∀ w ∈ wsX100, w ∈ wsX10_mean := by decide +kernel
theorem inX7_weightOver_X7 : ∀ w ∈ wsX70, w ∈ wsX7_weightOver := by decide +kernel
theorem inX7_weigh_X8 : ∀ w ∈ wsX80, w ∈ wsX7_weigh := by decide +kernel
theorem inX7_weigh_X7 : ∀ w ∈ wsX70, w ∈ wsX7_weigh := by decide +kernel
theorem inX7_weigh_X3 : ∀ w ∈ wsX30, w ∈ wsX7_weigh := by decide +kernel
theorem inX7_weightOf_X7 : ∀ w ∈ wsX70, w ∈ wsX7_weightOf := by decide +kernel
theorem inX7_weightOf_X3 : ∀ w ∈ wsX30, w ∈ wsX7_weightOf := by decide +kernel
theorem inX10_mean_X9 : ∀ w ∈ wsX90, w ∈ wsX10_mean := by decide +kernel
theorem inX10_mean_X3 : ∀ w ∈ wsX30, w ∈ wsX10_mean := by decide +kernel
theorem inX10_same_X10 : ∀ w ∈ wsX100, w ∈ wsX10_same := by decide +kernel
theorem inX10_same_X9 : ∀ w ∈ wsX90, w ∈ wsX10_same := by decide +kernel
theorem inX7_hangAll_X7 : ∀ w ∈ wsX70, w ∈ wsX7_hangAll := by decide +kernel
theorem inX10_same_X7 : ∀ w ∈ wsX70, w ∈ wsX10_same := by decide +kernel
theorem inX10_act_X10 : ∀ w ∈ wsX100, w ∈ wsX10_act := by decide +kernel
theorem inX6_clear_X6 : ∀ w ∈ wsX60, w ∈ wsX6_clear := by decide +kernel
theorem inX6_perform_X0 : ∀ w ∈ wsX00, w ∈ wsX6_perform := by decide +kernel
theorem inX6_note_X6 : ∀ w ∈ wsX60, w ∈ wsX6_note := by decide +kernel
theorem inX6_runFrom_X0 : ∀ w ∈ wsX00, w ∈ wsX6_runFrom := by decide +kernel
theorem inX10_trace_X10 : ∀ w ∈ wsX100, w ∈ wsX10_trace := by decide +kernel
theorem inX10_trace_X6 : ∀ w ∈ wsX60, w ∈ wsX10_trace := by decide +kernel
theorem inX10_as_X10 : ∀ w ∈ wsX100, w ∈ wsX10_as := by decide +kernel
theorem inX0_isUnder_X0 : ∀ w ∈ wsX00, w ∈ wsX0_isUnder := by decide +kernel
theorem inX10_as_X0 : ∀ w ∈ wsX00, w ∈ wsX10_as := by decide +kernel
theorem inX10_image_X10 : ∀ w ∈ wsX100, w ∈ wsX10_image := by decide +kernel
theorem inX9_becomes_X9 : ∀ w ∈ wsX90, w ∈ wsX9_becomes := by decide +kernel
theorem inX10_image_X9 : ∀ w ∈ wsX90, w ∈ wsX10_image := by decide +kernel
theorem inX10_undo_X10 : ∀ w ∈ wsX100, w ∈ wsX10_undo := by decide +kernel
theorem inX10_undo_X9 : ∀ w ∈ wsX90, w ∈ wsX10_undo := by decide +kernel
theorem inX10_count_X10 : ∀ w ∈ wsX100, w ∈ wsX10_count := by decide +kernel
theorem inX10_count_X9 : ∀ w ∈ wsX90, w ∈ wsX10_count := by decide +kernel
theorem inX10_count_X3 : ∀ w ∈ wsX30, w ∈ wsX10_count := by decide +kernel
theorem inX10_count_X6 : ∀ w ∈ wsX60, w ∈ wsX10_count := by decide +kernel
theorem inX9_putCard_X9 : ∀ w ∈ wsX90, w ∈ wsX9_putCard := by decide +kernel
theorem inX7_putInstead_X7 : ∀ w ∈ wsX70, w ∈ wsX7_putInstead := by decide +kernel
theorem inX7_putInstead_X0 : ∀ w ∈ wsX00, w ∈ wsX7_putInstead := by decide +kernel
theorem inX2_begin_X1 : ∀ w ∈ wsX10, w ∈ wsX2_begin := by decide +kernel
theorem inX1_reads_X1 : ∀ w ∈ wsX10, w ∈ wsX1_reads := by decide +kernel
theorem inX2_needsEnd_X1 : ∀ w ∈ wsX10, w ∈ wsX2_needsEnd := by decide +kernel
theorem inX2_fail_X1 : ∀ w ∈ wsX10, w ∈ wsX2_fail := by decide +kernel
theorem inX2_faultPlace_X1 : ∀ w ∈ wsX10, w ∈ wsX2_faultPlace := by decide +kernel
theorem inX2_next_X1 : ∀ w ∈ wsX10, w ∈ wsX2_next := by decide +kernel
theorem inX2_digit_X1 : ∀ w ∈ wsX10, w ∈ wsX2_digit := by decide +kernel
theorem inX2_takes_X1 : ∀ w ∈ wsX10, w ∈ wsX2_takes := by decide +kernel
theorem inX2_oneOf_X1 : ∀ w ∈ wsX10, w ∈ wsX2_oneOf := by decide +kernel
theorem inX1_putStep_X1 : ∀ w ∈ wsX10, w ∈ wsX1_putStep := by decide +kernel
theorem dmX11_in : yX11_in.cls ≠ "java/lang/invoke/MethodHandle" ∧ yX11_in.cls ≠ "java/lang/invoke/VarHandle" ∧ (parseMethodDescriptor yX11_in.desc).map (fun d => d.parameters.length) = some 3 := by decide +kernel
theorem dmX11_here : yX11_here.cls ≠ "java/lang/invoke/MethodHandle" ∧ yX11_here.cls ≠ "java/lang/invoke/VarHandle" ∧ (parseMethodDescriptor yX11_here.desc).map (fun d => d.parameters.length) = some 0 := by decide +kernel
theorem dmJ0_coder_7d493 : yJ0_coder_7d493.cls ≠ "java/lang/invoke/MethodHandle" ∧ yJ0_coder_7d493.cls ≠ "java/lang/invoke/VarHandle" ∧ (parseMethodDescriptor yJ0_coder_7d493.desc).map (fun d => d.parameters.length) = some 0 := by decide +kernel
theorem dmJ3_checkIndex_8e157 : yJ3_checkIndex_8e157.cls ≠ "java/lang/invoke/MethodHandle" ∧ yJ3_checkIndex_8e157.cls ≠ "java/lang/invoke/VarHandle" ∧ (parseMethodDescriptor yJ3_checkIndex_8e157.desc).map (fun d => d.parameters.length) = some 3 := by decide +kernel
theorem dmJ2_length_9d52b : yJ2_length_9d52b.cls ≠ "java/lang/invoke/MethodHandle" ∧ yJ2_length_9d52b.cls ≠ "java/lang/invoke/VarHandle" ∧ (parseMethodDescriptor yJ2_length_9d52b.desc).map (fun d => d.parameters.length) = some 1 := by decide +kernel
theorem dmJ0_checkIndex_df160 : yJ0_checkIndex_df160.cls ≠ "java/lang/invoke/MethodHandle" ∧ yJ0_checkIndex_df160.cls ≠ "java/lang/invoke/VarHandle" ∧ (parseMethodDescriptor yJ0_checkIndex_df160.desc).map (fun d => d.parameters.length) = some 2 := by decide +kernel
theorem dmJ2_checkIndex_2214a : yJ2_checkIndex_2214a.cls ≠ "java/lang/invoke/MethodHandle" ∧ yJ2_checkIndex_2214a.cls ≠ "java/lang/invoke/VarHandle" ∧ (parseMethodDescriptor yJ2_checkIndex_2214a.desc).map (fun d => d.parameters.length) = some 2 := by decide +kernel
theorem dmJ2_getChar_3b067 : yJ2_getChar_3b067.cls ≠ "java/lang/invoke/MethodHandle" ∧ yJ2_getChar_3b067.cls ≠ "java/lang/invoke/VarHandle" ∧ (parseMethodDescriptor yJ2_getChar_3b067.desc).map (fun d => d.parameters.length) = some 2 := by decide +kernel
theorem dmJ0_isLatin1_aae02 : yJ0_isLatin1_aae02.cls ≠ "java/lang/invoke/MethodHandle" ∧ yJ0_isLatin1_aae02.cls ≠ "java/lang/invoke/VarHandle" ∧ (parseMethodDescriptor yJ0_isLatin1_aae02.desc).map (fun d => d.parameters.length) = some 0 := by decide +kernel
theorem dmJ2_charAt_3b067 : yJ2_charAt_3b067.cls ≠ "java/lang/invoke/MethodHandle" ∧ yJ2_charAt_3b067.cls ≠ "java/lang/invoke/VarHandle" ∧ (parseMethodDescriptor yJ2_charAt_3b067.desc).map (fun d => d.parameters.length) = some 2 := by decide +kernel
theorem dmJ1_charAt_3b067 : yJ1_charAt_3b067.cls ≠ "java/lang/invoke/MethodHandle" ∧ yJ1_charAt_3b067.cls ≠ "java/lang/invoke/VarHandle" ∧ (parseMethodDescriptor yJ1_charAt_3b067.desc).map (fun d => d.parameters.length) = some 2 := by decide +kernel
theorem dmJ0_length_8abf5 : yJ0_length_8abf5.cls ≠ "java/lang/invoke/MethodHandle" ∧ yJ0_length_8abf5.cls ≠ "java/lang/invoke/VarHandle" ∧ (parseMethodDescriptor yJ0_length_8abf5.desc).map (fun d => d.parameters.length) = some 0 := by decide +kernel
theorem dmJ0_charAt_5068e : yJ0_charAt_5068e.cls ≠ "java/lang/invoke/MethodHandle" ∧ yJ0_charAt_5068e.cls ≠ "java/lang/invoke/VarHandle" ∧ (parseMethodDescriptor yJ0_charAt_5068e.desc).map (fun d => d.parameters.length) = some 1 := by decide +kernel
theorem dmX11_must : yX11_must.cls ≠ "java/lang/invoke/MethodHandle" ∧ yX11_must.cls ≠ "java/lang/invoke/VarHandle" ∧ (parseMethodDescriptor yX11_must.desc).map (fun d => d.parameters.length) = some 1 := by decide +kernel
theorem dmX11_spells : yX11_spells.cls ≠ "java/lang/invoke/MethodHandle" ∧ yX11_spells.cls ≠ "java/lang/invoke/VarHandle" ∧ (parseMethodDescriptor yX11_spells.desc).map (fun d => d.parameters.length) = some 1 := by decide +kernel
theorem dmX11_figure : yX11_figure.cls ≠ "java/lang/invoke/MethodHandle" ∧ yX11_figure.cls ≠ "java/lang/invoke/VarHandle" ∧ (parseMethodDescriptor yX11_figure.desc).map (fun d => d.parameters.length) = some 2 := by decide +kernel
theorem dmX11_reachHere : yX11_reachHere.cls ≠ "java/lang/invoke/MethodHandle" ∧ yX11_reachHere.cls ≠ "java/lang/invoke/VarHandle" ∧ (parseMethodDescriptor yX11_reachHere.desc).map (fun d => d.parameters.length) = some 0 := by decide +kernel
theorem dmX11_starts : yX11_starts.cls ≠ "java/lang/invoke/MethodHandle" ∧ yX11_starts.cls ≠ "java/lang/invoke/VarHandle" ∧ (parseMethodDescriptor yX11_starts.desc).map (fun d => d.parameters.length) = some 0 := by decide +kernel
theorem dmX11_riverHere : yX11_riverHere.cls ≠ "java/lang/invoke/MethodHandle" ∧ yX11_riverHere.cls ≠ "java/lang/invoke/VarHandle" ∧ (parseMethodDescriptor yX11_riverHere.desc).map (fun d => d.parameters.length) = some 0 := by decide +kernel
theorem dmX11_factor : yX11_factor.cls ≠ "java/lang/invoke/MethodHandle" ∧ yX11_factor.cls ≠ "java/lang/invoke/VarHandle" ∧ (parseMethodDescriptor yX11_factor.desc).map (fun d => d.parameters.length) = some 0 := by decide +kernel
theorem dmX11_emits : yX11_emits.cls ≠ "java/lang/invoke/MethodHandle" ∧ yX11_emits.cls ≠ "java/lang/invoke/VarHandle" ∧ (parseMethodDescriptor yX11_emits.desc).map (fun d => d.parameters.length) = some 1 := by decide +kernel
theorem dmX11_every : yX11_every.cls ≠ "java/lang/invoke/MethodHandle" ∧ yX11_every.cls ≠ "java/lang/invoke/VarHandle" ∧ (parseMethodDescriptor yX11_every.desc).map (fun d => d.parameters.length) = some 0 := by decide +kernel
theorem dmX11_some : yX11_some.cls ≠ "java/lang/invoke/MethodHandle" ∧ yX11_some.cls ≠ "java/lang/invoke/VarHandle" ∧ (parseMethodDescriptor yX11_some.desc).map (fun d => d.parameters.length) = some 0 := by decide +kernel
theorem dmX11_among : yX11_among.cls ≠ "java/lang/invoke/MethodHandle" ∧ yX11_among.cls ≠ "java/lang/invoke/VarHandle" ∧ (parseMethodDescriptor yX11_among.desc).map (fun d => d.parameters.length) = some 1 := by decide +kernel
theorem dmX11_lineHere : yX11_lineHere.cls ≠ "java/lang/invoke/MethodHandle" ∧ yX11_lineHere.cls ≠ "java/lang/invoke/VarHandle" ∧ (parseMethodDescriptor yX11_lineHere.desc).map (fun d => d.parameters.length) = some 0 := by decide +kernel
theorem dmX11_isCard : yX11_isCard.cls ≠ "java/lang/invoke/MethodHandle" ∧ yX11_isCard.cls ≠ "java/lang/invoke/VarHandle" ∧ (parseMethodDescriptor yX11_isCard.desc).map (fun d => d.parameters.length) = some 1 := by decide +kernel
theorem dmX11_isReach : yX11_isReach.cls ≠ "java/lang/invoke/MethodHandle" ∧ yX11_isReach.cls ≠ "java/lang/invoke/VarHandle" ∧ (parseMethodDescriptor yX11_isReach.desc).map (fun d => d.parameters.length) = some 1 := by decide +kernel
theorem dmX11_bank : yX11_bank.cls ≠ "java/lang/invoke/MethodHandle" ∧ yX11_bank.cls ≠ "java/lang/invoke/VarHandle" ∧ (parseMethodDescriptor yX11_bank.desc).map (fun d => d.parameters.length) = some 1 := by decide +kernel
theorem dmX11_rings : yX11_rings.cls ≠ "java/lang/invoke/MethodHandle" ∧ yX11_rings.cls ≠ "java/lang/invoke/VarHandle" ∧ (parseMethodDescriptor yX11_rings.desc).map (fun d => d.parameters.length) = some 0 := by decide +kernel
theorem dmX11_lineHolds : yX11_lineHolds.cls ≠ "java/lang/invoke/MethodHandle" ∧ yX11_lineHolds.cls ≠ "java/lang/invoke/VarHandle" ∧ (parseMethodDescriptor yX11_lineHolds.desc).map (fun d => d.parameters.length) = some 2 := by decide +kernel
theorem dmX11_byLines : yX11_byLines.cls ≠ "java/lang/invoke/MethodHandle" ∧ yX11_byLines.cls ≠ "java/lang/invoke/VarHandle" ∧ (parseMethodDescriptor yX11_byLines.desc).map (fun d => d.parameters.length) = some 2 := by decide +kernel
theorem dmX11_rising : yX11_rising.cls ≠ "java/lang/invoke/MethodHandle" ∧ yX11_rising.cls ≠ "java/lang/invoke/VarHandle" ∧ (parseMethodDescriptor yX11_rising.desc).map (fun d => d.parameters.length) = some 2 := by decide +kernel
theorem dmX11_byTurns : yX11_byTurns.cls ≠ "java/lang/invoke/MethodHandle" ∧ yX11_byTurns.cls ≠ "java/lang/invoke/VarHandle" ∧ (parseMethodDescriptor yX11_byTurns.desc).map (fun d => d.parameters.length) = some 1 := by decide +kernel
theorem dmX11_boardsBy : yX11_boardsBy.cls ≠ "java/lang/invoke/MethodHandle" ∧ yX11_boardsBy.cls ≠ "java/lang/invoke/VarHandle" ∧ (parseMethodDescriptor yX11_boardsBy.desc).map (fun d => d.parameters.length) = some 2 := by decide +kernel
theorem dmX11_boardsOf : yX11_boardsOf.cls ≠ "java/lang/invoke/MethodHandle" ∧ yX11_boardsOf.cls ≠ "java/lang/invoke/VarHandle" ∧ (parseMethodDescriptor yX11_boardsOf.desc).map (fun d => d.parameters.length) = some 1 := by decide +kernel
theorem dmX11_isRiver : yX11_isRiver.cls ≠ "java/lang/invoke/MethodHandle" ∧ yX11_isRiver.cls ≠ "java/lang/invoke/VarHandle" ∧ (parseMethodDescriptor yX11_isRiver.desc).map (fun d => d.parameters.length) = some 0 := by decide +kernel
theorem dmX11_takes : yX11_takes.cls ≠ "java/lang/invoke/MethodHandle" ∧ yX11_takes.cls ≠ "java/lang/invoke/VarHandle" ∧ (parseMethodDescriptor yX11_takes.desc).map (fun d => d.parameters.length) = some 0 := by decide +kernel
theorem dmX11_hourGoes : yX11_hourGoes.cls ≠ "java/lang/invoke/MethodHandle" ∧ yX11_hourGoes.cls ≠ "java/lang/invoke/VarHandle" ∧ (parseMethodDescriptor yX11_hourGoes.desc).map (fun d => d.parameters.length) = some 1 := by decide +kernel
theorem dmX11_least : yX11_least.cls ≠ "java/lang/invoke/MethodHandle" ∧ yX11_least.cls ≠ "java/lang/invoke/VarHandle" ∧ (parseMethodDescriptor yX11_least.desc).map (fun d => d.parameters.length) = some 1 := by decide +kernel
theorem dmX11_rainOf : yX11_rainOf.cls ≠ "java/lang/invoke/MethodHandle" ∧ yX11_rainOf.cls ≠ "java/lang/invoke/VarHandle" ∧ (parseMethodDescriptor yX11_rainOf.desc).map (fun d => d.parameters.length) = some 3 := by decide +kernel
theorem dmX11_drops : yX11_drops.cls ≠ "java/lang/invoke/MethodHandle" ∧ yX11_drops.cls ≠ "java/lang/invoke/VarHandle" ∧ (parseMethodDescriptor yX11_drops.desc).map (fun d => d.parameters.length) = some 1 := by decide +kernel
theorem dmX11_power : yX11_power.cls ≠ "java/lang/invoke/MethodHandle" ∧ yX11_power.cls ≠ "java/lang/invoke/VarHandle" ∧ (parseMethodDescriptor yX11_power.desc).map (fun d => d.parameters.length) = some 1 := by decide +kernel
theorem dmX11_failsBy : yX11_failsBy.cls ≠ "java/lang/invoke/MethodHandle" ∧ yX11_failsBy.cls ≠ "java/lang/invoke/VarHandle" ∧ (parseMethodDescriptor yX11_failsBy.desc).map (fun d => d.parameters.length) = some 2 := by decide +kernel
theorem dmX11_areHolding : yX11_areHolding.cls ≠ "java/lang/invoke/MethodHandle" ∧ yX11_areHolding.cls ≠ "java/lang/invoke/VarHandle" ∧ (parseMethodDescriptor yX11_areHolding.desc).map (fun d => d.parameters.length) = some 0 := by decide +kernel
theorem dmX11_divisor : yX11_divisor.cls ≠ "java/lang/invoke/MethodHandle" ∧ yX11_divisor.cls ≠ "java/lang/invoke/VarHandle" ∧ (parseMethodDescriptor yX11_divisor.desc).map (fun d => d.parameters.length) = some 2 := by decide +kernel
theorem dmX11_often : yX11_often.cls ≠ "java/lang/invoke/MethodHandle" ∧ yX11_often.cls ≠ "java/lang/invoke/VarHandle" ∧ (parseMethodDescriptor yX11_often.desc).map (fun d => d.parameters.length) = some 2 := by decide +kernel
theorem dmX11_runs : yX11_runs.cls ≠ "java/lang/invoke/MethodHandle" ∧ yX11_runs.cls ≠ "java/lang/invoke/VarHandle" ∧ (parseMethodDescriptor yX11_runs.desc).map (fun d => d.parameters.length) = some 1 := by decide +kernel
theorem dmX11_plainSees : yX11_plainSees.cls ≠ "java/lang/invoke/MethodHandle" ∧ yX11_plainSees.cls ≠ "java/lang/invoke/VarHandle" ∧ (parseMethodDescriptor yX11_plainSees.desc).map (fun d => d.parameters.length) = some 1 := by decide +kernel
theorem dmX11_isUnder : yX11_isUnder.cls ≠ "java/lang/invoke/MethodHandle" ∧ yX11_isUnder.cls ≠ "java/lang/invoke/VarHandle" ∧ (parseMethodDescriptor yX11_isUnder.desc).map (fun d => d.parameters.length) = some 2 := by decide +kernel
theorem dmX11_levelSees : yX11_levelSees.cls ≠ "java/lang/invoke/MethodHandle" ∧ yX11_levelSees.cls ≠ "java/lang/invoke/VarHandle" ∧ (parseMethodDescriptor yX11_levelSees.desc).map (fun d => d.parameters.length) = some 1 := by decide +kernel
theorem dmX11_seesActs : yX11_seesActs.cls ≠ "java/lang/invoke/MethodHandle" ∧ yX11_seesActs.cls ≠ "java/lang/invoke/VarHandle" ∧ (parseMethodDescriptor yX11_seesActs.desc).map (fun d => d.parameters.length) = some 1 := by decide +kernel
theorem dmX11_plainSets : yX11_plainSets.cls ≠ "java/lang/invoke/MethodHandle" ∧ yX11_plainSets.cls ≠ "java/lang/invoke/VarHandle" ∧ (parseMethodDescriptor yX11_plainSets.desc).map (fun d => d.parameters.length) = some 1 := by decide +kernel
theorem dmX11_setsActs : yX11_setsActs.cls ≠ "java/lang/invoke/MethodHandle" ∧ yX11_setsActs.cls ≠ "java/lang/invoke/VarHandle" ∧ (parseMethodDescriptor yX11_setsActs.desc).map (fun d => d.parameters.length) = some 1 := by decide +kernel
theorem dmX11_plainWakes : yX11_plainWakes.cls ≠ "java/lang/invoke/MethodHandle" ∧ yX11_plainWakes.cls ≠ "java/lang/invoke/VarHandle" ∧ (parseMethodDescriptor yX11_plainWakes.desc).map (fun d => d.parameters.length) = some 1 := by decide +kernel
theorem dmX11_wakesActs : yX11_wakesActs.cls ≠ "java/lang/invoke/MethodHandle" ∧ yX11_wakesActs.cls ≠ "java/lang/invoke/VarHandle" ∧ (parseMethodDescriptor yX11_wakesActs.desc).map (fun d => d.parameters.length) = some 1 := by decide +kernel
theorem dmX9_putByte : yX9_putByte.cls ≠ "java/lang/invoke/MethodHandle" ∧ yX9_putByte.cls ≠ "java/lang/invoke/VarHandle" ∧ (parseMethodDescriptor yX9_putByte.desc).map (fun d => d.parameters.length) = some 1 := by decide +kernel
theorem dmX10_copyRow : yX10_copyRow.cls ≠ "java/lang/invoke/MethodHandle" ∧ yX10_copyRow.cls ≠ "java/lang/invoke/VarHandle" ∧ (parseMethodDescriptor yX10_copyRow.desc).map (fun d => d.parameters.length) = some 2 := by decide +kernel
theorem dmX2_failu : "SluiceCards$Reader" ≠ "java/lang/invoke/MethodHandle" ∧ "SluiceCards$Reader" ≠ "java/lang/invoke/VarHandle" ∧ (parseMethodDescriptor "()V").map (fun d => d.parameters.length) = some 0 := by decide +kernel
theorem dmX2_nextu : "SluiceCards$Reader" ≠ "java/lang/invoke/MethodHandle" ∧ "SluiceCards$Reader" ≠ "java/lang/invoke/VarHandle" ∧ (parseMethodDescriptor "()I").map (fun d => d.parameters.length) = some 0 := by decide +kernel
theorem dmX2_takesu : "SluiceCards$Reader" ≠ "java/lang/invoke/MethodHandle" ∧ "SluiceCards$Reader" ≠ "java/lang/invoke/VarHandle" ∧ (parseMethodDescriptor "(C)Z").map (fun d => d.parameters.length) = some 1 := by decide +kernel
theorem dmX2_needsAllu : "SluiceCards$Reader" ≠ "java/lang/invoke/MethodHandle" ∧ "SluiceCards$Reader" ≠ "java/lang/invoke/VarHandle" ∧ (parseMethodDescriptor "(Ljava/lang/String;)V").map (fun d => d.parameters.length) = some 1 := by decide +kernel
theorem dmX2_digitu : "SluiceCards$Reader" ≠ "java/lang/invoke/MethodHandle" ∧ "SluiceCards$Reader" ≠ "java/lang/invoke/VarHandle" ∧ (parseMethodDescriptor "(II)I").map (fun d => d.parameters.length) = some 2 := by decide +kernel
theorem dmX2_needsu : "SluiceCards$Reader" ≠ "java/lang/invoke/MethodHandle" ∧ "SluiceCards$Reader" ≠ "java/lang/invoke/VarHandle" ∧ (parseMethodDescriptor "(C)V").map (fun d => d.parameters.length) = some 1 := by decide +kernel
theorem dmX3_addReach : yX3_addReach.cls ≠ "java/lang/invoke/MethodHandle" ∧ yX3_addReach.cls ≠ "java/lang/invoke/VarHandle" ∧ (parseMethodDescriptor yX3_addReach.desc).map (fun d => d.parameters.length) = some 3 := by decide +kernel
theorem dmX4_readSpanOrSum : yX4_readSpanOrSum.cls ≠ "java/lang/invoke/MethodHandle" ∧ yX4_readSpanOrSum.cls ≠ "java/lang/invoke/VarHandle" ∧ (parseMethodDescriptor yX4_readSpanOrSum.desc).map (fun d => d.parameters.length) = some 0 := by decide +kernel
theorem dmX4_readReach : yX4_readReach.cls ≠ "java/lang/invoke/MethodHandle" ∧ yX4_readReach.cls ≠ "java/lang/invoke/VarHandle" ∧ (parseMethodDescriptor yX4_readReach.desc).map (fun d => d.parameters.length) = some 0 := by decide +kernel
theorem dmX2_beginu : "SluiceCards$Reader" ≠ "java/lang/invoke/MethodHandle" ∧ "SluiceCards$Reader" ≠ "java/lang/invoke/VarHandle" ∧ (parseMethodDescriptor "(LSluiceCards$World;)V").map (fun d => d.parameters.length) = some 1 := by decide +kernel
theorem dmX3_clear : yX3_clear.cls ≠ "java/lang/invoke/MethodHandle" ∧ yX3_clear.cls ≠ "java/lang/invoke/VarHandle" ∧ (parseMethodDescriptor yX3_clear.desc).map (fun d => d.parameters.length) = some 0 := by decide +kernel
theorem dmX2_needsEndu : "SluiceCards$Reader" ≠ "java/lang/invoke/MethodHandle" ∧ "SluiceCards$Reader" ≠ "java/lang/invoke/VarHandle" ∧ (parseMethodDescriptor "()V").map (fun d => d.parameters.length) = some 0 := by decide +kernel
theorem dmX2_faultPlaceu : "SluiceCards$Reader" ≠ "java/lang/invoke/MethodHandle" ∧ "SluiceCards$Reader" ≠ "java/lang/invoke/VarHandle" ∧ (parseMethodDescriptor "()I").map (fun d => d.parameters.length) = some 0 := by decide +kernel
theorem dmX4_readClause : yX4_readClause.cls ≠ "java/lang/invoke/MethodHandle" ∧ yX4_readClause.cls ≠ "java/lang/invoke/VarHandle" ∧ (parseMethodDescriptor yX4_readClause.desc).map (fun d => d.parameters.length) = some 0 := by decide +kernel
theorem dmX8_becomes : yX8_becomes.cls ≠ "java/lang/invoke/MethodHandle" ∧ yX8_becomes.cls ≠ "java/lang/invoke/VarHandle" ∧ (parseMethodDescriptor yX8_becomes.desc).map (fun d => d.parameters.length) = some 1 := by decide +kernel
theorem dmX4_reads : yX4_reads.cls ≠ "java/lang/invoke/MethodHandle" ∧ yX4_reads.cls ≠ "java/lang/invoke/VarHandle" ∧ (parseMethodDescriptor yX4_reads.desc).map (fun d => d.parameters.length) = some 1 := by decide +kernel
theorem dmX3_becomes : yX3_becomes.cls ≠ "java/lang/invoke/MethodHandle" ∧ yX3_becomes.cls ≠ "java/lang/invoke/VarHandle" ∧ (parseMethodDescriptor yX3_becomes.desc).map (fun d => d.parameters.length) = some 1 := by decide +kernel
theorem dmX9_cardOf : yX9_cardOf.cls ≠ "java/lang/invoke/MethodHandle" ∧ yX9_cardOf.cls ≠ "java/lang/invoke/VarHandle" ∧ (parseMethodDescriptor yX9_cardOf.desc).map (fun d => d.parameters.length) = some 1 := by decide +kernel
theorem dmX10_isReach : yX10_isReach.cls ≠ "java/lang/invoke/MethodHandle" ∧ yX10_isReach.cls ≠ "java/lang/invoke/VarHandle" ∧ (parseMethodDescriptor yX10_isReach.desc).map (fun d => d.parameters.length) = some 1 := by decide +kernel
theorem dmX10_isRiver : yX10_isRiver.cls ≠ "java/lang/invoke/MethodHandle" ∧ yX10_isRiver.cls ≠ "java/lang/invoke/VarHandle" ∧ (parseMethodDescriptor yX10_isRiver.desc).map (fun d => d.parameters.length) = some 0 := by decide +kernel
theorem dmX5_passes : yX5_passes.cls ≠ "java/lang/invoke/MethodHandle" ∧ yX5_passes.cls ≠ "java/lang/invoke/VarHandle" ∧ (parseMethodDescriptor yX5_passes.desc).map (fun d => d.parameters.length) = some 1 := by decide +kernel
theorem dmX0_lineHolds : yX0_lineHolds.cls ≠ "java/lang/invoke/MethodHandle" ∧ yX0_lineHolds.cls ≠ "java/lang/invoke/VarHandle" ∧ (parseMethodDescriptor yX0_lineHolds.desc).map (fun d => d.parameters.length) = some 2 := by decide +kernel
theorem dmJ9_floorMod_7cf53 : yJ9_floorMod_7cf53.cls ≠ "java/lang/invoke/MethodHandle" ∧ yJ9_floorMod_7cf53.cls ≠ "java/lang/invoke/VarHandle" ∧ (parseMethodDescriptor yJ9_floorMod_7cf53.desc).map (fun d => d.parameters.length) = some 2 := by decide +kernel
theorem dmX0_byLines : yX0_byLines.cls ≠ "java/lang/invoke/MethodHandle" ∧ yX0_byLines.cls ≠ "java/lang/invoke/VarHandle" ∧ (parseMethodDescriptor yX0_byLines.desc).map (fun d => d.parameters.length) = some 1 := by decide +kernel
theorem dmX0_risen : yX0_risen.cls ≠ "java/lang/invoke/MethodHandle" ∧ yX0_risen.cls ≠ "java/lang/invoke/VarHandle" ∧ (parseMethodDescriptor yX0_risen.desc).map (fun d => d.parameters.length) = some 2 := by decide +kernel
theorem dmX0_inTurn : yX0_inTurn.cls ≠ "java/lang/invoke/MethodHandle" ∧ yX0_inTurn.cls ≠ "java/lang/invoke/VarHandle" ∧ (parseMethodDescriptor yX0_inTurn.desc).map (fun d => d.parameters.length) = some 1 := by decide +kernel
theorem dmX0_boardsBy : yX0_boardsBy.cls ≠ "java/lang/invoke/MethodHandle" ∧ yX0_boardsBy.cls ≠ "java/lang/invoke/VarHandle" ∧ (parseMethodDescriptor yX0_boardsBy.desc).map (fun d => d.parameters.length) = some 2 := by decide +kernel
theorem dmX7_setBoards : yX7_setBoards.cls ≠ "java/lang/invoke/MethodHandle" ∧ yX7_setBoards.cls ≠ "java/lang/invoke/VarHandle" ∧ (parseMethodDescriptor yX7_setBoards.desc).map (fun d => d.parameters.length) = some 2 := by decide +kernel
theorem dmX7_begin : yX7_begin.cls ≠ "java/lang/invoke/MethodHandle" ∧ yX7_begin.cls ≠ "java/lang/invoke/VarHandle" ∧ (parseMethodDescriptor yX7_begin.desc).map (fun d => d.parameters.length) = some 1 := by decide +kernel
theorem dmX7_boardsNext : yX7_boardsNext.cls ≠ "java/lang/invoke/MethodHandle" ∧ yX7_boardsNext.cls ≠ "java/lang/invoke/VarHandle" ∧ (parseMethodDescriptor yX7_boardsNext.desc).map (fun d => d.parameters.length) = some 1 := by decide +kernel
theorem dmX7_letFall : yX7_letFall.cls ≠ "java/lang/invoke/MethodHandle" ∧ yX7_letFall.cls ≠ "java/lang/invoke/VarHandle" ∧ (parseMethodDescriptor yX7_letFall.desc).map (fun d => d.parameters.length) = some 3 := by decide +kernel
theorem dmX7_goesBy : yX7_goesBy.cls ≠ "java/lang/invoke/MethodHandle" ∧ yX7_goesBy.cls ≠ "java/lang/invoke/VarHandle" ∧ (parseMethodDescriptor yX7_goesBy.desc).map (fun d => d.parameters.length) = some 1 := by decide +kernel
theorem dmX9_putRain : yX9_putRain.cls ≠ "java/lang/invoke/MethodHandle" ∧ yX9_putRain.cls ≠ "java/lang/invoke/VarHandle" ∧ (parseMethodDescriptor yX9_putRain.desc).map (fun d => d.parameters.length) = some 1 := by decide +kernel
theorem dmX7_sumOfLevels : yX7_sumOfLevels.cls ≠ "java/lang/invoke/MethodHandle" ∧ yX7_sumOfLevels.cls ≠ "java/lang/invoke/VarHandle" ∧ (parseMethodDescriptor yX7_sumOfLevels.desc).map (fun d => d.parameters.length) = some 0 := by decide +kernel
theorem dmX7_dryMills : yX7_dryMills.cls ≠ "java/lang/invoke/MethodHandle" ∧ yX7_dryMills.cls ≠ "java/lang/invoke/VarHandle" ∧ (parseMethodDescriptor yX7_dryMills.desc).map (fun d => d.parameters.length) = some 1 := by decide +kernel
theorem dmX10_lowestOf : yX10_lowestOf.cls ≠ "java/lang/invoke/MethodHandle" ∧ yX10_lowestOf.cls ≠ "java/lang/invoke/VarHandle" ∧ (parseMethodDescriptor yX10_lowestOf.desc).map (fun d => d.parameters.length) = some 1 := by decide +kernel
theorem dmJ6_bitCount_0f7a4 : yJ6_bitCount_0f7a4.cls ≠ "java/lang/invoke/MethodHandle" ∧ yJ6_bitCount_0f7a4.cls ≠ "java/lang/invoke/VarHandle" ∧ (parseMethodDescriptor yJ6_bitCount_0f7a4.desc).map (fun d => d.parameters.length) = some 1 := by decide +kernel
theorem dmX7_goesOver : yX7_goesOver.cls ≠ "java/lang/invoke/MethodHandle" ∧ yX7_goesOver.cls ≠ "java/lang/invoke/VarHandle" ∧ (parseMethodDescriptor yX7_goesOver.desc).map (fun d => d.parameters.length) = some 3 := by decide +kernel
theorem dmX7_mayGoOver : yX7_mayGoOver.cls ≠ "java/lang/invoke/MethodHandle" ∧ yX7_mayGoOver.cls ≠ "java/lang/invoke/VarHandle" ∧ (parseMethodDescriptor yX7_mayGoOver.desc).map (fun d => d.parameters.length) = some 2 := by decide +kernel
theorem dmX7_isSafe : yX7_isSafe.cls ≠ "java/lang/invoke/MethodHandle" ∧ yX7_isSafe.cls ≠ "java/lang/invoke/VarHandle" ∧ (parseMethodDescriptor yX7_isSafe.desc).map (fun d => d.parameters.length) = some 0 := by decide +kernel
theorem dmX7_rainOf : yX7_rainOf.cls ≠ "java/lang/invoke/MethodHandle" ∧ yX7_rainOf.cls ≠ "java/lang/invoke/VarHandle" ∧ (parseMethodDescriptor yX7_rainOf.desc).map (fun d => d.parameters.length) = some 1 := by decide +kernel
theorem dmX7_fixBoards : yX7_fixBoards.cls ≠ "java/lang/invoke/MethodHandle" ∧ yX7_fixBoards.cls ≠ "java/lang/invoke/VarHandle" ∧ (parseMethodDescriptor yX7_fixBoards.desc).map (fun d => d.parameters.length) = some 1 := by decide +kernel
theorem dmX7_raiseBanks : yX7_raiseBanks.cls ≠ "java/lang/invoke/MethodHandle" ∧ yX7_raiseBanks.cls ≠ "java/lang/invoke/VarHandle" ∧ (parseMethodDescriptor yX7_raiseBanks.desc).map (fun d => d.parameters.length) = some 2 := by decide +kernel
theorem dmX10_powerOfTen : yX10_powerOfTen.cls ≠ "java/lang/invoke/MethodHandle" ∧ yX10_powerOfTen.cls ≠ "java/lang/invoke/VarHandle" ∧ (parseMethodDescriptor yX10_powerOfTen.desc).map (fun d => d.parameters.length) = some 1 := by decide +kernel
theorem dmX7_weightOf : yX7_weightOf.cls ≠ "java/lang/invoke/MethodHandle" ∧ yX7_weightOf.cls ≠ "java/lang/invoke/VarHandle" ∧ (parseMethodDescriptor yX7_weightOf.desc).map (fun d => d.parameters.length) = some 1 := by decide +kernel
theorem dmX7_weigh : yX7_weigh.cls ≠ "java/lang/invoke/MethodHandle" ∧ yX7_weigh.cls ≠ "java/lang/invoke/VarHandle" ∧ (parseMethodDescriptor yX7_weigh.desc).map (fun d => d.parameters.length) = some 3 := by decide +kernel
theorem dmX7_weightOver : yX7_weightOver.cls ≠ "java/lang/invoke/MethodHandle" ∧ yX7_weightOver.cls ≠ "java/lang/invoke/VarHandle" ∧ (parseMethodDescriptor yX7_weightOver.desc).map (fun d => d.parameters.length) = some 2 := by decide +kernel
theorem dmX10_commonDivisor : yX10_commonDivisor.cls ≠ "java/lang/invoke/MethodHandle" ∧ yX10_commonDivisor.cls ≠ "java/lang/invoke/VarHandle" ∧ (parseMethodDescriptor yX10_commonDivisor.desc).map (fun d => d.parameters.length) = some 2 := by decide +kernel
theorem dmX7_hangAll : yX7_hangAll.cls ≠ "java/lang/invoke/MethodHandle" ∧ yX7_hangAll.cls ≠ "java/lang/invoke/VarHandle" ∧ (parseMethodDescriptor yX7_hangAll.desc).map (fun d => d.parameters.length) = some 1 := by decide +kernel
theorem dmX6_bodyOf : yX6_bodyOf.cls ≠ "java/lang/invoke/MethodHandle" ∧ yX6_bodyOf.cls ≠ "java/lang/invoke/VarHandle" ∧ (parseMethodDescriptor yX6_bodyOf.desc).map (fun d => d.parameters.length) = some 2 := by decide +kernel
theorem dmX6_note : yX6_note.cls ≠ "java/lang/invoke/MethodHandle" ∧ yX6_note.cls ≠ "java/lang/invoke/VarHandle" ∧ (parseMethodDescriptor yX6_note.desc).map (fun d => d.parameters.length) = some 1 := by decide +kernel
theorem dmX0_above : yX0_above.cls ≠ "java/lang/invoke/MethodHandle" ∧ yX0_above.cls ≠ "java/lang/invoke/VarHandle" ∧ (parseMethodDescriptor yX0_above.desc).map (fun d => d.parameters.length) = some 1 := by decide +kernel
theorem dmX6_runFrom : yX6_runFrom.cls ≠ "java/lang/invoke/MethodHandle" ∧ yX6_runFrom.cls ≠ "java/lang/invoke/VarHandle" ∧ (parseMethodDescriptor yX6_runFrom.desc).map (fun d => d.parameters.length) = some 5 := by decide +kernel
theorem dmX6_clear : yX6_clear.cls ≠ "java/lang/invoke/MethodHandle" ∧ yX6_clear.cls ≠ "java/lang/invoke/VarHandle" ∧ (parseMethodDescriptor yX6_clear.desc).map (fun d => d.parameters.length) = some 0 := by decide +kernel
theorem dmX6_perform : yX6_perform.cls ≠ "java/lang/invoke/MethodHandle" ∧ yX6_perform.cls ≠ "java/lang/invoke/VarHandle" ∧ (parseMethodDescriptor yX6_perform.desc).map (fun d => d.parameters.length) = some 3 := by decide +kernel
theorem dmX0_isUnder : yX0_isUnder.cls ≠ "java/lang/invoke/MethodHandle" ∧ yX0_isUnder.cls ≠ "java/lang/invoke/VarHandle" ∧ (parseMethodDescriptor yX0_isUnder.desc).map (fun d => d.parameters.length) = some 1 := by decide +kernel
theorem dmX9_becomes : yX9_becomes.cls ≠ "java/lang/invoke/MethodHandle" ∧ yX9_becomes.cls ≠ "java/lang/invoke/VarHandle" ∧ (parseMethodDescriptor yX9_becomes.desc).map (fun d => d.parameters.length) = some 1 := by decide +kernel
theorem dmX1_readSingle : yX1_readSingle.cls ≠ "java/lang/invoke/MethodHandle" ∧ yX1_readSingle.cls ≠ "java/lang/invoke/VarHandle" ∧ (parseMethodDescriptor yX1_readSingle.desc).map (fun d => d.parameters.length) = some 1 := by decide +kernel
theorem dmX1_putStep : yX1_putStep.cls ≠ "java/lang/invoke/MethodHandle" ∧ yX1_putStep.cls ≠ "java/lang/invoke/VarHandle" ∧ (parseMethodDescriptor yX1_putStep.desc).map (fun d => d.parameters.length) = some 1 := by decide +kernel
theorem dmX1_readBoth : yX1_readBoth.cls ≠ "java/lang/invoke/MethodHandle" ∧ yX1_readBoth.cls ≠ "java/lang/invoke/VarHandle" ∧ (parseMethodDescriptor yX1_readBoth.desc).map (fun d => d.parameters.length) = some 1 := by decide +kernel
theorem dmX2_oneOfu : "SluiceCards$Reader" ≠ "java/lang/invoke/MethodHandle" ∧ "SluiceCards$Reader" ≠ "java/lang/invoke/VarHandle" ∧ (parseMethodDescriptor "(Ljava/lang/String;)I").map (fun d => d.parameters.length) = some 1 := by decide +kernel
theorem dmX1_readEither : yX1_readEither.cls ≠ "java/lang/invoke/MethodHandle" ∧ yX1_readEither.cls ≠ "java/lang/invoke/VarHandle" ∧ (parseMethodDescriptor yX1_readEither.desc).map (fun d => d.parameters.length) = some 1 := by decide +kernel
