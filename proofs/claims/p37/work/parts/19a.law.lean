theorem dL_cell_0 : decode cL_cell 0 = .ok (.aload_n 0, 1) := by decide +kernel
theorem dL_cell_1 : decode cL_cell 1 = .ok (.arraylength, 1) := by decide +kernel
theorem dL_cell_2 : decode cL_cell 2 = .ok (.ifCond .ne 13, 3) := by decide +kernel
theorem dL_cell_5 : decode cL_cell 5 = .ok (.bipush 71, 2) := by decide +kernel
theorem dL_cell_7 : decode cL_cell 7 = .ok (.iload_n 1, 1) := by decide +kernel
theorem dL_cell_8 : decode cL_cell 8 = .ok (.imul, 1) := by decide +kernel
theorem dL_cell_9 : decode cL_cell 9 = .ok (.bipush 13, 2) := by decide +kernel
theorem dL_cell_11 : decode cL_cell 11 = .ok (.iadd, 1) := by decide +kernel
theorem dL_cell_12 : decode cL_cell 12 = .ok (.goto 19, 3) := by decide +kernel
theorem dL_cell_15 : decode cL_cell 15 = .ok (.aload_n 0, 1) := by decide +kernel
theorem dL_cell_16 : decode cL_cell 16 = .ok (.iload_n 1, 1) := by decide +kernel
theorem dL_cell_17 : decode cL_cell 17 = .ok (.aload_n 0, 1) := by decide +kernel
theorem dL_cell_18 : decode cL_cell 18 = .ok (.arraylength, 1) := by decide +kernel
theorem dL_cell_19 : decode cL_cell 19 = .ok (.irem, 1) := by decide +kernel
theorem dL_cell_20 : decode cL_cell 20 = .ok (.iaload, 1) := by decide +kernel
theorem dL_cell_21 : decode cL_cell 21 = .ok (.iconst 5, 1) := by decide +kernel
theorem dL_cell_22 : decode cL_cell 22 = .ok (.iload_n 1, 1) := by decide +kernel
theorem dL_cell_23 : decode cL_cell 23 = .ok (.aload_n 0, 1) := by decide +kernel
theorem dL_cell_24 : decode cL_cell 24 = .ok (.arraylength, 1) := by decide +kernel
theorem dL_cell_25 : decode cL_cell 25 = .ok (.idiv, 1) := by decide +kernel
theorem dL_cell_26 : decode cL_cell 26 = .ok (.imul, 1) := by decide +kernel
theorem dL_cell_27 : decode cL_cell 27 = .ok (.bipush 17, 2) := by decide +kernel
theorem dL_cell_29 : decode cL_cell 29 = .ok (.irem, 1) := by decide +kernel
theorem dL_cell_30 : decode cL_cell 30 = .ok (.iushr, 1) := by decide +kernel
theorem dL_cell_31 : decode cL_cell 31 = .ok (.ireturn, 1) := by decide +kernel
theorem dL_bring_0 : decode cL_bring 0 = .ok (.aload_n 0, 1) := by decide +kernel
theorem dL_bring_1 : decode cL_bring 1 = .ok (.iload_n 1, 1) := by decide +kernel
theorem dL_bring_2 : decode cL_bring 2 = .ok (.iload_n 2, 1) := by decide +kernel
theorem dL_bring_3 : decode cL_bring 3 = .ok (.iload_n 3, 1) := by decide +kernel
theorem dL_bring_4 : decode cL_bring 4 = .ok (.invokevirtual 7, 3) := by decide +kernel
theorem dL_bring_7 : decode cL_bring 7 = .ok (.ireturn, 1) := by decide +kernel
theorem dL_bring_8 : decode cL_bring 8 = .ok (.astore 4, 2) := by decide +kernel
theorem dL_bring_10 : decode cL_bring 10 = .ok (.iconst (-1), 1) := by decide +kernel
theorem dL_bring_11 : decode cL_bring 11 = .ok (.ireturn, 1) := by decide +kernel
theorem dL_bring_12 : decode cL_bring 12 = .ok (.astore 4, 2) := by decide +kernel
theorem dL_bring_14 : decode cL_bring 14 = .ok (.bipush (-2), 2) := by decide +kernel
theorem dL_bring_16 : decode cL_bring 16 = .ok (.ireturn, 1) := by decide +kernel
theorem dL_bring_17 : decode cL_bring 17 = .ok (.astore 4, 2) := by decide +kernel
theorem dL_bring_19 : decode cL_bring 19 = .ok (.bipush (-3), 2) := by decide +kernel
theorem dL_bring_21 : decode cL_bring 21 = .ok (.ireturn, 1) := by decide +kernel
theorem dL_leaves_0 : decode cL_leaves 0 = .ok (.aload_n 0, 1) := by decide +kernel
theorem dL_leaves_1 : decode cL_leaves 1 = .ok (.iload_n 1, 1) := by decide +kernel
theorem dL_leaves_2 : decode cL_leaves 2 = .ok (.iload_n 2, 1) := by decide +kernel
theorem dL_leaves_3 : decode cL_leaves 3 = .ok (.invokevirtual 19, 3) := by decide +kernel
theorem dL_leaves_6 : decode cL_leaves 6 = .ok (.ireturn, 1) := by decide +kernel
theorem dL_leaves_7 : decode cL_leaves 7 = .ok (.astore_n 3, 1) := by decide +kernel
theorem dL_leaves_8 : decode cL_leaves 8 = .ok (.iconst (-1), 1) := by decide +kernel
theorem dL_leaves_9 : decode cL_leaves 9 = .ok (.ireturn, 1) := by decide +kernel
theorem dL_buy_0 : decode cL_buy 0 = .ok (.aload_n 0, 1) := by decide +kernel
theorem dL_buy_1 : decode cL_buy 1 = .ok (.iload_n 1, 1) := by decide +kernel
theorem dL_buy_2 : decode cL_buy 2 = .ok (.iload_n 2, 1) := by decide +kernel
theorem dL_buy_3 : decode cL_buy 3 = .ok (.invokevirtual 23, 3) := by decide +kernel
theorem dL_buy_6 : decode cL_buy 6 = .ok (.ireturn, 1) := by decide +kernel
theorem dL_buy_7 : decode cL_buy 7 = .ok (.astore_n 3, 1) := by decide +kernel
theorem dL_buy_8 : decode cL_buy 8 = .ok (.iconst (-1), 1) := by decide +kernel
theorem dL_buy_9 : decode cL_buy 9 = .ok (.ireturn, 1) := by decide +kernel
theorem dL_make_0 : decode cL_make 0 = .ok (.aload_n 0, 1) := by decide +kernel
theorem dL_make_1 : decode cL_make 1 = .ok (.iload_n 1, 1) := by decide +kernel
theorem dL_make_2 : decode cL_make 2 = .ok (.invokevirtual 27, 3) := by decide +kernel
theorem dL_make_5 : decode cL_make 5 = .ok (.ireturn, 1) := by decide +kernel
theorem dL_make_6 : decode cL_make 6 = .ok (.astore_n 2, 1) := by decide +kernel
theorem dL_make_7 : decode cL_make 7 = .ok (.iconst (-1), 1) := by decide +kernel
theorem dL_make_8 : decode cL_make 8 = .ok (.ireturn, 1) := by decide +kernel
theorem dL_make_9 : decode cL_make 9 = .ok (.astore_n 2, 1) := by decide +kernel
theorem dL_make_10 : decode cL_make 10 = .ok (.bipush (-2), 2) := by decide +kernel
theorem dL_make_12 : decode cL_make 12 = .ok (.ireturn, 1) := by decide +kernel
theorem dL_line_0 : decode cL_line 0 = .ok (.aload_n 0, 1) := by decide +kernel
theorem dL_line_1 : decode cL_line 1 = .ok (.iload_n 1, 1) := by decide +kernel
theorem dL_line_2 : decode cL_line 2 = .ok (.invokevirtual 31, 3) := by decide +kernel
theorem dL_line_5 : decode cL_line 5 = .ok (.ireturn, 1) := by decide +kernel
theorem dL_line_6 : decode cL_line 6 = .ok (.astore_n 2, 1) := by decide +kernel
theorem dL_line_7 : decode cL_line 7 = .ok (.iconst (-1), 1) := by decide +kernel
theorem dL_line_8 : decode cL_line 8 = .ok (.ireturn, 1) := by decide +kernel
theorem dL_line_9 : decode cL_line 9 = .ok (.astore_n 2, 1) := by decide +kernel
theorem dL_line_10 : decode cL_line 10 = .ok (.bipush (-2), 2) := by decide +kernel
theorem dL_line_12 : decode cL_line 12 = .ok (.ireturn, 1) := by decide +kernel
theorem dL_fill_0 : decode cL_fill 0 = .ok (.aload_n 0, 1) := by decide +kernel
theorem dL_fill_1 : decode cL_fill 1 = .ok (.iload_n 1, 1) := by decide +kernel
theorem dL_fill_2 : decode cL_fill 2 = .ok (.iload_n 2, 1) := by decide +kernel
theorem dL_fill_3 : decode cL_fill 3 = .ok (.iload_n 3, 1) := by decide +kernel
theorem dL_fill_4 : decode cL_fill 4 = .ok (.iload 4, 2) := by decide +kernel
theorem dL_fill_6 : decode cL_fill 6 = .ok (.invokevirtual 34, 3) := by decide +kernel
theorem dL_fill_9 : decode cL_fill 9 = .ok (.ireturn, 1) := by decide +kernel
theorem dL_fill_10 : decode cL_fill 10 = .ok (.astore 5, 2) := by decide +kernel
theorem dL_fill_12 : decode cL_fill 12 = .ok (.iconst (-1), 1) := by decide +kernel
theorem dL_fill_13 : decode cL_fill 13 = .ok (.ireturn, 1) := by decide +kernel
theorem dL_fill_14 : decode cL_fill 14 = .ok (.astore 5, 2) := by decide +kernel
theorem dL_fill_16 : decode cL_fill 16 = .ok (.bipush (-2), 2) := by decide +kernel
theorem dL_fill_18 : decode cL_fill 18 = .ok (.ireturn, 1) := by decide +kernel
theorem dL_fill_19 : decode cL_fill 19 = .ok (.astore 5, 2) := by decide +kernel
theorem dL_fill_21 : decode cL_fill 21 = .ok (.bipush (-3), 2) := by decide +kernel
theorem dL_fill_23 : decode cL_fill 23 = .ok (.ireturn, 1) := by decide +kernel
theorem dL_empty_0 : decode cL_empty 0 = .ok (.aload_n 0, 1) := by decide +kernel
theorem dL_empty_1 : decode cL_empty 1 = .ok (.iload_n 1, 1) := by decide +kernel
theorem dL_empty_2 : decode cL_empty 2 = .ok (.invokevirtual 38, 3) := by decide +kernel
theorem dL_empty_5 : decode cL_empty 5 = .ok (.ireturn, 1) := by decide +kernel
theorem dL_empty_6 : decode cL_empty 6 = .ok (.astore_n 2, 1) := by decide +kernel
theorem dL_empty_7 : decode cL_empty 7 = .ok (.iconst (-1), 1) := by decide +kernel
theorem dL_empty_8 : decode cL_empty 8 = .ok (.ireturn, 1) := by decide +kernel
theorem dL_empty_9 : decode cL_empty 9 = .ok (.astore_n 2, 1) := by decide +kernel
theorem dL_empty_10 : decode cL_empty 10 = .ok (.bipush (-2), 2) := by decide +kernel
theorem dL_empty_12 : decode cL_empty 12 = .ok (.ireturn, 1) := by decide +kernel
theorem dL_unscrew_0 : decode cL_unscrew 0 = .ok (.aload_n 0, 1) := by decide +kernel
theorem dL_unscrew_1 : decode cL_unscrew 1 = .ok (.iload_n 1, 1) := by decide +kernel
theorem dL_unscrew_2 : decode cL_unscrew 2 = .ok (.invokevirtual 45, 3) := by decide +kernel
theorem dL_unscrew_5 : decode cL_unscrew 5 = .ok (.ireturn, 1) := by decide +kernel
theorem dL_unscrew_6 : decode cL_unscrew 6 = .ok (.astore_n 2, 1) := by decide +kernel
theorem dL_unscrew_7 : decode cL_unscrew 7 = .ok (.iconst (-1), 1) := by decide +kernel
theorem dL_unscrew_8 : decode cL_unscrew 8 = .ok (.ireturn, 1) := by decide +kernel
theorem dL_unscrew_9 : decode cL_unscrew 9 = .ok (.astore_n 2, 1) := by decide +kernel
theorem dL_unscrew_10 : decode cL_unscrew 10 = .ok (.bipush (-2), 2) := by decide +kernel
theorem dL_unscrew_12 : decode cL_unscrew 12 = .ok (.ireturn, 1) := by decide +kernel
theorem dL_label_0 : decode cL_label 0 = .ok (.aload_n 0, 1) := by decide +kernel
theorem dL_label_1 : decode cL_label 1 = .ok (.iload_n 1, 1) := by decide +kernel
theorem dL_label_2 : decode cL_label 2 = .ok (.invokevirtual 48, 3) := by decide +kernel
theorem dL_label_5 : decode cL_label 5 = .ok (.ireturn, 1) := by decide +kernel
theorem dL_label_6 : decode cL_label 6 = .ok (.astore_n 2, 1) := by decide +kernel
theorem dL_label_7 : decode cL_label 7 = .ok (.iconst (-1), 1) := by decide +kernel
theorem dL_label_8 : decode cL_label 8 = .ok (.ireturn, 1) := by decide +kernel
theorem dL_label_9 : decode cL_label 9 = .ok (.astore_n 2, 1) := by decide +kernel
theorem dL_label_10 : decode cL_label 10 = .ok (.bipush (-2), 2) := by decide +kernel
theorem dL_label_12 : decode cL_label 12 = .ok (.ireturn, 1) := by decide +kernel
theorem dL_labelled_0 : decode cL_labelled 0 = .ok (.aload_n 0, 1) := by decide +kernel
theorem dL_labelled_1 : decode cL_labelled 1 = .ok (.iload_n 1, 1) := by decide +kernel
theorem dL_labelled_2 : decode cL_labelled 2 = .ok (.iload_n 2, 1) := by decide +kernel
theorem dL_labelled_3 : decode cL_labelled 3 = .ok (.invokevirtual 51, 3) := by decide +kernel
theorem dL_labelled_6 : decode cL_labelled 6 = .ok (.ireturn, 1) := by decide +kernel
theorem dL_labelled_7 : decode cL_labelled 7 = .ok (.astore_n 3, 1) := by decide +kernel
theorem dL_labelled_8 : decode cL_labelled 8 = .ok (.iconst (-1), 1) := by decide +kernel
theorem dL_labelled_9 : decode cL_labelled 9 = .ok (.ireturn, 1) := by decide +kernel
theorem dL_labelled_10 : decode cL_labelled 10 = .ok (.astore_n 3, 1) := by decide +kernel
theorem dL_labelled_11 : decode cL_labelled 11 = .ok (.bipush (-2), 2) := by decide +kernel
theorem dL_labelled_13 : decode cL_labelled 13 = .ok (.ireturn, 1) := by decide +kernel
theorem dL_chest_0 : decode cL_chest 0 = .ok (.aload_n 0, 1) := by decide +kernel
theorem dL_chest_1 : decode cL_chest 1 = .ok (.iload_n 1, 1) := by decide +kernel
theorem dL_chest_2 : decode cL_chest 2 = .ok (.iload_n 2, 1) := by decide +kernel
theorem dL_chest_3 : decode cL_chest 3 = .ok (.invokevirtual 57, 3) := by decide +kernel
theorem dL_chest_6 : decode cL_chest 6 = .ok (.ireturn, 1) := by decide +kernel
theorem dL_chest_7 : decode cL_chest 7 = .ok (.astore_n 3, 1) := by decide +kernel
theorem dL_chest_8 : decode cL_chest 8 = .ok (.iconst (-1), 1) := by decide +kernel
theorem dL_chest_9 : decode cL_chest 9 = .ok (.ireturn, 1) := by decide +kernel
theorem dL_chest_10 : decode cL_chest 10 = .ok (.astore_n 3, 1) := by decide +kernel
theorem dL_chest_11 : decode cL_chest 11 = .ok (.bipush (-2), 2) := by decide +kernel
theorem dL_chest_13 : decode cL_chest 13 = .ok (.ireturn, 1) := by decide +kernel
theorem dL_worth_0 : decode cL_worth 0 = .ok (.aload_n 0, 1) := by decide +kernel
theorem dL_worth_1 : decode cL_worth 1 = .ok (.iload_n 1, 1) := by decide +kernel
theorem dL_worth_2 : decode cL_worth 2 = .ok (.invokevirtual 60, 3) := by decide +kernel
theorem dL_worth_5 : decode cL_worth 5 = .ok (.ireturn, 1) := by decide +kernel
theorem dL_worth_6 : decode cL_worth 6 = .ok (.astore_n 2, 1) := by decide +kernel
theorem dL_worth_7 : decode cL_worth 7 = .ok (.iconst (-1), 1) := by decide +kernel
theorem dL_worth_8 : decode cL_worth 8 = .ok (.ireturn, 1) := by decide +kernel
theorem dL_ranked_0 : decode cL_ranked 0 = .ok (.aload_n 0, 1) := by decide +kernel
theorem dL_ranked_1 : decode cL_ranked 1 = .ok (.iload_n 1, 1) := by decide +kernel
theorem dL_ranked_2 : decode cL_ranked 2 = .ok (.invokevirtual 63, 3) := by decide +kernel
theorem dL_ranked_5 : decode cL_ranked 5 = .ok (.ireturn, 1) := by decide +kernel
theorem dL_ranked_6 : decode cL_ranked 6 = .ok (.astore_n 2, 1) := by decide +kernel
theorem dL_ranked_7 : decode cL_ranked 7 = .ok (.iconst (-1), 1) := by decide +kernel
theorem dL_ranked_8 : decode cL_ranked 8 = .ok (.ireturn, 1) := by decide +kernel
theorem dL_toQuay_0 : decode cL_toQuay 0 = .ok (.aload_n 0, 1) := by decide +kernel
theorem dL_toQuay_1 : decode cL_toQuay 1 = .ok (.iload_n 1, 1) := by decide +kernel
theorem dL_toQuay_2 : decode cL_toQuay 2 = .ok (.invokevirtual 66, 3) := by decide +kernel
theorem dL_toQuay_5 : decode cL_toQuay 5 = .ok (.ireturn, 1) := by decide +kernel
theorem dL_toQuay_6 : decode cL_toQuay 6 = .ok (.astore_n 2, 1) := by decide +kernel
theorem dL_toQuay_7 : decode cL_toQuay 7 = .ok (.iconst (-1), 1) := by decide +kernel
theorem dL_toQuay_8 : decode cL_toQuay 8 = .ok (.ireturn, 1) := by decide +kernel
theorem dL_toQuay_9 : decode cL_toQuay 9 = .ok (.astore_n 2, 1) := by decide +kernel
theorem dL_toQuay_10 : decode cL_toQuay 10 = .ok (.bipush (-2), 2) := by decide +kernel
theorem dL_toQuay_12 : decode cL_toQuay 12 = .ok (.ireturn, 1) := by decide +kernel
theorem dL_load_0 : decode cL_load 0 = .ok (.aload_n 0, 1) := by decide +kernel
theorem dL_load_1 : decode cL_load 1 = .ok (.iload_n 1, 1) := by decide +kernel
theorem dL_load_2 : decode cL_load 2 = .ok (.invokevirtual 69, 3) := by decide +kernel
theorem dL_load_5 : decode cL_load 5 = .ok (.ireturn, 1) := by decide +kernel
theorem dL_load_6 : decode cL_load 6 = .ok (.astore_n 2, 1) := by decide +kernel
theorem dL_load_7 : decode cL_load 7 = .ok (.iconst (-1), 1) := by decide +kernel
theorem dL_load_8 : decode cL_load 8 = .ok (.ireturn, 1) := by decide +kernel
theorem dL_load_9 : decode cL_load 9 = .ok (.astore_n 2, 1) := by decide +kernel
theorem dL_load_10 : decode cL_load 10 = .ok (.bipush (-2), 2) := by decide +kernel
theorem dL_load_12 : decode cL_load 12 = .ok (.ireturn, 1) := by decide +kernel
theorem dL_sail_0 : decode cL_sail 0 = .ok (.aload_n 0, 1) := by decide +kernel
theorem dL_sail_1 : decode cL_sail 1 = .ok (.invokevirtual 72, 3) := by decide +kernel
theorem dL_sail_4 : decode cL_sail 4 = .ok (.ireturn, 1) := by decide +kernel
theorem dL_sail_5 : decode cL_sail 5 = .ok (.astore_n 1, 1) := by decide +kernel
theorem dL_sail_6 : decode cL_sail 6 = .ok (.iconst (-1), 1) := by decide +kernel
theorem dL_sail_7 : decode cL_sail 7 = .ok (.ireturn, 1) := by decide +kernel
theorem dL_height_0 : decode cL_height 0 = .ok (.aload_n 0, 1) := by decide +kernel
theorem dL_height_1 : decode cL_height 1 = .ok (.iload_n 1, 1) := by decide +kernel
theorem dL_height_2 : decode cL_height 2 = .ok (.invokevirtual 76, 3) := by decide +kernel
theorem dL_height_5 : decode cL_height 5 = .ok (.ireturn, 1) := by decide +kernel
theorem dL_height_6 : decode cL_height 6 = .ok (.astore_n 2, 1) := by decide +kernel
theorem dL_height_7 : decode cL_height 7 = .ok (.iconst (-1), 1) := by decide +kernel
theorem dL_height_8 : decode cL_height 8 = .ok (.ireturn, 1) := by decide +kernel
theorem dL_heightAgain_0 : decode cL_heightAgain 0 = .ok (.aload_n 0, 1) := by decide +kernel
theorem dL_heightAgain_1 : decode cL_heightAgain 1 = .ok (.iload_n 1, 1) := by decide +kernel
theorem dL_heightAgain_2 : decode cL_heightAgain 2 = .ok (.invokevirtual 79, 3) := by decide +kernel
theorem dL_heightAgain_5 : decode cL_heightAgain 5 = .ok (.ireturn, 1) := by decide +kernel
theorem dL_heightAgain_6 : decode cL_heightAgain 6 = .ok (.astore_n 2, 1) := by decide +kernel
theorem dL_heightAgain_7 : decode cL_heightAgain 7 = .ok (.iconst (-1), 1) := by decide +kernel
theorem dL_heightAgain_8 : decode cL_heightAgain 8 = .ok (.ireturn, 1) := by decide +kernel
theorem dL_setHumidity_0 : decode cL_setHumidity 0 = .ok (.aload_n 0, 1) := by decide +kernel
theorem dL_setHumidity_1 : decode cL_setHumidity 1 = .ok (.iload_n 1, 1) := by decide +kernel
theorem dL_setHumidity_2 : decode cL_setHumidity 2 = .ok (.invokevirtual 82, 3) := by decide +kernel
theorem dL_setHumidity_5 : decode cL_setHumidity 5 = .ok (.ireturn, 1) := by decide +kernel
theorem dL_setHumidity_6 : decode cL_setHumidity 6 = .ok (.astore_n 2, 1) := by decide +kernel
theorem dL_setHumidity_7 : decode cL_setHumidity 7 = .ok (.iconst (-1), 1) := by decide +kernel
theorem dL_setHumidity_8 : decode cL_setHumidity 8 = .ok (.ireturn, 1) := by decide +kernel
theorem dL_pass_0 : decode cL_pass 0 = .ok (.aload_n 0, 1) := by decide +kernel
theorem dL_pass_1 : decode cL_pass 1 = .ok (.iload_n 1, 1) := by decide +kernel
theorem dL_pass_2 : decode cL_pass 2 = .ok (.invokevirtual 85, 3) := by decide +kernel
theorem dL_pass_5 : decode cL_pass 5 = .ok (.ireturn, 1) := by decide +kernel
theorem dL_pass_6 : decode cL_pass 6 = .ok (.astore_n 2, 1) := by decide +kernel
theorem dL_pass_7 : decode cL_pass 7 = .ok (.iconst (-1), 1) := by decide +kernel
theorem dL_pass_8 : decode cL_pass 8 = .ok (.ireturn, 1) := by decide +kernel
theorem dL_meanDamp_0 : decode cL_meanDamp 0 = .ok (.aload_n 0, 1) := by decide +kernel
theorem dL_meanDamp_1 : decode cL_meanDamp 1 = .ok (.invokevirtual 88, 3) := by decide +kernel
theorem dL_meanDamp_4 : decode cL_meanDamp 4 = .ok (.dreturn, 1) := by decide +kernel
theorem dL_meanDamp_5 : decode cL_meanDamp 5 = .ok (.astore_n 1, 1) := by decide +kernel
theorem dL_meanDamp_6 : decode cL_meanDamp 6 = .ok (.ldc2_w 94, 3) := by decide +kernel
theorem dL_meanDamp_9 : decode cL_meanDamp 9 = .ok (.dreturn, 1) := by decide +kernel
theorem dL_sailedShare_0 : decode cL_sailedShare 0 = .ok (.aload_n 0, 1) := by decide +kernel
theorem dL_sailedShare_1 : decode cL_sailedShare 1 = .ok (.invokevirtual 96, 3) := by decide +kernel
theorem dL_sailedShare_4 : decode cL_sailedShare 4 = .ok (.freturn, 1) := by decide +kernel
theorem dL_sailedShare_5 : decode cL_sailedShare 5 = .ok (.astore_n 1, 1) := by decide +kernel
theorem dL_sailedShare_6 : decode cL_sailedShare 6 = .ok (.ldc 100, 2) := by decide +kernel
theorem dL_sailedShare_8 : decode cL_sailedShare 8 = .ok (.freturn, 1) := by decide +kernel
theorem dL_reason_0 : decode cL_reason 0 = .ok (.aload_n 0, 1) := by decide +kernel
theorem dL_reason_1 : decode cL_reason 1 = .ok (.iload_n 1, 1) := by decide +kernel
theorem dL_reason_2 : decode cL_reason 2 = .ok (.invokevirtual 101, 3) := by decide +kernel
theorem dL_reason_5 : decode cL_reason 5 = .ok (.ireturn, 1) := by decide +kernel
theorem dL_reason_6 : decode cL_reason 6 = .ok (.astore_n 2, 1) := by decide +kernel
theorem dL_reason_7 : decode cL_reason 7 = .ok (.iconst (-1), 1) := by decide +kernel
theorem dL_reason_8 : decode cL_reason 8 = .ok (.ireturn, 1) := by decide +kernel
theorem dL_account_0 : decode cL_account 0 = .ok (.aload_n 0, 1) := by decide +kernel
theorem dL_account_1 : decode cL_account 1 = .ok (.iload_n 1, 1) := by decide +kernel
theorem dL_account_2 : decode cL_account 2 = .ok (.invokevirtual 105, 3) := by decide +kernel
theorem dL_account_5 : decode cL_account 5 = .ok (.ireturn, 1) := by decide +kernel
theorem dL_account_6 : decode cL_account 6 = .ok (.astore_n 2, 1) := by decide +kernel
theorem dL_account_7 : decode cL_account 7 = .ok (.iconst (-1), 1) := by decide +kernel
theorem dL_account_8 : decode cL_account 8 = .ok (.ireturn, 1) := by decide +kernel
theorem dL_perform_0 : decode cL_perform 0 = .ok (.aload_n 0, 1) := by decide +kernel
theorem dL_perform_1 : decode cL_perform 1 = .ok (.invokevirtual 114, 3) := by decide +kernel
theorem dL_perform_4 : decode cL_perform 4 = .ok (.ireturn, 1) := by decide +kernel
theorem dL_perform_5 : decode cL_perform 5 = .ok (.astore_n 1, 1) := by decide +kernel
theorem dL_perform_6 : decode cL_perform 6 = .ok (.iconst (-1), 1) := by decide +kernel
theorem dL_perform_7 : decode cL_perform 7 = .ok (.ireturn, 1) := by decide +kernel
theorem dL_undo_0 : decode cL_undo 0 = .ok (.aload_n 0, 1) := by decide +kernel
theorem dL_undo_1 : decode cL_undo 1 = .ok (.invokevirtual 117, 3) := by decide +kernel
theorem dL_undo_4 : decode cL_undo 4 = .ok (.ireturn, 1) := by decide +kernel
theorem dL_undo_5 : decode cL_undo 5 = .ok (.astore_n 1, 1) := by decide +kernel
theorem dL_undo_6 : decode cL_undo 6 = .ok (.iconst (-1), 1) := by decide +kernel
theorem dL_undo_7 : decode cL_undo 7 = .ok (.ireturn, 1) := by decide +kernel
theorem dL_restore_0 : decode cL_restore 0 = .ok (.aload_n 0, 1) := by decide +kernel
theorem dL_restore_1 : decode cL_restore 1 = .ok (.invokevirtual 120, 3) := by decide +kernel
theorem dL_restore_4 : decode cL_restore 4 = .ok (.ireturn, 1) := by decide +kernel
theorem dL_restore_5 : decode cL_restore 5 = .ok (.astore_n 1, 1) := by decide +kernel
theorem dL_restore_6 : decode cL_restore 6 = .ok (.iconst (-1), 1) := by decide +kernel
theorem dL_restore_7 : decode cL_restore 7 = .ok (.ireturn, 1) := by decide +kernel
theorem dL_chestOf_0 : decode cL_chestOf 0 = .ok (.aload_n 1, 1) := by decide +kernel
theorem dL_chestOf_1 : decode cL_chestOf 1 = .ok (.bipush 25, 2) := by decide +kernel
theorem dL_chestOf_3 : decode cL_chestOf 3 = .ok (.invokevirtual 137, 3) := by decide +kernel
theorem dL_chestOf_6 : decode cL_chestOf 6 = .ok (.ifCond .ne 12, 3) := by decide +kernel
theorem dL_chestOf_9 : decode cL_chestOf 9 = .ok (.aload_n 0, 1) := by decide +kernel
theorem dL_chestOf_10 : decode cL_chestOf 10 = .ok (.bipush 8, 2) := by decide +kernel
theorem dL_chestOf_12 : decode cL_chestOf 12 = .ok (.invokestatic 142, 3) := by decide +kernel
theorem dL_chestOf_15 : decode cL_chestOf 15 = .ok (.goto 17, 3) := by decide +kernel
theorem dL_chestOf_18 : decode cL_chestOf 18 = .ok (.aload_n 1, 1) := by decide +kernel
theorem dL_chestOf_19 : decode cL_chestOf 19 = .ok (.iconst 1, 1) := by decide +kernel
theorem dL_chestOf_20 : decode cL_chestOf 20 = .ok (.aload_n 0, 1) := by decide +kernel
theorem dL_chestOf_21 : decode cL_chestOf 21 = .ok (.bipush 8, 2) := by decide +kernel
theorem dL_chestOf_23 : decode cL_chestOf 23 = .ok (.invokestatic 142, 3) := by decide +kernel
theorem dL_chestOf_26 : decode cL_chestOf 26 = .ok (.invokestatic 145, 3) := by decide +kernel
theorem dL_chestOf_29 : decode cL_chestOf 29 = .ok (.invokevirtual 137, 3) := by decide +kernel
theorem dL_chestOf_32 : decode cL_chestOf 32 = .ok (.ireturn, 1) := by decide +kernel
theorem dL_acts_0 : decode cL_acts 0 = .ok (.aload_n 0, 1) := by decide +kernel
theorem dL_acts_1 : decode cL_acts 1 = .ok (.aload_n 2, 1) := by decide +kernel
theorem dL_acts_2 : decode cL_acts 2 = .ok (.invokestatic 150, 3) := by decide +kernel
theorem dL_acts_5 : decode cL_acts 5 = .ok (.istore_n 3, 1) := by decide +kernel
theorem dL_acts_6 : decode cL_acts 6 = .ok (.iload_n 1, 1) := by decide +kernel
theorem dL_acts_7 : decode cL_acts 7 = .ok (.bipush 24, 2) := by decide +kernel
theorem dL_acts_9 : decode cL_acts 9 = .ok (.irem, 1) := by decide +kernel
theorem dL_acts_10 : decode cL_acts 10 = .ok (.tableswitch 378 0 21 #[102, 102, 167, 207, 233, 233, 239, 239, 239, 290, 296, 296, 296, 324, 330, 330, 336, 336, 342, 342, 348, 353], 102) := by decide +kernel
theorem dL_acts_112 : decode cL_acts 112 = .ok (.aload_n 0, 1) := by decide +kernel
theorem dL_acts_113 : decode cL_acts 113 = .ok (.aload_n 2, 1) := by decide +kernel
theorem dL_acts_114 : decode cL_acts 114 = .ok (.aload_n 2, 1) := by decide +kernel
theorem dL_acts_115 : decode cL_acts 115 = .ok (.bipush 12, 2) := by decide +kernel
theorem dL_acts_117 : decode cL_acts 117 = .ok (.invokevirtual 137, 3) := by decide +kernel
theorem dL_acts_120 : decode cL_acts 120 = .ok (.ifCond .ne 8, 3) := by decide +kernel
theorem dL_acts_123 : decode cL_acts 123 = .ok (.bipush 7, 2) := by decide +kernel
theorem dL_acts_125 : decode cL_acts 125 = .ok (.goto 4, 3) := by decide +kernel
theorem dL_acts_128 : decode cL_acts 128 = .ok (.iconst 3, 1) := by decide +kernel
theorem dL_acts_129 : decode cL_acts 129 = .ok (.invokevirtual 137, 3) := by decide +kernel
theorem dL_acts_132 : decode cL_acts 132 = .ok (.aload_n 2, 1) := by decide +kernel
theorem dL_acts_133 : decode cL_acts 133 = .ok (.aload_n 2, 1) := by decide +kernel
theorem dL_acts_134 : decode cL_acts 134 = .ok (.bipush 12, 2) := by decide +kernel
theorem dL_acts_136 : decode cL_acts 136 = .ok (.invokevirtual 137, 3) := by decide +kernel
theorem dL_acts_139 : decode cL_acts 139 = .ok (.ifCond .ne 7, 3) := by decide +kernel
theorem dL_acts_142 : decode cL_acts 142 = .ok (.iconst 4, 1) := by decide +kernel
theorem dL_acts_143 : decode cL_acts 143 = .ok (.goto 4, 3) := by decide +kernel
theorem dL_acts_146 : decode cL_acts 146 = .ok (.iconst 3, 1) := by decide +kernel
theorem dL_acts_147 : decode cL_acts 147 = .ok (.invokevirtual 137, 3) := by decide +kernel
theorem dL_acts_150 : decode cL_acts 150 = .ok (.iconst 1, 1) := by decide +kernel
theorem dL_acts_151 : decode cL_acts 151 = .ok (.aload_n 2, 1) := by decide +kernel
theorem dL_acts_152 : decode cL_acts 152 = .ok (.aload_n 2, 1) := by decide +kernel
theorem dL_acts_153 : decode cL_acts 153 = .ok (.bipush 12, 2) := by decide +kernel
theorem dL_acts_155 : decode cL_acts 155 = .ok (.invokevirtual 137, 3) := by decide +kernel
theorem dL_acts_158 : decode cL_acts 158 = .ok (.ifCond .ne 9, 3) := by decide +kernel
theorem dL_acts_161 : decode cL_acts 161 = .ok (.sipush 500, 3) := by decide +kernel
theorem dL_acts_164 : decode cL_acts 164 = .ok (.goto 5, 3) := by decide +kernel
theorem dL_acts_167 : decode cL_acts 167 = .ok (.bipush 120, 2) := by decide +kernel
theorem dL_acts_169 : decode cL_acts 169 = .ok (.invokevirtual 137, 3) := by decide +kernel
theorem dL_acts_172 : decode cL_acts 172 = .ok (.iadd, 1) := by decide +kernel
theorem dL_acts_173 : decode cL_acts 173 = .ok (.invokestatic 154, 3) := by decide +kernel
theorem dL_acts_176 : decode cL_acts 176 = .ok (.ireturn, 1) := by decide +kernel
theorem dL_acts_177 : decode cL_acts 177 = .ok (.aload_n 0, 1) := by decide +kernel
theorem dL_acts_178 : decode cL_acts 178 = .ok (.aload_n 2, 1) := by decide +kernel
theorem dL_acts_179 : decode cL_acts 179 = .ok (.iconst 2, 1) := by decide +kernel
theorem dL_acts_180 : decode cL_acts 180 = .ok (.invokevirtual 137, 3) := by decide +kernel
theorem dL_acts_183 : decode cL_acts 183 = .ok (.ifCond .ne 7, 3) := by decide +kernel
theorem dL_acts_186 : decode cL_acts 186 = .ok (.iconst 1, 1) := by decide +kernel
theorem dL_acts_187 : decode cL_acts 187 = .ok (.goto 4, 3) := by decide +kernel
theorem dL_acts_190 : decode cL_acts 190 = .ok (.iconst 0, 1) := by decide +kernel
theorem dL_acts_191 : decode cL_acts 191 = .ok (.iconst 1, 1) := by decide +kernel
theorem dL_acts_192 : decode cL_acts 192 = .ok (.aload_n 2, 1) := by decide +kernel
theorem dL_acts_193 : decode cL_acts 193 = .ok (.aload_n 2, 1) := by decide +kernel
theorem dL_acts_194 : decode cL_acts 194 = .ok (.bipush 12, 2) := by decide +kernel
theorem dL_acts_196 : decode cL_acts 196 = .ok (.invokevirtual 137, 3) := by decide +kernel
theorem dL_acts_199 : decode cL_acts 199 = .ok (.ifCond .ne 8, 3) := by decide +kernel
theorem dL_acts_202 : decode cL_acts 202 = .ok (.bipush 99, 2) := by decide +kernel
theorem dL_acts_204 : decode cL_acts 204 = .ok (.goto 5, 3) := by decide +kernel
theorem dL_acts_207 : decode cL_acts 207 = .ok (.bipush 30, 2) := by decide +kernel
theorem dL_acts_209 : decode cL_acts 209 = .ok (.invokevirtual 137, 3) := by decide +kernel
theorem dL_acts_212 : decode cL_acts 212 = .ok (.iadd, 1) := by decide +kernel
theorem dL_acts_213 : decode cL_acts 213 = .ok (.invokestatic 157, 3) := by decide +kernel
theorem dL_acts_216 : decode cL_acts 216 = .ok (.ireturn, 1) := by decide +kernel
theorem dL_acts_217 : decode cL_acts 217 = .ok (.aload_n 0, 1) := by decide +kernel
theorem dL_acts_218 : decode cL_acts 218 = .ok (.iconst 1, 1) := by decide +kernel
theorem dL_acts_219 : decode cL_acts 219 = .ok (.aload_n 2, 1) := by decide +kernel
theorem dL_acts_220 : decode cL_acts 220 = .ok (.aload_n 2, 1) := by decide +kernel
theorem dL_acts_221 : decode cL_acts 221 = .ok (.bipush 12, 2) := by decide +kernel
theorem dL_acts_223 : decode cL_acts 223 = .ok (.invokevirtual 137, 3) := by decide +kernel
theorem dL_acts_226 : decode cL_acts 226 = .ok (.ifCond .ne 8, 3) := by decide +kernel
theorem dL_acts_229 : decode cL_acts 229 = .ok (.bipush 6, 2) := by decide +kernel
theorem dL_acts_231 : decode cL_acts 231 = .ok (.goto 4, 3) := by decide +kernel
theorem dL_acts_234 : decode cL_acts 234 = .ok (.iconst 3, 1) := by decide +kernel
theorem dL_acts_235 : decode cL_acts 235 = .ok (.invokevirtual 137, 3) := by decide +kernel
theorem dL_acts_238 : decode cL_acts 238 = .ok (.iadd, 1) := by decide +kernel
theorem dL_acts_239 : decode cL_acts 239 = .ok (.invokestatic 160, 3) := by decide +kernel
theorem dL_acts_242 : decode cL_acts 242 = .ok (.ireturn, 1) := by decide +kernel
theorem dL_acts_243 : decode cL_acts 243 = .ok (.aload_n 0, 1) := by decide +kernel
theorem dL_acts_244 : decode cL_acts 244 = .ok (.iload_n 3, 1) := by decide +kernel
theorem dL_acts_245 : decode cL_acts 245 = .ok (.invokestatic 162, 3) := by decide +kernel
theorem dL_acts_248 : decode cL_acts 248 = .ok (.ireturn, 1) := by decide +kernel
theorem dL_acts_249 : decode cL_acts 249 = .ok (.aload_n 0, 1) := by decide +kernel
theorem dL_acts_250 : decode cL_acts 250 = .ok (.iload_n 3, 1) := by decide +kernel
theorem dL_acts_251 : decode cL_acts 251 = .ok (.aload_n 2, 1) := by decide +kernel
theorem dL_acts_252 : decode cL_acts 252 = .ok (.iconst 3, 1) := by decide +kernel
theorem dL_acts_253 : decode cL_acts 253 = .ok (.invokevirtual 137, 3) := by decide +kernel
theorem dL_acts_256 : decode cL_acts 256 = .ok (.aload_n 2, 1) := by decide +kernel
theorem dL_acts_257 : decode cL_acts 257 = .ok (.aload_n 2, 1) := by decide +kernel
theorem dL_acts_258 : decode cL_acts 258 = .ok (.bipush 12, 2) := by decide +kernel
theorem dL_acts_260 : decode cL_acts 260 = .ok (.invokevirtual 137, 3) := by decide +kernel
theorem dL_acts_263 : decode cL_acts 263 = .ok (.ifCond .ne 7, 3) := by decide +kernel
theorem dL_acts_266 : decode cL_acts 266 = .ok (.iconst 4, 1) := by decide +kernel
theorem dL_acts_267 : decode cL_acts 267 = .ok (.goto 4, 3) := by decide +kernel
theorem dL_acts_270 : decode cL_acts 270 = .ok (.iconst 3, 1) := by decide +kernel
theorem dL_acts_271 : decode cL_acts 271 = .ok (.invokevirtual 137, 3) := by decide +kernel
theorem dL_acts_274 : decode cL_acts 274 = .ok (.iconst 1, 1) := by decide +kernel
theorem dL_acts_275 : decode cL_acts 275 = .ok (.aload_n 2, 1) := by decide +kernel
theorem dL_acts_276 : decode cL_acts 276 = .ok (.aload_n 2, 1) := by decide +kernel
theorem dL_acts_277 : decode cL_acts 277 = .ok (.bipush 12, 2) := by decide +kernel
theorem dL_acts_279 : decode cL_acts 279 = .ok (.invokevirtual 137, 3) := by decide +kernel
theorem dL_acts_282 : decode cL_acts 282 = .ok (.ifCond .ne 8, 3) := by decide +kernel
theorem dL_acts_285 : decode cL_acts 285 = .ok (.bipush 51, 2) := by decide +kernel
theorem dL_acts_287 : decode cL_acts 287 = .ok (.goto 5, 3) := by decide +kernel
theorem dL_acts_290 : decode cL_acts 290 = .ok (.bipush 15, 2) := by decide +kernel
theorem dL_acts_292 : decode cL_acts 292 = .ok (.invokevirtual 137, 3) := by decide +kernel
theorem dL_acts_295 : decode cL_acts 295 = .ok (.iadd, 1) := by decide +kernel
theorem dL_acts_296 : decode cL_acts 296 = .ok (.invokestatic 164, 3) := by decide +kernel
theorem dL_acts_299 : decode cL_acts 299 = .ok (.ireturn, 1) := by decide +kernel
theorem dL_acts_300 : decode cL_acts 300 = .ok (.aload_n 0, 1) := by decide +kernel
theorem dL_acts_301 : decode cL_acts 301 = .ok (.iload_n 3, 1) := by decide +kernel
theorem dL_acts_302 : decode cL_acts 302 = .ok (.invokestatic 167, 3) := by decide +kernel
theorem dL_acts_305 : decode cL_acts 305 = .ok (.ireturn, 1) := by decide +kernel
theorem dL_acts_306 : decode cL_acts 306 = .ok (.aload_n 0, 1) := by decide +kernel
theorem dL_acts_307 : decode cL_acts 307 = .ok (.iload_n 3, 1) := by decide +kernel
theorem dL_acts_308 : decode cL_acts 308 = .ok (.iconst 1, 1) := by decide +kernel
theorem dL_acts_309 : decode cL_acts 309 = .ok (.aload_n 2, 1) := by decide +kernel
theorem dL_acts_310 : decode cL_acts 310 = .ok (.aload_n 2, 1) := by decide +kernel
theorem dL_acts_311 : decode cL_acts 311 = .ok (.bipush 12, 2) := by decide +kernel
theorem dL_acts_313 : decode cL_acts 313 = .ok (.invokevirtual 137, 3) := by decide +kernel
theorem dL_acts_316 : decode cL_acts 316 = .ok (.ifCond .ne 8, 3) := by decide +kernel
theorem dL_acts_319 : decode cL_acts 319 = .ok (.bipush 9, 2) := by decide +kernel
theorem dL_acts_321 : decode cL_acts 321 = .ok (.goto 5, 3) := by decide +kernel
theorem dL_acts_324 : decode cL_acts 324 = .ok (.bipush 7, 2) := by decide +kernel
theorem dL_acts_326 : decode cL_acts 326 = .ok (.invokevirtual 137, 3) := by decide +kernel
theorem dL_acts_329 : decode cL_acts 329 = .ok (.iadd, 1) := by decide +kernel
theorem dL_acts_330 : decode cL_acts 330 = .ok (.invokestatic 169, 3) := by decide +kernel
theorem dL_acts_333 : decode cL_acts 333 = .ok (.ireturn, 1) := by decide +kernel
theorem dL_acts_334 : decode cL_acts 334 = .ok (.aload_n 0, 1) := by decide +kernel
theorem dL_acts_335 : decode cL_acts 335 = .ok (.iload_n 3, 1) := by decide +kernel
theorem dL_acts_336 : decode cL_acts 336 = .ok (.invokestatic 173, 3) := by decide +kernel
theorem dL_acts_339 : decode cL_acts 339 = .ok (.ireturn, 1) := by decide +kernel
theorem dL_acts_340 : decode cL_acts 340 = .ok (.aload_n 0, 1) := by decide +kernel
theorem dL_acts_341 : decode cL_acts 341 = .ok (.iload_n 3, 1) := by decide +kernel
theorem dL_acts_342 : decode cL_acts 342 = .ok (.invokestatic 175, 3) := by decide +kernel
theorem dL_acts_345 : decode cL_acts 345 = .ok (.ireturn, 1) := by decide +kernel
theorem dL_acts_346 : decode cL_acts 346 = .ok (.aload_n 0, 1) := by decide +kernel
theorem dL_acts_347 : decode cL_acts 347 = .ok (.iload_n 3, 1) := by decide +kernel
theorem dL_acts_348 : decode cL_acts 348 = .ok (.invokestatic 177, 3) := by decide +kernel
theorem dL_acts_351 : decode cL_acts 351 = .ok (.ireturn, 1) := by decide +kernel
theorem dL_acts_352 : decode cL_acts 352 = .ok (.aload_n 0, 1) := by decide +kernel
theorem dL_acts_353 : decode cL_acts 353 = .ok (.iload_n 3, 1) := by decide +kernel
theorem dL_acts_354 : decode cL_acts 354 = .ok (.invokestatic 179, 3) := by decide +kernel
theorem dL_acts_357 : decode cL_acts 357 = .ok (.ireturn, 1) := by decide +kernel
theorem dL_acts_358 : decode cL_acts 358 = .ok (.aload_n 0, 1) := by decide +kernel
theorem dL_acts_359 : decode cL_acts 359 = .ok (.invokestatic 181, 3) := by decide +kernel
theorem dL_acts_362 : decode cL_acts 362 = .ok (.ireturn, 1) := by decide +kernel
theorem dL_acts_363 : decode cL_acts 363 = .ok (.aload_n 0, 1) := by decide +kernel
theorem dL_acts_364 : decode cL_acts 364 = .ok (.aload_n 2, 1) := by decide +kernel
theorem dL_acts_365 : decode cL_acts 365 = .ok (.aload_n 2, 1) := by decide +kernel
theorem dL_acts_366 : decode cL_acts 366 = .ok (.bipush 12, 2) := by decide +kernel
theorem dL_acts_368 : decode cL_acts 368 = .ok (.invokevirtual 137, 3) := by decide +kernel
theorem dL_acts_371 : decode cL_acts 371 = .ok (.ifCond .ne 8, 3) := by decide +kernel
theorem dL_acts_374 : decode cL_acts 374 = .ok (.bipush 11, 2) := by decide +kernel
theorem dL_acts_376 : decode cL_acts 376 = .ok (.goto 5, 3) := by decide +kernel
theorem dL_acts_379 : decode cL_acts 379 = .ok (.bipush 10, 2) := by decide +kernel
theorem dL_acts_381 : decode cL_acts 381 = .ok (.invokevirtual 137, 3) := by decide +kernel
theorem dL_acts_384 : decode cL_acts 384 = .ok (.invokestatic 184, 3) := by decide +kernel
theorem dL_acts_387 : decode cL_acts 387 = .ok (.ireturn, 1) := by decide +kernel
theorem dL_acts_388 : decode cL_acts 388 = .ok (.aload_n 0, 1) := by decide +kernel
theorem dL_acts_389 : decode cL_acts 389 = .ok (.aload_n 2, 1) := by decide +kernel
theorem dL_acts_390 : decode cL_acts 390 = .ok (.aload_n 2, 1) := by decide +kernel
theorem dL_acts_391 : decode cL_acts 391 = .ok (.bipush 20, 2) := by decide +kernel
theorem dL_acts_393 : decode cL_acts 393 = .ok (.invokevirtual 137, 3) := by decide +kernel
theorem dL_acts_396 : decode cL_acts 396 = .ok (.ifCond .ne 8, 3) := by decide +kernel
theorem dL_acts_399 : decode cL_acts 399 = .ok (.bipush 74, 2) := by decide +kernel
theorem dL_acts_401 : decode cL_acts 401 = .ok (.goto 5, 3) := by decide +kernel
theorem dL_acts_404 : decode cL_acts 404 = .ok (.bipush 9, 2) := by decide +kernel
theorem dL_acts_406 : decode cL_acts 406 = .ok (.invokevirtual 137, 3) := by decide +kernel
theorem dL_acts_409 : decode cL_acts 409 = .ok (.invokestatic 186, 3) := by decide +kernel
theorem dL_acts_412 : decode cL_acts 412 = .ok (.ireturn, 1) := by decide +kernel
theorem dL_screws_0 : decode cL_screws 0 = .ok (.aload_n 0, 1) := by decide +kernel
theorem dL_screws_1 : decode cL_screws 1 = .ok (.iload_n 1, 1) := by decide +kernel
theorem dL_screws_2 : decode cL_screws 2 = .ok (.iload_n 2, 1) := by decide +kernel
theorem dL_screws_3 : decode cL_screws 3 = .ok (.invokevirtual 41, 3) := by decide +kernel
theorem dL_screws_6 : decode cL_screws 6 = .ok (.ifCond .eq 7, 3) := by decide +kernel
theorem dL_screws_9 : decode cL_screws 9 = .ok (.iconst 1, 1) := by decide +kernel
theorem dL_screws_10 : decode cL_screws 10 = .ok (.goto 4, 3) := by decide +kernel
theorem dL_screws_13 : decode cL_screws 13 = .ok (.iconst 0, 1) := by decide +kernel
theorem dL_screws_14 : decode cL_screws 14 = .ok (.ireturn, 1) := by decide +kernel
theorem dL_screws_15 : decode cL_screws 15 = .ok (.astore_n 3, 1) := by decide +kernel
theorem dL_screws_16 : decode cL_screws 16 = .ok (.iconst (-1), 1) := by decide +kernel
theorem dL_screws_17 : decode cL_screws 17 = .ok (.ireturn, 1) := by decide +kernel
theorem dL_screws_18 : decode cL_screws 18 = .ok (.astore_n 3, 1) := by decide +kernel
theorem dL_screws_19 : decode cL_screws 19 = .ok (.bipush (-3), 2) := by decide +kernel
theorem dL_screws_21 : decode cL_screws 21 = .ok (.ireturn, 1) := by decide +kernel
theorem dL_told_0 : decode cL_told 0 = .ok (.sipush 260, 3) := by decide +kernel
theorem dL_told_3 : decode cL_told 3 = .ok (.newarray .int, 2) := by decide +kernel
theorem dL_told_5 : decode cL_told 5 = .ok (.astore_n 1, 1) := by decide +kernel
theorem dL_told_6 : decode cL_told 6 = .ok (.iconst 0, 1) := by decide +kernel
theorem dL_told_7 : decode cL_told 7 = .ok (.istore_n 2, 1) := by decide +kernel
theorem dL_told_8 : decode cL_told 8 = .ok (.iconst 0, 1) := by decide +kernel
theorem dL_told_9 : decode cL_told 9 = .ok (.istore_n 3, 1) := by decide +kernel
theorem dL_told_10 : decode cL_told 10 = .ok (.iload_n 3, 1) := by decide +kernel
theorem dL_told_11 : decode cL_told 11 = .ok (.bipush 16, 2) := by decide +kernel
theorem dL_told_13 : decode cL_told 13 = .ok (.if_icmp .ge 20, 3) := by decide +kernel
theorem dL_told_16 : decode cL_told 16 = .ok (.aload_n 1, 1) := by decide +kernel
theorem dL_told_17 : decode cL_told 17 = .ok (.iload_n 2, 1) := by decide +kernel
theorem dL_told_18 : decode cL_told 18 = .ok (.iinc 2 1, 3) := by decide +kernel
theorem dL_told_21 : decode cL_told 21 = .ok (.aload_n 0, 1) := by decide +kernel
theorem dL_told_22 : decode cL_told 22 = .ok (.iload_n 3, 1) := by decide +kernel
theorem dL_told_23 : decode cL_told 23 = .ok (.invokestatic 142, 3) := by decide +kernel
theorem dL_told_26 : decode cL_told 26 = .ok (.iastore, 1) := by decide +kernel
theorem dL_told_27 : decode cL_told 27 = .ok (.iinc 3 1, 3) := by decide +kernel
theorem dL_told_30 : decode cL_told 30 = .ok (.goto (-20), 3) := by decide +kernel
theorem dL_told_33 : decode cL_told 33 = .ok (.iconst 0, 1) := by decide +kernel
theorem dL_told_34 : decode cL_told 34 = .ok (.istore_n 3, 1) := by decide +kernel
theorem dL_told_35 : decode cL_told 35 = .ok (.iload_n 3, 1) := by decide +kernel
theorem dL_told_36 : decode cL_told 36 = .ok (.bipush 18, 2) := by decide +kernel
theorem dL_told_38 : decode cL_told 38 = .ok (.if_icmp .ge 25, 3) := by decide +kernel
theorem dL_told_41 : decode cL_told 41 = .ok (.aload_n 1, 1) := by decide +kernel
theorem dL_told_42 : decode cL_told 42 = .ok (.iload_n 2, 1) := by decide +kernel
theorem dL_told_43 : decode cL_told 43 = .ok (.iinc 2 1, 3) := by decide +kernel
theorem dL_told_46 : decode cL_told 46 = .ok (.aload_n 0, 1) := by decide +kernel
theorem dL_told_47 : decode cL_told 47 = .ok (.iload_n 3, 1) := by decide +kernel
theorem dL_told_48 : decode cL_told 48 = .ok (.iconst 3, 1) := by decide +kernel
theorem dL_told_49 : decode cL_told 49 = .ok (.idiv, 1) := by decide +kernel
theorem dL_told_50 : decode cL_told 50 = .ok (.iload_n 3, 1) := by decide +kernel
theorem dL_told_51 : decode cL_told 51 = .ok (.iconst 3, 1) := by decide +kernel
theorem dL_told_52 : decode cL_told 52 = .ok (.irem, 1) := by decide +kernel
theorem dL_told_53 : decode cL_told 53 = .ok (.invokestatic 188, 3) := by decide +kernel
theorem dL_told_56 : decode cL_told 56 = .ok (.iastore, 1) := by decide +kernel
theorem dL_told_57 : decode cL_told 57 = .ok (.iinc 3 1, 3) := by decide +kernel
theorem dL_told_60 : decode cL_told 60 = .ok (.goto (-25), 3) := by decide +kernel
theorem dL_told_63 : decode cL_told 63 = .ok (.iconst 0, 1) := by decide +kernel
theorem dL_told_64 : decode cL_told 64 = .ok (.istore_n 3, 1) := by decide +kernel
theorem dL_told_65 : decode cL_told 65 = .ok (.iload_n 3, 1) := by decide +kernel
theorem dL_told_66 : decode cL_told 66 = .ok (.bipush 20, 2) := by decide +kernel
theorem dL_told_68 : decode cL_told 68 = .ok (.if_icmp .ge 38, 3) := by decide +kernel
theorem dL_told_71 : decode cL_told 71 = .ok (.iconst 0, 1) := by decide +kernel
theorem dL_told_72 : decode cL_told 72 = .ok (.istore 4, 2) := by decide +kernel
theorem dL_told_74 : decode cL_told 74 = .ok (.iload 4, 2) := by decide +kernel
theorem dL_told_76 : decode cL_told 76 = .ok (.bipush 10, 2) := by decide +kernel
theorem dL_told_78 : decode cL_told 78 = .ok (.if_icmp .ge 22, 3) := by decide +kernel
theorem dL_told_81 : decode cL_told 81 = .ok (.aload_n 1, 1) := by decide +kernel
theorem dL_told_82 : decode cL_told 82 = .ok (.iload_n 2, 1) := by decide +kernel
theorem dL_told_83 : decode cL_told 83 = .ok (.iinc 2 1, 3) := by decide +kernel
theorem dL_told_86 : decode cL_told 86 = .ok (.aload_n 0, 1) := by decide +kernel
theorem dL_told_87 : decode cL_told 87 = .ok (.iload_n 3, 1) := by decide +kernel
theorem dL_told_88 : decode cL_told 88 = .ok (.iload 4, 2) := by decide +kernel
theorem dL_told_90 : decode cL_told 90 = .ok (.invokestatic 190, 3) := by decide +kernel
theorem dL_told_93 : decode cL_told 93 = .ok (.iastore, 1) := by decide +kernel
theorem dL_told_94 : decode cL_told 94 = .ok (.iinc 4 1, 3) := by decide +kernel
theorem dL_told_97 : decode cL_told 97 = .ok (.goto (-23), 3) := by decide +kernel
theorem dL_told_100 : decode cL_told 100 = .ok (.iinc 3 1, 3) := by decide +kernel
theorem dL_told_103 : decode cL_told 103 = .ok (.goto (-38), 3) := by decide +kernel
theorem dL_told_106 : decode cL_told 106 = .ok (.aload_n 1, 1) := by decide +kernel
theorem dL_told_107 : decode cL_told 107 = .ok (.areturn, 1) := by decide +kernel
theorem dL_stock_0 : decode cL_stock 0 = .ok (.aload_n 0, 1) := by decide +kernel
theorem dL_stock_1 : decode cL_stock 1 = .ok (.iconst 0, 1) := by decide +kernel
theorem dL_stock_2 : decode cL_stock 2 = .ok (.iconst 2, 1) := by decide +kernel
theorem dL_stock_3 : decode cL_stock 3 = .ok (.sipush 200, 3) := by decide +kernel
theorem dL_stock_6 : decode cL_stock 6 = .ok (.invokestatic 154, 3) := by decide +kernel
theorem dL_stock_9 : decode cL_stock 9 = .ok (.aload_n 0, 1) := by decide +kernel
theorem dL_stock_10 : decode cL_stock 10 = .ok (.iconst 1, 1) := by decide +kernel
theorem dL_stock_11 : decode cL_stock 11 = .ok (.iconst 1, 1) := by decide +kernel
theorem dL_stock_12 : decode cL_stock 12 = .ok (.bipush 90, 2) := by decide +kernel
theorem dL_stock_14 : decode cL_stock 14 = .ok (.invokestatic 154, 3) := by decide +kernel
theorem dL_stock_17 : decode cL_stock 17 = .ok (.iadd, 1) := by decide +kernel
theorem dL_stock_18 : decode cL_stock 18 = .ok (.aload_n 0, 1) := by decide +kernel
theorem dL_stock_19 : decode cL_stock 19 = .ok (.iconst 2, 1) := by decide +kernel
theorem dL_stock_20 : decode cL_stock 20 = .ok (.iconst 0, 1) := by decide +kernel
theorem dL_stock_21 : decode cL_stock 21 = .ok (.bipush 60, 2) := by decide +kernel
theorem dL_stock_23 : decode cL_stock 23 = .ok (.invokestatic 154, 3) := by decide +kernel
theorem dL_stock_26 : decode cL_stock 26 = .ok (.iadd, 1) := by decide +kernel
theorem dL_stock_27 : decode cL_stock 27 = .ok (.aload_n 0, 1) := by decide +kernel
theorem dL_stock_28 : decode cL_stock 28 = .ok (.iconst 2, 1) := by decide +kernel
theorem dL_stock_29 : decode cL_stock 29 = .ok (.invokestatic 160, 3) := by decide +kernel
theorem dL_stock_32 : decode cL_stock 32 = .ok (.iadd, 1) := by decide +kernel
theorem dL_stock_33 : decode cL_stock 33 = .ok (.aload_n 0, 1) := by decide +kernel
theorem dL_stock_34 : decode cL_stock 34 = .ok (.iconst 1, 1) := by decide +kernel
theorem dL_stock_35 : decode cL_stock 35 = .ok (.invokestatic 160, 3) := by decide +kernel
theorem dL_stock_38 : decode cL_stock 38 = .ok (.iadd, 1) := by decide +kernel
theorem dL_stock_39 : decode cL_stock 39 = .ok (.aload_n 0, 1) := by decide +kernel
theorem dL_stock_40 : decode cL_stock 40 = .ok (.iconst 3, 1) := by decide +kernel
theorem dL_stock_41 : decode cL_stock 41 = .ok (.invokestatic 160, 3) := by decide +kernel
theorem dL_stock_44 : decode cL_stock 44 = .ok (.iadd, 1) := by decide +kernel
theorem dL_stock_45 : decode cL_stock 45 = .ok (.aload_n 0, 1) := by decide +kernel
theorem dL_stock_46 : decode cL_stock 46 = .ok (.iconst 2, 1) := by decide +kernel
theorem dL_stock_47 : decode cL_stock 47 = .ok (.invokestatic 160, 3) := by decide +kernel
theorem dL_stock_50 : decode cL_stock 50 = .ok (.iadd, 1) := by decide +kernel
theorem dL_stock_51 : decode cL_stock 51 = .ok (.aload_n 0, 1) := by decide +kernel
theorem dL_stock_52 : decode cL_stock 52 = .ok (.iconst 0, 1) := by decide +kernel
theorem dL_stock_53 : decode cL_stock 53 = .ok (.bipush 30, 2) := by decide +kernel
theorem dL_stock_55 : decode cL_stock 55 = .ok (.invokestatic 157, 3) := by decide +kernel
theorem dL_stock_58 : decode cL_stock 58 = .ok (.iadd, 1) := by decide +kernel
theorem dL_stock_59 : decode cL_stock 59 = .ok (.aload_n 0, 1) := by decide +kernel
theorem dL_stock_60 : decode cL_stock 60 = .ok (.iconst 1, 1) := by decide +kernel
theorem dL_stock_61 : decode cL_stock 61 = .ok (.bipush 20, 2) := by decide +kernel
theorem dL_stock_63 : decode cL_stock 63 = .ok (.invokestatic 157, 3) := by decide +kernel
theorem dL_stock_66 : decode cL_stock 66 = .ok (.iadd, 1) := by decide +kernel
theorem dL_stock_67 : decode cL_stock 67 = .ok (.istore_n 1, 1) := by decide +kernel
theorem dL_stock_68 : decode cL_stock 68 = .ok (.iload_n 1, 1) := by decide +kernel
theorem dL_stock_69 : decode cL_stock 69 = .ok (.aload_n 0, 1) := by decide +kernel
theorem dL_stock_70 : decode cL_stock 70 = .ok (.iconst 0, 1) := by decide +kernel
theorem dL_stock_71 : decode cL_stock 71 = .ok (.invokestatic 162, 3) := by decide +kernel
theorem dL_stock_74 : decode cL_stock 74 = .ok (.aload_n 0, 1) := by decide +kernel
theorem dL_stock_75 : decode cL_stock 75 = .ok (.iconst 1, 1) := by decide +kernel
theorem dL_stock_76 : decode cL_stock 76 = .ok (.invokestatic 162, 3) := by decide +kernel
theorem dL_stock_79 : decode cL_stock 79 = .ok (.iadd, 1) := by decide +kernel
theorem dL_stock_80 : decode cL_stock 80 = .ok (.aload_n 0, 1) := by decide +kernel
theorem dL_stock_81 : decode cL_stock 81 = .ok (.iconst 0, 1) := by decide +kernel
theorem dL_stock_82 : decode cL_stock 82 = .ok (.iconst 0, 1) := by decide +kernel
theorem dL_stock_83 : decode cL_stock 83 = .ok (.iconst 2, 1) := by decide +kernel
theorem dL_stock_84 : decode cL_stock 84 = .ok (.bipush 20, 2) := by decide +kernel
theorem dL_stock_86 : decode cL_stock 86 = .ok (.invokestatic 164, 3) := by decide +kernel
theorem dL_stock_89 : decode cL_stock 89 = .ok (.iadd, 1) := by decide +kernel
theorem dL_stock_90 : decode cL_stock 90 = .ok (.aload_n 0, 1) := by decide +kernel
theorem dL_stock_91 : decode cL_stock 91 = .ok (.iconst 1, 1) := by decide +kernel
theorem dL_stock_92 : decode cL_stock 92 = .ok (.iconst 1, 1) := by decide +kernel
theorem dL_stock_93 : decode cL_stock 93 = .ok (.iconst 1, 1) := by decide +kernel
theorem dL_stock_94 : decode cL_stock 94 = .ok (.bipush 8, 2) := by decide +kernel
theorem dL_stock_96 : decode cL_stock 96 = .ok (.invokestatic 164, 3) := by decide +kernel
theorem dL_stock_99 : decode cL_stock 99 = .ok (.iadd, 1) := by decide +kernel
theorem dL_stock_100 : decode cL_stock 100 = .ok (.aload_n 0, 1) := by decide +kernel
theorem dL_stock_101 : decode cL_stock 101 = .ok (.iconst 2, 1) := by decide +kernel
theorem dL_stock_102 : decode cL_stock 102 = .ok (.iconst 0, 1) := by decide +kernel
theorem dL_stock_103 : decode cL_stock 103 = .ok (.iconst 2, 1) := by decide +kernel
theorem dL_stock_104 : decode cL_stock 104 = .ok (.bipush 25, 2) := by decide +kernel
theorem dL_stock_106 : decode cL_stock 106 = .ok (.invokestatic 164, 3) := by decide +kernel
theorem dL_stock_109 : decode cL_stock 109 = .ok (.iadd, 1) := by decide +kernel
theorem dL_stock_110 : decode cL_stock 110 = .ok (.aload_n 0, 1) := by decide +kernel
theorem dL_stock_111 : decode cL_stock 111 = .ok (.iconst 0, 1) := by decide +kernel
theorem dL_stock_112 : decode cL_stock 112 = .ok (.iconst 4, 1) := by decide +kernel
theorem dL_stock_113 : decode cL_stock 113 = .ok (.invokestatic 169, 3) := by decide +kernel
theorem dL_stock_116 : decode cL_stock 116 = .ok (.iadd, 1) := by decide +kernel
theorem dL_stock_117 : decode cL_stock 117 = .ok (.aload_n 0, 1) := by decide +kernel
theorem dL_stock_118 : decode cL_stock 118 = .ok (.iconst 1, 1) := by decide +kernel
theorem dL_stock_119 : decode cL_stock 119 = .ok (.iconst 4, 1) := by decide +kernel
theorem dL_stock_120 : decode cL_stock 120 = .ok (.invokestatic 169, 3) := by decide +kernel
theorem dL_stock_123 : decode cL_stock 123 = .ok (.iadd, 1) := by decide +kernel
theorem dL_stock_124 : decode cL_stock 124 = .ok (.aload_n 0, 1) := by decide +kernel
theorem dL_stock_125 : decode cL_stock 125 = .ok (.iconst 0, 1) := by decide +kernel
theorem dL_stock_126 : decode cL_stock 126 = .ok (.invokestatic 175, 3) := by decide +kernel
theorem dL_stock_129 : decode cL_stock 129 = .ok (.iadd, 1) := by decide +kernel
theorem dL_stock_130 : decode cL_stock 130 = .ok (.iadd, 1) := by decide +kernel
theorem dL_stock_131 : decode cL_stock 131 = .ok (.istore_n 1, 1) := by decide +kernel
theorem dL_stock_132 : decode cL_stock 132 = .ok (.iload_n 1, 1) := by decide +kernel
theorem dL_stock_133 : decode cL_stock 133 = .ok (.aload_n 0, 1) := by decide +kernel
theorem dL_stock_134 : decode cL_stock 134 = .ok (.bipush 6, 2) := by decide +kernel
theorem dL_stock_136 : decode cL_stock 136 = .ok (.invokestatic 184, 3) := by decide +kernel
theorem dL_stock_139 : decode cL_stock 139 = .ok (.iadd, 1) := by decide +kernel
theorem dL_stock_140 : decode cL_stock 140 = .ok (.aload_n 0, 1) := by decide +kernel
theorem dL_stock_141 : decode cL_stock 141 = .ok (.iconst 3, 1) := by decide +kernel
theorem dL_stock_142 : decode cL_stock 142 = .ok (.invokestatic 186, 3) := by decide +kernel
theorem dL_stock_145 : decode cL_stock 145 = .ok (.iadd, 1) := by decide +kernel
theorem dL_stock_146 : decode cL_stock 146 = .ok (.aload_n 0, 1) := by decide +kernel
theorem dL_stock_147 : decode cL_stock 147 = .ok (.iconst 0, 1) := by decide +kernel
theorem dL_stock_148 : decode cL_stock 148 = .ok (.invokestatic 177, 3) := by decide +kernel
theorem dL_stock_151 : decode cL_stock 151 = .ok (.iadd, 1) := by decide +kernel
theorem dL_stock_152 : decode cL_stock 152 = .ok (.aload_n 0, 1) := by decide +kernel
theorem dL_stock_153 : decode cL_stock 153 = .ok (.iconst 2, 1) := by decide +kernel
theorem dL_stock_154 : decode cL_stock 154 = .ok (.invokestatic 175, 3) := by decide +kernel
theorem dL_stock_157 : decode cL_stock 157 = .ok (.iadd, 1) := by decide +kernel
theorem dL_stock_158 : decode cL_stock 158 = .ok (.ireturn, 1) := by decide +kernel
theorem dL_worthOf_0 : decode cL_worthOf 0 = .ok (.aload_n 0, 1) := by decide +kernel
theorem dL_worthOf_1 : decode cL_worthOf 1 = .ok (.iload_n 1, 1) := by decide +kernel
theorem dL_worthOf_2 : decode cL_worthOf 2 = .ok (.iconst 3, 1) := by decide +kernel
theorem dL_worthOf_3 : decode cL_worthOf 3 = .ok (.invokestatic 190, 3) := by decide +kernel
theorem dL_worthOf_6 : decode cL_worthOf 6 = .ok (.istore_n 2, 1) := by decide +kernel
theorem dL_worthOf_7 : decode cL_worthOf 7 = .ok (.iload_n 2, 1) := by decide +kernel
theorem dL_worthOf_8 : decode cL_worthOf 8 = .ok (.ifCond .ne 7, 3) := by decide +kernel
theorem dL_worthOf_11 : decode cL_worthOf 11 = .ok (.iconst 0, 1) := by decide +kernel
theorem dL_worthOf_12 : decode cL_worthOf 12 = .ok (.goto 26, 3) := by decide +kernel
theorem dL_worthOf_15 : decode cL_worthOf 15 = .ok (.iload_n 2, 1) := by decide +kernel
theorem dL_worthOf_16 : decode cL_worthOf 16 = .ok (.aload_n 0, 1) := by decide +kernel
theorem dL_worthOf_17 : decode cL_worthOf 17 = .ok (.iload_n 1, 1) := by decide +kernel
theorem dL_worthOf_18 : decode cL_worthOf 18 = .ok (.iconst 2, 1) := by decide +kernel
theorem dL_worthOf_19 : decode cL_worthOf 19 = .ok (.invokestatic 190, 3) := by decide +kernel
theorem dL_worthOf_22 : decode cL_worthOf 22 = .ok (.iconst 1, 1) := by decide +kernel
theorem dL_worthOf_23 : decode cL_worthOf 23 = .ok (.iadd, 1) := by decide +kernel
theorem dL_worthOf_24 : decode cL_worthOf 24 = .ok (.imul, 1) := by decide +kernel
theorem dL_worthOf_25 : decode cL_worthOf 25 = .ok (.iload_n 2, 1) := by decide +kernel
theorem dL_worthOf_26 : decode cL_worthOf 26 = .ok (.aload_n 0, 1) := by decide +kernel
theorem dL_worthOf_27 : decode cL_worthOf 27 = .ok (.iload_n 1, 1) := by decide +kernel
theorem dL_worthOf_28 : decode cL_worthOf 28 = .ok (.bipush 6, 2) := by decide +kernel
theorem dL_worthOf_30 : decode cL_worthOf 30 = .ok (.invokestatic 190, 3) := by decide +kernel
theorem dL_worthOf_33 : decode cL_worthOf 33 = .ok (.imul, 1) := by decide +kernel
theorem dL_worthOf_34 : decode cL_worthOf 34 = .ok (.bipush 20, 2) := by decide +kernel
theorem dL_worthOf_36 : decode cL_worthOf 36 = .ok (.idiv, 1) := by decide +kernel
theorem dL_worthOf_37 : decode cL_worthOf 37 = .ok (.isub, 1) := by decide +kernel
theorem dL_worthOf_38 : decode cL_worthOf 38 = .ok (.ireturn, 1) := by decide +kernel
theorem dL_chests_0 : decode cL_chests 0 = .ok (.iconst 4, 1) := by decide +kernel
theorem dL_chests_1 : decode cL_chests 1 = .ok (.newarray .int, 2) := by decide +kernel
theorem dL_chests_3 : decode cL_chests 3 = .ok (.astore_n 1, 1) := by decide +kernel
theorem dL_chests_4 : decode cL_chests 4 = .ok (.iconst 0, 1) := by decide +kernel
theorem dL_chests_5 : decode cL_chests 5 = .ok (.istore_n 2, 1) := by decide +kernel
theorem dL_chests_6 : decode cL_chests 6 = .ok (.bipush 12, 2) := by decide +kernel
theorem dL_chests_8 : decode cL_chests 8 = .ok (.istore_n 3, 1) := by decide +kernel
theorem dL_chests_9 : decode cL_chests 9 = .ok (.iconst 0, 1) := by decide +kernel
theorem dL_chests_10 : decode cL_chests 10 = .ok (.istore 4, 2) := by decide +kernel
theorem dL_chests_12 : decode cL_chests 12 = .ok (.iconst 0, 1) := by decide +kernel
theorem dL_chests_13 : decode cL_chests 13 = .ok (.istore 5, 2) := by decide +kernel
theorem dL_chests_15 : decode cL_chests 15 = .ok (.iconst 0, 1) := by decide +kernel
theorem dL_chests_16 : decode cL_chests 16 = .ok (.istore 6, 2) := by decide +kernel
theorem dL_chests_18 : decode cL_chests 18 = .ok (.iconst 0, 1) := by decide +kernel
theorem dL_chests_19 : decode cL_chests 19 = .ok (.istore 7, 2) := by decide +kernel
theorem dL_chests_21 : decode cL_chests 21 = .ok (.iload 7, 2) := by decide +kernel
theorem dL_chests_23 : decode cL_chests 23 = .ok (.aload_n 0, 1) := by decide +kernel
theorem dL_chests_24 : decode cL_chests 24 = .ok (.bipush 8, 2) := by decide +kernel
theorem dL_chests_26 : decode cL_chests 26 = .ok (.invokestatic 142, 3) := by decide +kernel
theorem dL_chests_29 : decode cL_chests 29 = .ok (.if_icmp .ge 336, 3) := by decide +kernel
theorem dL_chests_32 : decode cL_chests 32 = .ok (.aload_n 0, 1) := by decide +kernel
theorem dL_chests_33 : decode cL_chests 33 = .ok (.iload 7, 2) := by decide +kernel
theorem dL_chests_35 : decode cL_chests 35 = .ok (.bipush 8, 2) := by decide +kernel
theorem dL_chests_37 : decode cL_chests 37 = .ok (.invokestatic 190, 3) := by decide +kernel
theorem dL_chests_40 : decode cL_chests 40 = .ok (.istore 8, 2) := by decide +kernel
theorem dL_chests_42 : decode cL_chests 42 = .ok (.aload_n 0, 1) := by decide +kernel
theorem dL_chests_43 : decode cL_chests 43 = .ok (.iload 7, 2) := by decide +kernel
theorem dL_chests_45 : decode cL_chests 45 = .ok (.iconst 3, 1) := by decide +kernel
theorem dL_chests_46 : decode cL_chests 46 = .ok (.invokestatic 190, 3) := by decide +kernel
theorem dL_chests_49 : decode cL_chests 49 = .ok (.istore 9, 2) := by decide +kernel
theorem dL_chests_51 : decode cL_chests 51 = .ok (.aload_n 0, 1) := by decide +kernel
theorem dL_chests_52 : decode cL_chests 52 = .ok (.iload 7, 2) := by decide +kernel
theorem dL_chests_54 : decode cL_chests 54 = .ok (.iconst 0, 1) := by decide +kernel
theorem dL_chests_55 : decode cL_chests 55 = .ok (.invokestatic 190, 3) := by decide +kernel
theorem dL_chests_58 : decode cL_chests 58 = .ok (.istore 10, 2) := by decide +kernel
theorem dL_chests_60 : decode cL_chests 60 = .ok (.aload_n 0, 1) := by decide +kernel
theorem dL_chests_61 : decode cL_chests 61 = .ok (.iload 7, 2) := by decide +kernel
theorem dL_chests_63 : decode cL_chests 63 = .ok (.iconst 5, 1) := by decide +kernel
theorem dL_chests_64 : decode cL_chests 64 = .ok (.invokestatic 190, 3) := by decide +kernel
theorem dL_chests_67 : decode cL_chests 67 = .ok (.istore 11, 2) := by decide +kernel
theorem dL_chests_69 : decode cL_chests 69 = .ok (.aload_n 0, 1) := by decide +kernel
theorem dL_chests_70 : decode cL_chests 70 = .ok (.iload 7, 2) := by decide +kernel
theorem dL_chests_72 : decode cL_chests 72 = .ok (.iconst 4, 1) := by decide +kernel
theorem dL_chests_73 : decode cL_chests 73 = .ok (.invokestatic 190, 3) := by decide +kernel
theorem dL_chests_76 : decode cL_chests 76 = .ok (.iconst 1, 1) := by decide +kernel
theorem dL_chests_77 : decode cL_chests 77 = .ok (.if_icmp .ne 16, 3) := by decide +kernel
theorem dL_chests_80 : decode cL_chests 80 = .ok (.iload 11, 2) := by decide +kernel
theorem dL_chests_82 : decode cL_chests 82 = .ok (.iload 10, 2) := by decide +kernel
theorem dL_chests_84 : decode cL_chests 84 = .ok (.iconst 2, 1) := by decide +kernel
theorem dL_chests_85 : decode cL_chests 85 = .ok (.iadd, 1) := by decide +kernel
theorem dL_chests_86 : decode cL_chests 86 = .ok (.if_icmp .lt 7, 3) := by decide +kernel
theorem dL_chests_89 : decode cL_chests 89 = .ok (.iconst 1, 1) := by decide +kernel
theorem dL_chests_90 : decode cL_chests 90 = .ok (.goto 4, 3) := by decide +kernel
theorem dL_chests_93 : decode cL_chests 93 = .ok (.iconst 0, 1) := by decide +kernel
theorem dL_chests_94 : decode cL_chests 94 = .ok (.istore 12, 2) := by decide +kernel
theorem dL_chests_96 : decode cL_chests 96 = .ok (.aload_n 1, 1) := by decide +kernel
theorem dL_chests_97 : decode cL_chests 97 = .ok (.iload 8, 2) := by decide +kernel
theorem dL_chests_99 : decode cL_chests 99 = .ok (.dup2, 1) := by decide +kernel
theorem dL_chests_100 : decode cL_chests 100 = .ok (.iaload, 1) := by decide +kernel
theorem dL_chests_101 : decode cL_chests 101 = .ok (.iconst 1, 1) := by decide +kernel
theorem dL_chests_102 : decode cL_chests 102 = .ok (.iadd, 1) := by decide +kernel
theorem dL_chests_103 : decode cL_chests 103 = .ok (.iastore, 1) := by decide +kernel
theorem dL_chests_104 : decode cL_chests 104 = .ok (.iload_n 2, 1) := by decide +kernel
theorem dL_chests_105 : decode cL_chests 105 = .ok (.iload 8, 2) := by decide +kernel
theorem dL_chests_107 : decode cL_chests 107 = .ok (.iconst 3, 1) := by decide +kernel
theorem dL_chests_108 : decode cL_chests 108 = .ok (.if_icmp .ne 7, 3) := by decide +kernel
theorem dL_chests_111 : decode cL_chests 111 = .ok (.iconst 0, 1) := by decide +kernel
theorem dL_chests_112 : decode cL_chests 112 = .ok (.goto 5, 3) := by decide +kernel
theorem dL_chests_115 : decode cL_chests 115 = .ok (.iload 9, 2) := by decide +kernel
theorem dL_chests_117 : decode cL_chests 117 = .ok (.iadd, 1) := by decide +kernel
theorem dL_chests_118 : decode cL_chests 118 = .ok (.istore_n 2, 1) := by decide +kernel
theorem dL_chests_119 : decode cL_chests 119 = .ok (.iload_n 3, 1) := by decide +kernel
theorem dL_chests_120 : decode cL_chests 120 = .ok (.iload 8, 2) := by decide +kernel
theorem dL_chests_122 : decode cL_chests 122 = .ok (.iconst 2, 1) := by decide +kernel
theorem dL_chests_123 : decode cL_chests 123 = .ok (.if_icmp .ne 8, 3) := by decide +kernel
theorem dL_chests_126 : decode cL_chests 126 = .ok (.iload 10, 2) := by decide +kernel
theorem dL_chests_128 : decode cL_chests 128 = .ok (.goto 4, 3) := by decide +kernel
theorem dL_chests_131 : decode cL_chests 131 = .ok (.iconst 0, 1) := by decide +kernel
theorem dL_chests_132 : decode cL_chests 132 = .ok (.isub, 1) := by decide +kernel
theorem dL_chests_133 : decode cL_chests 133 = .ok (.istore_n 3, 1) := by decide +kernel
theorem dL_chests_134 : decode cL_chests 134 = .ok (.iload 4, 2) := by decide +kernel
theorem dL_chests_136 : decode cL_chests 136 = .ok (.iload 8, 2) := by decide +kernel
theorem dL_chests_138 : decode cL_chests 138 = .ok (.iconst 2, 1) := by decide +kernel
theorem dL_chests_139 : decode cL_chests 139 = .ok (.if_icmp .ne 12, 3) := by decide +kernel
theorem dL_chests_142 : decode cL_chests 142 = .ok (.aload_n 0, 1) := by decide +kernel
theorem dL_chests_143 : decode cL_chests 143 = .ok (.iload 7, 2) := by decide +kernel
theorem dL_chests_145 : decode cL_chests 145 = .ok (.invokestatic 192, 3) := by decide +kernel
theorem dL_chests_148 : decode cL_chests 148 = .ok (.goto 4, 3) := by decide +kernel
theorem dL_chests_151 : decode cL_chests 151 = .ok (.iconst 0, 1) := by decide +kernel
theorem dL_chests_152 : decode cL_chests 152 = .ok (.iadd, 1) := by decide +kernel
theorem dL_chests_153 : decode cL_chests 153 = .ok (.istore 4, 2) := by decide +kernel
theorem dL_chests_155 : decode cL_chests 155 = .ok (.iload 5, 2) := by decide +kernel
theorem dL_chests_157 : decode cL_chests 157 = .ok (.iload 8, 2) := by decide +kernel
theorem dL_chests_159 : decode cL_chests 159 = .ok (.iconst 3, 1) := by decide +kernel
theorem dL_chests_160 : decode cL_chests 160 = .ok (.if_icmp .ge 19, 3) := by decide +kernel
theorem dL_chests_163 : decode cL_chests 163 = .ok (.iload 9, 2) := by decide +kernel
theorem dL_chests_165 : decode cL_chests 165 = .ok (.ifCond .le 14, 3) := by decide +kernel
theorem dL_chests_168 : decode cL_chests 168 = .ok (.aload_n 0, 1) := by decide +kernel
theorem dL_chests_169 : decode cL_chests 169 = .ok (.iload 7, 2) := by decide +kernel
theorem dL_chests_171 : decode cL_chests 171 = .ok (.bipush 6, 2) := by decide +kernel
theorem dL_chests_173 : decode cL_chests 173 = .ok (.invokestatic 190, 3) := by decide +kernel
theorem dL_chests_176 : decode cL_chests 176 = .ok (.goto 4, 3) := by decide +kernel
theorem dL_chests_179 : decode cL_chests 179 = .ok (.iconst 0, 1) := by decide +kernel
theorem dL_chests_180 : decode cL_chests 180 = .ok (.iadd, 1) := by decide +kernel
theorem dL_chests_181 : decode cL_chests 181 = .ok (.istore 5, 2) := by decide +kernel
theorem dL_chests_183 : decode cL_chests 183 = .ok (.iload 6, 2) := by decide +kernel
theorem dL_chests_185 : decode cL_chests 185 = .ok (.iload 8, 2) := by decide +kernel
theorem dL_chests_187 : decode cL_chests 187 = .ok (.iconst 3, 1) := by decide +kernel
theorem dL_chests_188 : decode cL_chests 188 = .ok (.if_icmp .ge 12, 3) := by decide +kernel
theorem dL_chests_191 : decode cL_chests 191 = .ok (.iload 9, 2) := by decide +kernel
theorem dL_chests_193 : decode cL_chests 193 = .ok (.ifCond .le 7, 3) := by decide +kernel
theorem dL_chests_196 : decode cL_chests 196 = .ok (.iconst 1, 1) := by decide +kernel
theorem dL_chests_197 : decode cL_chests 197 = .ok (.goto 4, 3) := by decide +kernel
theorem dL_chests_200 : decode cL_chests 200 = .ok (.iconst 0, 1) := by decide +kernel
theorem dL_chests_201 : decode cL_chests 201 = .ok (.iadd, 1) := by decide +kernel
theorem dL_chests_202 : decode cL_chests 202 = .ok (.istore 6, 2) := by decide +kernel
theorem dL_chests_204 : decode cL_chests 204 = .ok (.iload 9, 2) := by decide +kernel
theorem dL_chests_206 : decode cL_chests 206 = .ok (.ifCond .gt 47, 3) := by decide +kernel
theorem dL_chests_209 : decode cL_chests 209 = .ok (.aload_n 0, 1) := by decide +kernel
theorem dL_chests_210 : decode cL_chests 210 = .ok (.iload 7, 2) := by decide +kernel
theorem dL_chests_212 : decode cL_chests 212 = .ok (.iconst 1, 1) := by decide +kernel
theorem dL_chests_213 : decode cL_chests 213 = .ok (.invokestatic 190, 3) := by decide +kernel
theorem dL_chests_216 : decode cL_chests 216 = .ok (.iconst (-1), 1) := by decide +kernel
theorem dL_chests_217 : decode cL_chests 217 = .ok (.if_icmp .ne 40, 3) := by decide +kernel
theorem dL_chests_220 : decode cL_chests 220 = .ok (.aload_n 0, 1) := by decide +kernel
theorem dL_chests_221 : decode cL_chests 221 = .ok (.iload 7, 2) := by decide +kernel
theorem dL_chests_223 : decode cL_chests 223 = .ok (.iconst 2, 1) := by decide +kernel
theorem dL_chests_224 : decode cL_chests 224 = .ok (.invokestatic 190, 3) := by decide +kernel
theorem dL_chests_227 : decode cL_chests 227 = .ok (.iconst (-1), 1) := by decide +kernel
theorem dL_chests_228 : decode cL_chests 228 = .ok (.if_icmp .ne 29, 3) := by decide +kernel
theorem dL_chests_231 : decode cL_chests 231 = .ok (.aload_n 0, 1) := by decide +kernel
theorem dL_chests_232 : decode cL_chests 232 = .ok (.iload 7, 2) := by decide +kernel
theorem dL_chests_234 : decode cL_chests 234 = .ok (.bipush 6, 2) := by decide +kernel
theorem dL_chests_236 : decode cL_chests 236 = .ok (.invokestatic 190, 3) := by decide +kernel
theorem dL_chests_239 : decode cL_chests 239 = .ok (.ifCond .ne 18, 3) := by decide +kernel
theorem dL_chests_242 : decode cL_chests 242 = .ok (.aload_n 0, 1) := by decide +kernel
theorem dL_chests_243 : decode cL_chests 243 = .ok (.iload 7, 2) := by decide +kernel
theorem dL_chests_245 : decode cL_chests 245 = .ok (.bipush 9, 2) := by decide +kernel
theorem dL_chests_247 : decode cL_chests 247 = .ok (.invokestatic 190, 3) := by decide +kernel
theorem dL_chests_250 : decode cL_chests 250 = .ok (.ifCond .ne 7, 3) := by decide +kernel
theorem dL_chests_253 : decode cL_chests 253 = .ok (.iconst 1, 1) := by decide +kernel
theorem dL_chests_254 : decode cL_chests 254 = .ok (.goto 4, 3) := by decide +kernel
theorem dL_chests_257 : decode cL_chests 257 = .ok (.iconst 0, 1) := by decide +kernel
theorem dL_chests_258 : decode cL_chests 258 = .ok (.istore 13, 2) := by decide +kernel
theorem dL_chests_260 : decode cL_chests 260 = .ok (.iload 9, 2) := by decide +kernel
theorem dL_chests_262 : decode cL_chests 262 = .ok (.bipush 10, 2) := by decide +kernel
theorem dL_chests_264 : decode cL_chests 264 = .ok (.iload 10, 2) := by decide +kernel
theorem dL_chests_266 : decode cL_chests 266 = .ok (.imul, 1) := by decide +kernel
theorem dL_chests_267 : decode cL_chests 267 = .ok (.if_icmp .gt 51, 3) := by decide +kernel
theorem dL_chests_270 : decode cL_chests 270 = .ok (.iload 11, 2) := by decide +kernel
theorem dL_chests_272 : decode cL_chests 272 = .ok (.bipush 9, 2) := by decide +kernel
theorem dL_chests_274 : decode cL_chests 274 = .ok (.if_icmp .ge 44, 3) := by decide +kernel
theorem dL_chests_277 : decode cL_chests 277 = .ok (.aload_n 0, 1) := by decide +kernel
theorem dL_chests_278 : decode cL_chests 278 = .ok (.iload 7, 2) := by decide +kernel
theorem dL_chests_280 : decode cL_chests 280 = .ok (.bipush 7, 2) := by decide +kernel
theorem dL_chests_282 : decode cL_chests 282 = .ok (.invokestatic 190, 3) := by decide +kernel
theorem dL_chests_285 : decode cL_chests 285 = .ok (.iconst 1, 1) := by decide +kernel
theorem dL_chests_286 : decode cL_chests 286 = .ok (.if_icmp .ne 7, 3) := by decide +kernel
theorem dL_chests_289 : decode cL_chests 289 = .ok (.iconst 1, 1) := by decide +kernel
theorem dL_chests_290 : decode cL_chests 290 = .ok (.goto 4, 3) := by decide +kernel
theorem dL_chests_293 : decode cL_chests 293 = .ok (.iconst 0, 1) := by decide +kernel
theorem dL_chests_294 : decode cL_chests 294 = .ok (.iload 12, 2) := by decide +kernel
theorem dL_chests_296 : decode cL_chests 296 = .ok (.if_icmp .ne 22, 3) := by decide +kernel
theorem dL_chests_299 : decode cL_chests 299 = .ok (.aload_n 0, 1) := by decide +kernel
theorem dL_chests_300 : decode cL_chests 300 = .ok (.iload 7, 2) := by decide +kernel
theorem dL_chests_302 : decode cL_chests 302 = .ok (.invokestatic 195, 3) := by decide +kernel
theorem dL_chests_305 : decode cL_chests 305 = .ok (.aload_n 0, 1) := by decide +kernel
theorem dL_chests_306 : decode cL_chests 306 = .ok (.iload 7, 2) := by decide +kernel
theorem dL_chests_308 : decode cL_chests 308 = .ok (.invokestatic 192, 3) := by decide +kernel
theorem dL_chests_311 : decode cL_chests 311 = .ok (.if_icmp .ne 7, 3) := by decide +kernel
theorem dL_chests_314 : decode cL_chests 314 = .ok (.iconst 1, 1) := by decide +kernel
theorem dL_chests_315 : decode cL_chests 315 = .ok (.goto 4, 3) := by decide +kernel
theorem dL_chests_318 : decode cL_chests 318 = .ok (.iconst 0, 1) := by decide +kernel
theorem dL_chests_319 : decode cL_chests 319 = .ok (.istore 14, 2) := by decide +kernel
theorem dL_chests_321 : decode cL_chests 321 = .ok (.iload 13, 2) := by decide +kernel
theorem dL_chests_323 : decode cL_chests 323 = .ok (.ifCond .eq 34, 3) := by decide +kernel
theorem dL_chests_326 : decode cL_chests 326 = .ok (.iload 14, 2) := by decide +kernel
theorem dL_chests_328 : decode cL_chests 328 = .ok (.ifCond .eq 29, 3) := by decide +kernel
theorem dL_chests_331 : decode cL_chests 331 = .ok (.iload 8, 2) := by decide +kernel
theorem dL_chests_333 : decode cL_chests 333 = .ok (.ifCond .le 26, 3) := by decide +kernel
theorem dL_chests_336 : decode cL_chests 336 = .ok (.iload 12, 2) := by decide +kernel
theorem dL_chests_338 : decode cL_chests 338 = .ok (.ifCond .eq 19, 3) := by decide +kernel
theorem dL_chests_341 : decode cL_chests 341 = .ok (.aload_n 0, 1) := by decide +kernel
theorem dL_chests_342 : decode cL_chests 342 = .ok (.iload 7, 2) := by decide +kernel
theorem dL_chests_344 : decode cL_chests 344 = .ok (.bipush 9, 2) := by decide +kernel
theorem dL_chests_346 : decode cL_chests 346 = .ok (.invokestatic 190, 3) := by decide +kernel
theorem dL_chests_349 : decode cL_chests 349 = .ok (.ifCond .eq 8, 3) := by decide +kernel
theorem dL_chests_352 : decode cL_chests 352 = .ok (.iload 9, 2) := by decide +kernel
theorem dL_chests_354 : decode cL_chests 354 = .ok (.ifCond .ne 5, 3) := by decide +kernel
theorem dL_chests_357 : decode cL_chests 357 = .ok (.iconst 0, 1) := by decide +kernel
theorem dL_chests_358 : decode cL_chests 358 = .ok (.ireturn, 1) := by decide +kernel
theorem dL_chests_359 : decode cL_chests 359 = .ok (.iinc 7 1, 3) := by decide +kernel
theorem dL_chests_362 : decode cL_chests 362 = .ok (.goto (-341), 3) := by decide +kernel
theorem dL_chests_365 : decode cL_chests 365 = .ok (.iload 6, 2) := by decide +kernel
theorem dL_chests_367 : decode cL_chests 367 = .ok (.ifCond .ne 9, 3) := by decide +kernel
theorem dL_chests_370 : decode cL_chests 370 = .ok (.ldc2_w 94, 3) := by decide +kernel
theorem dL_chests_373 : decode cL_chests 373 = .ok (.goto 10, 3) := by decide +kernel
theorem dL_chests_376 : decode cL_chests 376 = .ok (.iload 5, 2) := by decide +kernel
theorem dL_chests_378 : decode cL_chests 378 = .ok (.i2d, 1) := by decide +kernel
theorem dL_chests_379 : decode cL_chests 379 = .ok (.iload 6, 2) := by decide +kernel
theorem dL_chests_381 : decode cL_chests 381 = .ok (.i2d, 1) := by decide +kernel
theorem dL_chests_382 : decode cL_chests 382 = .ok (.ddiv, 1) := by decide +kernel
theorem dL_chests_383 : decode cL_chests 383 = .ok (.dstore 7, 2) := by decide +kernel
theorem dL_chests_385 : decode cL_chests 385 = .ok (.aload_n 1, 1) := by decide +kernel
theorem dL_chests_386 : decode cL_chests 386 = .ok (.iconst 0, 1) := by decide +kernel
theorem dL_chests_387 : decode cL_chests 387 = .ok (.iaload, 1) := by decide +kernel
theorem dL_chests_388 : decode cL_chests 388 = .ok (.aload_n 0, 1) := by decide +kernel
theorem dL_chests_389 : decode cL_chests 389 = .ok (.bipush 9, 2) := by decide +kernel
theorem dL_chests_391 : decode cL_chests 391 = .ok (.invokestatic 142, 3) := by decide +kernel
theorem dL_chests_394 : decode cL_chests 394 = .ok (.if_icmp .ne 54, 3) := by decide +kernel
theorem dL_chests_397 : decode cL_chests 397 = .ok (.aload_n 1, 1) := by decide +kernel
theorem dL_chests_398 : decode cL_chests 398 = .ok (.iconst 1, 1) := by decide +kernel
theorem dL_chests_399 : decode cL_chests 399 = .ok (.iaload, 1) := by decide +kernel
theorem dL_chests_400 : decode cL_chests 400 = .ok (.aload_n 0, 1) := by decide +kernel
theorem dL_chests_401 : decode cL_chests 401 = .ok (.bipush 10, 2) := by decide +kernel
theorem dL_chests_403 : decode cL_chests 403 = .ok (.invokestatic 142, 3) := by decide +kernel
theorem dL_chests_406 : decode cL_chests 406 = .ok (.if_icmp .ne 42, 3) := by decide +kernel
theorem dL_chests_409 : decode cL_chests 409 = .ok (.aload_n 1, 1) := by decide +kernel
theorem dL_chests_410 : decode cL_chests 410 = .ok (.iconst 2, 1) := by decide +kernel
theorem dL_chests_411 : decode cL_chests 411 = .ok (.iaload, 1) := by decide +kernel
theorem dL_chests_412 : decode cL_chests 412 = .ok (.aload_n 0, 1) := by decide +kernel
theorem dL_chests_413 : decode cL_chests 413 = .ok (.bipush 11, 2) := by decide +kernel
theorem dL_chests_415 : decode cL_chests 415 = .ok (.invokestatic 142, 3) := by decide +kernel
theorem dL_chests_418 : decode cL_chests 418 = .ok (.if_icmp .ne 30, 3) := by decide +kernel
theorem dL_chests_421 : decode cL_chests 421 = .ok (.iload_n 2, 1) := by decide +kernel
theorem dL_chests_422 : decode cL_chests 422 = .ok (.aload_n 0, 1) := by decide +kernel
theorem dL_chests_423 : decode cL_chests 423 = .ok (.iconst 2, 1) := by decide +kernel
theorem dL_chests_424 : decode cL_chests 424 = .ok (.invokestatic 142, 3) := by decide +kernel
theorem dL_chests_427 : decode cL_chests 427 = .ok (.if_icmp .ne 21, 3) := by decide +kernel
theorem dL_chests_430 : decode cL_chests 430 = .ok (.iload_n 3, 1) := by decide +kernel
theorem dL_chests_431 : decode cL_chests 431 = .ok (.aload_n 0, 1) := by decide +kernel
theorem dL_chests_432 : decode cL_chests 432 = .ok (.bipush 12, 2) := by decide +kernel
theorem dL_chests_434 : decode cL_chests 434 = .ok (.invokestatic 142, 3) := by decide +kernel
theorem dL_chests_437 : decode cL_chests 437 = .ok (.if_icmp .ne 11, 3) := by decide +kernel
theorem dL_chests_440 : decode cL_chests 440 = .ok (.iload_n 3, 1) := by decide +kernel
theorem dL_chests_441 : decode cL_chests 441 = .ok (.ifCond .lt 7, 3) := by decide +kernel
theorem dL_chests_444 : decode cL_chests 444 = .ok (.iconst 1, 1) := by decide +kernel
theorem dL_chests_445 : decode cL_chests 445 = .ok (.goto 4, 3) := by decide +kernel
theorem dL_chests_448 : decode cL_chests 448 = .ok (.iconst 0, 1) := by decide +kernel
theorem dL_chests_449 : decode cL_chests 449 = .ok (.istore 9, 2) := by decide +kernel
theorem dL_chests_451 : decode cL_chests 451 = .ok (.iload 9, 2) := by decide +kernel
theorem dL_chests_453 : decode cL_chests 453 = .ok (.ifCond .eq 33, 3) := by decide +kernel
theorem dL_chests_456 : decode cL_chests 456 = .ok (.aload_n 0, 1) := by decide +kernel
theorem dL_chests_457 : decode cL_chests 457 = .ok (.invokevirtual 197, 3) := by decide +kernel
theorem dL_chests_460 : decode cL_chests 460 = .ok (.iload 4, 2) := by decide +kernel
theorem dL_chests_462 : decode cL_chests 462 = .ok (.if_icmp .ne 24, 3) := by decide +kernel
theorem dL_chests_465 : decode cL_chests 465 = .ok (.aload_n 0, 1) := by decide +kernel
theorem dL_chests_466 : decode cL_chests 466 = .ok (.invokestatic 200, 3) := by decide +kernel
theorem dL_chests_469 : decode cL_chests 469 = .ok (.dload 7, 2) := by decide +kernel
theorem dL_chests_471 : decode cL_chests 471 = .ok (.dcmp .l, 1) := by decide +kernel
theorem dL_chests_472 : decode cL_chests 472 = .ok (.ifCond .ne 14, 3) := by decide +kernel
theorem dL_chests_475 : decode cL_chests 475 = .ok (.aload_n 0, 1) := by decide +kernel
theorem dL_chests_476 : decode cL_chests 476 = .ok (.invokevirtual 203, 3) := by decide +kernel
theorem dL_chests_479 : decode cL_chests 479 = .ok (.ifCond .eq 7, 3) := by decide +kernel
theorem dL_chests_482 : decode cL_chests 482 = .ok (.iconst 1, 1) := by decide +kernel
theorem dL_chests_483 : decode cL_chests 483 = .ok (.goto 4, 3) := by decide +kernel
theorem dL_chests_486 : decode cL_chests 486 = .ok (.iconst 0, 1) := by decide +kernel
theorem dL_chests_487 : decode cL_chests 487 = .ok (.ireturn, 1) := by decide +kernel
theorem dL_ranks_0 : decode cL_ranks 0 = .ok (.iconst (-1), 1) := by decide +kernel
theorem dL_ranks_1 : decode cL_ranks 1 = .ok (.istore_n 1, 1) := by decide +kernel
theorem dL_ranks_2 : decode cL_ranks 2 = .ok (.iconst 0, 1) := by decide +kernel
theorem dL_ranks_3 : decode cL_ranks 3 = .ok (.istore_n 2, 1) := by decide +kernel
theorem dL_ranks_4 : decode cL_ranks 4 = .ok (.aload_n 0, 1) := by decide +kernel
theorem dL_ranks_5 : decode cL_ranks 5 = .ok (.iload_n 2, 1) := by decide +kernel
theorem dL_ranks_6 : decode cL_ranks 6 = .ok (.invokestatic 207, 3) := by decide +kernel
theorem dL_ranks_9 : decode cL_ranks 9 = .ok (.ifCond .lt 93, 3) := by decide +kernel
theorem dL_ranks_12 : decode cL_ranks 12 = .ok (.aload_n 0, 1) := by decide +kernel
theorem dL_ranks_13 : decode cL_ranks 13 = .ok (.iload_n 2, 1) := by decide +kernel
theorem dL_ranks_14 : decode cL_ranks 14 = .ok (.invokestatic 207, 3) := by decide +kernel
theorem dL_ranks_17 : decode cL_ranks 17 = .ok (.istore_n 3, 1) := by decide +kernel
theorem dL_ranks_18 : decode cL_ranks 18 = .ok (.iload_n 1, 1) := by decide +kernel
theorem dL_ranks_19 : decode cL_ranks 19 = .ok (.ifCond .ge 7, 3) := by decide +kernel
theorem dL_ranks_22 : decode cL_ranks 22 = .ok (.iconst 1, 1) := by decide +kernel
theorem dL_ranks_23 : decode cL_ranks 23 = .ok (.goto 14, 3) := by decide +kernel
theorem dL_ranks_26 : decode cL_ranks 26 = .ok (.aload_n 0, 1) := by decide +kernel
theorem dL_ranks_27 : decode cL_ranks 27 = .ok (.iload_n 1, 1) := by decide +kernel
theorem dL_ranks_28 : decode cL_ranks 28 = .ok (.invokestatic 192, 3) := by decide +kernel
theorem dL_ranks_31 : decode cL_ranks 31 = .ok (.aload_n 0, 1) := by decide +kernel
theorem dL_ranks_32 : decode cL_ranks 32 = .ok (.iload_n 3, 1) := by decide +kernel
theorem dL_ranks_33 : decode cL_ranks 33 = .ok (.invokestatic 192, 3) := by decide +kernel
theorem dL_ranks_36 : decode cL_ranks 36 = .ok (.isub, 1) := by decide +kernel
theorem dL_ranks_37 : decode cL_ranks 37 = .ok (.istore 4, 2) := by decide +kernel
theorem dL_ranks_39 : decode cL_ranks 39 = .ok (.iload 4, 2) := by decide +kernel
theorem dL_ranks_41 : decode cL_ranks 41 = .ok (.ifCond .eq 8, 3) := by decide +kernel
theorem dL_ranks_44 : decode cL_ranks 44 = .ok (.iload 4, 2) := by decide +kernel
theorem dL_ranks_46 : decode cL_ranks 46 = .ok (.goto 18, 3) := by decide +kernel
theorem dL_ranks_49 : decode cL_ranks 49 = .ok (.aload_n 0, 1) := by decide +kernel
theorem dL_ranks_50 : decode cL_ranks 50 = .ok (.iload_n 3, 1) := by decide +kernel
theorem dL_ranks_51 : decode cL_ranks 51 = .ok (.bipush 6, 2) := by decide +kernel
theorem dL_ranks_53 : decode cL_ranks 53 = .ok (.invokestatic 190, 3) := by decide +kernel
theorem dL_ranks_56 : decode cL_ranks 56 = .ok (.aload_n 0, 1) := by decide +kernel
theorem dL_ranks_57 : decode cL_ranks 57 = .ok (.iload_n 1, 1) := by decide +kernel
theorem dL_ranks_58 : decode cL_ranks 58 = .ok (.bipush 6, 2) := by decide +kernel
theorem dL_ranks_60 : decode cL_ranks 60 = .ok (.invokestatic 190, 3) := by decide +kernel
theorem dL_ranks_63 : decode cL_ranks 63 = .ok (.isub, 1) := by decide +kernel
theorem dL_ranks_64 : decode cL_ranks 64 = .ok (.istore 4, 2) := by decide +kernel
theorem dL_ranks_66 : decode cL_ranks 66 = .ok (.iload 4, 2) := by decide +kernel
theorem dL_ranks_68 : decode cL_ranks 68 = .ok (.ifCond .lt 24, 3) := by decide +kernel
theorem dL_ranks_71 : decode cL_ranks 71 = .ok (.iload 4, 2) := by decide +kernel
theorem dL_ranks_73 : decode cL_ranks 73 = .ok (.ifCond .ne 8, 3) := by decide +kernel
theorem dL_ranks_76 : decode cL_ranks 76 = .ok (.iload_n 3, 1) := by decide +kernel
theorem dL_ranks_77 : decode cL_ranks 77 = .ok (.iload_n 1, 1) := by decide +kernel
theorem dL_ranks_78 : decode cL_ranks 78 = .ok (.if_icmp .lt 14, 3) := by decide +kernel
theorem dL_ranks_81 : decode cL_ranks 81 = .ok (.aload_n 0, 1) := by decide +kernel
theorem dL_ranks_82 : decode cL_ranks 82 = .ok (.iload_n 3, 1) := by decide +kernel
theorem dL_ranks_83 : decode cL_ranks 83 = .ok (.bipush 8, 2) := by decide +kernel
theorem dL_ranks_85 : decode cL_ranks 85 = .ok (.invokestatic 190, 3) := by decide +kernel
theorem dL_ranks_88 : decode cL_ranks 88 = .ok (.iconst 3, 1) := by decide +kernel
theorem dL_ranks_89 : decode cL_ranks 89 = .ok (.if_icmp .ne 5, 3) := by decide +kernel
theorem dL_ranks_92 : decode cL_ranks 92 = .ok (.iconst 0, 1) := by decide +kernel
theorem dL_ranks_93 : decode cL_ranks 93 = .ok (.ireturn, 1) := by decide +kernel
theorem dL_ranks_94 : decode cL_ranks 94 = .ok (.iload_n 3, 1) := by decide +kernel
theorem dL_ranks_95 : decode cL_ranks 95 = .ok (.istore_n 1, 1) := by decide +kernel
theorem dL_ranks_96 : decode cL_ranks 96 = .ok (.iinc 2 1, 3) := by decide +kernel
theorem dL_ranks_99 : decode cL_ranks 99 = .ok (.goto (-95), 3) := by decide +kernel
theorem dL_ranks_102 : decode cL_ranks 102 = .ok (.iload_n 2, 1) := by decide +kernel
theorem dL_ranks_103 : decode cL_ranks 103 = .ok (.aload_n 0, 1) := by decide +kernel
theorem dL_ranks_104 : decode cL_ranks 104 = .ok (.bipush 9, 2) := by decide +kernel
theorem dL_ranks_106 : decode cL_ranks 106 = .ok (.invokestatic 142, 3) := by decide +kernel
theorem dL_ranks_109 : decode cL_ranks 109 = .ok (.aload_n 0, 1) := by decide +kernel
theorem dL_ranks_110 : decode cL_ranks 110 = .ok (.bipush 10, 2) := by decide +kernel
theorem dL_ranks_112 : decode cL_ranks 112 = .ok (.invokestatic 142, 3) := by decide +kernel
theorem dL_ranks_115 : decode cL_ranks 115 = .ok (.iadd, 1) := by decide +kernel
theorem dL_ranks_116 : decode cL_ranks 116 = .ok (.aload_n 0, 1) := by decide +kernel
theorem dL_ranks_117 : decode cL_ranks 117 = .ok (.bipush 11, 2) := by decide +kernel
theorem dL_ranks_119 : decode cL_ranks 119 = .ok (.invokestatic 142, 3) := by decide +kernel
theorem dL_ranks_122 : decode cL_ranks 122 = .ok (.iadd, 1) := by decide +kernel
theorem dL_ranks_123 : decode cL_ranks 123 = .ok (.if_icmp .ne 7, 3) := by decide +kernel
theorem dL_ranks_126 : decode cL_ranks 126 = .ok (.iconst 1, 1) := by decide +kernel
theorem dL_ranks_127 : decode cL_ranks 127 = .ok (.goto 4, 3) := by decide +kernel
theorem dL_ranks_130 : decode cL_ranks 130 = .ok (.iconst 0, 1) := by decide +kernel
theorem dL_ranks_131 : decode cL_ranks 131 = .ok (.ireturn, 1) := by decide +kernel
theorem dL_leavesAll_0 : decode cL_leavesAll 0 = .ok (.iconst 0, 1) := by decide +kernel
theorem dL_leavesAll_1 : decode cL_leavesAll 1 = .ok (.istore_n 1, 1) := by decide +kernel
theorem dL_leavesAll_2 : decode cL_leavesAll 2 = .ok (.iconst 0, 1) := by decide +kernel
theorem dL_leavesAll_3 : decode cL_leavesAll 3 = .ok (.istore_n 2, 1) := by decide +kernel
theorem dL_leavesAll_4 : decode cL_leavesAll 4 = .ok (.iconst (-1), 1) := by decide +kernel
theorem dL_leavesAll_5 : decode cL_leavesAll 5 = .ok (.istore_n 3, 1) := by decide +kernel
theorem dL_leavesAll_6 : decode cL_leavesAll 6 = .ok (.iconst (-1), 1) := by decide +kernel
theorem dL_leavesAll_7 : decode cL_leavesAll 7 = .ok (.istore 4, 2) := by decide +kernel
theorem dL_leavesAll_9 : decode cL_leavesAll 9 = .ok (.iconst 0, 1) := by decide +kernel
theorem dL_leavesAll_10 : decode cL_leavesAll 10 = .ok (.istore 5, 2) := by decide +kernel
theorem dL_leavesAll_12 : decode cL_leavesAll 12 = .ok (.iload 5, 2) := by decide +kernel
theorem dL_leavesAll_14 : decode cL_leavesAll 14 = .ok (.bipush 6, 2) := by decide +kernel
theorem dL_leavesAll_16 : decode cL_leavesAll 16 = .ok (.if_icmp .ge 108, 3) := by decide +kernel
theorem dL_leavesAll_19 : decode cL_leavesAll 19 = .ok (.aload_n 0, 1) := by decide +kernel
theorem dL_leavesAll_20 : decode cL_leavesAll 20 = .ok (.iload 5, 2) := by decide +kernel
theorem dL_leavesAll_22 : decode cL_leavesAll 22 = .ok (.iconst 0, 1) := by decide +kernel
theorem dL_leavesAll_23 : decode cL_leavesAll 23 = .ok (.invokestatic 188, 3) := by decide +kernel
theorem dL_leavesAll_26 : decode cL_leavesAll 26 = .ok (.aload_n 0, 1) := by decide +kernel
theorem dL_leavesAll_27 : decode cL_leavesAll 27 = .ok (.iload 5, 2) := by decide +kernel
theorem dL_leavesAll_29 : decode cL_leavesAll 29 = .ok (.iconst 1, 1) := by decide +kernel
theorem dL_leavesAll_30 : decode cL_leavesAll 30 = .ok (.invokestatic 188, 3) := by decide +kernel
theorem dL_leavesAll_33 : decode cL_leavesAll 33 = .ok (.iadd, 1) := by decide +kernel
theorem dL_leavesAll_34 : decode cL_leavesAll 34 = .ok (.aload_n 0, 1) := by decide +kernel
theorem dL_leavesAll_35 : decode cL_leavesAll 35 = .ok (.iload 5, 2) := by decide +kernel
theorem dL_leavesAll_37 : decode cL_leavesAll 37 = .ok (.iconst 2, 1) := by decide +kernel
theorem dL_leavesAll_38 : decode cL_leavesAll 38 = .ok (.invokestatic 188, 3) := by decide +kernel
theorem dL_leavesAll_41 : decode cL_leavesAll 41 = .ok (.iadd, 1) := by decide +kernel
theorem dL_leavesAll_42 : decode cL_leavesAll 42 = .ok (.istore 6, 2) := by decide +kernel
theorem dL_leavesAll_44 : decode cL_leavesAll 44 = .ok (.iload 6, 2) := by decide +kernel
theorem dL_leavesAll_46 : decode cL_leavesAll 46 = .ok (.iload_n 3, 1) := by decide +kernel
theorem dL_leavesAll_47 : decode cL_leavesAll 47 = .ok (.if_icmp .gt 21, 3) := by decide +kernel
theorem dL_leavesAll_50 : decode cL_leavesAll 50 = .ok (.iload 6, 2) := by decide +kernel
theorem dL_leavesAll_52 : decode cL_leavesAll 52 = .ok (.iload_n 3, 1) := by decide +kernel
theorem dL_leavesAll_53 : decode cL_leavesAll 53 = .ok (.if_icmp .ne 19, 3) := by decide +kernel
theorem dL_leavesAll_56 : decode cL_leavesAll 56 = .ok (.aload_n 0, 1) := by decide +kernel
theorem dL_leavesAll_57 : decode cL_leavesAll 57 = .ok (.iload 5, 2) := by decide +kernel
theorem dL_leavesAll_59 : decode cL_leavesAll 59 = .ok (.iconst 2, 1) := by decide +kernel
theorem dL_leavesAll_60 : decode cL_leavesAll 60 = .ok (.invokestatic 188, 3) := by decide +kernel
theorem dL_leavesAll_63 : decode cL_leavesAll 63 = .ok (.iload 4, 2) := by decide +kernel
theorem dL_leavesAll_65 : decode cL_leavesAll 65 = .ok (.if_icmp .le 7, 3) := by decide +kernel
theorem dL_leavesAll_68 : decode cL_leavesAll 68 = .ok (.iconst 1, 1) := by decide +kernel
theorem dL_leavesAll_69 : decode cL_leavesAll 69 = .ok (.goto 4, 3) := by decide +kernel
theorem dL_leavesAll_72 : decode cL_leavesAll 72 = .ok (.iconst 0, 1) := by decide +kernel
theorem dL_leavesAll_73 : decode cL_leavesAll 73 = .ok (.istore 7, 2) := by decide +kernel
theorem dL_leavesAll_75 : decode cL_leavesAll 75 = .ok (.iload 7, 2) := by decide +kernel
theorem dL_leavesAll_77 : decode cL_leavesAll 77 = .ok (.ifCond .eq 8, 3) := by decide +kernel
theorem dL_leavesAll_80 : decode cL_leavesAll 80 = .ok (.iload 5, 2) := by decide +kernel
theorem dL_leavesAll_82 : decode cL_leavesAll 82 = .ok (.goto 4, 3) := by decide +kernel
theorem dL_leavesAll_85 : decode cL_leavesAll 85 = .ok (.iload_n 2, 1) := by decide +kernel
theorem dL_leavesAll_86 : decode cL_leavesAll 86 = .ok (.istore_n 2, 1) := by decide +kernel
theorem dL_leavesAll_87 : decode cL_leavesAll 87 = .ok (.iload 7, 2) := by decide +kernel
theorem dL_leavesAll_89 : decode cL_leavesAll 89 = .ok (.ifCond .eq 13, 3) := by decide +kernel
theorem dL_leavesAll_92 : decode cL_leavesAll 92 = .ok (.aload_n 0, 1) := by decide +kernel
theorem dL_leavesAll_93 : decode cL_leavesAll 93 = .ok (.iload 5, 2) := by decide +kernel
theorem dL_leavesAll_95 : decode cL_leavesAll 95 = .ok (.iconst 2, 1) := by decide +kernel
theorem dL_leavesAll_96 : decode cL_leavesAll 96 = .ok (.invokestatic 188, 3) := by decide +kernel
theorem dL_leavesAll_99 : decode cL_leavesAll 99 = .ok (.goto 5, 3) := by decide +kernel
theorem dL_leavesAll_102 : decode cL_leavesAll 102 = .ok (.iload 4, 2) := by decide +kernel
theorem dL_leavesAll_104 : decode cL_leavesAll 104 = .ok (.istore 4, 2) := by decide +kernel
theorem dL_leavesAll_106 : decode cL_leavesAll 106 = .ok (.iload_n 3, 1) := by decide +kernel
theorem dL_leavesAll_107 : decode cL_leavesAll 107 = .ok (.iload 6, 2) := by decide +kernel
theorem dL_leavesAll_109 : decode cL_leavesAll 109 = .ok (.invokestatic 145, 3) := by decide +kernel
theorem dL_leavesAll_112 : decode cL_leavesAll 112 = .ok (.istore_n 3, 1) := by decide +kernel
theorem dL_leavesAll_113 : decode cL_leavesAll 113 = .ok (.iload_n 1, 1) := by decide +kernel
theorem dL_leavesAll_114 : decode cL_leavesAll 114 = .ok (.iload 6, 2) := by decide +kernel
theorem dL_leavesAll_116 : decode cL_leavesAll 116 = .ok (.iadd, 1) := by decide +kernel
theorem dL_leavesAll_117 : decode cL_leavesAll 117 = .ok (.istore_n 1, 1) := by decide +kernel
theorem dL_leavesAll_118 : decode cL_leavesAll 118 = .ok (.iinc 5 1, 3) := by decide +kernel
theorem dL_leavesAll_121 : decode cL_leavesAll 121 = .ok (.goto (-109), 3) := by decide +kernel
theorem dL_leavesAll_124 : decode cL_leavesAll 124 = .ok (.aload_n 0, 1) := by decide +kernel
theorem dL_leavesAll_125 : decode cL_leavesAll 125 = .ok (.iconst 5, 1) := by decide +kernel
theorem dL_leavesAll_126 : decode cL_leavesAll 126 = .ok (.invokestatic 142, 3) := by decide +kernel
theorem dL_leavesAll_129 : decode cL_leavesAll 129 = .ok (.ifCond .ne 8, 3) := by decide +kernel
theorem dL_leavesAll_132 : decode cL_leavesAll 132 = .ok (.ldc 100, 2) := by decide +kernel
theorem dL_leavesAll_134 : decode cL_leavesAll 134 = .ok (.goto 16, 3) := by decide +kernel
theorem dL_leavesAll_137 : decode cL_leavesAll 137 = .ok (.aload_n 0, 1) := by decide +kernel
theorem dL_leavesAll_138 : decode cL_leavesAll 138 = .ok (.iconst 3, 1) := by decide +kernel
theorem dL_leavesAll_139 : decode cL_leavesAll 139 = .ok (.invokestatic 142, 3) := by decide +kernel
theorem dL_leavesAll_142 : decode cL_leavesAll 142 = .ok (.i2f, 1) := by decide +kernel
theorem dL_leavesAll_143 : decode cL_leavesAll 143 = .ok (.aload_n 0, 1) := by decide +kernel
theorem dL_leavesAll_144 : decode cL_leavesAll 144 = .ok (.iconst 5, 1) := by decide +kernel
theorem dL_leavesAll_145 : decode cL_leavesAll 145 = .ok (.invokestatic 142, 3) := by decide +kernel
theorem dL_leavesAll_148 : decode cL_leavesAll 148 = .ok (.i2f, 1) := by decide +kernel
theorem dL_leavesAll_149 : decode cL_leavesAll 149 = .ok (.fdiv, 1) := by decide +kernel
theorem dL_leavesAll_150 : decode cL_leavesAll 150 = .ok (.fstore 5, 2) := by decide +kernel
theorem dL_leavesAll_152 : decode cL_leavesAll 152 = .ok (.iload_n 1, 1) := by decide +kernel
theorem dL_leavesAll_153 : decode cL_leavesAll 153 = .ok (.aload_n 0, 1) := by decide +kernel
theorem dL_leavesAll_154 : decode cL_leavesAll 154 = .ok (.iconst 1, 1) := by decide +kernel
theorem dL_leavesAll_155 : decode cL_leavesAll 155 = .ok (.invokestatic 142, 3) := by decide +kernel
theorem dL_leavesAll_158 : decode cL_leavesAll 158 = .ok (.if_icmp .ne 52, 3) := by decide +kernel
theorem dL_leavesAll_161 : decode cL_leavesAll 161 = .ok (.aload_n 0, 1) := by decide +kernel
theorem dL_leavesAll_162 : decode cL_leavesAll 162 = .ok (.invokevirtual 209, 3) := by decide +kernel
theorem dL_leavesAll_165 : decode cL_leavesAll 165 = .ok (.iload_n 2, 1) := by decide +kernel
theorem dL_leavesAll_166 : decode cL_leavesAll 166 = .ok (.if_icmp .ne 44, 3) := by decide +kernel
theorem dL_leavesAll_169 : decode cL_leavesAll 169 = .ok (.aload_n 0, 1) := by decide +kernel
theorem dL_leavesAll_170 : decode cL_leavesAll 170 = .ok (.iconst 5, 1) := by decide +kernel
theorem dL_leavesAll_171 : decode cL_leavesAll 171 = .ok (.invokestatic 142, 3) := by decide +kernel
theorem dL_leavesAll_174 : decode cL_leavesAll 174 = .ok (.iload_n 1, 1) := by decide +kernel
theorem dL_leavesAll_175 : decode cL_leavesAll 175 = .ok (.aload_n 0, 1) := by decide +kernel
theorem dL_leavesAll_176 : decode cL_leavesAll 176 = .ok (.iconst 2, 1) := by decide +kernel
theorem dL_leavesAll_177 : decode cL_leavesAll 177 = .ok (.invokestatic 142, 3) := by decide +kernel
theorem dL_leavesAll_180 : decode cL_leavesAll 180 = .ok (.iadd, 1) := by decide +kernel
theorem dL_leavesAll_181 : decode cL_leavesAll 181 = .ok (.aload_n 0, 1) := by decide +kernel
theorem dL_leavesAll_182 : decode cL_leavesAll 182 = .ok (.iconst 3, 1) := by decide +kernel
theorem dL_leavesAll_183 : decode cL_leavesAll 183 = .ok (.invokestatic 142, 3) := by decide +kernel
theorem dL_leavesAll_186 : decode cL_leavesAll 186 = .ok (.iadd, 1) := by decide +kernel
theorem dL_leavesAll_187 : decode cL_leavesAll 187 = .ok (.aload_n 0, 1) := by decide +kernel
theorem dL_leavesAll_188 : decode cL_leavesAll 188 = .ok (.iconst 4, 1) := by decide +kernel
theorem dL_leavesAll_189 : decode cL_leavesAll 189 = .ok (.invokestatic 142, 3) := by decide +kernel
theorem dL_leavesAll_192 : decode cL_leavesAll 192 = .ok (.iadd, 1) := by decide +kernel
theorem dL_leavesAll_193 : decode cL_leavesAll 193 = .ok (.if_icmp .ne 17, 3) := by decide +kernel
theorem dL_leavesAll_196 : decode cL_leavesAll 196 = .ok (.aload_n 0, 1) := by decide +kernel
theorem dL_leavesAll_197 : decode cL_leavesAll 197 = .ok (.invokestatic 212, 3) := by decide +kernel
theorem dL_leavesAll_200 : decode cL_leavesAll 200 = .ok (.fload 5, 2) := by decide +kernel
theorem dL_leavesAll_202 : decode cL_leavesAll 202 = .ok (.fcmp .l, 1) := by decide +kernel
theorem dL_leavesAll_203 : decode cL_leavesAll 203 = .ok (.ifCond .ne 7, 3) := by decide +kernel
theorem dL_leavesAll_206 : decode cL_leavesAll 206 = .ok (.iconst 1, 1) := by decide +kernel
theorem dL_leavesAll_207 : decode cL_leavesAll 207 = .ok (.goto 4, 3) := by decide +kernel
theorem dL_leavesAll_210 : decode cL_leavesAll 210 = .ok (.iconst 0, 1) := by decide +kernel
theorem dL_leavesAll_211 : decode cL_leavesAll 211 = .ok (.ireturn, 1) := by decide +kernel
theorem dL_tide_0 : decode cL_tide 0 = .ok (.aload_n 1, 1) := by decide +kernel
theorem dL_tide_1 : decode cL_tide 1 = .ok (.bipush 100, 2) := by decide +kernel
theorem dL_tide_3 : decode cL_tide 3 = .ok (.invokevirtual 137, 3) := by decide +kernel
theorem dL_tide_6 : decode cL_tide 6 = .ok (.istore_n 2, 1) := by decide +kernel
theorem dL_tide_7 : decode cL_tide 7 = .ok (.bipush 6, 2) := by decide +kernel
theorem dL_tide_9 : decode cL_tide 9 = .ok (.aload_n 0, 1) := by decide +kernel
theorem dL_tide_10 : decode cL_tide 10 = .ok (.iconst 0, 1) := by decide +kernel
theorem dL_tide_11 : decode cL_tide 11 = .ok (.invokestatic 142, 3) := by decide +kernel
theorem dL_tide_14 : decode cL_tide 14 = .ok (.iload_n 2, 1) := by decide +kernel
theorem dL_tide_15 : decode cL_tide 15 = .ok (.iadd, 1) := by decide +kernel
theorem dL_tide_16 : decode cL_tide 16 = .ok (.bipush 12, 2) := by decide +kernel
theorem dL_tide_18 : decode cL_tide 18 = .ok (.irem, 1) := by decide +kernel
theorem dL_tide_19 : decode cL_tide 19 = .ok (.isub, 1) := by decide +kernel
theorem dL_tide_20 : decode cL_tide 20 = .ok (.invokestatic 215, 3) := by decide +kernel
theorem dL_tide_23 : decode cL_tide 23 = .ok (.istore_n 3, 1) := by decide +kernel
theorem dL_tide_24 : decode cL_tide 24 = .ok (.aload_n 0, 1) := by decide +kernel
theorem dL_tide_25 : decode cL_tide 25 = .ok (.invokevirtual 218, 3) := by decide +kernel
theorem dL_tide_28 : decode cL_tide 28 = .ok (.istore 4, 2) := by decide +kernel
theorem dL_tide_30 : decode cL_tide 30 = .ok (.iconst 0, 1) := by decide +kernel
theorem dL_tide_31 : decode cL_tide 31 = .ok (.istore 5, 2) := by decide +kernel
theorem dL_tide_33 : decode cL_tide 33 = .ok (.iload 5, 2) := by decide +kernel
theorem dL_tide_35 : decode cL_tide 35 = .ok (.iload 4, 2) := by decide +kernel
theorem dL_tide_37 : decode cL_tide 37 = .ok (.if_icmp .ge 21, 3) := by decide +kernel
theorem dL_tide_40 : decode cL_tide 40 = .ok (.aload_n 0, 1) := by decide +kernel
theorem dL_tide_41 : decode cL_tide 41 = .ok (.iload 5, 2) := by decide +kernel
theorem dL_tide_43 : decode cL_tide 43 = .ok (.invokestatic 221, 3) := by decide +kernel
theorem dL_tide_46 : decode cL_tide 46 = .ok (.iconst 2, 1) := by decide +kernel
theorem dL_tide_47 : decode cL_tide 47 = .ok (.if_icmp .le 5, 3) := by decide +kernel
theorem dL_tide_50 : decode cL_tide 50 = .ok (.iconst 0, 1) := by decide +kernel
theorem dL_tide_51 : decode cL_tide 51 = .ok (.ireturn, 1) := by decide +kernel
theorem dL_tide_52 : decode cL_tide 52 = .ok (.iinc 5 1, 3) := by decide +kernel
theorem dL_tide_55 : decode cL_tide 55 = .ok (.goto (-22), 3) := by decide +kernel
theorem dL_tide_58 : decode cL_tide 58 = .ok (.aload_n 0, 1) := by decide +kernel
theorem dL_tide_59 : decode cL_tide 59 = .ok (.iload_n 2, 1) := by decide +kernel
theorem dL_tide_60 : decode cL_tide 60 = .ok (.invokestatic 221, 3) := by decide +kernel
theorem dL_tide_63 : decode cL_tide 63 = .ok (.iload_n 3, 1) := by decide +kernel
theorem dL_tide_64 : decode cL_tide 64 = .ok (.if_icmp .ne 36, 3) := by decide +kernel
theorem dL_tide_67 : decode cL_tide 67 = .ok (.aload_n 0, 1) := by decide +kernel
theorem dL_tide_68 : decode cL_tide 68 = .ok (.iload_n 2, 1) := by decide +kernel
theorem dL_tide_69 : decode cL_tide 69 = .ok (.invokestatic 223, 3) := by decide +kernel
theorem dL_tide_72 : decode cL_tide 72 = .ok (.iload_n 3, 1) := by decide +kernel
theorem dL_tide_73 : decode cL_tide 73 = .ok (.if_icmp .ne 27, 3) := by decide +kernel
theorem dL_tide_76 : decode cL_tide 76 = .ok (.aload_n 0, 1) := by decide +kernel
theorem dL_tide_77 : decode cL_tide 77 = .ok (.iload 4, 2) := by decide +kernel
theorem dL_tide_79 : decode cL_tide 79 = .ok (.invokestatic 221, 3) := by decide +kernel
theorem dL_tide_82 : decode cL_tide 82 = .ok (.iconst 2, 1) := by decide +kernel
theorem dL_tide_83 : decode cL_tide 83 = .ok (.if_icmp .le 17, 3) := by decide +kernel
theorem dL_tide_86 : decode cL_tide 86 = .ok (.aload_n 0, 1) := by decide +kernel
theorem dL_tide_87 : decode cL_tide 87 = .ok (.bipush 100, 2) := by decide +kernel
theorem dL_tide_89 : decode cL_tide 89 = .ok (.invokestatic 221, 3) := by decide +kernel
theorem dL_tide_92 : decode cL_tide 92 = .ok (.iconst (-1), 1) := by decide +kernel
theorem dL_tide_93 : decode cL_tide 93 = .ok (.if_icmp .ne 7, 3) := by decide +kernel
theorem dL_tide_96 : decode cL_tide 96 = .ok (.iconst 1, 1) := by decide +kernel
theorem dL_tide_97 : decode cL_tide 97 = .ok (.goto 4, 3) := by decide +kernel
theorem dL_tide_100 : decode cL_tide 100 = .ok (.iconst 0, 1) := by decide +kernel
theorem dL_tide_101 : decode cL_tide 101 = .ok (.ireturn, 1) := by decide +kernel
theorem dL_labels_0 : decode cL_labels 0 = .ok (.iconst 0, 1) := by decide +kernel
theorem dL_labels_1 : decode cL_labels 1 = .ok (.istore_n 1, 1) := by decide +kernel
theorem dL_labels_2 : decode cL_labels 2 = .ok (.iload_n 1, 1) := by decide +kernel
theorem dL_labels_3 : decode cL_labels 3 = .ok (.aload_n 0, 1) := by decide +kernel
theorem dL_labels_4 : decode cL_labels 4 = .ok (.bipush 8, 2) := by decide +kernel
theorem dL_labels_6 : decode cL_labels 6 = .ok (.invokestatic 142, 3) := by decide +kernel
theorem dL_labels_9 : decode cL_labels 9 = .ok (.if_icmp .ge 215, 3) := by decide +kernel
theorem dL_labels_12 : decode cL_labels 12 = .ok (.aload_n 0, 1) := by decide +kernel
theorem dL_labels_13 : decode cL_labels 13 = .ok (.iload_n 1, 1) := by decide +kernel
theorem dL_labels_14 : decode cL_labels 14 = .ok (.bipush 9, 2) := by decide +kernel
theorem dL_labels_16 : decode cL_labels 16 = .ok (.invokestatic 190, 3) := by decide +kernel
theorem dL_labels_19 : decode cL_labels 19 = .ok (.istore_n 2, 1) := by decide +kernel
theorem dL_labels_20 : decode cL_labels 20 = .ok (.iload_n 2, 1) := by decide +kernel
theorem dL_labels_21 : decode cL_labels 21 = .ok (.ifCond .ne 16, 3) := by decide +kernel
theorem dL_labels_24 : decode cL_labels 24 = .ok (.aload_n 0, 1) := by decide +kernel
theorem dL_labels_25 : decode cL_labels 25 = .ok (.iload_n 1, 1) := by decide +kernel
theorem dL_labels_26 : decode cL_labels 26 = .ok (.iconst 0, 1) := by decide +kernel
theorem dL_labels_27 : decode cL_labels 27 = .ok (.invokestatic 225, 3) := by decide +kernel
theorem dL_labels_30 : decode cL_labels 30 = .ok (.bipush (-2), 2) := by decide +kernel
theorem dL_labels_32 : decode cL_labels 32 = .ok (.if_icmp .eq 186, 3) := by decide +kernel
theorem dL_labels_35 : decode cL_labels 35 = .ok (.iconst 0, 1) := by decide +kernel
theorem dL_labels_36 : decode cL_labels 36 = .ok (.ireturn, 1) := by decide +kernel
theorem dL_labels_37 : decode cL_labels 37 = .ok (.iconst 3, 1) := by decide +kernel
theorem dL_labels_38 : decode cL_labels 38 = .ok (.anewarray 124, 3) := by decide +kernel
theorem dL_labels_41 : decode cL_labels 41 = .ok (.dup, 1) := by decide +kernel
theorem dL_labels_42 : decode cL_labels 42 = .ok (.iconst 0, 1) := by decide +kernel
theorem dL_labels_43 : decode cL_labels 43 = .ok (.ldc 227, 2) := by decide +kernel
theorem dL_labels_45 : decode cL_labels 45 = .ok (.aastore, 1) := by decide +kernel
theorem dL_labels_46 : decode cL_labels 46 = .ok (.dup, 1) := by decide +kernel
theorem dL_labels_47 : decode cL_labels 47 = .ok (.iconst 1, 1) := by decide +kernel
theorem dL_labels_48 : decode cL_labels 48 = .ok (.ldc 229, 2) := by decide +kernel
theorem dL_labels_50 : decode cL_labels 50 = .ok (.aastore, 1) := by decide +kernel
theorem dL_labels_51 : decode cL_labels 51 = .ok (.dup, 1) := by decide +kernel
theorem dL_labels_52 : decode cL_labels 52 = .ok (.iconst 2, 1) := by decide +kernel
theorem dL_labels_53 : decode cL_labels 53 = .ok (.ldc 231, 2) := by decide +kernel
theorem dL_labels_55 : decode cL_labels 55 = .ok (.aastore, 1) := by decide +kernel
theorem dL_labels_56 : decode cL_labels 56 = .ok (.astore_n 3, 1) := by decide +kernel
theorem dL_labels_57 : decode cL_labels 57 = .ok (.new 233, 3) := by decide +kernel
theorem dL_labels_60 : decode cL_labels 60 = .ok (.dup, 1) := by decide +kernel
theorem dL_labels_61 : decode cL_labels 61 = .ok (.invokespecial 235, 3) := by decide +kernel
theorem dL_labels_64 : decode cL_labels 64 = .ok (.aload_n 0, 1) := by decide +kernel
theorem dL_labels_65 : decode cL_labels 65 = .ok (.iload_n 1, 1) := by decide +kernel
theorem dL_labels_66 : decode cL_labels 66 = .ok (.iconst 1, 1) := by decide +kernel
theorem dL_labels_67 : decode cL_labels 67 = .ok (.invokestatic 190, 3) := by decide +kernel
theorem dL_labels_70 : decode cL_labels 70 = .ok (.invokevirtual 236, 3) := by decide +kernel
theorem dL_labels_73 : decode cL_labels 73 = .ok (.ldc 240, 2) := by decide +kernel
theorem dL_labels_75 : decode cL_labels 75 = .ok (.invokevirtual 242, 3) := by decide +kernel
theorem dL_labels_78 : decode cL_labels 78 = .ok (.aload_n 3, 1) := by decide +kernel
theorem dL_labels_79 : decode cL_labels 79 = .ok (.aload_n 0, 1) := by decide +kernel
theorem dL_labels_80 : decode cL_labels 80 = .ok (.iload_n 1, 1) := by decide +kernel
theorem dL_labels_81 : decode cL_labels 81 = .ok (.iconst 2, 1) := by decide +kernel
theorem dL_labels_82 : decode cL_labels 82 = .ok (.invokestatic 190, 3) := by decide +kernel
theorem dL_labels_85 : decode cL_labels 85 = .ok (.aaload, 1) := by decide +kernel
theorem dL_labels_86 : decode cL_labels 86 = .ok (.invokevirtual 242, 3) := by decide +kernel
theorem dL_labels_89 : decode cL_labels 89 = .ok (.ldc 245, 2) := by decide +kernel
theorem dL_labels_91 : decode cL_labels 91 = .ok (.invokevirtual 242, 3) := by decide +kernel
theorem dL_labels_94 : decode cL_labels 94 = .ok (.aload_n 0, 1) := by decide +kernel
theorem dL_labels_95 : decode cL_labels 95 = .ok (.iload_n 1, 1) := by decide +kernel
theorem dL_labels_96 : decode cL_labels 96 = .ok (.iconst 3, 1) := by decide +kernel
theorem dL_labels_97 : decode cL_labels 97 = .ok (.invokestatic 190, 3) := by decide +kernel
theorem dL_labels_100 : decode cL_labels 100 = .ok (.invokevirtual 236, 3) := by decide +kernel
theorem dL_labels_103 : decode cL_labels 103 = .ok (.invokevirtual 247, 3) := by decide +kernel
theorem dL_labels_106 : decode cL_labels 106 = .ok (.astore 4, 2) := by decide +kernel
theorem dL_labels_108 : decode cL_labels 108 = .ok (.new 233, 3) := by decide +kernel
theorem dL_labels_111 : decode cL_labels 111 = .ok (.dup, 1) := by decide +kernel
theorem dL_labels_112 : decode cL_labels 112 = .ok (.invokespecial 235, 3) := by decide +kernel
theorem dL_labels_115 : decode cL_labels 115 = .ok (.astore 5, 2) := by decide +kernel
theorem dL_labels_117 : decode cL_labels 117 = .ok (.iconst 0, 1) := by decide +kernel
theorem dL_labels_118 : decode cL_labels 118 = .ok (.istore 6, 2) := by decide +kernel
theorem dL_labels_120 : decode cL_labels 120 = .ok (.iload 6, 2) := by decide +kernel
theorem dL_labels_122 : decode cL_labels 122 = .ok (.iload_n 2, 1) := by decide +kernel
theorem dL_labels_123 : decode cL_labels 123 = .ok (.if_icmp .ge 23, 3) := by decide +kernel
theorem dL_labels_126 : decode cL_labels 126 = .ok (.aload 5, 2) := by decide +kernel
theorem dL_labels_128 : decode cL_labels 128 = .ok (.aload_n 0, 1) := by decide +kernel
theorem dL_labels_129 : decode cL_labels 129 = .ok (.iload_n 1, 1) := by decide +kernel
theorem dL_labels_130 : decode cL_labels 130 = .ok (.iload 6, 2) := by decide +kernel
theorem dL_labels_132 : decode cL_labels 132 = .ok (.invokestatic 225, 3) := by decide +kernel
theorem dL_labels_135 : decode cL_labels 135 = .ok (.i2c, 1) := by decide +kernel
theorem dL_labels_136 : decode cL_labels 136 = .ok (.invokevirtual 251, 3) := by decide +kernel
theorem dL_labels_139 : decode cL_labels 139 = .ok (.pop, 1) := by decide +kernel
theorem dL_labels_140 : decode cL_labels 140 = .ok (.iinc 6 1, 3) := by decide +kernel
theorem dL_labels_143 : decode cL_labels 143 = .ok (.goto (-23), 3) := by decide +kernel
theorem dL_labels_146 : decode cL_labels 146 = .ok (.aload 5, 2) := by decide +kernel
theorem dL_labels_148 : decode cL_labels 148 = .ok (.invokevirtual 247, 3) := by decide +kernel
theorem dL_labels_151 : decode cL_labels 151 = .ok (.aload 4, 2) := by decide +kernel
theorem dL_labels_153 : decode cL_labels 153 = .ok (.invokevirtual 254, 3) := by decide +kernel
theorem dL_labels_156 : decode cL_labels 156 = .ok (.istore 6, 2) := by decide +kernel
theorem dL_labels_158 : decode cL_labels 158 = .ok (.iload 6, 2) := by decide +kernel
theorem dL_labels_160 : decode cL_labels 160 = .ok (.ifCond .ne 45, 3) := by decide +kernel
theorem dL_labels_163 : decode cL_labels 163 = .ok (.aload 5, 2) := by decide +kernel
theorem dL_labels_165 : decode cL_labels 165 = .ok (.invokevirtual 247, 3) := by decide +kernel
theorem dL_labels_168 : decode cL_labels 168 = .ok (.new 233, 3) := by decide +kernel
theorem dL_labels_171 : decode cL_labels 171 = .ok (.dup, 1) := by decide +kernel
theorem dL_labels_172 : decode cL_labels 172 = .ok (.invokespecial 235, 3) := by decide +kernel
theorem dL_labels_175 : decode cL_labels 175 = .ok (.aload 4, 2) := by decide +kernel
theorem dL_labels_177 : decode cL_labels 177 = .ok (.invokevirtual 242, 3) := by decide +kernel
theorem dL_labels_180 : decode cL_labels 180 = .ok (.ldc_w 258, 3) := by decide +kernel
theorem dL_labels_183 : decode cL_labels 183 = .ok (.invokevirtual 242, 3) := by decide +kernel
theorem dL_labels_186 : decode cL_labels 186 = .ok (.invokevirtual 247, 3) := by decide +kernel
theorem dL_labels_189 : decode cL_labels 189 = .ok (.invokevirtual 254, 3) := by decide +kernel
theorem dL_labels_192 : decode cL_labels 192 = .ok (.ifCond .eq 24, 3) := by decide +kernel
theorem dL_labels_195 : decode cL_labels 195 = .ok (.aload_n 0, 1) := by decide +kernel
theorem dL_labels_196 : decode cL_labels 196 = .ok (.iload_n 1, 1) := by decide +kernel
theorem dL_labels_197 : decode cL_labels 197 = .ok (.bipush 6, 2) := by decide +kernel
theorem dL_labels_199 : decode cL_labels 199 = .ok (.invokestatic 190, 3) := by decide +kernel
theorem dL_labels_202 : decode cL_labels 202 = .ok (.ifCond .eq 14, 3) := by decide +kernel
theorem dL_labels_205 : decode cL_labels 205 = .ok (.aload_n 0, 1) := by decide +kernel
theorem dL_labels_206 : decode cL_labels 206 = .ok (.iload_n 1, 1) := by decide +kernel
theorem dL_labels_207 : decode cL_labels 207 = .ok (.iload_n 2, 1) := by decide +kernel
theorem dL_labels_208 : decode cL_labels 208 = .ok (.invokestatic 225, 3) := by decide +kernel
theorem dL_labels_211 : decode cL_labels 211 = .ok (.bipush (-2), 2) := by decide +kernel
theorem dL_labels_213 : decode cL_labels 213 = .ok (.if_icmp .eq 5, 3) := by decide +kernel
theorem dL_labels_216 : decode cL_labels 216 = .ok (.iconst 0, 1) := by decide +kernel
theorem dL_labels_217 : decode cL_labels 217 = .ok (.ireturn, 1) := by decide +kernel
theorem dL_labels_218 : decode cL_labels 218 = .ok (.iinc 1 1, 3) := by decide +kernel
theorem dL_labels_221 : decode cL_labels 221 = .ok (.goto (-219), 3) := by decide +kernel
theorem dL_labels_224 : decode cL_labels 224 = .ok (.iconst 1, 1) := by decide +kernel
theorem dL_labels_225 : decode cL_labels 225 = .ok (.ireturn, 1) := by decide +kernel
theorem dL_law_0 : decode cL_law 0 = .ok (.new 8, 3) := by decide +kernel
theorem dL_law_3 : decode cL_law 3 = .ok (.dup, 1) := by decide +kernel
theorem dL_law_4 : decode cL_law 4 = .ok (.invokespecial 260, 3) := by decide +kernel
theorem dL_law_7 : decode cL_law 7 = .ok (.astore_n 1, 1) := by decide +kernel
theorem dL_law_8 : decode cL_law 8 = .ok (.iconst 0, 1) := by decide +kernel
theorem dL_law_9 : decode cL_law 9 = .ok (.istore_n 2, 1) := by decide +kernel
theorem dL_law_10 : decode cL_law 10 = .ok (.aload_n 1, 1) := by decide +kernel
theorem dL_law_11 : decode cL_law 11 = .ok (.invokestatic 261, 3) := by decide +kernel
theorem dL_law_14 : decode cL_law 14 = .ok (.iconst (-1), 1) := by decide +kernel
theorem dL_law_15 : decode cL_law 15 = .ok (.if_icmp .ne 94, 3) := by decide +kernel
theorem dL_law_18 : decode cL_law 18 = .ok (.aload_n 1, 1) := by decide +kernel
theorem dL_law_19 : decode cL_law 19 = .ok (.invokestatic 263, 3) := by decide +kernel
theorem dL_law_22 : decode cL_law 22 = .ok (.iconst (-1), 1) := by decide +kernel
theorem dL_law_23 : decode cL_law 23 = .ok (.if_icmp .ne 86, 3) := by decide +kernel
theorem dL_law_26 : decode cL_law 26 = .ok (.aload_n 1, 1) := by decide +kernel
theorem dL_law_27 : decode cL_law 27 = .ok (.iconst 1, 1) := by decide +kernel
theorem dL_law_28 : decode cL_law 28 = .ok (.invokestatic 265, 3) := by decide +kernel
theorem dL_law_31 : decode cL_law 31 = .ok (.iconst (-1), 1) := by decide +kernel
theorem dL_law_32 : decode cL_law 32 = .ok (.if_icmp .ne 77, 3) := by decide +kernel
theorem dL_law_35 : decode cL_law 35 = .ok (.aload_n 1, 1) := by decide +kernel
theorem dL_law_36 : decode cL_law 36 = .ok (.invokestatic 268, 3) := by decide +kernel
theorem dL_law_39 : decode cL_law 39 = .ok (.bipush (-100), 2) := by decide +kernel
theorem dL_law_41 : decode cL_law 41 = .ok (.if_icmp .ne 68, 3) := by decide +kernel
theorem dL_law_44 : decode cL_law 44 = .ok (.aload_n 1, 1) := by decide +kernel
theorem dL_law_45 : decode cL_law 45 = .ok (.invokestatic 200, 3) := by decide +kernel
theorem dL_law_48 : decode cL_law 48 = .ok (.ldc2_w 94, 3) := by decide +kernel
theorem dL_law_51 : decode cL_law 51 = .ok (.dcmp .l, 1) := by decide +kernel
theorem dL_law_52 : decode cL_law 52 = .ok (.ifCond .ne 57, 3) := by decide +kernel
theorem dL_law_55 : decode cL_law 55 = .ok (.aload_n 1, 1) := by decide +kernel
theorem dL_law_56 : decode cL_law 56 = .ok (.invokestatic 212, 3) := by decide +kernel
theorem dL_law_59 : decode cL_law 59 = .ok (.ldc 100, 2) := by decide +kernel
theorem dL_law_61 : decode cL_law 61 = .ok (.fcmp .l, 1) := by decide +kernel
theorem dL_law_62 : decode cL_law 62 = .ok (.ifCond .ne 47, 3) := by decide +kernel
theorem dL_law_65 : decode cL_law 65 = .ok (.aload_n 1, 1) := by decide +kernel
theorem dL_law_66 : decode cL_law 66 = .ok (.iconst 0, 1) := by decide +kernel
theorem dL_law_67 : decode cL_law 67 = .ok (.invokestatic 207, 3) := by decide +kernel
theorem dL_law_70 : decode cL_law 70 = .ok (.iconst (-1), 1) := by decide +kernel
theorem dL_law_71 : decode cL_law 71 = .ok (.if_icmp .ne 38, 3) := by decide +kernel
theorem dL_law_74 : decode cL_law 74 = .ok (.aload_n 1, 1) := by decide +kernel
theorem dL_law_75 : decode cL_law 75 = .ok (.invokevirtual 209, 3) := by decide +kernel
theorem dL_law_78 : decode cL_law 78 = .ok (.ifCond .ne 31, 3) := by decide +kernel
theorem dL_law_81 : decode cL_law 81 = .ok (.aload_n 1, 1) := by decide +kernel
theorem dL_law_82 : decode cL_law 82 = .ok (.invokevirtual 218, 3) := by decide +kernel
theorem dL_law_85 : decode cL_law 85 = .ok (.ifCond .ne 24, 3) := by decide +kernel
theorem dL_law_88 : decode cL_law 88 = .ok (.aload_n 1, 1) := by decide +kernel
theorem dL_law_89 : decode cL_law 89 = .ok (.bipush 6, 2) := by decide +kernel
theorem dL_law_91 : decode cL_law 91 = .ok (.iconst 0, 1) := by decide +kernel
theorem dL_law_92 : decode cL_law 92 = .ok (.invokestatic 188, 3) := by decide +kernel
theorem dL_law_95 : decode cL_law 95 = .ok (.iconst (-1), 1) := by decide +kernel
theorem dL_law_96 : decode cL_law 96 = .ok (.if_icmp .ne 13, 3) := by decide +kernel
theorem dL_law_99 : decode cL_law 99 = .ok (.aload_n 1, 1) := by decide +kernel
theorem dL_law_100 : decode cL_law 100 = .ok (.bipush 18, 2) := by decide +kernel
theorem dL_law_102 : decode cL_law 102 = .ok (.invokestatic 142, 3) := by decide +kernel
theorem dL_law_105 : decode cL_law 105 = .ok (.iconst (-1), 1) := by decide +kernel
theorem dL_law_106 : decode cL_law 106 = .ok (.if_icmp .eq 5, 3) := by decide +kernel
theorem dL_law_109 : decode cL_law 109 = .ok (.iconst 0, 1) := by decide +kernel
theorem dL_law_110 : decode cL_law 110 = .ok (.ireturn, 1) := by decide +kernel
theorem dL_law_111 : decode cL_law 111 = .ok (.aload_n 1, 1) := by decide +kernel
theorem dL_law_112 : decode cL_law 112 = .ok (.invokestatic 270, 3) := by decide +kernel
theorem dL_law_115 : decode cL_law 115 = .ok (.istore_n 3, 1) := by decide +kernel
theorem dL_law_116 : decode cL_law 116 = .ok (.bipush 8, 2) := by decide +kernel
theorem dL_law_118 : decode cL_law 118 = .ok (.istore 4, 2) := by decide +kernel
theorem dL_law_120 : decode cL_law 120 = .ok (.iconst 0, 1) := by decide +kernel
theorem dL_law_121 : decode cL_law 121 = .ok (.istore 5, 2) := by decide +kernel
theorem dL_law_123 : decode cL_law 123 = .ok (.iload 5, 2) := by decide +kernel
theorem dL_law_125 : decode cL_law 125 = .ok (.bipush 40, 2) := by decide +kernel
theorem dL_law_127 : decode cL_law 127 = .ok (.if_icmp .ge 276, 3) := by decide +kernel
theorem dL_law_130 : decode cL_law 130 = .ok (.aload_n 0, 1) := by decide +kernel
theorem dL_law_131 : decode cL_law 131 = .ok (.iload_n 2, 1) := by decide +kernel
theorem dL_law_132 : decode cL_law 132 = .ok (.invokestatic 273, 3) := by decide +kernel
theorem dL_law_135 : decode cL_law 135 = .ok (.sipush 255, 3) := by decide +kernel
theorem dL_law_138 : decode cL_law 138 = .ok (.iand, 1) := by decide +kernel
theorem dL_law_139 : decode cL_law 139 = .ok (.istore 6, 2) := by decide +kernel
theorem dL_law_141 : decode cL_law 141 = .ok (.new 138, 3) := by decide +kernel
theorem dL_law_144 : decode cL_law 144 = .ok (.dup, 1) := by decide +kernel
theorem dL_law_145 : decode cL_law 145 = .ok (.aload_n 0, 1) := by decide +kernel
theorem dL_law_146 : decode cL_law 146 = .ok (.iload_n 2, 1) := by decide +kernel
theorem dL_law_147 : decode cL_law 147 = .ok (.iconst 1, 1) := by decide +kernel
theorem dL_law_148 : decode cL_law 148 = .ok (.iadd, 1) := by decide +kernel
theorem dL_law_149 : decode cL_law 149 = .ok (.invokestatic 273, 3) := by decide +kernel
theorem dL_law_152 : decode cL_law 152 = .ok (.invokespecial 277, 3) := by decide +kernel
theorem dL_law_155 : decode cL_law 155 = .ok (.astore 7, 2) := by decide +kernel
theorem dL_law_157 : decode cL_law 157 = .ok (.iinc 2 2, 3) := by decide +kernel
theorem dL_law_160 : decode cL_law 160 = .ok (.aload_n 1, 1) := by decide +kernel
theorem dL_law_161 : decode cL_law 161 = .ok (.invokestatic 280, 3) := by decide +kernel
theorem dL_law_164 : decode cL_law 164 = .ok (.astore 8, 2) := by decide +kernel
theorem dL_law_166 : decode cL_law 166 = .ok (.aload_n 1, 1) := by decide +kernel
theorem dL_law_167 : decode cL_law 167 = .ok (.iload 6, 2) := by decide +kernel
theorem dL_law_169 : decode cL_law 169 = .ok (.aload 7, 2) := by decide +kernel
theorem dL_law_171 : decode cL_law 171 = .ok (.invokestatic 284, 3) := by decide +kernel
theorem dL_law_174 : decode cL_law 174 = .ok (.istore 9, 2) := by decide +kernel
theorem dL_law_176 : decode cL_law 176 = .ok (.iload 9, 2) := by decide +kernel
theorem dL_law_178 : decode cL_law 178 = .ok (.ifCond .ge 17, 3) := by decide +kernel
theorem dL_law_181 : decode cL_law 181 = .ok (.aload 8, 2) := by decide +kernel
theorem dL_law_183 : decode cL_law 183 = .ok (.aload_n 1, 1) := by decide +kernel
theorem dL_law_184 : decode cL_law 184 = .ok (.invokestatic 280, 3) := by decide +kernel
theorem dL_law_187 : decode cL_law 187 = .ok (.invokestatic 288, 3) := by decide +kernel
theorem dL_law_190 : decode cL_law 190 = .ok (.ifCond .ne 5, 3) := by decide +kernel
theorem dL_law_193 : decode cL_law 193 = .ok (.iconst 0, 1) := by decide +kernel
theorem dL_law_194 : decode cL_law 194 = .ok (.ireturn, 1) := by decide +kernel
theorem dL_law_195 : decode cL_law 195 = .ok (.iload 9, 2) := by decide +kernel
theorem dL_law_197 : decode cL_law 197 = .ok (.ifCond .ge 8, 3) := by decide +kernel
theorem dL_law_200 : decode cL_law 200 = .ok (.iload 4, 2) := by decide +kernel
theorem dL_law_202 : decode cL_law 202 = .ok (.goto 12, 3) := by decide +kernel
theorem dL_law_205 : decode cL_law 205 = .ok (.bipush 8, 2) := by decide +kernel
theorem dL_law_207 : decode cL_law 207 = .ok (.iload 4, 2) := by decide +kernel
theorem dL_law_209 : decode cL_law 209 = .ok (.iconst 1, 1) := by decide +kernel
theorem dL_law_210 : decode cL_law 210 = .ok (.iadd, 1) := by decide +kernel
theorem dL_law_211 : decode cL_law 211 = .ok (.invokestatic 293, 3) := by decide +kernel
theorem dL_law_214 : decode cL_law 214 = .ok (.istore 4, 2) := by decide +kernel
theorem dL_law_216 : decode cL_law 216 = .ok (.iload 9, 2) := by decide +kernel
theorem dL_law_218 : decode cL_law 218 = .ok (.ifCond .lt 38, 3) := by decide +kernel
theorem dL_law_221 : decode cL_law 221 = .ok (.aload 7, 2) := by decide +kernel
theorem dL_law_223 : decode cL_law 223 = .ok (.iconst 4, 1) := by decide +kernel
theorem dL_law_224 : decode cL_law 224 = .ok (.invokevirtual 137, 3) := by decide +kernel
theorem dL_law_227 : decode cL_law 227 = .ok (.ifCond .ne 29, 3) := by decide +kernel
theorem dL_law_230 : decode cL_law 230 = .ok (.iinc 4 (-1), 3) := by decide +kernel
theorem dL_law_233 : decode cL_law 233 = .ok (.aload_n 1, 1) := by decide +kernel
theorem dL_law_234 : decode cL_law 234 = .ok (.invokestatic 261, 3) := by decide +kernel
theorem dL_law_237 : decode cL_law 237 = .ok (.iload 4, 2) := by decide +kernel
theorem dL_law_239 : decode cL_law 239 = .ok (.if_icmp .ne 15, 3) := by decide +kernel
theorem dL_law_242 : decode cL_law 242 = .ok (.aload 8, 2) := by decide +kernel
theorem dL_law_244 : decode cL_law 244 = .ok (.aload_n 1, 1) := by decide +kernel
theorem dL_law_245 : decode cL_law 245 = .ok (.invokestatic 280, 3) := by decide +kernel
theorem dL_law_248 : decode cL_law 248 = .ok (.invokestatic 288, 3) := by decide +kernel
theorem dL_law_251 : decode cL_law 251 = .ok (.ifCond .ne 5, 3) := by decide +kernel
theorem dL_law_254 : decode cL_law 254 = .ok (.iconst 0, 1) := by decide +kernel
theorem dL_law_255 : decode cL_law 255 = .ok (.ireturn, 1) := by decide +kernel
theorem dL_law_256 : decode cL_law 256 = .ok (.aload_n 1, 1) := by decide +kernel
theorem dL_law_257 : decode cL_law 257 = .ok (.bipush 17, 2) := by decide +kernel
theorem dL_law_259 : decode cL_law 259 = .ok (.invokestatic 142, 3) := by decide +kernel
theorem dL_law_262 : decode cL_law 262 = .ok (.iload 4, 2) := by decide +kernel
theorem dL_law_264 : decode cL_law 264 = .ok (.if_icmp .ne 40, 3) := by decide +kernel
theorem dL_law_267 : decode cL_law 267 = .ok (.aload_n 1, 1) := by decide +kernel
theorem dL_law_268 : decode cL_law 268 = .ok (.invokestatic 296, 3) := by decide +kernel
theorem dL_law_271 : decode cL_law 271 = .ok (.ifCond .eq 33, 3) := by decide +kernel
theorem dL_law_274 : decode cL_law 274 = .ok (.aload_n 1, 1) := by decide +kernel
theorem dL_law_275 : decode cL_law 275 = .ok (.invokestatic 300, 3) := by decide +kernel
theorem dL_law_278 : decode cL_law 278 = .ok (.ifCond .eq 26, 3) := by decide +kernel
theorem dL_law_281 : decode cL_law 281 = .ok (.aload_n 1, 1) := by decide +kernel
theorem dL_law_282 : decode cL_law 282 = .ok (.invokestatic 303, 3) := by decide +kernel
theorem dL_law_285 : decode cL_law 285 = .ok (.ifCond .eq 19, 3) := by decide +kernel
theorem dL_law_288 : decode cL_law 288 = .ok (.aload_n 1, 1) := by decide +kernel
theorem dL_law_289 : decode cL_law 289 = .ok (.aload 7, 2) := by decide +kernel
theorem dL_law_291 : decode cL_law 291 = .ok (.invokestatic 306, 3) := by decide +kernel
theorem dL_law_294 : decode cL_law 294 = .ok (.ifCond .eq 10, 3) := by decide +kernel
theorem dL_law_297 : decode cL_law 297 = .ok (.aload_n 1, 1) := by decide +kernel
theorem dL_law_298 : decode cL_law 298 = .ok (.invokestatic 310, 3) := by decide +kernel
theorem dL_law_301 : decode cL_law 301 = .ok (.ifCond .ne 5, 3) := by decide +kernel
theorem dL_law_304 : decode cL_law 304 = .ok (.iconst 0, 1) := by decide +kernel
theorem dL_law_305 : decode cL_law 305 = .ok (.ireturn, 1) := by decide +kernel
theorem dL_law_306 : decode cL_law 306 = .ok (.iload 5, 2) := by decide +kernel
theorem dL_law_308 : decode cL_law 308 = .ok (.bipush 9, 2) := by decide +kernel
theorem dL_law_310 : decode cL_law 310 = .ok (.irem, 1) := by decide +kernel
theorem dL_law_311 : decode cL_law 311 = .ok (.bipush 8, 2) := by decide +kernel
theorem dL_law_313 : decode cL_law 313 = .ok (.if_icmp .ne 84, 3) := by decide +kernel
theorem dL_law_316 : decode cL_law 316 = .ok (.aload_n 1, 1) := by decide +kernel
theorem dL_law_317 : decode cL_law 317 = .ok (.invokestatic 280, 3) := by decide +kernel
theorem dL_law_320 : decode cL_law 320 = .ok (.astore 8, 2) := by decide +kernel
theorem dL_law_322 : decode cL_law 322 = .ok (.aload_n 1, 1) := by decide +kernel
theorem dL_law_323 : decode cL_law 323 = .ok (.invokevirtual 313, 3) := by decide +kernel
theorem dL_law_326 : decode cL_law 326 = .ok (.istore 10, 2) := by decide +kernel
theorem dL_law_328 : decode cL_law 328 = .ok (.aload_n 1, 1) := by decide +kernel
theorem dL_law_329 : decode cL_law 329 = .ok (.invokestatic 263, 3) := by decide +kernel
theorem dL_law_332 : decode cL_law 332 = .ok (.istore 11, 2) := by decide +kernel
theorem dL_law_334 : decode cL_law 334 = .ok (.iconst 0, 1) := by decide +kernel
theorem dL_law_335 : decode cL_law 335 = .ok (.istore 4, 2) := by decide +kernel
theorem dL_law_337 : decode cL_law 337 = .ok (.aload 7, 2) := by decide +kernel
theorem dL_law_339 : decode cL_law 339 = .ok (.bipush 72, 2) := by decide +kernel
theorem dL_law_341 : decode cL_law 341 = .ok (.invokevirtual 137, 3) := by decide +kernel
theorem dL_law_344 : decode cL_law 344 = .ok (.iconst 1, 1) := by decide +kernel
theorem dL_law_345 : decode cL_law 345 = .ok (.iadd, 1) := by decide +kernel
theorem dL_law_346 : decode cL_law 346 = .ok (.istore 12, 2) := by decide +kernel
theorem dL_law_348 : decode cL_law 348 = .ok (.aload_n 1, 1) := by decide +kernel
theorem dL_law_349 : decode cL_law 349 = .ok (.iload 12, 2) := by decide +kernel
theorem dL_law_351 : decode cL_law 351 = .ok (.invokestatic 221, 3) := by decide +kernel
theorem dL_law_354 : decode cL_law 354 = .ok (.istore 13, 2) := by decide +kernel
theorem dL_law_356 : decode cL_law 356 = .ok (.iload 10, 2) := by decide +kernel
theorem dL_law_358 : decode cL_law 358 = .ok (.iload 11, 2) := by decide +kernel
theorem dL_law_360 : decode cL_law 360 = .ok (.if_icmp .ne 35, 3) := by decide +kernel
theorem dL_law_363 : decode cL_law 363 = .ok (.aload_n 1, 1) := by decide +kernel
theorem dL_law_364 : decode cL_law 364 = .ok (.iload 12, 2) := by decide +kernel
theorem dL_law_366 : decode cL_law 366 = .ok (.invokestatic 186, 3) := by decide +kernel
theorem dL_law_369 : decode cL_law 369 = .ok (.iload 13, 2) := by decide +kernel
theorem dL_law_371 : decode cL_law 371 = .ok (.if_icmp .ne 24, 3) := by decide +kernel
theorem dL_law_374 : decode cL_law 374 = .ok (.aload_n 1, 1) := by decide +kernel
theorem dL_law_375 : decode cL_law 375 = .ok (.invokestatic 263, 3) := by decide +kernel
theorem dL_law_378 : decode cL_law 378 = .ok (.iload 10, 2) := by decide +kernel
theorem dL_law_380 : decode cL_law 380 = .ok (.if_icmp .ne 15, 3) := by decide +kernel
theorem dL_law_383 : decode cL_law 383 = .ok (.aload 8, 2) := by decide +kernel
theorem dL_law_385 : decode cL_law 385 = .ok (.aload_n 1, 1) := by decide +kernel
theorem dL_law_386 : decode cL_law 386 = .ok (.invokestatic 280, 3) := by decide +kernel
theorem dL_law_389 : decode cL_law 389 = .ok (.invokestatic 288, 3) := by decide +kernel
theorem dL_law_392 : decode cL_law 392 = .ok (.ifCond .ne 5, 3) := by decide +kernel
theorem dL_law_395 : decode cL_law 395 = .ok (.iconst 0, 1) := by decide +kernel
theorem dL_law_396 : decode cL_law 396 = .ok (.ireturn, 1) := by decide +kernel
theorem dL_law_397 : decode cL_law 397 = .ok (.iinc 5 1, 3) := by decide +kernel
theorem dL_law_400 : decode cL_law 400 = .ok (.goto (-277), 3) := by decide +kernel
theorem dL_law_403 : decode cL_law 403 = .ok (.iload_n 3, 1) := by decide +kernel
theorem dL_law_404 : decode cL_law 404 = .ok (.ifCond .le 7, 3) := by decide +kernel
theorem dL_law_407 : decode cL_law 407 = .ok (.iconst 1, 1) := by decide +kernel
theorem dL_law_408 : decode cL_law 408 = .ok (.goto 4, 3) := by decide +kernel
theorem dL_law_411 : decode cL_law 411 = .ok (.iconst 0, 1) := by decide +kernel
theorem dL_law_412 : decode cL_law 412 = .ok (.ireturn, 1) := by decide +kernel
