theorem dL_bring_0 : decode cL_bring 0 = .ok (.aload 4, 2) := by decide +kernel
theorem dL_bring_2 : decode cL_bring 2 = .ok (.iconst 0, 1) := by decide +kernel
theorem dL_bring_3 : decode cL_bring 3 = .ok (.aload_n 0, 1) := by decide +kernel
theorem dL_bring_4 : decode cL_bring 4 = .ok (.iload_n 1, 1) := by decide +kernel
theorem dL_bring_5 : decode cL_bring 5 = .ok (.iload_n 2, 1) := by decide +kernel
theorem dL_bring_6 : decode cL_bring 6 = .ok (.iload_n 3, 1) := by decide +kernel
theorem dL_bring_7 : decode cL_bring 7 = .ok (.invokevirtual 7, 3) := by decide +kernel
theorem dL_bring_10 : decode cL_bring 10 = .ok (.i2l, 1) := by decide +kernel
theorem dL_bring_11 : decode cL_bring 11 = .ok (.lastore, 1) := by decide +kernel
theorem dL_bring_12 : decode cL_bring 12 = .ok (.goto 15, 3) := by decide +kernel
theorem dL_bring_15 : decode cL_bring 15 = .ok (.astore 5, 2) := by decide +kernel
theorem dL_bring_17 : decode cL_bring 17 = .ok (.iconst 1, 1) := by decide +kernel
theorem dL_bring_18 : decode cL_bring 18 = .ok (.ireturn, 1) := by decide +kernel
theorem dL_bring_19 : decode cL_bring 19 = .ok (.astore 5, 2) := by decide +kernel
theorem dL_bring_21 : decode cL_bring 21 = .ok (.iconst 2, 1) := by decide +kernel
theorem dL_bring_22 : decode cL_bring 22 = .ok (.ireturn, 1) := by decide +kernel
theorem dL_bring_23 : decode cL_bring 23 = .ok (.astore 5, 2) := by decide +kernel
theorem dL_bring_25 : decode cL_bring 25 = .ok (.iconst 3, 1) := by decide +kernel
theorem dL_bring_26 : decode cL_bring 26 = .ok (.ireturn, 1) := by decide +kernel
theorem dL_bring_27 : decode cL_bring 27 = .ok (.iconst 0, 1) := by decide +kernel
theorem dL_bring_28 : decode cL_bring 28 = .ok (.ireturn, 1) := by decide +kernel
theorem dL_leaves_0 : decode cL_leaves 0 = .ok (.aload_n 3, 1) := by decide +kernel
theorem dL_leaves_1 : decode cL_leaves 1 = .ok (.iconst 0, 1) := by decide +kernel
theorem dL_leaves_2 : decode cL_leaves 2 = .ok (.aload_n 0, 1) := by decide +kernel
theorem dL_leaves_3 : decode cL_leaves 3 = .ok (.iload_n 1, 1) := by decide +kernel
theorem dL_leaves_4 : decode cL_leaves 4 = .ok (.iload_n 2, 1) := by decide +kernel
theorem dL_leaves_5 : decode cL_leaves 5 = .ok (.invokevirtual 19, 3) := by decide +kernel
theorem dL_leaves_8 : decode cL_leaves 8 = .ok (.i2l, 1) := by decide +kernel
theorem dL_leaves_9 : decode cL_leaves 9 = .ok (.lastore, 1) := by decide +kernel
theorem dL_leaves_10 : decode cL_leaves 10 = .ok (.goto 7, 3) := by decide +kernel
theorem dL_leaves_13 : decode cL_leaves 13 = .ok (.astore 4, 2) := by decide +kernel
theorem dL_leaves_15 : decode cL_leaves 15 = .ok (.iconst 1, 1) := by decide +kernel
theorem dL_leaves_16 : decode cL_leaves 16 = .ok (.ireturn, 1) := by decide +kernel
theorem dL_leaves_17 : decode cL_leaves 17 = .ok (.iconst 0, 1) := by decide +kernel
theorem dL_leaves_18 : decode cL_leaves 18 = .ok (.ireturn, 1) := by decide +kernel
theorem dL_buy_0 : decode cL_buy 0 = .ok (.aload_n 3, 1) := by decide +kernel
theorem dL_buy_1 : decode cL_buy 1 = .ok (.iconst 0, 1) := by decide +kernel
theorem dL_buy_2 : decode cL_buy 2 = .ok (.aload_n 0, 1) := by decide +kernel
theorem dL_buy_3 : decode cL_buy 3 = .ok (.iload_n 1, 1) := by decide +kernel
theorem dL_buy_4 : decode cL_buy 4 = .ok (.iload_n 2, 1) := by decide +kernel
theorem dL_buy_5 : decode cL_buy 5 = .ok (.invokevirtual 23, 3) := by decide +kernel
theorem dL_buy_8 : decode cL_buy 8 = .ok (.i2l, 1) := by decide +kernel
theorem dL_buy_9 : decode cL_buy 9 = .ok (.lastore, 1) := by decide +kernel
theorem dL_buy_10 : decode cL_buy 10 = .ok (.goto 7, 3) := by decide +kernel
theorem dL_buy_13 : decode cL_buy 13 = .ok (.astore 4, 2) := by decide +kernel
theorem dL_buy_15 : decode cL_buy 15 = .ok (.iconst 1, 1) := by decide +kernel
theorem dL_buy_16 : decode cL_buy 16 = .ok (.ireturn, 1) := by decide +kernel
theorem dL_buy_17 : decode cL_buy 17 = .ok (.iconst 0, 1) := by decide +kernel
theorem dL_buy_18 : decode cL_buy 18 = .ok (.ireturn, 1) := by decide +kernel
theorem dL_make_0 : decode cL_make 0 = .ok (.aload_n 2, 1) := by decide +kernel
theorem dL_make_1 : decode cL_make 1 = .ok (.iconst 0, 1) := by decide +kernel
theorem dL_make_2 : decode cL_make 2 = .ok (.aload_n 0, 1) := by decide +kernel
theorem dL_make_3 : decode cL_make 3 = .ok (.iload_n 1, 1) := by decide +kernel
theorem dL_make_4 : decode cL_make 4 = .ok (.invokevirtual 27, 3) := by decide +kernel
theorem dL_make_7 : decode cL_make 7 = .ok (.i2l, 1) := by decide +kernel
theorem dL_make_8 : decode cL_make 8 = .ok (.lastore, 1) := by decide +kernel
theorem dL_make_9 : decode cL_make 9 = .ok (.goto 9, 3) := by decide +kernel
theorem dL_make_12 : decode cL_make 12 = .ok (.astore_n 3, 1) := by decide +kernel
theorem dL_make_13 : decode cL_make 13 = .ok (.iconst 1, 1) := by decide +kernel
theorem dL_make_14 : decode cL_make 14 = .ok (.ireturn, 1) := by decide +kernel
theorem dL_make_15 : decode cL_make 15 = .ok (.astore_n 3, 1) := by decide +kernel
theorem dL_make_16 : decode cL_make 16 = .ok (.iconst 2, 1) := by decide +kernel
theorem dL_make_17 : decode cL_make 17 = .ok (.ireturn, 1) := by decide +kernel
theorem dL_make_18 : decode cL_make 18 = .ok (.iconst 0, 1) := by decide +kernel
theorem dL_make_19 : decode cL_make 19 = .ok (.ireturn, 1) := by decide +kernel
theorem dL_line_0 : decode cL_line 0 = .ok (.aload_n 2, 1) := by decide +kernel
theorem dL_line_1 : decode cL_line 1 = .ok (.iconst 0, 1) := by decide +kernel
theorem dL_line_2 : decode cL_line 2 = .ok (.aload_n 0, 1) := by decide +kernel
theorem dL_line_3 : decode cL_line 3 = .ok (.iload_n 1, 1) := by decide +kernel
theorem dL_line_4 : decode cL_line 4 = .ok (.invokevirtual 31, 3) := by decide +kernel
theorem dL_line_7 : decode cL_line 7 = .ok (.i2l, 1) := by decide +kernel
theorem dL_line_8 : decode cL_line 8 = .ok (.lastore, 1) := by decide +kernel
theorem dL_line_9 : decode cL_line 9 = .ok (.goto 9, 3) := by decide +kernel
theorem dL_line_12 : decode cL_line 12 = .ok (.astore_n 3, 1) := by decide +kernel
theorem dL_line_13 : decode cL_line 13 = .ok (.iconst 1, 1) := by decide +kernel
theorem dL_line_14 : decode cL_line 14 = .ok (.ireturn, 1) := by decide +kernel
theorem dL_line_15 : decode cL_line 15 = .ok (.astore_n 3, 1) := by decide +kernel
theorem dL_line_16 : decode cL_line 16 = .ok (.iconst 2, 1) := by decide +kernel
theorem dL_line_17 : decode cL_line 17 = .ok (.ireturn, 1) := by decide +kernel
theorem dL_line_18 : decode cL_line 18 = .ok (.iconst 0, 1) := by decide +kernel
theorem dL_line_19 : decode cL_line 19 = .ok (.ireturn, 1) := by decide +kernel
theorem dL_fill_0 : decode cL_fill 0 = .ok (.aload 5, 2) := by decide +kernel
theorem dL_fill_2 : decode cL_fill 2 = .ok (.iconst 0, 1) := by decide +kernel
theorem dL_fill_3 : decode cL_fill 3 = .ok (.aload_n 0, 1) := by decide +kernel
theorem dL_fill_4 : decode cL_fill 4 = .ok (.iload_n 1, 1) := by decide +kernel
theorem dL_fill_5 : decode cL_fill 5 = .ok (.iload_n 2, 1) := by decide +kernel
theorem dL_fill_6 : decode cL_fill 6 = .ok (.iload_n 3, 1) := by decide +kernel
theorem dL_fill_7 : decode cL_fill 7 = .ok (.iload 4, 2) := by decide +kernel
theorem dL_fill_9 : decode cL_fill 9 = .ok (.invokevirtual 34, 3) := by decide +kernel
theorem dL_fill_12 : decode cL_fill 12 = .ok (.i2l, 1) := by decide +kernel
theorem dL_fill_13 : decode cL_fill 13 = .ok (.lastore, 1) := by decide +kernel
theorem dL_fill_14 : decode cL_fill 14 = .ok (.goto 15, 3) := by decide +kernel
theorem dL_fill_17 : decode cL_fill 17 = .ok (.astore 6, 2) := by decide +kernel
theorem dL_fill_19 : decode cL_fill 19 = .ok (.iconst 1, 1) := by decide +kernel
theorem dL_fill_20 : decode cL_fill 20 = .ok (.ireturn, 1) := by decide +kernel
theorem dL_fill_21 : decode cL_fill 21 = .ok (.astore 6, 2) := by decide +kernel
theorem dL_fill_23 : decode cL_fill 23 = .ok (.iconst 2, 1) := by decide +kernel
theorem dL_fill_24 : decode cL_fill 24 = .ok (.ireturn, 1) := by decide +kernel
theorem dL_fill_25 : decode cL_fill 25 = .ok (.astore 6, 2) := by decide +kernel
theorem dL_fill_27 : decode cL_fill 27 = .ok (.iconst 3, 1) := by decide +kernel
theorem dL_fill_28 : decode cL_fill 28 = .ok (.ireturn, 1) := by decide +kernel
theorem dL_fill_29 : decode cL_fill 29 = .ok (.iconst 0, 1) := by decide +kernel
theorem dL_fill_30 : decode cL_fill 30 = .ok (.ireturn, 1) := by decide +kernel
theorem dL_empty_0 : decode cL_empty 0 = .ok (.aload_n 2, 1) := by decide +kernel
theorem dL_empty_1 : decode cL_empty 1 = .ok (.iconst 0, 1) := by decide +kernel
theorem dL_empty_2 : decode cL_empty 2 = .ok (.aload_n 0, 1) := by decide +kernel
theorem dL_empty_3 : decode cL_empty 3 = .ok (.iload_n 1, 1) := by decide +kernel
theorem dL_empty_4 : decode cL_empty 4 = .ok (.invokevirtual 38, 3) := by decide +kernel
theorem dL_empty_7 : decode cL_empty 7 = .ok (.i2l, 1) := by decide +kernel
theorem dL_empty_8 : decode cL_empty 8 = .ok (.lastore, 1) := by decide +kernel
theorem dL_empty_9 : decode cL_empty 9 = .ok (.goto 9, 3) := by decide +kernel
theorem dL_empty_12 : decode cL_empty 12 = .ok (.astore_n 3, 1) := by decide +kernel
theorem dL_empty_13 : decode cL_empty 13 = .ok (.iconst 1, 1) := by decide +kernel
theorem dL_empty_14 : decode cL_empty 14 = .ok (.ireturn, 1) := by decide +kernel
theorem dL_empty_15 : decode cL_empty 15 = .ok (.astore_n 3, 1) := by decide +kernel
theorem dL_empty_16 : decode cL_empty 16 = .ok (.iconst 2, 1) := by decide +kernel
theorem dL_empty_17 : decode cL_empty 17 = .ok (.ireturn, 1) := by decide +kernel
theorem dL_empty_18 : decode cL_empty 18 = .ok (.iconst 0, 1) := by decide +kernel
theorem dL_empty_19 : decode cL_empty 19 = .ok (.ireturn, 1) := by decide +kernel
theorem dL_screw_0 : decode cL_screw 0 = .ok (.aload_n 3, 1) := by decide +kernel
theorem dL_screw_1 : decode cL_screw 1 = .ok (.iconst 0, 1) := by decide +kernel
theorem dL_screw_2 : decode cL_screw 2 = .ok (.aload_n 0, 1) := by decide +kernel
theorem dL_screw_3 : decode cL_screw 3 = .ok (.iload_n 1, 1) := by decide +kernel
theorem dL_screw_4 : decode cL_screw 4 = .ok (.iload_n 2, 1) := by decide +kernel
theorem dL_screw_5 : decode cL_screw 5 = .ok (.invokevirtual 41, 3) := by decide +kernel
theorem dL_screw_8 : decode cL_screw 8 = .ok (.ifCond .eq 7, 3) := by decide +kernel
theorem dL_screw_11 : decode cL_screw 11 = .ok (.lconst 1, 1) := by decide +kernel
theorem dL_screw_12 : decode cL_screw 12 = .ok (.goto 4, 3) := by decide +kernel
theorem dL_screw_15 : decode cL_screw 15 = .ok (.lconst 0, 1) := by decide +kernel
theorem dL_screw_16 : decode cL_screw 16 = .ok (.lastore, 1) := by decide +kernel
theorem dL_screw_17 : decode cL_screw 17 = .ok (.goto 15, 3) := by decide +kernel
theorem dL_screw_20 : decode cL_screw 20 = .ok (.astore 4, 2) := by decide +kernel
theorem dL_screw_22 : decode cL_screw 22 = .ok (.iconst 1, 1) := by decide +kernel
theorem dL_screw_23 : decode cL_screw 23 = .ok (.ireturn, 1) := by decide +kernel
theorem dL_screw_24 : decode cL_screw 24 = .ok (.astore 4, 2) := by decide +kernel
theorem dL_screw_26 : decode cL_screw 26 = .ok (.iconst 2, 1) := by decide +kernel
theorem dL_screw_27 : decode cL_screw 27 = .ok (.ireturn, 1) := by decide +kernel
theorem dL_screw_28 : decode cL_screw 28 = .ok (.astore 4, 2) := by decide +kernel
theorem dL_screw_30 : decode cL_screw 30 = .ok (.iconst 3, 1) := by decide +kernel
theorem dL_screw_31 : decode cL_screw 31 = .ok (.ireturn, 1) := by decide +kernel
theorem dL_screw_32 : decode cL_screw 32 = .ok (.iconst 0, 1) := by decide +kernel
theorem dL_screw_33 : decode cL_screw 33 = .ok (.ireturn, 1) := by decide +kernel
theorem dL_unscrew_0 : decode cL_unscrew 0 = .ok (.aload_n 2, 1) := by decide +kernel
theorem dL_unscrew_1 : decode cL_unscrew 1 = .ok (.iconst 0, 1) := by decide +kernel
theorem dL_unscrew_2 : decode cL_unscrew 2 = .ok (.aload_n 0, 1) := by decide +kernel
theorem dL_unscrew_3 : decode cL_unscrew 3 = .ok (.iload_n 1, 1) := by decide +kernel
theorem dL_unscrew_4 : decode cL_unscrew 4 = .ok (.invokevirtual 45, 3) := by decide +kernel
theorem dL_unscrew_7 : decode cL_unscrew 7 = .ok (.i2l, 1) := by decide +kernel
theorem dL_unscrew_8 : decode cL_unscrew 8 = .ok (.lastore, 1) := by decide +kernel
theorem dL_unscrew_9 : decode cL_unscrew 9 = .ok (.goto 9, 3) := by decide +kernel
theorem dL_unscrew_12 : decode cL_unscrew 12 = .ok (.astore_n 3, 1) := by decide +kernel
theorem dL_unscrew_13 : decode cL_unscrew 13 = .ok (.iconst 1, 1) := by decide +kernel
theorem dL_unscrew_14 : decode cL_unscrew 14 = .ok (.ireturn, 1) := by decide +kernel
theorem dL_unscrew_15 : decode cL_unscrew 15 = .ok (.astore_n 3, 1) := by decide +kernel
theorem dL_unscrew_16 : decode cL_unscrew 16 = .ok (.iconst 2, 1) := by decide +kernel
theorem dL_unscrew_17 : decode cL_unscrew 17 = .ok (.ireturn, 1) := by decide +kernel
theorem dL_unscrew_18 : decode cL_unscrew 18 = .ok (.iconst 0, 1) := by decide +kernel
theorem dL_unscrew_19 : decode cL_unscrew 19 = .ok (.ireturn, 1) := by decide +kernel
theorem dL_label_0 : decode cL_label 0 = .ok (.aload_n 2, 1) := by decide +kernel
theorem dL_label_1 : decode cL_label 1 = .ok (.iconst 0, 1) := by decide +kernel
theorem dL_label_2 : decode cL_label 2 = .ok (.aload_n 0, 1) := by decide +kernel
theorem dL_label_3 : decode cL_label 3 = .ok (.iload_n 1, 1) := by decide +kernel
theorem dL_label_4 : decode cL_label 4 = .ok (.invokevirtual 48, 3) := by decide +kernel
theorem dL_label_7 : decode cL_label 7 = .ok (.i2l, 1) := by decide +kernel
theorem dL_label_8 : decode cL_label 8 = .ok (.lastore, 1) := by decide +kernel
theorem dL_label_9 : decode cL_label 9 = .ok (.goto 9, 3) := by decide +kernel
theorem dL_label_12 : decode cL_label 12 = .ok (.astore_n 3, 1) := by decide +kernel
theorem dL_label_13 : decode cL_label 13 = .ok (.iconst 1, 1) := by decide +kernel
theorem dL_label_14 : decode cL_label 14 = .ok (.ireturn, 1) := by decide +kernel
theorem dL_label_15 : decode cL_label 15 = .ok (.astore_n 3, 1) := by decide +kernel
theorem dL_label_16 : decode cL_label 16 = .ok (.iconst 2, 1) := by decide +kernel
theorem dL_label_17 : decode cL_label 17 = .ok (.ireturn, 1) := by decide +kernel
theorem dL_label_18 : decode cL_label 18 = .ok (.iconst 0, 1) := by decide +kernel
theorem dL_label_19 : decode cL_label 19 = .ok (.ireturn, 1) := by decide +kernel
theorem dL_labelled_0 : decode cL_labelled 0 = .ok (.aload_n 3, 1) := by decide +kernel
theorem dL_labelled_1 : decode cL_labelled 1 = .ok (.iconst 0, 1) := by decide +kernel
theorem dL_labelled_2 : decode cL_labelled 2 = .ok (.aload_n 0, 1) := by decide +kernel
theorem dL_labelled_3 : decode cL_labelled 3 = .ok (.iload_n 1, 1) := by decide +kernel
theorem dL_labelled_4 : decode cL_labelled 4 = .ok (.iload_n 2, 1) := by decide +kernel
theorem dL_labelled_5 : decode cL_labelled 5 = .ok (.invokevirtual 51, 3) := by decide +kernel
theorem dL_labelled_8 : decode cL_labelled 8 = .ok (.i2l, 1) := by decide +kernel
theorem dL_labelled_9 : decode cL_labelled 9 = .ok (.lastore, 1) := by decide +kernel
theorem dL_labelled_10 : decode cL_labelled 10 = .ok (.goto 11, 3) := by decide +kernel
theorem dL_labelled_13 : decode cL_labelled 13 = .ok (.astore 4, 2) := by decide +kernel
theorem dL_labelled_15 : decode cL_labelled 15 = .ok (.iconst 1, 1) := by decide +kernel
theorem dL_labelled_16 : decode cL_labelled 16 = .ok (.ireturn, 1) := by decide +kernel
theorem dL_labelled_17 : decode cL_labelled 17 = .ok (.astore 4, 2) := by decide +kernel
theorem dL_labelled_19 : decode cL_labelled 19 = .ok (.iconst 2, 1) := by decide +kernel
theorem dL_labelled_20 : decode cL_labelled 20 = .ok (.ireturn, 1) := by decide +kernel
theorem dL_labelled_21 : decode cL_labelled 21 = .ok (.iconst 0, 1) := by decide +kernel
theorem dL_labelled_22 : decode cL_labelled 22 = .ok (.ireturn, 1) := by decide +kernel
theorem dL_chest_0 : decode cL_chest 0 = .ok (.aload_n 3, 1) := by decide +kernel
theorem dL_chest_1 : decode cL_chest 1 = .ok (.iconst 0, 1) := by decide +kernel
theorem dL_chest_2 : decode cL_chest 2 = .ok (.aload_n 0, 1) := by decide +kernel
theorem dL_chest_3 : decode cL_chest 3 = .ok (.iload_n 1, 1) := by decide +kernel
theorem dL_chest_4 : decode cL_chest 4 = .ok (.iload_n 2, 1) := by decide +kernel
theorem dL_chest_5 : decode cL_chest 5 = .ok (.invokevirtual 57, 3) := by decide +kernel
theorem dL_chest_8 : decode cL_chest 8 = .ok (.i2l, 1) := by decide +kernel
theorem dL_chest_9 : decode cL_chest 9 = .ok (.lastore, 1) := by decide +kernel
theorem dL_chest_10 : decode cL_chest 10 = .ok (.goto 11, 3) := by decide +kernel
theorem dL_chest_13 : decode cL_chest 13 = .ok (.astore 4, 2) := by decide +kernel
theorem dL_chest_15 : decode cL_chest 15 = .ok (.iconst 1, 1) := by decide +kernel
theorem dL_chest_16 : decode cL_chest 16 = .ok (.ireturn, 1) := by decide +kernel
theorem dL_chest_17 : decode cL_chest 17 = .ok (.astore 4, 2) := by decide +kernel
theorem dL_chest_19 : decode cL_chest 19 = .ok (.iconst 2, 1) := by decide +kernel
theorem dL_chest_20 : decode cL_chest 20 = .ok (.ireturn, 1) := by decide +kernel
theorem dL_chest_21 : decode cL_chest 21 = .ok (.iconst 0, 1) := by decide +kernel
theorem dL_chest_22 : decode cL_chest 22 = .ok (.ireturn, 1) := by decide +kernel
theorem dL_worth_0 : decode cL_worth 0 = .ok (.aload_n 2, 1) := by decide +kernel
theorem dL_worth_1 : decode cL_worth 1 = .ok (.iconst 0, 1) := by decide +kernel
theorem dL_worth_2 : decode cL_worth 2 = .ok (.aload_n 0, 1) := by decide +kernel
theorem dL_worth_3 : decode cL_worth 3 = .ok (.iload_n 1, 1) := by decide +kernel
theorem dL_worth_4 : decode cL_worth 4 = .ok (.invokevirtual 60, 3) := by decide +kernel
theorem dL_worth_7 : decode cL_worth 7 = .ok (.i2l, 1) := by decide +kernel
theorem dL_worth_8 : decode cL_worth 8 = .ok (.lastore, 1) := by decide +kernel
theorem dL_worth_9 : decode cL_worth 9 = .ok (.goto 6, 3) := by decide +kernel
theorem dL_worth_12 : decode cL_worth 12 = .ok (.astore_n 3, 1) := by decide +kernel
theorem dL_worth_13 : decode cL_worth 13 = .ok (.iconst 1, 1) := by decide +kernel
theorem dL_worth_14 : decode cL_worth 14 = .ok (.ireturn, 1) := by decide +kernel
theorem dL_worth_15 : decode cL_worth 15 = .ok (.iconst 0, 1) := by decide +kernel
theorem dL_worth_16 : decode cL_worth 16 = .ok (.ireturn, 1) := by decide +kernel
theorem dL_ranked_0 : decode cL_ranked 0 = .ok (.aload_n 2, 1) := by decide +kernel
theorem dL_ranked_1 : decode cL_ranked 1 = .ok (.iconst 0, 1) := by decide +kernel
theorem dL_ranked_2 : decode cL_ranked 2 = .ok (.aload_n 0, 1) := by decide +kernel
theorem dL_ranked_3 : decode cL_ranked 3 = .ok (.iload_n 1, 1) := by decide +kernel
theorem dL_ranked_4 : decode cL_ranked 4 = .ok (.invokevirtual 63, 3) := by decide +kernel
theorem dL_ranked_7 : decode cL_ranked 7 = .ok (.i2l, 1) := by decide +kernel
theorem dL_ranked_8 : decode cL_ranked 8 = .ok (.lastore, 1) := by decide +kernel
theorem dL_ranked_9 : decode cL_ranked 9 = .ok (.goto 6, 3) := by decide +kernel
theorem dL_ranked_12 : decode cL_ranked 12 = .ok (.astore_n 3, 1) := by decide +kernel
theorem dL_ranked_13 : decode cL_ranked 13 = .ok (.iconst 1, 1) := by decide +kernel
theorem dL_ranked_14 : decode cL_ranked 14 = .ok (.ireturn, 1) := by decide +kernel
theorem dL_ranked_15 : decode cL_ranked 15 = .ok (.iconst 0, 1) := by decide +kernel
theorem dL_ranked_16 : decode cL_ranked 16 = .ok (.ireturn, 1) := by decide +kernel
theorem dL_toQuay_0 : decode cL_toQuay 0 = .ok (.aload_n 2, 1) := by decide +kernel
theorem dL_toQuay_1 : decode cL_toQuay 1 = .ok (.iconst 0, 1) := by decide +kernel
theorem dL_toQuay_2 : decode cL_toQuay 2 = .ok (.aload_n 0, 1) := by decide +kernel
theorem dL_toQuay_3 : decode cL_toQuay 3 = .ok (.iload_n 1, 1) := by decide +kernel
theorem dL_toQuay_4 : decode cL_toQuay 4 = .ok (.invokevirtual 66, 3) := by decide +kernel
theorem dL_toQuay_7 : decode cL_toQuay 7 = .ok (.i2l, 1) := by decide +kernel
theorem dL_toQuay_8 : decode cL_toQuay 8 = .ok (.lastore, 1) := by decide +kernel
theorem dL_toQuay_9 : decode cL_toQuay 9 = .ok (.goto 9, 3) := by decide +kernel
theorem dL_toQuay_12 : decode cL_toQuay 12 = .ok (.astore_n 3, 1) := by decide +kernel
theorem dL_toQuay_13 : decode cL_toQuay 13 = .ok (.iconst 1, 1) := by decide +kernel
theorem dL_toQuay_14 : decode cL_toQuay 14 = .ok (.ireturn, 1) := by decide +kernel
theorem dL_toQuay_15 : decode cL_toQuay 15 = .ok (.astore_n 3, 1) := by decide +kernel
theorem dL_toQuay_16 : decode cL_toQuay 16 = .ok (.iconst 2, 1) := by decide +kernel
theorem dL_toQuay_17 : decode cL_toQuay 17 = .ok (.ireturn, 1) := by decide +kernel
theorem dL_toQuay_18 : decode cL_toQuay 18 = .ok (.iconst 0, 1) := by decide +kernel
theorem dL_toQuay_19 : decode cL_toQuay 19 = .ok (.ireturn, 1) := by decide +kernel
theorem dL_load_0 : decode cL_load 0 = .ok (.aload_n 2, 1) := by decide +kernel
theorem dL_load_1 : decode cL_load 1 = .ok (.iconst 0, 1) := by decide +kernel
theorem dL_load_2 : decode cL_load 2 = .ok (.aload_n 0, 1) := by decide +kernel
theorem dL_load_3 : decode cL_load 3 = .ok (.iload_n 1, 1) := by decide +kernel
theorem dL_load_4 : decode cL_load 4 = .ok (.invokevirtual 69, 3) := by decide +kernel
theorem dL_load_7 : decode cL_load 7 = .ok (.i2l, 1) := by decide +kernel
theorem dL_load_8 : decode cL_load 8 = .ok (.lastore, 1) := by decide +kernel
theorem dL_load_9 : decode cL_load 9 = .ok (.goto 9, 3) := by decide +kernel
theorem dL_load_12 : decode cL_load 12 = .ok (.astore_n 3, 1) := by decide +kernel
theorem dL_load_13 : decode cL_load 13 = .ok (.iconst 1, 1) := by decide +kernel
theorem dL_load_14 : decode cL_load 14 = .ok (.ireturn, 1) := by decide +kernel
theorem dL_load_15 : decode cL_load 15 = .ok (.astore_n 3, 1) := by decide +kernel
theorem dL_load_16 : decode cL_load 16 = .ok (.iconst 2, 1) := by decide +kernel
theorem dL_load_17 : decode cL_load 17 = .ok (.ireturn, 1) := by decide +kernel
theorem dL_load_18 : decode cL_load 18 = .ok (.iconst 0, 1) := by decide +kernel
theorem dL_load_19 : decode cL_load 19 = .ok (.ireturn, 1) := by decide +kernel
theorem dL_sail_0 : decode cL_sail 0 = .ok (.aload_n 1, 1) := by decide +kernel
theorem dL_sail_1 : decode cL_sail 1 = .ok (.iconst 0, 1) := by decide +kernel
theorem dL_sail_2 : decode cL_sail 2 = .ok (.aload_n 0, 1) := by decide +kernel
theorem dL_sail_3 : decode cL_sail 3 = .ok (.invokevirtual 72, 3) := by decide +kernel
theorem dL_sail_6 : decode cL_sail 6 = .ok (.i2l, 1) := by decide +kernel
theorem dL_sail_7 : decode cL_sail 7 = .ok (.lastore, 1) := by decide +kernel
theorem dL_sail_8 : decode cL_sail 8 = .ok (.goto 6, 3) := by decide +kernel
theorem dL_sail_11 : decode cL_sail 11 = .ok (.astore_n 2, 1) := by decide +kernel
theorem dL_sail_12 : decode cL_sail 12 = .ok (.iconst 1, 1) := by decide +kernel
theorem dL_sail_13 : decode cL_sail 13 = .ok (.ireturn, 1) := by decide +kernel
theorem dL_sail_14 : decode cL_sail 14 = .ok (.iconst 0, 1) := by decide +kernel
theorem dL_sail_15 : decode cL_sail 15 = .ok (.ireturn, 1) := by decide +kernel
theorem dL_height_0 : decode cL_height 0 = .ok (.aload_n 2, 1) := by decide +kernel
theorem dL_height_1 : decode cL_height 1 = .ok (.iconst 0, 1) := by decide +kernel
theorem dL_height_2 : decode cL_height 2 = .ok (.aload_n 0, 1) := by decide +kernel
theorem dL_height_3 : decode cL_height 3 = .ok (.iload_n 1, 1) := by decide +kernel
theorem dL_height_4 : decode cL_height 4 = .ok (.invokevirtual 76, 3) := by decide +kernel
theorem dL_height_7 : decode cL_height 7 = .ok (.i2l, 1) := by decide +kernel
theorem dL_height_8 : decode cL_height 8 = .ok (.lastore, 1) := by decide +kernel
theorem dL_height_9 : decode cL_height 9 = .ok (.goto 6, 3) := by decide +kernel
theorem dL_height_12 : decode cL_height 12 = .ok (.astore_n 3, 1) := by decide +kernel
theorem dL_height_13 : decode cL_height 13 = .ok (.iconst 1, 1) := by decide +kernel
theorem dL_height_14 : decode cL_height 14 = .ok (.ireturn, 1) := by decide +kernel
theorem dL_height_15 : decode cL_height 15 = .ok (.iconst 0, 1) := by decide +kernel
theorem dL_height_16 : decode cL_height 16 = .ok (.ireturn, 1) := by decide +kernel
theorem dL_heightAgain_0 : decode cL_heightAgain 0 = .ok (.aload_n 2, 1) := by decide +kernel
theorem dL_heightAgain_1 : decode cL_heightAgain 1 = .ok (.iconst 0, 1) := by decide +kernel
theorem dL_heightAgain_2 : decode cL_heightAgain 2 = .ok (.aload_n 0, 1) := by decide +kernel
theorem dL_heightAgain_3 : decode cL_heightAgain 3 = .ok (.iload_n 1, 1) := by decide +kernel
theorem dL_heightAgain_4 : decode cL_heightAgain 4 = .ok (.invokevirtual 79, 3) := by decide +kernel
theorem dL_heightAgain_7 : decode cL_heightAgain 7 = .ok (.i2l, 1) := by decide +kernel
theorem dL_heightAgain_8 : decode cL_heightAgain 8 = .ok (.lastore, 1) := by decide +kernel
theorem dL_heightAgain_9 : decode cL_heightAgain 9 = .ok (.goto 6, 3) := by decide +kernel
theorem dL_heightAgain_12 : decode cL_heightAgain 12 = .ok (.astore_n 3, 1) := by decide +kernel
theorem dL_heightAgain_13 : decode cL_heightAgain 13 = .ok (.iconst 1, 1) := by decide +kernel
theorem dL_heightAgain_14 : decode cL_heightAgain 14 = .ok (.ireturn, 1) := by decide +kernel
theorem dL_heightAgain_15 : decode cL_heightAgain 15 = .ok (.iconst 0, 1) := by decide +kernel
theorem dL_heightAgain_16 : decode cL_heightAgain 16 = .ok (.ireturn, 1) := by decide +kernel
theorem dL_setHumidity_0 : decode cL_setHumidity 0 = .ok (.aload_n 2, 1) := by decide +kernel
theorem dL_setHumidity_1 : decode cL_setHumidity 1 = .ok (.iconst 0, 1) := by decide +kernel
theorem dL_setHumidity_2 : decode cL_setHumidity 2 = .ok (.aload_n 0, 1) := by decide +kernel
theorem dL_setHumidity_3 : decode cL_setHumidity 3 = .ok (.iload_n 1, 1) := by decide +kernel
theorem dL_setHumidity_4 : decode cL_setHumidity 4 = .ok (.invokevirtual 82, 3) := by decide +kernel
theorem dL_setHumidity_7 : decode cL_setHumidity 7 = .ok (.i2l, 1) := by decide +kernel
theorem dL_setHumidity_8 : decode cL_setHumidity 8 = .ok (.lastore, 1) := by decide +kernel
theorem dL_setHumidity_9 : decode cL_setHumidity 9 = .ok (.goto 6, 3) := by decide +kernel
theorem dL_setHumidity_12 : decode cL_setHumidity 12 = .ok (.astore_n 3, 1) := by decide +kernel
theorem dL_setHumidity_13 : decode cL_setHumidity 13 = .ok (.iconst 1, 1) := by decide +kernel
theorem dL_setHumidity_14 : decode cL_setHumidity 14 = .ok (.ireturn, 1) := by decide +kernel
theorem dL_setHumidity_15 : decode cL_setHumidity 15 = .ok (.iconst 0, 1) := by decide +kernel
theorem dL_setHumidity_16 : decode cL_setHumidity 16 = .ok (.ireturn, 1) := by decide +kernel
theorem dL_pass_0 : decode cL_pass 0 = .ok (.aload_n 2, 1) := by decide +kernel
theorem dL_pass_1 : decode cL_pass 1 = .ok (.iconst 0, 1) := by decide +kernel
theorem dL_pass_2 : decode cL_pass 2 = .ok (.aload_n 0, 1) := by decide +kernel
theorem dL_pass_3 : decode cL_pass 3 = .ok (.iload_n 1, 1) := by decide +kernel
theorem dL_pass_4 : decode cL_pass 4 = .ok (.invokevirtual 85, 3) := by decide +kernel
theorem dL_pass_7 : decode cL_pass 7 = .ok (.i2l, 1) := by decide +kernel
theorem dL_pass_8 : decode cL_pass 8 = .ok (.lastore, 1) := by decide +kernel
theorem dL_pass_9 : decode cL_pass 9 = .ok (.goto 6, 3) := by decide +kernel
theorem dL_pass_12 : decode cL_pass 12 = .ok (.astore_n 3, 1) := by decide +kernel
theorem dL_pass_13 : decode cL_pass 13 = .ok (.iconst 1, 1) := by decide +kernel
theorem dL_pass_14 : decode cL_pass 14 = .ok (.ireturn, 1) := by decide +kernel
theorem dL_pass_15 : decode cL_pass 15 = .ok (.iconst 0, 1) := by decide +kernel
theorem dL_pass_16 : decode cL_pass 16 = .ok (.ireturn, 1) := by decide +kernel
theorem dL_meanDamp_0 : decode cL_meanDamp 0 = .ok (.aload_n 1, 1) := by decide +kernel
theorem dL_meanDamp_1 : decode cL_meanDamp 1 = .ok (.iconst 0, 1) := by decide +kernel
theorem dL_meanDamp_2 : decode cL_meanDamp 2 = .ok (.aload_n 0, 1) := by decide +kernel
theorem dL_meanDamp_3 : decode cL_meanDamp 3 = .ok (.invokevirtual 88, 3) := by decide +kernel
theorem dL_meanDamp_6 : decode cL_meanDamp 6 = .ok (.dastore, 1) := by decide +kernel
theorem dL_meanDamp_7 : decode cL_meanDamp 7 = .ok (.goto 6, 3) := by decide +kernel
theorem dL_meanDamp_10 : decode cL_meanDamp 10 = .ok (.astore_n 2, 1) := by decide +kernel
theorem dL_meanDamp_11 : decode cL_meanDamp 11 = .ok (.iconst 1, 1) := by decide +kernel
theorem dL_meanDamp_12 : decode cL_meanDamp 12 = .ok (.ireturn, 1) := by decide +kernel
theorem dL_meanDamp_13 : decode cL_meanDamp 13 = .ok (.iconst 0, 1) := by decide +kernel
theorem dL_meanDamp_14 : decode cL_meanDamp 14 = .ok (.ireturn, 1) := by decide +kernel
theorem dL_sailedShare_0 : decode cL_sailedShare 0 = .ok (.aload_n 1, 1) := by decide +kernel
theorem dL_sailedShare_1 : decode cL_sailedShare 1 = .ok (.iconst 0, 1) := by decide +kernel
theorem dL_sailedShare_2 : decode cL_sailedShare 2 = .ok (.aload_n 0, 1) := by decide +kernel
theorem dL_sailedShare_3 : decode cL_sailedShare 3 = .ok (.invokevirtual 94, 3) := by decide +kernel
theorem dL_sailedShare_6 : decode cL_sailedShare 6 = .ok (.f2d, 1) := by decide +kernel
theorem dL_sailedShare_7 : decode cL_sailedShare 7 = .ok (.dastore, 1) := by decide +kernel
theorem dL_sailedShare_8 : decode cL_sailedShare 8 = .ok (.goto 6, 3) := by decide +kernel
theorem dL_sailedShare_11 : decode cL_sailedShare 11 = .ok (.astore_n 2, 1) := by decide +kernel
theorem dL_sailedShare_12 : decode cL_sailedShare 12 = .ok (.iconst 1, 1) := by decide +kernel
theorem dL_sailedShare_13 : decode cL_sailedShare 13 = .ok (.ireturn, 1) := by decide +kernel
theorem dL_sailedShare_14 : decode cL_sailedShare 14 = .ok (.iconst 0, 1) := by decide +kernel
theorem dL_sailedShare_15 : decode cL_sailedShare 15 = .ok (.ireturn, 1) := by decide +kernel
theorem dL_reason_0 : decode cL_reason 0 = .ok (.aload_n 2, 1) := by decide +kernel
theorem dL_reason_1 : decode cL_reason 1 = .ok (.iconst 0, 1) := by decide +kernel
theorem dL_reason_2 : decode cL_reason 2 = .ok (.aload_n 0, 1) := by decide +kernel
theorem dL_reason_3 : decode cL_reason 3 = .ok (.iload_n 1, 1) := by decide +kernel
theorem dL_reason_4 : decode cL_reason 4 = .ok (.invokevirtual 98, 3) := by decide +kernel
theorem dL_reason_7 : decode cL_reason 7 = .ok (.i2l, 1) := by decide +kernel
theorem dL_reason_8 : decode cL_reason 8 = .ok (.lastore, 1) := by decide +kernel
theorem dL_reason_9 : decode cL_reason 9 = .ok (.goto 6, 3) := by decide +kernel
theorem dL_reason_12 : decode cL_reason 12 = .ok (.astore_n 3, 1) := by decide +kernel
theorem dL_reason_13 : decode cL_reason 13 = .ok (.iconst 1, 1) := by decide +kernel
theorem dL_reason_14 : decode cL_reason 14 = .ok (.ireturn, 1) := by decide +kernel
theorem dL_reason_15 : decode cL_reason 15 = .ok (.iconst 0, 1) := by decide +kernel
theorem dL_reason_16 : decode cL_reason 16 = .ok (.ireturn, 1) := by decide +kernel
theorem dL_account_0 : decode cL_account 0 = .ok (.aload_n 2, 1) := by decide +kernel
theorem dL_account_1 : decode cL_account 1 = .ok (.iconst 0, 1) := by decide +kernel
theorem dL_account_2 : decode cL_account 2 = .ok (.aload_n 0, 1) := by decide +kernel
theorem dL_account_3 : decode cL_account 3 = .ok (.iload_n 1, 1) := by decide +kernel
theorem dL_account_4 : decode cL_account 4 = .ok (.invokevirtual 102, 3) := by decide +kernel
theorem dL_account_7 : decode cL_account 7 = .ok (.i2l, 1) := by decide +kernel
theorem dL_account_8 : decode cL_account 8 = .ok (.lastore, 1) := by decide +kernel
theorem dL_account_9 : decode cL_account 9 = .ok (.goto 6, 3) := by decide +kernel
theorem dL_account_12 : decode cL_account 12 = .ok (.astore_n 3, 1) := by decide +kernel
theorem dL_account_13 : decode cL_account 13 = .ok (.iconst 1, 1) := by decide +kernel
theorem dL_account_14 : decode cL_account 14 = .ok (.ireturn, 1) := by decide +kernel
theorem dL_account_15 : decode cL_account 15 = .ok (.iconst 0, 1) := by decide +kernel
theorem dL_account_16 : decode cL_account 16 = .ok (.ireturn, 1) := by decide +kernel
theorem dL_feed_0 : decode cL_feed 0 = .ok (.aload_n 2, 1) := by decide +kernel
theorem dL_feed_1 : decode cL_feed 1 = .ok (.iconst 0, 1) := by decide +kernel
theorem dL_feed_2 : decode cL_feed 2 = .ok (.aload_n 0, 1) := by decide +kernel
theorem dL_feed_3 : decode cL_feed 3 = .ok (.iload_n 1, 1) := by decide +kernel
theorem dL_feed_4 : decode cL_feed 4 = .ok (.invokevirtual 105, 3) := by decide +kernel
theorem dL_feed_7 : decode cL_feed 7 = .ok (.i2l, 1) := by decide +kernel
theorem dL_feed_8 : decode cL_feed 8 = .ok (.lastore, 1) := by decide +kernel
theorem dL_feed_9 : decode cL_feed 9 = .ok (.goto 6, 3) := by decide +kernel
theorem dL_feed_12 : decode cL_feed 12 = .ok (.astore_n 3, 1) := by decide +kernel
theorem dL_feed_13 : decode cL_feed 13 = .ok (.iconst 1, 1) := by decide +kernel
theorem dL_feed_14 : decode cL_feed 14 = .ok (.ireturn, 1) := by decide +kernel
theorem dL_feed_15 : decode cL_feed 15 = .ok (.iconst 0, 1) := by decide +kernel
theorem dL_feed_16 : decode cL_feed 16 = .ok (.ireturn, 1) := by decide +kernel
theorem dL_perform_0 : decode cL_perform 0 = .ok (.aload_n 1, 1) := by decide +kernel
theorem dL_perform_1 : decode cL_perform 1 = .ok (.iconst 0, 1) := by decide +kernel
theorem dL_perform_2 : decode cL_perform 2 = .ok (.aload_n 0, 1) := by decide +kernel
theorem dL_perform_3 : decode cL_perform 3 = .ok (.invokevirtual 111, 3) := by decide +kernel
theorem dL_perform_6 : decode cL_perform 6 = .ok (.i2l, 1) := by decide +kernel
theorem dL_perform_7 : decode cL_perform 7 = .ok (.lastore, 1) := by decide +kernel
theorem dL_perform_8 : decode cL_perform 8 = .ok (.goto 6, 3) := by decide +kernel
theorem dL_perform_11 : decode cL_perform 11 = .ok (.astore_n 2, 1) := by decide +kernel
theorem dL_perform_12 : decode cL_perform 12 = .ok (.iconst 1, 1) := by decide +kernel
theorem dL_perform_13 : decode cL_perform 13 = .ok (.ireturn, 1) := by decide +kernel
theorem dL_perform_14 : decode cL_perform 14 = .ok (.iconst 0, 1) := by decide +kernel
theorem dL_perform_15 : decode cL_perform 15 = .ok (.ireturn, 1) := by decide +kernel
theorem dL_undo_0 : decode cL_undo 0 = .ok (.aload_n 1, 1) := by decide +kernel
theorem dL_undo_1 : decode cL_undo 1 = .ok (.iconst 0, 1) := by decide +kernel
theorem dL_undo_2 : decode cL_undo 2 = .ok (.aload_n 0, 1) := by decide +kernel
theorem dL_undo_3 : decode cL_undo 3 = .ok (.invokevirtual 114, 3) := by decide +kernel
theorem dL_undo_6 : decode cL_undo 6 = .ok (.i2l, 1) := by decide +kernel
theorem dL_undo_7 : decode cL_undo 7 = .ok (.lastore, 1) := by decide +kernel
theorem dL_undo_8 : decode cL_undo 8 = .ok (.goto 6, 3) := by decide +kernel
theorem dL_undo_11 : decode cL_undo 11 = .ok (.astore_n 2, 1) := by decide +kernel
theorem dL_undo_12 : decode cL_undo 12 = .ok (.iconst 1, 1) := by decide +kernel
theorem dL_undo_13 : decode cL_undo 13 = .ok (.ireturn, 1) := by decide +kernel
theorem dL_undo_14 : decode cL_undo 14 = .ok (.iconst 0, 1) := by decide +kernel
theorem dL_undo_15 : decode cL_undo 15 = .ok (.ireturn, 1) := by decide +kernel
theorem dL_restore_0 : decode cL_restore 0 = .ok (.aload_n 1, 1) := by decide +kernel
theorem dL_restore_1 : decode cL_restore 1 = .ok (.iconst 0, 1) := by decide +kernel
theorem dL_restore_2 : decode cL_restore 2 = .ok (.aload_n 0, 1) := by decide +kernel
theorem dL_restore_3 : decode cL_restore 3 = .ok (.invokevirtual 117, 3) := by decide +kernel
theorem dL_restore_6 : decode cL_restore 6 = .ok (.i2l, 1) := by decide +kernel
theorem dL_restore_7 : decode cL_restore 7 = .ok (.lastore, 1) := by decide +kernel
theorem dL_restore_8 : decode cL_restore 8 = .ok (.goto 6, 3) := by decide +kernel
theorem dL_restore_11 : decode cL_restore 11 = .ok (.astore_n 2, 1) := by decide +kernel
theorem dL_restore_12 : decode cL_restore 12 = .ok (.iconst 1, 1) := by decide +kernel
theorem dL_restore_13 : decode cL_restore 13 = .ok (.ireturn, 1) := by decide +kernel
theorem dL_restore_14 : decode cL_restore 14 = .ok (.iconst 0, 1) := by decide +kernel
theorem dL_restore_15 : decode cL_restore 15 = .ok (.ireturn, 1) := by decide +kernel
theorem dL_law_0 : decode cL_law 0 = .ok (.new 8, 3) := by decide +kernel
theorem dL_law_3 : decode cL_law 3 = .ok (.dup, 1) := by decide +kernel
theorem dL_law_4 : decode cL_law 4 = .ok (.invokespecial 120, 3) := by decide +kernel
theorem dL_law_7 : decode cL_law 7 = .ok (.astore_n 1, 1) := by decide +kernel
theorem dL_law_8 : decode cL_law 8 = .ok (.new 121, 3) := by decide +kernel
theorem dL_law_11 : decode cL_law 11 = .ok (.dup, 1) := by decide +kernel
theorem dL_law_12 : decode cL_law 12 = .ok (.invokespecial 123, 3) := by decide +kernel
theorem dL_law_15 : decode cL_law 15 = .ok (.astore_n 2, 1) := by decide +kernel
theorem dL_law_16 : decode cL_law 16 = .ok (.iconst 1, 1) := by decide +kernel
theorem dL_law_17 : decode cL_law 17 = .ok (.newarray .long, 2) := by decide +kernel
theorem dL_law_19 : decode cL_law 19 = .ok (.astore_n 3, 1) := by decide +kernel
theorem dL_law_20 : decode cL_law 20 = .ok (.iconst 1, 1) := by decide +kernel
theorem dL_law_21 : decode cL_law 21 = .ok (.newarray .double, 2) := by decide +kernel
theorem dL_law_23 : decode cL_law 23 = .ok (.astore 4, 2) := by decide +kernel
theorem dL_law_25 : decode cL_law 25 = .ok (.iconst 0, 1) := by decide +kernel
theorem dL_law_26 : decode cL_law 26 = .ok (.istore 5, 2) := by decide +kernel
theorem dL_law_28 : decode cL_law 28 = .ok (.iload 5, 2) := by decide +kernel
theorem dL_law_30 : decode cL_law 30 = .ok (.aload_n 0, 1) := by decide +kernel
theorem dL_law_31 : decode cL_law 31 = .ok (.arraylength, 1) := by decide +kernel
theorem dL_law_32 : decode cL_law 32 = .ok (.iconst 5, 1) := by decide +kernel
theorem dL_law_33 : decode cL_law 33 = .ok (.isub, 1) := by decide +kernel
theorem dL_law_34 : decode cL_law 34 = .ok (.if_icmp .gt 1157, 3) := by decide +kernel
theorem dL_law_37 : decode cL_law 37 = .ok (.aload_n 0, 1) := by decide +kernel
theorem dL_law_38 : decode cL_law 38 = .ok (.iload 5, 2) := by decide +kernel
theorem dL_law_40 : decode cL_law 40 = .ok (.iaload, 1) := by decide +kernel
theorem dL_law_41 : decode cL_law 41 = .ok (.bipush 63, 2) := by decide +kernel
theorem dL_law_43 : decode cL_law 43 = .ok (.iand, 1) := by decide +kernel
theorem dL_law_44 : decode cL_law 44 = .ok (.tableswitch 1141 0 33 #[152, 204, 244, 257, 313, 341, 369, 433, 461, 501, 529, 585, 625, 665, 693, 721, 749, 777, 793, 806, 834, 862, 875, 903, 931, 944, 961, 978, 1022, 1050, 1080, 1096, 1112, 1125], 152) := by decide +kernel
theorem dL_law_196 : decode cL_law 196 = .ok (.aload_n 1, 1) := by decide +kernel
theorem dL_law_197 : decode cL_law 197 = .ok (.aload_n 0, 1) := by decide +kernel
theorem dL_law_198 : decode cL_law 198 = .ok (.iload 5, 2) := by decide +kernel
theorem dL_law_200 : decode cL_law 200 = .ok (.iconst 1, 1) := by decide +kernel
theorem dL_law_201 : decode cL_law 201 = .ok (.iadd, 1) := by decide +kernel
theorem dL_law_202 : decode cL_law 202 = .ok (.iaload, 1) := by decide +kernel
theorem dL_law_203 : decode cL_law 203 = .ok (.aload_n 0, 1) := by decide +kernel
theorem dL_law_204 : decode cL_law 204 = .ok (.iload 5, 2) := by decide +kernel
theorem dL_law_206 : decode cL_law 206 = .ok (.iconst 2, 1) := by decide +kernel
theorem dL_law_207 : decode cL_law 207 = .ok (.iadd, 1) := by decide +kernel
theorem dL_law_208 : decode cL_law 208 = .ok (.iaload, 1) := by decide +kernel
theorem dL_law_209 : decode cL_law 209 = .ok (.aload_n 0, 1) := by decide +kernel
theorem dL_law_210 : decode cL_law 210 = .ok (.iload 5, 2) := by decide +kernel
theorem dL_law_212 : decode cL_law 212 = .ok (.iconst 3, 1) := by decide +kernel
theorem dL_law_213 : decode cL_law 213 = .ok (.iadd, 1) := by decide +kernel
theorem dL_law_214 : decode cL_law 214 = .ok (.iaload, 1) := by decide +kernel
theorem dL_law_215 : decode cL_law 215 = .ok (.aload_n 3, 1) := by decide +kernel
theorem dL_law_216 : decode cL_law 216 = .ok (.invokestatic 124, 3) := by decide +kernel
theorem dL_law_219 : decode cL_law 219 = .ok (.istore 6, 2) := by decide +kernel
theorem dL_law_221 : decode cL_law 221 = .ok (.aload_n 2, 1) := by decide +kernel
theorem dL_law_222 : decode cL_law 222 = .ok (.aload_n 0, 1) := by decide +kernel
theorem dL_law_223 : decode cL_law 223 = .ok (.iload 5, 2) := by decide +kernel
theorem dL_law_225 : decode cL_law 225 = .ok (.iconst 1, 1) := by decide +kernel
theorem dL_law_226 : decode cL_law 226 = .ok (.iadd, 1) := by decide +kernel
theorem dL_law_227 : decode cL_law 227 = .ok (.iaload, 1) := by decide +kernel
theorem dL_law_228 : decode cL_law 228 = .ok (.aload_n 0, 1) := by decide +kernel
theorem dL_law_229 : decode cL_law 229 = .ok (.iload 5, 2) := by decide +kernel
theorem dL_law_231 : decode cL_law 231 = .ok (.iconst 2, 1) := by decide +kernel
theorem dL_law_232 : decode cL_law 232 = .ok (.iadd, 1) := by decide +kernel
theorem dL_law_233 : decode cL_law 233 = .ok (.iaload, 1) := by decide +kernel
theorem dL_law_234 : decode cL_law 234 = .ok (.aload_n 0, 1) := by decide +kernel
theorem dL_law_235 : decode cL_law 235 = .ok (.iload 5, 2) := by decide +kernel
theorem dL_law_237 : decode cL_law 237 = .ok (.iconst 3, 1) := by decide +kernel
theorem dL_law_238 : decode cL_law 238 = .ok (.iadd, 1) := by decide +kernel
theorem dL_law_239 : decode cL_law 239 = .ok (.iaload, 1) := by decide +kernel
theorem dL_law_240 : decode cL_law 240 = .ok (.invokevirtual 129, 3) := by decide +kernel
theorem dL_law_243 : decode cL_law 243 = .ok (.istore 7, 2) := by decide +kernel
theorem dL_law_245 : decode cL_law 245 = .ok (.goto 940, 3) := by decide +kernel
theorem dL_law_248 : decode cL_law 248 = .ok (.aload_n 1, 1) := by decide +kernel
theorem dL_law_249 : decode cL_law 249 = .ok (.aload_n 0, 1) := by decide +kernel
theorem dL_law_250 : decode cL_law 250 = .ok (.iload 5, 2) := by decide +kernel
theorem dL_law_252 : decode cL_law 252 = .ok (.iconst 1, 1) := by decide +kernel
theorem dL_law_253 : decode cL_law 253 = .ok (.iadd, 1) := by decide +kernel
theorem dL_law_254 : decode cL_law 254 = .ok (.iaload, 1) := by decide +kernel
theorem dL_law_255 : decode cL_law 255 = .ok (.aload_n 0, 1) := by decide +kernel
theorem dL_law_256 : decode cL_law 256 = .ok (.iload 5, 2) := by decide +kernel
theorem dL_law_258 : decode cL_law 258 = .ok (.iconst 2, 1) := by decide +kernel
theorem dL_law_259 : decode cL_law 259 = .ok (.iadd, 1) := by decide +kernel
theorem dL_law_260 : decode cL_law 260 = .ok (.iaload, 1) := by decide +kernel
theorem dL_law_261 : decode cL_law 261 = .ok (.aload_n 3, 1) := by decide +kernel
theorem dL_law_262 : decode cL_law 262 = .ok (.invokestatic 130, 3) := by decide +kernel
theorem dL_law_265 : decode cL_law 265 = .ok (.istore 6, 2) := by decide +kernel
theorem dL_law_267 : decode cL_law 267 = .ok (.aload_n 2, 1) := by decide +kernel
theorem dL_law_268 : decode cL_law 268 = .ok (.aload_n 0, 1) := by decide +kernel
theorem dL_law_269 : decode cL_law 269 = .ok (.iload 5, 2) := by decide +kernel
theorem dL_law_271 : decode cL_law 271 = .ok (.iconst 1, 1) := by decide +kernel
theorem dL_law_272 : decode cL_law 272 = .ok (.iadd, 1) := by decide +kernel
theorem dL_law_273 : decode cL_law 273 = .ok (.iaload, 1) := by decide +kernel
theorem dL_law_274 : decode cL_law 274 = .ok (.aload_n 0, 1) := by decide +kernel
theorem dL_law_275 : decode cL_law 275 = .ok (.iload 5, 2) := by decide +kernel
theorem dL_law_277 : decode cL_law 277 = .ok (.iconst 2, 1) := by decide +kernel
theorem dL_law_278 : decode cL_law 278 = .ok (.iadd, 1) := by decide +kernel
theorem dL_law_279 : decode cL_law 279 = .ok (.iaload, 1) := by decide +kernel
theorem dL_law_280 : decode cL_law 280 = .ok (.invokevirtual 133, 3) := by decide +kernel
theorem dL_law_283 : decode cL_law 283 = .ok (.istore 7, 2) := by decide +kernel
theorem dL_law_285 : decode cL_law 285 = .ok (.goto 900, 3) := by decide +kernel
theorem dL_law_288 : decode cL_law 288 = .ok (.aload_n 1, 1) := by decide +kernel
theorem dL_law_289 : decode cL_law 289 = .ok (.invokevirtual 134, 3) := by decide +kernel
theorem dL_law_292 : decode cL_law 292 = .ok (.pop, 1) := by decide +kernel
theorem dL_law_293 : decode cL_law 293 = .ok (.aload_n 2, 1) := by decide +kernel
theorem dL_law_294 : decode cL_law 294 = .ok (.invokevirtual 137, 3) := by decide +kernel
theorem dL_law_297 : decode cL_law 297 = .ok (.pop, 1) := by decide +kernel
theorem dL_law_298 : decode cL_law 298 = .ok (.goto 887, 3) := by decide +kernel
theorem dL_law_301 : decode cL_law 301 = .ok (.aload_n 1, 1) := by decide +kernel
theorem dL_law_302 : decode cL_law 302 = .ok (.aload_n 0, 1) := by decide +kernel
theorem dL_law_303 : decode cL_law 303 = .ok (.iload 5, 2) := by decide +kernel
theorem dL_law_305 : decode cL_law 305 = .ok (.iconst 1, 1) := by decide +kernel
theorem dL_law_306 : decode cL_law 306 = .ok (.iadd, 1) := by decide +kernel
theorem dL_law_307 : decode cL_law 307 = .ok (.iaload, 1) := by decide +kernel
theorem dL_law_308 : decode cL_law 308 = .ok (.ifCond .eq 7, 3) := by decide +kernel
theorem dL_law_311 : decode cL_law 311 = .ok (.iconst 1, 1) := by decide +kernel
theorem dL_law_312 : decode cL_law 312 = .ok (.goto 4, 3) := by decide +kernel
theorem dL_law_315 : decode cL_law 315 = .ok (.iconst 0, 1) := by decide +kernel
theorem dL_law_316 : decode cL_law 316 = .ok (.aload_n 0, 1) := by decide +kernel
theorem dL_law_317 : decode cL_law 317 = .ok (.iload 5, 2) := by decide +kernel
theorem dL_law_319 : decode cL_law 319 = .ok (.iconst 2, 1) := by decide +kernel
theorem dL_law_320 : decode cL_law 320 = .ok (.iadd, 1) := by decide +kernel
theorem dL_law_321 : decode cL_law 321 = .ok (.iaload, 1) := by decide +kernel
theorem dL_law_322 : decode cL_law 322 = .ok (.aload_n 3, 1) := by decide +kernel
theorem dL_law_323 : decode cL_law 323 = .ok (.invokestatic 138, 3) := by decide +kernel
theorem dL_law_326 : decode cL_law 326 = .ok (.istore 6, 2) := by decide +kernel
theorem dL_law_328 : decode cL_law 328 = .ok (.aload_n 2, 1) := by decide +kernel
theorem dL_law_329 : decode cL_law 329 = .ok (.aload_n 0, 1) := by decide +kernel
theorem dL_law_330 : decode cL_law 330 = .ok (.iload 5, 2) := by decide +kernel
theorem dL_law_332 : decode cL_law 332 = .ok (.iconst 1, 1) := by decide +kernel
theorem dL_law_333 : decode cL_law 333 = .ok (.iadd, 1) := by decide +kernel
theorem dL_law_334 : decode cL_law 334 = .ok (.iaload, 1) := by decide +kernel
theorem dL_law_335 : decode cL_law 335 = .ok (.ifCond .eq 7, 3) := by decide +kernel
theorem dL_law_338 : decode cL_law 338 = .ok (.iconst 1, 1) := by decide +kernel
theorem dL_law_339 : decode cL_law 339 = .ok (.goto 4, 3) := by decide +kernel
theorem dL_law_342 : decode cL_law 342 = .ok (.iconst 0, 1) := by decide +kernel
theorem dL_law_343 : decode cL_law 343 = .ok (.aload_n 0, 1) := by decide +kernel
theorem dL_law_344 : decode cL_law 344 = .ok (.iload 5, 2) := by decide +kernel
theorem dL_law_346 : decode cL_law 346 = .ok (.iconst 2, 1) := by decide +kernel
theorem dL_law_347 : decode cL_law 347 = .ok (.iadd, 1) := by decide +kernel
theorem dL_law_348 : decode cL_law 348 = .ok (.iaload, 1) := by decide +kernel
theorem dL_law_349 : decode cL_law 349 = .ok (.invokevirtual 141, 3) := by decide +kernel
theorem dL_law_352 : decode cL_law 352 = .ok (.istore 7, 2) := by decide +kernel
theorem dL_law_354 : decode cL_law 354 = .ok (.goto 831, 3) := by decide +kernel
theorem dL_law_357 : decode cL_law 357 = .ok (.aload_n 1, 1) := by decide +kernel
theorem dL_law_358 : decode cL_law 358 = .ok (.aload_n 0, 1) := by decide +kernel
theorem dL_law_359 : decode cL_law 359 = .ok (.iload 5, 2) := by decide +kernel
theorem dL_law_361 : decode cL_law 361 = .ok (.iconst 1, 1) := by decide +kernel
theorem dL_law_362 : decode cL_law 362 = .ok (.iadd, 1) := by decide +kernel
theorem dL_law_363 : decode cL_law 363 = .ok (.iaload, 1) := by decide +kernel
theorem dL_law_364 : decode cL_law 364 = .ok (.aload_n 3, 1) := by decide +kernel
theorem dL_law_365 : decode cL_law 365 = .ok (.invokestatic 142, 3) := by decide +kernel
theorem dL_law_368 : decode cL_law 368 = .ok (.istore 6, 2) := by decide +kernel
theorem dL_law_370 : decode cL_law 370 = .ok (.aload_n 2, 1) := by decide +kernel
theorem dL_law_371 : decode cL_law 371 = .ok (.aload_n 0, 1) := by decide +kernel
theorem dL_law_372 : decode cL_law 372 = .ok (.iload 5, 2) := by decide +kernel
theorem dL_law_374 : decode cL_law 374 = .ok (.iconst 1, 1) := by decide +kernel
theorem dL_law_375 : decode cL_law 375 = .ok (.iadd, 1) := by decide +kernel
theorem dL_law_376 : decode cL_law 376 = .ok (.iaload, 1) := by decide +kernel
theorem dL_law_377 : decode cL_law 377 = .ok (.invokevirtual 145, 3) := by decide +kernel
theorem dL_law_380 : decode cL_law 380 = .ok (.istore 7, 2) := by decide +kernel
theorem dL_law_382 : decode cL_law 382 = .ok (.goto 803, 3) := by decide +kernel
theorem dL_law_385 : decode cL_law 385 = .ok (.aload_n 1, 1) := by decide +kernel
theorem dL_law_386 : decode cL_law 386 = .ok (.aload_n 0, 1) := by decide +kernel
theorem dL_law_387 : decode cL_law 387 = .ok (.iload 5, 2) := by decide +kernel
theorem dL_law_389 : decode cL_law 389 = .ok (.iconst 1, 1) := by decide +kernel
theorem dL_law_390 : decode cL_law 390 = .ok (.iadd, 1) := by decide +kernel
theorem dL_law_391 : decode cL_law 391 = .ok (.iaload, 1) := by decide +kernel
theorem dL_law_392 : decode cL_law 392 = .ok (.aload_n 3, 1) := by decide +kernel
theorem dL_law_393 : decode cL_law 393 = .ok (.invokestatic 146, 3) := by decide +kernel
theorem dL_law_396 : decode cL_law 396 = .ok (.istore 6, 2) := by decide +kernel
theorem dL_law_398 : decode cL_law 398 = .ok (.aload_n 2, 1) := by decide +kernel
theorem dL_law_399 : decode cL_law 399 = .ok (.aload_n 0, 1) := by decide +kernel
theorem dL_law_400 : decode cL_law 400 = .ok (.iload 5, 2) := by decide +kernel
theorem dL_law_402 : decode cL_law 402 = .ok (.iconst 1, 1) := by decide +kernel
theorem dL_law_403 : decode cL_law 403 = .ok (.iadd, 1) := by decide +kernel
theorem dL_law_404 : decode cL_law 404 = .ok (.iaload, 1) := by decide +kernel
theorem dL_law_405 : decode cL_law 405 = .ok (.invokevirtual 148, 3) := by decide +kernel
theorem dL_law_408 : decode cL_law 408 = .ok (.istore 7, 2) := by decide +kernel
theorem dL_law_410 : decode cL_law 410 = .ok (.goto 775, 3) := by decide +kernel
theorem dL_law_413 : decode cL_law 413 = .ok (.aload_n 1, 1) := by decide +kernel
theorem dL_law_414 : decode cL_law 414 = .ok (.aload_n 0, 1) := by decide +kernel
theorem dL_law_415 : decode cL_law 415 = .ok (.iload 5, 2) := by decide +kernel
theorem dL_law_417 : decode cL_law 417 = .ok (.iconst 1, 1) := by decide +kernel
theorem dL_law_418 : decode cL_law 418 = .ok (.iadd, 1) := by decide +kernel
theorem dL_law_419 : decode cL_law 419 = .ok (.iaload, 1) := by decide +kernel
theorem dL_law_420 : decode cL_law 420 = .ok (.aload_n 0, 1) := by decide +kernel
theorem dL_law_421 : decode cL_law 421 = .ok (.iload 5, 2) := by decide +kernel
theorem dL_law_423 : decode cL_law 423 = .ok (.iconst 2, 1) := by decide +kernel
theorem dL_law_424 : decode cL_law 424 = .ok (.iadd, 1) := by decide +kernel
theorem dL_law_425 : decode cL_law 425 = .ok (.iaload, 1) := by decide +kernel
theorem dL_law_426 : decode cL_law 426 = .ok (.aload_n 0, 1) := by decide +kernel
theorem dL_law_427 : decode cL_law 427 = .ok (.iload 5, 2) := by decide +kernel
theorem dL_law_429 : decode cL_law 429 = .ok (.iconst 3, 1) := by decide +kernel
theorem dL_law_430 : decode cL_law 430 = .ok (.iadd, 1) := by decide +kernel
theorem dL_law_431 : decode cL_law 431 = .ok (.iaload, 1) := by decide +kernel
theorem dL_law_432 : decode cL_law 432 = .ok (.aload_n 0, 1) := by decide +kernel
theorem dL_law_433 : decode cL_law 433 = .ok (.iload 5, 2) := by decide +kernel
theorem dL_law_435 : decode cL_law 435 = .ok (.iconst 4, 1) := by decide +kernel
theorem dL_law_436 : decode cL_law 436 = .ok (.iadd, 1) := by decide +kernel
theorem dL_law_437 : decode cL_law 437 = .ok (.iaload, 1) := by decide +kernel
theorem dL_law_438 : decode cL_law 438 = .ok (.aload_n 3, 1) := by decide +kernel
theorem dL_law_439 : decode cL_law 439 = .ok (.invokestatic 149, 3) := by decide +kernel
theorem dL_law_442 : decode cL_law 442 = .ok (.istore 6, 2) := by decide +kernel
theorem dL_law_444 : decode cL_law 444 = .ok (.aload_n 2, 1) := by decide +kernel
theorem dL_law_445 : decode cL_law 445 = .ok (.aload_n 0, 1) := by decide +kernel
theorem dL_law_446 : decode cL_law 446 = .ok (.iload 5, 2) := by decide +kernel
theorem dL_law_448 : decode cL_law 448 = .ok (.iconst 1, 1) := by decide +kernel
theorem dL_law_449 : decode cL_law 449 = .ok (.iadd, 1) := by decide +kernel
theorem dL_law_450 : decode cL_law 450 = .ok (.iaload, 1) := by decide +kernel
theorem dL_law_451 : decode cL_law 451 = .ok (.aload_n 0, 1) := by decide +kernel
theorem dL_law_452 : decode cL_law 452 = .ok (.iload 5, 2) := by decide +kernel
theorem dL_law_454 : decode cL_law 454 = .ok (.iconst 2, 1) := by decide +kernel
theorem dL_law_455 : decode cL_law 455 = .ok (.iadd, 1) := by decide +kernel
theorem dL_law_456 : decode cL_law 456 = .ok (.iaload, 1) := by decide +kernel
theorem dL_law_457 : decode cL_law 457 = .ok (.aload_n 0, 1) := by decide +kernel
theorem dL_law_458 : decode cL_law 458 = .ok (.iload 5, 2) := by decide +kernel
theorem dL_law_460 : decode cL_law 460 = .ok (.iconst 3, 1) := by decide +kernel
theorem dL_law_461 : decode cL_law 461 = .ok (.iadd, 1) := by decide +kernel
theorem dL_law_462 : decode cL_law 462 = .ok (.iaload, 1) := by decide +kernel
theorem dL_law_463 : decode cL_law 463 = .ok (.aload_n 0, 1) := by decide +kernel
theorem dL_law_464 : decode cL_law 464 = .ok (.iload 5, 2) := by decide +kernel
theorem dL_law_466 : decode cL_law 466 = .ok (.iconst 4, 1) := by decide +kernel
theorem dL_law_467 : decode cL_law 467 = .ok (.iadd, 1) := by decide +kernel
theorem dL_law_468 : decode cL_law 468 = .ok (.iaload, 1) := by decide +kernel
theorem dL_law_469 : decode cL_law 469 = .ok (.invokevirtual 152, 3) := by decide +kernel
theorem dL_law_472 : decode cL_law 472 = .ok (.istore 7, 2) := by decide +kernel
theorem dL_law_474 : decode cL_law 474 = .ok (.goto 711, 3) := by decide +kernel
theorem dL_law_477 : decode cL_law 477 = .ok (.aload_n 1, 1) := by decide +kernel
theorem dL_law_478 : decode cL_law 478 = .ok (.aload_n 0, 1) := by decide +kernel
theorem dL_law_479 : decode cL_law 479 = .ok (.iload 5, 2) := by decide +kernel
theorem dL_law_481 : decode cL_law 481 = .ok (.iconst 1, 1) := by decide +kernel
theorem dL_law_482 : decode cL_law 482 = .ok (.iadd, 1) := by decide +kernel
theorem dL_law_483 : decode cL_law 483 = .ok (.iaload, 1) := by decide +kernel
theorem dL_law_484 : decode cL_law 484 = .ok (.aload_n 3, 1) := by decide +kernel
theorem dL_law_485 : decode cL_law 485 = .ok (.invokestatic 153, 3) := by decide +kernel
theorem dL_law_488 : decode cL_law 488 = .ok (.istore 6, 2) := by decide +kernel
theorem dL_law_490 : decode cL_law 490 = .ok (.aload_n 2, 1) := by decide +kernel
theorem dL_law_491 : decode cL_law 491 = .ok (.aload_n 0, 1) := by decide +kernel
theorem dL_law_492 : decode cL_law 492 = .ok (.iload 5, 2) := by decide +kernel
theorem dL_law_494 : decode cL_law 494 = .ok (.iconst 1, 1) := by decide +kernel
theorem dL_law_495 : decode cL_law 495 = .ok (.iadd, 1) := by decide +kernel
theorem dL_law_496 : decode cL_law 496 = .ok (.iaload, 1) := by decide +kernel
theorem dL_law_497 : decode cL_law 497 = .ok (.invokevirtual 155, 3) := by decide +kernel
theorem dL_law_500 : decode cL_law 500 = .ok (.istore 7, 2) := by decide +kernel
theorem dL_law_502 : decode cL_law 502 = .ok (.goto 683, 3) := by decide +kernel
theorem dL_law_505 : decode cL_law 505 = .ok (.aload_n 1, 1) := by decide +kernel
theorem dL_law_506 : decode cL_law 506 = .ok (.aload_n 0, 1) := by decide +kernel
theorem dL_law_507 : decode cL_law 507 = .ok (.iload 5, 2) := by decide +kernel
theorem dL_law_509 : decode cL_law 509 = .ok (.iconst 1, 1) := by decide +kernel
theorem dL_law_510 : decode cL_law 510 = .ok (.iadd, 1) := by decide +kernel
theorem dL_law_511 : decode cL_law 511 = .ok (.iaload, 1) := by decide +kernel
theorem dL_law_512 : decode cL_law 512 = .ok (.aload_n 0, 1) := by decide +kernel
theorem dL_law_513 : decode cL_law 513 = .ok (.iload 5, 2) := by decide +kernel
theorem dL_law_515 : decode cL_law 515 = .ok (.iconst 2, 1) := by decide +kernel
theorem dL_law_516 : decode cL_law 516 = .ok (.iadd, 1) := by decide +kernel
theorem dL_law_517 : decode cL_law 517 = .ok (.iaload, 1) := by decide +kernel
theorem dL_law_518 : decode cL_law 518 = .ok (.aload_n 3, 1) := by decide +kernel
theorem dL_law_519 : decode cL_law 519 = .ok (.invokestatic 156, 3) := by decide +kernel
theorem dL_law_522 : decode cL_law 522 = .ok (.istore 6, 2) := by decide +kernel
theorem dL_law_524 : decode cL_law 524 = .ok (.aload_n 2, 1) := by decide +kernel
theorem dL_law_525 : decode cL_law 525 = .ok (.aload_n 0, 1) := by decide +kernel
theorem dL_law_526 : decode cL_law 526 = .ok (.iload 5, 2) := by decide +kernel
theorem dL_law_528 : decode cL_law 528 = .ok (.iconst 1, 1) := by decide +kernel
theorem dL_law_529 : decode cL_law 529 = .ok (.iadd, 1) := by decide +kernel
theorem dL_law_530 : decode cL_law 530 = .ok (.iaload, 1) := by decide +kernel
theorem dL_law_531 : decode cL_law 531 = .ok (.aload_n 0, 1) := by decide +kernel
theorem dL_law_532 : decode cL_law 532 = .ok (.iload 5, 2) := by decide +kernel
theorem dL_law_534 : decode cL_law 534 = .ok (.iconst 2, 1) := by decide +kernel
theorem dL_law_535 : decode cL_law 535 = .ok (.iadd, 1) := by decide +kernel
theorem dL_law_536 : decode cL_law 536 = .ok (.iaload, 1) := by decide +kernel
theorem dL_law_537 : decode cL_law 537 = .ok (.invokevirtual 158, 3) := by decide +kernel
theorem dL_law_540 : decode cL_law 540 = .ok (.istore 7, 2) := by decide +kernel
theorem dL_law_542 : decode cL_law 542 = .ok (.goto 643, 3) := by decide +kernel
theorem dL_law_545 : decode cL_law 545 = .ok (.aload_n 1, 1) := by decide +kernel
theorem dL_law_546 : decode cL_law 546 = .ok (.aload_n 0, 1) := by decide +kernel
theorem dL_law_547 : decode cL_law 547 = .ok (.iload 5, 2) := by decide +kernel
theorem dL_law_549 : decode cL_law 549 = .ok (.iconst 1, 1) := by decide +kernel
theorem dL_law_550 : decode cL_law 550 = .ok (.iadd, 1) := by decide +kernel
theorem dL_law_551 : decode cL_law 551 = .ok (.iaload, 1) := by decide +kernel
theorem dL_law_552 : decode cL_law 552 = .ok (.aload_n 3, 1) := by decide +kernel
theorem dL_law_553 : decode cL_law 553 = .ok (.invokestatic 159, 3) := by decide +kernel
theorem dL_law_556 : decode cL_law 556 = .ok (.istore 6, 2) := by decide +kernel
theorem dL_law_558 : decode cL_law 558 = .ok (.aload_n 2, 1) := by decide +kernel
theorem dL_law_559 : decode cL_law 559 = .ok (.aload_n 0, 1) := by decide +kernel
theorem dL_law_560 : decode cL_law 560 = .ok (.iload 5, 2) := by decide +kernel
theorem dL_law_562 : decode cL_law 562 = .ok (.iconst 1, 1) := by decide +kernel
theorem dL_law_563 : decode cL_law 563 = .ok (.iadd, 1) := by decide +kernel
theorem dL_law_564 : decode cL_law 564 = .ok (.iaload, 1) := by decide +kernel
theorem dL_law_565 : decode cL_law 565 = .ok (.invokevirtual 161, 3) := by decide +kernel
theorem dL_law_568 : decode cL_law 568 = .ok (.istore 7, 2) := by decide +kernel
theorem dL_law_570 : decode cL_law 570 = .ok (.goto 615, 3) := by decide +kernel
theorem dL_law_573 : decode cL_law 573 = .ok (.aload_n 1, 1) := by decide +kernel
theorem dL_law_574 : decode cL_law 574 = .ok (.aload_n 0, 1) := by decide +kernel
theorem dL_law_575 : decode cL_law 575 = .ok (.iload 5, 2) := by decide +kernel
theorem dL_law_577 : decode cL_law 577 = .ok (.iconst 1, 1) := by decide +kernel
theorem dL_law_578 : decode cL_law 578 = .ok (.iadd, 1) := by decide +kernel
theorem dL_law_579 : decode cL_law 579 = .ok (.iaload, 1) := by decide +kernel
theorem dL_law_580 : decode cL_law 580 = .ok (.aload_n 3, 1) := by decide +kernel
theorem dL_law_581 : decode cL_law 581 = .ok (.invokestatic 162, 3) := by decide +kernel
theorem dL_law_584 : decode cL_law 584 = .ok (.istore 6, 2) := by decide +kernel
theorem dL_law_586 : decode cL_law 586 = .ok (.aload_n 2, 1) := by decide +kernel
theorem dL_law_587 : decode cL_law 587 = .ok (.aload_n 0, 1) := by decide +kernel
theorem dL_law_588 : decode cL_law 588 = .ok (.iload 5, 2) := by decide +kernel
theorem dL_law_590 : decode cL_law 590 = .ok (.iconst 1, 1) := by decide +kernel
theorem dL_law_591 : decode cL_law 591 = .ok (.iadd, 1) := by decide +kernel
theorem dL_law_592 : decode cL_law 592 = .ok (.iaload, 1) := by decide +kernel
theorem dL_law_593 : decode cL_law 593 = .ok (.invokevirtual 164, 3) := by decide +kernel
theorem dL_law_596 : decode cL_law 596 = .ok (.istore 7, 2) := by decide +kernel
theorem dL_law_598 : decode cL_law 598 = .ok (.aload_n 2, 1) := by decide +kernel
theorem dL_law_599 : decode cL_law 599 = .ok (.invokevirtual 165, 3) := by decide +kernel
theorem dL_law_602 : decode cL_law 602 = .ok (.iload 6, 2) := by decide +kernel
theorem dL_law_604 : decode cL_law 604 = .ok (.if_icmp .eq 5, 3) := by decide +kernel
theorem dL_law_607 : decode cL_law 607 = .ok (.iconst 0, 1) := by decide +kernel
theorem dL_law_608 : decode cL_law 608 = .ok (.ireturn, 1) := by decide +kernel
theorem dL_law_609 : decode cL_law 609 = .ok (.iload 6, 2) := by decide +kernel
theorem dL_law_611 : decode cL_law 611 = .ok (.ifCond .ne 15, 3) := by decide +kernel
theorem dL_law_614 : decode cL_law 614 = .ok (.aload_n 3, 1) := by decide +kernel
theorem dL_law_615 : decode cL_law 615 = .ok (.iconst 0, 1) := by decide +kernel
theorem dL_law_616 : decode cL_law 616 = .ok (.laload, 1) := by decide +kernel
theorem dL_law_617 : decode cL_law 617 = .ok (.iload 7, 2) := by decide +kernel
theorem dL_law_619 : decode cL_law 619 = .ok (.i2l, 1) := by decide +kernel
theorem dL_law_620 : decode cL_law 620 = .ok (.lcmp, 1) := by decide +kernel
theorem dL_law_621 : decode cL_law 621 = .ok (.ifCond .eq 5, 3) := by decide +kernel
theorem dL_law_624 : decode cL_law 624 = .ok (.iconst 0, 1) := by decide +kernel
theorem dL_law_625 : decode cL_law 625 = .ok (.ireturn, 1) := by decide +kernel
theorem dL_law_626 : decode cL_law 626 = .ok (.goto 559, 3) := by decide +kernel
theorem dL_law_629 : decode cL_law 629 = .ok (.aload_n 1, 1) := by decide +kernel
theorem dL_law_630 : decode cL_law 630 = .ok (.aload_n 0, 1) := by decide +kernel
theorem dL_law_631 : decode cL_law 631 = .ok (.iload 5, 2) := by decide +kernel
theorem dL_law_633 : decode cL_law 633 = .ok (.iconst 1, 1) := by decide +kernel
theorem dL_law_634 : decode cL_law 634 = .ok (.iadd, 1) := by decide +kernel
theorem dL_law_635 : decode cL_law 635 = .ok (.iaload, 1) := by decide +kernel
theorem dL_law_636 : decode cL_law 636 = .ok (.aload_n 0, 1) := by decide +kernel
theorem dL_law_637 : decode cL_law 637 = .ok (.iload 5, 2) := by decide +kernel
theorem dL_law_639 : decode cL_law 639 = .ok (.iconst 2, 1) := by decide +kernel
theorem dL_law_640 : decode cL_law 640 = .ok (.iadd, 1) := by decide +kernel
theorem dL_law_641 : decode cL_law 641 = .ok (.iaload, 1) := by decide +kernel
theorem dL_law_642 : decode cL_law 642 = .ok (.aload_n 3, 1) := by decide +kernel
theorem dL_law_643 : decode cL_law 643 = .ok (.invokestatic 168, 3) := by decide +kernel
theorem dL_law_646 : decode cL_law 646 = .ok (.istore 6, 2) := by decide +kernel
theorem dL_law_648 : decode cL_law 648 = .ok (.aload_n 2, 1) := by decide +kernel
theorem dL_law_649 : decode cL_law 649 = .ok (.aload_n 0, 1) := by decide +kernel
theorem dL_law_650 : decode cL_law 650 = .ok (.iload 5, 2) := by decide +kernel
theorem dL_law_652 : decode cL_law 652 = .ok (.iconst 1, 1) := by decide +kernel
theorem dL_law_653 : decode cL_law 653 = .ok (.iadd, 1) := by decide +kernel
theorem dL_law_654 : decode cL_law 654 = .ok (.iaload, 1) := by decide +kernel
theorem dL_law_655 : decode cL_law 655 = .ok (.aload_n 0, 1) := by decide +kernel
theorem dL_law_656 : decode cL_law 656 = .ok (.iload 5, 2) := by decide +kernel
theorem dL_law_658 : decode cL_law 658 = .ok (.iconst 2, 1) := by decide +kernel
theorem dL_law_659 : decode cL_law 659 = .ok (.iadd, 1) := by decide +kernel
theorem dL_law_660 : decode cL_law 660 = .ok (.iaload, 1) := by decide +kernel
theorem dL_law_661 : decode cL_law 661 = .ok (.invokevirtual 170, 3) := by decide +kernel
theorem dL_law_664 : decode cL_law 664 = .ok (.istore 7, 2) := by decide +kernel
theorem dL_law_666 : decode cL_law 666 = .ok (.goto 519, 3) := by decide +kernel
theorem dL_law_669 : decode cL_law 669 = .ok (.aload_n 1, 1) := by decide +kernel
theorem dL_law_670 : decode cL_law 670 = .ok (.aload_n 0, 1) := by decide +kernel
theorem dL_law_671 : decode cL_law 671 = .ok (.iload 5, 2) := by decide +kernel
theorem dL_law_673 : decode cL_law 673 = .ok (.iconst 1, 1) := by decide +kernel
theorem dL_law_674 : decode cL_law 674 = .ok (.iadd, 1) := by decide +kernel
theorem dL_law_675 : decode cL_law 675 = .ok (.iaload, 1) := by decide +kernel
theorem dL_law_676 : decode cL_law 676 = .ok (.aload_n 0, 1) := by decide +kernel
theorem dL_law_677 : decode cL_law 677 = .ok (.iload 5, 2) := by decide +kernel
theorem dL_law_679 : decode cL_law 679 = .ok (.iconst 2, 1) := by decide +kernel
theorem dL_law_680 : decode cL_law 680 = .ok (.iadd, 1) := by decide +kernel
theorem dL_law_681 : decode cL_law 681 = .ok (.iaload, 1) := by decide +kernel
theorem dL_law_682 : decode cL_law 682 = .ok (.aload_n 3, 1) := by decide +kernel
theorem dL_law_683 : decode cL_law 683 = .ok (.invokestatic 171, 3) := by decide +kernel
theorem dL_law_686 : decode cL_law 686 = .ok (.istore 6, 2) := by decide +kernel
theorem dL_law_688 : decode cL_law 688 = .ok (.aload_n 2, 1) := by decide +kernel
theorem dL_law_689 : decode cL_law 689 = .ok (.aload_n 0, 1) := by decide +kernel
theorem dL_law_690 : decode cL_law 690 = .ok (.iload 5, 2) := by decide +kernel
theorem dL_law_692 : decode cL_law 692 = .ok (.iconst 1, 1) := by decide +kernel
theorem dL_law_693 : decode cL_law 693 = .ok (.iadd, 1) := by decide +kernel
theorem dL_law_694 : decode cL_law 694 = .ok (.iaload, 1) := by decide +kernel
theorem dL_law_695 : decode cL_law 695 = .ok (.aload_n 0, 1) := by decide +kernel
theorem dL_law_696 : decode cL_law 696 = .ok (.iload 5, 2) := by decide +kernel
theorem dL_law_698 : decode cL_law 698 = .ok (.iconst 2, 1) := by decide +kernel
theorem dL_law_699 : decode cL_law 699 = .ok (.iadd, 1) := by decide +kernel
theorem dL_law_700 : decode cL_law 700 = .ok (.iaload, 1) := by decide +kernel
theorem dL_law_701 : decode cL_law 701 = .ok (.invokevirtual 173, 3) := by decide +kernel
theorem dL_law_704 : decode cL_law 704 = .ok (.istore 7, 2) := by decide +kernel
theorem dL_law_706 : decode cL_law 706 = .ok (.goto 479, 3) := by decide +kernel
theorem dL_law_709 : decode cL_law 709 = .ok (.aload_n 1, 1) := by decide +kernel
theorem dL_law_710 : decode cL_law 710 = .ok (.aload_n 0, 1) := by decide +kernel
theorem dL_law_711 : decode cL_law 711 = .ok (.iload 5, 2) := by decide +kernel
theorem dL_law_713 : decode cL_law 713 = .ok (.iconst 1, 1) := by decide +kernel
theorem dL_law_714 : decode cL_law 714 = .ok (.iadd, 1) := by decide +kernel
theorem dL_law_715 : decode cL_law 715 = .ok (.iaload, 1) := by decide +kernel
theorem dL_law_716 : decode cL_law 716 = .ok (.aload_n 3, 1) := by decide +kernel
theorem dL_law_717 : decode cL_law 717 = .ok (.invokestatic 174, 3) := by decide +kernel
theorem dL_law_720 : decode cL_law 720 = .ok (.istore 6, 2) := by decide +kernel
theorem dL_law_722 : decode cL_law 722 = .ok (.aload_n 2, 1) := by decide +kernel
theorem dL_law_723 : decode cL_law 723 = .ok (.aload_n 0, 1) := by decide +kernel
theorem dL_law_724 : decode cL_law 724 = .ok (.iload 5, 2) := by decide +kernel
theorem dL_law_726 : decode cL_law 726 = .ok (.iconst 1, 1) := by decide +kernel
theorem dL_law_727 : decode cL_law 727 = .ok (.iadd, 1) := by decide +kernel
theorem dL_law_728 : decode cL_law 728 = .ok (.iaload, 1) := by decide +kernel
theorem dL_law_729 : decode cL_law 729 = .ok (.invokevirtual 176, 3) := by decide +kernel
theorem dL_law_732 : decode cL_law 732 = .ok (.istore 7, 2) := by decide +kernel
theorem dL_law_734 : decode cL_law 734 = .ok (.goto 451, 3) := by decide +kernel
theorem dL_law_737 : decode cL_law 737 = .ok (.aload_n 1, 1) := by decide +kernel
theorem dL_law_738 : decode cL_law 738 = .ok (.aload_n 0, 1) := by decide +kernel
theorem dL_law_739 : decode cL_law 739 = .ok (.iload 5, 2) := by decide +kernel
theorem dL_law_741 : decode cL_law 741 = .ok (.iconst 1, 1) := by decide +kernel
theorem dL_law_742 : decode cL_law 742 = .ok (.iadd, 1) := by decide +kernel
theorem dL_law_743 : decode cL_law 743 = .ok (.iaload, 1) := by decide +kernel
theorem dL_law_744 : decode cL_law 744 = .ok (.aload_n 3, 1) := by decide +kernel
theorem dL_law_745 : decode cL_law 745 = .ok (.invokestatic 177, 3) := by decide +kernel
theorem dL_law_748 : decode cL_law 748 = .ok (.istore 6, 2) := by decide +kernel
theorem dL_law_750 : decode cL_law 750 = .ok (.aload_n 2, 1) := by decide +kernel
theorem dL_law_751 : decode cL_law 751 = .ok (.aload_n 0, 1) := by decide +kernel
theorem dL_law_752 : decode cL_law 752 = .ok (.iload 5, 2) := by decide +kernel
theorem dL_law_754 : decode cL_law 754 = .ok (.iconst 1, 1) := by decide +kernel
theorem dL_law_755 : decode cL_law 755 = .ok (.iadd, 1) := by decide +kernel
theorem dL_law_756 : decode cL_law 756 = .ok (.iaload, 1) := by decide +kernel
theorem dL_law_757 : decode cL_law 757 = .ok (.invokevirtual 179, 3) := by decide +kernel
theorem dL_law_760 : decode cL_law 760 = .ok (.istore 7, 2) := by decide +kernel
theorem dL_law_762 : decode cL_law 762 = .ok (.goto 423, 3) := by decide +kernel
theorem dL_law_765 : decode cL_law 765 = .ok (.aload_n 1, 1) := by decide +kernel
theorem dL_law_766 : decode cL_law 766 = .ok (.aload_n 0, 1) := by decide +kernel
theorem dL_law_767 : decode cL_law 767 = .ok (.iload 5, 2) := by decide +kernel
theorem dL_law_769 : decode cL_law 769 = .ok (.iconst 1, 1) := by decide +kernel
theorem dL_law_770 : decode cL_law 770 = .ok (.iadd, 1) := by decide +kernel
theorem dL_law_771 : decode cL_law 771 = .ok (.iaload, 1) := by decide +kernel
theorem dL_law_772 : decode cL_law 772 = .ok (.aload_n 3, 1) := by decide +kernel
theorem dL_law_773 : decode cL_law 773 = .ok (.invokestatic 180, 3) := by decide +kernel
theorem dL_law_776 : decode cL_law 776 = .ok (.istore 6, 2) := by decide +kernel
theorem dL_law_778 : decode cL_law 778 = .ok (.aload_n 2, 1) := by decide +kernel
theorem dL_law_779 : decode cL_law 779 = .ok (.aload_n 0, 1) := by decide +kernel
theorem dL_law_780 : decode cL_law 780 = .ok (.iload 5, 2) := by decide +kernel
theorem dL_law_782 : decode cL_law 782 = .ok (.iconst 1, 1) := by decide +kernel
theorem dL_law_783 : decode cL_law 783 = .ok (.iadd, 1) := by decide +kernel
theorem dL_law_784 : decode cL_law 784 = .ok (.iaload, 1) := by decide +kernel
theorem dL_law_785 : decode cL_law 785 = .ok (.invokevirtual 182, 3) := by decide +kernel
theorem dL_law_788 : decode cL_law 788 = .ok (.istore 7, 2) := by decide +kernel
theorem dL_law_790 : decode cL_law 790 = .ok (.goto 395, 3) := by decide +kernel
theorem dL_law_793 : decode cL_law 793 = .ok (.aload_n 1, 1) := by decide +kernel
theorem dL_law_794 : decode cL_law 794 = .ok (.aload_n 0, 1) := by decide +kernel
theorem dL_law_795 : decode cL_law 795 = .ok (.iload 5, 2) := by decide +kernel
theorem dL_law_797 : decode cL_law 797 = .ok (.iconst 1, 1) := by decide +kernel
theorem dL_law_798 : decode cL_law 798 = .ok (.iadd, 1) := by decide +kernel
theorem dL_law_799 : decode cL_law 799 = .ok (.iaload, 1) := by decide +kernel
theorem dL_law_800 : decode cL_law 800 = .ok (.aload_n 3, 1) := by decide +kernel
theorem dL_law_801 : decode cL_law 801 = .ok (.invokestatic 183, 3) := by decide +kernel
theorem dL_law_804 : decode cL_law 804 = .ok (.istore 6, 2) := by decide +kernel
theorem dL_law_806 : decode cL_law 806 = .ok (.aload_n 2, 1) := by decide +kernel
theorem dL_law_807 : decode cL_law 807 = .ok (.aload_n 0, 1) := by decide +kernel
theorem dL_law_808 : decode cL_law 808 = .ok (.iload 5, 2) := by decide +kernel
theorem dL_law_810 : decode cL_law 810 = .ok (.iconst 1, 1) := by decide +kernel
theorem dL_law_811 : decode cL_law 811 = .ok (.iadd, 1) := by decide +kernel
theorem dL_law_812 : decode cL_law 812 = .ok (.iaload, 1) := by decide +kernel
theorem dL_law_813 : decode cL_law 813 = .ok (.invokevirtual 185, 3) := by decide +kernel
theorem dL_law_816 : decode cL_law 816 = .ok (.istore 7, 2) := by decide +kernel
theorem dL_law_818 : decode cL_law 818 = .ok (.goto 367, 3) := by decide +kernel
theorem dL_law_821 : decode cL_law 821 = .ok (.aload_n 1, 1) := by decide +kernel
theorem dL_law_822 : decode cL_law 822 = .ok (.aload_n 3, 1) := by decide +kernel
theorem dL_law_823 : decode cL_law 823 = .ok (.invokestatic 186, 3) := by decide +kernel
theorem dL_law_826 : decode cL_law 826 = .ok (.istore 6, 2) := by decide +kernel
theorem dL_law_828 : decode cL_law 828 = .ok (.aload_n 2, 1) := by decide +kernel
theorem dL_law_829 : decode cL_law 829 = .ok (.invokevirtual 189, 3) := by decide +kernel
theorem dL_law_832 : decode cL_law 832 = .ok (.istore 7, 2) := by decide +kernel
theorem dL_law_834 : decode cL_law 834 = .ok (.goto 351, 3) := by decide +kernel
theorem dL_law_837 : decode cL_law 837 = .ok (.aload_n 1, 1) := by decide +kernel
theorem dL_law_838 : decode cL_law 838 = .ok (.invokevirtual 190, 3) := by decide +kernel
theorem dL_law_841 : decode cL_law 841 = .ok (.pop, 1) := by decide +kernel
theorem dL_law_842 : decode cL_law 842 = .ok (.aload_n 2, 1) := by decide +kernel
theorem dL_law_843 : decode cL_law 843 = .ok (.invokevirtual 193, 3) := by decide +kernel
theorem dL_law_846 : decode cL_law 846 = .ok (.pop, 1) := by decide +kernel
theorem dL_law_847 : decode cL_law 847 = .ok (.goto 338, 3) := by decide +kernel
theorem dL_law_850 : decode cL_law 850 = .ok (.aload_n 1, 1) := by decide +kernel
theorem dL_law_851 : decode cL_law 851 = .ok (.aload_n 0, 1) := by decide +kernel
theorem dL_law_852 : decode cL_law 852 = .ok (.iload 5, 2) := by decide +kernel
theorem dL_law_854 : decode cL_law 854 = .ok (.iconst 1, 1) := by decide +kernel
theorem dL_law_855 : decode cL_law 855 = .ok (.iadd, 1) := by decide +kernel
theorem dL_law_856 : decode cL_law 856 = .ok (.iaload, 1) := by decide +kernel
theorem dL_law_857 : decode cL_law 857 = .ok (.aload_n 3, 1) := by decide +kernel
theorem dL_law_858 : decode cL_law 858 = .ok (.invokestatic 194, 3) := by decide +kernel
theorem dL_law_861 : decode cL_law 861 = .ok (.istore 6, 2) := by decide +kernel
theorem dL_law_863 : decode cL_law 863 = .ok (.aload_n 2, 1) := by decide +kernel
theorem dL_law_864 : decode cL_law 864 = .ok (.aload_n 0, 1) := by decide +kernel
theorem dL_law_865 : decode cL_law 865 = .ok (.iload 5, 2) := by decide +kernel
theorem dL_law_867 : decode cL_law 867 = .ok (.iconst 1, 1) := by decide +kernel
theorem dL_law_868 : decode cL_law 868 = .ok (.iadd, 1) := by decide +kernel
theorem dL_law_869 : decode cL_law 869 = .ok (.iaload, 1) := by decide +kernel
theorem dL_law_870 : decode cL_law 870 = .ok (.invokevirtual 196, 3) := by decide +kernel
theorem dL_law_873 : decode cL_law 873 = .ok (.istore 7, 2) := by decide +kernel
theorem dL_law_875 : decode cL_law 875 = .ok (.goto 310, 3) := by decide +kernel
theorem dL_law_878 : decode cL_law 878 = .ok (.aload_n 1, 1) := by decide +kernel
theorem dL_law_879 : decode cL_law 879 = .ok (.aload_n 0, 1) := by decide +kernel
theorem dL_law_880 : decode cL_law 880 = .ok (.iload 5, 2) := by decide +kernel
theorem dL_law_882 : decode cL_law 882 = .ok (.iconst 1, 1) := by decide +kernel
theorem dL_law_883 : decode cL_law 883 = .ok (.iadd, 1) := by decide +kernel
theorem dL_law_884 : decode cL_law 884 = .ok (.iaload, 1) := by decide +kernel
theorem dL_law_885 : decode cL_law 885 = .ok (.aload_n 3, 1) := by decide +kernel
theorem dL_law_886 : decode cL_law 886 = .ok (.invokestatic 197, 3) := by decide +kernel
theorem dL_law_889 : decode cL_law 889 = .ok (.istore 6, 2) := by decide +kernel
theorem dL_law_891 : decode cL_law 891 = .ok (.aload_n 2, 1) := by decide +kernel
theorem dL_law_892 : decode cL_law 892 = .ok (.aload_n 0, 1) := by decide +kernel
theorem dL_law_893 : decode cL_law 893 = .ok (.iload 5, 2) := by decide +kernel
theorem dL_law_895 : decode cL_law 895 = .ok (.iconst 1, 1) := by decide +kernel
theorem dL_law_896 : decode cL_law 896 = .ok (.iadd, 1) := by decide +kernel
theorem dL_law_897 : decode cL_law 897 = .ok (.iaload, 1) := by decide +kernel
theorem dL_law_898 : decode cL_law 898 = .ok (.invokevirtual 199, 3) := by decide +kernel
theorem dL_law_901 : decode cL_law 901 = .ok (.istore 7, 2) := by decide +kernel
theorem dL_law_903 : decode cL_law 903 = .ok (.goto 282, 3) := by decide +kernel
theorem dL_law_906 : decode cL_law 906 = .ok (.aload_n 1, 1) := by decide +kernel
theorem dL_law_907 : decode cL_law 907 = .ok (.invokevirtual 200, 3) := by decide +kernel
theorem dL_law_910 : decode cL_law 910 = .ok (.pop, 1) := by decide +kernel
theorem dL_law_911 : decode cL_law 911 = .ok (.aload_n 2, 1) := by decide +kernel
theorem dL_law_912 : decode cL_law 912 = .ok (.invokevirtual 203, 3) := by decide +kernel
theorem dL_law_915 : decode cL_law 915 = .ok (.pop, 1) := by decide +kernel
theorem dL_law_916 : decode cL_law 916 = .ok (.goto 269, 3) := by decide +kernel
theorem dL_law_919 : decode cL_law 919 = .ok (.aload_n 1, 1) := by decide +kernel
theorem dL_law_920 : decode cL_law 920 = .ok (.aload_n 0, 1) := by decide +kernel
theorem dL_law_921 : decode cL_law 921 = .ok (.iload 5, 2) := by decide +kernel
theorem dL_law_923 : decode cL_law 923 = .ok (.iconst 1, 1) := by decide +kernel
theorem dL_law_924 : decode cL_law 924 = .ok (.iadd, 1) := by decide +kernel
theorem dL_law_925 : decode cL_law 925 = .ok (.iaload, 1) := by decide +kernel
theorem dL_law_926 : decode cL_law 926 = .ok (.aload_n 3, 1) := by decide +kernel
theorem dL_law_927 : decode cL_law 927 = .ok (.invokestatic 204, 3) := by decide +kernel
theorem dL_law_930 : decode cL_law 930 = .ok (.istore 6, 2) := by decide +kernel
theorem dL_law_932 : decode cL_law 932 = .ok (.aload_n 2, 1) := by decide +kernel
theorem dL_law_933 : decode cL_law 933 = .ok (.aload_n 0, 1) := by decide +kernel
theorem dL_law_934 : decode cL_law 934 = .ok (.iload 5, 2) := by decide +kernel
theorem dL_law_936 : decode cL_law 936 = .ok (.iconst 1, 1) := by decide +kernel
theorem dL_law_937 : decode cL_law 937 = .ok (.iadd, 1) := by decide +kernel
theorem dL_law_938 : decode cL_law 938 = .ok (.iaload, 1) := by decide +kernel
theorem dL_law_939 : decode cL_law 939 = .ok (.invokevirtual 206, 3) := by decide +kernel
theorem dL_law_942 : decode cL_law 942 = .ok (.istore 7, 2) := by decide +kernel
theorem dL_law_944 : decode cL_law 944 = .ok (.goto 241, 3) := by decide +kernel
theorem dL_law_947 : decode cL_law 947 = .ok (.aload_n 1, 1) := by decide +kernel
theorem dL_law_948 : decode cL_law 948 = .ok (.aload_n 0, 1) := by decide +kernel
theorem dL_law_949 : decode cL_law 949 = .ok (.iload 5, 2) := by decide +kernel
theorem dL_law_951 : decode cL_law 951 = .ok (.iconst 1, 1) := by decide +kernel
theorem dL_law_952 : decode cL_law 952 = .ok (.iadd, 1) := by decide +kernel
theorem dL_law_953 : decode cL_law 953 = .ok (.iaload, 1) := by decide +kernel
theorem dL_law_954 : decode cL_law 954 = .ok (.aload_n 3, 1) := by decide +kernel
theorem dL_law_955 : decode cL_law 955 = .ok (.invokestatic 207, 3) := by decide +kernel
theorem dL_law_958 : decode cL_law 958 = .ok (.istore 6, 2) := by decide +kernel
theorem dL_law_960 : decode cL_law 960 = .ok (.aload_n 2, 1) := by decide +kernel
theorem dL_law_961 : decode cL_law 961 = .ok (.aload_n 0, 1) := by decide +kernel
theorem dL_law_962 : decode cL_law 962 = .ok (.iload 5, 2) := by decide +kernel
theorem dL_law_964 : decode cL_law 964 = .ok (.iconst 1, 1) := by decide +kernel
theorem dL_law_965 : decode cL_law 965 = .ok (.iadd, 1) := by decide +kernel
theorem dL_law_966 : decode cL_law 966 = .ok (.iaload, 1) := by decide +kernel
theorem dL_law_967 : decode cL_law 967 = .ok (.invokevirtual 209, 3) := by decide +kernel
theorem dL_law_970 : decode cL_law 970 = .ok (.istore 7, 2) := by decide +kernel
theorem dL_law_972 : decode cL_law 972 = .ok (.goto 213, 3) := by decide +kernel
theorem dL_law_975 : decode cL_law 975 = .ok (.aload_n 1, 1) := by decide +kernel
theorem dL_law_976 : decode cL_law 976 = .ok (.invokevirtual 210, 3) := by decide +kernel
theorem dL_law_979 : decode cL_law 979 = .ok (.pop, 1) := by decide +kernel
theorem dL_law_980 : decode cL_law 980 = .ok (.aload_n 2, 1) := by decide +kernel
theorem dL_law_981 : decode cL_law 981 = .ok (.invokevirtual 214, 3) := by decide +kernel
theorem dL_law_984 : decode cL_law 984 = .ok (.pop, 1) := by decide +kernel
theorem dL_law_985 : decode cL_law 985 = .ok (.goto 200, 3) := by decide +kernel
theorem dL_law_988 : decode cL_law 988 = .ok (.aload_n 1, 1) := by decide +kernel
theorem dL_law_989 : decode cL_law 989 = .ok (.aload 4, 2) := by decide +kernel
theorem dL_law_991 : decode cL_law 991 = .ok (.invokestatic 215, 3) := by decide +kernel
theorem dL_law_994 : decode cL_law 994 = .ok (.istore 6, 2) := by decide +kernel
theorem dL_law_996 : decode cL_law 996 = .ok (.aload_n 2, 1) := by decide +kernel
theorem dL_law_997 : decode cL_law 997 = .ok (.invokevirtual 218, 3) := by decide +kernel
theorem dL_law_1000 : decode cL_law 1000 = .ok (.dstore 7, 2) := by decide +kernel
theorem dL_law_1002 : decode cL_law 1002 = .ok (.goto 183, 3) := by decide +kernel
theorem dL_law_1005 : decode cL_law 1005 = .ok (.aload_n 1, 1) := by decide +kernel
theorem dL_law_1006 : decode cL_law 1006 = .ok (.aload 4, 2) := by decide +kernel
theorem dL_law_1008 : decode cL_law 1008 = .ok (.invokestatic 219, 3) := by decide +kernel
theorem dL_law_1011 : decode cL_law 1011 = .ok (.istore 6, 2) := by decide +kernel
theorem dL_law_1013 : decode cL_law 1013 = .ok (.aload_n 2, 1) := by decide +kernel
theorem dL_law_1014 : decode cL_law 1014 = .ok (.invokevirtual 221, 3) := by decide +kernel
theorem dL_law_1017 : decode cL_law 1017 = .ok (.fstore 7, 2) := by decide +kernel
theorem dL_law_1019 : decode cL_law 1019 = .ok (.goto 166, 3) := by decide +kernel
theorem dL_law_1022 : decode cL_law 1022 = .ok (.aload_n 1, 1) := by decide +kernel
theorem dL_law_1023 : decode cL_law 1023 = .ok (.aload_n 0, 1) := by decide +kernel
theorem dL_law_1024 : decode cL_law 1024 = .ok (.iload 5, 2) := by decide +kernel
theorem dL_law_1026 : decode cL_law 1026 = .ok (.iconst 1, 1) := by decide +kernel
theorem dL_law_1027 : decode cL_law 1027 = .ok (.iadd, 1) := by decide +kernel
theorem dL_law_1028 : decode cL_law 1028 = .ok (.iaload, 1) := by decide +kernel
theorem dL_law_1029 : decode cL_law 1029 = .ok (.ifCond .eq 7, 3) := by decide +kernel
theorem dL_law_1032 : decode cL_law 1032 = .ok (.iconst 1, 1) := by decide +kernel
theorem dL_law_1033 : decode cL_law 1033 = .ok (.goto 4, 3) := by decide +kernel
theorem dL_law_1036 : decode cL_law 1036 = .ok (.iconst 0, 1) := by decide +kernel
theorem dL_law_1037 : decode cL_law 1037 = .ok (.aload_n 3, 1) := by decide +kernel
theorem dL_law_1038 : decode cL_law 1038 = .ok (.invokestatic 222, 3) := by decide +kernel
theorem dL_law_1041 : decode cL_law 1041 = .ok (.istore 6, 2) := by decide +kernel
theorem dL_law_1043 : decode cL_law 1043 = .ok (.aload_n 2, 1) := by decide +kernel
theorem dL_law_1044 : decode cL_law 1044 = .ok (.aload_n 0, 1) := by decide +kernel
theorem dL_law_1045 : decode cL_law 1045 = .ok (.iload 5, 2) := by decide +kernel
theorem dL_law_1047 : decode cL_law 1047 = .ok (.iconst 1, 1) := by decide +kernel
theorem dL_law_1048 : decode cL_law 1048 = .ok (.iadd, 1) := by decide +kernel
theorem dL_law_1049 : decode cL_law 1049 = .ok (.iaload, 1) := by decide +kernel
theorem dL_law_1050 : decode cL_law 1050 = .ok (.ifCond .eq 7, 3) := by decide +kernel
theorem dL_law_1053 : decode cL_law 1053 = .ok (.iconst 1, 1) := by decide +kernel
theorem dL_law_1054 : decode cL_law 1054 = .ok (.goto 4, 3) := by decide +kernel
theorem dL_law_1057 : decode cL_law 1057 = .ok (.iconst 0, 1) := by decide +kernel
theorem dL_law_1058 : decode cL_law 1058 = .ok (.invokevirtual 225, 3) := by decide +kernel
theorem dL_law_1061 : decode cL_law 1061 = .ok (.istore 7, 2) := by decide +kernel
theorem dL_law_1063 : decode cL_law 1063 = .ok (.goto 122, 3) := by decide +kernel
theorem dL_law_1066 : decode cL_law 1066 = .ok (.aload_n 1, 1) := by decide +kernel
theorem dL_law_1067 : decode cL_law 1067 = .ok (.aload_n 0, 1) := by decide +kernel
theorem dL_law_1068 : decode cL_law 1068 = .ok (.iload 5, 2) := by decide +kernel
theorem dL_law_1070 : decode cL_law 1070 = .ok (.iconst 1, 1) := by decide +kernel
theorem dL_law_1071 : decode cL_law 1071 = .ok (.iadd, 1) := by decide +kernel
theorem dL_law_1072 : decode cL_law 1072 = .ok (.iaload, 1) := by decide +kernel
theorem dL_law_1073 : decode cL_law 1073 = .ok (.aload_n 3, 1) := by decide +kernel
theorem dL_law_1074 : decode cL_law 1074 = .ok (.invokestatic 226, 3) := by decide +kernel
theorem dL_law_1077 : decode cL_law 1077 = .ok (.istore 6, 2) := by decide +kernel
theorem dL_law_1079 : decode cL_law 1079 = .ok (.aload_n 2, 1) := by decide +kernel
theorem dL_law_1080 : decode cL_law 1080 = .ok (.aload_n 0, 1) := by decide +kernel
theorem dL_law_1081 : decode cL_law 1081 = .ok (.iload 5, 2) := by decide +kernel
theorem dL_law_1083 : decode cL_law 1083 = .ok (.iconst 1, 1) := by decide +kernel
theorem dL_law_1084 : decode cL_law 1084 = .ok (.iadd, 1) := by decide +kernel
theorem dL_law_1085 : decode cL_law 1085 = .ok (.iaload, 1) := by decide +kernel
theorem dL_law_1086 : decode cL_law 1086 = .ok (.invokevirtual 228, 3) := by decide +kernel
theorem dL_law_1089 : decode cL_law 1089 = .ok (.istore 7, 2) := by decide +kernel
theorem dL_law_1091 : decode cL_law 1091 = .ok (.goto 94, 3) := by decide +kernel
theorem dL_law_1094 : decode cL_law 1094 = .ok (.aload_n 1, 1) := by decide +kernel
theorem dL_law_1095 : decode cL_law 1095 = .ok (.aload_n 0, 1) := by decide +kernel
theorem dL_law_1096 : decode cL_law 1096 = .ok (.iload 5, 2) := by decide +kernel
theorem dL_law_1098 : decode cL_law 1098 = .ok (.iconst 1, 1) := by decide +kernel
theorem dL_law_1099 : decode cL_law 1099 = .ok (.iadd, 1) := by decide +kernel
theorem dL_law_1100 : decode cL_law 1100 = .ok (.iaload, 1) := by decide +kernel
theorem dL_law_1101 : decode cL_law 1101 = .ok (.i2c, 1) := by decide +kernel
theorem dL_law_1102 : decode cL_law 1102 = .ok (.aload_n 3, 1) := by decide +kernel
theorem dL_law_1103 : decode cL_law 1103 = .ok (.invokestatic 229, 3) := by decide +kernel
theorem dL_law_1106 : decode cL_law 1106 = .ok (.istore 6, 2) := by decide +kernel
theorem dL_law_1108 : decode cL_law 1108 = .ok (.aload_n 2, 1) := by decide +kernel
theorem dL_law_1109 : decode cL_law 1109 = .ok (.aload_n 0, 1) := by decide +kernel
theorem dL_law_1110 : decode cL_law 1110 = .ok (.iload 5, 2) := by decide +kernel
theorem dL_law_1112 : decode cL_law 1112 = .ok (.iconst 1, 1) := by decide +kernel
theorem dL_law_1113 : decode cL_law 1113 = .ok (.iadd, 1) := by decide +kernel
theorem dL_law_1114 : decode cL_law 1114 = .ok (.iaload, 1) := by decide +kernel
theorem dL_law_1115 : decode cL_law 1115 = .ok (.i2c, 1) := by decide +kernel
theorem dL_law_1116 : decode cL_law 1116 = .ok (.invokevirtual 232, 3) := by decide +kernel
theorem dL_law_1119 : decode cL_law 1119 = .ok (.istore 7, 2) := by decide +kernel
theorem dL_law_1121 : decode cL_law 1121 = .ok (.goto 64, 3) := by decide +kernel
theorem dL_law_1124 : decode cL_law 1124 = .ok (.aload_n 1, 1) := by decide +kernel
theorem dL_law_1125 : decode cL_law 1125 = .ok (.aload_n 3, 1) := by decide +kernel
theorem dL_law_1126 : decode cL_law 1126 = .ok (.invokestatic 233, 3) := by decide +kernel
theorem dL_law_1129 : decode cL_law 1129 = .ok (.istore 6, 2) := by decide +kernel
theorem dL_law_1131 : decode cL_law 1131 = .ok (.aload_n 2, 1) := by decide +kernel
theorem dL_law_1132 : decode cL_law 1132 = .ok (.invokevirtual 235, 3) := by decide +kernel
theorem dL_law_1135 : decode cL_law 1135 = .ok (.istore 7, 2) := by decide +kernel
theorem dL_law_1137 : decode cL_law 1137 = .ok (.goto 48, 3) := by decide +kernel
theorem dL_law_1140 : decode cL_law 1140 = .ok (.aload_n 1, 1) := by decide +kernel
theorem dL_law_1141 : decode cL_law 1141 = .ok (.aload_n 3, 1) := by decide +kernel
theorem dL_law_1142 : decode cL_law 1142 = .ok (.invokestatic 236, 3) := by decide +kernel
theorem dL_law_1145 : decode cL_law 1145 = .ok (.istore 6, 2) := by decide +kernel
theorem dL_law_1147 : decode cL_law 1147 = .ok (.aload_n 2, 1) := by decide +kernel
theorem dL_law_1148 : decode cL_law 1148 = .ok (.invokevirtual 238, 3) := by decide +kernel
theorem dL_law_1151 : decode cL_law 1151 = .ok (.istore 7, 2) := by decide +kernel
theorem dL_law_1153 : decode cL_law 1153 = .ok (.goto 32, 3) := by decide +kernel
theorem dL_law_1156 : decode cL_law 1156 = .ok (.aload_n 1, 1) := by decide +kernel
theorem dL_law_1157 : decode cL_law 1157 = .ok (.invokevirtual 239, 3) := by decide +kernel
theorem dL_law_1160 : decode cL_law 1160 = .ok (.pop, 1) := by decide +kernel
theorem dL_law_1161 : decode cL_law 1161 = .ok (.aload_n 2, 1) := by decide +kernel
theorem dL_law_1162 : decode cL_law 1162 = .ok (.invokevirtual 242, 3) := by decide +kernel
theorem dL_law_1165 : decode cL_law 1165 = .ok (.pop, 1) := by decide +kernel
theorem dL_law_1166 : decode cL_law 1166 = .ok (.goto 19, 3) := by decide +kernel
theorem dL_law_1169 : decode cL_law 1169 = .ok (.aload_n 1, 1) := by decide +kernel
theorem dL_law_1170 : decode cL_law 1170 = .ok (.aload_n 3, 1) := by decide +kernel
theorem dL_law_1171 : decode cL_law 1171 = .ok (.invokestatic 243, 3) := by decide +kernel
theorem dL_law_1174 : decode cL_law 1174 = .ok (.istore 6, 2) := by decide +kernel
theorem dL_law_1176 : decode cL_law 1176 = .ok (.aload_n 2, 1) := by decide +kernel
theorem dL_law_1177 : decode cL_law 1177 = .ok (.invokevirtual 245, 3) := by decide +kernel
theorem dL_law_1180 : decode cL_law 1180 = .ok (.istore 7, 2) := by decide +kernel
theorem dL_law_1182 : decode cL_law 1182 = .ok (.goto 3, 3) := by decide +kernel
theorem dL_law_1185 : decode cL_law 1185 = .ok (.iinc 5 5, 3) := by decide +kernel
theorem dL_law_1188 : decode cL_law 1188 = .ok (.goto (-1160), 3) := by decide +kernel
theorem dL_law_1191 : decode cL_law 1191 = .ok (.iconst 1, 1) := by decide +kernel
theorem dL_law_1192 : decode cL_law 1192 = .ok (.ireturn, 1) := by decide +kernel
