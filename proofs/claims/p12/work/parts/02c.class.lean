theorem dX1_init_0 : decode cX1_init 0 = .ok (.aload_n 0, 1) := by decide +kernel
theorem dX1_init_1 : decode cX1_init 1 = .ok (.invokespecial 3, 3) := by decide +kernel
theorem dX1_init_4 : decode cX1_init 4 = .ok (.aload_n 0, 1) := by decide +kernel
theorem dX1_init_5 : decode cX1_init 5 = .ok (.iconst (-1), 1) := by decide +kernel
theorem dX1_init_6 : decode cX1_init 6 = .ok (.putfield 9, 3) := by decide +kernel
theorem dX1_init_9 : decode cX1_init 9 = .ok (.aload_n 0, 1) := by decide +kernel
theorem dX1_init_10 : decode cX1_init 10 = .ok (.iconst (-1), 1) := by decide +kernel
theorem dX1_init_11 : decode cX1_init 11 = .ok (.putfield 15, 3) := by decide +kernel
theorem dX1_init_14 : decode cX1_init 14 = .ok (.aload_n 0, 1) := by decide +kernel
theorem dX1_init_15 : decode cX1_init 15 = .ok (.iconst (-1), 1) := by decide +kernel
theorem dX1_init_16 : decode cX1_init 16 = .ok (.putfield 18, 3) := by decide +kernel
theorem dX1_init_19 : decode cX1_init 19 = .ok (.aload_n 0, 1) := by decide +kernel
theorem dX1_init_20 : decode cX1_init 20 = .ok (.ldc 21, 2) := by decide +kernel
theorem dX1_init_22 : decode cX1_init 22 = .ok (.putfield 23, 3) := by decide +kernel
theorem dX1_init_25 : decode cX1_init 25 = .ok (.aload_n 0, 1) := by decide +kernel
theorem dX1_init_26 : decode cX1_init 26 = .ok (.iload_n 1, 1) := by decide +kernel
theorem dX1_init_27 : decode cX1_init 27 = .ok (.putfield 27, 3) := by decide +kernel
theorem dX1_init_30 : decode cX1_init 30 = .ok (.return_, 1) := by decide +kernel
theorem dX1_copyFrom_0 : decode cX1_copyFrom 0 = .ok (.aload_n 0, 1) := by decide +kernel
theorem dX1_copyFrom_1 : decode cX1_copyFrom 1 = .ok (.aload_n 1, 1) := by decide +kernel
theorem dX1_copyFrom_2 : decode cX1_copyFrom 2 = .ok (.getfield 30, 3) := by decide +kernel
theorem dX1_copyFrom_5 : decode cX1_copyFrom 5 = .ok (.putfield 30, 3) := by decide +kernel
theorem dX1_copyFrom_8 : decode cX1_copyFrom 8 = .ok (.aload_n 0, 1) := by decide +kernel
theorem dX1_copyFrom_9 : decode cX1_copyFrom 9 = .ok (.aload_n 1, 1) := by decide +kernel
theorem dX1_copyFrom_10 : decode cX1_copyFrom 10 = .ok (.getfield 9, 3) := by decide +kernel
theorem dX1_copyFrom_13 : decode cX1_copyFrom 13 = .ok (.putfield 9, 3) := by decide +kernel
theorem dX1_copyFrom_16 : decode cX1_copyFrom 16 = .ok (.aload_n 0, 1) := by decide +kernel
theorem dX1_copyFrom_17 : decode cX1_copyFrom 17 = .ok (.aload_n 1, 1) := by decide +kernel
theorem dX1_copyFrom_18 : decode cX1_copyFrom 18 = .ok (.getfield 15, 3) := by decide +kernel
theorem dX1_copyFrom_21 : decode cX1_copyFrom 21 = .ok (.putfield 15, 3) := by decide +kernel
theorem dX1_copyFrom_24 : decode cX1_copyFrom 24 = .ok (.aload_n 0, 1) := by decide +kernel
theorem dX1_copyFrom_25 : decode cX1_copyFrom 25 = .ok (.aload_n 1, 1) := by decide +kernel
theorem dX1_copyFrom_26 : decode cX1_copyFrom 26 = .ok (.getfield 33, 3) := by decide +kernel
theorem dX1_copyFrom_29 : decode cX1_copyFrom 29 = .ok (.putfield 33, 3) := by decide +kernel
theorem dX1_copyFrom_32 : decode cX1_copyFrom 32 = .ok (.aload_n 0, 1) := by decide +kernel
theorem dX1_copyFrom_33 : decode cX1_copyFrom 33 = .ok (.aload_n 1, 1) := by decide +kernel
theorem dX1_copyFrom_34 : decode cX1_copyFrom 34 = .ok (.getfield 36, 3) := by decide +kernel
theorem dX1_copyFrom_37 : decode cX1_copyFrom 37 = .ok (.putfield 36, 3) := by decide +kernel
theorem dX1_copyFrom_40 : decode cX1_copyFrom 40 = .ok (.aload_n 0, 1) := by decide +kernel
theorem dX1_copyFrom_41 : decode cX1_copyFrom 41 = .ok (.aload_n 1, 1) := by decide +kernel
theorem dX1_copyFrom_42 : decode cX1_copyFrom 42 = .ok (.getfield 40, 3) := by decide +kernel
theorem dX1_copyFrom_45 : decode cX1_copyFrom 45 = .ok (.putfield 40, 3) := by decide +kernel
theorem dX1_copyFrom_48 : decode cX1_copyFrom 48 = .ok (.aload_n 0, 1) := by decide +kernel
theorem dX1_copyFrom_49 : decode cX1_copyFrom 49 = .ok (.aload_n 1, 1) := by decide +kernel
theorem dX1_copyFrom_50 : decode cX1_copyFrom 50 = .ok (.getfield 43, 3) := by decide +kernel
theorem dX1_copyFrom_53 : decode cX1_copyFrom 53 = .ok (.putfield 43, 3) := by decide +kernel
theorem dX1_copyFrom_56 : decode cX1_copyFrom 56 = .ok (.aload_n 0, 1) := by decide +kernel
theorem dX1_copyFrom_57 : decode cX1_copyFrom 57 = .ok (.aload_n 1, 1) := by decide +kernel
theorem dX1_copyFrom_58 : decode cX1_copyFrom 58 = .ok (.getfield 18, 3) := by decide +kernel
theorem dX1_copyFrom_61 : decode cX1_copyFrom 61 = .ok (.putfield 18, 3) := by decide +kernel
theorem dX1_copyFrom_64 : decode cX1_copyFrom 64 = .ok (.aload_n 0, 1) := by decide +kernel
theorem dX1_copyFrom_65 : decode cX1_copyFrom 65 = .ok (.aload_n 1, 1) := by decide +kernel
theorem dX1_copyFrom_66 : decode cX1_copyFrom 66 = .ok (.getfield 23, 3) := by decide +kernel
theorem dX1_copyFrom_69 : decode cX1_copyFrom 69 = .ok (.putfield 23, 3) := by decide +kernel
theorem dX1_copyFrom_72 : decode cX1_copyFrom 72 = .ok (.return_, 1) := by decide +kernel
theorem dX1_room_0 : decode cX1_room 0 = .ok (.bipush 10, 2) := by decide +kernel
theorem dX1_room_2 : decode cX1_room 2 = .ok (.aload_n 0, 1) := by decide +kernel
theorem dX1_room_3 : decode cX1_room 3 = .ok (.getfield 30, 3) := by decide +kernel
theorem dX1_room_6 : decode cX1_room 6 = .ok (.imul, 1) := by decide +kernel
theorem dX1_room_7 : decode cX1_room 7 = .ok (.aload_n 0, 1) := by decide +kernel
theorem dX1_room_8 : decode cX1_room 8 = .ok (.getfield 33, 3) := by decide +kernel
theorem dX1_room_11 : decode cX1_room 11 = .ok (.isub, 1) := by decide +kernel
theorem dX1_room_12 : decode cX1_room 12 = .ok (.ireturn, 1) := by decide +kernel
theorem dX1_isThere_0 : decode cX1_isThere 0 = .ok (.aload_n 0, 1) := by decide +kernel
theorem dX1_isThere_1 : decode cX1_isThere 1 = .ok (.getfield 18, 3) := by decide +kernel
theorem dX1_isThere_4 : decode cX1_isThere 4 = .ok (.iconst (-1), 1) := by decide +kernel
theorem dX1_isThere_5 : decode cX1_isThere 5 = .ok (.if_icmp .eq 15, 3) := by decide +kernel
theorem dX1_isThere_8 : decode cX1_isThere 8 = .ok (.aload_n 0, 1) := by decide +kernel
theorem dX1_isThere_9 : decode cX1_isThere 9 = .ok (.getfield 18, 3) := by decide +kernel
theorem dX1_isThere_12 : decode cX1_isThere 12 = .ok (.iconst 3, 1) := by decide +kernel
theorem dX1_isThere_13 : decode cX1_isThere 13 = .ok (.if_icmp .eq 7, 3) := by decide +kernel
theorem dX1_isThere_16 : decode cX1_isThere 16 = .ok (.iconst 1, 1) := by decide +kernel
theorem dX1_isThere_17 : decode cX1_isThere 17 = .ok (.goto 4, 3) := by decide +kernel
theorem dX1_isThere_20 : decode cX1_isThere 20 = .ok (.iconst 0, 1) := by decide +kernel
theorem dX1_isThere_21 : decode cX1_isThere 21 = .ok (.ireturn, 1) := by decide +kernel
theorem dX1_isTight_0 : decode cX1_isTight 0 = .ok (.aload_n 0, 1) := by decide +kernel
theorem dX1_isTight_1 : decode cX1_isTight 1 = .ok (.getfield 36, 3) := by decide +kernel
theorem dX1_isTight_4 : decode cX1_isTight 4 = .ok (.ifCond .eq 20, 3) := by decide +kernel
theorem dX1_isTight_7 : decode cX1_isTight 7 = .ok (.aload_n 0, 1) := by decide +kernel
theorem dX1_isTight_8 : decode cX1_isTight 8 = .ok (.getfield 40, 3) := by decide +kernel
theorem dX1_isTight_11 : decode cX1_isTight 11 = .ok (.aload_n 0, 1) := by decide +kernel
theorem dX1_isTight_12 : decode cX1_isTight 12 = .ok (.getfield 30, 3) := by decide +kernel
theorem dX1_isTight_15 : decode cX1_isTight 15 = .ok (.iconst 2, 1) := by decide +kernel
theorem dX1_isTight_16 : decode cX1_isTight 16 = .ok (.iadd, 1) := by decide +kernel
theorem dX1_isTight_17 : decode cX1_isTight 17 = .ok (.if_icmp .lt 7, 3) := by decide +kernel
theorem dX1_isTight_20 : decode cX1_isTight 20 = .ok (.iconst 1, 1) := by decide +kernel
theorem dX1_isTight_21 : decode cX1_isTight 21 = .ok (.goto 4, 3) := by decide +kernel
theorem dX1_isTight_24 : decode cX1_isTight 24 = .ok (.iconst 0, 1) := by decide +kernel
theorem dX1_isTight_25 : decode cX1_isTight 25 = .ok (.ireturn, 1) := by decide +kernel
theorem dX1_hasLabel_0 : decode cX1_hasLabel 0 = .ok (.aload_n 0, 1) := by decide +kernel
theorem dX1_hasLabel_1 : decode cX1_hasLabel 1 = .ok (.getfield 23, 3) := by decide +kernel
theorem dX1_hasLabel_4 : decode cX1_hasLabel 4 = .ok (.invokevirtual 46, 3) := by decide +kernel
theorem dX1_hasLabel_7 : decode cX1_hasLabel 7 = .ok (.ifCond .ne 7, 3) := by decide +kernel
theorem dX1_hasLabel_10 : decode cX1_hasLabel 10 = .ok (.iconst 1, 1) := by decide +kernel
theorem dX1_hasLabel_11 : decode cX1_hasLabel 11 = .ok (.goto 4, 3) := by decide +kernel
theorem dX1_hasLabel_14 : decode cX1_hasLabel 14 = .ok (.iconst 0, 1) := by decide +kernel
theorem dX1_hasLabel_15 : decode cX1_hasLabel 15 = .ok (.ireturn, 1) := by decide +kernel
theorem dX1_coins_0 : decode cX1_coins 0 = .ok (.aload_n 0, 1) := by decide +kernel
theorem dX1_coins_1 : decode cX1_coins 1 = .ok (.getfield 33, 3) := by decide +kernel
theorem dX1_coins_4 : decode cX1_coins 4 = .ok (.aload_n 0, 1) := by decide +kernel
theorem dX1_coins_5 : decode cX1_coins 5 = .ok (.getfield 15, 3) := by decide +kernel
theorem dX1_coins_8 : decode cX1_coins 8 = .ok (.iconst 1, 1) := by decide +kernel
theorem dX1_coins_9 : decode cX1_coins 9 = .ok (.iadd, 1) := by decide +kernel
theorem dX1_coins_10 : decode cX1_coins 10 = .ok (.imul, 1) := by decide +kernel
theorem dX1_coins_11 : decode cX1_coins 11 = .ok (.aload_n 0, 1) := by decide +kernel
theorem dX1_coins_12 : decode cX1_coins 12 = .ok (.getfield 33, 3) := by decide +kernel
theorem dX1_coins_15 : decode cX1_coins 15 = .ok (.aload_n 0, 1) := by decide +kernel
theorem dX1_coins_16 : decode cX1_coins 16 = .ok (.getfield 43, 3) := by decide +kernel
theorem dX1_coins_19 : decode cX1_coins 19 = .ok (.imul, 1) := by decide +kernel
theorem dX1_coins_20 : decode cX1_coins 20 = .ok (.bipush 20, 2) := by decide +kernel
theorem dX1_coins_22 : decode cX1_coins 22 = .ok (.idiv, 1) := by decide +kernel
theorem dX1_coins_23 : decode cX1_coins 23 = .ok (.isub, 1) := by decide +kernel
theorem dX1_coins_24 : decode cX1_coins 24 = .ok (.ireturn, 1) := by decide +kernel
theorem dX1_putIn_0 : decode cX1_putIn 0 = .ok (.aload_n 0, 1) := by decide +kernel
theorem dX1_putIn_1 : decode cX1_putIn 1 = .ok (.iload_n 1, 1) := by decide +kernel
theorem dX1_putIn_2 : decode cX1_putIn 2 = .ok (.putfield 9, 3) := by decide +kernel
theorem dX1_putIn_5 : decode cX1_putIn 5 = .ok (.aload_n 0, 1) := by decide +kernel
theorem dX1_putIn_6 : decode cX1_putIn 6 = .ok (.iload_n 2, 1) := by decide +kernel
theorem dX1_putIn_7 : decode cX1_putIn 7 = .ok (.putfield 15, 3) := by decide +kernel
theorem dX1_putIn_10 : decode cX1_putIn 10 = .ok (.aload_n 0, 1) := by decide +kernel
theorem dX1_putIn_11 : decode cX1_putIn 11 = .ok (.dup, 1) := by decide +kernel
theorem dX1_putIn_12 : decode cX1_putIn 12 = .ok (.getfield 33, 3) := by decide +kernel
theorem dX1_putIn_15 : decode cX1_putIn 15 = .ok (.iload_n 3, 1) := by decide +kernel
theorem dX1_putIn_16 : decode cX1_putIn 16 = .ok (.iadd, 1) := by decide +kernel
theorem dX1_putIn_17 : decode cX1_putIn 17 = .ok (.putfield 33, 3) := by decide +kernel
theorem dX1_putIn_20 : decode cX1_putIn 20 = .ok (.aload_n 0, 1) := by decide +kernel
theorem dX1_putIn_21 : decode cX1_putIn 21 = .ok (.ldc 21, 2) := by decide +kernel
theorem dX1_putIn_23 : decode cX1_putIn 23 = .ok (.putfield 23, 3) := by decide +kernel
theorem dX1_putIn_26 : decode cX1_putIn 26 = .ok (.return_, 1) := by decide +kernel
theorem dX1_takeAllOut_0 : decode cX1_takeAllOut 0 = .ok (.aload_n 0, 1) := by decide +kernel
theorem dX1_takeAllOut_1 : decode cX1_takeAllOut 1 = .ok (.iconst (-1), 1) := by decide +kernel
theorem dX1_takeAllOut_2 : decode cX1_takeAllOut 2 = .ok (.putfield 9, 3) := by decide +kernel
theorem dX1_takeAllOut_5 : decode cX1_takeAllOut 5 = .ok (.aload_n 0, 1) := by decide +kernel
theorem dX1_takeAllOut_6 : decode cX1_takeAllOut 6 = .ok (.iconst (-1), 1) := by decide +kernel
theorem dX1_takeAllOut_7 : decode cX1_takeAllOut 7 = .ok (.putfield 15, 3) := by decide +kernel
theorem dX1_takeAllOut_10 : decode cX1_takeAllOut 10 = .ok (.aload_n 0, 1) := by decide +kernel
theorem dX1_takeAllOut_11 : decode cX1_takeAllOut 11 = .ok (.iconst 0, 1) := by decide +kernel
theorem dX1_takeAllOut_12 : decode cX1_takeAllOut 12 = .ok (.putfield 33, 3) := by decide +kernel
theorem dX1_takeAllOut_15 : decode cX1_takeAllOut 15 = .ok (.aload_n 0, 1) := by decide +kernel
theorem dX1_takeAllOut_16 : decode cX1_takeAllOut 16 = .ok (.iconst 0, 1) := by decide +kernel
theorem dX1_takeAllOut_17 : decode cX1_takeAllOut 17 = .ok (.putfield 43, 3) := by decide +kernel
theorem dX1_takeAllOut_20 : decode cX1_takeAllOut 20 = .ok (.aload_n 0, 1) := by decide +kernel
theorem dX1_takeAllOut_21 : decode cX1_takeAllOut 21 = .ok (.ldc 21, 2) := by decide +kernel
theorem dX1_takeAllOut_23 : decode cX1_takeAllOut 23 = .ok (.putfield 23, 3) := by decide +kernel
theorem dX1_takeAllOut_26 : decode cX1_takeAllOut 26 = .ok (.return_, 1) := by decide +kernel
theorem dX1_writeLabel_0 : decode cX1_writeLabel 0 = .ok (.aload_n 0, 1) := by decide +kernel
theorem dX1_writeLabel_1 : decode cX1_writeLabel 1 = .ok (.getfield 15, 3) := by decide +kernel
theorem dX1_writeLabel_4 : decode cX1_writeLabel 4 = .ok (.ifCond .lt 14, 3) := by decide +kernel
theorem dX1_writeLabel_7 : decode cX1_writeLabel 7 = .ok (.aload_n 0, 1) := by decide +kernel
theorem dX1_writeLabel_8 : decode cX1_writeLabel 8 = .ok (.getfield 15, 3) := by decide +kernel
theorem dX1_writeLabel_11 : decode cX1_writeLabel 11 = .ok (.getstatic 52, 3) := by decide +kernel
theorem dX1_writeLabel_14 : decode cX1_writeLabel 14 = .ok (.arraylength, 1) := by decide +kernel
theorem dX1_writeLabel_15 : decode cX1_writeLabel 15 = .ok (.if_icmp .lt 4, 3) := by decide +kernel
theorem dX1_writeLabel_18 : decode cX1_writeLabel 18 = .ok (.return_, 1) := by decide +kernel
theorem dX1_writeLabel_19 : decode cX1_writeLabel 19 = .ok (.new 56, 3) := by decide +kernel
theorem dX1_writeLabel_22 : decode cX1_writeLabel 22 = .ok (.dup, 1) := by decide +kernel
theorem dX1_writeLabel_23 : decode cX1_writeLabel 23 = .ok (.invokespecial 58, 3) := by decide +kernel
theorem dX1_writeLabel_26 : decode cX1_writeLabel 26 = .ok (.astore_n 1, 1) := by decide +kernel
theorem dX1_writeLabel_27 : decode cX1_writeLabel 27 = .ok (.aload_n 1, 1) := by decide +kernel
theorem dX1_writeLabel_28 : decode cX1_writeLabel 28 = .ok (.aload_n 0, 1) := by decide +kernel
theorem dX1_writeLabel_29 : decode cX1_writeLabel 29 = .ok (.getfield 9, 3) := by decide +kernel
theorem dX1_writeLabel_32 : decode cX1_writeLabel 32 = .ok (.invokevirtual 59, 3) := by decide +kernel
theorem dX1_writeLabel_35 : decode cX1_writeLabel 35 = .ok (.bipush 46, 2) := by decide +kernel
theorem dX1_writeLabel_37 : decode cX1_writeLabel 37 = .ok (.invokevirtual 63, 3) := by decide +kernel
theorem dX1_writeLabel_40 : decode cX1_writeLabel 40 = .ok (.getstatic 52, 3) := by decide +kernel
theorem dX1_writeLabel_43 : decode cX1_writeLabel 43 = .ok (.aload_n 0, 1) := by decide +kernel
theorem dX1_writeLabel_44 : decode cX1_writeLabel 44 = .ok (.getfield 15, 3) := by decide +kernel
theorem dX1_writeLabel_47 : decode cX1_writeLabel 47 = .ok (.aaload, 1) := by decide +kernel
theorem dX1_writeLabel_48 : decode cX1_writeLabel 48 = .ok (.getfield 66, 3) := by decide +kernel
theorem dX1_writeLabel_51 : decode cX1_writeLabel 51 = .ok (.invokevirtual 71, 3) := by decide +kernel
theorem dX1_writeLabel_54 : decode cX1_writeLabel 54 = .ok (.bipush 32, 2) := by decide +kernel
theorem dX1_writeLabel_56 : decode cX1_writeLabel 56 = .ok (.invokevirtual 63, 3) := by decide +kernel
theorem dX1_writeLabel_59 : decode cX1_writeLabel 59 = .ok (.aload_n 0, 1) := by decide +kernel
theorem dX1_writeLabel_60 : decode cX1_writeLabel 60 = .ok (.getfield 33, 3) := by decide +kernel
theorem dX1_writeLabel_63 : decode cX1_writeLabel 63 = .ok (.invokevirtual 59, 3) := by decide +kernel
theorem dX1_writeLabel_66 : decode cX1_writeLabel 66 = .ok (.pop, 1) := by decide +kernel
theorem dX1_writeLabel_67 : decode cX1_writeLabel 67 = .ok (.aload_n 0, 1) := by decide +kernel
theorem dX1_writeLabel_68 : decode cX1_writeLabel 68 = .ok (.getfield 43, 3) := by decide +kernel
theorem dX1_writeLabel_71 : decode cX1_writeLabel 71 = .ok (.iconst 1, 1) := by decide +kernel
theorem dX1_writeLabel_72 : decode cX1_writeLabel 72 = .ok (.if_icmp .lt 10, 3) := by decide +kernel
theorem dX1_writeLabel_75 : decode cX1_writeLabel 75 = .ok (.aload_n 1, 1) := by decide +kernel
theorem dX1_writeLabel_76 : decode cX1_writeLabel 76 = .ok (.ldc 74, 2) := by decide +kernel
theorem dX1_writeLabel_78 : decode cX1_writeLabel 78 = .ok (.invokevirtual 71, 3) := by decide +kernel
theorem dX1_writeLabel_81 : decode cX1_writeLabel 81 = .ok (.pop, 1) := by decide +kernel
theorem dX1_writeLabel_82 : decode cX1_writeLabel 82 = .ok (.aload_n 0, 1) := by decide +kernel
theorem dX1_writeLabel_83 : decode cX1_writeLabel 83 = .ok (.aload_n 1, 1) := by decide +kernel
theorem dX1_writeLabel_84 : decode cX1_writeLabel 84 = .ok (.invokevirtual 76, 3) := by decide +kernel
theorem dX1_writeLabel_87 : decode cX1_writeLabel 87 = .ok (.putfield 23, 3) := by decide +kernel
theorem dX1_writeLabel_90 : decode cX1_writeLabel 90 = .ok (.return_, 1) := by decide +kernel
theorem dX1_becomeDamper_0 : decode cX1_becomeDamper 0 = .ok (.aload_n 0, 1) := by decide +kernel
theorem dX1_becomeDamper_1 : decode cX1_becomeDamper 1 = .ok (.getfield 18, 3) := by decide +kernel
theorem dX1_becomeDamper_4 : decode cX1_becomeDamper 4 = .ok (.ifCond .ne 36, 3) := by decide +kernel
theorem dX1_becomeDamper_7 : decode cX1_becomeDamper 7 = .ok (.aload_n 0, 1) := by decide +kernel
theorem dX1_becomeDamper_8 : decode cX1_becomeDamper 8 = .ok (.getfield 33, 3) := by decide +kernel
theorem dX1_becomeDamper_11 : decode cX1_becomeDamper 11 = .ok (.ifCond .le 29, 3) := by decide +kernel
theorem dX1_becomeDamper_14 : decode cX1_becomeDamper 14 = .ok (.aload_n 0, 1) := by decide +kernel
theorem dX1_becomeDamper_15 : decode cX1_becomeDamper 15 = .ok (.invokevirtual 80, 3) := by decide +kernel
theorem dX1_becomeDamper_18 : decode cX1_becomeDamper 18 = .ok (.ifCond .ne 22, 3) := by decide +kernel
theorem dX1_becomeDamper_21 : decode cX1_becomeDamper 21 = .ok (.aload_n 0, 1) := by decide +kernel
theorem dX1_becomeDamper_22 : decode cX1_becomeDamper 22 = .ok (.getfield 43, 3) := by decide +kernel
theorem dX1_becomeDamper_25 : decode cX1_becomeDamper 25 = .ok (.bipush 20, 2) := by decide +kernel
theorem dX1_becomeDamper_27 : decode cX1_becomeDamper 27 = .ok (.if_icmp .ge 13, 3) := by decide +kernel
theorem dX1_becomeDamper_30 : decode cX1_becomeDamper 30 = .ok (.aload_n 0, 1) := by decide +kernel
theorem dX1_becomeDamper_31 : decode cX1_becomeDamper 31 = .ok (.dup, 1) := by decide +kernel
theorem dX1_becomeDamper_32 : decode cX1_becomeDamper 32 = .ok (.getfield 43, 3) := by decide +kernel
theorem dX1_becomeDamper_35 : decode cX1_becomeDamper 35 = .ok (.iconst 1, 1) := by decide +kernel
theorem dX1_becomeDamper_36 : decode cX1_becomeDamper 36 = .ok (.iadd, 1) := by decide +kernel
theorem dX1_becomeDamper_37 : decode cX1_becomeDamper 37 = .ok (.putfield 43, 3) := by decide +kernel
theorem dX1_becomeDamper_40 : decode cX1_becomeDamper 40 = .ok (.return_, 1) := by decide +kernel
theorem dX1_ranksBefore_0 : decode cX1_ranksBefore 0 = .ok (.aload_n 0, 1) := by decide +kernel
theorem dX1_ranksBefore_1 : decode cX1_ranksBefore 1 = .ok (.invokevirtual 83, 3) := by decide +kernel
theorem dX1_ranksBefore_4 : decode cX1_ranksBefore 4 = .ok (.aload_n 1, 1) := by decide +kernel
theorem dX1_ranksBefore_5 : decode cX1_ranksBefore 5 = .ok (.invokevirtual 83, 3) := by decide +kernel
theorem dX1_ranksBefore_8 : decode cX1_ranksBefore 8 = .ok (.if_icmp .eq 20, 3) := by decide +kernel
theorem dX1_ranksBefore_11 : decode cX1_ranksBefore 11 = .ok (.aload_n 0, 1) := by decide +kernel
theorem dX1_ranksBefore_12 : decode cX1_ranksBefore 12 = .ok (.invokevirtual 83, 3) := by decide +kernel
theorem dX1_ranksBefore_15 : decode cX1_ranksBefore 15 = .ok (.aload_n 1, 1) := by decide +kernel
theorem dX1_ranksBefore_16 : decode cX1_ranksBefore 16 = .ok (.invokevirtual 83, 3) := by decide +kernel
theorem dX1_ranksBefore_19 : decode cX1_ranksBefore 19 = .ok (.if_icmp .le 7, 3) := by decide +kernel
theorem dX1_ranksBefore_22 : decode cX1_ranksBefore 22 = .ok (.iconst 1, 1) := by decide +kernel
theorem dX1_ranksBefore_23 : decode cX1_ranksBefore 23 = .ok (.goto 4, 3) := by decide +kernel
theorem dX1_ranksBefore_26 : decode cX1_ranksBefore 26 = .ok (.iconst 0, 1) := by decide +kernel
theorem dX1_ranksBefore_27 : decode cX1_ranksBefore 27 = .ok (.ireturn, 1) := by decide +kernel
theorem dX1_ranksBefore_28 : decode cX1_ranksBefore 28 = .ok (.aload_n 0, 1) := by decide +kernel
theorem dX1_ranksBefore_29 : decode cX1_ranksBefore 29 = .ok (.getfield 43, 3) := by decide +kernel
theorem dX1_ranksBefore_32 : decode cX1_ranksBefore 32 = .ok (.aload_n 1, 1) := by decide +kernel
theorem dX1_ranksBefore_33 : decode cX1_ranksBefore 33 = .ok (.getfield 43, 3) := by decide +kernel
theorem dX1_ranksBefore_36 : decode cX1_ranksBefore 36 = .ok (.if_icmp .eq 20, 3) := by decide +kernel
theorem dX1_ranksBefore_39 : decode cX1_ranksBefore 39 = .ok (.aload_n 0, 1) := by decide +kernel
theorem dX1_ranksBefore_40 : decode cX1_ranksBefore 40 = .ok (.getfield 43, 3) := by decide +kernel
theorem dX1_ranksBefore_43 : decode cX1_ranksBefore 43 = .ok (.aload_n 1, 1) := by decide +kernel
theorem dX1_ranksBefore_44 : decode cX1_ranksBefore 44 = .ok (.getfield 43, 3) := by decide +kernel
theorem dX1_ranksBefore_47 : decode cX1_ranksBefore 47 = .ok (.if_icmp .ge 7, 3) := by decide +kernel
theorem dX1_ranksBefore_50 : decode cX1_ranksBefore 50 = .ok (.iconst 1, 1) := by decide +kernel
theorem dX1_ranksBefore_51 : decode cX1_ranksBefore 51 = .ok (.goto 4, 3) := by decide +kernel
theorem dX1_ranksBefore_54 : decode cX1_ranksBefore 54 = .ok (.iconst 0, 1) := by decide +kernel
theorem dX1_ranksBefore_55 : decode cX1_ranksBefore 55 = .ok (.ireturn, 1) := by decide +kernel
theorem dX1_ranksBefore_56 : decode cX1_ranksBefore 56 = .ok (.aload_n 0, 1) := by decide +kernel
theorem dX1_ranksBefore_57 : decode cX1_ranksBefore 57 = .ok (.getfield 27, 3) := by decide +kernel
theorem dX1_ranksBefore_60 : decode cX1_ranksBefore 60 = .ok (.aload_n 1, 1) := by decide +kernel
theorem dX1_ranksBefore_61 : decode cX1_ranksBefore 61 = .ok (.getfield 27, 3) := by decide +kernel
theorem dX1_ranksBefore_64 : decode cX1_ranksBefore 64 = .ok (.if_icmp .ge 7, 3) := by decide +kernel
theorem dX1_ranksBefore_67 : decode cX1_ranksBefore 67 = .ok (.iconst 1, 1) := by decide +kernel
theorem dX1_ranksBefore_68 : decode cX1_ranksBefore 68 = .ok (.goto 4, 3) := by decide +kernel
theorem dX1_ranksBefore_71 : decode cX1_ranksBefore 71 = .ok (.iconst 0, 1) := by decide +kernel
theorem dX1_ranksBefore_72 : decode cX1_ranksBefore 72 = .ok (.ireturn, 1) := by decide +kernel
theorem dX2_init_0 : decode cX2_init 0 = .ok (.aload_n 0, 1) := by decide +kernel
theorem dX2_init_1 : decode cX2_init 1 = .ok (.invokespecial 3, 3) := by decide +kernel
theorem dX2_init_4 : decode cX2_init 4 = .ok (.aload_n 0, 1) := by decide +kernel
theorem dX2_init_5 : decode cX2_init 5 = .ok (.bipush 60, 2) := by decide +kernel
theorem dX2_init_7 : decode cX2_init 7 = .ok (.newarray .char, 2) := by decide +kernel
theorem dX2_init_9 : decode cX2_init 9 = .ok (.putfield 9, 3) := by decide +kernel
theorem dX2_init_12 : decode cX2_init 12 = .ok (.return_, 1) := by decide +kernel
theorem dX2_append_0 : decode cX2_append 0 = .ok (.aload_n 0, 1) := by decide +kernel
theorem dX2_append_1 : decode cX2_append 1 = .ok (.getfield 15, 3) := by decide +kernel
theorem dX2_append_4 : decode cX2_append 4 = .ok (.aload_n 0, 1) := by decide +kernel
theorem dX2_append_5 : decode cX2_append 5 = .ok (.getfield 9, 3) := by decide +kernel
theorem dX2_append_8 : decode cX2_append 8 = .ok (.arraylength, 1) := by decide +kernel
theorem dX2_append_9 : decode cX2_append 9 = .ok (.if_icmp .lt 5, 3) := by decide +kernel
theorem dX2_append_12 : decode cX2_append 12 = .ok (.iconst 0, 1) := by decide +kernel
theorem dX2_append_13 : decode cX2_append 13 = .ok (.ireturn, 1) := by decide +kernel
theorem dX2_append_14 : decode cX2_append 14 = .ok (.aload_n 0, 1) := by decide +kernel
theorem dX2_append_15 : decode cX2_append 15 = .ok (.getfield 9, 3) := by decide +kernel
theorem dX2_append_18 : decode cX2_append 18 = .ok (.aload_n 0, 1) := by decide +kernel
theorem dX2_append_19 : decode cX2_append 19 = .ok (.getfield 15, 3) := by decide +kernel
theorem dX2_append_22 : decode cX2_append 22 = .ok (.iload_n 1, 1) := by decide +kernel
theorem dX2_append_23 : decode cX2_append 23 = .ok (.castore, 1) := by decide +kernel
theorem dX2_append_24 : decode cX2_append 24 = .ok (.aload_n 0, 1) := by decide +kernel
theorem dX2_append_25 : decode cX2_append 25 = .ok (.dup, 1) := by decide +kernel
theorem dX2_append_26 : decode cX2_append 26 = .ok (.getfield 15, 3) := by decide +kernel
theorem dX2_append_29 : decode cX2_append 29 = .ok (.iconst 1, 1) := by decide +kernel
theorem dX2_append_30 : decode cX2_append 30 = .ok (.iadd, 1) := by decide +kernel
theorem dX2_append_31 : decode cX2_append 31 = .ok (.putfield 15, 3) := by decide +kernel
theorem dX2_append_34 : decode cX2_append 34 = .ok (.iconst 1, 1) := by decide +kernel
theorem dX2_append_35 : decode cX2_append 35 = .ok (.ireturn, 1) := by decide +kernel
theorem dX2_clear_0 : decode cX2_clear 0 = .ok (.aload_n 0, 1) := by decide +kernel
theorem dX2_clear_1 : decode cX2_clear 1 = .ok (.iconst 0, 1) := by decide +kernel
theorem dX2_clear_2 : decode cX2_clear 2 = .ok (.putfield 15, 3) := by decide +kernel
theorem dX2_clear_5 : decode cX2_clear 5 = .ok (.return_, 1) := by decide +kernel
theorem dX2_rewind_0 : decode cX2_rewind 0 = .ok (.aload_n 0, 1) := by decide +kernel
theorem dX2_rewind_1 : decode cX2_rewind 1 = .ok (.iconst 0, 1) := by decide +kernel
theorem dX2_rewind_2 : decode cX2_rewind 2 = .ok (.putfield 19, 3) := by decide +kernel
theorem dX2_rewind_5 : decode cX2_rewind 5 = .ok (.return_, 1) := by decide +kernel
theorem dX2_countCommands_0 : decode cX2_countCommands 0 = .ok (.aload_n 0, 1) := by decide +kernel
theorem dX2_countCommands_1 : decode cX2_countCommands 1 = .ok (.invokevirtual 22, 3) := by decide +kernel
theorem dX2_countCommands_4 : decode cX2_countCommands 4 = .ok (.iconst 1, 1) := by decide +kernel
theorem dX2_countCommands_5 : decode cX2_countCommands 5 = .ok (.istore_n 1, 1) := by decide +kernel
theorem dX2_countCommands_6 : decode cX2_countCommands 6 = .ok (.iload_n 1, 1) := by decide +kernel
theorem dX2_countCommands_7 : decode cX2_countCommands 7 = .ok (.bipush 60, 2) := by decide +kernel
theorem dX2_countCommands_9 : decode cX2_countCommands 9 = .ok (.if_icmp .gt 54, 3) := by decide +kernel
theorem dX2_countCommands_12 : decode cX2_countCommands 12 = .ok (.aload_n 0, 1) := by decide +kernel
theorem dX2_countCommands_13 : decode cX2_countCommands 13 = .ok (.invokevirtual 25, 3) := by decide +kernel
theorem dX2_countCommands_16 : decode cX2_countCommands 16 = .ok (.ifCond .ne 11, 3) := by decide +kernel
theorem dX2_countCommands_19 : decode cX2_countCommands 19 = .ok (.bipush (-100), 2) := by decide +kernel
theorem dX2_countCommands_21 : decode cX2_countCommands 21 = .ok (.aload_n 0, 1) := by decide +kernel
theorem dX2_countCommands_22 : decode cX2_countCommands 22 = .ok (.getfield 19, 3) := by decide +kernel
theorem dX2_countCommands_25 : decode cX2_countCommands 25 = .ok (.isub, 1) := by decide +kernel
theorem dX2_countCommands_26 : decode cX2_countCommands 26 = .ok (.ireturn, 1) := by decide +kernel
theorem dX2_countCommands_27 : decode cX2_countCommands 27 = .ok (.aload_n 0, 1) := by decide +kernel
theorem dX2_countCommands_28 : decode cX2_countCommands 28 = .ok (.getfield 19, 3) := by decide +kernel
theorem dX2_countCommands_31 : decode cX2_countCommands 31 = .ok (.aload_n 0, 1) := by decide +kernel
theorem dX2_countCommands_32 : decode cX2_countCommands 32 = .ok (.getfield 15, 3) := by decide +kernel
theorem dX2_countCommands_35 : decode cX2_countCommands 35 = .ok (.if_icmp .ne 5, 3) := by decide +kernel
theorem dX2_countCommands_38 : decode cX2_countCommands 38 = .ok (.iload_n 1, 1) := by decide +kernel
theorem dX2_countCommands_39 : decode cX2_countCommands 39 = .ok (.ireturn, 1) := by decide +kernel
theorem dX2_countCommands_40 : decode cX2_countCommands 40 = .ok (.aload_n 0, 1) := by decide +kernel
theorem dX2_countCommands_41 : decode cX2_countCommands 41 = .ok (.bipush 59, 2) := by decide +kernel
theorem dX2_countCommands_43 : decode cX2_countCommands 43 = .ok (.invokevirtual 29, 3) := by decide +kernel
theorem dX2_countCommands_46 : decode cX2_countCommands 46 = .ok (.ifCond .ne 11, 3) := by decide +kernel
theorem dX2_countCommands_49 : decode cX2_countCommands 49 = .ok (.bipush (-100), 2) := by decide +kernel
theorem dX2_countCommands_51 : decode cX2_countCommands 51 = .ok (.aload_n 0, 1) := by decide +kernel
theorem dX2_countCommands_52 : decode cX2_countCommands 52 = .ok (.getfield 19, 3) := by decide +kernel
theorem dX2_countCommands_55 : decode cX2_countCommands 55 = .ok (.isub, 1) := by decide +kernel
theorem dX2_countCommands_56 : decode cX2_countCommands 56 = .ok (.ireturn, 1) := by decide +kernel
theorem dX2_countCommands_57 : decode cX2_countCommands 57 = .ok (.iinc 1 1, 3) := by decide +kernel
theorem dX2_countCommands_60 : decode cX2_countCommands 60 = .ok (.goto (-54), 3) := by decide +kernel
theorem dX2_countCommands_63 : decode cX2_countCommands 63 = .ok (.bipush (-100), 2) := by decide +kernel
theorem dX2_countCommands_65 : decode cX2_countCommands 65 = .ok (.aload_n 0, 1) := by decide +kernel
theorem dX2_countCommands_66 : decode cX2_countCommands 66 = .ok (.getfield 19, 3) := by decide +kernel
theorem dX2_countCommands_69 : decode cX2_countCommands 69 = .ok (.isub, 1) := by decide +kernel
theorem dX2_countCommands_70 : decode cX2_countCommands 70 = .ok (.ireturn, 1) := by decide +kernel
theorem dX2_readCommand_0 : decode cX2_readCommand 0 = .ok (.aload_n 0, 1) := by decide +kernel
theorem dX2_readCommand_1 : decode cX2_readCommand 1 = .ok (.aload_n 0, 1) := by decide +kernel
theorem dX2_readCommand_2 : decode cX2_readCommand 2 = .ok (.invokevirtual 33, 3) := by decide +kernel
theorem dX2_readCommand_5 : decode cX2_readCommand 5 = .ok (.putfield 37, 3) := by decide +kernel
theorem dX2_readCommand_8 : decode cX2_readCommand 8 = .ok (.aload_n 0, 1) := by decide +kernel
theorem dX2_readCommand_9 : decode cX2_readCommand 9 = .ok (.getfield 37, 3) := by decide +kernel
theorem dX2_readCommand_12 : decode cX2_readCommand 12 = .ok (.ifnonnull 5, 3) := by decide +kernel
theorem dX2_readCommand_15 : decode cX2_readCommand 15 = .ok (.iconst 0, 1) := by decide +kernel
theorem dX2_readCommand_16 : decode cX2_readCommand 16 = .ok (.ireturn, 1) := by decide +kernel
theorem dX2_readCommand_17 : decode cX2_readCommand 17 = .ok (.getstatic 41, 3) := by decide +kernel
theorem dX2_readCommand_20 : decode cX2_readCommand 20 = .ok (.aload_n 0, 1) := by decide +kernel
theorem dX2_readCommand_21 : decode cX2_readCommand 21 = .ok (.getfield 37, 3) := by decide +kernel
theorem dX2_readCommand_24 : decode cX2_readCommand 24 = .ok (.invokevirtual 47, 3) := by decide +kernel
theorem dX2_readCommand_27 : decode cX2_readCommand 27 = .ok (.iaload, 1) := by decide +kernel
theorem dX2_readCommand_28 : decode cX2_readCommand 28 = .ok (.tableswitch 125 2 8 #[51, 96, 125, 125, 125, 44, 46], 44) := by decide +kernel
theorem dX2_readCommand_72 : decode cX2_readCommand 72 = .ok (.iconst 1, 1) := by decide +kernel
theorem dX2_readCommand_73 : decode cX2_readCommand 73 = .ok (.ireturn, 1) := by decide +kernel
theorem dX2_readCommand_74 : decode cX2_readCommand 74 = .ok (.aload_n 0, 1) := by decide +kernel
theorem dX2_readCommand_75 : decode cX2_readCommand 75 = .ok (.invokevirtual 53, 3) := by decide +kernel
theorem dX2_readCommand_78 : decode cX2_readCommand 78 = .ok (.ireturn, 1) := by decide +kernel
theorem dX2_readCommand_79 : decode cX2_readCommand 79 = .ok (.aload_n 0, 1) := by decide +kernel
theorem dX2_readCommand_80 : decode cX2_readCommand 80 = .ok (.invokevirtual 56, 3) := by decide +kernel
theorem dX2_readCommand_83 : decode cX2_readCommand 83 = .ok (.ifCond .eq 39, 3) := by decide +kernel
theorem dX2_readCommand_86 : decode cX2_readCommand 86 = .ok (.aload_n 0, 1) := by decide +kernel
theorem dX2_readCommand_87 : decode cX2_readCommand 87 = .ok (.bipush 32, 2) := by decide +kernel
theorem dX2_readCommand_89 : decode cX2_readCommand 89 = .ok (.invokevirtual 29, 3) := by decide +kernel
theorem dX2_readCommand_92 : decode cX2_readCommand 92 = .ok (.ifCond .eq 30, 3) := by decide +kernel
theorem dX2_readCommand_95 : decode cX2_readCommand 95 = .ok (.aload_n 0, 1) := by decide +kernel
theorem dX2_readCommand_96 : decode cX2_readCommand 96 = .ok (.invokevirtual 59, 3) := by decide +kernel
theorem dX2_readCommand_99 : decode cX2_readCommand 99 = .ok (.ifCond .eq 23, 3) := by decide +kernel
theorem dX2_readCommand_102 : decode cX2_readCommand 102 = .ok (.aload_n 0, 1) := by decide +kernel
theorem dX2_readCommand_103 : decode cX2_readCommand 103 = .ok (.bipush 32, 2) := by decide +kernel
theorem dX2_readCommand_105 : decode cX2_readCommand 105 = .ok (.invokevirtual 29, 3) := by decide +kernel
theorem dX2_readCommand_108 : decode cX2_readCommand 108 = .ok (.ifCond .eq 14, 3) := by decide +kernel
theorem dX2_readCommand_111 : decode cX2_readCommand 111 = .ok (.aload_n 0, 1) := by decide +kernel
theorem dX2_readCommand_112 : decode cX2_readCommand 112 = .ok (.invokevirtual 53, 3) := by decide +kernel
theorem dX2_readCommand_115 : decode cX2_readCommand 115 = .ok (.ifCond .eq 7, 3) := by decide +kernel
theorem dX2_readCommand_118 : decode cX2_readCommand 118 = .ok (.iconst 1, 1) := by decide +kernel
theorem dX2_readCommand_119 : decode cX2_readCommand 119 = .ok (.goto 4, 3) := by decide +kernel
theorem dX2_readCommand_122 : decode cX2_readCommand 122 = .ok (.iconst 0, 1) := by decide +kernel
theorem dX2_readCommand_123 : decode cX2_readCommand 123 = .ok (.ireturn, 1) := by decide +kernel
theorem dX2_readCommand_124 : decode cX2_readCommand 124 = .ok (.aload_n 0, 1) := by decide +kernel
theorem dX2_readCommand_125 : decode cX2_readCommand 125 = .ok (.invokevirtual 56, 3) := by decide +kernel
theorem dX2_readCommand_128 : decode cX2_readCommand 128 = .ok (.ifCond .eq 23, 3) := by decide +kernel
theorem dX2_readCommand_131 : decode cX2_readCommand 131 = .ok (.aload_n 0, 1) := by decide +kernel
theorem dX2_readCommand_132 : decode cX2_readCommand 132 = .ok (.bipush 32, 2) := by decide +kernel
theorem dX2_readCommand_134 : decode cX2_readCommand 134 = .ok (.invokevirtual 29, 3) := by decide +kernel
theorem dX2_readCommand_137 : decode cX2_readCommand 137 = .ok (.ifCond .eq 14, 3) := by decide +kernel
theorem dX2_readCommand_140 : decode cX2_readCommand 140 = .ok (.aload_n 0, 1) := by decide +kernel
theorem dX2_readCommand_141 : decode cX2_readCommand 141 = .ok (.invokevirtual 62, 3) := by decide +kernel
theorem dX2_readCommand_144 : decode cX2_readCommand 144 = .ok (.ifCond .eq 7, 3) := by decide +kernel
theorem dX2_readCommand_147 : decode cX2_readCommand 147 = .ok (.iconst 1, 1) := by decide +kernel
theorem dX2_readCommand_148 : decode cX2_readCommand 148 = .ok (.goto 4, 3) := by decide +kernel
theorem dX2_readCommand_151 : decode cX2_readCommand 151 = .ok (.iconst 0, 1) := by decide +kernel
theorem dX2_readCommand_152 : decode cX2_readCommand 152 = .ok (.ireturn, 1) := by decide +kernel
theorem dX2_readCommand_153 : decode cX2_readCommand 153 = .ok (.aload_n 0, 1) := by decide +kernel
theorem dX2_readCommand_154 : decode cX2_readCommand 154 = .ok (.invokevirtual 56, 3) := by decide +kernel
theorem dX2_readCommand_157 : decode cX2_readCommand 157 = .ok (.ireturn, 1) := by decide +kernel
theorem dX2_readSign_0 : decode cX2_readSign 0 = .ok (.aload_n 0, 1) := by decide +kernel
theorem dX2_readSign_1 : decode cX2_readSign 1 = .ok (.aload_n 0, 1) := by decide +kernel
theorem dX2_readSign_2 : decode cX2_readSign 2 = .ok (.getfield 19, 3) := by decide +kernel
theorem dX2_readSign_5 : decode cX2_readSign 5 = .ok (.invokevirtual 65, 3) := by decide +kernel
theorem dX2_readSign_8 : decode cX2_readSign 8 = .ok (.iload_n 1, 1) := by decide +kernel
theorem dX2_readSign_9 : decode cX2_readSign 9 = .ok (.if_icmp .eq 5, 3) := by decide +kernel
theorem dX2_readSign_12 : decode cX2_readSign 12 = .ok (.iconst 0, 1) := by decide +kernel
theorem dX2_readSign_13 : decode cX2_readSign 13 = .ok (.ireturn, 1) := by decide +kernel
theorem dX2_readSign_14 : decode cX2_readSign 14 = .ok (.aload_n 0, 1) := by decide +kernel
theorem dX2_readSign_15 : decode cX2_readSign 15 = .ok (.dup, 1) := by decide +kernel
theorem dX2_readSign_16 : decode cX2_readSign 16 = .ok (.getfield 19, 3) := by decide +kernel
theorem dX2_readSign_19 : decode cX2_readSign 19 = .ok (.iconst 1, 1) := by decide +kernel
theorem dX2_readSign_20 : decode cX2_readSign 20 = .ok (.iadd, 1) := by decide +kernel
theorem dX2_readSign_21 : decode cX2_readSign 21 = .ok (.putfield 19, 3) := by decide +kernel
theorem dX2_readSign_24 : decode cX2_readSign 24 = .ok (.iconst 1, 1) := by decide +kernel
theorem dX2_readSign_25 : decode cX2_readSign 25 = .ok (.ireturn, 1) := by decide +kernel
theorem dX2_signAt_0 : decode cX2_signAt 0 = .ok (.iload_n 1, 1) := by decide +kernel
theorem dX2_signAt_1 : decode cX2_signAt 1 = .ok (.ifCond .lt 29, 3) := by decide +kernel
theorem dX2_signAt_4 : decode cX2_signAt 4 = .ok (.iload_n 1, 1) := by decide +kernel
theorem dX2_signAt_5 : decode cX2_signAt 5 = .ok (.aload_n 0, 1) := by decide +kernel
theorem dX2_signAt_6 : decode cX2_signAt 6 = .ok (.getfield 15, 3) := by decide +kernel
theorem dX2_signAt_9 : decode cX2_signAt 9 = .ok (.if_icmp .ge 21, 3) := by decide +kernel
theorem dX2_signAt_12 : decode cX2_signAt 12 = .ok (.iload_n 1, 1) := by decide +kernel
theorem dX2_signAt_13 : decode cX2_signAt 13 = .ok (.aload_n 0, 1) := by decide +kernel
theorem dX2_signAt_14 : decode cX2_signAt 14 = .ok (.getfield 9, 3) := by decide +kernel
theorem dX2_signAt_17 : decode cX2_signAt 17 = .ok (.arraylength, 1) := by decide +kernel
theorem dX2_signAt_18 : decode cX2_signAt 18 = .ok (.if_icmp .ge 12, 3) := by decide +kernel
theorem dX2_signAt_21 : decode cX2_signAt 21 = .ok (.aload_n 0, 1) := by decide +kernel
theorem dX2_signAt_22 : decode cX2_signAt 22 = .ok (.getfield 9, 3) := by decide +kernel
theorem dX2_signAt_25 : decode cX2_signAt 25 = .ok (.iload_n 1, 1) := by decide +kernel
theorem dX2_signAt_26 : decode cX2_signAt 26 = .ok (.caload, 1) := by decide +kernel
theorem dX2_signAt_27 : decode cX2_signAt 27 = .ok (.goto 4, 3) := by decide +kernel
theorem dX2_signAt_30 : decode cX2_signAt 30 = .ok (.iconst (-1), 1) := by decide +kernel
theorem dX2_signAt_31 : decode cX2_signAt 31 = .ok (.ireturn, 1) := by decide +kernel
theorem dX2_readLeaf_0 : decode cX2_readLeaf 0 = .ok (.aload_n 0, 1) := by decide +kernel
theorem dX2_readLeaf_1 : decode cX2_readLeaf 1 = .ok (.aload_n 0, 1) := by decide +kernel
theorem dX2_readLeaf_2 : decode cX2_readLeaf 2 = .ok (.invokevirtual 69, 3) := by decide +kernel
theorem dX2_readLeaf_5 : decode cX2_readLeaf 5 = .ok (.putfield 72, 3) := by decide +kernel
theorem dX2_readLeaf_8 : decode cX2_readLeaf 8 = .ok (.aload_n 0, 1) := by decide +kernel
theorem dX2_readLeaf_9 : decode cX2_readLeaf 9 = .ok (.getfield 72, 3) := by decide +kernel
theorem dX2_readLeaf_12 : decode cX2_readLeaf 12 = .ok (.ifCond .lt 23, 3) := by decide +kernel
theorem dX2_readLeaf_15 : decode cX2_readLeaf 15 = .ok (.aload_n 0, 1) := by decide +kernel
theorem dX2_readLeaf_16 : decode cX2_readLeaf 16 = .ok (.bipush 46, 2) := by decide +kernel
theorem dX2_readLeaf_18 : decode cX2_readLeaf 18 = .ok (.invokevirtual 29, 3) := by decide +kernel
theorem dX2_readLeaf_21 : decode cX2_readLeaf 21 = .ok (.ifCond .eq 14, 3) := by decide +kernel
theorem dX2_readLeaf_24 : decode cX2_readLeaf 24 = .ok (.aload_n 0, 1) := by decide +kernel
theorem dX2_readLeaf_25 : decode cX2_readLeaf 25 = .ok (.invokevirtual 75, 3) := by decide +kernel
theorem dX2_readLeaf_28 : decode cX2_readLeaf 28 = .ok (.ifCond .eq 7, 3) := by decide +kernel
theorem dX2_readLeaf_31 : decode cX2_readLeaf 31 = .ok (.iconst 1, 1) := by decide +kernel
theorem dX2_readLeaf_32 : decode cX2_readLeaf 32 = .ok (.goto 4, 3) := by decide +kernel
theorem dX2_readLeaf_35 : decode cX2_readLeaf 35 = .ok (.iconst 0, 1) := by decide +kernel
theorem dX2_readLeaf_36 : decode cX2_readLeaf 36 = .ok (.ireturn, 1) := by decide +kernel
theorem dX2_readChest_0 : decode cX2_readChest 0 = .ok (.aload_n 0, 1) := by decide +kernel
theorem dX2_readChest_1 : decode cX2_readChest 1 = .ok (.aload_n 0, 1) := by decide +kernel
theorem dX2_readChest_2 : decode cX2_readChest 2 = .ok (.invokevirtual 78, 3) := by decide +kernel
theorem dX2_readChest_5 : decode cX2_readChest 5 = .ok (.putfield 81, 3) := by decide +kernel
theorem dX2_readChest_8 : decode cX2_readChest 8 = .ok (.aload_n 0, 1) := by decide +kernel
theorem dX2_readChest_9 : decode cX2_readChest 9 = .ok (.getfield 81, 3) := by decide +kernel
theorem dX2_readChest_12 : decode cX2_readChest 12 = .ok (.ifCond .lt 7, 3) := by decide +kernel
theorem dX2_readChest_15 : decode cX2_readChest 15 = .ok (.iconst 1, 1) := by decide +kernel
theorem dX2_readChest_16 : decode cX2_readChest 16 = .ok (.goto 4, 3) := by decide +kernel
theorem dX2_readChest_19 : decode cX2_readChest 19 = .ok (.iconst 0, 1) := by decide +kernel
theorem dX2_readChest_20 : decode cX2_readChest 20 = .ok (.ireturn, 1) := by decide +kernel
theorem dX2_readManyAsNumber_0 : decode cX2_readManyAsNumber 0 = .ok (.aload_n 0, 1) := by decide +kernel
theorem dX2_readManyAsNumber_1 : decode cX2_readManyAsNumber 1 = .ok (.aload_n 0, 1) := by decide +kernel
theorem dX2_readManyAsNumber_2 : decode cX2_readManyAsNumber 2 = .ok (.invokevirtual 78, 3) := by decide +kernel
theorem dX2_readManyAsNumber_5 : decode cX2_readManyAsNumber 5 = .ok (.putfield 84, 3) := by decide +kernel
theorem dX2_readManyAsNumber_8 : decode cX2_readManyAsNumber 8 = .ok (.aload_n 0, 1) := by decide +kernel
theorem dX2_readManyAsNumber_9 : decode cX2_readManyAsNumber 9 = .ok (.getfield 84, 3) := by decide +kernel
theorem dX2_readManyAsNumber_12 : decode cX2_readManyAsNumber 12 = .ok (.ifCond .lt 7, 3) := by decide +kernel
theorem dX2_readManyAsNumber_15 : decode cX2_readManyAsNumber 15 = .ok (.iconst 1, 1) := by decide +kernel
theorem dX2_readManyAsNumber_16 : decode cX2_readManyAsNumber 16 = .ok (.goto 4, 3) := by decide +kernel
theorem dX2_readManyAsNumber_19 : decode cX2_readManyAsNumber 19 = .ok (.iconst 0, 1) := by decide +kernel
theorem dX2_readManyAsNumber_20 : decode cX2_readManyAsNumber 20 = .ok (.ireturn, 1) := by decide +kernel
theorem dX2_readManyAsDigit_0 : decode cX2_readManyAsDigit 0 = .ok (.aload_n 0, 1) := by decide +kernel
theorem dX2_readManyAsDigit_1 : decode cX2_readManyAsDigit 1 = .ok (.aload_n 0, 1) := by decide +kernel
theorem dX2_readManyAsDigit_2 : decode cX2_readManyAsDigit 2 = .ok (.invokevirtual 69, 3) := by decide +kernel
theorem dX2_readManyAsDigit_5 : decode cX2_readManyAsDigit 5 = .ok (.putfield 84, 3) := by decide +kernel
theorem dX2_readManyAsDigit_8 : decode cX2_readManyAsDigit 8 = .ok (.aload_n 0, 1) := by decide +kernel
theorem dX2_readManyAsDigit_9 : decode cX2_readManyAsDigit 9 = .ok (.getfield 84, 3) := by decide +kernel
theorem dX2_readManyAsDigit_12 : decode cX2_readManyAsDigit 12 = .ok (.ifCond .lt 7, 3) := by decide +kernel
theorem dX2_readManyAsDigit_15 : decode cX2_readManyAsDigit 15 = .ok (.iconst 1, 1) := by decide +kernel
theorem dX2_readManyAsDigit_16 : decode cX2_readManyAsDigit 16 = .ok (.goto 4, 3) := by decide +kernel
theorem dX2_readManyAsDigit_19 : decode cX2_readManyAsDigit 19 = .ok (.iconst 0, 1) := by decide +kernel
theorem dX2_readManyAsDigit_20 : decode cX2_readManyAsDigit 20 = .ok (.ireturn, 1) := by decide +kernel
theorem dX2_readNumber_0 : decode cX2_readNumber 0 = .ok (.aload_n 0, 1) := by decide +kernel
theorem dX2_readNumber_1 : decode cX2_readNumber 1 = .ok (.invokevirtual 69, 3) := by decide +kernel
theorem dX2_readNumber_4 : decode cX2_readNumber 4 = .ok (.istore_n 1, 1) := by decide +kernel
theorem dX2_readNumber_5 : decode cX2_readNumber 5 = .ok (.iload_n 1, 1) := by decide +kernel
theorem dX2_readNumber_6 : decode cX2_readNumber 6 = .ok (.ifCond .ge 5, 3) := by decide +kernel
theorem dX2_readNumber_9 : decode cX2_readNumber 9 = .ok (.iconst (-1), 1) := by decide +kernel
theorem dX2_readNumber_10 : decode cX2_readNumber 10 = .ok (.ireturn, 1) := by decide +kernel
theorem dX2_readNumber_11 : decode cX2_readNumber 11 = .ok (.aload_n 0, 1) := by decide +kernel
theorem dX2_readNumber_12 : decode cX2_readNumber 12 = .ok (.invokevirtual 69, 3) := by decide +kernel
theorem dX2_readNumber_15 : decode cX2_readNumber 15 = .ok (.istore_n 2, 1) := by decide +kernel
theorem dX2_readNumber_16 : decode cX2_readNumber 16 = .ok (.iload_n 2, 1) := by decide +kernel
theorem dX2_readNumber_17 : decode cX2_readNumber 17 = .ok (.ifCond .ge 7, 3) := by decide +kernel
theorem dX2_readNumber_20 : decode cX2_readNumber 20 = .ok (.iload_n 1, 1) := by decide +kernel
theorem dX2_readNumber_21 : decode cX2_readNumber 21 = .ok (.goto 9, 3) := by decide +kernel
theorem dX2_readNumber_24 : decode cX2_readNumber 24 = .ok (.bipush 10, 2) := by decide +kernel
theorem dX2_readNumber_26 : decode cX2_readNumber 26 = .ok (.iload_n 1, 1) := by decide +kernel
theorem dX2_readNumber_27 : decode cX2_readNumber 27 = .ok (.imul, 1) := by decide +kernel
theorem dX2_readNumber_28 : decode cX2_readNumber 28 = .ok (.iload_n 2, 1) := by decide +kernel
theorem dX2_readNumber_29 : decode cX2_readNumber 29 = .ok (.iadd, 1) := by decide +kernel
theorem dX2_readNumber_30 : decode cX2_readNumber 30 = .ok (.ireturn, 1) := by decide +kernel
theorem dX2_readDigit_0 : decode cX2_readDigit 0 = .ok (.aload_n 0, 1) := by decide +kernel
theorem dX2_readDigit_1 : decode cX2_readDigit 1 = .ok (.aload_n 0, 1) := by decide +kernel
theorem dX2_readDigit_2 : decode cX2_readDigit 2 = .ok (.getfield 19, 3) := by decide +kernel
theorem dX2_readDigit_5 : decode cX2_readDigit 5 = .ok (.invokevirtual 65, 3) := by decide +kernel
theorem dX2_readDigit_8 : decode cX2_readDigit 8 = .ok (.istore_n 1, 1) := by decide +kernel
theorem dX2_readDigit_9 : decode cX2_readDigit 9 = .ok (.iload_n 1, 1) := by decide +kernel
theorem dX2_readDigit_10 : decode cX2_readDigit 10 = .ok (.bipush 48, 2) := by decide +kernel
theorem dX2_readDigit_12 : decode cX2_readDigit 12 = .ok (.if_icmp .lt 9, 3) := by decide +kernel
theorem dX2_readDigit_15 : decode cX2_readDigit 15 = .ok (.iload_n 1, 1) := by decide +kernel
theorem dX2_readDigit_16 : decode cX2_readDigit 16 = .ok (.bipush 57, 2) := by decide +kernel
theorem dX2_readDigit_18 : decode cX2_readDigit 18 = .ok (.if_icmp .le 5, 3) := by decide +kernel
theorem dX2_readDigit_21 : decode cX2_readDigit 21 = .ok (.iconst (-1), 1) := by decide +kernel
theorem dX2_readDigit_22 : decode cX2_readDigit 22 = .ok (.ireturn, 1) := by decide +kernel
theorem dX2_readDigit_23 : decode cX2_readDigit 23 = .ok (.aload_n 0, 1) := by decide +kernel
theorem dX2_readDigit_24 : decode cX2_readDigit 24 = .ok (.dup, 1) := by decide +kernel
theorem dX2_readDigit_25 : decode cX2_readDigit 25 = .ok (.getfield 19, 3) := by decide +kernel
theorem dX2_readDigit_28 : decode cX2_readDigit 28 = .ok (.iconst 1, 1) := by decide +kernel
theorem dX2_readDigit_29 : decode cX2_readDigit 29 = .ok (.iadd, 1) := by decide +kernel
theorem dX2_readDigit_30 : decode cX2_readDigit 30 = .ok (.putfield 19, 3) := by decide +kernel
theorem dX2_readDigit_33 : decode cX2_readDigit 33 = .ok (.iload_n 1, 1) := by decide +kernel
theorem dX2_readDigit_34 : decode cX2_readDigit 34 = .ok (.bipush 48, 2) := by decide +kernel
theorem dX2_readDigit_36 : decode cX2_readDigit 36 = .ok (.isub, 1) := by decide +kernel
theorem dX2_readDigit_37 : decode cX2_readDigit 37 = .ok (.ireturn, 1) := by decide +kernel
theorem dX2_readVerb_0 : decode cX2_readVerb 0 = .ok (.aload_n 0, 1) := by decide +kernel
theorem dX2_readVerb_1 : decode cX2_readVerb 1 = .ok (.aload_n 0, 1) := by decide +kernel
theorem dX2_readVerb_2 : decode cX2_readVerb 2 = .ok (.getfield 19, 3) := by decide +kernel
theorem dX2_readVerb_5 : decode cX2_readVerb 5 = .ok (.putfield 87, 3) := by decide +kernel
theorem dX2_readVerb_8 : decode cX2_readVerb 8 = .ok (.getstatic 90, 3) := by decide +kernel
theorem dX2_readVerb_11 : decode cX2_readVerb 11 = .ok (.astore_n 1, 1) := by decide +kernel
theorem dX2_readVerb_12 : decode cX2_readVerb 12 = .ok (.aload_n 1, 1) := by decide +kernel
theorem dX2_readVerb_13 : decode cX2_readVerb 13 = .ok (.arraylength, 1) := by decide +kernel
theorem dX2_readVerb_14 : decode cX2_readVerb 14 = .ok (.istore_n 2, 1) := by decide +kernel
theorem dX2_readVerb_15 : decode cX2_readVerb 15 = .ok (.iconst 0, 1) := by decide +kernel
theorem dX2_readVerb_16 : decode cX2_readVerb 16 = .ok (.istore_n 3, 1) := by decide +kernel
theorem dX2_readVerb_17 : decode cX2_readVerb 17 = .ok (.iload_n 3, 1) := by decide +kernel
theorem dX2_readVerb_18 : decode cX2_readVerb 18 = .ok (.iload_n 2, 1) := by decide +kernel
theorem dX2_readVerb_19 : decode cX2_readVerb 19 = .ok (.if_icmp .ge 29, 3) := by decide +kernel
theorem dX2_readVerb_22 : decode cX2_readVerb 22 = .ok (.aload_n 1, 1) := by decide +kernel
theorem dX2_readVerb_23 : decode cX2_readVerb 23 = .ok (.iload_n 3, 1) := by decide +kernel
theorem dX2_readVerb_24 : decode cX2_readVerb 24 = .ok (.aaload, 1) := by decide +kernel
theorem dX2_readVerb_25 : decode cX2_readVerb 25 = .ok (.astore 4, 2) := by decide +kernel
theorem dX2_readVerb_27 : decode cX2_readVerb 27 = .ok (.aload_n 0, 1) := by decide +kernel
theorem dX2_readVerb_28 : decode cX2_readVerb 28 = .ok (.aload 4, 2) := by decide +kernel
theorem dX2_readVerb_30 : decode cX2_readVerb 30 = .ok (.getfield 94, 3) := by decide +kernel
theorem dX2_readVerb_33 : decode cX2_readVerb 33 = .ok (.invokevirtual 98, 3) := by decide +kernel
theorem dX2_readVerb_36 : decode cX2_readVerb 36 = .ok (.ifCond .eq 6, 3) := by decide +kernel
theorem dX2_readVerb_39 : decode cX2_readVerb 39 = .ok (.aload 4, 2) := by decide +kernel
theorem dX2_readVerb_41 : decode cX2_readVerb 41 = .ok (.areturn, 1) := by decide +kernel
theorem dX2_readVerb_42 : decode cX2_readVerb 42 = .ok (.iinc 3 1, 3) := by decide +kernel
theorem dX2_readVerb_45 : decode cX2_readVerb 45 = .ok (.goto (-28), 3) := by decide +kernel
theorem dX2_readVerb_48 : decode cX2_readVerb 48 = .ok (.aload_n 0, 1) := by decide +kernel
theorem dX2_readVerb_49 : decode cX2_readVerb 49 = .ok (.aload_n 0, 1) := by decide +kernel
theorem dX2_readVerb_50 : decode cX2_readVerb 50 = .ok (.getfield 87, 3) := by decide +kernel
theorem dX2_readVerb_53 : decode cX2_readVerb 53 = .ok (.putfield 19, 3) := by decide +kernel
theorem dX2_readVerb_56 : decode cX2_readVerb 56 = .ok (.aconst_null, 1) := by decide +kernel
theorem dX2_readVerb_57 : decode cX2_readVerb 57 = .ok (.areturn, 1) := by decide +kernel
theorem dX2_readKind_0 : decode cX2_readKind 0 = .ok (.aload_n 0, 1) := by decide +kernel
theorem dX2_readKind_1 : decode cX2_readKind 1 = .ok (.aload_n 0, 1) := by decide +kernel
theorem dX2_readKind_2 : decode cX2_readKind 2 = .ok (.getfield 19, 3) := by decide +kernel
theorem dX2_readKind_5 : decode cX2_readKind 5 = .ok (.putfield 87, 3) := by decide +kernel
theorem dX2_readKind_8 : decode cX2_readKind 8 = .ok (.iconst 0, 1) := by decide +kernel
theorem dX2_readKind_9 : decode cX2_readKind 9 = .ok (.istore_n 1, 1) := by decide +kernel
theorem dX2_readKind_10 : decode cX2_readKind 10 = .ok (.iload_n 1, 1) := by decide +kernel
theorem dX2_readKind_11 : decode cX2_readKind 11 = .ok (.getstatic 102, 3) := by decide +kernel
theorem dX2_readKind_14 : decode cX2_readKind 14 = .ok (.arraylength, 1) := by decide +kernel
theorem dX2_readKind_15 : decode cX2_readKind 15 = .ok (.if_icmp .ge 31, 3) := by decide +kernel
theorem dX2_readKind_18 : decode cX2_readKind 18 = .ok (.aload_n 0, 1) := by decide +kernel
theorem dX2_readKind_19 : decode cX2_readKind 19 = .ok (.getstatic 102, 3) := by decide +kernel
theorem dX2_readKind_22 : decode cX2_readKind 22 = .ok (.iload_n 1, 1) := by decide +kernel
theorem dX2_readKind_23 : decode cX2_readKind 23 = .ok (.aaload, 1) := by decide +kernel
theorem dX2_readKind_24 : decode cX2_readKind 24 = .ok (.getfield 106, 3) := by decide +kernel
theorem dX2_readKind_27 : decode cX2_readKind 27 = .ok (.invokevirtual 98, 3) := by decide +kernel
theorem dX2_readKind_30 : decode cX2_readKind 30 = .ok (.ifCond .eq 10, 3) := by decide +kernel
theorem dX2_readKind_33 : decode cX2_readKind 33 = .ok (.aload_n 0, 1) := by decide +kernel
theorem dX2_readKind_34 : decode cX2_readKind 34 = .ok (.iload_n 1, 1) := by decide +kernel
theorem dX2_readKind_35 : decode cX2_readKind 35 = .ok (.putfield 109, 3) := by decide +kernel
theorem dX2_readKind_38 : decode cX2_readKind 38 = .ok (.iconst 1, 1) := by decide +kernel
theorem dX2_readKind_39 : decode cX2_readKind 39 = .ok (.ireturn, 1) := by decide +kernel
theorem dX2_readKind_40 : decode cX2_readKind 40 = .ok (.iinc 1 1, 3) := by decide +kernel
theorem dX2_readKind_43 : decode cX2_readKind 43 = .ok (.goto (-33), 3) := by decide +kernel
theorem dX2_readKind_46 : decode cX2_readKind 46 = .ok (.aload_n 0, 1) := by decide +kernel
theorem dX2_readKind_47 : decode cX2_readKind 47 = .ok (.aload_n 0, 1) := by decide +kernel
theorem dX2_readKind_48 : decode cX2_readKind 48 = .ok (.getfield 87, 3) := by decide +kernel
theorem dX2_readKind_51 : decode cX2_readKind 51 = .ok (.putfield 19, 3) := by decide +kernel
theorem dX2_readKind_54 : decode cX2_readKind 54 = .ok (.iconst 0, 1) := by decide +kernel
theorem dX2_readKind_55 : decode cX2_readKind 55 = .ok (.ireturn, 1) := by decide +kernel
theorem dX2_readWord_0 : decode cX2_readWord 0 = .ok (.iconst 0, 1) := by decide +kernel
theorem dX2_readWord_1 : decode cX2_readWord 1 = .ok (.istore_n 2, 1) := by decide +kernel
theorem dX2_readWord_2 : decode cX2_readWord 2 = .ok (.iload_n 2, 1) := by decide +kernel
theorem dX2_readWord_3 : decode cX2_readWord 3 = .ok (.aload_n 1, 1) := by decide +kernel
theorem dX2_readWord_4 : decode cX2_readWord 4 = .ok (.invokevirtual 112, 3) := by decide +kernel
theorem dX2_readWord_7 : decode cX2_readWord 7 = .ok (.if_icmp .ge 27, 3) := by decide +kernel
theorem dX2_readWord_10 : decode cX2_readWord 10 = .ok (.aload_n 0, 1) := by decide +kernel
theorem dX2_readWord_11 : decode cX2_readWord 11 = .ok (.aload_n 0, 1) := by decide +kernel
theorem dX2_readWord_12 : decode cX2_readWord 12 = .ok (.getfield 19, 3) := by decide +kernel
theorem dX2_readWord_15 : decode cX2_readWord 15 = .ok (.iload_n 2, 1) := by decide +kernel
theorem dX2_readWord_16 : decode cX2_readWord 16 = .ok (.iadd, 1) := by decide +kernel
theorem dX2_readWord_17 : decode cX2_readWord 17 = .ok (.invokevirtual 65, 3) := by decide +kernel
theorem dX2_readWord_20 : decode cX2_readWord 20 = .ok (.aload_n 1, 1) := by decide +kernel
theorem dX2_readWord_21 : decode cX2_readWord 21 = .ok (.iload_n 2, 1) := by decide +kernel
theorem dX2_readWord_22 : decode cX2_readWord 22 = .ok (.invokevirtual 116, 3) := by decide +kernel
theorem dX2_readWord_25 : decode cX2_readWord 25 = .ok (.if_icmp .ne 9, 3) := by decide +kernel
theorem dX2_readWord_28 : decode cX2_readWord 28 = .ok (.iinc 2 1, 3) := by decide +kernel
theorem dX2_readWord_31 : decode cX2_readWord 31 = .ok (.goto (-29), 3) := by decide +kernel
theorem dX2_readWord_34 : decode cX2_readWord 34 = .ok (.iload_n 2, 1) := by decide +kernel
theorem dX2_readWord_35 : decode cX2_readWord 35 = .ok (.aload_n 1, 1) := by decide +kernel
theorem dX2_readWord_36 : decode cX2_readWord 36 = .ok (.invokevirtual 112, 3) := by decide +kernel
theorem dX2_readWord_39 : decode cX2_readWord 39 = .ok (.if_icmp .ne 15, 3) := by decide +kernel
theorem dX2_readWord_42 : decode cX2_readWord 42 = .ok (.aload_n 0, 1) := by decide +kernel
theorem dX2_readWord_43 : decode cX2_readWord 43 = .ok (.dup, 1) := by decide +kernel
theorem dX2_readWord_44 : decode cX2_readWord 44 = .ok (.getfield 19, 3) := by decide +kernel
theorem dX2_readWord_47 : decode cX2_readWord 47 = .ok (.iload_n 2, 1) := by decide +kernel
theorem dX2_readWord_48 : decode cX2_readWord 48 = .ok (.iadd, 1) := by decide +kernel
theorem dX2_readWord_49 : decode cX2_readWord 49 = .ok (.putfield 19, 3) := by decide +kernel
theorem dX2_readWord_52 : decode cX2_readWord 52 = .ok (.iconst 1, 1) := by decide +kernel
theorem dX2_readWord_53 : decode cX2_readWord 53 = .ok (.ireturn, 1) := by decide +kernel
theorem dX2_readWord_54 : decode cX2_readWord 54 = .ok (.aload_n 0, 1) := by decide +kernel
theorem dX2_readWord_55 : decode cX2_readWord 55 = .ok (.aload_n 0, 1) := by decide +kernel
theorem dX2_readWord_56 : decode cX2_readWord 56 = .ok (.getfield 87, 3) := by decide +kernel
theorem dX2_readWord_59 : decode cX2_readWord 59 = .ok (.aload_n 0, 1) := by decide +kernel
theorem dX2_readWord_60 : decode cX2_readWord 60 = .ok (.getfield 19, 3) := by decide +kernel
theorem dX2_readWord_63 : decode cX2_readWord 63 = .ok (.iload_n 2, 1) := by decide +kernel
theorem dX2_readWord_64 : decode cX2_readWord 64 = .ok (.iadd, 1) := by decide +kernel
theorem dX2_readWord_65 : decode cX2_readWord 65 = .ok (.invokestatic 120, 3) := by decide +kernel
theorem dX2_readWord_68 : decode cX2_readWord 68 = .ok (.putfield 87, 3) := by decide +kernel
theorem dX2_readWord_71 : decode cX2_readWord 71 = .ok (.iconst 0, 1) := by decide +kernel
theorem dX2_readWord_72 : decode cX2_readWord 72 = .ok (.ireturn, 1) := by decide +kernel
theorem dX3_init_0 : decode cX3_init 0 = .ok (.aload_n 0, 1) := by decide +kernel
theorem dX3_init_1 : decode cX3_init 1 = .ok (.invokespecial 3, 3) := by decide +kernel
theorem dX3_init_4 : decode cX3_init 4 = .ok (.aload_n 0, 1) := by decide +kernel
theorem dX3_init_5 : decode cX3_init 5 = .ok (.bipush 9, 2) := by decide +kernel
theorem dX3_init_7 : decode cX3_init 7 = .ok (.anewarray 11, 3) := by decide +kernel
theorem dX3_init_10 : decode cX3_init 10 = .ok (.putfield 13, 3) := by decide +kernel
theorem dX3_init_13 : decode cX3_init 13 = .ok (.iconst 0, 1) := by decide +kernel
theorem dX3_init_14 : decode cX3_init 14 = .ok (.istore_n 1, 1) := by decide +kernel
theorem dX3_init_15 : decode cX3_init 15 = .ok (.iload_n 1, 1) := by decide +kernel
theorem dX3_init_16 : decode cX3_init 16 = .ok (.aload_n 0, 1) := by decide +kernel
theorem dX3_init_17 : decode cX3_init 17 = .ok (.getfield 13, 3) := by decide +kernel
theorem dX3_init_20 : decode cX3_init 20 = .ok (.arraylength, 1) := by decide +kernel
theorem dX3_init_21 : decode cX3_init 21 = .ok (.if_icmp .ge 22, 3) := by decide +kernel
theorem dX3_init_24 : decode cX3_init 24 = .ok (.aload_n 0, 1) := by decide +kernel
theorem dX3_init_25 : decode cX3_init 25 = .ok (.getfield 13, 3) := by decide +kernel
theorem dX3_init_28 : decode cX3_init 28 = .ok (.iload_n 1, 1) := by decide +kernel
theorem dX3_init_29 : decode cX3_init 29 = .ok (.new 11, 3) := by decide +kernel
theorem dX3_init_32 : decode cX3_init 32 = .ok (.dup, 1) := by decide +kernel
theorem dX3_init_33 : decode cX3_init 33 = .ok (.invokespecial 17, 3) := by decide +kernel
theorem dX3_init_36 : decode cX3_init 36 = .ok (.aastore, 1) := by decide +kernel
theorem dX3_init_37 : decode cX3_init 37 = .ok (.iinc 1 1, 3) := by decide +kernel
theorem dX3_init_40 : decode cX3_init 40 = .ok (.goto (-25), 3) := by decide +kernel
theorem dX3_init_43 : decode cX3_init 43 = .ok (.return_, 1) := by decide +kernel
theorem dX3_spareRow_0 : decode cX3_spareRow 0 = .ok (.aload_n 0, 1) := by decide +kernel
theorem dX3_spareRow_1 : decode cX3_spareRow 1 = .ok (.getfield 13, 3) := by decide +kernel
theorem dX3_spareRow_4 : decode cX3_spareRow 4 = .ok (.aload_n 0, 1) := by decide +kernel
theorem dX3_spareRow_5 : decode cX3_spareRow 5 = .ok (.getfield 18, 3) := by decide +kernel
theorem dX3_spareRow_8 : decode cX3_spareRow 8 = .ok (.bipush 9, 2) := by decide +kernel
theorem dX3_spareRow_10 : decode cX3_spareRow 10 = .ok (.invokestatic 22, 3) := by decide +kernel
theorem dX3_spareRow_13 : decode cX3_spareRow 13 = .ok (.aaload, 1) := by decide +kernel
theorem dX3_spareRow_14 : decode cX3_spareRow 14 = .ok (.areturn, 1) := by decide +kernel
theorem dX3_prepare_0 : decode cX3_prepare 0 = .ok (.aload_n 0, 1) := by decide +kernel
theorem dX3_prepare_1 : decode cX3_prepare 1 = .ok (.invokevirtual 28, 3) := by decide +kernel
theorem dX3_prepare_4 : decode cX3_prepare 4 = .ok (.aload_n 1, 1) := by decide +kernel
theorem dX3_prepare_5 : decode cX3_prepare 5 = .ok (.invokevirtual 32, 3) := by decide +kernel
theorem dX3_prepare_8 : decode cX3_prepare 8 = .ok (.return_, 1) := by decide +kernel
theorem dX3_commit_0 : decode cX3_commit 0 = .ok (.aload_n 0, 1) := by decide +kernel
theorem dX3_commit_1 : decode cX3_commit 1 = .ok (.dup, 1) := by decide +kernel
theorem dX3_commit_2 : decode cX3_commit 2 = .ok (.getfield 18, 3) := by decide +kernel
theorem dX3_commit_5 : decode cX3_commit 5 = .ok (.iconst 1, 1) := by decide +kernel
theorem dX3_commit_6 : decode cX3_commit 6 = .ok (.iadd, 1) := by decide +kernel
theorem dX3_commit_7 : decode cX3_commit 7 = .ok (.putfield 18, 3) := by decide +kernel
theorem dX3_commit_10 : decode cX3_commit 10 = .ok (.aload_n 0, 1) := by decide +kernel
theorem dX3_commit_11 : decode cX3_commit 11 = .ok (.bipush 8, 2) := by decide +kernel
theorem dX3_commit_13 : decode cX3_commit 13 = .ok (.aload_n 0, 1) := by decide +kernel
theorem dX3_commit_14 : decode cX3_commit 14 = .ok (.getfield 36, 3) := by decide +kernel
theorem dX3_commit_17 : decode cX3_commit 17 = .ok (.iconst 1, 1) := by decide +kernel
theorem dX3_commit_18 : decode cX3_commit 18 = .ok (.iadd, 1) := by decide +kernel
theorem dX3_commit_19 : decode cX3_commit 19 = .ok (.invokestatic 39, 3) := by decide +kernel
theorem dX3_commit_22 : decode cX3_commit 22 = .ok (.putfield 36, 3) := by decide +kernel
theorem dX3_commit_25 : decode cX3_commit 25 = .ok (.return_, 1) := by decide +kernel
theorem dX3_dropPrepared_0 : decode cX3_dropPrepared 0 = .ok (.aload_n 1, 1) := by decide +kernel
theorem dX3_dropPrepared_1 : decode cX3_dropPrepared 1 = .ok (.aload_n 0, 1) := by decide +kernel
theorem dX3_dropPrepared_2 : decode cX3_dropPrepared 2 = .ok (.invokevirtual 28, 3) := by decide +kernel
theorem dX3_dropPrepared_5 : decode cX3_dropPrepared 5 = .ok (.invokevirtual 32, 3) := by decide +kernel
theorem dX3_dropPrepared_8 : decode cX3_dropPrepared 8 = .ok (.return_, 1) := by decide +kernel
theorem dX3_takeBack_0 : decode cX3_takeBack 0 = .ok (.aload_n 0, 1) := by decide +kernel
theorem dX3_takeBack_1 : decode cX3_takeBack 1 = .ok (.getfield 36, 3) := by decide +kernel
theorem dX3_takeBack_4 : decode cX3_takeBack 4 = .ok (.ifCond .ne 5, 3) := by decide +kernel
theorem dX3_takeBack_7 : decode cX3_takeBack 7 = .ok (.iconst 0, 1) := by decide +kernel
theorem dX3_takeBack_8 : decode cX3_takeBack 8 = .ok (.ireturn, 1) := by decide +kernel
theorem dX3_takeBack_9 : decode cX3_takeBack 9 = .ok (.aload_n 0, 1) := by decide +kernel
theorem dX3_takeBack_10 : decode cX3_takeBack 10 = .ok (.dup, 1) := by decide +kernel
theorem dX3_takeBack_11 : decode cX3_takeBack 11 = .ok (.getfield 36, 3) := by decide +kernel
theorem dX3_takeBack_14 : decode cX3_takeBack 14 = .ok (.iconst 1, 1) := by decide +kernel
theorem dX3_takeBack_15 : decode cX3_takeBack 15 = .ok (.isub, 1) := by decide +kernel
theorem dX3_takeBack_16 : decode cX3_takeBack 16 = .ok (.putfield 36, 3) := by decide +kernel
theorem dX3_takeBack_19 : decode cX3_takeBack 19 = .ok (.aload_n 0, 1) := by decide +kernel
theorem dX3_takeBack_20 : decode cX3_takeBack 20 = .ok (.dup, 1) := by decide +kernel
theorem dX3_takeBack_21 : decode cX3_takeBack 21 = .ok (.getfield 18, 3) := by decide +kernel
theorem dX3_takeBack_24 : decode cX3_takeBack 24 = .ok (.iconst 1, 1) := by decide +kernel
theorem dX3_takeBack_25 : decode cX3_takeBack 25 = .ok (.isub, 1) := by decide +kernel
theorem dX3_takeBack_26 : decode cX3_takeBack 26 = .ok (.putfield 18, 3) := by decide +kernel
theorem dX3_takeBack_29 : decode cX3_takeBack 29 = .ok (.aload_n 1, 1) := by decide +kernel
theorem dX3_takeBack_30 : decode cX3_takeBack 30 = .ok (.aload_n 0, 1) := by decide +kernel
theorem dX3_takeBack_31 : decode cX3_takeBack 31 = .ok (.invokevirtual 28, 3) := by decide +kernel
theorem dX3_takeBack_34 : decode cX3_takeBack 34 = .ok (.invokevirtual 32, 3) := by decide +kernel
theorem dX3_takeBack_37 : decode cX3_takeBack 37 = .ok (.iconst 1, 1) := by decide +kernel
theorem dX3_takeBack_38 : decode cX3_takeBack 38 = .ok (.ireturn, 1) := by decide +kernel
theorem dX3_forget_0 : decode cX3_forget 0 = .ok (.aload_n 0, 1) := by decide +kernel
theorem dX3_forget_1 : decode cX3_forget 1 = .ok (.iconst 0, 1) := by decide +kernel
theorem dX3_forget_2 : decode cX3_forget 2 = .ok (.putfield 36, 3) := by decide +kernel
theorem dX3_forget_5 : decode cX3_forget 5 = .ok (.return_, 1) := by decide +kernel
theorem dX4_init_0 : decode cX4_init 0 = .ok (.aload_n 0, 1) := by decide +kernel
theorem dX4_init_1 : decode cX4_init 1 = .ok (.invokespecial 3, 3) := by decide +kernel
theorem dX4_init_4 : decode cX4_init 4 = .ok (.aload_n 0, 1) := by decide +kernel
theorem dX4_init_5 : decode cX4_init 5 = .ok (.bipush 6, 2) := by decide +kernel
theorem dX4_init_7 : decode cX4_init 7 = .ok (.getstatic 9, 3) := by decide +kernel
theorem dX4_init_10 : decode cX4_init 10 = .ok (.arraylength, 1) := by decide +kernel
theorem dX4_init_11 : decode cX4_init 11 = .ok (.imul, 1) := by decide +kernel
theorem dX4_init_12 : decode cX4_init 12 = .ok (.newarray .int, 2) := by decide +kernel
theorem dX4_init_14 : decode cX4_init 14 = .ok (.putfield 13, 3) := by decide +kernel
theorem dX4_init_17 : decode cX4_init 17 = .ok (.aload_n 0, 1) := by decide +kernel
theorem dX4_init_18 : decode cX4_init 18 = .ok (.bipush 20, 2) := by decide +kernel
theorem dX4_init_20 : decode cX4_init 20 = .ok (.anewarray 19, 3) := by decide +kernel
theorem dX4_init_23 : decode cX4_init 23 = .ok (.putfield 21, 3) := by decide +kernel
theorem dX4_init_26 : decode cX4_init 26 = .ok (.aload_n 0, 1) := by decide +kernel
theorem dX4_init_27 : decode cX4_init 27 = .ok (.bipush 10, 2) := by decide +kernel
theorem dX4_init_29 : decode cX4_init 29 = .ok (.putfield 25, 3) := by decide +kernel
theorem dX4_init_32 : decode cX4_init 32 = .ok (.aload_n 0, 1) := by decide +kernel
theorem dX4_init_33 : decode cX4_init 33 = .ok (.bipush 20, 2) := by decide +kernel
theorem dX4_init_35 : decode cX4_init 35 = .ok (.putfield 29, 3) := by decide +kernel
theorem dX4_init_38 : decode cX4_init 38 = .ok (.aload_n 0, 1) := by decide +kernel
theorem dX4_init_39 : decode cX4_init 39 = .ok (.iconst 4, 1) := by decide +kernel
theorem dX4_init_40 : decode cX4_init 40 = .ok (.putfield 32, 3) := by decide +kernel
theorem dX4_init_43 : decode cX4_init 43 = .ok (.iconst 0, 1) := by decide +kernel
theorem dX4_init_44 : decode cX4_init 44 = .ok (.istore_n 1, 1) := by decide +kernel
theorem dX4_init_45 : decode cX4_init 45 = .ok (.iload_n 1, 1) := by decide +kernel
theorem dX4_init_46 : decode cX4_init 46 = .ok (.aload_n 0, 1) := by decide +kernel
theorem dX4_init_47 : decode cX4_init 47 = .ok (.getfield 21, 3) := by decide +kernel
theorem dX4_init_50 : decode cX4_init 50 = .ok (.arraylength, 1) := by decide +kernel
theorem dX4_init_51 : decode cX4_init 51 = .ok (.if_icmp .ge 23, 3) := by decide +kernel
theorem dX4_init_54 : decode cX4_init 54 = .ok (.aload_n 0, 1) := by decide +kernel
theorem dX4_init_55 : decode cX4_init 55 = .ok (.getfield 21, 3) := by decide +kernel
theorem dX4_init_58 : decode cX4_init 58 = .ok (.iload_n 1, 1) := by decide +kernel
theorem dX4_init_59 : decode cX4_init 59 = .ok (.new 19, 3) := by decide +kernel
theorem dX4_init_62 : decode cX4_init 62 = .ok (.dup, 1) := by decide +kernel
theorem dX4_init_63 : decode cX4_init 63 = .ok (.iload_n 1, 1) := by decide +kernel
theorem dX4_init_64 : decode cX4_init 64 = .ok (.invokespecial 35, 3) := by decide +kernel
theorem dX4_init_67 : decode cX4_init 67 = .ok (.aastore, 1) := by decide +kernel
theorem dX4_init_68 : decode cX4_init 68 = .ok (.iinc 1 1, 3) := by decide +kernel
theorem dX4_init_71 : decode cX4_init 71 = .ok (.goto (-26), 3) := by decide +kernel
theorem dX4_init_74 : decode cX4_init 74 = .ok (.return_, 1) := by decide +kernel
theorem dX4_copyFrom_0 : decode cX4_copyFrom 0 = .ok (.aload_n 1, 1) := by decide +kernel
theorem dX4_copyFrom_1 : decode cX4_copyFrom 1 = .ok (.getfield 13, 3) := by decide +kernel
theorem dX4_copyFrom_4 : decode cX4_copyFrom 4 = .ok (.iconst 0, 1) := by decide +kernel
theorem dX4_copyFrom_5 : decode cX4_copyFrom 5 = .ok (.aload_n 0, 1) := by decide +kernel
theorem dX4_copyFrom_6 : decode cX4_copyFrom 6 = .ok (.getfield 13, 3) := by decide +kernel
theorem dX4_copyFrom_9 : decode cX4_copyFrom 9 = .ok (.iconst 0, 1) := by decide +kernel
theorem dX4_copyFrom_10 : decode cX4_copyFrom 10 = .ok (.aload_n 0, 1) := by decide +kernel
theorem dX4_copyFrom_11 : decode cX4_copyFrom 11 = .ok (.getfield 13, 3) := by decide +kernel
theorem dX4_copyFrom_14 : decode cX4_copyFrom 14 = .ok (.arraylength, 1) := by decide +kernel
theorem dX4_copyFrom_15 : decode cX4_copyFrom 15 = .ok (.invokestatic 38, 3) := by decide +kernel
theorem dX4_copyFrom_18 : decode cX4_copyFrom 18 = .ok (.iconst 0, 1) := by decide +kernel
theorem dX4_copyFrom_19 : decode cX4_copyFrom 19 = .ok (.istore_n 2, 1) := by decide +kernel
theorem dX4_copyFrom_20 : decode cX4_copyFrom 20 = .ok (.iload_n 2, 1) := by decide +kernel
theorem dX4_copyFrom_21 : decode cX4_copyFrom 21 = .ok (.aload_n 0, 1) := by decide +kernel
theorem dX4_copyFrom_22 : decode cX4_copyFrom 22 = .ok (.getfield 21, 3) := by decide +kernel
theorem dX4_copyFrom_25 : decode cX4_copyFrom 25 = .ok (.arraylength, 1) := by decide +kernel
theorem dX4_copyFrom_26 : decode cX4_copyFrom 26 = .ok (.if_icmp .ge 24, 3) := by decide +kernel
theorem dX4_copyFrom_29 : decode cX4_copyFrom 29 = .ok (.aload_n 0, 1) := by decide +kernel
theorem dX4_copyFrom_30 : decode cX4_copyFrom 30 = .ok (.getfield 21, 3) := by decide +kernel
theorem dX4_copyFrom_33 : decode cX4_copyFrom 33 = .ok (.iload_n 2, 1) := by decide +kernel
theorem dX4_copyFrom_34 : decode cX4_copyFrom 34 = .ok (.aaload, 1) := by decide +kernel
theorem dX4_copyFrom_35 : decode cX4_copyFrom 35 = .ok (.aload_n 1, 1) := by decide +kernel
theorem dX4_copyFrom_36 : decode cX4_copyFrom 36 = .ok (.getfield 21, 3) := by decide +kernel
theorem dX4_copyFrom_39 : decode cX4_copyFrom 39 = .ok (.iload_n 2, 1) := by decide +kernel
theorem dX4_copyFrom_40 : decode cX4_copyFrom 40 = .ok (.aaload, 1) := by decide +kernel
theorem dX4_copyFrom_41 : decode cX4_copyFrom 41 = .ok (.invokevirtual 44, 3) := by decide +kernel
theorem dX4_copyFrom_44 : decode cX4_copyFrom 44 = .ok (.iinc 2 1, 3) := by decide +kernel
theorem dX4_copyFrom_47 : decode cX4_copyFrom 47 = .ok (.goto (-27), 3) := by decide +kernel
theorem dX4_copyFrom_50 : decode cX4_copyFrom 50 = .ok (.aload_n 0, 1) := by decide +kernel
theorem dX4_copyFrom_51 : decode cX4_copyFrom 51 = .ok (.aload_n 1, 1) := by decide +kernel
theorem dX4_copyFrom_52 : decode cX4_copyFrom 52 = .ok (.getfield 48, 3) := by decide +kernel
theorem dX4_copyFrom_55 : decode cX4_copyFrom 55 = .ok (.putfield 48, 3) := by decide +kernel
theorem dX4_copyFrom_58 : decode cX4_copyFrom 58 = .ok (.aload_n 0, 1) := by decide +kernel
theorem dX4_copyFrom_59 : decode cX4_copyFrom 59 = .ok (.aload_n 1, 1) := by decide +kernel
theorem dX4_copyFrom_60 : decode cX4_copyFrom 60 = .ok (.getfield 25, 3) := by decide +kernel
theorem dX4_copyFrom_63 : decode cX4_copyFrom 63 = .ok (.putfield 25, 3) := by decide +kernel
theorem dX4_copyFrom_66 : decode cX4_copyFrom 66 = .ok (.aload_n 0, 1) := by decide +kernel
theorem dX4_copyFrom_67 : decode cX4_copyFrom 67 = .ok (.aload_n 1, 1) := by decide +kernel
theorem dX4_copyFrom_68 : decode cX4_copyFrom 68 = .ok (.getfield 29, 3) := by decide +kernel
theorem dX4_copyFrom_71 : decode cX4_copyFrom 71 = .ok (.putfield 29, 3) := by decide +kernel
theorem dX4_copyFrom_74 : decode cX4_copyFrom 74 = .ok (.aload_n 0, 1) := by decide +kernel
theorem dX4_copyFrom_75 : decode cX4_copyFrom 75 = .ok (.aload_n 1, 1) := by decide +kernel
theorem dX4_copyFrom_76 : decode cX4_copyFrom 76 = .ok (.getfield 51, 3) := by decide +kernel
theorem dX4_copyFrom_79 : decode cX4_copyFrom 79 = .ok (.putfield 51, 3) := by decide +kernel
theorem dX4_copyFrom_82 : decode cX4_copyFrom 82 = .ok (.aload_n 0, 1) := by decide +kernel
theorem dX4_copyFrom_83 : decode cX4_copyFrom 83 = .ok (.aload_n 1, 1) := by decide +kernel
theorem dX4_copyFrom_84 : decode cX4_copyFrom 84 = .ok (.getfield 32, 3) := by decide +kernel
theorem dX4_copyFrom_87 : decode cX4_copyFrom 87 = .ok (.putfield 32, 3) := by decide +kernel
theorem dX4_copyFrom_90 : decode cX4_copyFrom 90 = .ok (.aload_n 0, 1) := by decide +kernel
theorem dX4_copyFrom_91 : decode cX4_copyFrom 91 = .ok (.aload_n 1, 1) := by decide +kernel
theorem dX4_copyFrom_92 : decode cX4_copyFrom 92 = .ok (.getfield 54, 3) := by decide +kernel
theorem dX4_copyFrom_95 : decode cX4_copyFrom 95 = .ok (.putfield 54, 3) := by decide +kernel
theorem dX4_copyFrom_98 : decode cX4_copyFrom 98 = .ok (.aload_n 0, 1) := by decide +kernel
theorem dX4_copyFrom_99 : decode cX4_copyFrom 99 = .ok (.aload_n 1, 1) := by decide +kernel
theorem dX4_copyFrom_100 : decode cX4_copyFrom 100 = .ok (.getfield 57, 3) := by decide +kernel
theorem dX4_copyFrom_103 : decode cX4_copyFrom 103 = .ok (.putfield 57, 3) := by decide +kernel
theorem dX4_copyFrom_106 : decode cX4_copyFrom 106 = .ok (.aload_n 0, 1) := by decide +kernel
theorem dX4_copyFrom_107 : decode cX4_copyFrom 107 = .ok (.aload_n 1, 1) := by decide +kernel
theorem dX4_copyFrom_108 : decode cX4_copyFrom 108 = .ok (.getfield 60, 3) := by decide +kernel
theorem dX4_copyFrom_111 : decode cX4_copyFrom 111 = .ok (.putfield 60, 3) := by decide +kernel
theorem dX4_copyFrom_114 : decode cX4_copyFrom 114 = .ok (.aload_n 0, 1) := by decide +kernel
theorem dX4_copyFrom_115 : decode cX4_copyFrom 115 = .ok (.aload_n 1, 1) := by decide +kernel
theorem dX4_copyFrom_116 : decode cX4_copyFrom 116 = .ok (.getfield 63, 3) := by decide +kernel
theorem dX4_copyFrom_119 : decode cX4_copyFrom 119 = .ok (.putfield 63, 3) := by decide +kernel
theorem dX4_copyFrom_122 : decode cX4_copyFrom 122 = .ok (.aload_n 0, 1) := by decide +kernel
theorem dX4_copyFrom_123 : decode cX4_copyFrom 123 = .ok (.aload_n 1, 1) := by decide +kernel
theorem dX4_copyFrom_124 : decode cX4_copyFrom 124 = .ok (.getfield 66, 3) := by decide +kernel
theorem dX4_copyFrom_127 : decode cX4_copyFrom 127 = .ok (.putfield 66, 3) := by decide +kernel
theorem dX4_copyFrom_130 : decode cX4_copyFrom 130 = .ok (.return_, 1) := by decide +kernel
theorem dX4_isLeaf_0 : decode cX4_isLeaf 0 = .ok (.iload_n 0, 1) := by decide +kernel
theorem dX4_isLeaf_1 : decode cX4_isLeaf 1 = .ok (.ifCond .lt 25, 3) := by decide +kernel
theorem dX4_isLeaf_4 : decode cX4_isLeaf 4 = .ok (.iload_n 0, 1) := by decide +kernel
theorem dX4_isLeaf_5 : decode cX4_isLeaf 5 = .ok (.bipush 6, 2) := by decide +kernel
theorem dX4_isLeaf_7 : decode cX4_isLeaf 7 = .ok (.if_icmp .ge 19, 3) := by decide +kernel
theorem dX4_isLeaf_10 : decode cX4_isLeaf 10 = .ok (.iload_n 1, 1) := by decide +kernel
theorem dX4_isLeaf_11 : decode cX4_isLeaf 11 = .ok (.ifCond .lt 15, 3) := by decide +kernel
theorem dX4_isLeaf_14 : decode cX4_isLeaf 14 = .ok (.iload_n 1, 1) := by decide +kernel
theorem dX4_isLeaf_15 : decode cX4_isLeaf 15 = .ok (.getstatic 9, 3) := by decide +kernel
theorem dX4_isLeaf_18 : decode cX4_isLeaf 18 = .ok (.arraylength, 1) := by decide +kernel
theorem dX4_isLeaf_19 : decode cX4_isLeaf 19 = .ok (.if_icmp .ge 7, 3) := by decide +kernel
theorem dX4_isLeaf_22 : decode cX4_isLeaf 22 = .ok (.iconst 1, 1) := by decide +kernel
theorem dX4_isLeaf_23 : decode cX4_isLeaf 23 = .ok (.goto 4, 3) := by decide +kernel
theorem dX4_isLeaf_26 : decode cX4_isLeaf 26 = .ok (.iconst 0, 1) := by decide +kernel
theorem dX4_isLeaf_27 : decode cX4_isLeaf 27 = .ok (.ireturn, 1) := by decide +kernel
theorem dX4_stored_0 : decode cX4_stored 0 = .ok (.iload_n 1, 1) := by decide +kernel
theorem dX4_stored_1 : decode cX4_stored 1 = .ok (.iload_n 2, 1) := by decide +kernel
theorem dX4_stored_2 : decode cX4_stored 2 = .ok (.invokestatic 69, 3) := by decide +kernel
theorem dX4_stored_5 : decode cX4_stored 5 = .ok (.ifCond .eq 19, 3) := by decide +kernel
theorem dX4_stored_8 : decode cX4_stored 8 = .ok (.aload_n 0, 1) := by decide +kernel
theorem dX4_stored_9 : decode cX4_stored 9 = .ok (.getfield 13, 3) := by decide +kernel
theorem dX4_stored_12 : decode cX4_stored 12 = .ok (.iload_n 1, 1) := by decide +kernel
theorem dX4_stored_13 : decode cX4_stored 13 = .ok (.getstatic 9, 3) := by decide +kernel
theorem dX4_stored_16 : decode cX4_stored 16 = .ok (.arraylength, 1) := by decide +kernel
theorem dX4_stored_17 : decode cX4_stored 17 = .ok (.imul, 1) := by decide +kernel
theorem dX4_stored_18 : decode cX4_stored 18 = .ok (.iload_n 2, 1) := by decide +kernel
theorem dX4_stored_19 : decode cX4_stored 19 = .ok (.iadd, 1) := by decide +kernel
theorem dX4_stored_20 : decode cX4_stored 20 = .ok (.iaload, 1) := by decide +kernel
theorem dX4_stored_21 : decode cX4_stored 21 = .ok (.goto 4, 3) := by decide +kernel
theorem dX4_stored_24 : decode cX4_stored 24 = .ok (.iconst 0, 1) := by decide +kernel
theorem dX4_stored_25 : decode cX4_stored 25 = .ok (.ireturn, 1) := by decide +kernel
theorem dX4_addToStore_0 : decode cX4_addToStore 0 = .ok (.iload_n 1, 1) := by decide +kernel
theorem dX4_addToStore_1 : decode cX4_addToStore 1 = .ok (.iload_n 2, 1) := by decide +kernel
theorem dX4_addToStore_2 : decode cX4_addToStore 2 = .ok (.invokestatic 69, 3) := by decide +kernel
theorem dX4_addToStore_5 : decode cX4_addToStore 5 = .ok (.ifCond .eq 20, 3) := by decide +kernel
theorem dX4_addToStore_8 : decode cX4_addToStore 8 = .ok (.aload_n 0, 1) := by decide +kernel
theorem dX4_addToStore_9 : decode cX4_addToStore 9 = .ok (.getfield 13, 3) := by decide +kernel
theorem dX4_addToStore_12 : decode cX4_addToStore 12 = .ok (.iload_n 1, 1) := by decide +kernel
theorem dX4_addToStore_13 : decode cX4_addToStore 13 = .ok (.getstatic 9, 3) := by decide +kernel
theorem dX4_addToStore_16 : decode cX4_addToStore 16 = .ok (.arraylength, 1) := by decide +kernel
theorem dX4_addToStore_17 : decode cX4_addToStore 17 = .ok (.imul, 1) := by decide +kernel
theorem dX4_addToStore_18 : decode cX4_addToStore 18 = .ok (.iload_n 2, 1) := by decide +kernel
theorem dX4_addToStore_19 : decode cX4_addToStore 19 = .ok (.iadd, 1) := by decide +kernel
theorem dX4_addToStore_20 : decode cX4_addToStore 20 = .ok (.dup2, 1) := by decide +kernel
theorem dX4_addToStore_21 : decode cX4_addToStore 21 = .ok (.iaload, 1) := by decide +kernel
theorem dX4_addToStore_22 : decode cX4_addToStore 22 = .ok (.iload_n 3, 1) := by decide +kernel
theorem dX4_addToStore_23 : decode cX4_addToStore 23 = .ok (.iadd, 1) := by decide +kernel
theorem dX4_addToStore_24 : decode cX4_addToStore 24 = .ok (.iastore, 1) := by decide +kernel
theorem dX4_addToStore_25 : decode cX4_addToStore 25 = .ok (.return_, 1) := by decide +kernel
theorem dX4_storedOf_0 : decode cX4_storedOf 0 = .ok (.iconst 0, 1) := by decide +kernel
theorem dX4_storedOf_1 : decode cX4_storedOf 1 = .ok (.istore_n 2, 1) := by decide +kernel
theorem dX4_storedOf_2 : decode cX4_storedOf 2 = .ok (.iconst 0, 1) := by decide +kernel
theorem dX4_storedOf_3 : decode cX4_storedOf 3 = .ok (.istore_n 3, 1) := by decide +kernel
theorem dX4_storedOf_4 : decode cX4_storedOf 4 = .ok (.iload_n 3, 1) := by decide +kernel
theorem dX4_storedOf_5 : decode cX4_storedOf 5 = .ok (.getstatic 9, 3) := by decide +kernel
theorem dX4_storedOf_8 : decode cX4_storedOf 8 = .ok (.arraylength, 1) := by decide +kernel
theorem dX4_storedOf_9 : decode cX4_storedOf 9 = .ok (.if_icmp .ge 18, 3) := by decide +kernel
theorem dX4_storedOf_12 : decode cX4_storedOf 12 = .ok (.iload_n 2, 1) := by decide +kernel
theorem dX4_storedOf_13 : decode cX4_storedOf 13 = .ok (.aload_n 0, 1) := by decide +kernel
theorem dX4_storedOf_14 : decode cX4_storedOf 14 = .ok (.iload_n 1, 1) := by decide +kernel
theorem dX4_storedOf_15 : decode cX4_storedOf 15 = .ok (.iload_n 3, 1) := by decide +kernel
theorem dX4_storedOf_16 : decode cX4_storedOf 16 = .ok (.invokevirtual 73, 3) := by decide +kernel
theorem dX4_storedOf_19 : decode cX4_storedOf 19 = .ok (.iadd, 1) := by decide +kernel
theorem dX4_storedOf_20 : decode cX4_storedOf 20 = .ok (.istore_n 2, 1) := by decide +kernel
theorem dX4_storedOf_21 : decode cX4_storedOf 21 = .ok (.iinc 3 1, 3) := by decide +kernel
theorem dX4_storedOf_24 : decode cX4_storedOf 24 = .ok (.goto (-20), 3) := by decide +kernel
theorem dX4_storedOf_27 : decode cX4_storedOf 27 = .ok (.iload_n 2, 1) := by decide +kernel
theorem dX4_storedOf_28 : decode cX4_storedOf 28 = .ok (.ireturn, 1) := by decide +kernel
theorem dX4_isBetterGarden_0 : decode cX4_isBetterGarden 0 = .ok (.aload_n 0, 1) := by decide +kernel
theorem dX4_isBetterGarden_1 : decode cX4_isBetterGarden 1 = .ok (.iload_n 1, 1) := by decide +kernel
theorem dX4_isBetterGarden_2 : decode cX4_isBetterGarden 2 = .ok (.invokevirtual 77, 3) := by decide +kernel
theorem dX4_isBetterGarden_5 : decode cX4_isBetterGarden 5 = .ok (.istore_n 3, 1) := by decide +kernel
theorem dX4_isBetterGarden_6 : decode cX4_isBetterGarden 6 = .ok (.aload_n 0, 1) := by decide +kernel
theorem dX4_isBetterGarden_7 : decode cX4_isBetterGarden 7 = .ok (.iload_n 2, 1) := by decide +kernel
theorem dX4_isBetterGarden_8 : decode cX4_isBetterGarden 8 = .ok (.invokevirtual 77, 3) := by decide +kernel
theorem dX4_isBetterGarden_11 : decode cX4_isBetterGarden 11 = .ok (.istore 4, 2) := by decide +kernel
theorem dX4_isBetterGarden_13 : decode cX4_isBetterGarden 13 = .ok (.iload_n 3, 1) := by decide +kernel
theorem dX4_isBetterGarden_14 : decode cX4_isBetterGarden 14 = .ok (.iload 4, 2) := by decide +kernel
theorem dX4_isBetterGarden_16 : decode cX4_isBetterGarden 16 = .ok (.if_icmp .gt 24, 3) := by decide +kernel
theorem dX4_isBetterGarden_19 : decode cX4_isBetterGarden 19 = .ok (.iload_n 3, 1) := by decide +kernel
theorem dX4_isBetterGarden_20 : decode cX4_isBetterGarden 20 = .ok (.iload 4, 2) := by decide +kernel
theorem dX4_isBetterGarden_22 : decode cX4_isBetterGarden 22 = .ok (.if_icmp .ne 22, 3) := by decide +kernel
theorem dX4_isBetterGarden_25 : decode cX4_isBetterGarden 25 = .ok (.aload_n 0, 1) := by decide +kernel
theorem dX4_isBetterGarden_26 : decode cX4_isBetterGarden 26 = .ok (.iload_n 1, 1) := by decide +kernel
theorem dX4_isBetterGarden_27 : decode cX4_isBetterGarden 27 = .ok (.iconst 2, 1) := by decide +kernel
theorem dX4_isBetterGarden_28 : decode cX4_isBetterGarden 28 = .ok (.invokevirtual 73, 3) := by decide +kernel
theorem dX4_isBetterGarden_31 : decode cX4_isBetterGarden 31 = .ok (.aload_n 0, 1) := by decide +kernel
theorem dX4_isBetterGarden_32 : decode cX4_isBetterGarden 32 = .ok (.iload_n 2, 1) := by decide +kernel
theorem dX4_isBetterGarden_33 : decode cX4_isBetterGarden 33 = .ok (.iconst 2, 1) := by decide +kernel
theorem dX4_isBetterGarden_34 : decode cX4_isBetterGarden 34 = .ok (.invokevirtual 73, 3) := by decide +kernel
theorem dX4_isBetterGarden_37 : decode cX4_isBetterGarden 37 = .ok (.if_icmp .le 7, 3) := by decide +kernel
theorem dX4_isBetterGarden_40 : decode cX4_isBetterGarden 40 = .ok (.iconst 1, 1) := by decide +kernel
theorem dX4_isBetterGarden_41 : decode cX4_isBetterGarden 41 = .ok (.goto 4, 3) := by decide +kernel
theorem dX4_isBetterGarden_44 : decode cX4_isBetterGarden 44 = .ok (.iconst 0, 1) := by decide +kernel
theorem dX4_isBetterGarden_45 : decode cX4_isBetterGarden 45 = .ok (.ireturn, 1) := by decide +kernel
theorem dX4_poundsStored_0 : decode cX4_poundsStored 0 = .ok (.iconst 0, 1) := by decide +kernel
theorem dX4_poundsStored_1 : decode cX4_poundsStored 1 = .ok (.istore_n 1, 1) := by decide +kernel
theorem dX4_poundsStored_2 : decode cX4_poundsStored 2 = .ok (.iconst 0, 1) := by decide +kernel
theorem dX4_poundsStored_3 : decode cX4_poundsStored 3 = .ok (.istore_n 2, 1) := by decide +kernel
theorem dX4_poundsStored_4 : decode cX4_poundsStored 4 = .ok (.iload_n 2, 1) := by decide +kernel
theorem dX4_poundsStored_5 : decode cX4_poundsStored 5 = .ok (.bipush 6, 2) := by decide +kernel
theorem dX4_poundsStored_7 : decode cX4_poundsStored 7 = .ok (.if_icmp .ge 17, 3) := by decide +kernel
theorem dX4_poundsStored_10 : decode cX4_poundsStored 10 = .ok (.iload_n 1, 1) := by decide +kernel
theorem dX4_poundsStored_11 : decode cX4_poundsStored 11 = .ok (.aload_n 0, 1) := by decide +kernel
theorem dX4_poundsStored_12 : decode cX4_poundsStored 12 = .ok (.iload_n 2, 1) := by decide +kernel
theorem dX4_poundsStored_13 : decode cX4_poundsStored 13 = .ok (.invokevirtual 77, 3) := by decide +kernel
theorem dX4_poundsStored_16 : decode cX4_poundsStored 16 = .ok (.iadd, 1) := by decide +kernel
theorem dX4_poundsStored_17 : decode cX4_poundsStored 17 = .ok (.istore_n 1, 1) := by decide +kernel
theorem dX4_poundsStored_18 : decode cX4_poundsStored 18 = .ok (.iinc 2 1, 3) := by decide +kernel
theorem dX4_poundsStored_21 : decode cX4_poundsStored 21 = .ok (.goto (-17), 3) := by decide +kernel
theorem dX4_poundsStored_24 : decode cX4_poundsStored 24 = .ok (.iload_n 1, 1) := by decide +kernel
theorem dX4_poundsStored_25 : decode cX4_poundsStored 25 = .ok (.ireturn, 1) := by decide +kernel
theorem dX4_tryBring_0 : decode cX4_tryBring 0 = .ok (.aload_n 0, 1) := by decide +kernel
theorem dX4_tryBring_1 : decode cX4_tryBring 1 = .ok (.iload_n 1, 1) := by decide +kernel
theorem dX4_tryBring_2 : decode cX4_tryBring 2 = .ok (.iload_n 2, 1) := by decide +kernel
theorem dX4_tryBring_3 : decode cX4_tryBring 3 = .ok (.invokevirtual 73, 3) := by decide +kernel
theorem dX4_tryBring_6 : decode cX4_tryBring 6 = .ok (.istore 4, 2) := by decide +kernel
theorem dX4_tryBring_8 : decode cX4_tryBring 8 = .ok (.iload 4, 2) := by decide +kernel
theorem dX4_tryBring_10 : decode cX4_tryBring 10 = .ok (.iload_n 3, 1) := by decide +kernel
theorem dX4_tryBring_11 : decode cX4_tryBring 11 = .ok (.iadd, 1) := by decide +kernel
theorem dX4_tryBring_12 : decode cX4_tryBring 12 = .ok (.sipush 500, 3) := by decide +kernel
theorem dX4_tryBring_15 : decode cX4_tryBring 15 = .ok (.if_icmp .le 11, 3) := by decide +kernel
theorem dX4_tryBring_18 : decode cX4_tryBring 18 = .ok (.aload_n 0, 1) := by decide +kernel
theorem dX4_tryBring_19 : decode cX4_tryBring 19 = .ok (.iconst 2, 1) := by decide +kernel
theorem dX4_tryBring_20 : decode cX4_tryBring 20 = .ok (.iload 4, 2) := by decide +kernel
theorem dX4_tryBring_22 : decode cX4_tryBring 22 = .ok (.invokevirtual 81, 3) := by decide +kernel
theorem dX4_tryBring_25 : decode cX4_tryBring 25 = .ok (.ireturn, 1) := by decide +kernel
theorem dX4_tryBring_26 : decode cX4_tryBring 26 = .ok (.aload_n 0, 1) := by decide +kernel
theorem dX4_tryBring_27 : decode cX4_tryBring 27 = .ok (.iload_n 1, 1) := by decide +kernel
theorem dX4_tryBring_28 : decode cX4_tryBring 28 = .ok (.iload_n 2, 1) := by decide +kernel
theorem dX4_tryBring_29 : decode cX4_tryBring 29 = .ok (.iload_n 3, 1) := by decide +kernel
theorem dX4_tryBring_30 : decode cX4_tryBring 30 = .ok (.invokevirtual 84, 3) := by decide +kernel
theorem dX4_tryBring_33 : decode cX4_tryBring 33 = .ok (.aload_n 0, 1) := by decide +kernel
theorem dX4_tryBring_34 : decode cX4_tryBring 34 = .ok (.dup, 1) := by decide +kernel
theorem dX4_tryBring_35 : decode cX4_tryBring 35 = .ok (.getfield 60, 3) := by decide +kernel
theorem dX4_tryBring_38 : decode cX4_tryBring 38 = .ok (.iload_n 3, 1) := by decide +kernel
theorem dX4_tryBring_39 : decode cX4_tryBring 39 = .ok (.iadd, 1) := by decide +kernel
theorem dX4_tryBring_40 : decode cX4_tryBring 40 = .ok (.putfield 60, 3) := by decide +kernel
theorem dX4_tryBring_43 : decode cX4_tryBring 43 = .ok (.iconst 1, 1) := by decide +kernel
theorem dX4_tryBring_44 : decode cX4_tryBring 44 = .ok (.ireturn, 1) := by decide +kernel
theorem dX4_addSheets_0 : decode cX4_addSheets 0 = .ok (.aload_n 0, 1) := by decide +kernel
theorem dX4_addSheets_1 : decode cX4_addSheets 1 = .ok (.sipush 200, 3) := by decide +kernel
theorem dX4_addSheets_4 : decode cX4_addSheets 4 = .ok (.aload_n 0, 1) := by decide +kernel
theorem dX4_addSheets_5 : decode cX4_addSheets 5 = .ok (.getfield 25, 3) := by decide +kernel
theorem dX4_addSheets_8 : decode cX4_addSheets 8 = .ok (.iload_n 1, 1) := by decide +kernel
theorem dX4_addSheets_9 : decode cX4_addSheets 9 = .ok (.iadd, 1) := by decide +kernel
theorem dX4_addSheets_10 : decode cX4_addSheets 10 = .ok (.invokestatic 88, 3) := by decide +kernel
theorem dX4_addSheets_13 : decode cX4_addSheets 13 = .ok (.putfield 25, 3) := by decide +kernel
theorem dX4_addSheets_16 : decode cX4_addSheets 16 = .ok (.return_, 1) := by decide +kernel
theorem dX4_addScrews_0 : decode cX4_addScrews 0 = .ok (.aload_n 0, 1) := by decide +kernel
theorem dX4_addScrews_1 : decode cX4_addScrews 1 = .ok (.sipush 200, 3) := by decide +kernel
theorem dX4_addScrews_4 : decode cX4_addScrews 4 = .ok (.aload_n 0, 1) := by decide +kernel
theorem dX4_addScrews_5 : decode cX4_addScrews 5 = .ok (.getfield 29, 3) := by decide +kernel
theorem dX4_addScrews_8 : decode cX4_addScrews 8 = .ok (.iload_n 1, 1) := by decide +kernel
theorem dX4_addScrews_9 : decode cX4_addScrews 9 = .ok (.iadd, 1) := by decide +kernel
theorem dX4_addScrews_10 : decode cX4_addScrews 10 = .ok (.invokestatic 88, 3) := by decide +kernel
theorem dX4_addScrews_13 : decode cX4_addScrews 13 = .ok (.putfield 29, 3) := by decide +kernel
theorem dX4_addScrews_16 : decode cX4_addScrews 16 = .ok (.return_, 1) := by decide +kernel
theorem dX4_refuse_0 : decode cX4_refuse 0 = .ok (.aload_n 0, 1) := by decide +kernel
theorem dX4_refuse_1 : decode cX4_refuse 1 = .ok (.iload_n 1, 1) := by decide +kernel
theorem dX4_refuse_2 : decode cX4_refuse 2 = .ok (.putfield 93, 3) := by decide +kernel
theorem dX4_refuse_5 : decode cX4_refuse 5 = .ok (.aload_n 0, 1) := by decide +kernel
theorem dX4_refuse_6 : decode cX4_refuse 6 = .ok (.iload_n 2, 1) := by decide +kernel
theorem dX4_refuse_7 : decode cX4_refuse 7 = .ok (.putfield 96, 3) := by decide +kernel
theorem dX4_refuse_10 : decode cX4_refuse 10 = .ok (.iconst 0, 1) := by decide +kernel
theorem dX4_refuse_11 : decode cX4_refuse 11 = .ok (.ireturn, 1) := by decide +kernel
theorem dX4_isInHouse_0 : decode cX4_isInHouse 0 = .ok (.aload_n 1, 1) := by decide +kernel
theorem dX4_isInHouse_1 : decode cX4_isInHouse 1 = .ok (.getfield 99, 3) := by decide +kernel
theorem dX4_isInHouse_4 : decode cX4_isInHouse 4 = .ok (.ifCond .eq 15, 3) := by decide +kernel
theorem dX4_isInHouse_7 : decode cX4_isInHouse 7 = .ok (.aload_n 0, 1) := by decide +kernel
theorem dX4_isInHouse_8 : decode cX4_isInHouse 8 = .ok (.iconst 3, 1) := by decide +kernel
theorem dX4_isInHouse_9 : decode cX4_isInHouse 9 = .ok (.aload_n 1, 1) := by decide +kernel
theorem dX4_isInHouse_10 : decode cX4_isInHouse 10 = .ok (.getfield 99, 3) := by decide +kernel
theorem dX4_isInHouse_13 : decode cX4_isInHouse 13 = .ok (.invokevirtual 81, 3) := by decide +kernel
theorem dX4_isInHouse_16 : decode cX4_isInHouse 16 = .ok (.ifCond .eq 7, 3) := by decide +kernel
theorem dX4_isInHouse_19 : decode cX4_isInHouse 19 = .ok (.iconst 1, 1) := by decide +kernel
theorem dX4_isInHouse_20 : decode cX4_isInHouse 20 = .ok (.goto 4, 3) := by decide +kernel
theorem dX4_isInHouse_23 : decode cX4_isInHouse 23 = .ok (.iconst 0, 1) := by decide +kernel
theorem dX4_isInHouse_24 : decode cX4_isInHouse 24 = .ok (.ireturn, 1) := by decide +kernel
theorem dX4_isUnscrewed_0 : decode cX4_isUnscrewed 0 = .ok (.aload_n 1, 1) := by decide +kernel
theorem dX4_isUnscrewed_1 : decode cX4_isUnscrewed 1 = .ok (.getfield 102, 3) := by decide +kernel
theorem dX4_isUnscrewed_4 : decode cX4_isUnscrewed 4 = .ok (.ifCond .eq 15, 3) := by decide +kernel
theorem dX4_isUnscrewed_7 : decode cX4_isUnscrewed 7 = .ok (.aload_n 0, 1) := by decide +kernel
theorem dX4_isUnscrewed_8 : decode cX4_isUnscrewed 8 = .ok (.iconst 4, 1) := by decide +kernel
theorem dX4_isUnscrewed_9 : decode cX4_isUnscrewed 9 = .ok (.aload_n 1, 1) := by decide +kernel
theorem dX4_isUnscrewed_10 : decode cX4_isUnscrewed 10 = .ok (.getfield 102, 3) := by decide +kernel
theorem dX4_isUnscrewed_13 : decode cX4_isUnscrewed 13 = .ok (.invokevirtual 81, 3) := by decide +kernel
theorem dX4_isUnscrewed_16 : decode cX4_isUnscrewed 16 = .ok (.ifCond .eq 7, 3) := by decide +kernel
theorem dX4_isUnscrewed_19 : decode cX4_isUnscrewed 19 = .ok (.iconst 1, 1) := by decide +kernel
theorem dX4_isUnscrewed_20 : decode cX4_isUnscrewed 20 = .ok (.goto 4, 3) := by decide +kernel
theorem dX4_isUnscrewed_23 : decode cX4_isUnscrewed 23 = .ok (.iconst 0, 1) := by decide +kernel
theorem dX4_isUnscrewed_24 : decode cX4_isUnscrewed 24 = .ok (.ireturn, 1) := by decide +kernel
theorem dX4_isUnlined_0 : decode cX4_isUnlined 0 = .ok (.aload_n 1, 1) := by decide +kernel
theorem dX4_isUnlined_1 : decode cX4_isUnlined 1 = .ok (.getfield 103, 3) := by decide +kernel
theorem dX4_isUnlined_4 : decode cX4_isUnlined 4 = .ok (.ifCond .eq 15, 3) := by decide +kernel
theorem dX4_isUnlined_7 : decode cX4_isUnlined 7 = .ok (.aload_n 0, 1) := by decide +kernel
theorem dX4_isUnlined_8 : decode cX4_isUnlined 8 = .ok (.iconst 5, 1) := by decide +kernel
theorem dX4_isUnlined_9 : decode cX4_isUnlined 9 = .ok (.aload_n 1, 1) := by decide +kernel
theorem dX4_isUnlined_10 : decode cX4_isUnlined 10 = .ok (.getfield 107, 3) := by decide +kernel
theorem dX4_isUnlined_13 : decode cX4_isUnlined 13 = .ok (.invokevirtual 81, 3) := by decide +kernel
theorem dX4_isUnlined_16 : decode cX4_isUnlined 16 = .ok (.ifCond .eq 7, 3) := by decide +kernel
theorem dX4_isUnlined_19 : decode cX4_isUnlined 19 = .ok (.iconst 1, 1) := by decide +kernel
theorem dX4_isUnlined_20 : decode cX4_isUnlined 20 = .ok (.goto 4, 3) := by decide +kernel
theorem dX4_isUnlined_23 : decode cX4_isUnlined 23 = .ok (.iconst 0, 1) := by decide +kernel
theorem dX4_isUnlined_24 : decode cX4_isUnlined 24 = .ok (.ireturn, 1) := by decide +kernel
theorem dX4_hasSheets_0 : decode cX4_hasSheets 0 = .ok (.aload_n 0, 1) := by decide +kernel
theorem dX4_hasSheets_1 : decode cX4_hasSheets 1 = .ok (.getfield 25, 3) := by decide +kernel
theorem dX4_hasSheets_4 : decode cX4_hasSheets 4 = .ok (.iload_n 1, 1) := by decide +kernel
theorem dX4_hasSheets_5 : decode cX4_hasSheets 5 = .ok (.if_icmp .ge 16, 3) := by decide +kernel
theorem dX4_hasSheets_8 : decode cX4_hasSheets 8 = .ok (.aload_n 0, 1) := by decide +kernel
theorem dX4_hasSheets_9 : decode cX4_hasSheets 9 = .ok (.bipush 6, 2) := by decide +kernel
theorem dX4_hasSheets_11 : decode cX4_hasSheets 11 = .ok (.aload_n 0, 1) := by decide +kernel
theorem dX4_hasSheets_12 : decode cX4_hasSheets 12 = .ok (.getfield 25, 3) := by decide +kernel
theorem dX4_hasSheets_15 : decode cX4_hasSheets 15 = .ok (.invokevirtual 81, 3) := by decide +kernel
theorem dX4_hasSheets_18 : decode cX4_hasSheets 18 = .ok (.ifCond .eq 7, 3) := by decide +kernel
theorem dX4_hasSheets_21 : decode cX4_hasSheets 21 = .ok (.iconst 1, 1) := by decide +kernel
theorem dX4_hasSheets_22 : decode cX4_hasSheets 22 = .ok (.goto 4, 3) := by decide +kernel
theorem dX4_hasSheets_25 : decode cX4_hasSheets 25 = .ok (.iconst 0, 1) := by decide +kernel
theorem dX4_hasSheets_26 : decode cX4_hasSheets 26 = .ok (.ireturn, 1) := by decide +kernel
theorem dX4_hasNoOtherLeaves_0 : decode cX4_hasNoOtherLeaves 0 = .ok (.aload_n 1, 1) := by decide +kernel
theorem dX4_hasNoOtherLeaves_1 : decode cX4_hasNoOtherLeaves 1 = .ok (.getfield 110, 3) := by decide +kernel
theorem dX4_hasNoOtherLeaves_4 : decode cX4_hasNoOtherLeaves 4 = .ok (.ifCond .eq 40, 3) := by decide +kernel
theorem dX4_hasNoOtherLeaves_7 : decode cX4_hasNoOtherLeaves 7 = .ok (.aload_n 1, 1) := by decide +kernel
theorem dX4_hasNoOtherLeaves_8 : decode cX4_hasNoOtherLeaves 8 = .ok (.getfield 113, 3) := by decide +kernel
theorem dX4_hasNoOtherLeaves_11 : decode cX4_hasNoOtherLeaves 11 = .ok (.iload_n 2, 1) := by decide +kernel
theorem dX4_hasNoOtherLeaves_12 : decode cX4_hasNoOtherLeaves 12 = .ok (.if_icmp .ne 11, 3) := by decide +kernel
theorem dX4_hasNoOtherLeaves_15 : decode cX4_hasNoOtherLeaves 15 = .ok (.aload_n 1, 1) := by decide +kernel
theorem dX4_hasNoOtherLeaves_16 : decode cX4_hasNoOtherLeaves 16 = .ok (.getfield 116, 3) := by decide +kernel
theorem dX4_hasNoOtherLeaves_19 : decode cX4_hasNoOtherLeaves 19 = .ok (.iload_n 3, 1) := by decide +kernel
theorem dX4_hasNoOtherLeaves_20 : decode cX4_hasNoOtherLeaves 20 = .ok (.if_icmp .eq 24, 3) := by decide +kernel
theorem dX4_hasNoOtherLeaves_23 : decode cX4_hasNoOtherLeaves 23 = .ok (.aload_n 0, 1) := by decide +kernel
theorem dX4_hasNoOtherLeaves_24 : decode cX4_hasNoOtherLeaves 24 = .ok (.bipush 7, 2) := by decide +kernel
theorem dX4_hasNoOtherLeaves_26 : decode cX4_hasNoOtherLeaves 26 = .ok (.bipush 10, 2) := by decide +kernel
theorem dX4_hasNoOtherLeaves_28 : decode cX4_hasNoOtherLeaves 28 = .ok (.aload_n 1, 1) := by decide +kernel
theorem dX4_hasNoOtherLeaves_29 : decode cX4_hasNoOtherLeaves 29 = .ok (.getfield 113, 3) := by decide +kernel
theorem dX4_hasNoOtherLeaves_32 : decode cX4_hasNoOtherLeaves 32 = .ok (.imul, 1) := by decide +kernel
theorem dX4_hasNoOtherLeaves_33 : decode cX4_hasNoOtherLeaves 33 = .ok (.aload_n 1, 1) := by decide +kernel
theorem dX4_hasNoOtherLeaves_34 : decode cX4_hasNoOtherLeaves 34 = .ok (.getfield 116, 3) := by decide +kernel
theorem dX4_hasNoOtherLeaves_37 : decode cX4_hasNoOtherLeaves 37 = .ok (.iadd, 1) := by decide +kernel
theorem dX4_hasNoOtherLeaves_38 : decode cX4_hasNoOtherLeaves 38 = .ok (.invokevirtual 81, 3) := by decide +kernel
theorem dX4_hasNoOtherLeaves_41 : decode cX4_hasNoOtherLeaves 41 = .ok (.ifCond .eq 7, 3) := by decide +kernel
theorem dX4_hasNoOtherLeaves_44 : decode cX4_hasNoOtherLeaves 44 = .ok (.iconst 1, 1) := by decide +kernel
theorem dX4_hasNoOtherLeaves_45 : decode cX4_hasNoOtherLeaves 45 = .ok (.goto 4, 3) := by decide +kernel
theorem dX4_hasNoOtherLeaves_48 : decode cX4_hasNoOtherLeaves 48 = .ok (.iconst 0, 1) := by decide +kernel
theorem dX4_hasNoOtherLeaves_49 : decode cX4_hasNoOtherLeaves 49 = .ok (.ireturn, 1) := by decide +kernel
theorem dX4_hasRoom_0 : decode cX4_hasRoom 0 = .ok (.aload_n 1, 1) := by decide +kernel
theorem dX4_hasRoom_1 : decode cX4_hasRoom 1 = .ok (.invokevirtual 119, 3) := by decide +kernel
theorem dX4_hasRoom_4 : decode cX4_hasRoom 4 = .ok (.iload_n 2, 1) := by decide +kernel
theorem dX4_hasRoom_5 : decode cX4_hasRoom 5 = .ok (.if_icmp .ge 16, 3) := by decide +kernel
theorem dX4_hasRoom_8 : decode cX4_hasRoom 8 = .ok (.aload_n 0, 1) := by decide +kernel
theorem dX4_hasRoom_9 : decode cX4_hasRoom 9 = .ok (.bipush 8, 2) := by decide +kernel
theorem dX4_hasRoom_11 : decode cX4_hasRoom 11 = .ok (.aload_n 1, 1) := by decide +kernel
theorem dX4_hasRoom_12 : decode cX4_hasRoom 12 = .ok (.invokevirtual 119, 3) := by decide +kernel
theorem dX4_hasRoom_15 : decode cX4_hasRoom 15 = .ok (.invokevirtual 81, 3) := by decide +kernel
theorem dX4_hasRoom_18 : decode cX4_hasRoom 18 = .ok (.ifCond .eq 7, 3) := by decide +kernel
theorem dX4_hasRoom_21 : decode cX4_hasRoom 21 = .ok (.iconst 1, 1) := by decide +kernel
theorem dX4_hasRoom_22 : decode cX4_hasRoom 22 = .ok (.goto 4, 3) := by decide +kernel
theorem dX4_hasRoom_25 : decode cX4_hasRoom 25 = .ok (.iconst 0, 1) := by decide +kernel
theorem dX4_hasRoom_26 : decode cX4_hasRoom 26 = .ok (.ireturn, 1) := by decide +kernel
theorem dX4_hasPounds_0 : decode cX4_hasPounds 0 = .ok (.aload_n 0, 1) := by decide +kernel
theorem dX4_hasPounds_1 : decode cX4_hasPounds 1 = .ok (.iload_n 1, 1) := by decide +kernel
theorem dX4_hasPounds_2 : decode cX4_hasPounds 2 = .ok (.iload_n 2, 1) := by decide +kernel
theorem dX4_hasPounds_3 : decode cX4_hasPounds 3 = .ok (.invokevirtual 73, 3) := by decide +kernel
theorem dX4_hasPounds_6 : decode cX4_hasPounds 6 = .ok (.iload_n 3, 1) := by decide +kernel
theorem dX4_hasPounds_7 : decode cX4_hasPounds 7 = .ok (.if_icmp .ge 18, 3) := by decide +kernel
theorem dX4_hasPounds_10 : decode cX4_hasPounds 10 = .ok (.aload_n 0, 1) := by decide +kernel
theorem dX4_hasPounds_11 : decode cX4_hasPounds 11 = .ok (.bipush 9, 2) := by decide +kernel
theorem dX4_hasPounds_13 : decode cX4_hasPounds 13 = .ok (.aload_n 0, 1) := by decide +kernel
theorem dX4_hasPounds_14 : decode cX4_hasPounds 14 = .ok (.iload_n 1, 1) := by decide +kernel
theorem dX4_hasPounds_15 : decode cX4_hasPounds 15 = .ok (.iload_n 2, 1) := by decide +kernel
theorem dX4_hasPounds_16 : decode cX4_hasPounds 16 = .ok (.invokevirtual 73, 3) := by decide +kernel
theorem dX4_hasPounds_19 : decode cX4_hasPounds 19 = .ok (.invokevirtual 81, 3) := by decide +kernel
theorem dX4_hasPounds_22 : decode cX4_hasPounds 22 = .ok (.ifCond .eq 7, 3) := by decide +kernel
theorem dX4_hasPounds_25 : decode cX4_hasPounds 25 = .ok (.iconst 1, 1) := by decide +kernel
theorem dX4_hasPounds_26 : decode cX4_hasPounds 26 = .ok (.goto 4, 3) := by decide +kernel
theorem dX4_hasPounds_29 : decode cX4_hasPounds 29 = .ok (.iconst 0, 1) := by decide +kernel
theorem dX4_hasPounds_30 : decode cX4_hasPounds 30 = .ok (.ireturn, 1) := by decide +kernel
theorem dX4_isFilled_0 : decode cX4_isFilled 0 = .ok (.aload_n 1, 1) := by decide +kernel
theorem dX4_isFilled_1 : decode cX4_isFilled 1 = .ok (.getfield 110, 3) := by decide +kernel
theorem dX4_isFilled_4 : decode cX4_isFilled 4 = .ok (.ifCond .gt 16, 3) := by decide +kernel
theorem dX4_isFilled_7 : decode cX4_isFilled 7 = .ok (.aload_n 0, 1) := by decide +kernel
theorem dX4_isFilled_8 : decode cX4_isFilled 8 = .ok (.bipush 10, 2) := by decide +kernel
theorem dX4_isFilled_10 : decode cX4_isFilled 10 = .ok (.aload_n 1, 1) := by decide +kernel
theorem dX4_isFilled_11 : decode cX4_isFilled 11 = .ok (.getfield 123, 3) := by decide +kernel
theorem dX4_isFilled_14 : decode cX4_isFilled 14 = .ok (.invokevirtual 81, 3) := by decide +kernel
theorem dX4_isFilled_17 : decode cX4_isFilled 17 = .ok (.ifCond .eq 7, 3) := by decide +kernel
theorem dX4_isFilled_20 : decode cX4_isFilled 20 = .ok (.iconst 1, 1) := by decide +kernel
theorem dX4_isFilled_21 : decode cX4_isFilled 21 = .ok (.goto 4, 3) := by decide +kernel
theorem dX4_isFilled_24 : decode cX4_isFilled 24 = .ok (.iconst 0, 1) := by decide +kernel
theorem dX4_isFilled_25 : decode cX4_isFilled 25 = .ok (.ireturn, 1) := by decide +kernel
theorem dX4_hasScrews_0 : decode cX4_hasScrews 0 = .ok (.aload_n 0, 1) := by decide +kernel
theorem dX4_hasScrews_1 : decode cX4_hasScrews 1 = .ok (.getfield 29, 3) := by decide +kernel
theorem dX4_hasScrews_4 : decode cX4_hasScrews 4 = .ok (.iload_n 1, 1) := by decide +kernel
theorem dX4_hasScrews_5 : decode cX4_hasScrews 5 = .ok (.if_icmp .ge 16, 3) := by decide +kernel
theorem dX4_hasScrews_8 : decode cX4_hasScrews 8 = .ok (.aload_n 0, 1) := by decide +kernel
theorem dX4_hasScrews_9 : decode cX4_hasScrews 9 = .ok (.bipush 11, 2) := by decide +kernel
theorem dX4_hasScrews_11 : decode cX4_hasScrews 11 = .ok (.aload_n 0, 1) := by decide +kernel
theorem dX4_hasScrews_12 : decode cX4_hasScrews 12 = .ok (.getfield 29, 3) := by decide +kernel
theorem dX4_hasScrews_15 : decode cX4_hasScrews 15 = .ok (.invokevirtual 81, 3) := by decide +kernel
theorem dX4_hasScrews_18 : decode cX4_hasScrews 18 = .ok (.ifCond .eq 7, 3) := by decide +kernel
theorem dX4_hasScrews_21 : decode cX4_hasScrews 21 = .ok (.iconst 1, 1) := by decide +kernel
theorem dX4_hasScrews_22 : decode cX4_hasScrews 22 = .ok (.goto 4, 3) := by decide +kernel
theorem dX4_hasScrews_25 : decode cX4_hasScrews 25 = .ok (.iconst 0, 1) := by decide +kernel
theorem dX4_hasScrews_26 : decode cX4_hasScrews 26 = .ok (.ireturn, 1) := by decide +kernel
theorem dX4_takesScrews_0 : decode cX4_takesScrews 0 = .ok (.aload_n 1, 1) := by decide +kernel
theorem dX4_takesScrews_1 : decode cX4_takesScrews 1 = .ok (.getfield 102, 3) := by decide +kernel
theorem dX4_takesScrews_4 : decode cX4_takesScrews 4 = .ok (.iload_n 2, 1) := by decide +kernel
theorem dX4_takesScrews_5 : decode cX4_takesScrews 5 = .ok (.iadd, 1) := by decide +kernel
theorem dX4_takesScrews_6 : decode cX4_takesScrews 6 = .ok (.bipush 8, 2) := by decide +kernel
theorem dX4_takesScrews_8 : decode cX4_takesScrews 8 = .ok (.if_icmp .le 16, 3) := by decide +kernel
theorem dX4_takesScrews_11 : decode cX4_takesScrews 11 = .ok (.aload_n 0, 1) := by decide +kernel
theorem dX4_takesScrews_12 : decode cX4_takesScrews 12 = .ok (.bipush 12, 2) := by decide +kernel
theorem dX4_takesScrews_14 : decode cX4_takesScrews 14 = .ok (.aload_n 1, 1) := by decide +kernel
theorem dX4_takesScrews_15 : decode cX4_takesScrews 15 = .ok (.getfield 102, 3) := by decide +kernel
theorem dX4_takesScrews_18 : decode cX4_takesScrews 18 = .ok (.invokevirtual 81, 3) := by decide +kernel
theorem dX4_takesScrews_21 : decode cX4_takesScrews 21 = .ok (.ifCond .eq 7, 3) := by decide +kernel
theorem dX4_takesScrews_24 : decode cX4_takesScrews 24 = .ok (.iconst 1, 1) := by decide +kernel
theorem dX4_takesScrews_25 : decode cX4_takesScrews 25 = .ok (.goto 4, 3) := by decide +kernel
theorem dX4_takesScrews_28 : decode cX4_takesScrews 28 = .ok (.iconst 0, 1) := by decide +kernel
theorem dX4_takesScrews_29 : decode cX4_takesScrews 29 = .ok (.ireturn, 1) := by decide +kernel
theorem dX4_isReadyForQuay_0 : decode cX4_isReadyForQuay 0 = .ok (.aload_n 1, 1) := by decide +kernel
theorem dX4_isReadyForQuay_1 : decode cX4_isReadyForQuay 1 = .ok (.invokevirtual 126, 3) := by decide +kernel
theorem dX4_isReadyForQuay_4 : decode cX4_isReadyForQuay 4 = .ok (.ifCond .ne 14, 3) := by decide +kernel
theorem dX4_isReadyForQuay_7 : decode cX4_isReadyForQuay 7 = .ok (.aload_n 0, 1) := by decide +kernel
theorem dX4_isReadyForQuay_8 : decode cX4_isReadyForQuay 8 = .ok (.bipush 13, 2) := by decide +kernel
theorem dX4_isReadyForQuay_10 : decode cX4_isReadyForQuay 10 = .ok (.aload_n 1, 1) := by decide +kernel
theorem dX4_isReadyForQuay_11 : decode cX4_isReadyForQuay 11 = .ok (.getfield 123, 3) := by decide +kernel
theorem dX4_isReadyForQuay_14 : decode cX4_isReadyForQuay 14 = .ok (.invokevirtual 81, 3) := by decide +kernel
theorem dX4_isReadyForQuay_17 : decode cX4_isReadyForQuay 17 = .ok (.ireturn, 1) := by decide +kernel
theorem dX4_isReadyForQuay_18 : decode cX4_isReadyForQuay 18 = .ok (.aload_n 1, 1) := by decide +kernel
theorem dX4_isReadyForQuay_19 : decode cX4_isReadyForQuay 19 = .ok (.invokevirtual 130, 3) := by decide +kernel
theorem dX4_isReadyForQuay_22 : decode cX4_isReadyForQuay 22 = .ok (.ifCond .ne 16, 3) := by decide +kernel
theorem dX4_isReadyForQuay_25 : decode cX4_isReadyForQuay 25 = .ok (.aload_n 0, 1) := by decide +kernel
theorem dX4_isReadyForQuay_26 : decode cX4_isReadyForQuay 26 = .ok (.bipush 14, 2) := by decide +kernel
theorem dX4_isReadyForQuay_28 : decode cX4_isReadyForQuay 28 = .ok (.aload_n 1, 1) := by decide +kernel
theorem dX4_isReadyForQuay_29 : decode cX4_isReadyForQuay 29 = .ok (.getfield 123, 3) := by decide +kernel
theorem dX4_isReadyForQuay_32 : decode cX4_isReadyForQuay 32 = .ok (.invokevirtual 81, 3) := by decide +kernel
theorem dX4_isReadyForQuay_35 : decode cX4_isReadyForQuay 35 = .ok (.ifCond .eq 7, 3) := by decide +kernel
theorem dX4_isReadyForQuay_38 : decode cX4_isReadyForQuay 38 = .ok (.iconst 1, 1) := by decide +kernel
theorem dX4_isReadyForQuay_39 : decode cX4_isReadyForQuay 39 = .ok (.goto 4, 3) := by decide +kernel
theorem dX4_isReadyForQuay_42 : decode cX4_isReadyForQuay 42 = .ok (.iconst 0, 1) := by decide +kernel
theorem dX4_isReadyForQuay_43 : decode cX4_isReadyForQuay 43 = .ok (.ireturn, 1) := by decide +kernel
theorem dX4_isOnQuay_0 : decode cX4_isOnQuay 0 = .ok (.aload_n 1, 1) := by decide +kernel
theorem dX4_isOnQuay_1 : decode cX4_isOnQuay 1 = .ok (.getfield 99, 3) := by decide +kernel
theorem dX4_isOnQuay_4 : decode cX4_isOnQuay 4 = .ok (.iconst 1, 1) := by decide +kernel
theorem dX4_isOnQuay_5 : decode cX4_isOnQuay 5 = .ok (.if_icmp .eq 16, 3) := by decide +kernel
theorem dX4_isOnQuay_8 : decode cX4_isOnQuay 8 = .ok (.aload_n 0, 1) := by decide +kernel
theorem dX4_isOnQuay_9 : decode cX4_isOnQuay 9 = .ok (.bipush 15, 2) := by decide +kernel
theorem dX4_isOnQuay_11 : decode cX4_isOnQuay 11 = .ok (.aload_n 1, 1) := by decide +kernel
theorem dX4_isOnQuay_12 : decode cX4_isOnQuay 12 = .ok (.getfield 99, 3) := by decide +kernel
theorem dX4_isOnQuay_15 : decode cX4_isOnQuay 15 = .ok (.invokevirtual 81, 3) := by decide +kernel
theorem dX4_isOnQuay_18 : decode cX4_isOnQuay 18 = .ok (.ifCond .eq 7, 3) := by decide +kernel
theorem dX4_isOnQuay_21 : decode cX4_isOnQuay 21 = .ok (.iconst 1, 1) := by decide +kernel
theorem dX4_isOnQuay_22 : decode cX4_isOnQuay 22 = .ok (.goto 4, 3) := by decide +kernel
theorem dX4_isOnQuay_25 : decode cX4_isOnQuay 25 = .ok (.iconst 0, 1) := by decide +kernel
theorem dX4_isOnQuay_26 : decode cX4_isOnQuay 26 = .ok (.ireturn, 1) := by decide +kernel
theorem dX4_isShipReached_0 : decode cX4_isShipReached 0 = .ok (.aload_n 0, 1) := by decide +kernel
theorem dX4_isShipReached_1 : decode cX4_isShipReached 1 = .ok (.iconst 0, 1) := by decide +kernel
theorem dX4_isShipReached_2 : decode cX4_isShipReached 2 = .ok (.invokevirtual 133, 3) := by decide +kernel
theorem dX4_isShipReached_5 : decode cX4_isShipReached 5 = .ok (.iconst 3, 1) := by decide +kernel
theorem dX4_isShipReached_6 : decode cX4_isShipReached 6 = .ok (.if_icmp .ge 17, 3) := by decide +kernel
theorem dX4_isShipReached_9 : decode cX4_isShipReached 9 = .ok (.aload_n 0, 1) := by decide +kernel
theorem dX4_isShipReached_10 : decode cX4_isShipReached 10 = .ok (.bipush 16, 2) := by decide +kernel
theorem dX4_isShipReached_12 : decode cX4_isShipReached 12 = .ok (.aload_n 0, 1) := by decide +kernel
theorem dX4_isShipReached_13 : decode cX4_isShipReached 13 = .ok (.iconst 0, 1) := by decide +kernel
theorem dX4_isShipReached_14 : decode cX4_isShipReached 14 = .ok (.invokevirtual 133, 3) := by decide +kernel
theorem dX4_isShipReached_17 : decode cX4_isShipReached 17 = .ok (.invokevirtual 81, 3) := by decide +kernel
theorem dX4_isShipReached_20 : decode cX4_isShipReached 20 = .ok (.ifCond .eq 7, 3) := by decide +kernel
theorem dX4_isShipReached_23 : decode cX4_isShipReached 23 = .ok (.iconst 1, 1) := by decide +kernel
theorem dX4_isShipReached_24 : decode cX4_isShipReached 24 = .ok (.goto 4, 3) := by decide +kernel
theorem dX4_isShipReached_27 : decode cX4_isShipReached 27 = .ok (.iconst 0, 1) := by decide +kernel
theorem dX4_isShipReached_28 : decode cX4_isShipReached 28 = .ok (.ireturn, 1) := by decide +kernel
theorem dX4_hasShipRoom_0 : decode cX4_hasShipRoom 0 = .ok (.aload_n 0, 1) := by decide +kernel
theorem dX4_hasShipRoom_1 : decode cX4_hasShipRoom 1 = .ok (.invokevirtual 136, 3) := by decide +kernel
theorem dX4_hasShipRoom_4 : decode cX4_hasShipRoom 4 = .ok (.iload_n 1, 1) := by decide +kernel
theorem dX4_hasShipRoom_5 : decode cX4_hasShipRoom 5 = .ok (.if_icmp .ge 16, 3) := by decide +kernel
theorem dX4_hasShipRoom_8 : decode cX4_hasShipRoom 8 = .ok (.aload_n 0, 1) := by decide +kernel
theorem dX4_hasShipRoom_9 : decode cX4_hasShipRoom 9 = .ok (.bipush 17, 2) := by decide +kernel
theorem dX4_hasShipRoom_11 : decode cX4_hasShipRoom 11 = .ok (.aload_n 0, 1) := by decide +kernel
theorem dX4_hasShipRoom_12 : decode cX4_hasShipRoom 12 = .ok (.invokevirtual 136, 3) := by decide +kernel
theorem dX4_hasShipRoom_15 : decode cX4_hasShipRoom 15 = .ok (.invokevirtual 81, 3) := by decide +kernel
theorem dX4_hasShipRoom_18 : decode cX4_hasShipRoom 18 = .ok (.ifCond .eq 7, 3) := by decide +kernel
theorem dX4_hasShipRoom_21 : decode cX4_hasShipRoom 21 = .ok (.iconst 1, 1) := by decide +kernel
theorem dX4_hasShipRoom_22 : decode cX4_hasShipRoom 22 = .ok (.goto 4, 3) := by decide +kernel
theorem dX4_hasShipRoom_25 : decode cX4_hasShipRoom 25 = .ok (.iconst 0, 1) := by decide +kernel
theorem dX4_hasShipRoom_26 : decode cX4_hasShipRoom 26 = .ok (.ireturn, 1) := by decide +kernel
theorem dX4_isShipLoaded_0 : decode cX4_isShipLoaded 0 = .ok (.aload_n 0, 1) := by decide +kernel
theorem dX4_isShipLoaded_1 : decode cX4_isShipLoaded 1 = .ok (.iconst 2, 1) := by decide +kernel
theorem dX4_isShipLoaded_2 : decode cX4_isShipLoaded 2 = .ok (.invokevirtual 139, 3) := by decide +kernel
theorem dX4_isShipLoaded_5 : decode cX4_isShipLoaded 5 = .ok (.ifCond .gt 13, 3) := by decide +kernel
theorem dX4_isShipLoaded_8 : decode cX4_isShipLoaded 8 = .ok (.aload_n 0, 1) := by decide +kernel
theorem dX4_isShipLoaded_9 : decode cX4_isShipLoaded 9 = .ok (.bipush 18, 2) := by decide +kernel
theorem dX4_isShipLoaded_11 : decode cX4_isShipLoaded 11 = .ok (.iconst 0, 1) := by decide +kernel
theorem dX4_isShipLoaded_12 : decode cX4_isShipLoaded 12 = .ok (.invokevirtual 81, 3) := by decide +kernel
theorem dX4_isShipLoaded_15 : decode cX4_isShipLoaded 15 = .ok (.ifCond .eq 7, 3) := by decide +kernel
theorem dX4_isShipLoaded_18 : decode cX4_isShipLoaded 18 = .ok (.iconst 1, 1) := by decide +kernel
theorem dX4_isShipLoaded_19 : decode cX4_isShipLoaded 19 = .ok (.goto 4, 3) := by decide +kernel
theorem dX4_isShipLoaded_22 : decode cX4_isShipLoaded 22 = .ok (.iconst 0, 1) := by decide +kernel
theorem dX4_isShipLoaded_23 : decode cX4_isShipLoaded 23 = .ok (.ireturn, 1) := by decide +kernel
theorem dX4_find_0 : decode cX4_find 0 = .ok (.iload_n 1, 1) := by decide +kernel
theorem dX4_find_1 : decode cX4_find 1 = .ok (.ifCond .lt 29, 3) := by decide +kernel
theorem dX4_find_4 : decode cX4_find 4 = .ok (.iload_n 1, 1) := by decide +kernel
theorem dX4_find_5 : decode cX4_find 5 = .ok (.aload_n 0, 1) := by decide +kernel
theorem dX4_find_6 : decode cX4_find 6 = .ok (.getfield 48, 3) := by decide +kernel
theorem dX4_find_9 : decode cX4_find 9 = .ok (.if_icmp .ge 21, 3) := by decide +kernel
theorem dX4_find_12 : decode cX4_find 12 = .ok (.iload_n 1, 1) := by decide +kernel
theorem dX4_find_13 : decode cX4_find 13 = .ok (.aload_n 0, 1) := by decide +kernel
theorem dX4_find_14 : decode cX4_find 14 = .ok (.getfield 21, 3) := by decide +kernel
theorem dX4_find_17 : decode cX4_find 17 = .ok (.arraylength, 1) := by decide +kernel
theorem dX4_find_18 : decode cX4_find 18 = .ok (.if_icmp .ge 12, 3) := by decide +kernel
theorem dX4_find_21 : decode cX4_find 21 = .ok (.aload_n 0, 1) := by decide +kernel
theorem dX4_find_22 : decode cX4_find 22 = .ok (.getfield 21, 3) := by decide +kernel
theorem dX4_find_25 : decode cX4_find 25 = .ok (.iload_n 1, 1) := by decide +kernel
theorem dX4_find_26 : decode cX4_find 26 = .ok (.aaload, 1) := by decide +kernel
theorem dX4_find_27 : decode cX4_find 27 = .ok (.goto 4, 3) := by decide +kernel
theorem dX4_find_30 : decode cX4_find 30 = .ok (.aconst_null, 1) := by decide +kernel
theorem dX4_find_31 : decode cX4_find 31 = .ok (.areturn, 1) := by decide +kernel
theorem dX4_tryMake_0 : decode cX4_tryMake 0 = .ok (.aload_n 0, 1) := by decide +kernel
theorem dX4_tryMake_1 : decode cX4_tryMake 1 = .ok (.getfield 48, 3) := by decide +kernel
theorem dX4_tryMake_4 : decode cX4_tryMake 4 = .ok (.aload_n 0, 1) := by decide +kernel
theorem dX4_tryMake_5 : decode cX4_tryMake 5 = .ok (.getfield 21, 3) := by decide +kernel
theorem dX4_tryMake_8 : decode cX4_tryMake 8 = .ok (.arraylength, 1) := by decide +kernel
theorem dX4_tryMake_9 : decode cX4_tryMake 9 = .ok (.if_icmp .lt 13, 3) := by decide +kernel
theorem dX4_tryMake_12 : decode cX4_tryMake 12 = .ok (.aload_n 0, 1) := by decide +kernel
theorem dX4_tryMake_13 : decode cX4_tryMake 13 = .ok (.iconst 1, 1) := by decide +kernel
theorem dX4_tryMake_14 : decode cX4_tryMake 14 = .ok (.aload_n 0, 1) := by decide +kernel
theorem dX4_tryMake_15 : decode cX4_tryMake 15 = .ok (.getfield 48, 3) := by decide +kernel
theorem dX4_tryMake_18 : decode cX4_tryMake 18 = .ok (.invokevirtual 81, 3) := by decide +kernel
theorem dX4_tryMake_21 : decode cX4_tryMake 21 = .ok (.ireturn, 1) := by decide +kernel
theorem dX4_tryMake_22 : decode cX4_tryMake 22 = .ok (.aload_n 0, 1) := by decide +kernel
theorem dX4_tryMake_23 : decode cX4_tryMake 23 = .ok (.getfield 21, 3) := by decide +kernel
theorem dX4_tryMake_26 : decode cX4_tryMake 26 = .ok (.aload_n 0, 1) := by decide +kernel
theorem dX4_tryMake_27 : decode cX4_tryMake 27 = .ok (.getfield 48, 3) := by decide +kernel
theorem dX4_tryMake_30 : decode cX4_tryMake 30 = .ok (.aaload, 1) := by decide +kernel
theorem dX4_tryMake_31 : decode cX4_tryMake 31 = .ok (.iload_n 1, 1) := by decide +kernel
theorem dX4_tryMake_32 : decode cX4_tryMake 32 = .ok (.putfield 107, 3) := by decide +kernel
theorem dX4_tryMake_35 : decode cX4_tryMake 35 = .ok (.aload_n 0, 1) := by decide +kernel
theorem dX4_tryMake_36 : decode cX4_tryMake 36 = .ok (.getfield 21, 3) := by decide +kernel
theorem dX4_tryMake_39 : decode cX4_tryMake 39 = .ok (.aload_n 0, 1) := by decide +kernel
theorem dX4_tryMake_40 : decode cX4_tryMake 40 = .ok (.getfield 48, 3) := by decide +kernel
theorem dX4_tryMake_43 : decode cX4_tryMake 43 = .ok (.aaload, 1) := by decide +kernel
theorem dX4_tryMake_44 : decode cX4_tryMake 44 = .ok (.iconst 0, 1) := by decide +kernel
theorem dX4_tryMake_45 : decode cX4_tryMake 45 = .ok (.putfield 99, 3) := by decide +kernel
theorem dX4_tryMake_48 : decode cX4_tryMake 48 = .ok (.aload_n 0, 1) := by decide +kernel
theorem dX4_tryMake_49 : decode cX4_tryMake 49 = .ok (.dup, 1) := by decide +kernel
theorem dX4_tryMake_50 : decode cX4_tryMake 50 = .ok (.getfield 48, 3) := by decide +kernel
theorem dX4_tryMake_53 : decode cX4_tryMake 53 = .ok (.iconst 1, 1) := by decide +kernel
theorem dX4_tryMake_54 : decode cX4_tryMake 54 = .ok (.iadd, 1) := by decide +kernel
theorem dX4_tryMake_55 : decode cX4_tryMake 55 = .ok (.putfield 48, 3) := by decide +kernel
theorem dX4_tryMake_58 : decode cX4_tryMake 58 = .ok (.iconst 1, 1) := by decide +kernel
theorem dX4_tryMake_59 : decode cX4_tryMake 59 = .ok (.ireturn, 1) := by decide +kernel
theorem dX4_tryLine_0 : decode cX4_tryLine 0 = .ok (.iconst 2, 1) := by decide +kernel
theorem dX4_tryLine_1 : decode cX4_tryLine 1 = .ok (.aload_n 1, 1) := by decide +kernel
theorem dX4_tryLine_2 : decode cX4_tryLine 2 = .ok (.getfield 107, 3) := by decide +kernel
theorem dX4_tryLine_5 : decode cX4_tryLine 5 = .ok (.imul, 1) := by decide +kernel
theorem dX4_tryLine_6 : decode cX4_tryLine 6 = .ok (.istore_n 2, 1) := by decide +kernel
theorem dX4_tryLine_7 : decode cX4_tryLine 7 = .ok (.aload_n 0, 1) := by decide +kernel
theorem dX4_tryLine_8 : decode cX4_tryLine 8 = .ok (.aload_n 1, 1) := by decide +kernel
theorem dX4_tryLine_9 : decode cX4_tryLine 9 = .ok (.invokevirtual 142, 3) := by decide +kernel
theorem dX4_tryLine_12 : decode cX4_tryLine 12 = .ok (.ifCond .eq 27, 3) := by decide +kernel
theorem dX4_tryLine_15 : decode cX4_tryLine 15 = .ok (.aload_n 0, 1) := by decide +kernel
theorem dX4_tryLine_16 : decode cX4_tryLine 16 = .ok (.aload_n 1, 1) := by decide +kernel
theorem dX4_tryLine_17 : decode cX4_tryLine 17 = .ok (.invokevirtual 146, 3) := by decide +kernel
theorem dX4_tryLine_20 : decode cX4_tryLine 20 = .ok (.ifCond .eq 19, 3) := by decide +kernel
theorem dX4_tryLine_23 : decode cX4_tryLine 23 = .ok (.aload_n 0, 1) := by decide +kernel
theorem dX4_tryLine_24 : decode cX4_tryLine 24 = .ok (.aload_n 1, 1) := by decide +kernel
theorem dX4_tryLine_25 : decode cX4_tryLine 25 = .ok (.invokevirtual 149, 3) := by decide +kernel
theorem dX4_tryLine_28 : decode cX4_tryLine 28 = .ok (.ifCond .eq 11, 3) := by decide +kernel
theorem dX4_tryLine_31 : decode cX4_tryLine 31 = .ok (.aload_n 0, 1) := by decide +kernel
theorem dX4_tryLine_32 : decode cX4_tryLine 32 = .ok (.iload_n 2, 1) := by decide +kernel
theorem dX4_tryLine_33 : decode cX4_tryLine 33 = .ok (.invokevirtual 152, 3) := by decide +kernel
theorem dX4_tryLine_36 : decode cX4_tryLine 36 = .ok (.ifCond .ne 5, 3) := by decide +kernel
theorem dX4_tryLine_39 : decode cX4_tryLine 39 = .ok (.iconst 0, 1) := by decide +kernel
theorem dX4_tryLine_40 : decode cX4_tryLine 40 = .ok (.ireturn, 1) := by decide +kernel
theorem dX4_tryLine_41 : decode cX4_tryLine 41 = .ok (.aload_n 0, 1) := by decide +kernel
theorem dX4_tryLine_42 : decode cX4_tryLine 42 = .ok (.dup, 1) := by decide +kernel
theorem dX4_tryLine_43 : decode cX4_tryLine 43 = .ok (.getfield 25, 3) := by decide +kernel
theorem dX4_tryLine_46 : decode cX4_tryLine 46 = .ok (.iload_n 2, 1) := by decide +kernel
theorem dX4_tryLine_47 : decode cX4_tryLine 47 = .ok (.isub, 1) := by decide +kernel
theorem dX4_tryLine_48 : decode cX4_tryLine 48 = .ok (.putfield 25, 3) := by decide +kernel
theorem dX4_tryLine_51 : decode cX4_tryLine 51 = .ok (.aload_n 1, 1) := by decide +kernel
theorem dX4_tryLine_52 : decode cX4_tryLine 52 = .ok (.iconst 1, 1) := by decide +kernel
theorem dX4_tryLine_53 : decode cX4_tryLine 53 = .ok (.putfield 103, 3) := by decide +kernel
theorem dX4_tryLine_56 : decode cX4_tryLine 56 = .ok (.iconst 1, 1) := by decide +kernel
theorem dX4_tryLine_57 : decode cX4_tryLine 57 = .ok (.ireturn, 1) := by decide +kernel
theorem dX4_tryFill_0 : decode cX4_tryFill 0 = .ok (.aload_n 0, 1) := by decide +kernel
theorem dX4_tryFill_1 : decode cX4_tryFill 1 = .ok (.aload_n 1, 1) := by decide +kernel
theorem dX4_tryFill_2 : decode cX4_tryFill 2 = .ok (.invokevirtual 142, 3) := by decide +kernel
theorem dX4_tryFill_5 : decode cX4_tryFill 5 = .ok (.ifCond .eq 42, 3) := by decide +kernel
theorem dX4_tryFill_8 : decode cX4_tryFill 8 = .ok (.aload_n 0, 1) := by decide +kernel
theorem dX4_tryFill_9 : decode cX4_tryFill 9 = .ok (.aload_n 1, 1) := by decide +kernel
theorem dX4_tryFill_10 : decode cX4_tryFill 10 = .ok (.invokevirtual 146, 3) := by decide +kernel
theorem dX4_tryFill_13 : decode cX4_tryFill 13 = .ok (.ifCond .eq 34, 3) := by decide +kernel
theorem dX4_tryFill_16 : decode cX4_tryFill 16 = .ok (.aload_n 0, 1) := by decide +kernel
theorem dX4_tryFill_17 : decode cX4_tryFill 17 = .ok (.aload_n 1, 1) := by decide +kernel
theorem dX4_tryFill_18 : decode cX4_tryFill 18 = .ok (.iload_n 2, 1) := by decide +kernel
theorem dX4_tryFill_19 : decode cX4_tryFill 19 = .ok (.iload_n 3, 1) := by decide +kernel
theorem dX4_tryFill_20 : decode cX4_tryFill 20 = .ok (.invokevirtual 156, 3) := by decide +kernel
theorem dX4_tryFill_23 : decode cX4_tryFill 23 = .ok (.ifCond .eq 24, 3) := by decide +kernel
theorem dX4_tryFill_26 : decode cX4_tryFill 26 = .ok (.aload_n 0, 1) := by decide +kernel
theorem dX4_tryFill_27 : decode cX4_tryFill 27 = .ok (.aload_n 1, 1) := by decide +kernel
theorem dX4_tryFill_28 : decode cX4_tryFill 28 = .ok (.iload 4, 2) := by decide +kernel
theorem dX4_tryFill_30 : decode cX4_tryFill 30 = .ok (.invokevirtual 160, 3) := by decide +kernel
theorem dX4_tryFill_33 : decode cX4_tryFill 33 = .ok (.ifCond .eq 14, 3) := by decide +kernel
theorem dX4_tryFill_36 : decode cX4_tryFill 36 = .ok (.aload_n 0, 1) := by decide +kernel
theorem dX4_tryFill_37 : decode cX4_tryFill 37 = .ok (.iload_n 2, 1) := by decide +kernel
theorem dX4_tryFill_38 : decode cX4_tryFill 38 = .ok (.iload_n 3, 1) := by decide +kernel
theorem dX4_tryFill_39 : decode cX4_tryFill 39 = .ok (.iload 4, 2) := by decide +kernel
theorem dX4_tryFill_41 : decode cX4_tryFill 41 = .ok (.invokevirtual 164, 3) := by decide +kernel
theorem dX4_tryFill_44 : decode cX4_tryFill 44 = .ok (.ifCond .ne 5, 3) := by decide +kernel
theorem dX4_tryFill_47 : decode cX4_tryFill 47 = .ok (.iconst 0, 1) := by decide +kernel
theorem dX4_tryFill_48 : decode cX4_tryFill 48 = .ok (.ireturn, 1) := by decide +kernel
theorem dX4_tryFill_49 : decode cX4_tryFill 49 = .ok (.aload_n 0, 1) := by decide +kernel
theorem dX4_tryFill_50 : decode cX4_tryFill 50 = .ok (.iload_n 2, 1) := by decide +kernel
theorem dX4_tryFill_51 : decode cX4_tryFill 51 = .ok (.iload_n 3, 1) := by decide +kernel
theorem dX4_tryFill_52 : decode cX4_tryFill 52 = .ok (.iload 4, 2) := by decide +kernel
theorem dX4_tryFill_54 : decode cX4_tryFill 54 = .ok (.ineg, 1) := by decide +kernel
theorem dX4_tryFill_55 : decode cX4_tryFill 55 = .ok (.invokevirtual 84, 3) := by decide +kernel
theorem dX4_tryFill_58 : decode cX4_tryFill 58 = .ok (.aload_n 1, 1) := by decide +kernel
theorem dX4_tryFill_59 : decode cX4_tryFill 59 = .ok (.iload_n 2, 1) := by decide +kernel
theorem dX4_tryFill_60 : decode cX4_tryFill 60 = .ok (.iload_n 3, 1) := by decide +kernel
theorem dX4_tryFill_61 : decode cX4_tryFill 61 = .ok (.iload 4, 2) := by decide +kernel
theorem dX4_tryFill_63 : decode cX4_tryFill 63 = .ok (.invokevirtual 168, 3) := by decide +kernel
theorem dX4_tryFill_66 : decode cX4_tryFill 66 = .ok (.iconst 1, 1) := by decide +kernel
theorem dX4_tryFill_67 : decode cX4_tryFill 67 = .ok (.ireturn, 1) := by decide +kernel
theorem dX4_tryEmpty_0 : decode cX4_tryEmpty 0 = .ok (.aload_n 0, 1) := by decide +kernel
theorem dX4_tryEmpty_1 : decode cX4_tryEmpty 1 = .ok (.aload_n 1, 1) := by decide +kernel
theorem dX4_tryEmpty_2 : decode cX4_tryEmpty 2 = .ok (.invokevirtual 142, 3) := by decide +kernel
theorem dX4_tryEmpty_5 : decode cX4_tryEmpty 5 = .ok (.ifCond .eq 19, 3) := by decide +kernel
theorem dX4_tryEmpty_8 : decode cX4_tryEmpty 8 = .ok (.aload_n 0, 1) := by decide +kernel
theorem dX4_tryEmpty_9 : decode cX4_tryEmpty 9 = .ok (.aload_n 1, 1) := by decide +kernel
theorem dX4_tryEmpty_10 : decode cX4_tryEmpty 10 = .ok (.invokevirtual 146, 3) := by decide +kernel
theorem dX4_tryEmpty_13 : decode cX4_tryEmpty 13 = .ok (.ifCond .eq 11, 3) := by decide +kernel
theorem dX4_tryEmpty_16 : decode cX4_tryEmpty 16 = .ok (.aload_n 0, 1) := by decide +kernel
theorem dX4_tryEmpty_17 : decode cX4_tryEmpty 17 = .ok (.aload_n 1, 1) := by decide +kernel
theorem dX4_tryEmpty_18 : decode cX4_tryEmpty 18 = .ok (.invokevirtual 171, 3) := by decide +kernel
theorem dX4_tryEmpty_21 : decode cX4_tryEmpty 21 = .ok (.ifCond .ne 5, 3) := by decide +kernel
theorem dX4_tryEmpty_24 : decode cX4_tryEmpty 24 = .ok (.iconst 0, 1) := by decide +kernel
theorem dX4_tryEmpty_25 : decode cX4_tryEmpty 25 = .ok (.ireturn, 1) := by decide +kernel
theorem dX4_tryEmpty_26 : decode cX4_tryEmpty 26 = .ok (.sipush 500, 3) := by decide +kernel
theorem dX4_tryEmpty_29 : decode cX4_tryEmpty 29 = .ok (.aload_n 0, 1) := by decide +kernel
theorem dX4_tryEmpty_30 : decode cX4_tryEmpty 30 = .ok (.aload_n 1, 1) := by decide +kernel
theorem dX4_tryEmpty_31 : decode cX4_tryEmpty 31 = .ok (.getfield 113, 3) := by decide +kernel
theorem dX4_tryEmpty_34 : decode cX4_tryEmpty 34 = .ok (.aload_n 1, 1) := by decide +kernel
theorem dX4_tryEmpty_35 : decode cX4_tryEmpty 35 = .ok (.getfield 116, 3) := by decide +kernel
theorem dX4_tryEmpty_38 : decode cX4_tryEmpty 38 = .ok (.invokevirtual 73, 3) := by decide +kernel
theorem dX4_tryEmpty_41 : decode cX4_tryEmpty 41 = .ok (.isub, 1) := by decide +kernel
theorem dX4_tryEmpty_42 : decode cX4_tryEmpty 42 = .ok (.istore_n 2, 1) := by decide +kernel
theorem dX4_tryEmpty_43 : decode cX4_tryEmpty 43 = .ok (.iload_n 2, 1) := by decide +kernel
theorem dX4_tryEmpty_44 : decode cX4_tryEmpty 44 = .ok (.aload_n 1, 1) := by decide +kernel
theorem dX4_tryEmpty_45 : decode cX4_tryEmpty 45 = .ok (.getfield 110, 3) := by decide +kernel
theorem dX4_tryEmpty_48 : decode cX4_tryEmpty 48 = .ok (.invokestatic 88, 3) := by decide +kernel
theorem dX4_tryEmpty_51 : decode cX4_tryEmpty 51 = .ok (.istore_n 3, 1) := by decide +kernel
theorem dX4_tryEmpty_52 : decode cX4_tryEmpty 52 = .ok (.aload_n 0, 1) := by decide +kernel
theorem dX4_tryEmpty_53 : decode cX4_tryEmpty 53 = .ok (.aload_n 1, 1) := by decide +kernel
theorem dX4_tryEmpty_54 : decode cX4_tryEmpty 54 = .ok (.getfield 113, 3) := by decide +kernel
theorem dX4_tryEmpty_57 : decode cX4_tryEmpty 57 = .ok (.aload_n 1, 1) := by decide +kernel
theorem dX4_tryEmpty_58 : decode cX4_tryEmpty 58 = .ok (.getfield 116, 3) := by decide +kernel
theorem dX4_tryEmpty_61 : decode cX4_tryEmpty 61 = .ok (.iload_n 3, 1) := by decide +kernel
theorem dX4_tryEmpty_62 : decode cX4_tryEmpty 62 = .ok (.invokevirtual 84, 3) := by decide +kernel
theorem dX4_tryEmpty_65 : decode cX4_tryEmpty 65 = .ok (.aload_n 0, 1) := by decide +kernel
theorem dX4_tryEmpty_66 : decode cX4_tryEmpty 66 = .ok (.dup, 1) := by decide +kernel
theorem dX4_tryEmpty_67 : decode cX4_tryEmpty 67 = .ok (.getfield 66, 3) := by decide +kernel
theorem dX4_tryEmpty_70 : decode cX4_tryEmpty 70 = .ok (.aload_n 1, 1) := by decide +kernel
theorem dX4_tryEmpty_71 : decode cX4_tryEmpty 71 = .ok (.getfield 110, 3) := by decide +kernel
theorem dX4_tryEmpty_74 : decode cX4_tryEmpty 74 = .ok (.iload_n 3, 1) := by decide +kernel
theorem dX4_tryEmpty_75 : decode cX4_tryEmpty 75 = .ok (.isub, 1) := by decide +kernel
theorem dX4_tryEmpty_76 : decode cX4_tryEmpty 76 = .ok (.iadd, 1) := by decide +kernel
theorem dX4_tryEmpty_77 : decode cX4_tryEmpty 77 = .ok (.putfield 66, 3) := by decide +kernel
theorem dX4_tryEmpty_80 : decode cX4_tryEmpty 80 = .ok (.aload_n 1, 1) := by decide +kernel
theorem dX4_tryEmpty_81 : decode cX4_tryEmpty 81 = .ok (.invokevirtual 174, 3) := by decide +kernel
theorem dX4_tryEmpty_84 : decode cX4_tryEmpty 84 = .ok (.iconst 1, 1) := by decide +kernel
theorem dX4_tryEmpty_85 : decode cX4_tryEmpty 85 = .ok (.ireturn, 1) := by decide +kernel
theorem dX4_tryScrew_0 : decode cX4_tryScrew 0 = .ok (.aload_n 0, 1) := by decide +kernel
theorem dX4_tryScrew_1 : decode cX4_tryScrew 1 = .ok (.aload_n 1, 1) := by decide +kernel
theorem dX4_tryScrew_2 : decode cX4_tryScrew 2 = .ok (.invokevirtual 142, 3) := by decide +kernel
theorem dX4_tryScrew_5 : decode cX4_tryScrew 5 = .ok (.ifCond .eq 28, 3) := by decide +kernel
theorem dX4_tryScrew_8 : decode cX4_tryScrew 8 = .ok (.aload_n 0, 1) := by decide +kernel
theorem dX4_tryScrew_9 : decode cX4_tryScrew 9 = .ok (.aload_n 1, 1) := by decide +kernel
theorem dX4_tryScrew_10 : decode cX4_tryScrew 10 = .ok (.invokevirtual 171, 3) := by decide +kernel
theorem dX4_tryScrew_13 : decode cX4_tryScrew 13 = .ok (.ifCond .eq 20, 3) := by decide +kernel
theorem dX4_tryScrew_16 : decode cX4_tryScrew 16 = .ok (.aload_n 0, 1) := by decide +kernel
theorem dX4_tryScrew_17 : decode cX4_tryScrew 17 = .ok (.iload_n 2, 1) := by decide +kernel
theorem dX4_tryScrew_18 : decode cX4_tryScrew 18 = .ok (.invokevirtual 177, 3) := by decide +kernel
theorem dX4_tryScrew_21 : decode cX4_tryScrew 21 = .ok (.ifCond .eq 12, 3) := by decide +kernel
theorem dX4_tryScrew_24 : decode cX4_tryScrew 24 = .ok (.aload_n 0, 1) := by decide +kernel
theorem dX4_tryScrew_25 : decode cX4_tryScrew 25 = .ok (.aload_n 1, 1) := by decide +kernel
theorem dX4_tryScrew_26 : decode cX4_tryScrew 26 = .ok (.iload_n 2, 1) := by decide +kernel
theorem dX4_tryScrew_27 : decode cX4_tryScrew 27 = .ok (.invokevirtual 180, 3) := by decide +kernel
theorem dX4_tryScrew_30 : decode cX4_tryScrew 30 = .ok (.ifCond .ne 5, 3) := by decide +kernel
theorem dX4_tryScrew_33 : decode cX4_tryScrew 33 = .ok (.iconst 0, 1) := by decide +kernel
theorem dX4_tryScrew_34 : decode cX4_tryScrew 34 = .ok (.ireturn, 1) := by decide +kernel
theorem dX4_tryScrew_35 : decode cX4_tryScrew 35 = .ok (.aload_n 0, 1) := by decide +kernel
theorem dX4_tryScrew_36 : decode cX4_tryScrew 36 = .ok (.dup, 1) := by decide +kernel
theorem dX4_tryScrew_37 : decode cX4_tryScrew 37 = .ok (.getfield 29, 3) := by decide +kernel
theorem dX4_tryScrew_40 : decode cX4_tryScrew 40 = .ok (.iload_n 2, 1) := by decide +kernel
theorem dX4_tryScrew_41 : decode cX4_tryScrew 41 = .ok (.isub, 1) := by decide +kernel
theorem dX4_tryScrew_42 : decode cX4_tryScrew 42 = .ok (.putfield 29, 3) := by decide +kernel
theorem dX4_tryScrew_45 : decode cX4_tryScrew 45 = .ok (.aload_n 1, 1) := by decide +kernel
theorem dX4_tryScrew_46 : decode cX4_tryScrew 46 = .ok (.dup, 1) := by decide +kernel
theorem dX4_tryScrew_47 : decode cX4_tryScrew 47 = .ok (.getfield 102, 3) := by decide +kernel
theorem dX4_tryScrew_50 : decode cX4_tryScrew 50 = .ok (.iload_n 2, 1) := by decide +kernel
theorem dX4_tryScrew_51 : decode cX4_tryScrew 51 = .ok (.iadd, 1) := by decide +kernel
theorem dX4_tryScrew_52 : decode cX4_tryScrew 52 = .ok (.putfield 102, 3) := by decide +kernel
theorem dX4_tryScrew_55 : decode cX4_tryScrew 55 = .ok (.iconst 1, 1) := by decide +kernel
theorem dX4_tryScrew_56 : decode cX4_tryScrew 56 = .ok (.ireturn, 1) := by decide +kernel
theorem dX4_tryUnscrew_0 : decode cX4_tryUnscrew 0 = .ok (.aload_n 0, 1) := by decide +kernel
theorem dX4_tryUnscrew_1 : decode cX4_tryUnscrew 1 = .ok (.aload_n 1, 1) := by decide +kernel
theorem dX4_tryUnscrew_2 : decode cX4_tryUnscrew 2 = .ok (.invokevirtual 142, 3) := by decide +kernel
theorem dX4_tryUnscrew_5 : decode cX4_tryUnscrew 5 = .ok (.ifCond .ne 5, 3) := by decide +kernel
theorem dX4_tryUnscrew_8 : decode cX4_tryUnscrew 8 = .ok (.iconst 0, 1) := by decide +kernel
theorem dX4_tryUnscrew_9 : decode cX4_tryUnscrew 9 = .ok (.ireturn, 1) := by decide +kernel
theorem dX4_tryUnscrew_10 : decode cX4_tryUnscrew 10 = .ok (.aload_n 0, 1) := by decide +kernel
theorem dX4_tryUnscrew_11 : decode cX4_tryUnscrew 11 = .ok (.aload_n 1, 1) := by decide +kernel
theorem dX4_tryUnscrew_12 : decode cX4_tryUnscrew 12 = .ok (.getfield 102, 3) := by decide +kernel
theorem dX4_tryUnscrew_15 : decode cX4_tryUnscrew 15 = .ok (.invokevirtual 183, 3) := by decide +kernel
theorem dX4_tryUnscrew_18 : decode cX4_tryUnscrew 18 = .ok (.aload_n 1, 1) := by decide +kernel
theorem dX4_tryUnscrew_19 : decode cX4_tryUnscrew 19 = .ok (.iconst 0, 1) := by decide +kernel
theorem dX4_tryUnscrew_20 : decode cX4_tryUnscrew 20 = .ok (.putfield 102, 3) := by decide +kernel
theorem dX4_tryUnscrew_23 : decode cX4_tryUnscrew 23 = .ok (.iconst 1, 1) := by decide +kernel
theorem dX4_tryUnscrew_24 : decode cX4_tryUnscrew 24 = .ok (.ireturn, 1) := by decide +kernel
theorem dX4_tryLabel_0 : decode cX4_tryLabel 0 = .ok (.aload_n 0, 1) := by decide +kernel
theorem dX4_tryLabel_1 : decode cX4_tryLabel 1 = .ok (.aload_n 1, 1) := by decide +kernel
theorem dX4_tryLabel_2 : decode cX4_tryLabel 2 = .ok (.invokevirtual 142, 3) := by decide +kernel
theorem dX4_tryLabel_5 : decode cX4_tryLabel 5 = .ok (.ifCond .eq 11, 3) := by decide +kernel
theorem dX4_tryLabel_8 : decode cX4_tryLabel 8 = .ok (.aload_n 0, 1) := by decide +kernel
theorem dX4_tryLabel_9 : decode cX4_tryLabel 9 = .ok (.aload_n 1, 1) := by decide +kernel
theorem dX4_tryLabel_10 : decode cX4_tryLabel 10 = .ok (.invokevirtual 171, 3) := by decide +kernel
theorem dX4_tryLabel_13 : decode cX4_tryLabel 13 = .ok (.ifCond .ne 5, 3) := by decide +kernel
theorem dX4_tryLabel_16 : decode cX4_tryLabel 16 = .ok (.iconst 0, 1) := by decide +kernel
theorem dX4_tryLabel_17 : decode cX4_tryLabel 17 = .ok (.ireturn, 1) := by decide +kernel
theorem dX4_tryLabel_18 : decode cX4_tryLabel 18 = .ok (.aload_n 1, 1) := by decide +kernel
theorem dX4_tryLabel_19 : decode cX4_tryLabel 19 = .ok (.invokevirtual 186, 3) := by decide +kernel
theorem dX4_tryLabel_22 : decode cX4_tryLabel 22 = .ok (.iconst 1, 1) := by decide +kernel
theorem dX4_tryLabel_23 : decode cX4_tryLabel 23 = .ok (.ireturn, 1) := by decide +kernel
theorem dX4_chestAtPlace_0 : decode cX4_chestAtPlace 0 = .ok (.aload_n 0, 1) := by decide +kernel
theorem dX4_chestAtPlace_1 : decode cX4_chestAtPlace 1 = .ok (.getfield 21, 3) := by decide +kernel
theorem dX4_chestAtPlace_4 : decode cX4_chestAtPlace 4 = .ok (.astore_n 2, 1) := by decide +kernel
theorem dX4_chestAtPlace_5 : decode cX4_chestAtPlace 5 = .ok (.aload_n 2, 1) := by decide +kernel
theorem dX4_chestAtPlace_6 : decode cX4_chestAtPlace 6 = .ok (.arraylength, 1) := by decide +kernel
theorem dX4_chestAtPlace_7 : decode cX4_chestAtPlace 7 = .ok (.istore_n 3, 1) := by decide +kernel
theorem dX4_chestAtPlace_8 : decode cX4_chestAtPlace 8 = .ok (.iconst 0, 1) := by decide +kernel
theorem dX4_chestAtPlace_9 : decode cX4_chestAtPlace 9 = .ok (.istore 4, 2) := by decide +kernel
theorem dX4_chestAtPlace_11 : decode cX4_chestAtPlace 11 = .ok (.iload 4, 2) := by decide +kernel
theorem dX4_chestAtPlace_13 : decode cX4_chestAtPlace 13 = .ok (.iload_n 3, 1) := by decide +kernel
theorem dX4_chestAtPlace_14 : decode cX4_chestAtPlace 14 = .ok (.if_icmp .ge 39, 3) := by decide +kernel
theorem dX4_chestAtPlace_17 : decode cX4_chestAtPlace 17 = .ok (.aload_n 2, 1) := by decide +kernel
theorem dX4_chestAtPlace_18 : decode cX4_chestAtPlace 18 = .ok (.iload 4, 2) := by decide +kernel
theorem dX4_chestAtPlace_20 : decode cX4_chestAtPlace 20 = .ok (.aaload, 1) := by decide +kernel
theorem dX4_chestAtPlace_21 : decode cX4_chestAtPlace 21 = .ok (.astore 5, 2) := by decide +kernel
theorem dX4_chestAtPlace_23 : decode cX4_chestAtPlace 23 = .ok (.aload 5, 2) := by decide +kernel
theorem dX4_chestAtPlace_25 : decode cX4_chestAtPlace 25 = .ok (.invokevirtual 189, 3) := by decide +kernel
theorem dX4_chestAtPlace_28 : decode cX4_chestAtPlace 28 = .ok (.ifCond .eq 19, 3) := by decide +kernel
theorem dX4_chestAtPlace_31 : decode cX4_chestAtPlace 31 = .ok (.aload_n 0, 1) := by decide +kernel
theorem dX4_chestAtPlace_32 : decode cX4_chestAtPlace 32 = .ok (.aload 5, 2) := by decide +kernel
theorem dX4_chestAtPlace_34 : decode cX4_chestAtPlace 34 = .ok (.invokevirtual 192, 3) := by decide +kernel
theorem dX4_chestAtPlace_37 : decode cX4_chestAtPlace 37 = .ok (.iload_n 1, 1) := by decide +kernel
theorem dX4_chestAtPlace_38 : decode cX4_chestAtPlace 38 = .ok (.if_icmp .ne 9, 3) := by decide +kernel
theorem dX4_chestAtPlace_41 : decode cX4_chestAtPlace 41 = .ok (.aload 5, 2) := by decide +kernel
theorem dX4_chestAtPlace_43 : decode cX4_chestAtPlace 43 = .ok (.getfield 123, 3) := by decide +kernel
theorem dX4_chestAtPlace_46 : decode cX4_chestAtPlace 46 = .ok (.ireturn, 1) := by decide +kernel
theorem dX4_chestAtPlace_47 : decode cX4_chestAtPlace 47 = .ok (.iinc 4 1, 3) := by decide +kernel
theorem dX4_chestAtPlace_50 : decode cX4_chestAtPlace 50 = .ok (.goto (-39), 3) := by decide +kernel
theorem dX4_chestAtPlace_53 : decode cX4_chestAtPlace 53 = .ok (.iconst (-1), 1) := by decide +kernel
theorem dX4_chestAtPlace_54 : decode cX4_chestAtPlace 54 = .ok (.ireturn, 1) := by decide +kernel
theorem dX4_placeOf_0 : decode cX4_placeOf 0 = .ok (.iconst 0, 1) := by decide +kernel
theorem dX4_placeOf_1 : decode cX4_placeOf 1 = .ok (.istore_n 2, 1) := by decide +kernel
theorem dX4_placeOf_2 : decode cX4_placeOf 2 = .ok (.aload_n 0, 1) := by decide +kernel
theorem dX4_placeOf_3 : decode cX4_placeOf 3 = .ok (.getfield 21, 3) := by decide +kernel
theorem dX4_placeOf_6 : decode cX4_placeOf 6 = .ok (.astore_n 3, 1) := by decide +kernel
theorem dX4_placeOf_7 : decode cX4_placeOf 7 = .ok (.aload_n 3, 1) := by decide +kernel
theorem dX4_placeOf_8 : decode cX4_placeOf 8 = .ok (.arraylength, 1) := by decide +kernel
theorem dX4_placeOf_9 : decode cX4_placeOf 9 = .ok (.istore 4, 2) := by decide +kernel
theorem dX4_placeOf_11 : decode cX4_placeOf 11 = .ok (.iconst 0, 1) := by decide +kernel
theorem dX4_placeOf_12 : decode cX4_placeOf 12 = .ok (.istore 5, 2) := by decide +kernel
theorem dX4_placeOf_14 : decode cX4_placeOf 14 = .ok (.iload 5, 2) := by decide +kernel
theorem dX4_placeOf_16 : decode cX4_placeOf 16 = .ok (.iload 4, 2) := by decide +kernel
theorem dX4_placeOf_18 : decode cX4_placeOf 18 = .ok (.if_icmp .ge 35, 3) := by decide +kernel
theorem dX4_placeOf_21 : decode cX4_placeOf 21 = .ok (.aload_n 3, 1) := by decide +kernel
theorem dX4_placeOf_22 : decode cX4_placeOf 22 = .ok (.iload 5, 2) := by decide +kernel
theorem dX4_placeOf_24 : decode cX4_placeOf 24 = .ok (.aaload, 1) := by decide +kernel
theorem dX4_placeOf_25 : decode cX4_placeOf 25 = .ok (.astore 6, 2) := by decide +kernel
theorem dX4_placeOf_27 : decode cX4_placeOf 27 = .ok (.aload 6, 2) := by decide +kernel
theorem dX4_placeOf_29 : decode cX4_placeOf 29 = .ok (.invokevirtual 189, 3) := by decide +kernel
theorem dX4_placeOf_32 : decode cX4_placeOf 32 = .ok (.ifCond .eq 15, 3) := by decide +kernel
theorem dX4_placeOf_35 : decode cX4_placeOf 35 = .ok (.aload 6, 2) := by decide +kernel
theorem dX4_placeOf_37 : decode cX4_placeOf 37 = .ok (.aload_n 1, 1) := by decide +kernel
theorem dX4_placeOf_38 : decode cX4_placeOf 38 = .ok (.invokevirtual 196, 3) := by decide +kernel
theorem dX4_placeOf_41 : decode cX4_placeOf 41 = .ok (.ifCond .eq 6, 3) := by decide +kernel
theorem dX4_placeOf_44 : decode cX4_placeOf 44 = .ok (.iinc 2 1, 3) := by decide +kernel
theorem dX4_placeOf_47 : decode cX4_placeOf 47 = .ok (.iinc 5 1, 3) := by decide +kernel
theorem dX4_placeOf_50 : decode cX4_placeOf 50 = .ok (.goto (-36), 3) := by decide +kernel
theorem dX4_placeOf_53 : decode cX4_placeOf 53 = .ok (.iload_n 2, 1) := by decide +kernel
theorem dX4_placeOf_54 : decode cX4_placeOf 54 = .ok (.ireturn, 1) := by decide +kernel
theorem dX4_chestsAt_0 : decode cX4_chestsAt 0 = .ok (.iconst 0, 1) := by decide +kernel
theorem dX4_chestsAt_1 : decode cX4_chestsAt 1 = .ok (.istore_n 2, 1) := by decide +kernel
theorem dX4_chestsAt_2 : decode cX4_chestsAt 2 = .ok (.aload_n 0, 1) := by decide +kernel
theorem dX4_chestsAt_3 : decode cX4_chestsAt 3 = .ok (.getfield 21, 3) := by decide +kernel
theorem dX4_chestsAt_6 : decode cX4_chestsAt 6 = .ok (.astore_n 3, 1) := by decide +kernel
theorem dX4_chestsAt_7 : decode cX4_chestsAt 7 = .ok (.aload_n 3, 1) := by decide +kernel
theorem dX4_chestsAt_8 : decode cX4_chestsAt 8 = .ok (.arraylength, 1) := by decide +kernel
theorem dX4_chestsAt_9 : decode cX4_chestsAt 9 = .ok (.istore 4, 2) := by decide +kernel
theorem dX4_chestsAt_11 : decode cX4_chestsAt 11 = .ok (.iconst 0, 1) := by decide +kernel
theorem dX4_chestsAt_12 : decode cX4_chestsAt 12 = .ok (.istore 5, 2) := by decide +kernel
theorem dX4_chestsAt_14 : decode cX4_chestsAt 14 = .ok (.iload 5, 2) := by decide +kernel
theorem dX4_chestsAt_16 : decode cX4_chestsAt 16 = .ok (.iload 4, 2) := by decide +kernel
theorem dX4_chestsAt_18 : decode cX4_chestsAt 18 = .ok (.if_icmp .ge 27, 3) := by decide +kernel
theorem dX4_chestsAt_21 : decode cX4_chestsAt 21 = .ok (.aload_n 3, 1) := by decide +kernel
theorem dX4_chestsAt_22 : decode cX4_chestsAt 22 = .ok (.iload 5, 2) := by decide +kernel
theorem dX4_chestsAt_24 : decode cX4_chestsAt 24 = .ok (.aaload, 1) := by decide +kernel
theorem dX4_chestsAt_25 : decode cX4_chestsAt 25 = .ok (.astore 6, 2) := by decide +kernel
theorem dX4_chestsAt_27 : decode cX4_chestsAt 27 = .ok (.aload 6, 2) := by decide +kernel
theorem dX4_chestsAt_29 : decode cX4_chestsAt 29 = .ok (.getfield 99, 3) := by decide +kernel
theorem dX4_chestsAt_32 : decode cX4_chestsAt 32 = .ok (.iload_n 1, 1) := by decide +kernel
theorem dX4_chestsAt_33 : decode cX4_chestsAt 33 = .ok (.if_icmp .ne 6, 3) := by decide +kernel
theorem dX4_chestsAt_36 : decode cX4_chestsAt 36 = .ok (.iinc 2 1, 3) := by decide +kernel
theorem dX4_chestsAt_39 : decode cX4_chestsAt 39 = .ok (.iinc 5 1, 3) := by decide +kernel
theorem dX4_chestsAt_42 : decode cX4_chestsAt 42 = .ok (.goto (-28), 3) := by decide +kernel
theorem dX4_chestsAt_45 : decode cX4_chestsAt 45 = .ok (.iload_n 2, 1) := by decide +kernel
theorem dX4_chestsAt_46 : decode cX4_chestsAt 46 = .ok (.ireturn, 1) := by decide +kernel
theorem dX4_poundsInChests_0 : decode cX4_poundsInChests 0 = .ok (.iconst 0, 1) := by decide +kernel
theorem dX4_poundsInChests_1 : decode cX4_poundsInChests 1 = .ok (.istore_n 1, 1) := by decide +kernel
theorem dX4_poundsInChests_2 : decode cX4_poundsInChests 2 = .ok (.aload_n 0, 1) := by decide +kernel
theorem dX4_poundsInChests_3 : decode cX4_poundsInChests 3 = .ok (.getfield 21, 3) := by decide +kernel
theorem dX4_poundsInChests_6 : decode cX4_poundsInChests 6 = .ok (.astore_n 2, 1) := by decide +kernel
theorem dX4_poundsInChests_7 : decode cX4_poundsInChests 7 = .ok (.aload_n 2, 1) := by decide +kernel
theorem dX4_poundsInChests_8 : decode cX4_poundsInChests 8 = .ok (.arraylength, 1) := by decide +kernel
theorem dX4_poundsInChests_9 : decode cX4_poundsInChests 9 = .ok (.istore_n 3, 1) := by decide +kernel
theorem dX4_poundsInChests_10 : decode cX4_poundsInChests 10 = .ok (.iconst 0, 1) := by decide +kernel
theorem dX4_poundsInChests_11 : decode cX4_poundsInChests 11 = .ok (.istore 4, 2) := by decide +kernel
theorem dX4_poundsInChests_13 : decode cX4_poundsInChests 13 = .ok (.iload 4, 2) := by decide +kernel
theorem dX4_poundsInChests_15 : decode cX4_poundsInChests 15 = .ok (.iload_n 3, 1) := by decide +kernel
theorem dX4_poundsInChests_16 : decode cX4_poundsInChests 16 = .ok (.if_icmp .ge 31, 3) := by decide +kernel
theorem dX4_poundsInChests_19 : decode cX4_poundsInChests 19 = .ok (.aload_n 2, 1) := by decide +kernel
theorem dX4_poundsInChests_20 : decode cX4_poundsInChests 20 = .ok (.iload 4, 2) := by decide +kernel
theorem dX4_poundsInChests_22 : decode cX4_poundsInChests 22 = .ok (.aaload, 1) := by decide +kernel
theorem dX4_poundsInChests_23 : decode cX4_poundsInChests 23 = .ok (.astore 5, 2) := by decide +kernel
theorem dX4_poundsInChests_25 : decode cX4_poundsInChests 25 = .ok (.aload 5, 2) := by decide +kernel
theorem dX4_poundsInChests_27 : decode cX4_poundsInChests 27 = .ok (.invokevirtual 189, 3) := by decide +kernel
theorem dX4_poundsInChests_30 : decode cX4_poundsInChests 30 = .ok (.ifCond .eq 11, 3) := by decide +kernel
theorem dX4_poundsInChests_33 : decode cX4_poundsInChests 33 = .ok (.iload_n 1, 1) := by decide +kernel
theorem dX4_poundsInChests_34 : decode cX4_poundsInChests 34 = .ok (.aload 5, 2) := by decide +kernel
theorem dX4_poundsInChests_36 : decode cX4_poundsInChests 36 = .ok (.getfield 110, 3) := by decide +kernel
theorem dX4_poundsInChests_39 : decode cX4_poundsInChests 39 = .ok (.iadd, 1) := by decide +kernel
theorem dX4_poundsInChests_40 : decode cX4_poundsInChests 40 = .ok (.istore_n 1, 1) := by decide +kernel
theorem dX4_poundsInChests_41 : decode cX4_poundsInChests 41 = .ok (.iinc 4 1, 3) := by decide +kernel
theorem dX4_poundsInChests_44 : decode cX4_poundsInChests 44 = .ok (.goto (-31), 3) := by decide +kernel
theorem dX4_poundsInChests_47 : decode cX4_poundsInChests 47 = .ok (.iload_n 1, 1) := by decide +kernel
theorem dX4_poundsInChests_48 : decode cX4_poundsInChests 48 = .ok (.ireturn, 1) := by decide +kernel
theorem dX4_filledChests_0 : decode cX4_filledChests 0 = .ok (.iconst 0, 1) := by decide +kernel
theorem dX4_filledChests_1 : decode cX4_filledChests 1 = .ok (.istore_n 1, 1) := by decide +kernel
theorem dX4_filledChests_2 : decode cX4_filledChests 2 = .ok (.aload_n 0, 1) := by decide +kernel
theorem dX4_filledChests_3 : decode cX4_filledChests 3 = .ok (.getfield 21, 3) := by decide +kernel
theorem dX4_filledChests_6 : decode cX4_filledChests 6 = .ok (.astore_n 2, 1) := by decide +kernel
theorem dX4_filledChests_7 : decode cX4_filledChests 7 = .ok (.aload_n 2, 1) := by decide +kernel
theorem dX4_filledChests_8 : decode cX4_filledChests 8 = .ok (.arraylength, 1) := by decide +kernel
theorem dX4_filledChests_9 : decode cX4_filledChests 9 = .ok (.istore_n 3, 1) := by decide +kernel
theorem dX4_filledChests_10 : decode cX4_filledChests 10 = .ok (.iconst 0, 1) := by decide +kernel
theorem dX4_filledChests_11 : decode cX4_filledChests 11 = .ok (.istore 4, 2) := by decide +kernel
theorem dX4_filledChests_13 : decode cX4_filledChests 13 = .ok (.iload 4, 2) := by decide +kernel
theorem dX4_filledChests_15 : decode cX4_filledChests 15 = .ok (.iload_n 3, 1) := by decide +kernel
theorem dX4_filledChests_16 : decode cX4_filledChests 16 = .ok (.if_icmp .ge 34, 3) := by decide +kernel
theorem dX4_filledChests_19 : decode cX4_filledChests 19 = .ok (.aload_n 2, 1) := by decide +kernel
theorem dX4_filledChests_20 : decode cX4_filledChests 20 = .ok (.iload 4, 2) := by decide +kernel
theorem dX4_filledChests_22 : decode cX4_filledChests 22 = .ok (.aaload, 1) := by decide +kernel
theorem dX4_filledChests_23 : decode cX4_filledChests 23 = .ok (.astore 5, 2) := by decide +kernel
theorem dX4_filledChests_25 : decode cX4_filledChests 25 = .ok (.aload 5, 2) := by decide +kernel
theorem dX4_filledChests_27 : decode cX4_filledChests 27 = .ok (.invokevirtual 189, 3) := by decide +kernel
theorem dX4_filledChests_30 : decode cX4_filledChests 30 = .ok (.ifCond .eq 14, 3) := by decide +kernel
theorem dX4_filledChests_33 : decode cX4_filledChests 33 = .ok (.aload 5, 2) := by decide +kernel
theorem dX4_filledChests_35 : decode cX4_filledChests 35 = .ok (.getfield 110, 3) := by decide +kernel
theorem dX4_filledChests_38 : decode cX4_filledChests 38 = .ok (.ifCond .le 6, 3) := by decide +kernel
theorem dX4_filledChests_41 : decode cX4_filledChests 41 = .ok (.iinc 1 1, 3) := by decide +kernel
theorem dX4_filledChests_44 : decode cX4_filledChests 44 = .ok (.iinc 4 1, 3) := by decide +kernel
theorem dX4_filledChests_47 : decode cX4_filledChests 47 = .ok (.goto (-34), 3) := by decide +kernel
theorem dX4_filledChests_50 : decode cX4_filledChests 50 = .ok (.iload_n 1, 1) := by decide +kernel
theorem dX4_filledChests_51 : decode cX4_filledChests 51 = .ok (.ireturn, 1) := by decide +kernel
theorem dX4_sumOfDamp_0 : decode cX4_sumOfDamp 0 = .ok (.iconst 0, 1) := by decide +kernel
theorem dX4_sumOfDamp_1 : decode cX4_sumOfDamp 1 = .ok (.istore_n 1, 1) := by decide +kernel
theorem dX4_sumOfDamp_2 : decode cX4_sumOfDamp 2 = .ok (.aload_n 0, 1) := by decide +kernel
theorem dX4_sumOfDamp_3 : decode cX4_sumOfDamp 3 = .ok (.getfield 21, 3) := by decide +kernel
theorem dX4_sumOfDamp_6 : decode cX4_sumOfDamp 6 = .ok (.astore_n 2, 1) := by decide +kernel
theorem dX4_sumOfDamp_7 : decode cX4_sumOfDamp 7 = .ok (.aload_n 2, 1) := by decide +kernel
theorem dX4_sumOfDamp_8 : decode cX4_sumOfDamp 8 = .ok (.arraylength, 1) := by decide +kernel
theorem dX4_sumOfDamp_9 : decode cX4_sumOfDamp 9 = .ok (.istore_n 3, 1) := by decide +kernel
theorem dX4_sumOfDamp_10 : decode cX4_sumOfDamp 10 = .ok (.iconst 0, 1) := by decide +kernel
theorem dX4_sumOfDamp_11 : decode cX4_sumOfDamp 11 = .ok (.istore 4, 2) := by decide +kernel
theorem dX4_sumOfDamp_13 : decode cX4_sumOfDamp 13 = .ok (.iload 4, 2) := by decide +kernel
theorem dX4_sumOfDamp_15 : decode cX4_sumOfDamp 15 = .ok (.iload_n 3, 1) := by decide +kernel
theorem dX4_sumOfDamp_16 : decode cX4_sumOfDamp 16 = .ok (.if_icmp .ge 31, 3) := by decide +kernel
theorem dX4_sumOfDamp_19 : decode cX4_sumOfDamp 19 = .ok (.aload_n 2, 1) := by decide +kernel
theorem dX4_sumOfDamp_20 : decode cX4_sumOfDamp 20 = .ok (.iload 4, 2) := by decide +kernel
theorem dX4_sumOfDamp_22 : decode cX4_sumOfDamp 22 = .ok (.aaload, 1) := by decide +kernel
theorem dX4_sumOfDamp_23 : decode cX4_sumOfDamp 23 = .ok (.astore 5, 2) := by decide +kernel
theorem dX4_sumOfDamp_25 : decode cX4_sumOfDamp 25 = .ok (.aload 5, 2) := by decide +kernel
theorem dX4_sumOfDamp_27 : decode cX4_sumOfDamp 27 = .ok (.invokevirtual 189, 3) := by decide +kernel
theorem dX4_sumOfDamp_30 : decode cX4_sumOfDamp 30 = .ok (.ifCond .eq 11, 3) := by decide +kernel
theorem dX4_sumOfDamp_33 : decode cX4_sumOfDamp 33 = .ok (.iload_n 1, 1) := by decide +kernel
theorem dX4_sumOfDamp_34 : decode cX4_sumOfDamp 34 = .ok (.aload 5, 2) := by decide +kernel
theorem dX4_sumOfDamp_36 : decode cX4_sumOfDamp 36 = .ok (.getfield 199, 3) := by decide +kernel
theorem dX4_sumOfDamp_39 : decode cX4_sumOfDamp 39 = .ok (.iadd, 1) := by decide +kernel
theorem dX4_sumOfDamp_40 : decode cX4_sumOfDamp 40 = .ok (.istore_n 1, 1) := by decide +kernel
theorem dX4_sumOfDamp_41 : decode cX4_sumOfDamp 41 = .ok (.iinc 4 1, 3) := by decide +kernel
theorem dX4_sumOfDamp_44 : decode cX4_sumOfDamp 44 = .ok (.goto (-31), 3) := by decide +kernel
theorem dX4_sumOfDamp_47 : decode cX4_sumOfDamp 47 = .ok (.iload_n 1, 1) := by decide +kernel
theorem dX4_sumOfDamp_48 : decode cX4_sumOfDamp 48 = .ok (.ireturn, 1) := by decide +kernel
theorem dX4_tryToQuay_0 : decode cX4_tryToQuay 0 = .ok (.aload_n 0, 1) := by decide +kernel
theorem dX4_tryToQuay_1 : decode cX4_tryToQuay 1 = .ok (.aload_n 1, 1) := by decide +kernel
theorem dX4_tryToQuay_2 : decode cX4_tryToQuay 2 = .ok (.invokevirtual 142, 3) := by decide +kernel
theorem dX4_tryToQuay_5 : decode cX4_tryToQuay 5 = .ok (.ifCond .eq 19, 3) := by decide +kernel
theorem dX4_tryToQuay_8 : decode cX4_tryToQuay 8 = .ok (.aload_n 0, 1) := by decide +kernel
theorem dX4_tryToQuay_9 : decode cX4_tryToQuay 9 = .ok (.aload_n 1, 1) := by decide +kernel
theorem dX4_tryToQuay_10 : decode cX4_tryToQuay 10 = .ok (.invokevirtual 171, 3) := by decide +kernel
theorem dX4_tryToQuay_13 : decode cX4_tryToQuay 13 = .ok (.ifCond .eq 11, 3) := by decide +kernel
theorem dX4_tryToQuay_16 : decode cX4_tryToQuay 16 = .ok (.aload_n 0, 1) := by decide +kernel
theorem dX4_tryToQuay_17 : decode cX4_tryToQuay 17 = .ok (.aload_n 1, 1) := by decide +kernel
theorem dX4_tryToQuay_18 : decode cX4_tryToQuay 18 = .ok (.invokevirtual 202, 3) := by decide +kernel
theorem dX4_tryToQuay_21 : decode cX4_tryToQuay 21 = .ok (.ifCond .ne 5, 3) := by decide +kernel
theorem dX4_tryToQuay_24 : decode cX4_tryToQuay 24 = .ok (.iconst 0, 1) := by decide +kernel
theorem dX4_tryToQuay_25 : decode cX4_tryToQuay 25 = .ok (.ireturn, 1) := by decide +kernel
theorem dX4_tryToQuay_26 : decode cX4_tryToQuay 26 = .ok (.aload_n 1, 1) := by decide +kernel
theorem dX4_tryToQuay_27 : decode cX4_tryToQuay 27 = .ok (.iconst 1, 1) := by decide +kernel
theorem dX4_tryToQuay_28 : decode cX4_tryToQuay 28 = .ok (.putfield 99, 3) := by decide +kernel
theorem dX4_tryToQuay_31 : decode cX4_tryToQuay 31 = .ok (.iconst 1, 1) := by decide +kernel
theorem dX4_tryToQuay_32 : decode cX4_tryToQuay 32 = .ok (.ireturn, 1) := by decide +kernel
theorem dX4_tryLoad_0 : decode cX4_tryLoad 0 = .ok (.aload_n 0, 1) := by decide +kernel
theorem dX4_tryLoad_1 : decode cX4_tryLoad 1 = .ok (.aload_n 1, 1) := by decide +kernel
theorem dX4_tryLoad_2 : decode cX4_tryLoad 2 = .ok (.invokevirtual 205, 3) := by decide +kernel
theorem dX4_tryLoad_5 : decode cX4_tryLoad 5 = .ok (.ifCond .eq 21, 3) := by decide +kernel
theorem dX4_tryLoad_8 : decode cX4_tryLoad 8 = .ok (.aload_n 0, 1) := by decide +kernel
theorem dX4_tryLoad_9 : decode cX4_tryLoad 9 = .ok (.invokevirtual 208, 3) := by decide +kernel
theorem dX4_tryLoad_12 : decode cX4_tryLoad 12 = .ok (.ifCond .eq 14, 3) := by decide +kernel
theorem dX4_tryLoad_15 : decode cX4_tryLoad 15 = .ok (.aload_n 0, 1) := by decide +kernel
theorem dX4_tryLoad_16 : decode cX4_tryLoad 16 = .ok (.aload_n 1, 1) := by decide +kernel
theorem dX4_tryLoad_17 : decode cX4_tryLoad 17 = .ok (.getfield 107, 3) := by decide +kernel
theorem dX4_tryLoad_20 : decode cX4_tryLoad 20 = .ok (.invokevirtual 211, 3) := by decide +kernel
theorem dX4_tryLoad_23 : decode cX4_tryLoad 23 = .ok (.ifCond .ne 5, 3) := by decide +kernel
theorem dX4_tryLoad_26 : decode cX4_tryLoad 26 = .ok (.iconst 0, 1) := by decide +kernel
theorem dX4_tryLoad_27 : decode cX4_tryLoad 27 = .ok (.ireturn, 1) := by decide +kernel
theorem dX4_tryLoad_28 : decode cX4_tryLoad 28 = .ok (.aload_n 1, 1) := by decide +kernel
theorem dX4_tryLoad_29 : decode cX4_tryLoad 29 = .ok (.iconst 2, 1) := by decide +kernel
theorem dX4_tryLoad_30 : decode cX4_tryLoad 30 = .ok (.putfield 99, 3) := by decide +kernel
theorem dX4_tryLoad_33 : decode cX4_tryLoad 33 = .ok (.iconst 1, 1) := by decide +kernel
theorem dX4_tryLoad_34 : decode cX4_tryLoad 34 = .ok (.ireturn, 1) := by decide +kernel
theorem dX4_trySail_0 : decode cX4_trySail 0 = .ok (.aload_n 0, 1) := by decide +kernel
theorem dX4_trySail_1 : decode cX4_trySail 1 = .ok (.invokevirtual 208, 3) := by decide +kernel
theorem dX4_trySail_4 : decode cX4_trySail 4 = .ok (.ifCond .eq 10, 3) := by decide +kernel
theorem dX4_trySail_7 : decode cX4_trySail 7 = .ok (.aload_n 0, 1) := by decide +kernel
theorem dX4_trySail_8 : decode cX4_trySail 8 = .ok (.invokevirtual 214, 3) := by decide +kernel
theorem dX4_trySail_11 : decode cX4_trySail 11 = .ok (.ifCond .ne 5, 3) := by decide +kernel
theorem dX4_trySail_14 : decode cX4_trySail 14 = .ok (.iconst 0, 1) := by decide +kernel
theorem dX4_trySail_15 : decode cX4_trySail 15 = .ok (.ireturn, 1) := by decide +kernel
theorem dX4_trySail_16 : decode cX4_trySail 16 = .ok (.aload_n 0, 1) := by decide +kernel
theorem dX4_trySail_17 : decode cX4_trySail 17 = .ok (.dup, 1) := by decide +kernel
theorem dX4_trySail_18 : decode cX4_trySail 18 = .ok (.getfield 54, 3) := by decide +kernel
theorem dX4_trySail_21 : decode cX4_trySail 21 = .ok (.aload_n 0, 1) := by decide +kernel
theorem dX4_trySail_22 : decode cX4_trySail 22 = .ok (.invokevirtual 217, 3) := by decide +kernel
theorem dX4_trySail_25 : decode cX4_trySail 25 = .ok (.iadd, 1) := by decide +kernel
theorem dX4_trySail_26 : decode cX4_trySail 26 = .ok (.putfield 54, 3) := by decide +kernel
theorem dX4_trySail_29 : decode cX4_trySail 29 = .ok (.aload_n 0, 1) := by decide +kernel
theorem dX4_trySail_30 : decode cX4_trySail 30 = .ok (.getfield 21, 3) := by decide +kernel
theorem dX4_trySail_33 : decode cX4_trySail 33 = .ok (.astore_n 1, 1) := by decide +kernel
theorem dX4_trySail_34 : decode cX4_trySail 34 = .ok (.aload_n 1, 1) := by decide +kernel
theorem dX4_trySail_35 : decode cX4_trySail 35 = .ok (.arraylength, 1) := by decide +kernel
theorem dX4_trySail_36 : decode cX4_trySail 36 = .ok (.istore_n 2, 1) := by decide +kernel
theorem dX4_trySail_37 : decode cX4_trySail 37 = .ok (.iconst 0, 1) := by decide +kernel
theorem dX4_trySail_38 : decode cX4_trySail 38 = .ok (.istore_n 3, 1) := by decide +kernel
theorem dX4_trySail_39 : decode cX4_trySail 39 = .ok (.iload_n 3, 1) := by decide +kernel
theorem dX4_trySail_40 : decode cX4_trySail 40 = .ok (.iload_n 2, 1) := by decide +kernel
theorem dX4_trySail_41 : decode cX4_trySail 41 = .ok (.if_icmp .ge 43, 3) := by decide +kernel
theorem dX4_trySail_44 : decode cX4_trySail 44 = .ok (.aload_n 1, 1) := by decide +kernel
theorem dX4_trySail_45 : decode cX4_trySail 45 = .ok (.iload_n 3, 1) := by decide +kernel
theorem dX4_trySail_46 : decode cX4_trySail 46 = .ok (.aaload, 1) := by decide +kernel
theorem dX4_trySail_47 : decode cX4_trySail 47 = .ok (.astore 4, 2) := by decide +kernel
theorem dX4_trySail_49 : decode cX4_trySail 49 = .ok (.aload 4, 2) := by decide +kernel
theorem dX4_trySail_51 : decode cX4_trySail 51 = .ok (.getfield 99, 3) := by decide +kernel
theorem dX4_trySail_54 : decode cX4_trySail 54 = .ok (.iconst 2, 1) := by decide +kernel
theorem dX4_trySail_55 : decode cX4_trySail 55 = .ok (.if_icmp .ne 23, 3) := by decide +kernel
theorem dX4_trySail_58 : decode cX4_trySail 58 = .ok (.aload 4, 2) := by decide +kernel
theorem dX4_trySail_60 : decode cX4_trySail 60 = .ok (.iconst 3, 1) := by decide +kernel
theorem dX4_trySail_61 : decode cX4_trySail 61 = .ok (.putfield 99, 3) := by decide +kernel
theorem dX4_trySail_64 : decode cX4_trySail 64 = .ok (.aload_n 0, 1) := by decide +kernel
theorem dX4_trySail_65 : decode cX4_trySail 65 = .ok (.dup, 1) := by decide +kernel
theorem dX4_trySail_66 : decode cX4_trySail 66 = .ok (.getfield 63, 3) := by decide +kernel
theorem dX4_trySail_69 : decode cX4_trySail 69 = .ok (.aload 4, 2) := by decide +kernel
theorem dX4_trySail_71 : decode cX4_trySail 71 = .ok (.getfield 110, 3) := by decide +kernel
theorem dX4_trySail_74 : decode cX4_trySail 74 = .ok (.iadd, 1) := by decide +kernel
theorem dX4_trySail_75 : decode cX4_trySail 75 = .ok (.putfield 63, 3) := by decide +kernel
theorem dX4_trySail_78 : decode cX4_trySail 78 = .ok (.iinc 3 1, 3) := by decide +kernel
theorem dX4_trySail_81 : decode cX4_trySail 81 = .ok (.goto (-42), 3) := by decide +kernel
theorem dX4_trySail_84 : decode cX4_trySail 84 = .ok (.aload_n 0, 1) := by decide +kernel
theorem dX4_trySail_85 : decode cX4_trySail 85 = .ok (.dup, 1) := by decide +kernel
theorem dX4_trySail_86 : decode cX4_trySail 86 = .ok (.getfield 57, 3) := by decide +kernel
theorem dX4_trySail_89 : decode cX4_trySail 89 = .ok (.iconst 1, 1) := by decide +kernel
theorem dX4_trySail_90 : decode cX4_trySail 90 = .ok (.iadd, 1) := by decide +kernel
theorem dX4_trySail_91 : decode cX4_trySail 91 = .ok (.putfield 57, 3) := by decide +kernel
theorem dX4_trySail_94 : decode cX4_trySail 94 = .ok (.iconst 1, 1) := by decide +kernel
theorem dX4_trySail_95 : decode cX4_trySail 95 = .ok (.ireturn, 1) := by decide +kernel
theorem dX4_shipRoom_0 : decode cX4_shipRoom 0 = .ok (.bipush 12, 2) := by decide +kernel
theorem dX4_shipRoom_2 : decode cX4_shipRoom 2 = .ok (.istore_n 1, 1) := by decide +kernel
theorem dX4_shipRoom_3 : decode cX4_shipRoom 3 = .ok (.aload_n 0, 1) := by decide +kernel
theorem dX4_shipRoom_4 : decode cX4_shipRoom 4 = .ok (.getfield 21, 3) := by decide +kernel
theorem dX4_shipRoom_7 : decode cX4_shipRoom 7 = .ok (.astore_n 2, 1) := by decide +kernel
theorem dX4_shipRoom_8 : decode cX4_shipRoom 8 = .ok (.aload_n 2, 1) := by decide +kernel
theorem dX4_shipRoom_9 : decode cX4_shipRoom 9 = .ok (.arraylength, 1) := by decide +kernel
theorem dX4_shipRoom_10 : decode cX4_shipRoom 10 = .ok (.istore_n 3, 1) := by decide +kernel
theorem dX4_shipRoom_11 : decode cX4_shipRoom 11 = .ok (.iconst 0, 1) := by decide +kernel
theorem dX4_shipRoom_12 : decode cX4_shipRoom 12 = .ok (.istore 4, 2) := by decide +kernel
theorem dX4_shipRoom_14 : decode cX4_shipRoom 14 = .ok (.iload 4, 2) := by decide +kernel
theorem dX4_shipRoom_16 : decode cX4_shipRoom 16 = .ok (.iload_n 3, 1) := by decide +kernel
theorem dX4_shipRoom_17 : decode cX4_shipRoom 17 = .ok (.if_icmp .ge 32, 3) := by decide +kernel
theorem dX4_shipRoom_20 : decode cX4_shipRoom 20 = .ok (.aload_n 2, 1) := by decide +kernel
theorem dX4_shipRoom_21 : decode cX4_shipRoom 21 = .ok (.iload 4, 2) := by decide +kernel
theorem dX4_shipRoom_23 : decode cX4_shipRoom 23 = .ok (.aaload, 1) := by decide +kernel
theorem dX4_shipRoom_24 : decode cX4_shipRoom 24 = .ok (.astore 5, 2) := by decide +kernel
theorem dX4_shipRoom_26 : decode cX4_shipRoom 26 = .ok (.aload 5, 2) := by decide +kernel
theorem dX4_shipRoom_28 : decode cX4_shipRoom 28 = .ok (.getfield 99, 3) := by decide +kernel
theorem dX4_shipRoom_31 : decode cX4_shipRoom 31 = .ok (.iconst 2, 1) := by decide +kernel
theorem dX4_shipRoom_32 : decode cX4_shipRoom 32 = .ok (.if_icmp .ne 11, 3) := by decide +kernel
theorem dX4_shipRoom_35 : decode cX4_shipRoom 35 = .ok (.iload_n 1, 1) := by decide +kernel
theorem dX4_shipRoom_36 : decode cX4_shipRoom 36 = .ok (.aload 5, 2) := by decide +kernel
theorem dX4_shipRoom_38 : decode cX4_shipRoom 38 = .ok (.getfield 107, 3) := by decide +kernel
theorem dX4_shipRoom_41 : decode cX4_shipRoom 41 = .ok (.isub, 1) := by decide +kernel
theorem dX4_shipRoom_42 : decode cX4_shipRoom 42 = .ok (.istore_n 1, 1) := by decide +kernel
theorem dX4_shipRoom_43 : decode cX4_shipRoom 43 = .ok (.iinc 4 1, 3) := by decide +kernel
theorem dX4_shipRoom_46 : decode cX4_shipRoom 46 = .ok (.goto (-32), 3) := by decide +kernel
theorem dX4_shipRoom_49 : decode cX4_shipRoom 49 = .ok (.iload_n 1, 1) := by decide +kernel
theorem dX4_shipRoom_50 : decode cX4_shipRoom 50 = .ok (.ireturn, 1) := by decide +kernel
theorem dX4_shipCoins_0 : decode cX4_shipCoins 0 = .ok (.iconst 0, 1) := by decide +kernel
theorem dX4_shipCoins_1 : decode cX4_shipCoins 1 = .ok (.istore_n 1, 1) := by decide +kernel
theorem dX4_shipCoins_2 : decode cX4_shipCoins 2 = .ok (.aload_n 0, 1) := by decide +kernel
theorem dX4_shipCoins_3 : decode cX4_shipCoins 3 = .ok (.getfield 21, 3) := by decide +kernel
theorem dX4_shipCoins_6 : decode cX4_shipCoins 6 = .ok (.astore_n 2, 1) := by decide +kernel
theorem dX4_shipCoins_7 : decode cX4_shipCoins 7 = .ok (.aload_n 2, 1) := by decide +kernel
theorem dX4_shipCoins_8 : decode cX4_shipCoins 8 = .ok (.arraylength, 1) := by decide +kernel
theorem dX4_shipCoins_9 : decode cX4_shipCoins 9 = .ok (.istore_n 3, 1) := by decide +kernel
theorem dX4_shipCoins_10 : decode cX4_shipCoins 10 = .ok (.iconst 0, 1) := by decide +kernel
theorem dX4_shipCoins_11 : decode cX4_shipCoins 11 = .ok (.istore 4, 2) := by decide +kernel
theorem dX4_shipCoins_13 : decode cX4_shipCoins 13 = .ok (.iload 4, 2) := by decide +kernel
theorem dX4_shipCoins_15 : decode cX4_shipCoins 15 = .ok (.iload_n 3, 1) := by decide +kernel
theorem dX4_shipCoins_16 : decode cX4_shipCoins 16 = .ok (.if_icmp .ge 32, 3) := by decide +kernel
theorem dX4_shipCoins_19 : decode cX4_shipCoins 19 = .ok (.aload_n 2, 1) := by decide +kernel
theorem dX4_shipCoins_20 : decode cX4_shipCoins 20 = .ok (.iload 4, 2) := by decide +kernel
theorem dX4_shipCoins_22 : decode cX4_shipCoins 22 = .ok (.aaload, 1) := by decide +kernel
theorem dX4_shipCoins_23 : decode cX4_shipCoins 23 = .ok (.astore 5, 2) := by decide +kernel
theorem dX4_shipCoins_25 : decode cX4_shipCoins 25 = .ok (.aload 5, 2) := by decide +kernel
theorem dX4_shipCoins_27 : decode cX4_shipCoins 27 = .ok (.getfield 99, 3) := by decide +kernel
theorem dX4_shipCoins_30 : decode cX4_shipCoins 30 = .ok (.iconst 2, 1) := by decide +kernel
theorem dX4_shipCoins_31 : decode cX4_shipCoins 31 = .ok (.if_icmp .ne 11, 3) := by decide +kernel
theorem dX4_shipCoins_34 : decode cX4_shipCoins 34 = .ok (.iload_n 1, 1) := by decide +kernel
theorem dX4_shipCoins_35 : decode cX4_shipCoins 35 = .ok (.aload 5, 2) := by decide +kernel
theorem dX4_shipCoins_37 : decode cX4_shipCoins 37 = .ok (.invokevirtual 220, 3) := by decide +kernel
theorem dX4_shipCoins_40 : decode cX4_shipCoins 40 = .ok (.iadd, 1) := by decide +kernel
theorem dX4_shipCoins_41 : decode cX4_shipCoins 41 = .ok (.istore_n 1, 1) := by decide +kernel
theorem dX4_shipCoins_42 : decode cX4_shipCoins 42 = .ok (.iinc 4 1, 3) := by decide +kernel
theorem dX4_shipCoins_45 : decode cX4_shipCoins 45 = .ok (.goto (-32), 3) := by decide +kernel
theorem dX4_shipCoins_48 : decode cX4_shipCoins 48 = .ok (.iload_n 1, 1) := by decide +kernel
theorem dX4_shipCoins_49 : decode cX4_shipCoins 49 = .ok (.ireturn, 1) := by decide +kernel
theorem dX4_isOutsideInOrder_0 : decode cX4_isOutsideInOrder 0 = .ok (.aload_n 0, 1) := by decide +kernel
theorem dX4_isOutsideInOrder_1 : decode cX4_isOutsideInOrder 1 = .ok (.getfield 21, 3) := by decide +kernel
theorem dX4_isOutsideInOrder_4 : decode cX4_isOutsideInOrder 4 = .ok (.astore_n 1, 1) := by decide +kernel
theorem dX4_isOutsideInOrder_5 : decode cX4_isOutsideInOrder 5 = .ok (.aload_n 1, 1) := by decide +kernel
theorem dX4_isOutsideInOrder_6 : decode cX4_isOutsideInOrder 6 = .ok (.arraylength, 1) := by decide +kernel
theorem dX4_isOutsideInOrder_7 : decode cX4_isOutsideInOrder 7 = .ok (.istore_n 2, 1) := by decide +kernel
theorem dX4_isOutsideInOrder_8 : decode cX4_isOutsideInOrder 8 = .ok (.iconst 0, 1) := by decide +kernel
theorem dX4_isOutsideInOrder_9 : decode cX4_isOutsideInOrder 9 = .ok (.istore_n 3, 1) := by decide +kernel
theorem dX4_isOutsideInOrder_10 : decode cX4_isOutsideInOrder 10 = .ok (.iload_n 3, 1) := by decide +kernel
theorem dX4_isOutsideInOrder_11 : decode cX4_isOutsideInOrder 11 = .ok (.iload_n 2, 1) := by decide +kernel
theorem dX4_isOutsideInOrder_12 : decode cX4_isOutsideInOrder 12 = .ok (.if_icmp .ge 62, 3) := by decide +kernel
theorem dX4_isOutsideInOrder_15 : decode cX4_isOutsideInOrder 15 = .ok (.aload_n 1, 1) := by decide +kernel
theorem dX4_isOutsideInOrder_16 : decode cX4_isOutsideInOrder 16 = .ok (.iload_n 3, 1) := by decide +kernel
theorem dX4_isOutsideInOrder_17 : decode cX4_isOutsideInOrder 17 = .ok (.aaload, 1) := by decide +kernel
theorem dX4_isOutsideInOrder_18 : decode cX4_isOutsideInOrder 18 = .ok (.astore 4, 2) := by decide +kernel
theorem dX4_isOutsideInOrder_20 : decode cX4_isOutsideInOrder 20 = .ok (.aload 4, 2) := by decide +kernel
theorem dX4_isOutsideInOrder_22 : decode cX4_isOutsideInOrder 22 = .ok (.getfield 99, 3) := by decide +kernel
theorem dX4_isOutsideInOrder_25 : decode cX4_isOutsideInOrder 25 = .ok (.iconst 1, 1) := by decide +kernel
theorem dX4_isOutsideInOrder_26 : decode cX4_isOutsideInOrder 26 = .ok (.if_icmp .eq 12, 3) := by decide +kernel
theorem dX4_isOutsideInOrder_29 : decode cX4_isOutsideInOrder 29 = .ok (.aload 4, 2) := by decide +kernel
theorem dX4_isOutsideInOrder_31 : decode cX4_isOutsideInOrder 31 = .ok (.getfield 99, 3) := by decide +kernel
theorem dX4_isOutsideInOrder_34 : decode cX4_isOutsideInOrder 34 = .ok (.iconst 2, 1) := by decide +kernel
theorem dX4_isOutsideInOrder_35 : decode cX4_isOutsideInOrder 35 = .ok (.if_icmp .ne 7, 3) := by decide +kernel
theorem dX4_isOutsideInOrder_38 : decode cX4_isOutsideInOrder 38 = .ok (.iconst 1, 1) := by decide +kernel
theorem dX4_isOutsideInOrder_39 : decode cX4_isOutsideInOrder 39 = .ok (.goto 4, 3) := by decide +kernel
theorem dX4_isOutsideInOrder_42 : decode cX4_isOutsideInOrder 42 = .ok (.iconst 0, 1) := by decide +kernel
theorem dX4_isOutsideInOrder_43 : decode cX4_isOutsideInOrder 43 = .ok (.istore 5, 2) := by decide +kernel
theorem dX4_isOutsideInOrder_45 : decode cX4_isOutsideInOrder 45 = .ok (.iload 5, 2) := by decide +kernel
theorem dX4_isOutsideInOrder_47 : decode cX4_isOutsideInOrder 47 = .ok (.ifCond .eq 21, 3) := by decide +kernel
theorem dX4_isOutsideInOrder_50 : decode cX4_isOutsideInOrder 50 = .ok (.aload 4, 2) := by decide +kernel
theorem dX4_isOutsideInOrder_52 : decode cX4_isOutsideInOrder 52 = .ok (.invokevirtual 126, 3) := by decide +kernel
theorem dX4_isOutsideInOrder_55 : decode cX4_isOutsideInOrder 55 = .ok (.ifCond .eq 11, 3) := by decide +kernel
theorem dX4_isOutsideInOrder_58 : decode cX4_isOutsideInOrder 58 = .ok (.aload 4, 2) := by decide +kernel
theorem dX4_isOutsideInOrder_60 : decode cX4_isOutsideInOrder 60 = .ok (.invokevirtual 130, 3) := by decide +kernel
theorem dX4_isOutsideInOrder_63 : decode cX4_isOutsideInOrder 63 = .ok (.ifCond .ne 5, 3) := by decide +kernel
theorem dX4_isOutsideInOrder_66 : decode cX4_isOutsideInOrder 66 = .ok (.iconst 0, 1) := by decide +kernel
theorem dX4_isOutsideInOrder_67 : decode cX4_isOutsideInOrder 67 = .ok (.ireturn, 1) := by decide +kernel
theorem dX4_isOutsideInOrder_68 : decode cX4_isOutsideInOrder 68 = .ok (.iinc 3 1, 3) := by decide +kernel
theorem dX4_isOutsideInOrder_71 : decode cX4_isOutsideInOrder 71 = .ok (.goto (-61), 3) := by decide +kernel
theorem dX4_isOutsideInOrder_74 : decode cX4_isOutsideInOrder 74 = .ok (.iconst 1, 1) := by decide +kernel
theorem dX4_isOutsideInOrder_75 : decode cX4_isOutsideInOrder 75 = .ok (.ireturn, 1) := by decide +kernel
theorem dX4_heightIn_0 : decode cX4_heightIn 0 = .ok (.bipush 6, 2) := by decide +kernel
theorem dX4_heightIn_2 : decode cX4_heightIn 2 = .ok (.aload_n 0, 1) := by decide +kernel
theorem dX4_heightIn_3 : decode cX4_heightIn 3 = .ok (.getfield 51, 3) := by decide +kernel
theorem dX4_heightIn_6 : decode cX4_heightIn 6 = .ok (.iload_n 1, 1) := by decide +kernel
theorem dX4_heightIn_7 : decode cX4_heightIn 7 = .ok (.iadd, 1) := by decide +kernel
theorem dX4_heightIn_8 : decode cX4_heightIn 8 = .ok (.bipush 12, 2) := by decide +kernel
theorem dX4_heightIn_10 : decode cX4_heightIn 10 = .ok (.irem, 1) := by decide +kernel
theorem dX4_heightIn_11 : decode cX4_heightIn 11 = .ok (.isub, 1) := by decide +kernel
theorem dX4_heightIn_12 : decode cX4_heightIn 12 = .ok (.invokestatic 222, 3) := by decide +kernel
theorem dX4_heightIn_15 : decode cX4_heightIn 15 = .ok (.ireturn, 1) := by decide +kernel
theorem dX4_letPass_0 : decode cX4_letPass 0 = .ok (.iconst 0, 1) := by decide +kernel
theorem dX4_letPass_1 : decode cX4_letPass 1 = .ok (.istore_n 2, 1) := by decide +kernel
theorem dX4_letPass_2 : decode cX4_letPass 2 = .ok (.iload_n 2, 1) := by decide +kernel
theorem dX4_letPass_3 : decode cX4_letPass 3 = .ok (.iload_n 1, 1) := by decide +kernel
theorem dX4_letPass_4 : decode cX4_letPass 4 = .ok (.if_icmp .ge 31, 3) := by decide +kernel
theorem dX4_letPass_7 : decode cX4_letPass 7 = .ok (.aload_n 0, 1) := by decide +kernel
theorem dX4_letPass_8 : decode cX4_letPass 8 = .ok (.dup, 1) := by decide +kernel
theorem dX4_letPass_9 : decode cX4_letPass 9 = .ok (.getfield 51, 3) := by decide +kernel
theorem dX4_letPass_12 : decode cX4_letPass 12 = .ok (.iconst 1, 1) := by decide +kernel
theorem dX4_letPass_13 : decode cX4_letPass 13 = .ok (.iadd, 1) := by decide +kernel
theorem dX4_letPass_14 : decode cX4_letPass 14 = .ok (.putfield 51, 3) := by decide +kernel
theorem dX4_letPass_17 : decode cX4_letPass 17 = .ok (.aload_n 0, 1) := by decide +kernel
theorem dX4_letPass_18 : decode cX4_letPass 18 = .ok (.getfield 32, 3) := by decide +kernel
theorem dX4_letPass_21 : decode cX4_letPass 21 = .ok (.iconst 5, 1) := by decide +kernel
theorem dX4_letPass_22 : decode cX4_letPass 22 = .ok (.if_icmp .lt 7, 3) := by decide +kernel
theorem dX4_letPass_25 : decode cX4_letPass 25 = .ok (.aload_n 0, 1) := by decide +kernel
theorem dX4_letPass_26 : decode cX4_letPass 26 = .ok (.invokevirtual 225, 3) := by decide +kernel
theorem dX4_letPass_29 : decode cX4_letPass 29 = .ok (.iinc 2 1, 3) := by decide +kernel
theorem dX4_letPass_32 : decode cX4_letPass 32 = .ok (.goto (-30), 3) := by decide +kernel
theorem dX4_letPass_35 : decode cX4_letPass 35 = .ok (.iconst 1, 1) := by decide +kernel
theorem dX4_letPass_36 : decode cX4_letPass 36 = .ok (.ireturn, 1) := by decide +kernel
theorem dX4_letDampIn_0 : decode cX4_letDampIn 0 = .ok (.aload_n 0, 1) := by decide +kernel
theorem dX4_letDampIn_1 : decode cX4_letDampIn 1 = .ok (.getfield 21, 3) := by decide +kernel
theorem dX4_letDampIn_4 : decode cX4_letDampIn 4 = .ok (.astore_n 1, 1) := by decide +kernel
theorem dX4_letDampIn_5 : decode cX4_letDampIn 5 = .ok (.aload_n 1, 1) := by decide +kernel
theorem dX4_letDampIn_6 : decode cX4_letDampIn 6 = .ok (.arraylength, 1) := by decide +kernel
theorem dX4_letDampIn_7 : decode cX4_letDampIn 7 = .ok (.istore_n 2, 1) := by decide +kernel
theorem dX4_letDampIn_8 : decode cX4_letDampIn 8 = .ok (.iconst 0, 1) := by decide +kernel
theorem dX4_letDampIn_9 : decode cX4_letDampIn 9 = .ok (.istore_n 3, 1) := by decide +kernel
theorem dX4_letDampIn_10 : decode cX4_letDampIn 10 = .ok (.iload_n 3, 1) := by decide +kernel
theorem dX4_letDampIn_11 : decode cX4_letDampIn 11 = .ok (.iload_n 2, 1) := by decide +kernel
theorem dX4_letDampIn_12 : decode cX4_letDampIn 12 = .ok (.if_icmp .ge 19, 3) := by decide +kernel
theorem dX4_letDampIn_15 : decode cX4_letDampIn 15 = .ok (.aload_n 1, 1) := by decide +kernel
theorem dX4_letDampIn_16 : decode cX4_letDampIn 16 = .ok (.iload_n 3, 1) := by decide +kernel
theorem dX4_letDampIn_17 : decode cX4_letDampIn 17 = .ok (.aaload, 1) := by decide +kernel
theorem dX4_letDampIn_18 : decode cX4_letDampIn 18 = .ok (.astore 4, 2) := by decide +kernel
theorem dX4_letDampIn_20 : decode cX4_letDampIn 20 = .ok (.aload 4, 2) := by decide +kernel
theorem dX4_letDampIn_22 : decode cX4_letDampIn 22 = .ok (.invokevirtual 228, 3) := by decide +kernel
theorem dX4_letDampIn_25 : decode cX4_letDampIn 25 = .ok (.iinc 3 1, 3) := by decide +kernel
theorem dX4_letDampIn_28 : decode cX4_letDampIn 28 = .ok (.goto (-18), 3) := by decide +kernel
theorem dX4_letDampIn_31 : decode cX4_letDampIn 31 = .ok (.return_, 1) := by decide +kernel
theorem dX7_init_0 : decode cX7_init 0 = .ok (.aload_n 0, 1) := by decide +kernel
theorem dX7_init_1 : decode cX7_init 1 = .ok (.invokespecial 1, 3) := by decide +kernel
theorem dX7_init_4 : decode cX7_init 4 = .ok (.aload_n 0, 1) := by decide +kernel
theorem dX7_init_5 : decode cX7_init 5 = .ok (.new 7, 3) := by decide +kernel
theorem dX7_init_8 : decode cX7_init 8 = .ok (.dup, 1) := by decide +kernel
theorem dX7_init_9 : decode cX7_init 9 = .ok (.invokespecial 9, 3) := by decide +kernel
theorem dX7_init_12 : decode cX7_init 12 = .ok (.putfield 10, 3) := by decide +kernel
theorem dX7_init_15 : decode cX7_init 15 = .ok (.aload_n 0, 1) := by decide +kernel
theorem dX7_init_16 : decode cX7_init 16 = .ok (.new 7, 3) := by decide +kernel
theorem dX7_init_19 : decode cX7_init 19 = .ok (.dup, 1) := by decide +kernel
theorem dX7_init_20 : decode cX7_init 20 = .ok (.invokespecial 9, 3) := by decide +kernel
theorem dX7_init_23 : decode cX7_init 23 = .ok (.putfield 16, 3) := by decide +kernel
theorem dX7_init_26 : decode cX7_init 26 = .ok (.aload_n 0, 1) := by decide +kernel
theorem dX7_init_27 : decode cX7_init 27 = .ok (.iconst 0, 1) := by decide +kernel
theorem dX7_init_28 : decode cX7_init 28 = .ok (.putfield 19, 3) := by decide +kernel
theorem dX7_init_31 : decode cX7_init 31 = .ok (.aload_n 0, 1) := by decide +kernel
theorem dX7_init_32 : decode cX7_init 32 = .ok (.new 23, 3) := by decide +kernel
theorem dX7_init_35 : decode cX7_init 35 = .ok (.dup, 1) := by decide +kernel
theorem dX7_init_36 : decode cX7_init 36 = .ok (.invokespecial 25, 3) := by decide +kernel
theorem dX7_init_39 : decode cX7_init 39 = .ok (.putfield 26, 3) := by decide +kernel
theorem dX7_init_42 : decode cX7_init 42 = .ok (.aload_n 0, 1) := by decide +kernel
theorem dX7_init_43 : decode cX7_init 43 = .ok (.new 30, 3) := by decide +kernel
theorem dX7_init_46 : decode cX7_init 46 = .ok (.dup, 1) := by decide +kernel
theorem dX7_init_47 : decode cX7_init 47 = .ok (.invokespecial 32, 3) := by decide +kernel
theorem dX7_init_50 : decode cX7_init 50 = .ok (.putfield 33, 3) := by decide +kernel
theorem dX7_init_53 : decode cX7_init 53 = .ok (.return_, 1) := by decide +kernel
theorem dX7_bring_0 : decode cX7_bring 0 = .ok (.iload_n 1, 1) := by decide +kernel
theorem dX7_bring_1 : decode cX7_bring 1 = .ok (.iload_n 2, 1) := by decide +kernel
theorem dX7_bring_2 : decode cX7_bring 2 = .ok (.invokestatic 37, 3) := by decide +kernel
theorem dX7_bring_5 : decode cX7_bring 5 = .ok (.iload_n 3, 1) := by decide +kernel
theorem dX7_bring_6 : decode cX7_bring 6 = .ok (.iconst 1, 1) := by decide +kernel
theorem dX7_bring_7 : decode cX7_bring 7 = .ok (.sipush 500, 3) := by decide +kernel
theorem dX7_bring_10 : decode cX7_bring 10 = .ok (.invokestatic 41, 3) := by decide +kernel
theorem dX7_bring_13 : decode cX7_bring 13 = .ok (.aload_n 0, 1) := by decide +kernel
theorem dX7_bring_14 : decode cX7_bring 14 = .ok (.getfield 26, 3) := by decide +kernel
theorem dX7_bring_17 : decode cX7_bring 17 = .ok (.aload_n 0, 1) := by decide +kernel
theorem dX7_bring_18 : decode cX7_bring 18 = .ok (.getfield 10, 3) := by decide +kernel
theorem dX7_bring_21 : decode cX7_bring 21 = .ok (.invokevirtual 45, 3) := by decide +kernel
theorem dX7_bring_24 : decode cX7_bring 24 = .ok (.aload_n 0, 1) := by decide +kernel
theorem dX7_bring_25 : decode cX7_bring 25 = .ok (.aload_n 0, 1) := by decide +kernel
theorem dX7_bring_26 : decode cX7_bring 26 = .ok (.getfield 10, 3) := by decide +kernel
theorem dX7_bring_29 : decode cX7_bring 29 = .ok (.iload_n 1, 1) := by decide +kernel
theorem dX7_bring_30 : decode cX7_bring 30 = .ok (.iload_n 2, 1) := by decide +kernel
theorem dX7_bring_31 : decode cX7_bring 31 = .ok (.iload_n 3, 1) := by decide +kernel
theorem dX7_bring_32 : decode cX7_bring 32 = .ok (.invokevirtual 49, 3) := by decide +kernel
theorem dX7_bring_35 : decode cX7_bring 35 = .ok (.invokevirtual 53, 3) := by decide +kernel
theorem dX7_bring_38 : decode cX7_bring 38 = .ok (.aload_n 0, 1) := by decide +kernel
theorem dX7_bring_39 : decode cX7_bring 39 = .ok (.getfield 10, 3) := by decide +kernel
theorem dX7_bring_42 : decode cX7_bring 42 = .ok (.iload_n 1, 1) := by decide +kernel
theorem dX7_bring_43 : decode cX7_bring 43 = .ok (.iload_n 2, 1) := by decide +kernel
theorem dX7_bring_44 : decode cX7_bring 44 = .ok (.invokevirtual 57, 3) := by decide +kernel
theorem dX7_bring_47 : decode cX7_bring 47 = .ok (.ireturn, 1) := by decide +kernel
theorem dX7_leaves_0 : decode cX7_leaves 0 = .ok (.iload_n 1, 1) := by decide +kernel
theorem dX7_leaves_1 : decode cX7_leaves 1 = .ok (.iload_n 2, 1) := by decide +kernel
theorem dX7_leaves_2 : decode cX7_leaves 2 = .ok (.invokestatic 37, 3) := by decide +kernel
theorem dX7_leaves_5 : decode cX7_leaves 5 = .ok (.aload_n 0, 1) := by decide +kernel
theorem dX7_leaves_6 : decode cX7_leaves 6 = .ok (.getfield 10, 3) := by decide +kernel
theorem dX7_leaves_9 : decode cX7_leaves 9 = .ok (.iload_n 1, 1) := by decide +kernel
theorem dX7_leaves_10 : decode cX7_leaves 10 = .ok (.iload_n 2, 1) := by decide +kernel
theorem dX7_leaves_11 : decode cX7_leaves 11 = .ok (.invokevirtual 57, 3) := by decide +kernel
theorem dX7_leaves_14 : decode cX7_leaves 14 = .ok (.ireturn, 1) := by decide +kernel
theorem dX7_bestGarden_0 : decode cX7_bestGarden 0 = .ok (.iconst 0, 1) := by decide +kernel
theorem dX7_bestGarden_1 : decode cX7_bestGarden 1 = .ok (.istore_n 1, 1) := by decide +kernel
theorem dX7_bestGarden_2 : decode cX7_bestGarden 2 = .ok (.iconst 1, 1) := by decide +kernel
theorem dX7_bestGarden_3 : decode cX7_bestGarden 3 = .ok (.istore_n 2, 1) := by decide +kernel
theorem dX7_bestGarden_4 : decode cX7_bestGarden 4 = .ok (.iload_n 2, 1) := by decide +kernel
theorem dX7_bestGarden_5 : decode cX7_bestGarden 5 = .ok (.bipush 6, 2) := by decide +kernel
theorem dX7_bestGarden_7 : decode cX7_bestGarden 7 = .ok (.if_icmp .ge 23, 3) := by decide +kernel
theorem dX7_bestGarden_10 : decode cX7_bestGarden 10 = .ok (.aload_n 0, 1) := by decide +kernel
theorem dX7_bestGarden_11 : decode cX7_bestGarden 11 = .ok (.getfield 10, 3) := by decide +kernel
theorem dX7_bestGarden_14 : decode cX7_bestGarden 14 = .ok (.iload_n 2, 1) := by decide +kernel
theorem dX7_bestGarden_15 : decode cX7_bestGarden 15 = .ok (.iload_n 1, 1) := by decide +kernel
theorem dX7_bestGarden_16 : decode cX7_bestGarden 16 = .ok (.invokevirtual 61, 3) := by decide +kernel
theorem dX7_bestGarden_19 : decode cX7_bestGarden 19 = .ok (.ifCond .eq 5, 3) := by decide +kernel
theorem dX7_bestGarden_22 : decode cX7_bestGarden 22 = .ok (.iload_n 2, 1) := by decide +kernel
theorem dX7_bestGarden_23 : decode cX7_bestGarden 23 = .ok (.istore_n 1, 1) := by decide +kernel
theorem dX7_bestGarden_24 : decode cX7_bestGarden 24 = .ok (.iinc 2 1, 3) := by decide +kernel
theorem dX7_bestGarden_27 : decode cX7_bestGarden 27 = .ok (.goto (-23), 3) := by decide +kernel
theorem dX7_bestGarden_30 : decode cX7_bestGarden 30 = .ok (.iload_n 1, 1) := by decide +kernel
theorem dX7_bestGarden_31 : decode cX7_bestGarden 31 = .ok (.ireturn, 1) := by decide +kernel
theorem dX7_buy_0 : decode cX7_buy 0 = .ok (.iload_n 2, 1) := by decide +kernel
theorem dX7_buy_1 : decode cX7_buy 1 = .ok (.iconst 1, 1) := by decide +kernel
theorem dX7_buy_2 : decode cX7_buy 2 = .ok (.bipush 99, 2) := by decide +kernel
theorem dX7_buy_4 : decode cX7_buy 4 = .ok (.invokestatic 41, 3) := by decide +kernel
theorem dX7_buy_7 : decode cX7_buy 7 = .ok (.aload_n 0, 1) := by decide +kernel
theorem dX7_buy_8 : decode cX7_buy 8 = .ok (.invokevirtual 65, 3) := by decide +kernel
theorem dX7_buy_11 : decode cX7_buy 11 = .ok (.iload_n 1, 1) := by decide +kernel
theorem dX7_buy_12 : decode cX7_buy 12 = .ok (.ifCond .eq 19, 3) := by decide +kernel
theorem dX7_buy_15 : decode cX7_buy 15 = .ok (.aload_n 0, 1) := by decide +kernel
theorem dX7_buy_16 : decode cX7_buy 16 = .ok (.getfield 10, 3) := by decide +kernel
theorem dX7_buy_19 : decode cX7_buy 19 = .ok (.iload_n 2, 1) := by decide +kernel
theorem dX7_buy_20 : decode cX7_buy 20 = .ok (.invokevirtual 68, 3) := by decide +kernel
theorem dX7_buy_23 : decode cX7_buy 23 = .ok (.aload_n 0, 1) := by decide +kernel
theorem dX7_buy_24 : decode cX7_buy 24 = .ok (.getfield 10, 3) := by decide +kernel
theorem dX7_buy_27 : decode cX7_buy 27 = .ok (.getfield 72, 3) := by decide +kernel
theorem dX7_buy_30 : decode cX7_buy 30 = .ok (.ireturn, 1) := by decide +kernel
theorem dX7_buy_31 : decode cX7_buy 31 = .ok (.aload_n 0, 1) := by decide +kernel
theorem dX7_buy_32 : decode cX7_buy 32 = .ok (.getfield 10, 3) := by decide +kernel
theorem dX7_buy_35 : decode cX7_buy 35 = .ok (.iload_n 2, 1) := by decide +kernel
theorem dX7_buy_36 : decode cX7_buy 36 = .ok (.invokevirtual 76, 3) := by decide +kernel
theorem dX7_buy_39 : decode cX7_buy 39 = .ok (.aload_n 0, 1) := by decide +kernel
theorem dX7_buy_40 : decode cX7_buy 40 = .ok (.getfield 10, 3) := by decide +kernel
theorem dX7_buy_43 : decode cX7_buy 43 = .ok (.getfield 79, 3) := by decide +kernel
theorem dX7_buy_46 : decode cX7_buy 46 = .ok (.ireturn, 1) := by decide +kernel
theorem dX7_make_0 : decode cX7_make 0 = .ok (.iload_n 1, 1) := by decide +kernel
theorem dX7_make_1 : decode cX7_make 1 = .ok (.iconst 1, 1) := by decide +kernel
theorem dX7_make_2 : decode cX7_make 2 = .ok (.iconst 5, 1) := by decide +kernel
theorem dX7_make_3 : decode cX7_make 3 = .ok (.invokestatic 41, 3) := by decide +kernel
theorem dX7_make_6 : decode cX7_make 6 = .ok (.aload_n 0, 1) := by decide +kernel
theorem dX7_make_7 : decode cX7_make 7 = .ok (.getfield 26, 3) := by decide +kernel
theorem dX7_make_10 : decode cX7_make 10 = .ok (.aload_n 0, 1) := by decide +kernel
theorem dX7_make_11 : decode cX7_make 11 = .ok (.getfield 10, 3) := by decide +kernel
theorem dX7_make_14 : decode cX7_make 14 = .ok (.invokevirtual 45, 3) := by decide +kernel
theorem dX7_make_17 : decode cX7_make 17 = .ok (.aload_n 0, 1) := by decide +kernel
theorem dX7_make_18 : decode cX7_make 18 = .ok (.aload_n 0, 1) := by decide +kernel
theorem dX7_make_19 : decode cX7_make 19 = .ok (.getfield 10, 3) := by decide +kernel
theorem dX7_make_22 : decode cX7_make 22 = .ok (.iload_n 1, 1) := by decide +kernel
theorem dX7_make_23 : decode cX7_make 23 = .ok (.invokevirtual 82, 3) := by decide +kernel
theorem dX7_make_26 : decode cX7_make 26 = .ok (.invokevirtual 53, 3) := by decide +kernel
theorem dX7_make_29 : decode cX7_make 29 = .ok (.aload_n 0, 1) := by decide +kernel
theorem dX7_make_30 : decode cX7_make 30 = .ok (.getfield 10, 3) := by decide +kernel
theorem dX7_make_33 : decode cX7_make 33 = .ok (.getfield 86, 3) := by decide +kernel
theorem dX7_make_36 : decode cX7_make 36 = .ok (.iconst 1, 1) := by decide +kernel
theorem dX7_make_37 : decode cX7_make 37 = .ok (.isub, 1) := by decide +kernel
theorem dX7_make_38 : decode cX7_make 38 = .ok (.ireturn, 1) := by decide +kernel
theorem dX7_line_0 : decode cX7_line 0 = .ok (.aload_n 0, 1) := by decide +kernel
theorem dX7_line_1 : decode cX7_line 1 = .ok (.iload_n 1, 1) := by decide +kernel
theorem dX7_line_2 : decode cX7_line 2 = .ok (.invokevirtual 89, 3) := by decide +kernel
theorem dX7_line_5 : decode cX7_line 5 = .ok (.astore_n 2, 1) := by decide +kernel
theorem dX7_line_6 : decode cX7_line 6 = .ok (.aload_n 0, 1) := by decide +kernel
theorem dX7_line_7 : decode cX7_line 7 = .ok (.getfield 26, 3) := by decide +kernel
theorem dX7_line_10 : decode cX7_line 10 = .ok (.aload_n 0, 1) := by decide +kernel
theorem dX7_line_11 : decode cX7_line 11 = .ok (.getfield 10, 3) := by decide +kernel
theorem dX7_line_14 : decode cX7_line 14 = .ok (.invokevirtual 45, 3) := by decide +kernel
theorem dX7_line_17 : decode cX7_line 17 = .ok (.aload_n 0, 1) := by decide +kernel
theorem dX7_line_18 : decode cX7_line 18 = .ok (.aload_n 0, 1) := by decide +kernel
theorem dX7_line_19 : decode cX7_line 19 = .ok (.getfield 10, 3) := by decide +kernel
theorem dX7_line_22 : decode cX7_line 22 = .ok (.aload_n 2, 1) := by decide +kernel
theorem dX7_line_23 : decode cX7_line 23 = .ok (.invokevirtual 93, 3) := by decide +kernel
theorem dX7_line_26 : decode cX7_line 26 = .ok (.invokevirtual 53, 3) := by decide +kernel
theorem dX7_line_29 : decode cX7_line 29 = .ok (.aload_n 0, 1) := by decide +kernel
theorem dX7_line_30 : decode cX7_line 30 = .ok (.getfield 10, 3) := by decide +kernel
theorem dX7_line_33 : decode cX7_line 33 = .ok (.getfield 79, 3) := by decide +kernel
theorem dX7_line_36 : decode cX7_line 36 = .ok (.ireturn, 1) := by decide +kernel
theorem dX7_fill_0 : decode cX7_fill 0 = .ok (.aload_n 0, 1) := by decide +kernel
theorem dX7_fill_1 : decode cX7_fill 1 = .ok (.iload_n 1, 1) := by decide +kernel
theorem dX7_fill_2 : decode cX7_fill 2 = .ok (.invokevirtual 89, 3) := by decide +kernel
theorem dX7_fill_5 : decode cX7_fill 5 = .ok (.astore 5, 2) := by decide +kernel
theorem dX7_fill_7 : decode cX7_fill 7 = .ok (.iload_n 2, 1) := by decide +kernel
theorem dX7_fill_8 : decode cX7_fill 8 = .ok (.iload_n 3, 1) := by decide +kernel
theorem dX7_fill_9 : decode cX7_fill 9 = .ok (.invokestatic 37, 3) := by decide +kernel
theorem dX7_fill_12 : decode cX7_fill 12 = .ok (.iload 4, 2) := by decide +kernel
theorem dX7_fill_14 : decode cX7_fill 14 = .ok (.iconst 1, 1) := by decide +kernel
theorem dX7_fill_15 : decode cX7_fill 15 = .ok (.bipush 50, 2) := by decide +kernel
theorem dX7_fill_17 : decode cX7_fill 17 = .ok (.invokestatic 41, 3) := by decide +kernel
theorem dX7_fill_20 : decode cX7_fill 20 = .ok (.aload_n 0, 1) := by decide +kernel
theorem dX7_fill_21 : decode cX7_fill 21 = .ok (.getfield 26, 3) := by decide +kernel
theorem dX7_fill_24 : decode cX7_fill 24 = .ok (.aload_n 0, 1) := by decide +kernel
theorem dX7_fill_25 : decode cX7_fill 25 = .ok (.getfield 10, 3) := by decide +kernel
theorem dX7_fill_28 : decode cX7_fill 28 = .ok (.invokevirtual 45, 3) := by decide +kernel
theorem dX7_fill_31 : decode cX7_fill 31 = .ok (.aload_n 0, 1) := by decide +kernel
theorem dX7_fill_32 : decode cX7_fill 32 = .ok (.aload_n 0, 1) := by decide +kernel
theorem dX7_fill_33 : decode cX7_fill 33 = .ok (.getfield 10, 3) := by decide +kernel
theorem dX7_fill_36 : decode cX7_fill 36 = .ok (.aload 5, 2) := by decide +kernel
theorem dX7_fill_38 : decode cX7_fill 38 = .ok (.iload_n 2, 1) := by decide +kernel
theorem dX7_fill_39 : decode cX7_fill 39 = .ok (.iload_n 3, 1) := by decide +kernel
theorem dX7_fill_40 : decode cX7_fill 40 = .ok (.iload 4, 2) := by decide +kernel
theorem dX7_fill_42 : decode cX7_fill 42 = .ok (.invokevirtual 97, 3) := by decide +kernel
theorem dX7_fill_45 : decode cX7_fill 45 = .ok (.invokevirtual 53, 3) := by decide +kernel
theorem dX7_fill_48 : decode cX7_fill 48 = .ok (.aload 5, 2) := by decide +kernel
theorem dX7_fill_50 : decode cX7_fill 50 = .ok (.invokevirtual 101, 3) := by decide +kernel
theorem dX7_fill_53 : decode cX7_fill 53 = .ok (.ireturn, 1) := by decide +kernel
theorem dX7_empty_0 : decode cX7_empty 0 = .ok (.aload_n 0, 1) := by decide +kernel
theorem dX7_empty_1 : decode cX7_empty 1 = .ok (.iload_n 1, 1) := by decide +kernel
theorem dX7_empty_2 : decode cX7_empty 2 = .ok (.invokevirtual 89, 3) := by decide +kernel
theorem dX7_empty_5 : decode cX7_empty 5 = .ok (.astore_n 2, 1) := by decide +kernel
theorem dX7_empty_6 : decode cX7_empty 6 = .ok (.aload_n 2, 1) := by decide +kernel
theorem dX7_empty_7 : decode cX7_empty 7 = .ok (.getfield 107, 3) := by decide +kernel
theorem dX7_empty_10 : decode cX7_empty 10 = .ok (.istore_n 3, 1) := by decide +kernel
theorem dX7_empty_11 : decode cX7_empty 11 = .ok (.aload_n 0, 1) := by decide +kernel
theorem dX7_empty_12 : decode cX7_empty 12 = .ok (.getfield 26, 3) := by decide +kernel
theorem dX7_empty_15 : decode cX7_empty 15 = .ok (.aload_n 0, 1) := by decide +kernel
theorem dX7_empty_16 : decode cX7_empty 16 = .ok (.getfield 10, 3) := by decide +kernel
theorem dX7_empty_19 : decode cX7_empty 19 = .ok (.invokevirtual 45, 3) := by decide +kernel
theorem dX7_empty_22 : decode cX7_empty 22 = .ok (.aload_n 0, 1) := by decide +kernel
theorem dX7_empty_23 : decode cX7_empty 23 = .ok (.aload_n 0, 1) := by decide +kernel
theorem dX7_empty_24 : decode cX7_empty 24 = .ok (.getfield 10, 3) := by decide +kernel
theorem dX7_empty_27 : decode cX7_empty 27 = .ok (.aload_n 2, 1) := by decide +kernel
theorem dX7_empty_28 : decode cX7_empty 28 = .ok (.invokevirtual 110, 3) := by decide +kernel
theorem dX7_empty_31 : decode cX7_empty 31 = .ok (.invokevirtual 53, 3) := by decide +kernel
theorem dX7_empty_34 : decode cX7_empty 34 = .ok (.iload_n 3, 1) := by decide +kernel
theorem dX7_empty_35 : decode cX7_empty 35 = .ok (.ireturn, 1) := by decide +kernel
theorem dX7_screw_0 : decode cX7_screw 0 = .ok (.aload_n 0, 1) := by decide +kernel
theorem dX7_screw_1 : decode cX7_screw 1 = .ok (.iload_n 1, 1) := by decide +kernel
theorem dX7_screw_2 : decode cX7_screw 2 = .ok (.invokevirtual 89, 3) := by decide +kernel
theorem dX7_screw_5 : decode cX7_screw 5 = .ok (.astore_n 3, 1) := by decide +kernel
theorem dX7_screw_6 : decode cX7_screw 6 = .ok (.iload_n 2, 1) := by decide +kernel
theorem dX7_screw_7 : decode cX7_screw 7 = .ok (.iconst 1, 1) := by decide +kernel
theorem dX7_screw_8 : decode cX7_screw 8 = .ok (.bipush 8, 2) := by decide +kernel
theorem dX7_screw_10 : decode cX7_screw 10 = .ok (.invokestatic 41, 3) := by decide +kernel
theorem dX7_screw_13 : decode cX7_screw 13 = .ok (.aload_n 0, 1) := by decide +kernel
theorem dX7_screw_14 : decode cX7_screw 14 = .ok (.getfield 26, 3) := by decide +kernel
theorem dX7_screw_17 : decode cX7_screw 17 = .ok (.aload_n 0, 1) := by decide +kernel
theorem dX7_screw_18 : decode cX7_screw 18 = .ok (.getfield 10, 3) := by decide +kernel
theorem dX7_screw_21 : decode cX7_screw 21 = .ok (.invokevirtual 45, 3) := by decide +kernel
theorem dX7_screw_24 : decode cX7_screw 24 = .ok (.aload_n 0, 1) := by decide +kernel
theorem dX7_screw_25 : decode cX7_screw 25 = .ok (.aload_n 0, 1) := by decide +kernel
theorem dX7_screw_26 : decode cX7_screw 26 = .ok (.getfield 10, 3) := by decide +kernel
theorem dX7_screw_29 : decode cX7_screw 29 = .ok (.aload_n 3, 1) := by decide +kernel
theorem dX7_screw_30 : decode cX7_screw 30 = .ok (.iload_n 2, 1) := by decide +kernel
theorem dX7_screw_31 : decode cX7_screw 31 = .ok (.invokevirtual 113, 3) := by decide +kernel
theorem dX7_screw_34 : decode cX7_screw 34 = .ok (.invokevirtual 53, 3) := by decide +kernel
theorem dX7_screw_37 : decode cX7_screw 37 = .ok (.aload_n 3, 1) := by decide +kernel
theorem dX7_screw_38 : decode cX7_screw 38 = .ok (.invokevirtual 117, 3) := by decide +kernel
theorem dX7_screw_41 : decode cX7_screw 41 = .ok (.ireturn, 1) := by decide +kernel
theorem dX7_unscrew_0 : decode cX7_unscrew 0 = .ok (.aload_n 0, 1) := by decide +kernel
theorem dX7_unscrew_1 : decode cX7_unscrew 1 = .ok (.iload_n 1, 1) := by decide +kernel
theorem dX7_unscrew_2 : decode cX7_unscrew 2 = .ok (.invokevirtual 89, 3) := by decide +kernel
theorem dX7_unscrew_5 : decode cX7_unscrew 5 = .ok (.astore_n 2, 1) := by decide +kernel
theorem dX7_unscrew_6 : decode cX7_unscrew 6 = .ok (.aload_n 2, 1) := by decide +kernel
theorem dX7_unscrew_7 : decode cX7_unscrew 7 = .ok (.getfield 121, 3) := by decide +kernel
theorem dX7_unscrew_10 : decode cX7_unscrew 10 = .ok (.istore_n 3, 1) := by decide +kernel
theorem dX7_unscrew_11 : decode cX7_unscrew 11 = .ok (.aload_n 0, 1) := by decide +kernel
theorem dX7_unscrew_12 : decode cX7_unscrew 12 = .ok (.getfield 26, 3) := by decide +kernel
theorem dX7_unscrew_15 : decode cX7_unscrew 15 = .ok (.aload_n 0, 1) := by decide +kernel
theorem dX7_unscrew_16 : decode cX7_unscrew 16 = .ok (.getfield 10, 3) := by decide +kernel
theorem dX7_unscrew_19 : decode cX7_unscrew 19 = .ok (.invokevirtual 45, 3) := by decide +kernel
theorem dX7_unscrew_22 : decode cX7_unscrew 22 = .ok (.aload_n 0, 1) := by decide +kernel
theorem dX7_unscrew_23 : decode cX7_unscrew 23 = .ok (.aload_n 0, 1) := by decide +kernel
theorem dX7_unscrew_24 : decode cX7_unscrew 24 = .ok (.getfield 10, 3) := by decide +kernel
theorem dX7_unscrew_27 : decode cX7_unscrew 27 = .ok (.aload_n 2, 1) := by decide +kernel
theorem dX7_unscrew_28 : decode cX7_unscrew 28 = .ok (.invokevirtual 122, 3) := by decide +kernel
theorem dX7_unscrew_31 : decode cX7_unscrew 31 = .ok (.invokevirtual 53, 3) := by decide +kernel
theorem dX7_unscrew_34 : decode cX7_unscrew 34 = .ok (.iload_n 3, 1) := by decide +kernel
theorem dX7_unscrew_35 : decode cX7_unscrew 35 = .ok (.ireturn, 1) := by decide +kernel
theorem dX7_label_0 : decode cX7_label 0 = .ok (.aload_n 0, 1) := by decide +kernel
theorem dX7_label_1 : decode cX7_label 1 = .ok (.iload_n 1, 1) := by decide +kernel
theorem dX7_label_2 : decode cX7_label 2 = .ok (.invokevirtual 89, 3) := by decide +kernel
theorem dX7_label_5 : decode cX7_label 5 = .ok (.astore_n 2, 1) := by decide +kernel
theorem dX7_label_6 : decode cX7_label 6 = .ok (.aload_n 0, 1) := by decide +kernel
theorem dX7_label_7 : decode cX7_label 7 = .ok (.getfield 26, 3) := by decide +kernel
theorem dX7_label_10 : decode cX7_label 10 = .ok (.aload_n 0, 1) := by decide +kernel
theorem dX7_label_11 : decode cX7_label 11 = .ok (.getfield 10, 3) := by decide +kernel
theorem dX7_label_14 : decode cX7_label 14 = .ok (.invokevirtual 45, 3) := by decide +kernel
theorem dX7_label_17 : decode cX7_label 17 = .ok (.aload_n 0, 1) := by decide +kernel
theorem dX7_label_18 : decode cX7_label 18 = .ok (.aload_n 0, 1) := by decide +kernel
theorem dX7_label_19 : decode cX7_label 19 = .ok (.getfield 10, 3) := by decide +kernel
theorem dX7_label_22 : decode cX7_label 22 = .ok (.aload_n 2, 1) := by decide +kernel
theorem dX7_label_23 : decode cX7_label 23 = .ok (.invokevirtual 125, 3) := by decide +kernel
theorem dX7_label_26 : decode cX7_label 26 = .ok (.invokevirtual 53, 3) := by decide +kernel
theorem dX7_label_29 : decode cX7_label 29 = .ok (.aload_n 2, 1) := by decide +kernel
theorem dX7_label_30 : decode cX7_label 30 = .ok (.getfield 128, 3) := by decide +kernel
theorem dX7_label_33 : decode cX7_label 33 = .ok (.invokevirtual 132, 3) := by decide +kernel
theorem dX7_label_36 : decode cX7_label 36 = .ok (.ireturn, 1) := by decide +kernel
theorem dX7_labelled_0 : decode cX7_labelled 0 = .ok (.aload_n 0, 1) := by decide +kernel
theorem dX7_labelled_1 : decode cX7_labelled 1 = .ok (.iload_n 1, 1) := by decide +kernel
theorem dX7_labelled_2 : decode cX7_labelled 2 = .ok (.invokevirtual 89, 3) := by decide +kernel
theorem dX7_labelled_5 : decode cX7_labelled 5 = .ok (.getfield 128, 3) := by decide +kernel
theorem dX7_labelled_8 : decode cX7_labelled 8 = .ok (.astore_n 3, 1) := by decide +kernel
theorem dX7_labelled_9 : decode cX7_labelled 9 = .ok (.iload_n 2, 1) := by decide +kernel
theorem dX7_labelled_10 : decode cX7_labelled 10 = .ok (.ifCond .lt 11, 3) := by decide +kernel
theorem dX7_labelled_13 : decode cX7_labelled 13 = .ok (.iload_n 2, 1) := by decide +kernel
theorem dX7_labelled_14 : decode cX7_labelled 14 = .ok (.aload_n 3, 1) := by decide +kernel
theorem dX7_labelled_15 : decode cX7_labelled 15 = .ok (.invokevirtual 132, 3) := by decide +kernel
theorem dX7_labelled_18 : decode cX7_labelled 18 = .ok (.if_icmp .lt 13, 3) := by decide +kernel
theorem dX7_labelled_21 : decode cX7_labelled 21 = .ok (.new 137, 3) := by decide +kernel
theorem dX7_labelled_24 : decode cX7_labelled 24 = .ok (.dup, 1) := by decide +kernel
theorem dX7_labelled_25 : decode cX7_labelled 25 = .ok (.ldc 139, 2) := by decide +kernel
theorem dX7_labelled_27 : decode cX7_labelled 27 = .ok (.invokespecial 141, 3) := by decide +kernel
theorem dX7_labelled_30 : decode cX7_labelled 30 = .ok (.athrow, 1) := by decide +kernel
theorem dX7_labelled_31 : decode cX7_labelled 31 = .ok (.aload_n 3, 1) := by decide +kernel
theorem dX7_labelled_32 : decode cX7_labelled 32 = .ok (.iload_n 2, 1) := by decide +kernel
theorem dX7_labelled_33 : decode cX7_labelled 33 = .ok (.invokevirtual 144, 3) := by decide +kernel
theorem dX7_labelled_36 : decode cX7_labelled 36 = .ok (.ireturn, 1) := by decide +kernel
theorem dX7_chest_0 : decode cX7_chest 0 = .ok (.aload_n 0, 1) := by decide +kernel
theorem dX7_chest_1 : decode cX7_chest 1 = .ok (.iload_n 1, 1) := by decide +kernel
theorem dX7_chest_2 : decode cX7_chest 2 = .ok (.invokevirtual 89, 3) := by decide +kernel
theorem dX7_chest_5 : decode cX7_chest 5 = .ok (.astore_n 3, 1) := by decide +kernel
theorem dX7_chest_6 : decode cX7_chest 6 = .ok (.iload_n 2, 1) := by decide +kernel
theorem dX7_chest_7 : decode cX7_chest 7 = .ok (.tableswitch 122 0 9 #[53, 58, 63, 68, 73, 86, 91, 96, 109, 114], 53) := by decide +kernel
theorem dX7_chest_60 : decode cX7_chest 60 = .ok (.aload_n 3, 1) := by decide +kernel
theorem dX7_chest_61 : decode cX7_chest 61 = .ok (.getfield 148, 3) := by decide +kernel
theorem dX7_chest_64 : decode cX7_chest 64 = .ok (.ireturn, 1) := by decide +kernel
theorem dX7_chest_65 : decode cX7_chest 65 = .ok (.aload_n 3, 1) := by decide +kernel
theorem dX7_chest_66 : decode cX7_chest 66 = .ok (.getfield 151, 3) := by decide +kernel
theorem dX7_chest_69 : decode cX7_chest 69 = .ok (.ireturn, 1) := by decide +kernel
theorem dX7_chest_70 : decode cX7_chest 70 = .ok (.aload_n 3, 1) := by decide +kernel
theorem dX7_chest_71 : decode cX7_chest 71 = .ok (.getfield 154, 3) := by decide +kernel
theorem dX7_chest_74 : decode cX7_chest 74 = .ok (.ireturn, 1) := by decide +kernel
theorem dX7_chest_75 : decode cX7_chest 75 = .ok (.aload_n 3, 1) := by decide +kernel
theorem dX7_chest_76 : decode cX7_chest 76 = .ok (.getfield 107, 3) := by decide +kernel
theorem dX7_chest_79 : decode cX7_chest 79 = .ok (.ireturn, 1) := by decide +kernel
theorem dX7_chest_80 : decode cX7_chest 80 = .ok (.aload_n 3, 1) := by decide +kernel
theorem dX7_chest_81 : decode cX7_chest 81 = .ok (.getfield 157, 3) := by decide +kernel
theorem dX7_chest_84 : decode cX7_chest 84 = .ok (.ifCond .eq 7, 3) := by decide +kernel
theorem dX7_chest_87 : decode cX7_chest 87 = .ok (.iconst 1, 1) := by decide +kernel
theorem dX7_chest_88 : decode cX7_chest 88 = .ok (.goto 4, 3) := by decide +kernel
theorem dX7_chest_91 : decode cX7_chest 91 = .ok (.iconst 0, 1) := by decide +kernel
theorem dX7_chest_92 : decode cX7_chest 92 = .ok (.ireturn, 1) := by decide +kernel
theorem dX7_chest_93 : decode cX7_chest 93 = .ok (.aload_n 3, 1) := by decide +kernel
theorem dX7_chest_94 : decode cX7_chest 94 = .ok (.getfield 121, 3) := by decide +kernel
theorem dX7_chest_97 : decode cX7_chest 97 = .ok (.ireturn, 1) := by decide +kernel
theorem dX7_chest_98 : decode cX7_chest 98 = .ok (.aload_n 3, 1) := by decide +kernel
theorem dX7_chest_99 : decode cX7_chest 99 = .ok (.getfield 160, 3) := by decide +kernel
theorem dX7_chest_102 : decode cX7_chest 102 = .ok (.ireturn, 1) := by decide +kernel
theorem dX7_chest_103 : decode cX7_chest 103 = .ok (.aload_n 3, 1) := by decide +kernel
theorem dX7_chest_104 : decode cX7_chest 104 = .ok (.invokevirtual 117, 3) := by decide +kernel
theorem dX7_chest_107 : decode cX7_chest 107 = .ok (.ifCond .eq 7, 3) := by decide +kernel
theorem dX7_chest_110 : decode cX7_chest 110 = .ok (.iconst 1, 1) := by decide +kernel
theorem dX7_chest_111 : decode cX7_chest 111 = .ok (.goto 4, 3) := by decide +kernel
theorem dX7_chest_114 : decode cX7_chest 114 = .ok (.iconst 0, 1) := by decide +kernel
theorem dX7_chest_115 : decode cX7_chest 115 = .ok (.ireturn, 1) := by decide +kernel
theorem dX7_chest_116 : decode cX7_chest 116 = .ok (.aload_n 3, 1) := by decide +kernel
theorem dX7_chest_117 : decode cX7_chest 117 = .ok (.getfield 163, 3) := by decide +kernel
theorem dX7_chest_120 : decode cX7_chest 120 = .ok (.ireturn, 1) := by decide +kernel
theorem dX7_chest_121 : decode cX7_chest 121 = .ok (.aload_n 3, 1) := by decide +kernel
theorem dX7_chest_122 : decode cX7_chest 122 = .ok (.getfield 128, 3) := by decide +kernel
theorem dX7_chest_125 : decode cX7_chest 125 = .ok (.invokevirtual 132, 3) := by decide +kernel
theorem dX7_chest_128 : decode cX7_chest 128 = .ok (.ireturn, 1) := by decide +kernel
theorem dX7_chest_129 : decode cX7_chest 129 = .ok (.new 166, 3) := by decide +kernel
theorem dX7_chest_132 : decode cX7_chest 132 = .ok (.dup, 1) := by decide +kernel
theorem dX7_chest_133 : decode cX7_chest 133 = .ok (.ldc 168, 2) := by decide +kernel
theorem dX7_chest_135 : decode cX7_chest 135 = .ok (.invokespecial 170, 3) := by decide +kernel
theorem dX7_chest_138 : decode cX7_chest 138 = .ok (.athrow, 1) := by decide +kernel
theorem dX7_worth_0 : decode cX7_worth 0 = .ok (.aload_n 0, 1) := by decide +kernel
theorem dX7_worth_1 : decode cX7_worth 1 = .ok (.iload_n 1, 1) := by decide +kernel
theorem dX7_worth_2 : decode cX7_worth 2 = .ok (.invokevirtual 89, 3) := by decide +kernel
theorem dX7_worth_5 : decode cX7_worth 5 = .ok (.invokevirtual 171, 3) := by decide +kernel
theorem dX7_worth_8 : decode cX7_worth 8 = .ok (.ireturn, 1) := by decide +kernel
theorem dX7_ranked_0 : decode cX7_ranked 0 = .ok (.aload_n 0, 1) := by decide +kernel
theorem dX7_ranked_1 : decode cX7_ranked 1 = .ok (.getfield 10, 3) := by decide +kernel
theorem dX7_ranked_4 : decode cX7_ranked 4 = .ok (.iload_n 1, 1) := by decide +kernel
theorem dX7_ranked_5 : decode cX7_ranked 5 = .ok (.invokevirtual 174, 3) := by decide +kernel
theorem dX7_ranked_8 : decode cX7_ranked 8 = .ok (.istore_n 2, 1) := by decide +kernel
theorem dX7_ranked_9 : decode cX7_ranked 9 = .ok (.iload_n 2, 1) := by decide +kernel
theorem dX7_ranked_10 : decode cX7_ranked 10 = .ok (.ifCond .ge 13, 3) := by decide +kernel
theorem dX7_ranked_13 : decode cX7_ranked 13 = .ok (.new 137, 3) := by decide +kernel
theorem dX7_ranked_16 : decode cX7_ranked 16 = .ok (.dup, 1) := by decide +kernel
theorem dX7_ranked_17 : decode cX7_ranked 17 = .ok (.ldc 178, 2) := by decide +kernel
theorem dX7_ranked_19 : decode cX7_ranked 19 = .ok (.invokespecial 141, 3) := by decide +kernel
theorem dX7_ranked_22 : decode cX7_ranked 22 = .ok (.athrow, 1) := by decide +kernel
theorem dX7_ranked_23 : decode cX7_ranked 23 = .ok (.iload_n 2, 1) := by decide +kernel
theorem dX7_ranked_24 : decode cX7_ranked 24 = .ok (.ireturn, 1) := by decide +kernel
theorem dX7_toQuay_0 : decode cX7_toQuay 0 = .ok (.aload_n 0, 1) := by decide +kernel
theorem dX7_toQuay_1 : decode cX7_toQuay 1 = .ok (.iload_n 1, 1) := by decide +kernel
theorem dX7_toQuay_2 : decode cX7_toQuay 2 = .ok (.invokevirtual 89, 3) := by decide +kernel
theorem dX7_toQuay_5 : decode cX7_toQuay 5 = .ok (.astore_n 2, 1) := by decide +kernel
theorem dX7_toQuay_6 : decode cX7_toQuay 6 = .ok (.aload_n 0, 1) := by decide +kernel
theorem dX7_toQuay_7 : decode cX7_toQuay 7 = .ok (.getfield 26, 3) := by decide +kernel
theorem dX7_toQuay_10 : decode cX7_toQuay 10 = .ok (.aload_n 0, 1) := by decide +kernel
theorem dX7_toQuay_11 : decode cX7_toQuay 11 = .ok (.getfield 10, 3) := by decide +kernel
theorem dX7_toQuay_14 : decode cX7_toQuay 14 = .ok (.invokevirtual 45, 3) := by decide +kernel
theorem dX7_toQuay_17 : decode cX7_toQuay 17 = .ok (.aload_n 0, 1) := by decide +kernel
theorem dX7_toQuay_18 : decode cX7_toQuay 18 = .ok (.aload_n 0, 1) := by decide +kernel
theorem dX7_toQuay_19 : decode cX7_toQuay 19 = .ok (.getfield 10, 3) := by decide +kernel
theorem dX7_toQuay_22 : decode cX7_toQuay 22 = .ok (.aload_n 2, 1) := by decide +kernel
theorem dX7_toQuay_23 : decode cX7_toQuay 23 = .ok (.invokevirtual 180, 3) := by decide +kernel
theorem dX7_toQuay_26 : decode cX7_toQuay 26 = .ok (.invokevirtual 53, 3) := by decide +kernel
theorem dX7_toQuay_29 : decode cX7_toQuay 29 = .ok (.aload_n 0, 1) := by decide +kernel
theorem dX7_toQuay_30 : decode cX7_toQuay 30 = .ok (.getfield 10, 3) := by decide +kernel
theorem dX7_toQuay_33 : decode cX7_toQuay 33 = .ok (.iconst 1, 1) := by decide +kernel
theorem dX7_toQuay_34 : decode cX7_toQuay 34 = .ok (.invokevirtual 183, 3) := by decide +kernel
theorem dX7_toQuay_37 : decode cX7_toQuay 37 = .ok (.ireturn, 1) := by decide +kernel
theorem dX7_load_0 : decode cX7_load 0 = .ok (.aload_n 0, 1) := by decide +kernel
theorem dX7_load_1 : decode cX7_load 1 = .ok (.iload_n 1, 1) := by decide +kernel
theorem dX7_load_2 : decode cX7_load 2 = .ok (.invokevirtual 89, 3) := by decide +kernel
theorem dX7_load_5 : decode cX7_load 5 = .ok (.astore_n 2, 1) := by decide +kernel
theorem dX7_load_6 : decode cX7_load 6 = .ok (.aload_n 0, 1) := by decide +kernel
theorem dX7_load_7 : decode cX7_load 7 = .ok (.getfield 26, 3) := by decide +kernel
theorem dX7_load_10 : decode cX7_load 10 = .ok (.aload_n 0, 1) := by decide +kernel
theorem dX7_load_11 : decode cX7_load 11 = .ok (.getfield 10, 3) := by decide +kernel
theorem dX7_load_14 : decode cX7_load 14 = .ok (.invokevirtual 45, 3) := by decide +kernel
theorem dX7_load_17 : decode cX7_load 17 = .ok (.aload_n 0, 1) := by decide +kernel
theorem dX7_load_18 : decode cX7_load 18 = .ok (.aload_n 0, 1) := by decide +kernel
theorem dX7_load_19 : decode cX7_load 19 = .ok (.getfield 10, 3) := by decide +kernel
theorem dX7_load_22 : decode cX7_load 22 = .ok (.aload_n 2, 1) := by decide +kernel
theorem dX7_load_23 : decode cX7_load 23 = .ok (.invokevirtual 186, 3) := by decide +kernel
theorem dX7_load_26 : decode cX7_load 26 = .ok (.invokevirtual 53, 3) := by decide +kernel
theorem dX7_load_29 : decode cX7_load 29 = .ok (.aload_n 0, 1) := by decide +kernel
theorem dX7_load_30 : decode cX7_load 30 = .ok (.getfield 10, 3) := by decide +kernel
theorem dX7_load_33 : decode cX7_load 33 = .ok (.invokevirtual 189, 3) := by decide +kernel
theorem dX7_load_36 : decode cX7_load 36 = .ok (.ireturn, 1) := by decide +kernel
theorem dX7_sail_0 : decode cX7_sail 0 = .ok (.aload_n 0, 1) := by decide +kernel
theorem dX7_sail_1 : decode cX7_sail 1 = .ok (.getfield 10, 3) := by decide +kernel
theorem dX7_sail_4 : decode cX7_sail 4 = .ok (.invokevirtual 192, 3) := by decide +kernel
theorem dX7_sail_7 : decode cX7_sail 7 = .ok (.istore_n 1, 1) := by decide +kernel
theorem dX7_sail_8 : decode cX7_sail 8 = .ok (.aload_n 0, 1) := by decide +kernel
theorem dX7_sail_9 : decode cX7_sail 9 = .ok (.getfield 26, 3) := by decide +kernel
theorem dX7_sail_12 : decode cX7_sail 12 = .ok (.aload_n 0, 1) := by decide +kernel
theorem dX7_sail_13 : decode cX7_sail 13 = .ok (.getfield 10, 3) := by decide +kernel
theorem dX7_sail_16 : decode cX7_sail 16 = .ok (.invokevirtual 45, 3) := by decide +kernel
theorem dX7_sail_19 : decode cX7_sail 19 = .ok (.aload_n 0, 1) := by decide +kernel
theorem dX7_sail_20 : decode cX7_sail 20 = .ok (.aload_n 0, 1) := by decide +kernel
theorem dX7_sail_21 : decode cX7_sail 21 = .ok (.getfield 10, 3) := by decide +kernel
theorem dX7_sail_24 : decode cX7_sail 24 = .ok (.invokevirtual 195, 3) := by decide +kernel
theorem dX7_sail_27 : decode cX7_sail 27 = .ok (.invokevirtual 53, 3) := by decide +kernel
theorem dX7_sail_30 : decode cX7_sail 30 = .ok (.iload_n 1, 1) := by decide +kernel
theorem dX7_sail_31 : decode cX7_sail 31 = .ok (.ireturn, 1) := by decide +kernel
theorem dX7_cargo_0 : decode cX7_cargo 0 = .ok (.aload_n 0, 1) := by decide +kernel
theorem dX7_cargo_1 : decode cX7_cargo 1 = .ok (.getfield 10, 3) := by decide +kernel
theorem dX7_cargo_4 : decode cX7_cargo 4 = .ok (.invokevirtual 192, 3) := by decide +kernel
theorem dX7_cargo_7 : decode cX7_cargo 7 = .ok (.ireturn, 1) := by decide +kernel
theorem dX7_height_0 : decode cX7_height 0 = .ok (.iload_n 1, 1) := by decide +kernel
theorem dX7_height_1 : decode cX7_height 1 = .ok (.iconst 0, 1) := by decide +kernel
theorem dX7_height_2 : decode cX7_height 2 = .ok (.bipush 99, 2) := by decide +kernel
theorem dX7_height_4 : decode cX7_height 4 = .ok (.invokestatic 41, 3) := by decide +kernel
theorem dX7_height_7 : decode cX7_height 7 = .ok (.aload_n 0, 1) := by decide +kernel
theorem dX7_height_8 : decode cX7_height 8 = .ok (.getfield 10, 3) := by decide +kernel
theorem dX7_height_11 : decode cX7_height 11 = .ok (.iload_n 1, 1) := by decide +kernel
theorem dX7_height_12 : decode cX7_height 12 = .ok (.invokevirtual 198, 3) := by decide +kernel
theorem dX7_height_15 : decode cX7_height 15 = .ok (.ireturn, 1) := by decide +kernel
theorem dX7_heightAgain_0 : decode cX7_heightAgain 0 = .ok (.iload_n 1, 1) := by decide +kernel
theorem dX7_heightAgain_1 : decode cX7_heightAgain 1 = .ok (.iconst 0, 1) := by decide +kernel
theorem dX7_heightAgain_2 : decode cX7_heightAgain 2 = .ok (.bipush 99, 2) := by decide +kernel
theorem dX7_heightAgain_4 : decode cX7_heightAgain 4 = .ok (.invokestatic 41, 3) := by decide +kernel
theorem dX7_heightAgain_7 : decode cX7_heightAgain 7 = .ok (.aload_n 0, 1) := by decide +kernel
theorem dX7_heightAgain_8 : decode cX7_heightAgain 8 = .ok (.getfield 10, 3) := by decide +kernel
theorem dX7_heightAgain_11 : decode cX7_heightAgain 11 = .ok (.getfield 201, 3) := by decide +kernel
theorem dX7_heightAgain_14 : decode cX7_heightAgain 14 = .ok (.iload_n 1, 1) := by decide +kernel
theorem dX7_heightAgain_15 : decode cX7_heightAgain 15 = .ok (.iadd, 1) := by decide +kernel
theorem dX7_heightAgain_16 : decode cX7_heightAgain 16 = .ok (.istore_n 2, 1) := by decide +kernel
theorem dX7_heightAgain_17 : decode cX7_heightAgain 17 = .ok (.bipush 6, 2) := by decide +kernel
theorem dX7_heightAgain_19 : decode cX7_heightAgain 19 = .ok (.istore_n 3, 1) := by decide +kernel
theorem dX7_heightAgain_20 : decode cX7_heightAgain 20 = .ok (.iconst (-1), 1) := by decide +kernel
theorem dX7_heightAgain_21 : decode cX7_heightAgain 21 = .ok (.istore 4, 2) := by decide +kernel
theorem dX7_heightAgain_23 : decode cX7_heightAgain 23 = .ok (.iconst 0, 1) := by decide +kernel
theorem dX7_heightAgain_24 : decode cX7_heightAgain 24 = .ok (.istore 5, 2) := by decide +kernel
theorem dX7_heightAgain_26 : decode cX7_heightAgain 26 = .ok (.iload 5, 2) := by decide +kernel
theorem dX7_heightAgain_28 : decode cX7_heightAgain 28 = .ok (.iload_n 2, 1) := by decide +kernel
theorem dX7_heightAgain_29 : decode cX7_heightAgain 29 = .ok (.if_icmp .ge 33, 3) := by decide +kernel
theorem dX7_heightAgain_32 : decode cX7_heightAgain 32 = .ok (.iload_n 3, 1) := by decide +kernel
theorem dX7_heightAgain_33 : decode cX7_heightAgain 33 = .ok (.ifCond .ne 9, 3) := by decide +kernel
theorem dX7_heightAgain_36 : decode cX7_heightAgain 36 = .ok (.iconst 1, 1) := by decide +kernel
theorem dX7_heightAgain_37 : decode cX7_heightAgain 37 = .ok (.istore 4, 2) := by decide +kernel
theorem dX7_heightAgain_39 : decode cX7_heightAgain 39 = .ok (.goto 12, 3) := by decide +kernel
theorem dX7_heightAgain_42 : decode cX7_heightAgain 42 = .ok (.iload_n 3, 1) := by decide +kernel
theorem dX7_heightAgain_43 : decode cX7_heightAgain 43 = .ok (.bipush 6, 2) := by decide +kernel
theorem dX7_heightAgain_45 : decode cX7_heightAgain 45 = .ok (.if_icmp .ne 6, 3) := by decide +kernel
theorem dX7_heightAgain_48 : decode cX7_heightAgain 48 = .ok (.iconst (-1), 1) := by decide +kernel
theorem dX7_heightAgain_49 : decode cX7_heightAgain 49 = .ok (.istore 4, 2) := by decide +kernel
theorem dX7_heightAgain_51 : decode cX7_heightAgain 51 = .ok (.iload_n 3, 1) := by decide +kernel
theorem dX7_heightAgain_52 : decode cX7_heightAgain 52 = .ok (.iload 4, 2) := by decide +kernel
theorem dX7_heightAgain_54 : decode cX7_heightAgain 54 = .ok (.iadd, 1) := by decide +kernel
theorem dX7_heightAgain_55 : decode cX7_heightAgain 55 = .ok (.istore_n 3, 1) := by decide +kernel
theorem dX7_heightAgain_56 : decode cX7_heightAgain 56 = .ok (.iinc 5 1, 3) := by decide +kernel
theorem dX7_heightAgain_59 : decode cX7_heightAgain 59 = .ok (.goto (-33), 3) := by decide +kernel
theorem dX7_heightAgain_62 : decode cX7_heightAgain 62 = .ok (.iload_n 3, 1) := by decide +kernel
theorem dX7_heightAgain_63 : decode cX7_heightAgain 63 = .ok (.ireturn, 1) := by decide +kernel
theorem dX7_reachedIn_0 : decode cX7_reachedIn 0 = .ok (.iconst 0, 1) := by decide +kernel
theorem dX7_reachedIn_1 : decode cX7_reachedIn 1 = .ok (.istore_n 1, 1) := by decide +kernel
theorem dX7_reachedIn_2 : decode cX7_reachedIn 2 = .ok (.iload_n 1, 1) := by decide +kernel
theorem dX7_reachedIn_3 : decode cX7_reachedIn 3 = .ok (.bipush 12, 2) := by decide +kernel
theorem dX7_reachedIn_5 : decode cX7_reachedIn 5 = .ok (.if_icmp .ge 21, 3) := by decide +kernel
theorem dX7_reachedIn_8 : decode cX7_reachedIn 8 = .ok (.aload_n 0, 1) := by decide +kernel
theorem dX7_reachedIn_9 : decode cX7_reachedIn 9 = .ok (.getfield 10, 3) := by decide +kernel
theorem dX7_reachedIn_12 : decode cX7_reachedIn 12 = .ok (.iload_n 1, 1) := by decide +kernel
theorem dX7_reachedIn_13 : decode cX7_reachedIn 13 = .ok (.invokevirtual 198, 3) := by decide +kernel
theorem dX7_reachedIn_16 : decode cX7_reachedIn 16 = .ok (.iconst 3, 1) := by decide +kernel
theorem dX7_reachedIn_17 : decode cX7_reachedIn 17 = .ok (.if_icmp .ge 9, 3) := by decide +kernel
theorem dX7_reachedIn_20 : decode cX7_reachedIn 20 = .ok (.iinc 1 1, 3) := by decide +kernel
theorem dX7_reachedIn_23 : decode cX7_reachedIn 23 = .ok (.goto (-21), 3) := by decide +kernel
theorem dX7_reachedIn_26 : decode cX7_reachedIn 26 = .ok (.iload_n 1, 1) := by decide +kernel
theorem dX7_reachedIn_27 : decode cX7_reachedIn 27 = .ok (.ireturn, 1) := by decide +kernel
theorem dX7_setHumidity_0 : decode cX7_setHumidity 0 = .ok (.iload_n 1, 1) := by decide +kernel
theorem dX7_setHumidity_1 : decode cX7_setHumidity 1 = .ok (.iconst 0, 1) := by decide +kernel
theorem dX7_setHumidity_2 : decode cX7_setHumidity 2 = .ok (.bipush 9, 2) := by decide +kernel
theorem dX7_setHumidity_4 : decode cX7_setHumidity 4 = .ok (.invokestatic 41, 3) := by decide +kernel
theorem dX7_setHumidity_7 : decode cX7_setHumidity 7 = .ok (.aload_n 0, 1) := by decide +kernel
theorem dX7_setHumidity_8 : decode cX7_setHumidity 8 = .ok (.getfield 10, 3) := by decide +kernel
theorem dX7_setHumidity_11 : decode cX7_setHumidity 11 = .ok (.getfield 204, 3) := by decide +kernel
theorem dX7_setHumidity_14 : decode cX7_setHumidity 14 = .ok (.istore_n 2, 1) := by decide +kernel
theorem dX7_setHumidity_15 : decode cX7_setHumidity 15 = .ok (.aload_n 0, 1) := by decide +kernel
theorem dX7_setHumidity_16 : decode cX7_setHumidity 16 = .ok (.invokevirtual 65, 3) := by decide +kernel
theorem dX7_setHumidity_19 : decode cX7_setHumidity 19 = .ok (.aload_n 0, 1) := by decide +kernel
theorem dX7_setHumidity_20 : decode cX7_setHumidity 20 = .ok (.getfield 10, 3) := by decide +kernel
theorem dX7_setHumidity_23 : decode cX7_setHumidity 23 = .ok (.iload_n 1, 1) := by decide +kernel
theorem dX7_setHumidity_24 : decode cX7_setHumidity 24 = .ok (.putfield 204, 3) := by decide +kernel
theorem dX7_setHumidity_27 : decode cX7_setHumidity 27 = .ok (.iload_n 2, 1) := by decide +kernel
theorem dX7_setHumidity_28 : decode cX7_setHumidity 28 = .ok (.ireturn, 1) := by decide +kernel
theorem dX7_pass_0 : decode cX7_pass 0 = .ok (.iload_n 1, 1) := by decide +kernel
theorem dX7_pass_1 : decode cX7_pass 1 = .ok (.iconst 1, 1) := by decide +kernel
theorem dX7_pass_2 : decode cX7_pass 2 = .ok (.bipush 72, 2) := by decide +kernel
theorem dX7_pass_4 : decode cX7_pass 4 = .ok (.invokestatic 41, 3) := by decide +kernel
theorem dX7_pass_7 : decode cX7_pass 7 = .ok (.aload_n 0, 1) := by decide +kernel
theorem dX7_pass_8 : decode cX7_pass 8 = .ok (.invokevirtual 65, 3) := by decide +kernel
theorem dX7_pass_11 : decode cX7_pass 11 = .ok (.aload_n 0, 1) := by decide +kernel
theorem dX7_pass_12 : decode cX7_pass 12 = .ok (.getfield 10, 3) := by decide +kernel
theorem dX7_pass_15 : decode cX7_pass 15 = .ok (.iload_n 1, 1) := by decide +kernel
theorem dX7_pass_16 : decode cX7_pass 16 = .ok (.invokevirtual 207, 3) := by decide +kernel
theorem dX7_pass_19 : decode cX7_pass 19 = .ok (.pop, 1) := by decide +kernel
theorem dX7_pass_20 : decode cX7_pass 20 = .ok (.aload_n 0, 1) := by decide +kernel
theorem dX7_pass_21 : decode cX7_pass 21 = .ok (.getfield 10, 3) := by decide +kernel
theorem dX7_pass_24 : decode cX7_pass 24 = .ok (.iconst 0, 1) := by decide +kernel
theorem dX7_pass_25 : decode cX7_pass 25 = .ok (.invokevirtual 198, 3) := by decide +kernel
theorem dX7_pass_28 : decode cX7_pass 28 = .ok (.ireturn, 1) := by decide +kernel
theorem dX7_isWell_0 : decode cX7_isWell 0 = .ok (.aload_n 0, 1) := by decide +kernel
theorem dX7_isWell_1 : decode cX7_isWell 1 = .ok (.getfield 10, 3) := by decide +kernel
theorem dX7_isWell_4 : decode cX7_isWell 4 = .ok (.invokevirtual 210, 3) := by decide +kernel
theorem dX7_isWell_7 : decode cX7_isWell 7 = .ok (.aload_n 0, 1) := by decide +kernel
theorem dX7_isWell_8 : decode cX7_isWell 8 = .ok (.getfield 10, 3) := by decide +kernel
theorem dX7_isWell_11 : decode cX7_isWell 11 = .ok (.invokevirtual 213, 3) := by decide +kernel
theorem dX7_isWell_14 : decode cX7_isWell 14 = .ok (.iadd, 1) := by decide +kernel
theorem dX7_isWell_15 : decode cX7_isWell 15 = .ok (.aload_n 0, 1) := by decide +kernel
theorem dX7_isWell_16 : decode cX7_isWell 16 = .ok (.getfield 10, 3) := by decide +kernel
theorem dX7_isWell_19 : decode cX7_isWell 19 = .ok (.getfield 216, 3) := by decide +kernel
theorem dX7_isWell_22 : decode cX7_isWell 22 = .ok (.iadd, 1) := by decide +kernel
theorem dX7_isWell_23 : decode cX7_isWell 23 = .ok (.aload_n 0, 1) := by decide +kernel
theorem dX7_isWell_24 : decode cX7_isWell 24 = .ok (.getfield 10, 3) := by decide +kernel
theorem dX7_isWell_27 : decode cX7_isWell 27 = .ok (.getfield 219, 3) := by decide +kernel
theorem dX7_isWell_30 : decode cX7_isWell 30 = .ok (.iadd, 1) := by decide +kernel
theorem dX7_isWell_31 : decode cX7_isWell 31 = .ok (.istore_n 1, 1) := by decide +kernel
theorem dX7_isWell_32 : decode cX7_isWell 32 = .ok (.iload_n 1, 1) := by decide +kernel
theorem dX7_isWell_33 : decode cX7_isWell 33 = .ok (.aload_n 0, 1) := by decide +kernel
theorem dX7_isWell_34 : decode cX7_isWell 34 = .ok (.getfield 10, 3) := by decide +kernel
theorem dX7_isWell_37 : decode cX7_isWell 37 = .ok (.getfield 222, 3) := by decide +kernel
theorem dX7_isWell_40 : decode cX7_isWell 40 = .ok (.if_icmp .ne 17, 3) := by decide +kernel
theorem dX7_isWell_43 : decode cX7_isWell 43 = .ok (.aload_n 0, 1) := by decide +kernel
theorem dX7_isWell_44 : decode cX7_isWell 44 = .ok (.getfield 10, 3) := by decide +kernel
theorem dX7_isWell_47 : decode cX7_isWell 47 = .ok (.invokevirtual 225, 3) := by decide +kernel
theorem dX7_isWell_50 : decode cX7_isWell 50 = .ok (.ifCond .eq 7, 3) := by decide +kernel
theorem dX7_isWell_53 : decode cX7_isWell 53 = .ok (.iconst 1, 1) := by decide +kernel
theorem dX7_isWell_54 : decode cX7_isWell 54 = .ok (.goto 4, 3) := by decide +kernel
theorem dX7_isWell_57 : decode cX7_isWell 57 = .ok (.iconst 0, 1) := by decide +kernel
theorem dX7_isWell_58 : decode cX7_isWell 58 = .ok (.ireturn, 1) := by decide +kernel
theorem dX7_meanDamp_0 : decode cX7_meanDamp 0 = .ok (.aload_n 0, 1) := by decide +kernel
theorem dX7_meanDamp_1 : decode cX7_meanDamp 1 = .ok (.getfield 10, 3) := by decide +kernel
theorem dX7_meanDamp_4 : decode cX7_meanDamp 4 = .ok (.invokevirtual 228, 3) := by decide +kernel
theorem dX7_meanDamp_7 : decode cX7_meanDamp 7 = .ok (.istore_n 1, 1) := by decide +kernel
theorem dX7_meanDamp_8 : decode cX7_meanDamp 8 = .ok (.iload_n 1, 1) := by decide +kernel
theorem dX7_meanDamp_9 : decode cX7_meanDamp 9 = .ok (.ifCond .ne 13, 3) := by decide +kernel
theorem dX7_meanDamp_12 : decode cX7_meanDamp 12 = .ok (.new 231, 3) := by decide +kernel
theorem dX7_meanDamp_15 : decode cX7_meanDamp 15 = .ok (.dup, 1) := by decide +kernel
theorem dX7_meanDamp_16 : decode cX7_meanDamp 16 = .ok (.ldc 233, 2) := by decide +kernel
theorem dX7_meanDamp_18 : decode cX7_meanDamp 18 = .ok (.invokespecial 235, 3) := by decide +kernel
theorem dX7_meanDamp_21 : decode cX7_meanDamp 21 = .ok (.athrow, 1) := by decide +kernel
theorem dX7_meanDamp_22 : decode cX7_meanDamp 22 = .ok (.aload_n 0, 1) := by decide +kernel
theorem dX7_meanDamp_23 : decode cX7_meanDamp 23 = .ok (.getfield 10, 3) := by decide +kernel
theorem dX7_meanDamp_26 : decode cX7_meanDamp 26 = .ok (.invokevirtual 236, 3) := by decide +kernel
theorem dX7_meanDamp_29 : decode cX7_meanDamp 29 = .ok (.i2d, 1) := by decide +kernel
theorem dX7_meanDamp_30 : decode cX7_meanDamp 30 = .ok (.iload_n 1, 1) := by decide +kernel
theorem dX7_meanDamp_31 : decode cX7_meanDamp 31 = .ok (.i2d, 1) := by decide +kernel
theorem dX7_meanDamp_32 : decode cX7_meanDamp 32 = .ok (.ddiv, 1) := by decide +kernel
theorem dX7_meanDamp_33 : decode cX7_meanDamp 33 = .ok (.dreturn, 1) := by decide +kernel
theorem dX7_sailedShare_0 : decode cX7_sailedShare 0 = .ok (.aload_n 0, 1) := by decide +kernel
theorem dX7_sailedShare_1 : decode cX7_sailedShare 1 = .ok (.getfield 10, 3) := by decide +kernel
theorem dX7_sailedShare_4 : decode cX7_sailedShare 4 = .ok (.getfield 222, 3) := by decide +kernel
theorem dX7_sailedShare_7 : decode cX7_sailedShare 7 = .ok (.ifCond .ne 13, 3) := by decide +kernel
theorem dX7_sailedShare_10 : decode cX7_sailedShare 10 = .ok (.new 231, 3) := by decide +kernel
theorem dX7_sailedShare_13 : decode cX7_sailedShare 13 = .ok (.dup, 1) := by decide +kernel
theorem dX7_sailedShare_14 : decode cX7_sailedShare 14 = .ok (.ldc 239, 2) := by decide +kernel
theorem dX7_sailedShare_16 : decode cX7_sailedShare 16 = .ok (.invokespecial 235, 3) := by decide +kernel
theorem dX7_sailedShare_19 : decode cX7_sailedShare 19 = .ok (.athrow, 1) := by decide +kernel
theorem dX7_sailedShare_20 : decode cX7_sailedShare 20 = .ok (.aload_n 0, 1) := by decide +kernel
theorem dX7_sailedShare_21 : decode cX7_sailedShare 21 = .ok (.getfield 10, 3) := by decide +kernel
theorem dX7_sailedShare_24 : decode cX7_sailedShare 24 = .ok (.getfield 216, 3) := by decide +kernel
theorem dX7_sailedShare_27 : decode cX7_sailedShare 27 = .ok (.i2f, 1) := by decide +kernel
theorem dX7_sailedShare_28 : decode cX7_sailedShare 28 = .ok (.aload_n 0, 1) := by decide +kernel
theorem dX7_sailedShare_29 : decode cX7_sailedShare 29 = .ok (.getfield 10, 3) := by decide +kernel
theorem dX7_sailedShare_32 : decode cX7_sailedShare 32 = .ok (.getfield 222, 3) := by decide +kernel
theorem dX7_sailedShare_35 : decode cX7_sailedShare 35 = .ok (.i2f, 1) := by decide +kernel
theorem dX7_sailedShare_36 : decode cX7_sailedShare 36 = .ok (.fdiv, 1) := by decide +kernel
theorem dX7_sailedShare_37 : decode cX7_sailedShare 37 = .ok (.freturn, 1) := by decide +kernel
theorem dX7_reason_0 : decode cX7_reason 0 = .ok (.aload_n 0, 1) := by decide +kernel
theorem dX7_reason_1 : decode cX7_reason 1 = .ok (.getfield 10, 3) := by decide +kernel
theorem dX7_reason_4 : decode cX7_reason 4 = .ok (.getfield 241, 3) := by decide +kernel
theorem dX7_reason_7 : decode cX7_reason 7 = .ok (.ifCond .ne 13, 3) := by decide +kernel
theorem dX7_reason_10 : decode cX7_reason 10 = .ok (.new 137, 3) := by decide +kernel
theorem dX7_reason_13 : decode cX7_reason 13 = .ok (.dup, 1) := by decide +kernel
theorem dX7_reason_14 : decode cX7_reason 14 = .ok (.ldc 244, 2) := by decide +kernel
theorem dX7_reason_16 : decode cX7_reason 16 = .ok (.invokespecial 141, 3) := by decide +kernel
theorem dX7_reason_19 : decode cX7_reason 19 = .ok (.athrow, 1) := by decide +kernel
theorem dX7_reason_20 : decode cX7_reason 20 = .ok (.iload_n 1, 1) := by decide +kernel
theorem dX7_reason_21 : decode cX7_reason 21 = .ok (.ifCond .eq 13, 3) := by decide +kernel
theorem dX7_reason_24 : decode cX7_reason 24 = .ok (.aload_n 0, 1) := by decide +kernel
theorem dX7_reason_25 : decode cX7_reason 25 = .ok (.getfield 10, 3) := by decide +kernel
theorem dX7_reason_28 : decode cX7_reason 28 = .ok (.getfield 246, 3) := by decide +kernel
theorem dX7_reason_31 : decode cX7_reason 31 = .ok (.goto 10, 3) := by decide +kernel
theorem dX7_reason_34 : decode cX7_reason 34 = .ok (.aload_n 0, 1) := by decide +kernel
theorem dX7_reason_35 : decode cX7_reason 35 = .ok (.getfield 10, 3) := by decide +kernel
theorem dX7_reason_38 : decode cX7_reason 38 = .ok (.getfield 241, 3) := by decide +kernel
theorem dX7_reason_41 : decode cX7_reason 41 = .ok (.ireturn, 1) := by decide +kernel
theorem dX7_account_0 : decode cX7_account 0 = .ok (.iload_n 1, 1) := by decide +kernel
theorem dX7_account_1 : decode cX7_account 1 = .ok (.tableswitch 234 0 17 #[87, 95, 103, 111, 119, 127, 135, 143, 151, 159, 168, 177, 186, 194, 202, 210, 218, 226], 87) := by decide +kernel
theorem dX7_account_88 : decode cX7_account 88 = .ok (.aload_n 0, 1) := by decide +kernel
theorem dX7_account_89 : decode cX7_account 89 = .ok (.getfield 10, 3) := by decide +kernel
theorem dX7_account_92 : decode cX7_account 92 = .ok (.getfield 201, 3) := by decide +kernel
theorem dX7_account_95 : decode cX7_account 95 = .ok (.ireturn, 1) := by decide +kernel
theorem dX7_account_96 : decode cX7_account 96 = .ok (.aload_n 0, 1) := by decide +kernel
theorem dX7_account_97 : decode cX7_account 97 = .ok (.getfield 10, 3) := by decide +kernel
theorem dX7_account_100 : decode cX7_account 100 = .ok (.invokevirtual 210, 3) := by decide +kernel
theorem dX7_account_103 : decode cX7_account 103 = .ok (.ireturn, 1) := by decide +kernel
theorem dX7_account_104 : decode cX7_account 104 = .ok (.aload_n 0, 1) := by decide +kernel
theorem dX7_account_105 : decode cX7_account 105 = .ok (.getfield 10, 3) := by decide +kernel
theorem dX7_account_108 : decode cX7_account 108 = .ok (.invokevirtual 213, 3) := by decide +kernel
theorem dX7_account_111 : decode cX7_account 111 = .ok (.ireturn, 1) := by decide +kernel
theorem dX7_account_112 : decode cX7_account 112 = .ok (.aload_n 0, 1) := by decide +kernel
theorem dX7_account_113 : decode cX7_account 113 = .ok (.getfield 10, 3) := by decide +kernel
theorem dX7_account_116 : decode cX7_account 116 = .ok (.getfield 216, 3) := by decide +kernel
theorem dX7_account_119 : decode cX7_account 119 = .ok (.ireturn, 1) := by decide +kernel
theorem dX7_account_120 : decode cX7_account 120 = .ok (.aload_n 0, 1) := by decide +kernel
theorem dX7_account_121 : decode cX7_account 121 = .ok (.getfield 10, 3) := by decide +kernel
theorem dX7_account_124 : decode cX7_account 124 = .ok (.getfield 219, 3) := by decide +kernel
theorem dX7_account_127 : decode cX7_account 127 = .ok (.ireturn, 1) := by decide +kernel
theorem dX7_account_128 : decode cX7_account 128 = .ok (.aload_n 0, 1) := by decide +kernel
theorem dX7_account_129 : decode cX7_account 129 = .ok (.getfield 10, 3) := by decide +kernel
theorem dX7_account_132 : decode cX7_account 132 = .ok (.getfield 222, 3) := by decide +kernel
theorem dX7_account_135 : decode cX7_account 135 = .ok (.ireturn, 1) := by decide +kernel
theorem dX7_account_136 : decode cX7_account 136 = .ok (.aload_n 0, 1) := by decide +kernel
theorem dX7_account_137 : decode cX7_account 137 = .ok (.getfield 10, 3) := by decide +kernel
theorem dX7_account_140 : decode cX7_account 140 = .ok (.getfield 79, 3) := by decide +kernel
theorem dX7_account_143 : decode cX7_account 143 = .ok (.ireturn, 1) := by decide +kernel
theorem dX7_account_144 : decode cX7_account 144 = .ok (.aload_n 0, 1) := by decide +kernel
theorem dX7_account_145 : decode cX7_account 145 = .ok (.getfield 10, 3) := by decide +kernel
theorem dX7_account_148 : decode cX7_account 148 = .ok (.getfield 72, 3) := by decide +kernel
theorem dX7_account_151 : decode cX7_account 151 = .ok (.ireturn, 1) := by decide +kernel
theorem dX7_account_152 : decode cX7_account 152 = .ok (.aload_n 0, 1) := by decide +kernel
theorem dX7_account_153 : decode cX7_account 153 = .ok (.getfield 10, 3) := by decide +kernel
theorem dX7_account_156 : decode cX7_account 156 = .ok (.getfield 86, 3) := by decide +kernel
theorem dX7_account_159 : decode cX7_account 159 = .ok (.ireturn, 1) := by decide +kernel
theorem dX7_account_160 : decode cX7_account 160 = .ok (.aload_n 0, 1) := by decide +kernel
theorem dX7_account_161 : decode cX7_account 161 = .ok (.getfield 10, 3) := by decide +kernel
theorem dX7_account_164 : decode cX7_account 164 = .ok (.iconst 0, 1) := by decide +kernel
theorem dX7_account_165 : decode cX7_account 165 = .ok (.invokevirtual 183, 3) := by decide +kernel
theorem dX7_account_168 : decode cX7_account 168 = .ok (.ireturn, 1) := by decide +kernel
theorem dX7_account_169 : decode cX7_account 169 = .ok (.aload_n 0, 1) := by decide +kernel
theorem dX7_account_170 : decode cX7_account 170 = .ok (.getfield 10, 3) := by decide +kernel
theorem dX7_account_173 : decode cX7_account 173 = .ok (.iconst 1, 1) := by decide +kernel
theorem dX7_account_174 : decode cX7_account 174 = .ok (.invokevirtual 183, 3) := by decide +kernel
theorem dX7_account_177 : decode cX7_account 177 = .ok (.ireturn, 1) := by decide +kernel
theorem dX7_account_178 : decode cX7_account 178 = .ok (.aload_n 0, 1) := by decide +kernel
theorem dX7_account_179 : decode cX7_account 179 = .ok (.getfield 10, 3) := by decide +kernel
theorem dX7_account_182 : decode cX7_account 182 = .ok (.iconst 2, 1) := by decide +kernel
theorem dX7_account_183 : decode cX7_account 183 = .ok (.invokevirtual 183, 3) := by decide +kernel
theorem dX7_account_186 : decode cX7_account 186 = .ok (.ireturn, 1) := by decide +kernel
theorem dX7_account_187 : decode cX7_account 187 = .ok (.aload_n 0, 1) := by decide +kernel
theorem dX7_account_188 : decode cX7_account 188 = .ok (.getfield 10, 3) := by decide +kernel
theorem dX7_account_191 : decode cX7_account 191 = .ok (.invokevirtual 189, 3) := by decide +kernel
theorem dX7_account_194 : decode cX7_account 194 = .ok (.ireturn, 1) := by decide +kernel
theorem dX7_account_195 : decode cX7_account 195 = .ok (.aload_n 0, 1) := by decide +kernel
theorem dX7_account_196 : decode cX7_account 196 = .ok (.getfield 10, 3) := by decide +kernel
theorem dX7_account_199 : decode cX7_account 199 = .ok (.getfield 249, 3) := by decide +kernel
theorem dX7_account_202 : decode cX7_account 202 = .ok (.ireturn, 1) := by decide +kernel
theorem dX7_account_203 : decode cX7_account 203 = .ok (.aload_n 0, 1) := by decide +kernel
theorem dX7_account_204 : decode cX7_account 204 = .ok (.getfield 10, 3) := by decide +kernel
theorem dX7_account_207 : decode cX7_account 207 = .ok (.getfield 252, 3) := by decide +kernel
theorem dX7_account_210 : decode cX7_account 210 = .ok (.ireturn, 1) := by decide +kernel
theorem dX7_account_211 : decode cX7_account 211 = .ok (.aload_n 0, 1) := by decide +kernel
theorem dX7_account_212 : decode cX7_account 212 = .ok (.getfield 10, 3) := by decide +kernel
theorem dX7_account_215 : decode cX7_account 215 = .ok (.getfield 204, 3) := by decide +kernel
theorem dX7_account_218 : decode cX7_account 218 = .ok (.ireturn, 1) := by decide +kernel
theorem dX7_account_219 : decode cX7_account 219 = .ok (.aload_n 0, 1) := by decide +kernel
theorem dX7_account_220 : decode cX7_account 220 = .ok (.getfield 33, 3) := by decide +kernel
theorem dX7_account_223 : decode cX7_account 223 = .ok (.getfield 254, 3) := by decide +kernel
theorem dX7_account_226 : decode cX7_account 226 = .ok (.ireturn, 1) := by decide +kernel
theorem dX7_account_227 : decode cX7_account 227 = .ok (.aload_n 0, 1) := by decide +kernel
theorem dX7_account_228 : decode cX7_account 228 = .ok (.getfield 26, 3) := by decide +kernel
theorem dX7_account_231 : decode cX7_account 231 = .ok (.getfield 256, 3) := by decide +kernel
theorem dX7_account_234 : decode cX7_account 234 = .ok (.ireturn, 1) := by decide +kernel
theorem dX7_account_235 : decode cX7_account 235 = .ok (.new 166, 3) := by decide +kernel
theorem dX7_account_238 : decode cX7_account 238 = .ok (.dup, 1) := by decide +kernel
theorem dX7_account_239 : decode cX7_account 239 = .ok (.ldc_w 259, 3) := by decide +kernel
theorem dX7_account_242 : decode cX7_account 242 = .ok (.invokespecial 170, 3) := by decide +kernel
theorem dX7_account_245 : decode cX7_account 245 = .ok (.athrow, 1) := by decide +kernel
theorem dX7_feed_0 : decode cX7_feed 0 = .ok (.aload_n 0, 1) := by decide +kernel
theorem dX7_feed_1 : decode cX7_feed 1 = .ok (.getfield 33, 3) := by decide +kernel
theorem dX7_feed_4 : decode cX7_feed 4 = .ok (.iload_n 1, 1) := by decide +kernel
theorem dX7_feed_5 : decode cX7_feed 5 = .ok (.invokevirtual 261, 3) := by decide +kernel
theorem dX7_feed_8 : decode cX7_feed 8 = .ok (.ifCond .ne 14, 3) := by decide +kernel
theorem dX7_feed_11 : decode cX7_feed 11 = .ok (.new 265, 3) := by decide +kernel
theorem dX7_feed_14 : decode cX7_feed 14 = .ok (.dup, 1) := by decide +kernel
theorem dX7_feed_15 : decode cX7_feed 15 = .ok (.ldc_w 267, 3) := by decide +kernel
theorem dX7_feed_18 : decode cX7_feed 18 = .ok (.invokespecial 269, 3) := by decide +kernel
theorem dX7_feed_21 : decode cX7_feed 21 = .ok (.athrow, 1) := by decide +kernel
theorem dX7_feed_22 : decode cX7_feed 22 = .ok (.aload_n 0, 1) := by decide +kernel
theorem dX7_feed_23 : decode cX7_feed 23 = .ok (.getfield 33, 3) := by decide +kernel
theorem dX7_feed_26 : decode cX7_feed 26 = .ok (.getfield 254, 3) := by decide +kernel
theorem dX7_feed_29 : decode cX7_feed 29 = .ok (.ireturn, 1) := by decide +kernel
theorem dX7_perform_0 : decode cX7_perform 0 = .ok (.aload_n 0, 1) := by decide +kernel
theorem dX7_perform_1 : decode cX7_perform 1 = .ok (.getfield 33, 3) := by decide +kernel
theorem dX7_perform_4 : decode cX7_perform 4 = .ok (.invokevirtual 270, 3) := by decide +kernel
theorem dX7_perform_7 : decode cX7_perform 7 = .ok (.istore_n 1, 1) := by decide +kernel
theorem dX7_perform_8 : decode cX7_perform 8 = .ok (.iload_n 1, 1) := by decide +kernel
theorem dX7_perform_9 : decode cX7_perform 9 = .ok (.ifCond .ge 12, 3) := by decide +kernel
theorem dX7_perform_12 : decode cX7_perform 12 = .ok (.aload_n 0, 1) := by decide +kernel
theorem dX7_perform_13 : decode cX7_perform 13 = .ok (.getfield 33, 3) := by decide +kernel
theorem dX7_perform_16 : decode cX7_perform 16 = .ok (.invokevirtual 273, 3) := by decide +kernel
theorem dX7_perform_19 : decode cX7_perform 19 = .ok (.iload_n 1, 1) := by decide +kernel
theorem dX7_perform_20 : decode cX7_perform 20 = .ok (.ireturn, 1) := by decide +kernel
theorem dX7_perform_21 : decode cX7_perform 21 = .ok (.aload_n 0, 1) := by decide +kernel
theorem dX7_perform_22 : decode cX7_perform 22 = .ok (.getfield 26, 3) := by decide +kernel
theorem dX7_perform_25 : decode cX7_perform 25 = .ok (.aload_n 0, 1) := by decide +kernel
theorem dX7_perform_26 : decode cX7_perform 26 = .ok (.getfield 10, 3) := by decide +kernel
theorem dX7_perform_29 : decode cX7_perform 29 = .ok (.invokevirtual 45, 3) := by decide +kernel
theorem dX7_perform_32 : decode cX7_perform 32 = .ok (.aload_n 0, 1) := by decide +kernel
theorem dX7_perform_33 : decode cX7_perform 33 = .ok (.iload_n 1, 1) := by decide +kernel
theorem dX7_perform_34 : decode cX7_perform 34 = .ok (.invokevirtual 276, 3) := by decide +kernel
theorem dX7_perform_37 : decode cX7_perform 37 = .ok (.istore_n 2, 1) := by decide +kernel
theorem dX7_perform_38 : decode cX7_perform 38 = .ok (.aload_n 0, 1) := by decide +kernel
theorem dX7_perform_39 : decode cX7_perform 39 = .ok (.getfield 33, 3) := by decide +kernel
theorem dX7_perform_42 : decode cX7_perform 42 = .ok (.invokevirtual 273, 3) := by decide +kernel
theorem dX7_perform_45 : decode cX7_perform 45 = .ok (.iload_n 2, 1) := by decide +kernel
theorem dX7_perform_46 : decode cX7_perform 46 = .ok (.iload_n 1, 1) := by decide +kernel
theorem dX7_perform_47 : decode cX7_perform 47 = .ok (.if_icmp .ge 25, 3) := by decide +kernel
theorem dX7_perform_50 : decode cX7_perform 50 = .ok (.aload_n 0, 1) := by decide +kernel
theorem dX7_perform_51 : decode cX7_perform 51 = .ok (.getfield 26, 3) := by decide +kernel
theorem dX7_perform_54 : decode cX7_perform 54 = .ok (.aload_n 0, 1) := by decide +kernel
theorem dX7_perform_55 : decode cX7_perform 55 = .ok (.getfield 10, 3) := by decide +kernel
theorem dX7_perform_58 : decode cX7_perform 58 = .ok (.invokevirtual 279, 3) := by decide +kernel
theorem dX7_perform_61 : decode cX7_perform 61 = .ok (.aload_n 0, 1) := by decide +kernel
theorem dX7_perform_62 : decode cX7_perform 62 = .ok (.getfield 10, 3) := by decide +kernel
theorem dX7_perform_65 : decode cX7_perform 65 = .ok (.bipush 19, 2) := by decide +kernel
theorem dX7_perform_67 : decode cX7_perform 67 = .ok (.iload_n 2, 1) := by decide +kernel
theorem dX7_perform_68 : decode cX7_perform 68 = .ok (.invokevirtual 282, 3) := by decide +kernel
theorem dX7_perform_71 : decode cX7_perform 71 = .ok (.pop, 1) := by decide +kernel
theorem dX7_perform_72 : decode cX7_perform 72 = .ok (.aload_n 0, 1) := by decide +kernel
theorem dX7_perform_73 : decode cX7_perform 73 = .ok (.iload_n 2, 1) := by decide +kernel
theorem dX7_perform_74 : decode cX7_perform 74 = .ok (.iload_n 1, 1) := by decide +kernel
theorem dX7_perform_75 : decode cX7_perform 75 = .ok (.if_icmp .ne 7, 3) := by decide +kernel
theorem dX7_perform_78 : decode cX7_perform 78 = .ok (.iconst 1, 1) := by decide +kernel
theorem dX7_perform_79 : decode cX7_perform 79 = .ok (.goto 4, 3) := by decide +kernel
theorem dX7_perform_82 : decode cX7_perform 82 = .ok (.iconst 0, 1) := by decide +kernel
theorem dX7_perform_83 : decode cX7_perform 83 = .ok (.invokevirtual 53, 3) := by decide +kernel
theorem dX7_perform_86 : decode cX7_perform 86 = .ok (.iload_n 1, 1) := by decide +kernel
theorem dX7_perform_87 : decode cX7_perform 87 = .ok (.ireturn, 1) := by decide +kernel
theorem dX7_undo_0 : decode cX7_undo 0 = .ok (.aload_n 0, 1) := by decide +kernel
theorem dX7_undo_1 : decode cX7_undo 1 = .ok (.getfield 26, 3) := by decide +kernel
theorem dX7_undo_4 : decode cX7_undo 4 = .ok (.aload_n 0, 1) := by decide +kernel
theorem dX7_undo_5 : decode cX7_undo 5 = .ok (.getfield 10, 3) := by decide +kernel
theorem dX7_undo_8 : decode cX7_undo 8 = .ok (.invokevirtual 285, 3) := by decide +kernel
theorem dX7_undo_11 : decode cX7_undo 11 = .ok (.ifCond .ne 14, 3) := by decide +kernel
theorem dX7_undo_14 : decode cX7_undo 14 = .ok (.new 265, 3) := by decide +kernel
theorem dX7_undo_17 : decode cX7_undo 17 = .ok (.dup, 1) := by decide +kernel
theorem dX7_undo_18 : decode cX7_undo 18 = .ok (.ldc_w 289, 3) := by decide +kernel
theorem dX7_undo_21 : decode cX7_undo 21 = .ok (.invokespecial 269, 3) := by decide +kernel
theorem dX7_undo_24 : decode cX7_undo 24 = .ok (.athrow, 1) := by decide +kernel
theorem dX7_undo_25 : decode cX7_undo 25 = .ok (.aload_n 0, 1) := by decide +kernel
theorem dX7_undo_26 : decode cX7_undo 26 = .ok (.getfield 26, 3) := by decide +kernel
theorem dX7_undo_29 : decode cX7_undo 29 = .ok (.getfield 256, 3) := by decide +kernel
theorem dX7_undo_32 : decode cX7_undo 32 = .ok (.ireturn, 1) := by decide +kernel
theorem dX7_save_0 : decode cX7_save 0 = .ok (.aload_n 0, 1) := by decide +kernel
theorem dX7_save_1 : decode cX7_save 1 = .ok (.getfield 16, 3) := by decide +kernel
theorem dX7_save_4 : decode cX7_save 4 = .ok (.aload_n 0, 1) := by decide +kernel
theorem dX7_save_5 : decode cX7_save 5 = .ok (.getfield 10, 3) := by decide +kernel
theorem dX7_save_8 : decode cX7_save 8 = .ok (.invokevirtual 291, 3) := by decide +kernel
theorem dX7_save_11 : decode cX7_save 11 = .ok (.aload_n 0, 1) := by decide +kernel
theorem dX7_save_12 : decode cX7_save 12 = .ok (.iconst 1, 1) := by decide +kernel
theorem dX7_save_13 : decode cX7_save 13 = .ok (.putfield 19, 3) := by decide +kernel
theorem dX7_save_16 : decode cX7_save 16 = .ok (.aload_n 0, 1) := by decide +kernel
theorem dX7_save_17 : decode cX7_save 17 = .ok (.getfield 10, 3) := by decide +kernel
theorem dX7_save_20 : decode cX7_save 20 = .ok (.getfield 201, 3) := by decide +kernel
theorem dX7_save_23 : decode cX7_save 23 = .ok (.ireturn, 1) := by decide +kernel
theorem dX7_restore_0 : decode cX7_restore 0 = .ok (.aload_n 0, 1) := by decide +kernel
theorem dX7_restore_1 : decode cX7_restore 1 = .ok (.getfield 19, 3) := by decide +kernel
theorem dX7_restore_4 : decode cX7_restore 4 = .ok (.ifCond .ne 14, 3) := by decide +kernel
theorem dX7_restore_7 : decode cX7_restore 7 = .ok (.new 265, 3) := by decide +kernel
theorem dX7_restore_10 : decode cX7_restore 10 = .ok (.dup, 1) := by decide +kernel
theorem dX7_restore_11 : decode cX7_restore 11 = .ok (.ldc_w 294, 3) := by decide +kernel
theorem dX7_restore_14 : decode cX7_restore 14 = .ok (.invokespecial 269, 3) := by decide +kernel
theorem dX7_restore_17 : decode cX7_restore 17 = .ok (.athrow, 1) := by decide +kernel
theorem dX7_restore_18 : decode cX7_restore 18 = .ok (.aload_n 0, 1) := by decide +kernel
theorem dX7_restore_19 : decode cX7_restore 19 = .ok (.getfield 10, 3) := by decide +kernel
theorem dX7_restore_22 : decode cX7_restore 22 = .ok (.aload_n 0, 1) := by decide +kernel
theorem dX7_restore_23 : decode cX7_restore 23 = .ok (.getfield 16, 3) := by decide +kernel
theorem dX7_restore_26 : decode cX7_restore 26 = .ok (.invokevirtual 291, 3) := by decide +kernel
theorem dX7_restore_29 : decode cX7_restore 29 = .ok (.aload_n 0, 1) := by decide +kernel
theorem dX7_restore_30 : decode cX7_restore 30 = .ok (.getfield 26, 3) := by decide +kernel
theorem dX7_restore_33 : decode cX7_restore 33 = .ok (.invokevirtual 296, 3) := by decide +kernel
theorem dX7_restore_36 : decode cX7_restore 36 = .ok (.aload_n 0, 1) := by decide +kernel
theorem dX7_restore_37 : decode cX7_restore 37 = .ok (.getfield 10, 3) := by decide +kernel
theorem dX7_restore_40 : decode cX7_restore 40 = .ok (.getfield 201, 3) := by decide +kernel
theorem dX7_restore_43 : decode cX7_restore 43 = .ok (.ireturn, 1) := by decide +kernel
theorem dX7_isWithin_0 : decode cX7_isWithin 0 = .ok (.iload_n 0, 1) := by decide +kernel
theorem dX7_isWithin_1 : decode cX7_isWithin 1 = .ok (.iload_n 1, 1) := by decide +kernel
theorem dX7_isWithin_2 : decode cX7_isWithin 2 = .ok (.if_icmp .lt 12, 3) := by decide +kernel
theorem dX7_isWithin_5 : decode cX7_isWithin 5 = .ok (.iload_n 0, 1) := by decide +kernel
theorem dX7_isWithin_6 : decode cX7_isWithin 6 = .ok (.iload_n 2, 1) := by decide +kernel
theorem dX7_isWithin_7 : decode cX7_isWithin 7 = .ok (.if_icmp .gt 7, 3) := by decide +kernel
theorem dX7_isWithin_10 : decode cX7_isWithin 10 = .ok (.iconst 1, 1) := by decide +kernel
theorem dX7_isWithin_11 : decode cX7_isWithin 11 = .ok (.goto 4, 3) := by decide +kernel
theorem dX7_isWithin_14 : decode cX7_isWithin 14 = .ok (.iconst 0, 1) := by decide +kernel
theorem dX7_isWithin_15 : decode cX7_isWithin 15 = .ok (.ireturn, 1) := by decide +kernel
theorem dX7_needRange_0 : decode cX7_needRange 0 = .ok (.iload_n 0, 1) := by decide +kernel
theorem dX7_needRange_1 : decode cX7_needRange 1 = .ok (.iload_n 1, 1) := by decide +kernel
theorem dX7_needRange_2 : decode cX7_needRange 2 = .ok (.iload_n 2, 1) := by decide +kernel
theorem dX7_needRange_3 : decode cX7_needRange 3 = .ok (.invokestatic 299, 3) := by decide +kernel
theorem dX7_needRange_6 : decode cX7_needRange 6 = .ok (.ifCond .ne 14, 3) := by decide +kernel
theorem dX7_needRange_9 : decode cX7_needRange 9 = .ok (.new 166, 3) := by decide +kernel
theorem dX7_needRange_12 : decode cX7_needRange 12 = .ok (.dup, 1) := by decide +kernel
theorem dX7_needRange_13 : decode cX7_needRange 13 = .ok (.ldc_w 302, 3) := by decide +kernel
theorem dX7_needRange_16 : decode cX7_needRange 16 = .ok (.invokespecial 170, 3) := by decide +kernel
theorem dX7_needRange_19 : decode cX7_needRange 19 = .ok (.athrow, 1) := by decide +kernel
theorem dX7_needRange_20 : decode cX7_needRange 20 = .ok (.return_, 1) := by decide +kernel
theorem dX7_needLeaf_0 : decode cX7_needLeaf 0 = .ok (.iload_n 0, 1) := by decide +kernel
theorem dX7_needLeaf_1 : decode cX7_needLeaf 1 = .ok (.iload_n 1, 1) := by decide +kernel
theorem dX7_needLeaf_2 : decode cX7_needLeaf 2 = .ok (.invokestatic 304, 3) := by decide +kernel
theorem dX7_needLeaf_5 : decode cX7_needLeaf 5 = .ok (.ifCond .ne 14, 3) := by decide +kernel
theorem dX7_needLeaf_8 : decode cX7_needLeaf 8 = .ok (.new 307, 3) := by decide +kernel
theorem dX7_needLeaf_11 : decode cX7_needLeaf 11 = .ok (.dup, 1) := by decide +kernel
theorem dX7_needLeaf_12 : decode cX7_needLeaf 12 = .ok (.ldc_w 309, 3) := by decide +kernel
theorem dX7_needLeaf_15 : decode cX7_needLeaf 15 = .ok (.invokespecial 311, 3) := by decide +kernel
theorem dX7_needLeaf_18 : decode cX7_needLeaf 18 = .ok (.athrow, 1) := by decide +kernel
theorem dX7_needLeaf_19 : decode cX7_needLeaf 19 = .ok (.return_, 1) := by decide +kernel
theorem dX7_needChest_0 : decode cX7_needChest 0 = .ok (.aload_n 0, 1) := by decide +kernel
theorem dX7_needChest_1 : decode cX7_needChest 1 = .ok (.getfield 10, 3) := by decide +kernel
theorem dX7_needChest_4 : decode cX7_needChest 4 = .ok (.iload_n 1, 1) := by decide +kernel
theorem dX7_needChest_5 : decode cX7_needChest 5 = .ok (.invokevirtual 312, 3) := by decide +kernel
theorem dX7_needChest_8 : decode cX7_needChest 8 = .ok (.astore_n 2, 1) := by decide +kernel
theorem dX7_needChest_9 : decode cX7_needChest 9 = .ok (.aload_n 2, 1) := by decide +kernel
theorem dX7_needChest_10 : decode cX7_needChest 10 = .ok (.ifnonnull 14, 3) := by decide +kernel
theorem dX7_needChest_13 : decode cX7_needChest 13 = .ok (.new 307, 3) := by decide +kernel
theorem dX7_needChest_16 : decode cX7_needChest 16 = .ok (.dup, 1) := by decide +kernel
theorem dX7_needChest_17 : decode cX7_needChest 17 = .ok (.ldc_w 315, 3) := by decide +kernel
theorem dX7_needChest_20 : decode cX7_needChest 20 = .ok (.invokespecial 311, 3) := by decide +kernel
theorem dX7_needChest_23 : decode cX7_needChest 23 = .ok (.athrow, 1) := by decide +kernel
theorem dX7_needChest_24 : decode cX7_needChest 24 = .ok (.aload_n 2, 1) := by decide +kernel
theorem dX7_needChest_25 : decode cX7_needChest 25 = .ok (.areturn, 1) := by decide +kernel
theorem dX7_keepChange_0 : decode cX7_keepChange 0 = .ok (.aload_n 0, 1) := by decide +kernel
theorem dX7_keepChange_1 : decode cX7_keepChange 1 = .ok (.getfield 26, 3) := by decide +kernel
theorem dX7_keepChange_4 : decode cX7_keepChange 4 = .ok (.aload_n 0, 1) := by decide +kernel
theorem dX7_keepChange_5 : decode cX7_keepChange 5 = .ok (.getfield 10, 3) := by decide +kernel
theorem dX7_keepChange_8 : decode cX7_keepChange 8 = .ok (.invokevirtual 45, 3) := by decide +kernel
theorem dX7_keepChange_11 : decode cX7_keepChange 11 = .ok (.aload_n 0, 1) := by decide +kernel
theorem dX7_keepChange_12 : decode cX7_keepChange 12 = .ok (.getfield 26, 3) := by decide +kernel
theorem dX7_keepChange_15 : decode cX7_keepChange 15 = .ok (.invokevirtual 317, 3) := by decide +kernel
theorem dX7_keepChange_18 : decode cX7_keepChange 18 = .ok (.return_, 1) := by decide +kernel
theorem dX7_conclude_0 : decode cX7_conclude 0 = .ok (.iload_n 1, 1) := by decide +kernel
theorem dX7_conclude_1 : decode cX7_conclude 1 = .ok (.ifCond .ne 14, 3) := by decide +kernel
theorem dX7_conclude_4 : decode cX7_conclude 4 = .ok (.new 320, 3) := by decide +kernel
theorem dX7_conclude_7 : decode cX7_conclude 7 = .ok (.dup, 1) := by decide +kernel
theorem dX7_conclude_8 : decode cX7_conclude 8 = .ok (.ldc_w 322, 3) := by decide +kernel
theorem dX7_conclude_11 : decode cX7_conclude 11 = .ok (.invokespecial 324, 3) := by decide +kernel
theorem dX7_conclude_14 : decode cX7_conclude 14 = .ok (.athrow, 1) := by decide +kernel
theorem dX7_conclude_15 : decode cX7_conclude 15 = .ok (.aload_n 0, 1) := by decide +kernel
theorem dX7_conclude_16 : decode cX7_conclude 16 = .ok (.getfield 26, 3) := by decide +kernel
theorem dX7_conclude_19 : decode cX7_conclude 19 = .ok (.invokevirtual 317, 3) := by decide +kernel
theorem dX7_conclude_22 : decode cX7_conclude 22 = .ok (.return_, 1) := by decide +kernel
theorem dX7_carryOutAll_0 : decode cX7_carryOutAll 0 = .ok (.aload_n 0, 1) := by decide +kernel
theorem dX7_carryOutAll_1 : decode cX7_carryOutAll 1 = .ok (.getfield 33, 3) := by decide +kernel
theorem dX7_carryOutAll_4 : decode cX7_carryOutAll 4 = .ok (.invokevirtual 325, 3) := by decide +kernel
theorem dX7_carryOutAll_7 : decode cX7_carryOutAll 7 = .ok (.iconst 0, 1) := by decide +kernel
theorem dX7_carryOutAll_8 : decode cX7_carryOutAll 8 = .ok (.istore_n 2, 1) := by decide +kernel
theorem dX7_carryOutAll_9 : decode cX7_carryOutAll 9 = .ok (.iload_n 2, 1) := by decide +kernel
theorem dX7_carryOutAll_10 : decode cX7_carryOutAll 10 = .ok (.iload_n 1, 1) := by decide +kernel
theorem dX7_carryOutAll_11 : decode cX7_carryOutAll 11 = .ok (.if_icmp .ge 38, 3) := by decide +kernel
theorem dX7_carryOutAll_14 : decode cX7_carryOutAll 14 = .ok (.aload_n 0, 1) := by decide +kernel
theorem dX7_carryOutAll_15 : decode cX7_carryOutAll 15 = .ok (.getfield 33, 3) := by decide +kernel
theorem dX7_carryOutAll_18 : decode cX7_carryOutAll 18 = .ok (.invokevirtual 328, 3) := by decide +kernel
theorem dX7_carryOutAll_21 : decode cX7_carryOutAll 21 = .ok (.ifCond .eq 10, 3) := by decide +kernel
theorem dX7_carryOutAll_24 : decode cX7_carryOutAll 24 = .ok (.aload_n 0, 1) := by decide +kernel
theorem dX7_carryOutAll_25 : decode cX7_carryOutAll 25 = .ok (.invokevirtual 331, 3) := by decide +kernel
theorem dX7_carryOutAll_28 : decode cX7_carryOutAll 28 = .ok (.ifCond .ne 5, 3) := by decide +kernel
theorem dX7_carryOutAll_31 : decode cX7_carryOutAll 31 = .ok (.iload_n 2, 1) := by decide +kernel
theorem dX7_carryOutAll_32 : decode cX7_carryOutAll 32 = .ok (.ireturn, 1) := by decide +kernel
theorem dX7_carryOutAll_33 : decode cX7_carryOutAll 33 = .ok (.aload_n 0, 1) := by decide +kernel
theorem dX7_carryOutAll_34 : decode cX7_carryOutAll 34 = .ok (.getfield 33, 3) := by decide +kernel
theorem dX7_carryOutAll_37 : decode cX7_carryOutAll 37 = .ok (.bipush 59, 2) := by decide +kernel
theorem dX7_carryOutAll_39 : decode cX7_carryOutAll 39 = .ok (.invokevirtual 334, 3) := by decide +kernel
theorem dX7_carryOutAll_42 : decode cX7_carryOutAll 42 = .ok (.pop, 1) := by decide +kernel
theorem dX7_carryOutAll_43 : decode cX7_carryOutAll 43 = .ok (.iinc 2 1, 3) := by decide +kernel
theorem dX7_carryOutAll_46 : decode cX7_carryOutAll 46 = .ok (.goto (-37), 3) := by decide +kernel
theorem dX7_carryOutAll_49 : decode cX7_carryOutAll 49 = .ok (.iload_n 1, 1) := by decide +kernel
theorem dX7_carryOutAll_50 : decode cX7_carryOutAll 50 = .ok (.ireturn, 1) := by decide +kernel
theorem dX7_carryOutRead_0 : decode cX7_carryOutRead 0 = .ok (.aload_n 0, 1) := by decide +kernel
theorem dX7_carryOutRead_1 : decode cX7_carryOutRead 1 = .ok (.getfield 33, 3) := by decide +kernel
theorem dX7_carryOutRead_4 : decode cX7_carryOutRead 4 = .ok (.getfield 337, 3) := by decide +kernel
theorem dX7_carryOutRead_7 : decode cX7_carryOutRead 7 = .ok (.astore_n 1, 1) := by decide +kernel
theorem dX7_carryOutRead_8 : decode cX7_carryOutRead 8 = .ok (.aload_n 1, 1) := by decide +kernel
theorem dX7_carryOutRead_9 : decode cX7_carryOutRead 9 = .ok (.getstatic 341, 3) := by decide +kernel
theorem dX7_carryOutRead_12 : decode cX7_carryOutRead 12 = .ok (.if_acmp .ne 11, 3) := by decide +kernel
theorem dX7_carryOutRead_15 : decode cX7_carryOutRead 15 = .ok (.aload_n 0, 1) := by decide +kernel
theorem dX7_carryOutRead_16 : decode cX7_carryOutRead 16 = .ok (.getfield 10, 3) := by decide +kernel
theorem dX7_carryOutRead_19 : decode cX7_carryOutRead 19 = .ok (.invokevirtual 195, 3) := by decide +kernel
theorem dX7_carryOutRead_22 : decode cX7_carryOutRead 22 = .ok (.ireturn, 1) := by decide +kernel
theorem dX7_carryOutRead_23 : decode cX7_carryOutRead 23 = .ok (.aload_n 1, 1) := by decide +kernel
theorem dX7_carryOutRead_24 : decode cX7_carryOutRead 24 = .ok (.getstatic 346, 3) := by decide +kernel
theorem dX7_carryOutRead_27 : decode cX7_carryOutRead 27 = .ok (.if_acmp .ne 42, 3) := by decide +kernel
theorem dX7_carryOutRead_30 : decode cX7_carryOutRead 30 = .ok (.aload_n 0, 1) := by decide +kernel
theorem dX7_carryOutRead_31 : decode cX7_carryOutRead 31 = .ok (.getfield 33, 3) := by decide +kernel
theorem dX7_carryOutRead_34 : decode cX7_carryOutRead 34 = .ok (.getfield 349, 3) := by decide +kernel
theorem dX7_carryOutRead_37 : decode cX7_carryOutRead 37 = .ok (.iconst 1, 1) := by decide +kernel
theorem dX7_carryOutRead_38 : decode cX7_carryOutRead 38 = .ok (.bipush 72, 2) := by decide +kernel
theorem dX7_carryOutRead_40 : decode cX7_carryOutRead 40 = .ok (.invokestatic 299, 3) := by decide +kernel
theorem dX7_carryOutRead_43 : decode cX7_carryOutRead 43 = .ok (.ifCond .eq 24, 3) := by decide +kernel
theorem dX7_carryOutRead_46 : decode cX7_carryOutRead 46 = .ok (.aload_n 0, 1) := by decide +kernel
theorem dX7_carryOutRead_47 : decode cX7_carryOutRead 47 = .ok (.getfield 10, 3) := by decide +kernel
theorem dX7_carryOutRead_50 : decode cX7_carryOutRead 50 = .ok (.aload_n 0, 1) := by decide +kernel
theorem dX7_carryOutRead_51 : decode cX7_carryOutRead 51 = .ok (.getfield 33, 3) := by decide +kernel
theorem dX7_carryOutRead_54 : decode cX7_carryOutRead 54 = .ok (.getfield 349, 3) := by decide +kernel
theorem dX7_carryOutRead_57 : decode cX7_carryOutRead 57 = .ok (.invokevirtual 207, 3) := by decide +kernel
theorem dX7_carryOutRead_60 : decode cX7_carryOutRead 60 = .ok (.ifCond .eq 7, 3) := by decide +kernel
theorem dX7_carryOutRead_63 : decode cX7_carryOutRead 63 = .ok (.iconst 1, 1) := by decide +kernel
theorem dX7_carryOutRead_64 : decode cX7_carryOutRead 64 = .ok (.goto 4, 3) := by decide +kernel
theorem dX7_carryOutRead_67 : decode cX7_carryOutRead 67 = .ok (.iconst 0, 1) := by decide +kernel
theorem dX7_carryOutRead_68 : decode cX7_carryOutRead 68 = .ok (.ireturn, 1) := by decide +kernel
theorem dX7_carryOutRead_69 : decode cX7_carryOutRead 69 = .ok (.aload_n 0, 1) := by decide +kernel
theorem dX7_carryOutRead_70 : decode cX7_carryOutRead 70 = .ok (.getfield 10, 3) := by decide +kernel
theorem dX7_carryOutRead_73 : decode cX7_carryOutRead 73 = .ok (.aload_n 0, 1) := by decide +kernel
theorem dX7_carryOutRead_74 : decode cX7_carryOutRead 74 = .ok (.getfield 33, 3) := by decide +kernel
theorem dX7_carryOutRead_77 : decode cX7_carryOutRead 77 = .ok (.getfield 352, 3) := by decide +kernel
theorem dX7_carryOutRead_80 : decode cX7_carryOutRead 80 = .ok (.invokevirtual 312, 3) := by decide +kernel
theorem dX7_carryOutRead_83 : decode cX7_carryOutRead 83 = .ok (.astore_n 2, 1) := by decide +kernel
theorem dX7_carryOutRead_84 : decode cX7_carryOutRead 84 = .ok (.aload_n 1, 1) := by decide +kernel
theorem dX7_carryOutRead_85 : decode cX7_carryOutRead 85 = .ok (.ifnull 7, 3) := by decide +kernel
theorem dX7_carryOutRead_88 : decode cX7_carryOutRead 88 = .ok (.aload_n 2, 1) := by decide +kernel
theorem dX7_carryOutRead_89 : decode cX7_carryOutRead 89 = .ok (.ifnonnull 5, 3) := by decide +kernel
theorem dX7_carryOutRead_92 : decode cX7_carryOutRead 92 = .ok (.iconst 0, 1) := by decide +kernel
theorem dX7_carryOutRead_93 : decode cX7_carryOutRead 93 = .ok (.ireturn, 1) := by decide +kernel
theorem dX7_carryOutRead_94 : decode cX7_carryOutRead 94 = .ok (.getstatic 355, 3) := by decide +kernel
theorem dX7_carryOutRead_97 : decode cX7_carryOutRead 97 = .ok (.aload_n 1, 1) := by decide +kernel
theorem dX7_carryOutRead_98 : decode cX7_carryOutRead 98 = .ok (.invokevirtual 361, 3) := by decide +kernel
theorem dX7_carryOutRead_101 : decode cX7_carryOutRead 101 = .ok (.iaload, 1) := by decide +kernel
theorem dX7_carryOutRead_102 : decode cX7_carryOutRead 102 = .ok (.tableswitch 188 1 6 #[38, 47, 121, 161, 170, 179], 38) := by decide +kernel
theorem dX7_carryOutRead_140 : decode cX7_carryOutRead 140 = .ok (.aload_n 0, 1) := by decide +kernel
theorem dX7_carryOutRead_141 : decode cX7_carryOutRead 141 = .ok (.getfield 10, 3) := by decide +kernel
theorem dX7_carryOutRead_144 : decode cX7_carryOutRead 144 = .ok (.aload_n 2, 1) := by decide +kernel
theorem dX7_carryOutRead_145 : decode cX7_carryOutRead 145 = .ok (.invokevirtual 93, 3) := by decide +kernel
theorem dX7_carryOutRead_148 : decode cX7_carryOutRead 148 = .ok (.ireturn, 1) := by decide +kernel
theorem dX7_carryOutRead_149 : decode cX7_carryOutRead 149 = .ok (.aload_n 0, 1) := by decide +kernel
theorem dX7_carryOutRead_150 : decode cX7_carryOutRead 150 = .ok (.getfield 33, 3) := by decide +kernel
theorem dX7_carryOutRead_153 : decode cX7_carryOutRead 153 = .ok (.getfield 364, 3) := by decide +kernel
theorem dX7_carryOutRead_156 : decode cX7_carryOutRead 156 = .ok (.aload_n 0, 1) := by decide +kernel
theorem dX7_carryOutRead_157 : decode cX7_carryOutRead 157 = .ok (.getfield 33, 3) := by decide +kernel
theorem dX7_carryOutRead_160 : decode cX7_carryOutRead 160 = .ok (.getfield 365, 3) := by decide +kernel
theorem dX7_carryOutRead_163 : decode cX7_carryOutRead 163 = .ok (.invokestatic 304, 3) := by decide +kernel
theorem dX7_carryOutRead_166 : decode cX7_carryOutRead 166 = .ok (.ifCond .eq 55, 3) := by decide +kernel
theorem dX7_carryOutRead_169 : decode cX7_carryOutRead 169 = .ok (.aload_n 0, 1) := by decide +kernel
theorem dX7_carryOutRead_170 : decode cX7_carryOutRead 170 = .ok (.getfield 33, 3) := by decide +kernel
theorem dX7_carryOutRead_173 : decode cX7_carryOutRead 173 = .ok (.getfield 349, 3) := by decide +kernel
theorem dX7_carryOutRead_176 : decode cX7_carryOutRead 176 = .ok (.iconst 1, 1) := by decide +kernel
theorem dX7_carryOutRead_177 : decode cX7_carryOutRead 177 = .ok (.bipush 50, 2) := by decide +kernel
theorem dX7_carryOutRead_179 : decode cX7_carryOutRead 179 = .ok (.invokestatic 299, 3) := by decide +kernel
theorem dX7_carryOutRead_182 : decode cX7_carryOutRead 182 = .ok (.ifCond .eq 39, 3) := by decide +kernel
theorem dX7_carryOutRead_185 : decode cX7_carryOutRead 185 = .ok (.aload_n 0, 1) := by decide +kernel
theorem dX7_carryOutRead_186 : decode cX7_carryOutRead 186 = .ok (.getfield 10, 3) := by decide +kernel
theorem dX7_carryOutRead_189 : decode cX7_carryOutRead 189 = .ok (.aload_n 2, 1) := by decide +kernel
theorem dX7_carryOutRead_190 : decode cX7_carryOutRead 190 = .ok (.aload_n 0, 1) := by decide +kernel
theorem dX7_carryOutRead_191 : decode cX7_carryOutRead 191 = .ok (.getfield 33, 3) := by decide +kernel
theorem dX7_carryOutRead_194 : decode cX7_carryOutRead 194 = .ok (.getfield 364, 3) := by decide +kernel
theorem dX7_carryOutRead_197 : decode cX7_carryOutRead 197 = .ok (.aload_n 0, 1) := by decide +kernel
theorem dX7_carryOutRead_198 : decode cX7_carryOutRead 198 = .ok (.getfield 33, 3) := by decide +kernel
theorem dX7_carryOutRead_201 : decode cX7_carryOutRead 201 = .ok (.getfield 365, 3) := by decide +kernel
theorem dX7_carryOutRead_204 : decode cX7_carryOutRead 204 = .ok (.aload_n 0, 1) := by decide +kernel
theorem dX7_carryOutRead_205 : decode cX7_carryOutRead 205 = .ok (.getfield 33, 3) := by decide +kernel
theorem dX7_carryOutRead_208 : decode cX7_carryOutRead 208 = .ok (.getfield 349, 3) := by decide +kernel
theorem dX7_carryOutRead_211 : decode cX7_carryOutRead 211 = .ok (.invokevirtual 97, 3) := by decide +kernel
theorem dX7_carryOutRead_214 : decode cX7_carryOutRead 214 = .ok (.ifCond .eq 7, 3) := by decide +kernel
theorem dX7_carryOutRead_217 : decode cX7_carryOutRead 217 = .ok (.iconst 1, 1) := by decide +kernel
theorem dX7_carryOutRead_218 : decode cX7_carryOutRead 218 = .ok (.goto 4, 3) := by decide +kernel
theorem dX7_carryOutRead_221 : decode cX7_carryOutRead 221 = .ok (.iconst 0, 1) := by decide +kernel
theorem dX7_carryOutRead_222 : decode cX7_carryOutRead 222 = .ok (.ireturn, 1) := by decide +kernel
theorem dX7_carryOutRead_223 : decode cX7_carryOutRead 223 = .ok (.aload_n 0, 1) := by decide +kernel
theorem dX7_carryOutRead_224 : decode cX7_carryOutRead 224 = .ok (.getfield 33, 3) := by decide +kernel
theorem dX7_carryOutRead_227 : decode cX7_carryOutRead 227 = .ok (.getfield 349, 3) := by decide +kernel
theorem dX7_carryOutRead_230 : decode cX7_carryOutRead 230 = .ok (.iconst 1, 1) := by decide +kernel
theorem dX7_carryOutRead_231 : decode cX7_carryOutRead 231 = .ok (.bipush 8, 2) := by decide +kernel
theorem dX7_carryOutRead_233 : decode cX7_carryOutRead 233 = .ok (.invokestatic 299, 3) := by decide +kernel
theorem dX7_carryOutRead_236 : decode cX7_carryOutRead 236 = .ok (.ifCond .eq 25, 3) := by decide +kernel
theorem dX7_carryOutRead_239 : decode cX7_carryOutRead 239 = .ok (.aload_n 0, 1) := by decide +kernel
theorem dX7_carryOutRead_240 : decode cX7_carryOutRead 240 = .ok (.getfield 10, 3) := by decide +kernel
theorem dX7_carryOutRead_243 : decode cX7_carryOutRead 243 = .ok (.aload_n 2, 1) := by decide +kernel
theorem dX7_carryOutRead_244 : decode cX7_carryOutRead 244 = .ok (.aload_n 0, 1) := by decide +kernel
theorem dX7_carryOutRead_245 : decode cX7_carryOutRead 245 = .ok (.getfield 33, 3) := by decide +kernel
theorem dX7_carryOutRead_248 : decode cX7_carryOutRead 248 = .ok (.getfield 349, 3) := by decide +kernel
theorem dX7_carryOutRead_251 : decode cX7_carryOutRead 251 = .ok (.invokevirtual 113, 3) := by decide +kernel
theorem dX7_carryOutRead_254 : decode cX7_carryOutRead 254 = .ok (.ifCond .eq 7, 3) := by decide +kernel
theorem dX7_carryOutRead_257 : decode cX7_carryOutRead 257 = .ok (.iconst 1, 1) := by decide +kernel
theorem dX7_carryOutRead_258 : decode cX7_carryOutRead 258 = .ok (.goto 4, 3) := by decide +kernel
theorem dX7_carryOutRead_261 : decode cX7_carryOutRead 261 = .ok (.iconst 0, 1) := by decide +kernel
theorem dX7_carryOutRead_262 : decode cX7_carryOutRead 262 = .ok (.ireturn, 1) := by decide +kernel
theorem dX7_carryOutRead_263 : decode cX7_carryOutRead 263 = .ok (.aload_n 0, 1) := by decide +kernel
theorem dX7_carryOutRead_264 : decode cX7_carryOutRead 264 = .ok (.getfield 10, 3) := by decide +kernel
theorem dX7_carryOutRead_267 : decode cX7_carryOutRead 267 = .ok (.aload_n 2, 1) := by decide +kernel
theorem dX7_carryOutRead_268 : decode cX7_carryOutRead 268 = .ok (.invokevirtual 125, 3) := by decide +kernel
theorem dX7_carryOutRead_271 : decode cX7_carryOutRead 271 = .ok (.ireturn, 1) := by decide +kernel
theorem dX7_carryOutRead_272 : decode cX7_carryOutRead 272 = .ok (.aload_n 0, 1) := by decide +kernel
theorem dX7_carryOutRead_273 : decode cX7_carryOutRead 273 = .ok (.getfield 10, 3) := by decide +kernel
theorem dX7_carryOutRead_276 : decode cX7_carryOutRead 276 = .ok (.aload_n 2, 1) := by decide +kernel
theorem dX7_carryOutRead_277 : decode cX7_carryOutRead 277 = .ok (.invokevirtual 180, 3) := by decide +kernel
theorem dX7_carryOutRead_280 : decode cX7_carryOutRead 280 = .ok (.ireturn, 1) := by decide +kernel
theorem dX7_carryOutRead_281 : decode cX7_carryOutRead 281 = .ok (.aload_n 0, 1) := by decide +kernel
theorem dX7_carryOutRead_282 : decode cX7_carryOutRead 282 = .ok (.getfield 10, 3) := by decide +kernel
theorem dX7_carryOutRead_285 : decode cX7_carryOutRead 285 = .ok (.aload_n 2, 1) := by decide +kernel
theorem dX7_carryOutRead_286 : decode cX7_carryOutRead 286 = .ok (.invokevirtual 186, 3) := by decide +kernel
theorem dX7_carryOutRead_289 : decode cX7_carryOutRead 289 = .ok (.ireturn, 1) := by decide +kernel
theorem dX7_carryOutRead_290 : decode cX7_carryOutRead 290 = .ok (.iconst 0, 1) := by decide +kernel
theorem dX7_carryOutRead_291 : decode cX7_carryOutRead 291 = .ok (.ireturn, 1) := by decide +kernel
