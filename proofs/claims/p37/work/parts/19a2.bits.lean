theorem dX8_init_0 : decode cX8_init 0 = .ok (.aload_n 0, 1) := by decide +kernel
theorem dX8_init_1 : decode cX8_init 1 = .ok (.invokespecial 1, 3) := by decide +kernel
theorem dX8_init_4 : decode cX8_init 4 = .ok (.aload_n 0, 1) := by decide +kernel
theorem dX8_init_5 : decode cX8_init 5 = .ok (.iload_n 1, 1) := by decide +kernel
theorem dX8_init_6 : decode cX8_init 6 = .ok (.putfield 7, 3) := by decide +kernel
theorem dX8_init_9 : decode cX8_init 9 = .ok (.return_, 1) := by decide +kernel
theorem dX8_next_0 : decode cX8_next 0 = .ok (.aload_n 0, 1) := by decide +kernel
theorem dX8_next_1 : decode cX8_next 1 = .ok (.aload_n 0, 1) := by decide +kernel
theorem dX8_next_2 : decode cX8_next 2 = .ok (.getfield 7, 3) := by decide +kernel
theorem dX8_next_5 : decode cX8_next 5 = .ok (.ldc 13, 2) := by decide +kernel
theorem dX8_next_7 : decode cX8_next 7 = .ok (.imul, 1) := by decide +kernel
theorem dX8_next_8 : decode cX8_next 8 = .ok (.sipush 12345, 3) := by decide +kernel
theorem dX8_next_11 : decode cX8_next 11 = .ok (.iadd, 1) := by decide +kernel
theorem dX8_next_12 : decode cX8_next 12 = .ok (.putfield 7, 3) := by decide +kernel
theorem dX8_next_15 : decode cX8_next 15 = .ok (.aload_n 0, 1) := by decide +kernel
theorem dX8_next_16 : decode cX8_next 16 = .ok (.getfield 7, 3) := by decide +kernel
theorem dX8_next_19 : decode cX8_next 19 = .ok (.bipush 16, 2) := by decide +kernel
theorem dX8_next_21 : decode cX8_next 21 = .ok (.iushr, 1) := by decide +kernel
theorem dX8_next_22 : decode cX8_next 22 = .ok (.iload_n 1, 1) := by decide +kernel
theorem dX8_next_23 : decode cX8_next 23 = .ok (.irem, 1) := by decide +kernel
theorem dX8_next_24 : decode cX8_next 24 = .ok (.ireturn, 1) := by decide +kernel
