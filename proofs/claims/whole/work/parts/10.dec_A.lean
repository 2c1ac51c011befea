theorem dd_A_fill_aII_0 : decode cd_A_fill_aII 0 = .ok (.iconst 0, 1) := by decide +kernel
theorem dd_A_fill_aII_1 : decode cd_A_fill_aII 1 = .ok (.istore_n 2, 1) := by decide +kernel
theorem dd_A_fill_aII_2 : decode cd_A_fill_aII 2 = .ok (.aload_n 0, 1) := by decide +kernel
theorem dd_A_fill_aII_3 : decode cd_A_fill_aII 3 = .ok (.arraylength, 1) := by decide +kernel
theorem dd_A_fill_aII_4 : decode cd_A_fill_aII 4 = .ok (.istore_n 3, 1) := by decide +kernel
theorem dd_A_fill_aII_5 : decode cd_A_fill_aII 5 = .ok (.iload_n 2, 1) := by decide +kernel
theorem dd_A_fill_aII_6 : decode cd_A_fill_aII 6 = .ok (.iload_n 3, 1) := by decide +kernel
theorem dd_A_fill_aII_7 : decode cd_A_fill_aII 7 = .ok (.if_icmp .ge 13, 3) := by decide +kernel
theorem dd_A_fill_aII_10 : decode cd_A_fill_aII 10 = .ok (.aload_n 0, 1) := by decide +kernel
theorem dd_A_fill_aII_11 : decode cd_A_fill_aII 11 = .ok (.iload_n 2, 1) := by decide +kernel
theorem dd_A_fill_aII_12 : decode cd_A_fill_aII 12 = .ok (.iload_n 1, 1) := by decide +kernel
theorem dd_A_fill_aII_13 : decode cd_A_fill_aII 13 = .ok (.iastore, 1) := by decide +kernel
theorem dd_A_fill_aII_14 : decode cd_A_fill_aII 14 = .ok (.iinc 2 1, 3) := by decide +kernel
theorem dd_A_fill_aII_17 : decode cd_A_fill_aII 17 = .ok (.goto (-12), 3) := by decide +kernel
theorem dd_A_fill_aII_20 : decode cd_A_fill_aII 20 = .ok (.return_, 1) := by decide +kernel
theorem dd_A_fill_aJJ_0 : decode cd_A_fill_aJJ 0 = .ok (.iconst 0, 1) := by decide +kernel
theorem dd_A_fill_aJJ_1 : decode cd_A_fill_aJJ 1 = .ok (.istore_n 3, 1) := by decide +kernel
theorem dd_A_fill_aJJ_2 : decode cd_A_fill_aJJ 2 = .ok (.aload_n 0, 1) := by decide +kernel
theorem dd_A_fill_aJJ_3 : decode cd_A_fill_aJJ 3 = .ok (.arraylength, 1) := by decide +kernel
theorem dd_A_fill_aJJ_4 : decode cd_A_fill_aJJ 4 = .ok (.istore 4, 2) := by decide +kernel
theorem dd_A_fill_aJJ_6 : decode cd_A_fill_aJJ 6 = .ok (.iload_n 3, 1) := by decide +kernel
theorem dd_A_fill_aJJ_7 : decode cd_A_fill_aJJ 7 = .ok (.iload 4, 2) := by decide +kernel
theorem dd_A_fill_aJJ_9 : decode cd_A_fill_aJJ 9 = .ok (.if_icmp .ge 13, 3) := by decide +kernel
theorem dd_A_fill_aJJ_12 : decode cd_A_fill_aJJ 12 = .ok (.aload_n 0, 1) := by decide +kernel
theorem dd_A_fill_aJJ_13 : decode cd_A_fill_aJJ 13 = .ok (.iload_n 3, 1) := by decide +kernel
theorem dd_A_fill_aJJ_14 : decode cd_A_fill_aJJ 14 = .ok (.lload_n 1, 1) := by decide +kernel
theorem dd_A_fill_aJJ_15 : decode cd_A_fill_aJJ 15 = .ok (.lastore, 1) := by decide +kernel
theorem dd_A_fill_aJJ_16 : decode cd_A_fill_aJJ 16 = .ok (.iinc 3 1, 3) := by decide +kernel
theorem dd_A_fill_aJJ_19 : decode cd_A_fill_aJJ 19 = .ok (.goto (-13), 3) := by decide +kernel
theorem dd_A_fill_aJJ_22 : decode cd_A_fill_aJJ 22 = .ok (.return_, 1) := by decide +kernel
