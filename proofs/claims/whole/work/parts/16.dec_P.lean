theorem dd_P_init_0 : decode cd_P_init 0 = .ok (.aload_n 0, 1) := by decide +kernel
theorem dd_P_init_1 : decode cd_P_init 1 = .ok (.invokespecial 1, 3) := by decide +kernel
theorem dd_P_init_4 : decode cd_P_init 4 = .ok (.aload_n 0, 1) := by decide +kernel
theorem dd_P_init_5 : decode cd_P_init 5 = .ok (.new 7, 3) := by decide +kernel
theorem dd_P_init_8 : decode cd_P_init 8 = .ok (.dup, 1) := by decide +kernel
theorem dd_P_init_9 : decode cd_P_init 9 = .ok (.invokespecial 9, 3) := by decide +kernel
theorem dd_P_init_12 : decode cd_P_init 12 = .ok (.putfield 10, 3) := by decide +kernel
theorem dd_P_init_15 : decode cd_P_init 15 = .ok (.aload_n 0, 1) := by decide +kernel
theorem dd_P_init_16 : decode cd_P_init 16 = .ok (.new 16, 3) := by decide +kernel
theorem dd_P_init_19 : decode cd_P_init 19 = .ok (.dup, 1) := by decide +kernel
theorem dd_P_init_20 : decode cd_P_init 20 = .ok (.invokespecial 18, 3) := by decide +kernel
theorem dd_P_init_23 : decode cd_P_init 23 = .ok (.putfield 19, 3) := by decide +kernel
theorem dd_P_init_26 : decode cd_P_init 26 = .ok (.aload_n 0, 1) := by decide +kernel
theorem dd_P_init_27 : decode cd_P_init 27 = .ok (.new 23, 3) := by decide +kernel
theorem dd_P_init_30 : decode cd_P_init 30 = .ok (.dup, 1) := by decide +kernel
theorem dd_P_init_31 : decode cd_P_init 31 = .ok (.invokespecial 25, 3) := by decide +kernel
theorem dd_P_init_34 : decode cd_P_init 34 = .ok (.putfield 26, 3) := by decide +kernel
theorem dd_P_init_37 : decode cd_P_init 37 = .ok (.aload_n 0, 1) := by decide +kernel
theorem dd_P_init_38 : decode cd_P_init 38 = .ok (.bipush 17, 2) := by decide +kernel
theorem dd_P_init_40 : decode cd_P_init 40 = .ok (.anewarray 30, 3) := by decide +kernel
theorem dd_P_init_43 : decode cd_P_init 43 = .ok (.putfield 32, 3) := by decide +kernel
theorem dd_P_init_46 : decode cd_P_init 46 = .ok (.iconst 0, 1) := by decide +kernel
theorem dd_P_init_47 : decode cd_P_init 47 = .ok (.istore_n 1, 1) := by decide +kernel
theorem dd_P_init_48 : decode cd_P_init 48 = .ok (.iload_n 1, 1) := by decide +kernel
theorem dd_P_init_49 : decode cd_P_init 49 = .ok (.bipush 16, 2) := by decide +kernel
theorem dd_P_init_51 : decode cd_P_init 51 = .ok (.if_icmp .gt 22, 3) := by decide +kernel
theorem dd_P_init_54 : decode cd_P_init 54 = .ok (.aload_n 0, 1) := by decide +kernel
theorem dd_P_init_55 : decode cd_P_init 55 = .ok (.getfield 32, 3) := by decide +kernel
theorem dd_P_init_58 : decode cd_P_init 58 = .ok (.iload_n 1, 1) := by decide +kernel
theorem dd_P_init_59 : decode cd_P_init 59 = .ok (.new 30, 3) := by decide +kernel
theorem dd_P_init_62 : decode cd_P_init 62 = .ok (.dup, 1) := by decide +kernel
theorem dd_P_init_63 : decode cd_P_init 63 = .ok (.invokespecial 36, 3) := by decide +kernel
theorem dd_P_init_66 : decode cd_P_init 66 = .ok (.aastore, 1) := by decide +kernel
theorem dd_P_init_67 : decode cd_P_init 67 = .ok (.iinc 1 1, 3) := by decide +kernel
theorem dd_P_init_70 : decode cd_P_init 70 = .ok (.goto (-22), 3) := by decide +kernel
theorem dd_P_init_73 : decode cd_P_init 73 = .ok (.aload_n 0, 1) := by decide +kernel
theorem dd_P_init_74 : decode cd_P_init 74 = .ok (.iconst 4, 1) := by decide +kernel
theorem dd_P_init_75 : decode cd_P_init 75 = .ok (.newarray .long, 2) := by decide +kernel
theorem dd_P_init_77 : decode cd_P_init 77 = .ok (.putfield 37, 3) := by decide +kernel
theorem dd_P_init_80 : decode cd_P_init 80 = .ok (.aload_n 0, 1) := by decide +kernel
theorem dd_P_init_81 : decode cd_P_init 81 = .ok (.iconst 4, 1) := by decide +kernel
theorem dd_P_init_82 : decode cd_P_init 82 = .ok (.newarray .long, 2) := by decide +kernel
theorem dd_P_init_84 : decode cd_P_init 84 = .ok (.putfield 41, 3) := by decide +kernel
theorem dd_P_init_87 : decode cd_P_init 87 = .ok (.aload_n 0, 1) := by decide +kernel
theorem dd_P_init_88 : decode cd_P_init 88 = .ok (.iconst 4, 1) := by decide +kernel
theorem dd_P_init_89 : decode cd_P_init 89 = .ok (.newarray .long, 2) := by decide +kernel
theorem dd_P_init_91 : decode cd_P_init 91 = .ok (.putfield 44, 3) := by decide +kernel
theorem dd_P_init_94 : decode cd_P_init 94 = .ok (.aload_n 0, 1) := by decide +kernel
theorem dd_P_init_95 : decode cd_P_init 95 = .ok (.new 47, 3) := by decide +kernel
theorem dd_P_init_98 : decode cd_P_init 98 = .ok (.dup, 1) := by decide +kernel
theorem dd_P_init_99 : decode cd_P_init 99 = .ok (.invokespecial 49, 3) := by decide +kernel
theorem dd_P_init_102 : decode cd_P_init 102 = .ok (.putfield 50, 3) := by decide +kernel
theorem dd_P_init_105 : decode cd_P_init 105 = .ok (.return_, 1) := by decide +kernel
theorem dd_P_modulus_0 : decode cd_P_modulus 0 = .ok (.aload_n 0, 1) := by decide +kernel
theorem dd_P_modulus_1 : decode cd_P_modulus 1 = .ok (.getfield 54, 3) := by decide +kernel
theorem dd_P_modulus_4 : decode cd_P_modulus 4 = .ok (.ifCond .ne 11, 3) := by decide +kernel
theorem dd_P_modulus_7 : decode cd_P_modulus 7 = .ok (.lload_n 1, 1) := by decide +kernel
theorem dd_P_modulus_8 : decode cd_P_modulus 8 = .ok (.lload_n 3, 1) := by decide +kernel
theorem dd_P_modulus_9 : decode cd_P_modulus 9 = .ok (.invokestatic 58, 3) := by decide +kernel
theorem dd_P_modulus_12 : decode cd_P_modulus 12 = .ok (.ifCond .ne 5, 3) := by decide +kernel
theorem dd_P_modulus_15 : decode cd_P_modulus 15 = .ok (.iconst 0, 1) := by decide +kernel
theorem dd_P_modulus_16 : decode cd_P_modulus 16 = .ok (.ireturn, 1) := by decide +kernel
theorem dd_P_modulus_17 : decode cd_P_modulus 17 = .ok (.aload_n 0, 1) := by decide +kernel
theorem dd_P_modulus_18 : decode cd_P_modulus 18 = .ok (.getfield 19, 3) := by decide +kernel
theorem dd_P_modulus_21 : decode cd_P_modulus 21 = .ok (.lload_n 1, 1) := by decide +kernel
theorem dd_P_modulus_22 : decode cd_P_modulus 22 = .ok (.lload_n 3, 1) := by decide +kernel
theorem dd_P_modulus_23 : decode cd_P_modulus 23 = .ok (.invokevirtual 62, 3) := by decide +kernel
theorem dd_P_modulus_26 : decode cd_P_modulus 26 = .ok (.aload_n 0, 1) := by decide +kernel
theorem dd_P_modulus_27 : decode cd_P_modulus 27 = .ok (.aload_n 0, 1) := by decide +kernel
theorem dd_P_modulus_28 : decode cd_P_modulus 28 = .ok (.getfield 32, 3) := by decide +kernel
theorem dd_P_modulus_31 : decode cd_P_modulus 31 = .ok (.iconst 0, 1) := by decide +kernel
theorem dd_P_modulus_32 : decode cd_P_modulus 32 = .ok (.aaload, 1) := by decide +kernel
theorem dd_P_modulus_33 : decode cd_P_modulus 33 = .ok (.invokevirtual 66, 3) := by decide +kernel
theorem dd_P_modulus_36 : decode cd_P_modulus 36 = .ok (.aload_n 0, 1) := by decide +kernel
theorem dd_P_modulus_37 : decode cd_P_modulus 37 = .ok (.iconst 1, 1) := by decide +kernel
theorem dd_P_modulus_38 : decode cd_P_modulus 38 = .ok (.putfield 54, 3) := by decide +kernel
theorem dd_P_modulus_41 : decode cd_P_modulus 41 = .ok (.iconst 1, 1) := by decide +kernel
theorem dd_P_modulus_42 : decode cd_P_modulus 42 = .ok (.ireturn, 1) := by decide +kernel
theorem dd_P_prime_0 : decode cd_P_prime 0 = .ok (.aload_n 0, 1) := by decide +kernel
theorem dd_P_prime_1 : decode cd_P_prime 1 = .ok (.getfield 10, 3) := by decide +kernel
theorem dd_P_prime_4 : decode cd_P_prime 4 = .ok (.lload_n 1, 1) := by decide +kernel
theorem dd_P_prime_5 : decode cd_P_prime 5 = .ok (.invokevirtual 70, 3) := by decide +kernel
theorem dd_P_prime_8 : decode cd_P_prime 8 = .ok (.ireturn, 1) := by decide +kernel
theorem dd_P_add_0 : decode cd_P_add 0 = .ok (.aload_n 0, 1) := by decide +kernel
theorem dd_P_add_1 : decode cd_P_add 1 = .ok (.lload_n 1, 1) := by decide +kernel
theorem dd_P_add_2 : decode cd_P_add 2 = .ok (.invokevirtual 74, 3) := by decide +kernel
theorem dd_P_add_5 : decode cd_P_add 5 = .ok (.istore_n 3, 1) := by decide +kernel
theorem dd_P_add_6 : decode cd_P_add 6 = .ok (.iload_n 3, 1) := by decide +kernel
theorem dd_P_add_7 : decode cd_P_add 7 = .ok (.ifCond .ge 5, 3) := by decide +kernel
theorem dd_P_add_10 : decode cd_P_add 10 = .ok (.iload_n 3, 1) := by decide +kernel
theorem dd_P_add_11 : decode cd_P_add 11 = .ok (.ireturn, 1) := by decide +kernel
theorem dd_P_add_12 : decode cd_P_add 12 = .ok (.aload_n 0, 1) := by decide +kernel
theorem dd_P_add_13 : decode cd_P_add 13 = .ok (.getfield 26, 3) := by decide +kernel
theorem dd_P_add_16 : decode cd_P_add 16 = .ok (.lload_n 1, 1) := by decide +kernel
theorem dd_P_add_17 : decode cd_P_add 17 = .ok (.invokevirtual 77, 3) := by decide +kernel
theorem dd_P_add_20 : decode cd_P_add 20 = .ok (.ifCond .eq 6, 3) := by decide +kernel
theorem dd_P_add_23 : decode cd_P_add 23 = .ok (.bipush (-3), 2) := by decide +kernel
theorem dd_P_add_25 : decode cd_P_add 25 = .ok (.ireturn, 1) := by decide +kernel
theorem dd_P_add_26 : decode cd_P_add 26 = .ok (.aload_n 0, 1) := by decide +kernel
theorem dd_P_add_27 : decode cd_P_add 27 = .ok (.getfield 26, 3) := by decide +kernel
theorem dd_P_add_30 : decode cd_P_add 30 = .ok (.iload_n 3, 1) := by decide +kernel
theorem dd_P_add_31 : decode cd_P_add 31 = .ok (.invokevirtual 81, 3) := by decide +kernel
theorem dd_P_add_34 : decode cd_P_add 34 = .ok (.ifCond .eq 6, 3) := by decide +kernel
theorem dd_P_add_37 : decode cd_P_add 37 = .ok (.bipush (-5), 2) := by decide +kernel
theorem dd_P_add_39 : decode cd_P_add 39 = .ok (.ireturn, 1) := by decide +kernel
theorem dd_P_add_40 : decode cd_P_add 40 = .ok (.aload_n 0, 1) := by decide +kernel
theorem dd_P_add_41 : decode cd_P_add 41 = .ok (.getfield 26, 3) := by decide +kernel
theorem dd_P_add_44 : decode cd_P_add 44 = .ok (.getfield 85, 3) := by decide +kernel
theorem dd_P_add_47 : decode cd_P_add 47 = .ok (.bipush 10, 2) := by decide +kernel
theorem dd_P_add_49 : decode cd_P_add 49 = .ok (.if_icmp .lt 6, 3) := by decide +kernel
theorem dd_P_add_52 : decode cd_P_add 52 = .ok (.bipush (-6), 2) := by decide +kernel
theorem dd_P_add_54 : decode cd_P_add 54 = .ok (.ireturn, 1) := by decide +kernel
theorem dd_P_add_55 : decode cd_P_add 55 = .ok (.aload_n 0, 1) := by decide +kernel
theorem dd_P_add_56 : decode cd_P_add 56 = .ok (.getfield 26, 3) := by decide +kernel
theorem dd_P_add_59 : decode cd_P_add 59 = .ok (.lload_n 1, 1) := by decide +kernel
theorem dd_P_add_60 : decode cd_P_add 60 = .ok (.iload_n 3, 1) := by decide +kernel
theorem dd_P_add_61 : decode cd_P_add 61 = .ok (.invokevirtual 89, 3) := by decide +kernel
theorem dd_P_add_64 : decode cd_P_add 64 = .ok (.aload_n 0, 1) := by decide +kernel
theorem dd_P_add_65 : decode cd_P_add 65 = .ok (.getfield 26, 3) := by decide +kernel
theorem dd_P_add_68 : decode cd_P_add 68 = .ok (.getfield 85, 3) := by decide +kernel
theorem dd_P_add_71 : decode cd_P_add 71 = .ok (.ireturn, 1) := by decide +kernel
theorem dd_P_remove_0 : decode cd_P_remove 0 = .ok (.aload_n 0, 1) := by decide +kernel
theorem dd_P_remove_1 : decode cd_P_remove 1 = .ok (.lload_n 1, 1) := by decide +kernel
theorem dd_P_remove_2 : decode cd_P_remove 2 = .ok (.invokevirtual 74, 3) := by decide +kernel
theorem dd_P_remove_5 : decode cd_P_remove 5 = .ok (.istore_n 3, 1) := by decide +kernel
theorem dd_P_remove_6 : decode cd_P_remove 6 = .ok (.iload_n 3, 1) := by decide +kernel
theorem dd_P_remove_7 : decode cd_P_remove 7 = .ok (.ifCond .ge 5, 3) := by decide +kernel
theorem dd_P_remove_10 : decode cd_P_remove 10 = .ok (.iload_n 3, 1) := by decide +kernel
theorem dd_P_remove_11 : decode cd_P_remove 11 = .ok (.ireturn, 1) := by decide +kernel
theorem dd_P_remove_12 : decode cd_P_remove 12 = .ok (.aload_n 0, 1) := by decide +kernel
theorem dd_P_remove_13 : decode cd_P_remove 13 = .ok (.getfield 26, 3) := by decide +kernel
theorem dd_P_remove_16 : decode cd_P_remove 16 = .ok (.lload_n 1, 1) := by decide +kernel
theorem dd_P_remove_17 : decode cd_P_remove 17 = .ok (.invokevirtual 93, 3) := by decide +kernel
theorem dd_P_remove_20 : decode cd_P_remove 20 = .ok (.istore 4, 2) := by decide +kernel
theorem dd_P_remove_22 : decode cd_P_remove 22 = .ok (.iload 4, 2) := by decide +kernel
theorem dd_P_remove_24 : decode cd_P_remove 24 = .ok (.ifCond .ge 6, 3) := by decide +kernel
theorem dd_P_remove_27 : decode cd_P_remove 27 = .ok (.bipush (-4), 2) := by decide +kernel
theorem dd_P_remove_29 : decode cd_P_remove 29 = .ok (.ireturn, 1) := by decide +kernel
theorem dd_P_remove_30 : decode cd_P_remove 30 = .ok (.aload_n 0, 1) := by decide +kernel
theorem dd_P_remove_31 : decode cd_P_remove 31 = .ok (.getfield 26, 3) := by decide +kernel
theorem dd_P_remove_34 : decode cd_P_remove 34 = .ok (.iload 4, 2) := by decide +kernel
theorem dd_P_remove_36 : decode cd_P_remove 36 = .ok (.invokevirtual 96, 3) := by decide +kernel
theorem dd_P_remove_39 : decode cd_P_remove 39 = .ok (.aload_n 0, 1) := by decide +kernel
theorem dd_P_remove_40 : decode cd_P_remove 40 = .ok (.getfield 26, 3) := by decide +kernel
theorem dd_P_remove_43 : decode cd_P_remove 43 = .ok (.getfield 85, 3) := by decide +kernel
theorem dd_P_remove_46 : decode cd_P_remove 46 = .ok (.ireturn, 1) := by decide +kernel
theorem dd_P_close_0 : decode cd_P_close 0 = .ok (.aload_n 0, 1) := by decide +kernel
theorem dd_P_close_1 : decode cd_P_close 1 = .ok (.getfield 54, 3) := by decide +kernel
theorem dd_P_close_4 : decode cd_P_close 4 = .ok (.ifCond .ne 5, 3) := by decide +kernel
theorem dd_P_close_7 : decode cd_P_close 7 = .ok (.iconst (-1), 1) := by decide +kernel
theorem dd_P_close_8 : decode cd_P_close 8 = .ok (.ireturn, 1) := by decide +kernel
theorem dd_P_close_9 : decode cd_P_close 9 = .ok (.aload_n 0, 1) := by decide +kernel
theorem dd_P_close_10 : decode cd_P_close 10 = .ok (.getfield 100, 3) := by decide +kernel
theorem dd_P_close_13 : decode cd_P_close 13 = .ok (.bipush 16, 2) := by decide +kernel
theorem dd_P_close_15 : decode cd_P_close 15 = .ok (.if_icmp .lt 6, 3) := by decide +kernel
theorem dd_P_close_18 : decode cd_P_close 18 = .ok (.bipush (-6), 2) := by decide +kernel
theorem dd_P_close_20 : decode cd_P_close 20 = .ok (.ireturn, 1) := by decide +kernel
theorem dd_P_close_21 : decode cd_P_close 21 = .ok (.aload_n 0, 1) := by decide +kernel
theorem dd_P_close_22 : decode cd_P_close 22 = .ok (.dup, 1) := by decide +kernel
theorem dd_P_close_23 : decode cd_P_close 23 = .ok (.getfield 100, 3) := by decide +kernel
theorem dd_P_close_26 : decode cd_P_close 26 = .ok (.iconst 1, 1) := by decide +kernel
theorem dd_P_close_27 : decode cd_P_close 27 = .ok (.iadd, 1) := by decide +kernel
theorem dd_P_close_28 : decode cd_P_close 28 = .ok (.putfield 100, 3) := by decide +kernel
theorem dd_P_close_31 : decode cd_P_close 31 = .ok (.aload_n 0, 1) := by decide +kernel
theorem dd_P_close_32 : decode cd_P_close 32 = .ok (.getfield 32, 3) := by decide +kernel
theorem dd_P_close_35 : decode cd_P_close 35 = .ok (.aload_n 0, 1) := by decide +kernel
theorem dd_P_close_36 : decode cd_P_close 36 = .ok (.getfield 100, 3) := by decide +kernel
theorem dd_P_close_39 : decode cd_P_close 39 = .ok (.aaload, 1) := by decide +kernel
theorem dd_P_close_40 : decode cd_P_close 40 = .ok (.getfield 103, 3) := by decide +kernel
theorem dd_P_close_43 : decode cd_P_close 43 = .ok (.aload_n 0, 1) := by decide +kernel
theorem dd_P_close_44 : decode cd_P_close 44 = .ok (.getfield 26, 3) := by decide +kernel
theorem dd_P_close_47 : decode cd_P_close 47 = .ok (.invokevirtual 106, 3) := by decide +kernel
theorem dd_P_close_50 : decode cd_P_close 50 = .ok (.aload_n 0, 1) := by decide +kernel
theorem dd_P_close_51 : decode cd_P_close 51 = .ok (.aload_n 0, 1) := by decide +kernel
theorem dd_P_close_52 : decode cd_P_close 52 = .ok (.getfield 32, 3) := by decide +kernel
theorem dd_P_close_55 : decode cd_P_close 55 = .ok (.aload_n 0, 1) := by decide +kernel
theorem dd_P_close_56 : decode cd_P_close 56 = .ok (.getfield 100, 3) := by decide +kernel
theorem dd_P_close_59 : decode cd_P_close 59 = .ok (.aaload, 1) := by decide +kernel
theorem dd_P_close_60 : decode cd_P_close 60 = .ok (.invokevirtual 66, 3) := by decide +kernel
theorem dd_P_close_63 : decode cd_P_close 63 = .ok (.aload_n 0, 1) := by decide +kernel
theorem dd_P_close_64 : decode cd_P_close 64 = .ok (.getfield 100, 3) := by decide +kernel
theorem dd_P_close_67 : decode cd_P_close 67 = .ok (.ireturn, 1) := by decide +kernel
theorem dd_P_size_0 : decode cd_P_size 0 = .ok (.aload_n 0, 1) := by decide +kernel
theorem dd_P_size_1 : decode cd_P_size 1 = .ok (.getfield 54, 3) := by decide +kernel
theorem dd_P_size_4 : decode cd_P_size 4 = .ok (.ifCond .ne 5, 3) := by decide +kernel
theorem dd_P_size_7 : decode cd_P_size 7 = .ok (.iconst (-1), 1) := by decide +kernel
theorem dd_P_size_8 : decode cd_P_size 8 = .ok (.ireturn, 1) := by decide +kernel
theorem dd_P_size_9 : decode cd_P_size 9 = .ok (.iload_n 1, 1) := by decide +kernel
theorem dd_P_size_10 : decode cd_P_size 10 = .ok (.tableswitch 55 0 2 #[26, 42, 50], 26) := by decide +kernel
theorem dd_P_size_36 : decode cd_P_size 36 = .ok (.aload_n 0, 1) := by decide +kernel
theorem dd_P_size_37 : decode cd_P_size 37 = .ok (.getfield 32, 3) := by decide +kernel
theorem dd_P_size_40 : decode cd_P_size 40 = .ok (.aload_n 0, 1) := by decide +kernel
theorem dd_P_size_41 : decode cd_P_size 41 = .ok (.getfield 100, 3) := by decide +kernel
theorem dd_P_size_44 : decode cd_P_size 44 = .ok (.aaload, 1) := by decide +kernel
theorem dd_P_size_45 : decode cd_P_size 45 = .ok (.getfield 103, 3) := by decide +kernel
theorem dd_P_size_48 : decode cd_P_size 48 = .ok (.getfield 85, 3) := by decide +kernel
theorem dd_P_size_51 : decode cd_P_size 51 = .ok (.ireturn, 1) := by decide +kernel
theorem dd_P_size_52 : decode cd_P_size 52 = .ok (.aload_n 0, 1) := by decide +kernel
theorem dd_P_size_53 : decode cd_P_size 53 = .ok (.getfield 26, 3) := by decide +kernel
theorem dd_P_size_56 : decode cd_P_size 56 = .ok (.getfield 85, 3) := by decide +kernel
theorem dd_P_size_59 : decode cd_P_size 59 = .ok (.ireturn, 1) := by decide +kernel
theorem dd_P_size_60 : decode cd_P_size 60 = .ok (.aload_n 0, 1) := by decide +kernel
theorem dd_P_size_61 : decode cd_P_size 61 = .ok (.getfield 100, 3) := by decide +kernel
theorem dd_P_size_64 : decode cd_P_size 64 = .ok (.ireturn, 1) := by decide +kernel
theorem dd_P_size_65 : decode cd_P_size 65 = .ok (.bipush (-2), 2) := by decide +kernel
theorem dd_P_size_67 : decode cd_P_size 67 = .ok (.ireturn, 1) := by decide +kernel
theorem dd_P_state_0 : decode cd_P_state 0 = .ok (.aload_n 0, 1) := by decide +kernel
theorem dd_P_state_1 : decode cd_P_state 1 = .ok (.lload_n 1, 1) := by decide +kernel
theorem dd_P_state_2 : decode cd_P_state 2 = .ok (.invokevirtual 74, 3) := by decide +kernel
theorem dd_P_state_5 : decode cd_P_state 5 = .ok (.istore_n 3, 1) := by decide +kernel
theorem dd_P_state_6 : decode cd_P_state 6 = .ok (.iload_n 3, 1) := by decide +kernel
theorem dd_P_state_7 : decode cd_P_state 7 = .ok (.ifCond .ge 5, 3) := by decide +kernel
theorem dd_P_state_10 : decode cd_P_state 10 = .ok (.iload_n 3, 1) := by decide +kernel
theorem dd_P_state_11 : decode cd_P_state 11 = .ok (.ireturn, 1) := by decide +kernel
theorem dd_P_state_12 : decode cd_P_state 12 = .ok (.aload_n 0, 1) := by decide +kernel
theorem dd_P_state_13 : decode cd_P_state 13 = .ok (.getfield 32, 3) := by decide +kernel
theorem dd_P_state_16 : decode cd_P_state 16 = .ok (.aload_n 0, 1) := by decide +kernel
theorem dd_P_state_17 : decode cd_P_state 17 = .ok (.getfield 100, 3) := by decide +kernel
theorem dd_P_state_20 : decode cd_P_state 20 = .ok (.aaload, 1) := by decide +kernel
theorem dd_P_state_21 : decode cd_P_state 21 = .ok (.getfield 103, 3) := by decide +kernel
theorem dd_P_state_24 : decode cd_P_state 24 = .ok (.lload_n 1, 1) := by decide +kernel
theorem dd_P_state_25 : decode cd_P_state 25 = .ok (.invokevirtual 77, 3) := by decide +kernel
theorem dd_P_state_28 : decode cd_P_state 28 = .ok (.ifCond .eq 7, 3) := by decide +kernel
theorem dd_P_state_31 : decode cd_P_state 31 = .ok (.iconst 1, 1) := by decide +kernel
theorem dd_P_state_32 : decode cd_P_state 32 = .ok (.goto 4, 3) := by decide +kernel
theorem dd_P_state_35 : decode cd_P_state 35 = .ok (.iconst 0, 1) := by decide +kernel
theorem dd_P_state_36 : decode cd_P_state 36 = .ok (.aload_n 0, 1) := by decide +kernel
theorem dd_P_state_37 : decode cd_P_state 37 = .ok (.getfield 26, 3) := by decide +kernel
theorem dd_P_state_40 : decode cd_P_state 40 = .ok (.lload_n 1, 1) := by decide +kernel
theorem dd_P_state_41 : decode cd_P_state 41 = .ok (.invokevirtual 77, 3) := by decide +kernel
theorem dd_P_state_44 : decode cd_P_state 44 = .ok (.ifCond .eq 7, 3) := by decide +kernel
theorem dd_P_state_47 : decode cd_P_state 47 = .ok (.iconst 2, 1) := by decide +kernel
theorem dd_P_state_48 : decode cd_P_state 48 = .ok (.goto 4, 3) := by decide +kernel
theorem dd_P_state_51 : decode cd_P_state 51 = .ok (.iconst 0, 1) := by decide +kernel
theorem dd_P_state_52 : decode cd_P_state 52 = .ok (.iadd, 1) := by decide +kernel
theorem dd_P_state_53 : decode cd_P_state 53 = .ok (.ireturn, 1) := by decide +kernel
theorem dd_P_accumulator_0 : decode cd_P_accumulator 0 = .ok (.aload_n 0, 1) := by decide +kernel
theorem dd_P_accumulator_1 : decode cd_P_accumulator 1 = .ok (.getfield 54, 3) := by decide +kernel
theorem dd_P_accumulator_4 : decode cd_P_accumulator 4 = .ok (.ifCond .eq 11, 3) := by decide +kernel
theorem dd_P_accumulator_7 : decode cd_P_accumulator 7 = .ok (.aload_n 0, 1) := by decide +kernel
theorem dd_P_accumulator_8 : decode cd_P_accumulator 8 = .ok (.iload_n 1, 1) := by decide +kernel
theorem dd_P_accumulator_9 : decode cd_P_accumulator 9 = .ok (.invokevirtual 110, 3) := by decide +kernel
theorem dd_P_accumulator_12 : decode cd_P_accumulator 12 = .ok (.ifCond .ne 5, 3) := by decide +kernel
theorem dd_P_accumulator_15 : decode cd_P_accumulator 15 = .ok (.lconst 0, 1) := by decide +kernel
theorem dd_P_accumulator_16 : decode cd_P_accumulator 16 = .ok (.lreturn, 1) := by decide +kernel
theorem dd_P_accumulator_17 : decode cd_P_accumulator 17 = .ok (.aload_n 0, 1) := by decide +kernel
theorem dd_P_accumulator_18 : decode cd_P_accumulator 18 = .ok (.getfield 32, 3) := by decide +kernel
theorem dd_P_accumulator_21 : decode cd_P_accumulator 21 = .ok (.iload_n 1, 1) := by decide +kernel
theorem dd_P_accumulator_22 : decode cd_P_accumulator 22 = .ok (.aaload, 1) := by decide +kernel
theorem dd_P_accumulator_23 : decode cd_P_accumulator 23 = .ok (.getfield 113, 3) := by decide +kernel
theorem dd_P_accumulator_26 : decode cd_P_accumulator 26 = .ok (.iload_n 2, 1) := by decide +kernel
theorem dd_P_accumulator_27 : decode cd_P_accumulator 27 = .ok (.invokestatic 116, 3) := by decide +kernel
theorem dd_P_accumulator_30 : decode cd_P_accumulator 30 = .ok (.lreturn, 1) := by decide +kernel
theorem dd_P_note_0 : decode cd_P_note 0 = .ok (.aload_n 0, 1) := by decide +kernel
theorem dd_P_note_1 : decode cd_P_note 1 = .ok (.getfield 54, 3) := by decide +kernel
theorem dd_P_note_4 : decode cd_P_note 4 = .ok (.ifCond .ne 5, 3) := by decide +kernel
theorem dd_P_note_7 : decode cd_P_note 7 = .ok (.iconst (-1), 1) := by decide +kernel
theorem dd_P_note_8 : decode cd_P_note 8 = .ok (.ireturn, 1) := by decide +kernel
theorem dd_P_note_9 : decode cd_P_note 9 = .ok (.aload_n 0, 1) := by decide +kernel
theorem dd_P_note_10 : decode cd_P_note 10 = .ok (.iload_n 1, 1) := by decide +kernel
theorem dd_P_note_11 : decode cd_P_note 11 = .ok (.invokevirtual 110, 3) := by decide +kernel
theorem dd_P_note_14 : decode cd_P_note 14 = .ok (.ifCond .eq 7, 3) := by decide +kernel
theorem dd_P_note_17 : decode cd_P_note 17 = .ok (.iload_n 1, 1) := by decide +kernel
theorem dd_P_note_18 : decode cd_P_note 18 = .ok (.ifCond .ne 6, 3) := by decide +kernel
theorem dd_P_note_21 : decode cd_P_note 21 = .ok (.bipush (-2), 2) := by decide +kernel
theorem dd_P_note_23 : decode cd_P_note 23 = .ok (.ireturn, 1) := by decide +kernel
theorem dd_P_note_24 : decode cd_P_note 24 = .ok (.aload_n 0, 1) := by decide +kernel
theorem dd_P_note_25 : decode cd_P_note 25 = .ok (.getfield 32, 3) := by decide +kernel
theorem dd_P_note_28 : decode cd_P_note 28 = .ok (.iload_n 1, 1) := by decide +kernel
theorem dd_P_note_29 : decode cd_P_note 29 = .ok (.iconst 1, 1) := by decide +kernel
theorem dd_P_note_30 : decode cd_P_note 30 = .ok (.isub, 1) := by decide +kernel
theorem dd_P_note_31 : decode cd_P_note 31 = .ok (.aaload, 1) := by decide +kernel
theorem dd_P_note_32 : decode cd_P_note 32 = .ok (.getfield 103, 3) := by decide +kernel
theorem dd_P_note_35 : decode cd_P_note 35 = .ok (.astore 4, 2) := by decide +kernel
theorem dd_P_note_37 : decode cd_P_note 37 = .ok (.aload_n 0, 1) := by decide +kernel
theorem dd_P_note_38 : decode cd_P_note 38 = .ok (.getfield 32, 3) := by decide +kernel
theorem dd_P_note_41 : decode cd_P_note 41 = .ok (.iload_n 1, 1) := by decide +kernel
theorem dd_P_note_42 : decode cd_P_note 42 = .ok (.aaload, 1) := by decide +kernel
theorem dd_P_note_43 : decode cd_P_note 43 = .ok (.getfield 103, 3) := by decide +kernel
theorem dd_P_note_46 : decode cd_P_note 46 = .ok (.astore 5, 2) := by decide +kernel
theorem dd_P_note_48 : decode cd_P_note 48 = .ok (.iload_n 2, 1) := by decide +kernel
theorem dd_P_note_49 : decode cd_P_note 49 = .ok (.tableswitch 65 0 3 #[31, 39, 47, 56], 31) := by decide +kernel
theorem dd_P_note_80 : decode cd_P_note 80 = .ok (.aload 5, 2) := by decide +kernel
theorem dd_P_note_82 : decode cd_P_note 82 = .ok (.aload 4, 2) := by decide +kernel
theorem dd_P_note_84 : decode cd_P_note 84 = .ok (.invokevirtual 120, 3) := by decide +kernel
theorem dd_P_note_87 : decode cd_P_note 87 = .ok (.ireturn, 1) := by decide +kernel
theorem dd_P_note_88 : decode cd_P_note 88 = .ok (.aload 4, 2) := by decide +kernel
theorem dd_P_note_90 : decode cd_P_note 90 = .ok (.aload 5, 2) := by decide +kernel
theorem dd_P_note_92 : decode cd_P_note 92 = .ok (.invokevirtual 120, 3) := by decide +kernel
theorem dd_P_note_95 : decode cd_P_note 95 = .ok (.ireturn, 1) := by decide +kernel
theorem dd_P_note_96 : decode cd_P_note 96 = .ok (.aload 5, 2) := by decide +kernel
theorem dd_P_note_98 : decode cd_P_note 98 = .ok (.aload 4, 2) := by decide +kernel
theorem dd_P_note_100 : decode cd_P_note 100 = .ok (.iload_n 3, 1) := by decide +kernel
theorem dd_P_note_101 : decode cd_P_note 101 = .ok (.invokevirtual 124, 3) := by decide +kernel
theorem dd_P_note_104 : decode cd_P_note 104 = .ok (.ireturn, 1) := by decide +kernel
theorem dd_P_note_105 : decode cd_P_note 105 = .ok (.aload 4, 2) := by decide +kernel
theorem dd_P_note_107 : decode cd_P_note 107 = .ok (.aload 5, 2) := by decide +kernel
theorem dd_P_note_109 : decode cd_P_note 109 = .ok (.iload_n 3, 1) := by decide +kernel
theorem dd_P_note_110 : decode cd_P_note 110 = .ok (.invokevirtual 124, 3) := by decide +kernel
theorem dd_P_note_113 : decode cd_P_note 113 = .ok (.ireturn, 1) := by decide +kernel
theorem dd_P_note_114 : decode cd_P_note 114 = .ok (.bipush (-2), 2) := by decide +kernel
theorem dd_P_note_116 : decode cd_P_note 116 = .ok (.ireturn, 1) := by decide +kernel
theorem dd_P_witness_0 : decode cd_P_witness 0 = .ok (.aload_n 0, 1) := by decide +kernel
theorem dd_P_witness_1 : decode cd_P_witness 1 = .ok (.getfield 54, 3) := by decide +kernel
theorem dd_P_witness_4 : decode cd_P_witness 4 = .ok (.ifCond .eq 22, 3) := by decide +kernel
theorem dd_P_witness_7 : decode cd_P_witness 7 = .ok (.aload_n 0, 1) := by decide +kernel
theorem dd_P_witness_8 : decode cd_P_witness 8 = .ok (.getfield 32, 3) := by decide +kernel
theorem dd_P_witness_11 : decode cd_P_witness 11 = .ok (.aload_n 0, 1) := by decide +kernel
theorem dd_P_witness_12 : decode cd_P_witness 12 = .ok (.getfield 100, 3) := by decide +kernel
theorem dd_P_witness_15 : decode cd_P_witness 15 = .ok (.aaload, 1) := by decide +kernel
theorem dd_P_witness_16 : decode cd_P_witness 16 = .ok (.getfield 103, 3) := by decide +kernel
theorem dd_P_witness_19 : decode cd_P_witness 19 = .ok (.lload_n 1, 1) := by decide +kernel
theorem dd_P_witness_20 : decode cd_P_witness 20 = .ok (.invokevirtual 77, 3) := by decide +kernel
theorem dd_P_witness_23 : decode cd_P_witness 23 = .ok (.ifCond .ne 5, 3) := by decide +kernel
theorem dd_P_witness_26 : decode cd_P_witness 26 = .ok (.lconst 0, 1) := by decide +kernel
theorem dd_P_witness_27 : decode cd_P_witness 27 = .ok (.lreturn, 1) := by decide +kernel
theorem dd_P_witness_28 : decode cd_P_witness 28 = .ok (.aload_n 0, 1) := by decide +kernel
theorem dd_P_witness_29 : decode cd_P_witness 29 = .ok (.lload_n 1, 1) := by decide +kernel
theorem dd_P_witness_30 : decode cd_P_witness 30 = .ok (.aload_n 0, 1) := by decide +kernel
theorem dd_P_witness_31 : decode cd_P_witness 31 = .ok (.getfield 41, 3) := by decide +kernel
theorem dd_P_witness_34 : decode cd_P_witness 34 = .ok (.invokevirtual 128, 3) := by decide +kernel
theorem dd_P_witness_37 : decode cd_P_witness 37 = .ok (.aload_n 0, 1) := by decide +kernel
theorem dd_P_witness_38 : decode cd_P_witness 38 = .ok (.getfield 41, 3) := by decide +kernel
theorem dd_P_witness_41 : decode cd_P_witness 41 = .ok (.iload_n 3, 1) := by decide +kernel
theorem dd_P_witness_42 : decode cd_P_witness 42 = .ok (.invokestatic 116, 3) := by decide +kernel
theorem dd_P_witness_45 : decode cd_P_witness 45 = .ok (.lreturn, 1) := by decide +kernel
theorem dd_P_issue_0 : decode cd_P_issue 0 = .ok (.aload_n 0, 1) := by decide +kernel
theorem dd_P_issue_1 : decode cd_P_issue 1 = .ok (.lload_n 1, 1) := by decide +kernel
theorem dd_P_issue_2 : decode cd_P_issue 2 = .ok (.invokevirtual 74, 3) := by decide +kernel
theorem dd_P_issue_5 : decode cd_P_issue 5 = .ok (.istore_n 3, 1) := by decide +kernel
theorem dd_P_issue_6 : decode cd_P_issue 6 = .ok (.iload_n 3, 1) := by decide +kernel
theorem dd_P_issue_7 : decode cd_P_issue 7 = .ok (.ifCond .ge 5, 3) := by decide +kernel
theorem dd_P_issue_10 : decode cd_P_issue 10 = .ok (.iload_n 3, 1) := by decide +kernel
theorem dd_P_issue_11 : decode cd_P_issue 11 = .ok (.ireturn, 1) := by decide +kernel
theorem dd_P_issue_12 : decode cd_P_issue 12 = .ok (.aload_n 0, 1) := by decide +kernel
theorem dd_P_issue_13 : decode cd_P_issue 13 = .ok (.getfield 32, 3) := by decide +kernel
theorem dd_P_issue_16 : decode cd_P_issue 16 = .ok (.aload_n 0, 1) := by decide +kernel
theorem dd_P_issue_17 : decode cd_P_issue 17 = .ok (.getfield 100, 3) := by decide +kernel
theorem dd_P_issue_20 : decode cd_P_issue 20 = .ok (.aaload, 1) := by decide +kernel
theorem dd_P_issue_21 : decode cd_P_issue 21 = .ok (.getfield 103, 3) := by decide +kernel
theorem dd_P_issue_24 : decode cd_P_issue 24 = .ok (.lload_n 1, 1) := by decide +kernel
theorem dd_P_issue_25 : decode cd_P_issue 25 = .ok (.invokevirtual 77, 3) := by decide +kernel
theorem dd_P_issue_28 : decode cd_P_issue 28 = .ok (.ifCond .ne 6, 3) := by decide +kernel
theorem dd_P_issue_31 : decode cd_P_issue 31 = .ok (.bipush (-4), 2) := by decide +kernel
theorem dd_P_issue_33 : decode cd_P_issue 33 = .ok (.ireturn, 1) := by decide +kernel
theorem dd_P_issue_34 : decode cd_P_issue 34 = .ok (.aload_n 0, 1) := by decide +kernel
theorem dd_P_issue_35 : decode cd_P_issue 35 = .ok (.lload_n 1, 1) := by decide +kernel
theorem dd_P_issue_36 : decode cd_P_issue 36 = .ok (.aload_n 0, 1) := by decide +kernel
theorem dd_P_issue_37 : decode cd_P_issue 37 = .ok (.getfield 37, 3) := by decide +kernel
theorem dd_P_issue_40 : decode cd_P_issue 40 = .ok (.invokevirtual 128, 3) := by decide +kernel
theorem dd_P_issue_43 : decode cd_P_issue 43 = .ok (.aload_n 0, 1) := by decide +kernel
theorem dd_P_issue_44 : decode cd_P_issue 44 = .ok (.iconst 0, 1) := by decide +kernel
theorem dd_P_issue_45 : decode cd_P_issue 45 = .ok (.putfield 132, 3) := by decide +kernel
theorem dd_P_issue_48 : decode cd_P_issue 48 = .ok (.aload_n 0, 1) := by decide +kernel
theorem dd_P_issue_49 : decode cd_P_issue 49 = .ok (.getfield 32, 3) := by decide +kernel
theorem dd_P_issue_52 : decode cd_P_issue 52 = .ok (.aload_n 0, 1) := by decide +kernel
theorem dd_P_issue_53 : decode cd_P_issue 53 = .ok (.getfield 100, 3) := by decide +kernel
theorem dd_P_issue_56 : decode cd_P_issue 56 = .ok (.aaload, 1) := by decide +kernel
theorem dd_P_issue_57 : decode cd_P_issue 57 = .ok (.getfield 103, 3) := by decide +kernel
theorem dd_P_issue_60 : decode cd_P_issue 60 = .ok (.getfield 85, 3) := by decide +kernel
theorem dd_P_issue_63 : decode cd_P_issue 63 = .ok (.iconst 1, 1) := by decide +kernel
theorem dd_P_issue_64 : decode cd_P_issue 64 = .ok (.isub, 1) := by decide +kernel
theorem dd_P_issue_65 : decode cd_P_issue 65 = .ok (.ireturn, 1) := by decide +kernel
theorem dd_P_hold_0 : decode cd_P_hold 0 = .ok (.aload_n 0, 1) := by decide +kernel
theorem dd_P_hold_1 : decode cd_P_hold 1 = .ok (.getfield 54, 3) := by decide +kernel
theorem dd_P_hold_4 : decode cd_P_hold 4 = .ok (.ifCond .eq 20, 3) := by decide +kernel
theorem dd_P_hold_7 : decode cd_P_hold 7 = .ok (.iload 5, 2) := by decide +kernel
theorem dd_P_hold_9 : decode cd_P_hold 9 = .ok (.ifCond .lt 15, 3) := by decide +kernel
theorem dd_P_hold_12 : decode cd_P_hold 12 = .ok (.aload_n 0, 1) := by decide +kernel
theorem dd_P_hold_13 : decode cd_P_hold 13 = .ok (.getfield 19, 3) := by decide +kernel
theorem dd_P_hold_16 : decode cd_P_hold 16 = .ok (.lload_n 1, 1) := by decide +kernel
theorem dd_P_hold_17 : decode cd_P_hold 17 = .ok (.lload_n 3, 1) := by decide +kernel
theorem dd_P_hold_18 : decode cd_P_hold 18 = .ok (.invokevirtual 135, 3) := by decide +kernel
theorem dd_P_hold_21 : decode cd_P_hold 21 = .ok (.ifCond .ne 5, 3) := by decide +kernel
theorem dd_P_hold_24 : decode cd_P_hold 24 = .ok (.iconst 0, 1) := by decide +kernel
theorem dd_P_hold_25 : decode cd_P_hold 25 = .ok (.ireturn, 1) := by decide +kernel
theorem dd_P_hold_26 : decode cd_P_hold 26 = .ok (.lload_n 1, 1) := by decide +kernel
theorem dd_P_hold_27 : decode cd_P_hold 27 = .ok (.lload_n 3, 1) := by decide +kernel
theorem dd_P_hold_28 : decode cd_P_hold 28 = .ok (.aload_n 0, 1) := by decide +kernel
theorem dd_P_hold_29 : decode cd_P_hold 29 = .ok (.getfield 37, 3) := by decide +kernel
theorem dd_P_hold_32 : decode cd_P_hold 32 = .ok (.invokestatic 138, 3) := by decide +kernel
theorem dd_P_hold_35 : decode cd_P_hold 35 = .ok (.aload_n 0, 1) := by decide +kernel
theorem dd_P_hold_36 : decode cd_P_hold 36 = .ok (.iload 5, 2) := by decide +kernel
theorem dd_P_hold_38 : decode cd_P_hold 38 = .ok (.putfield 132, 3) := by decide +kernel
theorem dd_P_hold_41 : decode cd_P_hold 41 = .ok (.iconst 1, 1) := by decide +kernel
theorem dd_P_hold_42 : decode cd_P_hold 42 = .ok (.ireturn, 1) := by decide +kernel
theorem dd_P_hand_0 : decode cd_P_hand 0 = .ok (.aload_n 0, 1) := by decide +kernel
theorem dd_P_hand_1 : decode cd_P_hand 1 = .ok (.getfield 54, 3) := by decide +kernel
theorem dd_P_hand_4 : decode cd_P_hand 4 = .ok (.ifCond .eq 14, 3) := by decide +kernel
theorem dd_P_hand_7 : decode cd_P_hand 7 = .ok (.aload_n 0, 1) := by decide +kernel
theorem dd_P_hand_8 : decode cd_P_hand 8 = .ok (.getfield 37, 3) := by decide +kernel
theorem dd_P_hand_11 : decode cd_P_hand 11 = .ok (.iload_n 1, 1) := by decide +kernel
theorem dd_P_hand_12 : decode cd_P_hand 12 = .ok (.invokestatic 116, 3) := by decide +kernel
theorem dd_P_hand_15 : decode cd_P_hand 15 = .ok (.goto 4, 3) := by decide +kernel
theorem dd_P_hand_18 : decode cd_P_hand 18 = .ok (.lconst 0, 1) := by decide +kernel
theorem dd_P_hand_19 : decode cd_P_hand 19 = .ok (.lreturn, 1) := by decide +kernel
theorem dd_P_factor_0 : decode cd_P_factor 0 = .ok (.aload_n 0, 1) := by decide +kernel
theorem dd_P_factor_1 : decode cd_P_factor 1 = .ok (.getfield 54, 3) := by decide +kernel
theorem dd_P_factor_4 : decode cd_P_factor 4 = .ok (.ifCond .eq 10, 3) := by decide +kernel
theorem dd_P_factor_7 : decode cd_P_factor 7 = .ok (.aload_n 0, 1) := by decide +kernel
theorem dd_P_factor_8 : decode cd_P_factor 8 = .ok (.getfield 132, 3) := by decide +kernel
theorem dd_P_factor_11 : decode cd_P_factor 11 = .ok (.goto 4, 3) := by decide +kernel
theorem dd_P_factor_14 : decode cd_P_factor 14 = .ok (.iconst (-1), 1) := by decide +kernel
theorem dd_P_factor_15 : decode cd_P_factor 15 = .ok (.ireturn, 1) := by decide +kernel
theorem dd_P_check_0 : decode cd_P_check 0 = .ok (.aload_n 0, 1) := by decide +kernel
theorem dd_P_check_1 : decode cd_P_check 1 = .ok (.lload_n 1, 1) := by decide +kernel
theorem dd_P_check_2 : decode cd_P_check 2 = .ok (.iload_n 3, 1) := by decide +kernel
theorem dd_P_check_3 : decode cd_P_check 3 = .ok (.invokevirtual 142, 3) := by decide +kernel
theorem dd_P_check_6 : decode cd_P_check 6 = .ok (.istore 4, 2) := by decide +kernel
theorem dd_P_check_8 : decode cd_P_check 8 = .ok (.iload 4, 2) := by decide +kernel
theorem dd_P_check_10 : decode cd_P_check 10 = .ok (.ifCond .ge 6, 3) := by decide +kernel
theorem dd_P_check_13 : decode cd_P_check 13 = .ok (.iload 4, 2) := by decide +kernel
theorem dd_P_check_15 : decode cd_P_check 15 = .ok (.ireturn, 1) := by decide +kernel
theorem dd_P_check_16 : decode cd_P_check 16 = .ok (.aload_n 0, 1) := by decide +kernel
theorem dd_P_check_17 : decode cd_P_check 17 = .ok (.iload 4, 2) := by decide +kernel
theorem dd_P_check_19 : decode cd_P_check 19 = .ok (.iload_n 3, 1) := by decide +kernel
theorem dd_P_check_20 : decode cd_P_check 20 = .ok (.invokevirtual 145, 3) := by decide +kernel
theorem dd_P_check_23 : decode cd_P_check 23 = .ok (.ifCond .eq 7, 3) := by decide +kernel
theorem dd_P_check_26 : decode cd_P_check 26 = .ok (.iconst 1, 1) := by decide +kernel
theorem dd_P_check_27 : decode cd_P_check 27 = .ok (.goto 4, 3) := by decide +kernel
theorem dd_P_check_30 : decode cd_P_check 30 = .ok (.iconst 0, 1) := by decide +kernel
theorem dd_P_check_31 : decode cd_P_check 31 = .ok (.ireturn, 1) := by decide +kernel
theorem dd_P_advance_0 : decode cd_P_advance 0 = .ok (.aload_n 0, 1) := by decide +kernel
theorem dd_P_advance_1 : decode cd_P_advance 1 = .ok (.lload_n 1, 1) := by decide +kernel
theorem dd_P_advance_2 : decode cd_P_advance 2 = .ok (.iload_n 3, 1) := by decide +kernel
theorem dd_P_advance_3 : decode cd_P_advance 3 = .ok (.invokevirtual 142, 3) := by decide +kernel
theorem dd_P_advance_6 : decode cd_P_advance 6 = .ok (.istore 4, 2) := by decide +kernel
theorem dd_P_advance_8 : decode cd_P_advance 8 = .ok (.iload 4, 2) := by decide +kernel
theorem dd_P_advance_10 : decode cd_P_advance 10 = .ok (.ifCond .ge 6, 3) := by decide +kernel
theorem dd_P_advance_13 : decode cd_P_advance 13 = .ok (.iload 4, 2) := by decide +kernel
theorem dd_P_advance_15 : decode cd_P_advance 15 = .ok (.ireturn, 1) := by decide +kernel
theorem dd_P_advance_16 : decode cd_P_advance 16 = .ok (.aload_n 0, 1) := by decide +kernel
theorem dd_P_advance_17 : decode cd_P_advance 17 = .ok (.lload_n 1, 1) := by decide +kernel
theorem dd_P_advance_18 : decode cd_P_advance 18 = .ok (.iload_n 3, 1) := by decide +kernel
theorem dd_P_advance_19 : decode cd_P_advance 19 = .ok (.invokevirtual 149, 3) := by decide +kernel
theorem dd_P_advance_22 : decode cd_P_advance 22 = .ok (.ifCond .ne 6, 3) := by decide +kernel
theorem dd_P_advance_25 : decode cd_P_advance 25 = .ok (.bipush (-4), 2) := by decide +kernel
theorem dd_P_advance_27 : decode cd_P_advance 27 = .ok (.ireturn, 1) := by decide +kernel
theorem dd_P_advance_28 : decode cd_P_advance 28 = .ok (.aload_n 0, 1) := by decide +kernel
theorem dd_P_advance_29 : decode cd_P_advance 29 = .ok (.iload 4, 2) := by decide +kernel
theorem dd_P_advance_31 : decode cd_P_advance 31 = .ok (.iload_n 3, 1) := by decide +kernel
theorem dd_P_advance_32 : decode cd_P_advance 32 = .ok (.invokevirtual 145, 3) := by decide +kernel
theorem dd_P_advance_35 : decode cd_P_advance 35 = .ok (.ifCond .ne 6, 3) := by decide +kernel
theorem dd_P_advance_38 : decode cd_P_advance 38 = .ok (.bipush (-7), 2) := by decide +kernel
theorem dd_P_advance_40 : decode cd_P_advance 40 = .ok (.ireturn, 1) := by decide +kernel
theorem dd_P_advance_41 : decode cd_P_advance 41 = .ok (.iload_n 3, 1) := by decide +kernel
theorem dd_P_advance_42 : decode cd_P_advance 42 = .ok (.iconst 1, 1) := by decide +kernel
theorem dd_P_advance_43 : decode cd_P_advance 43 = .ok (.iadd, 1) := by decide +kernel
theorem dd_P_advance_44 : decode cd_P_advance 44 = .ok (.istore 5, 2) := by decide +kernel
theorem dd_P_advance_46 : decode cd_P_advance 46 = .ok (.iload 5, 2) := by decide +kernel
theorem dd_P_advance_48 : decode cd_P_advance 48 = .ok (.aload_n 0, 1) := by decide +kernel
theorem dd_P_advance_49 : decode cd_P_advance 49 = .ok (.getfield 100, 3) := by decide +kernel
theorem dd_P_advance_52 : decode cd_P_advance 52 = .ok (.if_icmp .gt 23, 3) := by decide +kernel
theorem dd_P_advance_55 : decode cd_P_advance 55 = .ok (.aload_n 0, 1) := by decide +kernel
theorem dd_P_advance_56 : decode cd_P_advance 56 = .ok (.iload 5, 2) := by decide +kernel
theorem dd_P_advance_58 : decode cd_P_advance 58 = .ok (.invokevirtual 153, 3) := by decide +kernel
theorem dd_P_advance_61 : decode cd_P_advance 61 = .ok (.aload_n 0, 1) := by decide +kernel
theorem dd_P_advance_62 : decode cd_P_advance 62 = .ok (.iload 5, 2) := by decide +kernel
theorem dd_P_advance_64 : decode cd_P_advance 64 = .ok (.iload 4, 2) := by decide +kernel
theorem dd_P_advance_66 : decode cd_P_advance 66 = .ok (.invokevirtual 156, 3) := by decide +kernel
theorem dd_P_advance_69 : decode cd_P_advance 69 = .ok (.iinc 5 1, 3) := by decide +kernel
theorem dd_P_advance_72 : decode cd_P_advance 72 = .ok (.goto (-26), 3) := by decide +kernel
theorem dd_P_advance_75 : decode cd_P_advance 75 = .ok (.aload_n 0, 1) := by decide +kernel
theorem dd_P_advance_76 : decode cd_P_advance 76 = .ok (.getfield 100, 3) := by decide +kernel
theorem dd_P_advance_79 : decode cd_P_advance 79 = .ok (.iload_n 3, 1) := by decide +kernel
theorem dd_P_advance_80 : decode cd_P_advance 80 = .ok (.isub, 1) := by decide +kernel
theorem dd_P_advance_81 : decode cd_P_advance 81 = .ok (.ireturn, 1) := by decide +kernel
theorem dd_P_exclude_0 : decode cd_P_exclude 0 = .ok (.aload_n 0, 1) := by decide +kernel
theorem dd_P_exclude_1 : decode cd_P_exclude 1 = .ok (.lload_n 1, 1) := by decide +kernel
theorem dd_P_exclude_2 : decode cd_P_exclude 2 = .ok (.invokevirtual 74, 3) := by decide +kernel
theorem dd_P_exclude_5 : decode cd_P_exclude 5 = .ok (.istore_n 3, 1) := by decide +kernel
theorem dd_P_exclude_6 : decode cd_P_exclude 6 = .ok (.iload_n 3, 1) := by decide +kernel
theorem dd_P_exclude_7 : decode cd_P_exclude 7 = .ok (.ifCond .ge 5, 3) := by decide +kernel
theorem dd_P_exclude_10 : decode cd_P_exclude 10 = .ok (.iload_n 3, 1) := by decide +kernel
theorem dd_P_exclude_11 : decode cd_P_exclude 11 = .ok (.ireturn, 1) := by decide +kernel
theorem dd_P_exclude_12 : decode cd_P_exclude 12 = .ok (.aload_n 0, 1) := by decide +kernel
theorem dd_P_exclude_13 : decode cd_P_exclude 13 = .ok (.getfield 32, 3) := by decide +kernel
theorem dd_P_exclude_16 : decode cd_P_exclude 16 = .ok (.aload_n 0, 1) := by decide +kernel
theorem dd_P_exclude_17 : decode cd_P_exclude 17 = .ok (.getfield 100, 3) := by decide +kernel
theorem dd_P_exclude_20 : decode cd_P_exclude 20 = .ok (.aaload, 1) := by decide +kernel
theorem dd_P_exclude_21 : decode cd_P_exclude 21 = .ok (.getfield 103, 3) := by decide +kernel
theorem dd_P_exclude_24 : decode cd_P_exclude 24 = .ok (.astore 4, 2) := by decide +kernel
theorem dd_P_exclude_26 : decode cd_P_exclude 26 = .ok (.aload 4, 2) := by decide +kernel
theorem dd_P_exclude_28 : decode cd_P_exclude 28 = .ok (.lload_n 1, 1) := by decide +kernel
theorem dd_P_exclude_29 : decode cd_P_exclude 29 = .ok (.invokevirtual 77, 3) := by decide +kernel
theorem dd_P_exclude_32 : decode cd_P_exclude 32 = .ok (.ifCond .eq 6, 3) := by decide +kernel
theorem dd_P_exclude_35 : decode cd_P_exclude 35 = .ok (.bipush (-3), 2) := by decide +kernel
theorem dd_P_exclude_37 : decode cd_P_exclude 37 = .ok (.ireturn, 1) := by decide +kernel
theorem dd_P_exclude_38 : decode cd_P_exclude 38 = .ok (.aload 4, 2) := by decide +kernel
theorem dd_P_exclude_40 : decode cd_P_exclude 40 = .ok (.iload_n 3, 1) := by decide +kernel
theorem dd_P_exclude_41 : decode cd_P_exclude 41 = .ok (.invokevirtual 81, 3) := by decide +kernel
theorem dd_P_exclude_44 : decode cd_P_exclude 44 = .ok (.ifCond .eq 6, 3) := by decide +kernel
theorem dd_P_exclude_47 : decode cd_P_exclude 47 = .ok (.bipush (-5), 2) := by decide +kernel
theorem dd_P_exclude_49 : decode cd_P_exclude 49 = .ok (.ireturn, 1) := by decide +kernel
theorem dd_P_exclude_50 : decode cd_P_exclude 50 = .ok (.aload_n 0, 1) := by decide +kernel
theorem dd_P_exclude_51 : decode cd_P_exclude 51 = .ok (.getfield 50, 3) := by decide +kernel
theorem dd_P_exclude_54 : decode cd_P_exclude 54 = .ok (.iconst 1, 1) := by decide +kernel
theorem dd_P_exclude_55 : decode cd_P_exclude 55 = .ok (.invokevirtual 160, 3) := by decide +kernel
theorem dd_P_exclude_58 : decode cd_P_exclude 58 = .ok (.aload 4, 2) := by decide +kernel
theorem dd_P_exclude_60 : decode cd_P_exclude 60 = .ok (.aload_n 0, 1) := by decide +kernel
theorem dd_P_exclude_61 : decode cd_P_exclude 61 = .ok (.getfield 50, 3) := by decide +kernel
theorem dd_P_exclude_64 : decode cd_P_exclude 64 = .ok (.invokevirtual 162, 3) := by decide +kernel
theorem dd_P_exclude_67 : decode cd_P_exclude 67 = .ok (.aload_n 0, 1) := by decide +kernel
theorem dd_P_exclude_68 : decode cd_P_exclude 68 = .ok (.aload_n 0, 1) := by decide +kernel
theorem dd_P_exclude_69 : decode cd_P_exclude 69 = .ok (.iload_n 3, 1) := by decide +kernel
theorem dd_P_exclude_70 : decode cd_P_exclude 70 = .ok (.invokevirtual 166, 3) := by decide +kernel
theorem dd_P_exclude_73 : decode cd_P_exclude 73 = .ok (.putfield 132, 3) := by decide +kernel
theorem dd_P_exclude_76 : decode cd_P_exclude 76 = .ok (.aload_n 0, 1) := by decide +kernel
theorem dd_P_exclude_77 : decode cd_P_exclude 77 = .ok (.getfield 19, 3) := by decide +kernel
theorem dd_P_exclude_80 : decode cd_P_exclude 80 = .ok (.aload_n 0, 1) := by decide +kernel
theorem dd_P_exclude_81 : decode cd_P_exclude 81 = .ok (.getfield 19, 3) := by decide +kernel
theorem dd_P_exclude_84 : decode cd_P_exclude 84 = .ok (.getfield 170, 3) := by decide +kernel
theorem dd_P_exclude_87 : decode cd_P_exclude 87 = .ok (.aload_n 0, 1) := by decide +kernel
theorem dd_P_exclude_88 : decode cd_P_exclude 88 = .ok (.getfield 50, 3) := by decide +kernel
theorem dd_P_exclude_91 : decode cd_P_exclude 91 = .ok (.aload_n 0, 1) := by decide +kernel
theorem dd_P_exclude_92 : decode cd_P_exclude 92 = .ok (.getfield 37, 3) := by decide +kernel
theorem dd_P_exclude_95 : decode cd_P_exclude 95 = .ok (.invokevirtual 173, 3) := by decide +kernel
theorem dd_P_exclude_98 : decode cd_P_exclude 98 = .ok (.aload_n 0, 1) := by decide +kernel
theorem dd_P_exclude_99 : decode cd_P_exclude 99 = .ok (.getfield 132, 3) := by decide +kernel
theorem dd_P_exclude_102 : decode cd_P_exclude 102 = .ok (.ireturn, 1) := by decide +kernel
theorem dd_P_checkExclude_0 : decode cd_P_checkExclude 0 = .ok (.aload_n 0, 1) := by decide +kernel
theorem dd_P_checkExclude_1 : decode cd_P_checkExclude 1 = .ok (.lload_n 1, 1) := by decide +kernel
theorem dd_P_checkExclude_2 : decode cd_P_checkExclude 2 = .ok (.iload_n 3, 1) := by decide +kernel
theorem dd_P_checkExclude_3 : decode cd_P_checkExclude 3 = .ok (.invokevirtual 142, 3) := by decide +kernel
theorem dd_P_checkExclude_6 : decode cd_P_checkExclude 6 = .ok (.istore 4, 2) := by decide +kernel
theorem dd_P_checkExclude_8 : decode cd_P_checkExclude 8 = .ok (.iload 4, 2) := by decide +kernel
theorem dd_P_checkExclude_10 : decode cd_P_checkExclude 10 = .ok (.ifCond .ge 6, 3) := by decide +kernel
theorem dd_P_checkExclude_13 : decode cd_P_checkExclude 13 = .ok (.iload 4, 2) := by decide +kernel
theorem dd_P_checkExclude_15 : decode cd_P_checkExclude 15 = .ok (.ireturn, 1) := by decide +kernel
theorem dd_P_checkExclude_16 : decode cd_P_checkExclude 16 = .ok (.aload_n 0, 1) := by decide +kernel
theorem dd_P_checkExclude_17 : decode cd_P_checkExclude 17 = .ok (.getfield 50, 3) := by decide +kernel
theorem dd_P_checkExclude_20 : decode cd_P_checkExclude 20 = .ok (.aload_n 0, 1) := by decide +kernel
theorem dd_P_checkExclude_21 : decode cd_P_checkExclude 21 = .ok (.getfield 132, 3) := by decide +kernel
theorem dd_P_checkExclude_24 : decode cd_P_checkExclude 24 = .ok (.invokevirtual 160, 3) := by decide +kernel
theorem dd_P_checkExclude_27 : decode cd_P_checkExclude 27 = .ok (.aload_n 0, 1) := by decide +kernel
theorem dd_P_checkExclude_28 : decode cd_P_checkExclude 28 = .ok (.getfield 19, 3) := by decide +kernel
theorem dd_P_checkExclude_31 : decode cd_P_checkExclude 31 = .ok (.aload_n 0, 1) := by decide +kernel
theorem dd_P_checkExclude_32 : decode cd_P_checkExclude 32 = .ok (.getfield 32, 3) := by decide +kernel
theorem dd_P_checkExclude_35 : decode cd_P_checkExclude 35 = .ok (.iload_n 3, 1) := by decide +kernel
theorem dd_P_checkExclude_36 : decode cd_P_checkExclude 36 = .ok (.aaload, 1) := by decide +kernel
theorem dd_P_checkExclude_37 : decode cd_P_checkExclude 37 = .ok (.getfield 113, 3) := by decide +kernel
theorem dd_P_checkExclude_40 : decode cd_P_checkExclude 40 = .ok (.aload_n 0, 1) := by decide +kernel
theorem dd_P_checkExclude_41 : decode cd_P_checkExclude 41 = .ok (.getfield 50, 3) := by decide +kernel
theorem dd_P_checkExclude_44 : decode cd_P_checkExclude 44 = .ok (.aload_n 0, 1) := by decide +kernel
theorem dd_P_checkExclude_45 : decode cd_P_checkExclude 45 = .ok (.getfield 41, 3) := by decide +kernel
theorem dd_P_checkExclude_48 : decode cd_P_checkExclude 48 = .ok (.invokevirtual 173, 3) := by decide +kernel
theorem dd_P_checkExclude_51 : decode cd_P_checkExclude 51 = .ok (.aload_n 0, 1) := by decide +kernel
theorem dd_P_checkExclude_52 : decode cd_P_checkExclude 52 = .ok (.getfield 50, 3) := by decide +kernel
theorem dd_P_checkExclude_55 : decode cd_P_checkExclude 55 = .ok (.iload 4, 2) := by decide +kernel
theorem dd_P_checkExclude_57 : decode cd_P_checkExclude 57 = .ok (.invokevirtual 160, 3) := by decide +kernel
theorem dd_P_checkExclude_60 : decode cd_P_checkExclude 60 = .ok (.aload_n 0, 1) := by decide +kernel
theorem dd_P_checkExclude_61 : decode cd_P_checkExclude 61 = .ok (.getfield 19, 3) := by decide +kernel
theorem dd_P_checkExclude_64 : decode cd_P_checkExclude 64 = .ok (.aload_n 0, 1) := by decide +kernel
theorem dd_P_checkExclude_65 : decode cd_P_checkExclude 65 = .ok (.getfield 37, 3) := by decide +kernel
theorem dd_P_checkExclude_68 : decode cd_P_checkExclude 68 = .ok (.aload_n 0, 1) := by decide +kernel
theorem dd_P_checkExclude_69 : decode cd_P_checkExclude 69 = .ok (.getfield 50, 3) := by decide +kernel
theorem dd_P_checkExclude_72 : decode cd_P_checkExclude 72 = .ok (.aload_n 0, 1) := by decide +kernel
theorem dd_P_checkExclude_73 : decode cd_P_checkExclude 73 = .ok (.getfield 44, 3) := by decide +kernel
theorem dd_P_checkExclude_76 : decode cd_P_checkExclude 76 = .ok (.invokevirtual 173, 3) := by decide +kernel
theorem dd_P_checkExclude_79 : decode cd_P_checkExclude 79 = .ok (.aload_n 0, 1) := by decide +kernel
theorem dd_P_checkExclude_80 : decode cd_P_checkExclude 80 = .ok (.getfield 19, 3) := by decide +kernel
theorem dd_P_checkExclude_83 : decode cd_P_checkExclude 83 = .ok (.aload_n 0, 1) := by decide +kernel
theorem dd_P_checkExclude_84 : decode cd_P_checkExclude 84 = .ok (.getfield 41, 3) := by decide +kernel
theorem dd_P_checkExclude_87 : decode cd_P_checkExclude 87 = .ok (.aload_n 0, 1) := by decide +kernel
theorem dd_P_checkExclude_88 : decode cd_P_checkExclude 88 = .ok (.getfield 44, 3) := by decide +kernel
theorem dd_P_checkExclude_91 : decode cd_P_checkExclude 91 = .ok (.aload_n 0, 1) := by decide +kernel
theorem dd_P_checkExclude_92 : decode cd_P_checkExclude 92 = .ok (.getfield 41, 3) := by decide +kernel
theorem dd_P_checkExclude_95 : decode cd_P_checkExclude 95 = .ok (.invokevirtual 177, 3) := by decide +kernel
theorem dd_P_checkExclude_98 : decode cd_P_checkExclude 98 = .ok (.aload_n 0, 1) := by decide +kernel
theorem dd_P_checkExclude_99 : decode cd_P_checkExclude 99 = .ok (.getfield 41, 3) := by decide +kernel
theorem dd_P_checkExclude_102 : decode cd_P_checkExclude 102 = .ok (.aload_n 0, 1) := by decide +kernel
theorem dd_P_checkExclude_103 : decode cd_P_checkExclude 103 = .ok (.getfield 19, 3) := by decide +kernel
theorem dd_P_checkExclude_106 : decode cd_P_checkExclude 106 = .ok (.getfield 181, 3) := by decide +kernel
theorem dd_P_checkExclude_109 : decode cd_P_checkExclude 109 = .ok (.invokestatic 184, 3) := by decide +kernel
theorem dd_P_checkExclude_112 : decode cd_P_checkExclude 112 = .ok (.ifCond .eq 7, 3) := by decide +kernel
theorem dd_P_checkExclude_115 : decode cd_P_checkExclude 115 = .ok (.iconst 1, 1) := by decide +kernel
theorem dd_P_checkExclude_116 : decode cd_P_checkExclude 116 = .ok (.goto 4, 3) := by decide +kernel
theorem dd_P_checkExclude_119 : decode cd_P_checkExclude 119 = .ok (.iconst 0, 1) := by decide +kernel
theorem dd_P_checkExclude_120 : decode cd_P_checkExclude 120 = .ok (.ireturn, 1) := by decide +kernel
theorem dd_P_primeOrRefusal_J_0 : decode cd_P_primeOrRefusal_J 0 = .ok (.aload_n 0, 1) := by decide +kernel
theorem dd_P_primeOrRefusal_J_1 : decode cd_P_primeOrRefusal_J 1 = .ok (.getfield 54, 3) := by decide +kernel
theorem dd_P_primeOrRefusal_J_4 : decode cd_P_primeOrRefusal_J 4 = .ok (.ifCond .eq 14, 3) := by decide +kernel
theorem dd_P_primeOrRefusal_J_7 : decode cd_P_primeOrRefusal_J 7 = .ok (.aload_n 0, 1) := by decide +kernel
theorem dd_P_primeOrRefusal_J_8 : decode cd_P_primeOrRefusal_J 8 = .ok (.getfield 10, 3) := by decide +kernel
theorem dd_P_primeOrRefusal_J_11 : decode cd_P_primeOrRefusal_J 11 = .ok (.lload_n 1, 1) := by decide +kernel
theorem dd_P_primeOrRefusal_J_12 : decode cd_P_primeOrRefusal_J 12 = .ok (.invokevirtual 70, 3) := by decide +kernel
theorem dd_P_primeOrRefusal_J_15 : decode cd_P_primeOrRefusal_J 15 = .ok (.goto 4, 3) := by decide +kernel
theorem dd_P_primeOrRefusal_J_18 : decode cd_P_primeOrRefusal_J 18 = .ok (.iconst (-1), 1) := by decide +kernel
theorem dd_P_primeOrRefusal_J_19 : decode cd_P_primeOrRefusal_J 19 = .ok (.ireturn, 1) := by decide +kernel
theorem dd_P_primeOrRefusal_JI_0 : decode cd_P_primeOrRefusal_JI 0 = .ok (.aload_n 0, 1) := by decide +kernel
theorem dd_P_primeOrRefusal_JI_1 : decode cd_P_primeOrRefusal_JI 1 = .ok (.getfield 54, 3) := by decide +kernel
theorem dd_P_primeOrRefusal_JI_4 : decode cd_P_primeOrRefusal_JI 4 = .ok (.ifCond .eq 16, 3) := by decide +kernel
theorem dd_P_primeOrRefusal_JI_7 : decode cd_P_primeOrRefusal_JI 7 = .ok (.aload_n 0, 1) := by decide +kernel
theorem dd_P_primeOrRefusal_JI_8 : decode cd_P_primeOrRefusal_JI 8 = .ok (.iload_n 3, 1) := by decide +kernel
theorem dd_P_primeOrRefusal_JI_9 : decode cd_P_primeOrRefusal_JI 9 = .ok (.invokevirtual 110, 3) := by decide +kernel
theorem dd_P_primeOrRefusal_JI_12 : decode cd_P_primeOrRefusal_JI 12 = .ok (.ifCond .ne 8, 3) := by decide +kernel
theorem dd_P_primeOrRefusal_JI_15 : decode cd_P_primeOrRefusal_JI 15 = .ok (.bipush (-2), 2) := by decide +kernel
theorem dd_P_primeOrRefusal_JI_17 : decode cd_P_primeOrRefusal_JI 17 = .ok (.goto 8, 3) := by decide +kernel
theorem dd_P_primeOrRefusal_JI_20 : decode cd_P_primeOrRefusal_JI 20 = .ok (.aload_n 0, 1) := by decide +kernel
theorem dd_P_primeOrRefusal_JI_21 : decode cd_P_primeOrRefusal_JI 21 = .ok (.lload_n 1, 1) := by decide +kernel
theorem dd_P_primeOrRefusal_JI_22 : decode cd_P_primeOrRefusal_JI 22 = .ok (.invokevirtual 74, 3) := by decide +kernel
theorem dd_P_primeOrRefusal_JI_25 : decode cd_P_primeOrRefusal_JI 25 = .ok (.ireturn, 1) := by decide +kernel
theorem dd_P_isEpoch_0 : decode cd_P_isEpoch 0 = .ok (.iload_n 1, 1) := by decide +kernel
theorem dd_P_isEpoch_1 : decode cd_P_isEpoch 1 = .ok (.ifCond .lt 15, 3) := by decide +kernel
theorem dd_P_isEpoch_4 : decode cd_P_isEpoch 4 = .ok (.iload_n 1, 1) := by decide +kernel
theorem dd_P_isEpoch_5 : decode cd_P_isEpoch 5 = .ok (.aload_n 0, 1) := by decide +kernel
theorem dd_P_isEpoch_6 : decode cd_P_isEpoch 6 = .ok (.getfield 100, 3) := by decide +kernel
theorem dd_P_isEpoch_9 : decode cd_P_isEpoch 9 = .ok (.if_icmp .gt 7, 3) := by decide +kernel
theorem dd_P_isEpoch_12 : decode cd_P_isEpoch 12 = .ok (.iconst 1, 1) := by decide +kernel
theorem dd_P_isEpoch_13 : decode cd_P_isEpoch 13 = .ok (.goto 4, 3) := by decide +kernel
theorem dd_P_isEpoch_16 : decode cd_P_isEpoch 16 = .ok (.iconst 0, 1) := by decide +kernel
theorem dd_P_isEpoch_17 : decode cd_P_isEpoch 17 = .ok (.ireturn, 1) := by decide +kernel
theorem dd_P_isPresentSince_0 : decode cd_P_isPresentSince 0 = .ok (.iload_n 3, 1) := by decide +kernel
theorem dd_P_isPresentSince_1 : decode cd_P_isPresentSince 1 = .ok (.istore 4, 2) := by decide +kernel
theorem dd_P_isPresentSince_3 : decode cd_P_isPresentSince 3 = .ok (.iload 4, 2) := by decide +kernel
theorem dd_P_isPresentSince_5 : decode cd_P_isPresentSince 5 = .ok (.aload_n 0, 1) := by decide +kernel
theorem dd_P_isPresentSince_6 : decode cd_P_isPresentSince 6 = .ok (.getfield 100, 3) := by decide +kernel
theorem dd_P_isPresentSince_9 : decode cd_P_isPresentSince 9 = .ok (.if_icmp .gt 28, 3) := by decide +kernel
theorem dd_P_isPresentSince_12 : decode cd_P_isPresentSince 12 = .ok (.aload_n 0, 1) := by decide +kernel
theorem dd_P_isPresentSince_13 : decode cd_P_isPresentSince 13 = .ok (.getfield 32, 3) := by decide +kernel
theorem dd_P_isPresentSince_16 : decode cd_P_isPresentSince 16 = .ok (.iload 4, 2) := by decide +kernel
theorem dd_P_isPresentSince_18 : decode cd_P_isPresentSince 18 = .ok (.aaload, 1) := by decide +kernel
theorem dd_P_isPresentSince_19 : decode cd_P_isPresentSince 19 = .ok (.getfield 103, 3) := by decide +kernel
theorem dd_P_isPresentSince_22 : decode cd_P_isPresentSince 22 = .ok (.lload_n 1, 1) := by decide +kernel
theorem dd_P_isPresentSince_23 : decode cd_P_isPresentSince 23 = .ok (.invokevirtual 77, 3) := by decide +kernel
theorem dd_P_isPresentSince_26 : decode cd_P_isPresentSince 26 = .ok (.ifCond .ne 5, 3) := by decide +kernel
theorem dd_P_isPresentSince_29 : decode cd_P_isPresentSince 29 = .ok (.iconst 0, 1) := by decide +kernel
theorem dd_P_isPresentSince_30 : decode cd_P_isPresentSince 30 = .ok (.ireturn, 1) := by decide +kernel
theorem dd_P_isPresentSince_31 : decode cd_P_isPresentSince 31 = .ok (.iinc 4 1, 3) := by decide +kernel
theorem dd_P_isPresentSince_34 : decode cd_P_isPresentSince 34 = .ok (.goto (-31), 3) := by decide +kernel
theorem dd_P_isPresentSince_37 : decode cd_P_isPresentSince 37 = .ok (.iconst 1, 1) := by decide +kernel
theorem dd_P_isPresentSince_38 : decode cd_P_isPresentSince 38 = .ok (.ireturn, 1) := by decide +kernel
theorem dd_P_holdsWitness_0 : decode cd_P_holdsWitness 0 = .ok (.aload_n 0, 1) := by decide +kernel
theorem dd_P_holdsWitness_1 : decode cd_P_holdsWitness 1 = .ok (.getfield 50, 3) := by decide +kernel
theorem dd_P_holdsWitness_4 : decode cd_P_holdsWitness 4 = .ok (.iload_n 1, 1) := by decide +kernel
theorem dd_P_holdsWitness_5 : decode cd_P_holdsWitness 5 = .ok (.invokevirtual 160, 3) := by decide +kernel
theorem dd_P_holdsWitness_8 : decode cd_P_holdsWitness 8 = .ok (.aload_n 0, 1) := by decide +kernel
theorem dd_P_holdsWitness_9 : decode cd_P_holdsWitness 9 = .ok (.getfield 19, 3) := by decide +kernel
theorem dd_P_holdsWitness_12 : decode cd_P_holdsWitness 12 = .ok (.aload_n 0, 1) := by decide +kernel
theorem dd_P_holdsWitness_13 : decode cd_P_holdsWitness 13 = .ok (.getfield 37, 3) := by decide +kernel
theorem dd_P_holdsWitness_16 : decode cd_P_holdsWitness 16 = .ok (.aload_n 0, 1) := by decide +kernel
theorem dd_P_holdsWitness_17 : decode cd_P_holdsWitness 17 = .ok (.getfield 50, 3) := by decide +kernel
theorem dd_P_holdsWitness_20 : decode cd_P_holdsWitness 20 = .ok (.aload_n 0, 1) := by decide +kernel
theorem dd_P_holdsWitness_21 : decode cd_P_holdsWitness 21 = .ok (.getfield 41, 3) := by decide +kernel
theorem dd_P_holdsWitness_24 : decode cd_P_holdsWitness 24 = .ok (.invokevirtual 173, 3) := by decide +kernel
theorem dd_P_holdsWitness_27 : decode cd_P_holdsWitness 27 = .ok (.aload_n 0, 1) := by decide +kernel
theorem dd_P_holdsWitness_28 : decode cd_P_holdsWitness 28 = .ok (.getfield 41, 3) := by decide +kernel
theorem dd_P_holdsWitness_31 : decode cd_P_holdsWitness 31 = .ok (.aload_n 0, 1) := by decide +kernel
theorem dd_P_holdsWitness_32 : decode cd_P_holdsWitness 32 = .ok (.getfield 32, 3) := by decide +kernel
theorem dd_P_holdsWitness_35 : decode cd_P_holdsWitness 35 = .ok (.iload_n 2, 1) := by decide +kernel
theorem dd_P_holdsWitness_36 : decode cd_P_holdsWitness 36 = .ok (.aaload, 1) := by decide +kernel
theorem dd_P_holdsWitness_37 : decode cd_P_holdsWitness 37 = .ok (.getfield 113, 3) := by decide +kernel
theorem dd_P_holdsWitness_40 : decode cd_P_holdsWitness 40 = .ok (.invokestatic 184, 3) := by decide +kernel
theorem dd_P_holdsWitness_43 : decode cd_P_holdsWitness 43 = .ok (.ireturn, 1) := by decide +kernel
theorem dd_P_publish_0 : decode cd_P_publish 0 = .ok (.aload_n 0, 1) := by decide +kernel
theorem dd_P_publish_1 : decode cd_P_publish 1 = .ok (.getfield 50, 3) := by decide +kernel
theorem dd_P_publish_4 : decode cd_P_publish 4 = .ok (.iconst 1, 1) := by decide +kernel
theorem dd_P_publish_5 : decode cd_P_publish 5 = .ok (.invokevirtual 160, 3) := by decide +kernel
theorem dd_P_publish_8 : decode cd_P_publish 8 = .ok (.aload_n 1, 1) := by decide +kernel
theorem dd_P_publish_9 : decode cd_P_publish 9 = .ok (.getfield 103, 3) := by decide +kernel
theorem dd_P_publish_12 : decode cd_P_publish 12 = .ok (.aload_n 0, 1) := by decide +kernel
theorem dd_P_publish_13 : decode cd_P_publish 13 = .ok (.getfield 50, 3) := by decide +kernel
theorem dd_P_publish_16 : decode cd_P_publish 16 = .ok (.invokevirtual 162, 3) := by decide +kernel
theorem dd_P_publish_19 : decode cd_P_publish 19 = .ok (.aload_n 0, 1) := by decide +kernel
theorem dd_P_publish_20 : decode cd_P_publish 20 = .ok (.getfield 19, 3) := by decide +kernel
theorem dd_P_publish_23 : decode cd_P_publish 23 = .ok (.aload_n 0, 1) := by decide +kernel
theorem dd_P_publish_24 : decode cd_P_publish 24 = .ok (.getfield 19, 3) := by decide +kernel
theorem dd_P_publish_27 : decode cd_P_publish 27 = .ok (.getfield 181, 3) := by decide +kernel
theorem dd_P_publish_30 : decode cd_P_publish 30 = .ok (.aload_n 0, 1) := by decide +kernel
theorem dd_P_publish_31 : decode cd_P_publish 31 = .ok (.getfield 50, 3) := by decide +kernel
theorem dd_P_publish_34 : decode cd_P_publish 34 = .ok (.aload_n 1, 1) := by decide +kernel
theorem dd_P_publish_35 : decode cd_P_publish 35 = .ok (.getfield 113, 3) := by decide +kernel
theorem dd_P_publish_38 : decode cd_P_publish 38 = .ok (.invokevirtual 173, 3) := by decide +kernel
theorem dd_P_publish_41 : decode cd_P_publish 41 = .ok (.aload_n 0, 1) := by decide +kernel
theorem dd_P_publish_42 : decode cd_P_publish 42 = .ok (.getfield 19, 3) := by decide +kernel
theorem dd_P_publish_45 : decode cd_P_publish 45 = .ok (.aload_n 0, 1) := by decide +kernel
theorem dd_P_publish_46 : decode cd_P_publish 46 = .ok (.getfield 19, 3) := by decide +kernel
theorem dd_P_publish_49 : decode cd_P_publish 49 = .ok (.getfield 170, 3) := by decide +kernel
theorem dd_P_publish_52 : decode cd_P_publish 52 = .ok (.aload_n 0, 1) := by decide +kernel
theorem dd_P_publish_53 : decode cd_P_publish 53 = .ok (.getfield 50, 3) := by decide +kernel
theorem dd_P_publish_56 : decode cd_P_publish 56 = .ok (.aload_n 1, 1) := by decide +kernel
theorem dd_P_publish_57 : decode cd_P_publish 57 = .ok (.getfield 188, 3) := by decide +kernel
theorem dd_P_publish_60 : decode cd_P_publish 60 = .ok (.invokevirtual 173, 3) := by decide +kernel
theorem dd_P_publish_63 : decode cd_P_publish 63 = .ok (.return_, 1) := by decide +kernel
theorem dd_P_computeIssued_0 : decode cd_P_computeIssued 0 = .ok (.aload_n 0, 1) := by decide +kernel
theorem dd_P_computeIssued_1 : decode cd_P_computeIssued 1 = .ok (.getfield 50, 3) := by decide +kernel
theorem dd_P_computeIssued_4 : decode cd_P_computeIssued 4 = .ok (.iconst 1, 1) := by decide +kernel
theorem dd_P_computeIssued_5 : decode cd_P_computeIssued 5 = .ok (.invokevirtual 160, 3) := by decide +kernel
theorem dd_P_computeIssued_8 : decode cd_P_computeIssued 8 = .ok (.aload_n 0, 1) := by decide +kernel
theorem dd_P_computeIssued_9 : decode cd_P_computeIssued 9 = .ok (.getfield 32, 3) := by decide +kernel
theorem dd_P_computeIssued_12 : decode cd_P_computeIssued 12 = .ok (.aload_n 0, 1) := by decide +kernel
theorem dd_P_computeIssued_13 : decode cd_P_computeIssued 13 = .ok (.getfield 100, 3) := by decide +kernel
theorem dd_P_computeIssued_16 : decode cd_P_computeIssued 16 = .ok (.aaload, 1) := by decide +kernel
theorem dd_P_computeIssued_17 : decode cd_P_computeIssued 17 = .ok (.getfield 103, 3) := by decide +kernel
theorem dd_P_computeIssued_20 : decode cd_P_computeIssued 20 = .ok (.lload_n 1, 1) := by decide +kernel
theorem dd_P_computeIssued_21 : decode cd_P_computeIssued 21 = .ok (.aload_n 0, 1) := by decide +kernel
theorem dd_P_computeIssued_22 : decode cd_P_computeIssued 22 = .ok (.getfield 50, 3) := by decide +kernel
theorem dd_P_computeIssued_25 : decode cd_P_computeIssued 25 = .ok (.invokevirtual 191, 3) := by decide +kernel
theorem dd_P_computeIssued_28 : decode cd_P_computeIssued 28 = .ok (.aload_n 0, 1) := by decide +kernel
theorem dd_P_computeIssued_29 : decode cd_P_computeIssued 29 = .ok (.getfield 19, 3) := by decide +kernel
theorem dd_P_computeIssued_32 : decode cd_P_computeIssued 32 = .ok (.aload_n 0, 1) := by decide +kernel
theorem dd_P_computeIssued_33 : decode cd_P_computeIssued 33 = .ok (.getfield 19, 3) := by decide +kernel
theorem dd_P_computeIssued_36 : decode cd_P_computeIssued 36 = .ok (.getfield 181, 3) := by decide +kernel
theorem dd_P_computeIssued_39 : decode cd_P_computeIssued 39 = .ok (.aload_n 0, 1) := by decide +kernel
theorem dd_P_computeIssued_40 : decode cd_P_computeIssued 40 = .ok (.getfield 50, 3) := by decide +kernel
theorem dd_P_computeIssued_43 : decode cd_P_computeIssued 43 = .ok (.aload_n 3, 1) := by decide +kernel
theorem dd_P_computeIssued_44 : decode cd_P_computeIssued 44 = .ok (.invokevirtual 173, 3) := by decide +kernel
theorem dd_P_computeIssued_47 : decode cd_P_computeIssued 47 = .ok (.return_, 1) := by decide +kernel
theorem dd_P_takeInAdded_0 : decode cd_P_takeInAdded 0 = .ok (.aload_n 0, 1) := by decide +kernel
theorem dd_P_takeInAdded_1 : decode cd_P_takeInAdded 1 = .ok (.getfield 50, 3) := by decide +kernel
theorem dd_P_takeInAdded_4 : decode cd_P_takeInAdded 4 = .ok (.iconst 1, 1) := by decide +kernel
theorem dd_P_takeInAdded_5 : decode cd_P_takeInAdded 5 = .ok (.invokevirtual 160, 3) := by decide +kernel
theorem dd_P_takeInAdded_8 : decode cd_P_takeInAdded 8 = .ok (.aload_n 0, 1) := by decide +kernel
theorem dd_P_takeInAdded_9 : decode cd_P_takeInAdded 9 = .ok (.getfield 32, 3) := by decide +kernel
theorem dd_P_takeInAdded_12 : decode cd_P_takeInAdded 12 = .ok (.iload_n 1, 1) := by decide +kernel
theorem dd_P_takeInAdded_13 : decode cd_P_takeInAdded 13 = .ok (.aaload, 1) := by decide +kernel
theorem dd_P_takeInAdded_14 : decode cd_P_takeInAdded 14 = .ok (.getfield 103, 3) := by decide +kernel
theorem dd_P_takeInAdded_17 : decode cd_P_takeInAdded 17 = .ok (.aload_n 0, 1) := by decide +kernel
theorem dd_P_takeInAdded_18 : decode cd_P_takeInAdded 18 = .ok (.getfield 32, 3) := by decide +kernel
theorem dd_P_takeInAdded_21 : decode cd_P_takeInAdded 21 = .ok (.iload_n 1, 1) := by decide +kernel
theorem dd_P_takeInAdded_22 : decode cd_P_takeInAdded 22 = .ok (.iconst 1, 1) := by decide +kernel
theorem dd_P_takeInAdded_23 : decode cd_P_takeInAdded 23 = .ok (.isub, 1) := by decide +kernel
theorem dd_P_takeInAdded_24 : decode cd_P_takeInAdded 24 = .ok (.aaload, 1) := by decide +kernel
theorem dd_P_takeInAdded_25 : decode cd_P_takeInAdded 25 = .ok (.getfield 103, 3) := by decide +kernel
theorem dd_P_takeInAdded_28 : decode cd_P_takeInAdded 28 = .ok (.aload_n 0, 1) := by decide +kernel
theorem dd_P_takeInAdded_29 : decode cd_P_takeInAdded 29 = .ok (.getfield 50, 3) := by decide +kernel
theorem dd_P_takeInAdded_32 : decode cd_P_takeInAdded 32 = .ok (.invokevirtual 195, 3) := by decide +kernel
theorem dd_P_takeInAdded_35 : decode cd_P_takeInAdded 35 = .ok (.aload_n 0, 1) := by decide +kernel
theorem dd_P_takeInAdded_36 : decode cd_P_takeInAdded 36 = .ok (.getfield 19, 3) := by decide +kernel
theorem dd_P_takeInAdded_39 : decode cd_P_takeInAdded 39 = .ok (.aload_n 0, 1) := by decide +kernel
theorem dd_P_takeInAdded_40 : decode cd_P_takeInAdded 40 = .ok (.getfield 37, 3) := by decide +kernel
theorem dd_P_takeInAdded_43 : decode cd_P_takeInAdded 43 = .ok (.aload_n 0, 1) := by decide +kernel
theorem dd_P_takeInAdded_44 : decode cd_P_takeInAdded 44 = .ok (.getfield 50, 3) := by decide +kernel
theorem dd_P_takeInAdded_47 : decode cd_P_takeInAdded 47 = .ok (.aload_n 0, 1) := by decide +kernel
theorem dd_P_takeInAdded_48 : decode cd_P_takeInAdded 48 = .ok (.getfield 37, 3) := by decide +kernel
theorem dd_P_takeInAdded_51 : decode cd_P_takeInAdded 51 = .ok (.invokevirtual 173, 3) := by decide +kernel
theorem dd_P_takeInAdded_54 : decode cd_P_takeInAdded 54 = .ok (.return_, 1) := by decide +kernel
theorem dd_P_takeOutRemoved_0 : decode cd_P_takeOutRemoved 0 = .ok (.aload_n 0, 1) := by decide +kernel
theorem dd_P_takeOutRemoved_1 : decode cd_P_takeOutRemoved 1 = .ok (.getfield 50, 3) := by decide +kernel
theorem dd_P_takeOutRemoved_4 : decode cd_P_takeOutRemoved 4 = .ok (.iconst 1, 1) := by decide +kernel
theorem dd_P_takeOutRemoved_5 : decode cd_P_takeOutRemoved 5 = .ok (.invokevirtual 160, 3) := by decide +kernel
theorem dd_P_takeOutRemoved_8 : decode cd_P_takeOutRemoved 8 = .ok (.aload_n 0, 1) := by decide +kernel
theorem dd_P_takeOutRemoved_9 : decode cd_P_takeOutRemoved 9 = .ok (.getfield 32, 3) := by decide +kernel
theorem dd_P_takeOutRemoved_12 : decode cd_P_takeOutRemoved 12 = .ok (.iload_n 1, 1) := by decide +kernel
theorem dd_P_takeOutRemoved_13 : decode cd_P_takeOutRemoved 13 = .ok (.iconst 1, 1) := by decide +kernel
theorem dd_P_takeOutRemoved_14 : decode cd_P_takeOutRemoved 14 = .ok (.isub, 1) := by decide +kernel
theorem dd_P_takeOutRemoved_15 : decode cd_P_takeOutRemoved 15 = .ok (.aaload, 1) := by decide +kernel
theorem dd_P_takeOutRemoved_16 : decode cd_P_takeOutRemoved 16 = .ok (.getfield 103, 3) := by decide +kernel
theorem dd_P_takeOutRemoved_19 : decode cd_P_takeOutRemoved 19 = .ok (.aload_n 0, 1) := by decide +kernel
theorem dd_P_takeOutRemoved_20 : decode cd_P_takeOutRemoved 20 = .ok (.getfield 32, 3) := by decide +kernel
theorem dd_P_takeOutRemoved_23 : decode cd_P_takeOutRemoved 23 = .ok (.iload_n 1, 1) := by decide +kernel
theorem dd_P_takeOutRemoved_24 : decode cd_P_takeOutRemoved 24 = .ok (.aaload, 1) := by decide +kernel
theorem dd_P_takeOutRemoved_25 : decode cd_P_takeOutRemoved 25 = .ok (.getfield 103, 3) := by decide +kernel
theorem dd_P_takeOutRemoved_28 : decode cd_P_takeOutRemoved 28 = .ok (.aload_n 0, 1) := by decide +kernel
theorem dd_P_takeOutRemoved_29 : decode cd_P_takeOutRemoved 29 = .ok (.getfield 50, 3) := by decide +kernel
theorem dd_P_takeOutRemoved_32 : decode cd_P_takeOutRemoved 32 = .ok (.invokevirtual 195, 3) := by decide +kernel
theorem dd_P_takeOutRemoved_35 : decode cd_P_takeOutRemoved 35 = .ok (.aload_n 0, 1) := by decide +kernel
theorem dd_P_takeOutRemoved_36 : decode cd_P_takeOutRemoved 36 = .ok (.iload_n 2, 1) := by decide +kernel
theorem dd_P_takeOutRemoved_37 : decode cd_P_takeOutRemoved 37 = .ok (.invokevirtual 166, 3) := by decide +kernel
theorem dd_P_takeOutRemoved_40 : decode cd_P_takeOutRemoved 40 = .ok (.istore_n 3, 1) := by decide +kernel
theorem dd_P_takeOutRemoved_41 : decode cd_P_takeOutRemoved 41 = .ok (.aload_n 0, 1) := by decide +kernel
theorem dd_P_takeOutRemoved_42 : decode cd_P_takeOutRemoved 42 = .ok (.getfield 19, 3) := by decide +kernel
theorem dd_P_takeOutRemoved_45 : decode cd_P_takeOutRemoved 45 = .ok (.aload_n 0, 1) := by decide +kernel
theorem dd_P_takeOutRemoved_46 : decode cd_P_takeOutRemoved 46 = .ok (.getfield 32, 3) := by decide +kernel
theorem dd_P_takeOutRemoved_49 : decode cd_P_takeOutRemoved 49 = .ok (.iload_n 1, 1) := by decide +kernel
theorem dd_P_takeOutRemoved_50 : decode cd_P_takeOutRemoved 50 = .ok (.aaload, 1) := by decide +kernel
theorem dd_P_takeOutRemoved_51 : decode cd_P_takeOutRemoved 51 = .ok (.getfield 188, 3) := by decide +kernel
theorem dd_P_takeOutRemoved_54 : decode cd_P_takeOutRemoved 54 = .ok (.aload_n 0, 1) := by decide +kernel
theorem dd_P_takeOutRemoved_55 : decode cd_P_takeOutRemoved 55 = .ok (.getfield 50, 3) := by decide +kernel
theorem dd_P_takeOutRemoved_58 : decode cd_P_takeOutRemoved 58 = .ok (.aload_n 0, 1) := by decide +kernel
theorem dd_P_takeOutRemoved_59 : decode cd_P_takeOutRemoved 59 = .ok (.getfield 41, 3) := by decide +kernel
theorem dd_P_takeOutRemoved_62 : decode cd_P_takeOutRemoved 62 = .ok (.invokevirtual 173, 3) := by decide +kernel
theorem dd_P_takeOutRemoved_65 : decode cd_P_takeOutRemoved 65 = .ok (.aload_n 0, 1) := by decide +kernel
theorem dd_P_takeOutRemoved_66 : decode cd_P_takeOutRemoved 66 = .ok (.getfield 50, 3) := by decide +kernel
theorem dd_P_takeOutRemoved_69 : decode cd_P_takeOutRemoved 69 = .ok (.iload_n 3, 1) := by decide +kernel
theorem dd_P_takeOutRemoved_70 : decode cd_P_takeOutRemoved 70 = .ok (.invokevirtual 160, 3) := by decide +kernel
theorem dd_P_takeOutRemoved_73 : decode cd_P_takeOutRemoved 73 = .ok (.aload_n 0, 1) := by decide +kernel
theorem dd_P_takeOutRemoved_74 : decode cd_P_takeOutRemoved 74 = .ok (.getfield 19, 3) := by decide +kernel
theorem dd_P_takeOutRemoved_77 : decode cd_P_takeOutRemoved 77 = .ok (.aload_n 0, 1) := by decide +kernel
theorem dd_P_takeOutRemoved_78 : decode cd_P_takeOutRemoved 78 = .ok (.getfield 37, 3) := by decide +kernel
theorem dd_P_takeOutRemoved_81 : decode cd_P_takeOutRemoved 81 = .ok (.aload_n 0, 1) := by decide +kernel
theorem dd_P_takeOutRemoved_82 : decode cd_P_takeOutRemoved 82 = .ok (.getfield 50, 3) := by decide +kernel
theorem dd_P_takeOutRemoved_85 : decode cd_P_takeOutRemoved 85 = .ok (.aload_n 0, 1) := by decide +kernel
theorem dd_P_takeOutRemoved_86 : decode cd_P_takeOutRemoved 86 = .ok (.getfield 37, 3) := by decide +kernel
theorem dd_P_takeOutRemoved_89 : decode cd_P_takeOutRemoved 89 = .ok (.invokevirtual 173, 3) := by decide +kernel
theorem dd_P_takeOutRemoved_92 : decode cd_P_takeOutRemoved 92 = .ok (.aload_n 0, 1) := by decide +kernel
theorem dd_P_takeOutRemoved_93 : decode cd_P_takeOutRemoved 93 = .ok (.getfield 19, 3) := by decide +kernel
theorem dd_P_takeOutRemoved_96 : decode cd_P_takeOutRemoved 96 = .ok (.aload_n 0, 1) := by decide +kernel
theorem dd_P_takeOutRemoved_97 : decode cd_P_takeOutRemoved 97 = .ok (.getfield 37, 3) := by decide +kernel
theorem dd_P_takeOutRemoved_100 : decode cd_P_takeOutRemoved 100 = .ok (.aload_n 0, 1) := by decide +kernel
theorem dd_P_takeOutRemoved_101 : decode cd_P_takeOutRemoved 101 = .ok (.getfield 41, 3) := by decide +kernel
theorem dd_P_takeOutRemoved_104 : decode cd_P_takeOutRemoved 104 = .ok (.aload_n 0, 1) := by decide +kernel
theorem dd_P_takeOutRemoved_105 : decode cd_P_takeOutRemoved 105 = .ok (.getfield 37, 3) := by decide +kernel
theorem dd_P_takeOutRemoved_108 : decode cd_P_takeOutRemoved 108 = .ok (.invokevirtual 177, 3) := by decide +kernel
theorem dd_P_takeOutRemoved_111 : decode cd_P_takeOutRemoved 111 = .ok (.return_, 1) := by decide +kernel
theorem dd_P_inverseThenQuotient_0 : decode cd_P_inverseThenQuotient 0 = .ok (.aload_n 0, 1) := by decide +kernel
theorem dd_P_inverseThenQuotient_1 : decode cd_P_inverseThenQuotient 1 = .ok (.getfield 50, 3) := by decide +kernel
theorem dd_P_inverseThenQuotient_4 : decode cd_P_inverseThenQuotient 4 = .ok (.iload_n 1, 1) := by decide +kernel
theorem dd_P_inverseThenQuotient_5 : decode cd_P_inverseThenQuotient 5 = .ok (.invokevirtual 199, 3) := by decide +kernel
theorem dd_P_inverseThenQuotient_8 : decode cd_P_inverseThenQuotient 8 = .ok (.iload_n 1, 1) := by decide +kernel
theorem dd_P_inverseThenQuotient_9 : decode cd_P_inverseThenQuotient 9 = .ok (.invokestatic 202, 3) := by decide +kernel
theorem dd_P_inverseThenQuotient_12 : decode cd_P_inverseThenQuotient 12 = .ok (.istore_n 2, 1) := by decide +kernel
theorem dd_P_inverseThenQuotient_13 : decode cd_P_inverseThenQuotient 13 = .ok (.aload_n 0, 1) := by decide +kernel
theorem dd_P_inverseThenQuotient_14 : decode cd_P_inverseThenQuotient 14 = .ok (.getfield 50, 3) := by decide +kernel
theorem dd_P_inverseThenQuotient_17 : decode cd_P_inverseThenQuotient 17 = .ok (.iload_n 2, 1) := by decide +kernel
theorem dd_P_inverseThenQuotient_18 : decode cd_P_inverseThenQuotient 18 = .ok (.invokevirtual 205, 3) := by decide +kernel
theorem dd_P_inverseThenQuotient_21 : decode cd_P_inverseThenQuotient 21 = .ok (.aload_n 0, 1) := by decide +kernel
theorem dd_P_inverseThenQuotient_22 : decode cd_P_inverseThenQuotient 22 = .ok (.getfield 50, 3) := by decide +kernel
theorem dd_P_inverseThenQuotient_25 : decode cd_P_inverseThenQuotient 25 = .ok (.iload_n 1, 1) := by decide +kernel
theorem dd_P_inverseThenQuotient_26 : decode cd_P_inverseThenQuotient 26 = .ok (.invokevirtual 207, 3) := by decide +kernel
theorem dd_P_inverseThenQuotient_29 : decode cd_P_inverseThenQuotient 29 = .ok (.iload_n 2, 1) := by decide +kernel
theorem dd_P_inverseThenQuotient_30 : decode cd_P_inverseThenQuotient 30 = .ok (.ireturn, 1) := by decide +kernel
