theorem dd_T_init_0 : decode cd_T_init 0 = .ok (.aload_n 0, 1) := by decide +kernel
theorem dd_T_init_1 : decode cd_T_init 1 = .ok (.invokespecial 3, 3) := by decide +kernel
theorem dd_T_init_4 : decode cd_T_init 4 = .ok (.aload_n 0, 1) := by decide +kernel
theorem dd_T_init_5 : decode cd_T_init 5 = .ok (.bipush 10, 2) := by decide +kernel
theorem dd_T_init_7 : decode cd_T_init 7 = .ok (.newarray .long, 2) := by decide +kernel
theorem dd_T_init_9 : decode cd_T_init 9 = .ok (.putfield 11, 3) := by decide +kernel
theorem dd_T_init_12 : decode cd_T_init 12 = .ok (.aload_n 0, 1) := by decide +kernel
theorem dd_T_init_13 : decode cd_T_init 13 = .ok (.bipush 10, 2) := by decide +kernel
theorem dd_T_init_15 : decode cd_T_init 15 = .ok (.newarray .int, 2) := by decide +kernel
theorem dd_T_init_17 : decode cd_T_init 17 = .ok (.putfield 15, 3) := by decide +kernel
theorem dd_T_init_20 : decode cd_T_init 20 = .ok (.return_, 1) := by decide +kernel
theorem dd_T_placeOf_0 : decode cd_T_placeOf 0 = .ok (.iconst 0, 1) := by decide +kernel
theorem dd_T_placeOf_1 : decode cd_T_placeOf 1 = .ok (.istore_n 3, 1) := by decide +kernel
theorem dd_T_placeOf_2 : decode cd_T_placeOf 2 = .ok (.iload_n 3, 1) := by decide +kernel
theorem dd_T_placeOf_3 : decode cd_T_placeOf 3 = .ok (.aload_n 0, 1) := by decide +kernel
theorem dd_T_placeOf_4 : decode cd_T_placeOf 4 = .ok (.getfield 19, 3) := by decide +kernel
theorem dd_T_placeOf_7 : decode cd_T_placeOf 7 = .ok (.if_icmp .ge 22, 3) := by decide +kernel
theorem dd_T_placeOf_10 : decode cd_T_placeOf 10 = .ok (.aload_n 0, 1) := by decide +kernel
theorem dd_T_placeOf_11 : decode cd_T_placeOf 11 = .ok (.getfield 11, 3) := by decide +kernel
theorem dd_T_placeOf_14 : decode cd_T_placeOf 14 = .ok (.iload_n 3, 1) := by decide +kernel
theorem dd_T_placeOf_15 : decode cd_T_placeOf 15 = .ok (.laload, 1) := by decide +kernel
theorem dd_T_placeOf_16 : decode cd_T_placeOf 16 = .ok (.lload_n 1, 1) := by decide +kernel
theorem dd_T_placeOf_17 : decode cd_T_placeOf 17 = .ok (.lcmp, 1) := by decide +kernel
theorem dd_T_placeOf_18 : decode cd_T_placeOf 18 = .ok (.ifCond .ne 5, 3) := by decide +kernel
theorem dd_T_placeOf_21 : decode cd_T_placeOf 21 = .ok (.iload_n 3, 1) := by decide +kernel
theorem dd_T_placeOf_22 : decode cd_T_placeOf 22 = .ok (.ireturn, 1) := by decide +kernel
theorem dd_T_placeOf_23 : decode cd_T_placeOf 23 = .ok (.iinc 3 1, 3) := by decide +kernel
theorem dd_T_placeOf_26 : decode cd_T_placeOf 26 = .ok (.goto (-24), 3) := by decide +kernel
theorem dd_T_placeOf_29 : decode cd_T_placeOf 29 = .ok (.iconst (-1), 1) := by decide +kernel
theorem dd_T_placeOf_30 : decode cd_T_placeOf 30 = .ok (.ireturn, 1) := by decide +kernel
theorem dd_T_has_0 : decode cd_T_has 0 = .ok (.aload_n 0, 1) := by decide +kernel
theorem dd_T_has_1 : decode cd_T_has 1 = .ok (.lload_n 1, 1) := by decide +kernel
theorem dd_T_has_2 : decode cd_T_has 2 = .ok (.invokevirtual 23, 3) := by decide +kernel
theorem dd_T_has_5 : decode cd_T_has 5 = .ok (.ifCond .lt 7, 3) := by decide +kernel
theorem dd_T_has_8 : decode cd_T_has 8 = .ok (.iconst 1, 1) := by decide +kernel
theorem dd_T_has_9 : decode cd_T_has 9 = .ok (.goto 4, 3) := by decide +kernel
theorem dd_T_has_12 : decode cd_T_has 12 = .ok (.iconst 0, 1) := by decide +kernel
theorem dd_T_has_13 : decode cd_T_has 13 = .ok (.ireturn, 1) := by decide +kernel
theorem dd_T_hasPrime_0 : decode cd_T_hasPrime 0 = .ok (.iconst 0, 1) := by decide +kernel
theorem dd_T_hasPrime_1 : decode cd_T_hasPrime 1 = .ok (.istore_n 2, 1) := by decide +kernel
theorem dd_T_hasPrime_2 : decode cd_T_hasPrime 2 = .ok (.iload_n 2, 1) := by decide +kernel
theorem dd_T_hasPrime_3 : decode cd_T_hasPrime 3 = .ok (.aload_n 0, 1) := by decide +kernel
theorem dd_T_hasPrime_4 : decode cd_T_hasPrime 4 = .ok (.getfield 19, 3) := by decide +kernel
theorem dd_T_hasPrime_7 : decode cd_T_hasPrime 7 = .ok (.if_icmp .ge 21, 3) := by decide +kernel
theorem dd_T_hasPrime_10 : decode cd_T_hasPrime 10 = .ok (.aload_n 0, 1) := by decide +kernel
theorem dd_T_hasPrime_11 : decode cd_T_hasPrime 11 = .ok (.getfield 15, 3) := by decide +kernel
theorem dd_T_hasPrime_14 : decode cd_T_hasPrime 14 = .ok (.iload_n 2, 1) := by decide +kernel
theorem dd_T_hasPrime_15 : decode cd_T_hasPrime 15 = .ok (.iaload, 1) := by decide +kernel
theorem dd_T_hasPrime_16 : decode cd_T_hasPrime 16 = .ok (.iload_n 1, 1) := by decide +kernel
theorem dd_T_hasPrime_17 : decode cd_T_hasPrime 17 = .ok (.if_icmp .ne 5, 3) := by decide +kernel
theorem dd_T_hasPrime_20 : decode cd_T_hasPrime 20 = .ok (.iconst 1, 1) := by decide +kernel
theorem dd_T_hasPrime_21 : decode cd_T_hasPrime 21 = .ok (.ireturn, 1) := by decide +kernel
theorem dd_T_hasPrime_22 : decode cd_T_hasPrime 22 = .ok (.iinc 2 1, 3) := by decide +kernel
theorem dd_T_hasPrime_25 : decode cd_T_hasPrime 25 = .ok (.goto (-23), 3) := by decide +kernel
theorem dd_T_hasPrime_28 : decode cd_T_hasPrime 28 = .ok (.iconst 0, 1) := by decide +kernel
theorem dd_T_hasPrime_29 : decode cd_T_hasPrime 29 = .ok (.ireturn, 1) := by decide +kernel
theorem dd_T_insert_0 : decode cd_T_insert 0 = .ok (.aload_n 0, 1) := by decide +kernel
theorem dd_T_insert_1 : decode cd_T_insert 1 = .ok (.getfield 19, 3) := by decide +kernel
theorem dd_T_insert_4 : decode cd_T_insert 4 = .ok (.bipush 10, 2) := by decide +kernel
theorem dd_T_insert_6 : decode cd_T_insert 6 = .ok (.if_icmp .lt 4, 3) := by decide +kernel
theorem dd_T_insert_9 : decode cd_T_insert 9 = .ok (.return_, 1) := by decide +kernel
theorem dd_T_insert_10 : decode cd_T_insert 10 = .ok (.aload_n 0, 1) := by decide +kernel
theorem dd_T_insert_11 : decode cd_T_insert 11 = .ok (.getfield 19, 3) := by decide +kernel
theorem dd_T_insert_14 : decode cd_T_insert 14 = .ok (.istore 4, 2) := by decide +kernel
theorem dd_T_insert_16 : decode cd_T_insert 16 = .ok (.iload 4, 2) := by decide +kernel
theorem dd_T_insert_18 : decode cd_T_insert 18 = .ok (.ifCond .le 55, 3) := by decide +kernel
theorem dd_T_insert_21 : decode cd_T_insert 21 = .ok (.aload_n 0, 1) := by decide +kernel
theorem dd_T_insert_22 : decode cd_T_insert 22 = .ok (.getfield 11, 3) := by decide +kernel
theorem dd_T_insert_25 : decode cd_T_insert 25 = .ok (.iload 4, 2) := by decide +kernel
theorem dd_T_insert_27 : decode cd_T_insert 27 = .ok (.iconst 1, 1) := by decide +kernel
theorem dd_T_insert_28 : decode cd_T_insert 28 = .ok (.isub, 1) := by decide +kernel
theorem dd_T_insert_29 : decode cd_T_insert 29 = .ok (.laload, 1) := by decide +kernel
theorem dd_T_insert_30 : decode cd_T_insert 30 = .ok (.lload_n 1, 1) := by decide +kernel
theorem dd_T_insert_31 : decode cd_T_insert 31 = .ok (.lcmp, 1) := by decide +kernel
theorem dd_T_insert_32 : decode cd_T_insert 32 = .ok (.ifCond .le 41, 3) := by decide +kernel
theorem dd_T_insert_35 : decode cd_T_insert 35 = .ok (.aload_n 0, 1) := by decide +kernel
theorem dd_T_insert_36 : decode cd_T_insert 36 = .ok (.getfield 11, 3) := by decide +kernel
theorem dd_T_insert_39 : decode cd_T_insert 39 = .ok (.iload 4, 2) := by decide +kernel
theorem dd_T_insert_41 : decode cd_T_insert 41 = .ok (.aload_n 0, 1) := by decide +kernel
theorem dd_T_insert_42 : decode cd_T_insert 42 = .ok (.getfield 11, 3) := by decide +kernel
theorem dd_T_insert_45 : decode cd_T_insert 45 = .ok (.iload 4, 2) := by decide +kernel
theorem dd_T_insert_47 : decode cd_T_insert 47 = .ok (.iconst 1, 1) := by decide +kernel
theorem dd_T_insert_48 : decode cd_T_insert 48 = .ok (.isub, 1) := by decide +kernel
theorem dd_T_insert_49 : decode cd_T_insert 49 = .ok (.laload, 1) := by decide +kernel
theorem dd_T_insert_50 : decode cd_T_insert 50 = .ok (.lastore, 1) := by decide +kernel
theorem dd_T_insert_51 : decode cd_T_insert 51 = .ok (.aload_n 0, 1) := by decide +kernel
theorem dd_T_insert_52 : decode cd_T_insert 52 = .ok (.getfield 15, 3) := by decide +kernel
theorem dd_T_insert_55 : decode cd_T_insert 55 = .ok (.iload 4, 2) := by decide +kernel
theorem dd_T_insert_57 : decode cd_T_insert 57 = .ok (.aload_n 0, 1) := by decide +kernel
theorem dd_T_insert_58 : decode cd_T_insert 58 = .ok (.getfield 15, 3) := by decide +kernel
theorem dd_T_insert_61 : decode cd_T_insert 61 = .ok (.iload 4, 2) := by decide +kernel
theorem dd_T_insert_63 : decode cd_T_insert 63 = .ok (.iconst 1, 1) := by decide +kernel
theorem dd_T_insert_64 : decode cd_T_insert 64 = .ok (.isub, 1) := by decide +kernel
theorem dd_T_insert_65 : decode cd_T_insert 65 = .ok (.iaload, 1) := by decide +kernel
theorem dd_T_insert_66 : decode cd_T_insert 66 = .ok (.iastore, 1) := by decide +kernel
theorem dd_T_insert_67 : decode cd_T_insert 67 = .ok (.iinc 4 (-1), 3) := by decide +kernel
theorem dd_T_insert_70 : decode cd_T_insert 70 = .ok (.goto (-54), 3) := by decide +kernel
theorem dd_T_insert_73 : decode cd_T_insert 73 = .ok (.aload_n 0, 1) := by decide +kernel
theorem dd_T_insert_74 : decode cd_T_insert 74 = .ok (.getfield 11, 3) := by decide +kernel
theorem dd_T_insert_77 : decode cd_T_insert 77 = .ok (.iload 4, 2) := by decide +kernel
theorem dd_T_insert_79 : decode cd_T_insert 79 = .ok (.lload_n 1, 1) := by decide +kernel
theorem dd_T_insert_80 : decode cd_T_insert 80 = .ok (.lastore, 1) := by decide +kernel
theorem dd_T_insert_81 : decode cd_T_insert 81 = .ok (.aload_n 0, 1) := by decide +kernel
theorem dd_T_insert_82 : decode cd_T_insert 82 = .ok (.getfield 15, 3) := by decide +kernel
theorem dd_T_insert_85 : decode cd_T_insert 85 = .ok (.iload 4, 2) := by decide +kernel
theorem dd_T_insert_87 : decode cd_T_insert 87 = .ok (.iload_n 3, 1) := by decide +kernel
theorem dd_T_insert_88 : decode cd_T_insert 88 = .ok (.iastore, 1) := by decide +kernel
theorem dd_T_insert_89 : decode cd_T_insert 89 = .ok (.aload_n 0, 1) := by decide +kernel
theorem dd_T_insert_90 : decode cd_T_insert 90 = .ok (.dup, 1) := by decide +kernel
theorem dd_T_insert_91 : decode cd_T_insert 91 = .ok (.getfield 19, 3) := by decide +kernel
theorem dd_T_insert_94 : decode cd_T_insert 94 = .ok (.iconst 1, 1) := by decide +kernel
theorem dd_T_insert_95 : decode cd_T_insert 95 = .ok (.iadd, 1) := by decide +kernel
theorem dd_T_insert_96 : decode cd_T_insert 96 = .ok (.putfield 19, 3) := by decide +kernel
theorem dd_T_insert_99 : decode cd_T_insert 99 = .ok (.return_, 1) := by decide +kernel
theorem dd_T_delete_0 : decode cd_T_delete 0 = .ok (.iload_n 1, 1) := by decide +kernel
theorem dd_T_delete_1 : decode cd_T_delete 1 = .ok (.iconst 1, 1) := by decide +kernel
theorem dd_T_delete_2 : decode cd_T_delete 2 = .ok (.iadd, 1) := by decide +kernel
theorem dd_T_delete_3 : decode cd_T_delete 3 = .ok (.istore_n 2, 1) := by decide +kernel
theorem dd_T_delete_4 : decode cd_T_delete 4 = .ok (.iload_n 2, 1) := by decide +kernel
theorem dd_T_delete_5 : decode cd_T_delete 5 = .ok (.aload_n 0, 1) := by decide +kernel
theorem dd_T_delete_6 : decode cd_T_delete 6 = .ok (.getfield 19, 3) := by decide +kernel
theorem dd_T_delete_9 : decode cd_T_delete 9 = .ok (.if_icmp .ge 37, 3) := by decide +kernel
theorem dd_T_delete_12 : decode cd_T_delete 12 = .ok (.aload_n 0, 1) := by decide +kernel
theorem dd_T_delete_13 : decode cd_T_delete 13 = .ok (.getfield 11, 3) := by decide +kernel
theorem dd_T_delete_16 : decode cd_T_delete 16 = .ok (.iload_n 2, 1) := by decide +kernel
theorem dd_T_delete_17 : decode cd_T_delete 17 = .ok (.iconst 1, 1) := by decide +kernel
theorem dd_T_delete_18 : decode cd_T_delete 18 = .ok (.isub, 1) := by decide +kernel
theorem dd_T_delete_19 : decode cd_T_delete 19 = .ok (.aload_n 0, 1) := by decide +kernel
theorem dd_T_delete_20 : decode cd_T_delete 20 = .ok (.getfield 11, 3) := by decide +kernel
theorem dd_T_delete_23 : decode cd_T_delete 23 = .ok (.iload_n 2, 1) := by decide +kernel
theorem dd_T_delete_24 : decode cd_T_delete 24 = .ok (.laload, 1) := by decide +kernel
theorem dd_T_delete_25 : decode cd_T_delete 25 = .ok (.lastore, 1) := by decide +kernel
theorem dd_T_delete_26 : decode cd_T_delete 26 = .ok (.aload_n 0, 1) := by decide +kernel
theorem dd_T_delete_27 : decode cd_T_delete 27 = .ok (.getfield 15, 3) := by decide +kernel
theorem dd_T_delete_30 : decode cd_T_delete 30 = .ok (.iload_n 2, 1) := by decide +kernel
theorem dd_T_delete_31 : decode cd_T_delete 31 = .ok (.iconst 1, 1) := by decide +kernel
theorem dd_T_delete_32 : decode cd_T_delete 32 = .ok (.isub, 1) := by decide +kernel
theorem dd_T_delete_33 : decode cd_T_delete 33 = .ok (.aload_n 0, 1) := by decide +kernel
theorem dd_T_delete_34 : decode cd_T_delete 34 = .ok (.getfield 15, 3) := by decide +kernel
theorem dd_T_delete_37 : decode cd_T_delete 37 = .ok (.iload_n 2, 1) := by decide +kernel
theorem dd_T_delete_38 : decode cd_T_delete 38 = .ok (.iaload, 1) := by decide +kernel
theorem dd_T_delete_39 : decode cd_T_delete 39 = .ok (.iastore, 1) := by decide +kernel
theorem dd_T_delete_40 : decode cd_T_delete 40 = .ok (.iinc 2 1, 3) := by decide +kernel
theorem dd_T_delete_43 : decode cd_T_delete 43 = .ok (.goto (-39), 3) := by decide +kernel
theorem dd_T_delete_46 : decode cd_T_delete 46 = .ok (.aload_n 0, 1) := by decide +kernel
theorem dd_T_delete_47 : decode cd_T_delete 47 = .ok (.dup, 1) := by decide +kernel
theorem dd_T_delete_48 : decode cd_T_delete 48 = .ok (.getfield 19, 3) := by decide +kernel
theorem dd_T_delete_51 : decode cd_T_delete 51 = .ok (.iconst 1, 1) := by decide +kernel
theorem dd_T_delete_52 : decode cd_T_delete 52 = .ok (.isub, 1) := by decide +kernel
theorem dd_T_delete_53 : decode cd_T_delete 53 = .ok (.putfield 19, 3) := by decide +kernel
theorem dd_T_delete_56 : decode cd_T_delete 56 = .ok (.return_, 1) := by decide +kernel
theorem dd_T_become_0 : decode cd_T_become 0 = .ok (.aload_n 1, 1) := by decide +kernel
theorem dd_T_become_1 : decode cd_T_become 1 = .ok (.getfield 11, 3) := by decide +kernel
theorem dd_T_become_4 : decode cd_T_become 4 = .ok (.iconst 0, 1) := by decide +kernel
theorem dd_T_become_5 : decode cd_T_become 5 = .ok (.aload_n 0, 1) := by decide +kernel
theorem dd_T_become_6 : decode cd_T_become 6 = .ok (.getfield 11, 3) := by decide +kernel
theorem dd_T_become_9 : decode cd_T_become 9 = .ok (.iconst 0, 1) := by decide +kernel
theorem dd_T_become_10 : decode cd_T_become 10 = .ok (.bipush 10, 2) := by decide +kernel
theorem dd_T_become_12 : decode cd_T_become 12 = .ok (.invokestatic 27, 3) := by decide +kernel
theorem dd_T_become_15 : decode cd_T_become 15 = .ok (.aload_n 1, 1) := by decide +kernel
theorem dd_T_become_16 : decode cd_T_become 16 = .ok (.getfield 15, 3) := by decide +kernel
theorem dd_T_become_19 : decode cd_T_become 19 = .ok (.iconst 0, 1) := by decide +kernel
theorem dd_T_become_20 : decode cd_T_become 20 = .ok (.aload_n 0, 1) := by decide +kernel
theorem dd_T_become_21 : decode cd_T_become 21 = .ok (.getfield 15, 3) := by decide +kernel
theorem dd_T_become_24 : decode cd_T_become 24 = .ok (.iconst 0, 1) := by decide +kernel
theorem dd_T_become_25 : decode cd_T_become 25 = .ok (.bipush 10, 2) := by decide +kernel
theorem dd_T_become_27 : decode cd_T_become 27 = .ok (.invokestatic 27, 3) := by decide +kernel
theorem dd_T_become_30 : decode cd_T_become 30 = .ok (.aload_n 0, 1) := by decide +kernel
theorem dd_T_become_31 : decode cd_T_become 31 = .ok (.aload_n 1, 1) := by decide +kernel
theorem dd_T_become_32 : decode cd_T_become 32 = .ok (.getfield 19, 3) := by decide +kernel
theorem dd_T_become_35 : decode cd_T_become 35 = .ok (.putfield 19, 3) := by decide +kernel
theorem dd_T_become_38 : decode cd_T_become 38 = .ok (.return_, 1) := by decide +kernel
theorem dd_T_countOutside_0 : decode cd_T_countOutside 0 = .ok (.iconst 0, 1) := by decide +kernel
theorem dd_T_countOutside_1 : decode cd_T_countOutside 1 = .ok (.istore_n 2, 1) := by decide +kernel
theorem dd_T_countOutside_2 : decode cd_T_countOutside 2 = .ok (.iconst 0, 1) := by decide +kernel
theorem dd_T_countOutside_3 : decode cd_T_countOutside 3 = .ok (.istore_n 3, 1) := by decide +kernel
theorem dd_T_countOutside_4 : decode cd_T_countOutside 4 = .ok (.iload_n 3, 1) := by decide +kernel
theorem dd_T_countOutside_5 : decode cd_T_countOutside 5 = .ok (.aload_n 0, 1) := by decide +kernel
theorem dd_T_countOutside_6 : decode cd_T_countOutside 6 = .ok (.getfield 19, 3) := by decide +kernel
theorem dd_T_countOutside_9 : decode cd_T_countOutside 9 = .ok (.if_icmp .ge 25, 3) := by decide +kernel
theorem dd_T_countOutside_12 : decode cd_T_countOutside 12 = .ok (.aload_n 1, 1) := by decide +kernel
theorem dd_T_countOutside_13 : decode cd_T_countOutside 13 = .ok (.aload_n 0, 1) := by decide +kernel
theorem dd_T_countOutside_14 : decode cd_T_countOutside 14 = .ok (.getfield 11, 3) := by decide +kernel
theorem dd_T_countOutside_17 : decode cd_T_countOutside 17 = .ok (.iload_n 3, 1) := by decide +kernel
theorem dd_T_countOutside_18 : decode cd_T_countOutside 18 = .ok (.laload, 1) := by decide +kernel
theorem dd_T_countOutside_19 : decode cd_T_countOutside 19 = .ok (.invokevirtual 33, 3) := by decide +kernel
theorem dd_T_countOutside_22 : decode cd_T_countOutside 22 = .ok (.ifCond .ne 6, 3) := by decide +kernel
theorem dd_T_countOutside_25 : decode cd_T_countOutside 25 = .ok (.iinc 2 1, 3) := by decide +kernel
theorem dd_T_countOutside_28 : decode cd_T_countOutside 28 = .ok (.iinc 3 1, 3) := by decide +kernel
theorem dd_T_countOutside_31 : decode cd_T_countOutside 31 = .ok (.goto (-27), 3) := by decide +kernel
theorem dd_T_countOutside_34 : decode cd_T_countOutside 34 = .ok (.iload_n 2, 1) := by decide +kernel
theorem dd_T_countOutside_35 : decode cd_T_countOutside 35 = .ok (.ireturn, 1) := by decide +kernel
theorem dd_T_primeOutside_0 : decode cd_T_primeOutside 0 = .ok (.iconst 0, 1) := by decide +kernel
theorem dd_T_primeOutside_1 : decode cd_T_primeOutside 1 = .ok (.istore_n 3, 1) := by decide +kernel
theorem dd_T_primeOutside_2 : decode cd_T_primeOutside 2 = .ok (.iconst 0, 1) := by decide +kernel
theorem dd_T_primeOutside_3 : decode cd_T_primeOutside 3 = .ok (.istore 4, 2) := by decide +kernel
theorem dd_T_primeOutside_5 : decode cd_T_primeOutside 5 = .ok (.iload 4, 2) := by decide +kernel
theorem dd_T_primeOutside_7 : decode cd_T_primeOutside 7 = .ok (.aload_n 0, 1) := by decide +kernel
theorem dd_T_primeOutside_8 : decode cd_T_primeOutside 8 = .ok (.getfield 19, 3) := by decide +kernel
theorem dd_T_primeOutside_11 : decode cd_T_primeOutside 11 = .ok (.if_icmp .ge 39, 3) := by decide +kernel
theorem dd_T_primeOutside_14 : decode cd_T_primeOutside 14 = .ok (.aload_n 1, 1) := by decide +kernel
theorem dd_T_primeOutside_15 : decode cd_T_primeOutside 15 = .ok (.aload_n 0, 1) := by decide +kernel
theorem dd_T_primeOutside_16 : decode cd_T_primeOutside 16 = .ok (.getfield 11, 3) := by decide +kernel
theorem dd_T_primeOutside_19 : decode cd_T_primeOutside 19 = .ok (.iload 4, 2) := by decide +kernel
theorem dd_T_primeOutside_21 : decode cd_T_primeOutside 21 = .ok (.laload, 1) := by decide +kernel
theorem dd_T_primeOutside_22 : decode cd_T_primeOutside 22 = .ok (.invokevirtual 33, 3) := by decide +kernel
theorem dd_T_primeOutside_25 : decode cd_T_primeOutside 25 = .ok (.ifCond .ne 19, 3) := by decide +kernel
theorem dd_T_primeOutside_28 : decode cd_T_primeOutside 28 = .ok (.iload_n 3, 1) := by decide +kernel
theorem dd_T_primeOutside_29 : decode cd_T_primeOutside 29 = .ok (.iload_n 2, 1) := by decide +kernel
theorem dd_T_primeOutside_30 : decode cd_T_primeOutside 30 = .ok (.if_icmp .ne 11, 3) := by decide +kernel
theorem dd_T_primeOutside_33 : decode cd_T_primeOutside 33 = .ok (.aload_n 0, 1) := by decide +kernel
theorem dd_T_primeOutside_34 : decode cd_T_primeOutside 34 = .ok (.getfield 15, 3) := by decide +kernel
theorem dd_T_primeOutside_37 : decode cd_T_primeOutside 37 = .ok (.iload 4, 2) := by decide +kernel
theorem dd_T_primeOutside_39 : decode cd_T_primeOutside 39 = .ok (.iaload, 1) := by decide +kernel
theorem dd_T_primeOutside_40 : decode cd_T_primeOutside 40 = .ok (.ireturn, 1) := by decide +kernel
theorem dd_T_primeOutside_41 : decode cd_T_primeOutside 41 = .ok (.iinc 3 1, 3) := by decide +kernel
theorem dd_T_primeOutside_44 : decode cd_T_primeOutside 44 = .ok (.iinc 4 1, 3) := by decide +kernel
theorem dd_T_primeOutside_47 : decode cd_T_primeOutside 47 = .ok (.goto (-42), 3) := by decide +kernel
theorem dd_T_primeOutside_50 : decode cd_T_primeOutside 50 = .ok (.bipush (-2), 2) := by decide +kernel
theorem dd_T_primeOutside_52 : decode cd_T_primeOutside 52 = .ok (.ireturn, 1) := by decide +kernel
theorem dd_T_multiplyInto_0 : decode cd_T_multiplyInto 0 = .ok (.iconst 0, 1) := by decide +kernel
theorem dd_T_multiplyInto_1 : decode cd_T_multiplyInto 1 = .ok (.istore_n 2, 1) := by decide +kernel
theorem dd_T_multiplyInto_2 : decode cd_T_multiplyInto 2 = .ok (.iload_n 2, 1) := by decide +kernel
theorem dd_T_multiplyInto_3 : decode cd_T_multiplyInto 3 = .ok (.aload_n 0, 1) := by decide +kernel
theorem dd_T_multiplyInto_4 : decode cd_T_multiplyInto 4 = .ok (.getfield 19, 3) := by decide +kernel
theorem dd_T_multiplyInto_7 : decode cd_T_multiplyInto 7 = .ok (.if_icmp .ge 19, 3) := by decide +kernel
theorem dd_T_multiplyInto_10 : decode cd_T_multiplyInto 10 = .ok (.aload_n 1, 1) := by decide +kernel
theorem dd_T_multiplyInto_11 : decode cd_T_multiplyInto 11 = .ok (.aload_n 0, 1) := by decide +kernel
theorem dd_T_multiplyInto_12 : decode cd_T_multiplyInto 12 = .ok (.getfield 15, 3) := by decide +kernel
theorem dd_T_multiplyInto_15 : decode cd_T_multiplyInto 15 = .ok (.iload_n 2, 1) := by decide +kernel
theorem dd_T_multiplyInto_16 : decode cd_T_multiplyInto 16 = .ok (.iaload, 1) := by decide +kernel
theorem dd_T_multiplyInto_17 : decode cd_T_multiplyInto 17 = .ok (.invokevirtual 37, 3) := by decide +kernel
theorem dd_T_multiplyInto_20 : decode cd_T_multiplyInto 20 = .ok (.iinc 2 1, 3) := by decide +kernel
theorem dd_T_multiplyInto_23 : decode cd_T_multiplyInto 23 = .ok (.goto (-21), 3) := by decide +kernel
theorem dd_T_multiplyInto_26 : decode cd_T_multiplyInto 26 = .ok (.return_, 1) := by decide +kernel
theorem dd_T_multiplyOthersInto_0 : decode cd_T_multiplyOthersInto 0 = .ok (.iconst 0, 1) := by decide +kernel
theorem dd_T_multiplyOthersInto_1 : decode cd_T_multiplyOthersInto 1 = .ok (.istore 4, 2) := by decide +kernel
theorem dd_T_multiplyOthersInto_3 : decode cd_T_multiplyOthersInto 3 = .ok (.iload 4, 2) := by decide +kernel
theorem dd_T_multiplyOthersInto_5 : decode cd_T_multiplyOthersInto 5 = .ok (.aload_n 0, 1) := by decide +kernel
theorem dd_T_multiplyOthersInto_6 : decode cd_T_multiplyOthersInto 6 = .ok (.getfield 19, 3) := by decide +kernel
theorem dd_T_multiplyOthersInto_9 : decode cd_T_multiplyOthersInto 9 = .ok (.if_icmp .ge 32, 3) := by decide +kernel
theorem dd_T_multiplyOthersInto_12 : decode cd_T_multiplyOthersInto 12 = .ok (.aload_n 0, 1) := by decide +kernel
theorem dd_T_multiplyOthersInto_13 : decode cd_T_multiplyOthersInto 13 = .ok (.getfield 11, 3) := by decide +kernel
theorem dd_T_multiplyOthersInto_16 : decode cd_T_multiplyOthersInto 16 = .ok (.iload 4, 2) := by decide +kernel
theorem dd_T_multiplyOthersInto_18 : decode cd_T_multiplyOthersInto 18 = .ok (.laload, 1) := by decide +kernel
theorem dd_T_multiplyOthersInto_19 : decode cd_T_multiplyOthersInto 19 = .ok (.lload_n 1, 1) := by decide +kernel
theorem dd_T_multiplyOthersInto_20 : decode cd_T_multiplyOthersInto 20 = .ok (.lcmp, 1) := by decide +kernel
theorem dd_T_multiplyOthersInto_21 : decode cd_T_multiplyOthersInto 21 = .ok (.ifCond .eq 14, 3) := by decide +kernel
theorem dd_T_multiplyOthersInto_24 : decode cd_T_multiplyOthersInto 24 = .ok (.aload_n 3, 1) := by decide +kernel
theorem dd_T_multiplyOthersInto_25 : decode cd_T_multiplyOthersInto 25 = .ok (.aload_n 0, 1) := by decide +kernel
theorem dd_T_multiplyOthersInto_26 : decode cd_T_multiplyOthersInto 26 = .ok (.getfield 15, 3) := by decide +kernel
theorem dd_T_multiplyOthersInto_29 : decode cd_T_multiplyOthersInto 29 = .ok (.iload 4, 2) := by decide +kernel
theorem dd_T_multiplyOthersInto_31 : decode cd_T_multiplyOthersInto 31 = .ok (.iaload, 1) := by decide +kernel
theorem dd_T_multiplyOthersInto_32 : decode cd_T_multiplyOthersInto 32 = .ok (.invokevirtual 37, 3) := by decide +kernel
theorem dd_T_multiplyOthersInto_35 : decode cd_T_multiplyOthersInto 35 = .ok (.iinc 4 1, 3) := by decide +kernel
theorem dd_T_multiplyOthersInto_38 : decode cd_T_multiplyOthersInto 38 = .ok (.goto (-35), 3) := by decide +kernel
theorem dd_T_multiplyOthersInto_41 : decode cd_T_multiplyOthersInto 41 = .ok (.return_, 1) := by decide +kernel
theorem dd_T_multiplyOutsideInto_0 : decode cd_T_multiplyOutsideInto 0 = .ok (.iconst 0, 1) := by decide +kernel
theorem dd_T_multiplyOutsideInto_1 : decode cd_T_multiplyOutsideInto 1 = .ok (.istore_n 3, 1) := by decide +kernel
theorem dd_T_multiplyOutsideInto_2 : decode cd_T_multiplyOutsideInto 2 = .ok (.iload_n 3, 1) := by decide +kernel
theorem dd_T_multiplyOutsideInto_3 : decode cd_T_multiplyOutsideInto 3 = .ok (.aload_n 0, 1) := by decide +kernel
theorem dd_T_multiplyOutsideInto_4 : decode cd_T_multiplyOutsideInto 4 = .ok (.getfield 19, 3) := by decide +kernel
theorem dd_T_multiplyOutsideInto_7 : decode cd_T_multiplyOutsideInto 7 = .ok (.if_icmp .ge 32, 3) := by decide +kernel
theorem dd_T_multiplyOutsideInto_10 : decode cd_T_multiplyOutsideInto 10 = .ok (.aload_n 1, 1) := by decide +kernel
theorem dd_T_multiplyOutsideInto_11 : decode cd_T_multiplyOutsideInto 11 = .ok (.aload_n 0, 1) := by decide +kernel
theorem dd_T_multiplyOutsideInto_12 : decode cd_T_multiplyOutsideInto 12 = .ok (.getfield 11, 3) := by decide +kernel
theorem dd_T_multiplyOutsideInto_15 : decode cd_T_multiplyOutsideInto 15 = .ok (.iload_n 3, 1) := by decide +kernel
theorem dd_T_multiplyOutsideInto_16 : decode cd_T_multiplyOutsideInto 16 = .ok (.laload, 1) := by decide +kernel
theorem dd_T_multiplyOutsideInto_17 : decode cd_T_multiplyOutsideInto 17 = .ok (.invokevirtual 33, 3) := by decide +kernel
theorem dd_T_multiplyOutsideInto_20 : decode cd_T_multiplyOutsideInto 20 = .ok (.ifCond .ne 13, 3) := by decide +kernel
theorem dd_T_multiplyOutsideInto_23 : decode cd_T_multiplyOutsideInto 23 = .ok (.aload_n 2, 1) := by decide +kernel
theorem dd_T_multiplyOutsideInto_24 : decode cd_T_multiplyOutsideInto 24 = .ok (.aload_n 0, 1) := by decide +kernel
theorem dd_T_multiplyOutsideInto_25 : decode cd_T_multiplyOutsideInto 25 = .ok (.getfield 15, 3) := by decide +kernel
theorem dd_T_multiplyOutsideInto_28 : decode cd_T_multiplyOutsideInto 28 = .ok (.iload_n 3, 1) := by decide +kernel
theorem dd_T_multiplyOutsideInto_29 : decode cd_T_multiplyOutsideInto 29 = .ok (.iaload, 1) := by decide +kernel
theorem dd_T_multiplyOutsideInto_30 : decode cd_T_multiplyOutsideInto 30 = .ok (.invokevirtual 37, 3) := by decide +kernel
theorem dd_T_multiplyOutsideInto_33 : decode cd_T_multiplyOutsideInto 33 = .ok (.iinc 3 1, 3) := by decide +kernel
theorem dd_T_multiplyOutsideInto_36 : decode cd_T_multiplyOutsideInto 36 = .ok (.goto (-34), 3) := by decide +kernel
theorem dd_T_multiplyOutsideInto_39 : decode cd_T_multiplyOutsideInto 39 = .ok (.return_, 1) := by decide +kernel
