theorem dd_R_init_0 : decode cd_R_init 0 = .ok (.aload_n 0, 1) := by decide +kernel
theorem dd_R_init_1 : decode cd_R_init 1 = .ok (.invokespecial 1, 3) := by decide +kernel
theorem dd_R_init_4 : decode cd_R_init 4 = .ok (.aload_n 0, 1) := by decide +kernel
theorem dd_R_init_5 : decode cd_R_init 5 = .ok (.iconst 4, 1) := by decide +kernel
theorem dd_R_init_6 : decode cd_R_init 6 = .ok (.newarray .long, 2) := by decide +kernel
theorem dd_R_init_8 : decode cd_R_init 8 = .ok (.dup, 1) := by decide +kernel
theorem dd_R_init_9 : decode cd_R_init 9 = .ok (.iconst 0, 1) := by decide +kernel
theorem dd_R_init_10 : decode cd_R_init 10 = .ok (.ldc2_w 7, 3) := by decide +kernel
theorem dd_R_init_13 : decode cd_R_init 13 = .ok (.lastore, 1) := by decide +kernel
theorem dd_R_init_14 : decode cd_R_init 14 = .ok (.dup, 1) := by decide +kernel
theorem dd_R_init_15 : decode cd_R_init 15 = .ok (.iconst 1, 1) := by decide +kernel
theorem dd_R_init_16 : decode cd_R_init 16 = .ok (.lconst 0, 1) := by decide +kernel
theorem dd_R_init_17 : decode cd_R_init 17 = .ok (.lastore, 1) := by decide +kernel
theorem dd_R_init_18 : decode cd_R_init 18 = .ok (.dup, 1) := by decide +kernel
theorem dd_R_init_19 : decode cd_R_init 19 = .ok (.iconst 2, 1) := by decide +kernel
theorem dd_R_init_20 : decode cd_R_init 20 = .ok (.lconst 0, 1) := by decide +kernel
theorem dd_R_init_21 : decode cd_R_init 21 = .ok (.lastore, 1) := by decide +kernel
theorem dd_R_init_22 : decode cd_R_init 22 = .ok (.dup, 1) := by decide +kernel
theorem dd_R_init_23 : decode cd_R_init 23 = .ok (.iconst 3, 1) := by decide +kernel
theorem dd_R_init_24 : decode cd_R_init 24 = .ok (.lconst 0, 1) := by decide +kernel
theorem dd_R_init_25 : decode cd_R_init 25 = .ok (.lastore, 1) := by decide +kernel
theorem dd_R_init_26 : decode cd_R_init 26 = .ok (.putfield 9, 3) := by decide +kernel
theorem dd_R_init_29 : decode cd_R_init 29 = .ok (.aload_n 0, 1) := by decide +kernel
theorem dd_R_init_30 : decode cd_R_init 30 = .ok (.iconst 4, 1) := by decide +kernel
theorem dd_R_init_31 : decode cd_R_init 31 = .ok (.newarray .long, 2) := by decide +kernel
theorem dd_R_init_33 : decode cd_R_init 33 = .ok (.putfield 15, 3) := by decide +kernel
theorem dd_R_init_36 : decode cd_R_init 36 = .ok (.aload_n 0, 1) := by decide +kernel
theorem dd_R_init_37 : decode cd_R_init 37 = .ok (.iconst 4, 1) := by decide +kernel
theorem dd_R_init_38 : decode cd_R_init 38 = .ok (.newarray .long, 2) := by decide +kernel
theorem dd_R_init_40 : decode cd_R_init 40 = .ok (.dup, 1) := by decide +kernel
theorem dd_R_init_41 : decode cd_R_init 41 = .ok (.iconst 0, 1) := by decide +kernel
theorem dd_R_init_42 : decode cd_R_init 42 = .ok (.lconst 1, 1) := by decide +kernel
theorem dd_R_init_43 : decode cd_R_init 43 = .ok (.lastore, 1) := by decide +kernel
theorem dd_R_init_44 : decode cd_R_init 44 = .ok (.dup, 1) := by decide +kernel
theorem dd_R_init_45 : decode cd_R_init 45 = .ok (.iconst 1, 1) := by decide +kernel
theorem dd_R_init_46 : decode cd_R_init 46 = .ok (.lconst 0, 1) := by decide +kernel
theorem dd_R_init_47 : decode cd_R_init 47 = .ok (.lastore, 1) := by decide +kernel
theorem dd_R_init_48 : decode cd_R_init 48 = .ok (.dup, 1) := by decide +kernel
theorem dd_R_init_49 : decode cd_R_init 49 = .ok (.iconst 2, 1) := by decide +kernel
theorem dd_R_init_50 : decode cd_R_init 50 = .ok (.lconst 0, 1) := by decide +kernel
theorem dd_R_init_51 : decode cd_R_init 51 = .ok (.lastore, 1) := by decide +kernel
theorem dd_R_init_52 : decode cd_R_init 52 = .ok (.dup, 1) := by decide +kernel
theorem dd_R_init_53 : decode cd_R_init 53 = .ok (.iconst 3, 1) := by decide +kernel
theorem dd_R_init_54 : decode cd_R_init 54 = .ok (.lconst 0, 1) := by decide +kernel
theorem dd_R_init_55 : decode cd_R_init 55 = .ok (.lastore, 1) := by decide +kernel
theorem dd_R_init_56 : decode cd_R_init 56 = .ok (.putfield 18, 3) := by decide +kernel
theorem dd_R_init_59 : decode cd_R_init 59 = .ok (.aload_n 0, 1) := by decide +kernel
theorem dd_R_init_60 : decode cd_R_init 60 = .ok (.iconst 4, 1) := by decide +kernel
theorem dd_R_init_61 : decode cd_R_init 61 = .ok (.newarray .long, 2) := by decide +kernel
theorem dd_R_init_63 : decode cd_R_init 63 = .ok (.putfield 21, 3) := by decide +kernel
theorem dd_R_init_66 : decode cd_R_init 66 = .ok (.aload_n 0, 1) := by decide +kernel
theorem dd_R_init_67 : decode cd_R_init 67 = .ok (.iconst 4, 1) := by decide +kernel
theorem dd_R_init_68 : decode cd_R_init 68 = .ok (.newarray .long, 2) := by decide +kernel
theorem dd_R_init_70 : decode cd_R_init 70 = .ok (.putfield 24, 3) := by decide +kernel
theorem dd_R_init_73 : decode cd_R_init 73 = .ok (.aload_n 0, 1) := by decide +kernel
theorem dd_R_init_74 : decode cd_R_init 74 = .ok (.iconst 4, 1) := by decide +kernel
theorem dd_R_init_75 : decode cd_R_init 75 = .ok (.newarray .long, 2) := by decide +kernel
theorem dd_R_init_77 : decode cd_R_init 77 = .ok (.putfield 27, 3) := by decide +kernel
theorem dd_R_init_80 : decode cd_R_init 80 = .ok (.aload_n 0, 1) := by decide +kernel
theorem dd_R_init_81 : decode cd_R_init 81 = .ok (.bipush 6, 2) := by decide +kernel
theorem dd_R_init_83 : decode cd_R_init 83 = .ok (.newarray .long, 2) := by decide +kernel
theorem dd_R_init_85 : decode cd_R_init 85 = .ok (.putfield 30, 3) := by decide +kernel
theorem dd_R_init_88 : decode cd_R_init 88 = .ok (.aload_n 0, 1) := by decide +kernel
theorem dd_R_init_89 : decode cd_R_init 89 = .ok (.iconst 4, 1) := by decide +kernel
theorem dd_R_init_90 : decode cd_R_init 90 = .ok (.newarray .long, 2) := by decide +kernel
theorem dd_R_init_92 : decode cd_R_init 92 = .ok (.putfield 33, 3) := by decide +kernel
theorem dd_R_init_95 : decode cd_R_init 95 = .ok (.aload_n 0, 1) := by decide +kernel
theorem dd_R_init_96 : decode cd_R_init 96 = .ok (.iconst 4, 1) := by decide +kernel
theorem dd_R_init_97 : decode cd_R_init 97 = .ok (.newarray .long, 2) := by decide +kernel
theorem dd_R_init_99 : decode cd_R_init 99 = .ok (.putfield 36, 3) := by decide +kernel
theorem dd_R_init_102 : decode cd_R_init 102 = .ok (.aload_n 0, 1) := by decide +kernel
theorem dd_R_init_103 : decode cd_R_init 103 = .ok (.iconst 4, 1) := by decide +kernel
theorem dd_R_init_104 : decode cd_R_init 104 = .ok (.newarray .long, 2) := by decide +kernel
theorem dd_R_init_106 : decode cd_R_init 106 = .ok (.putfield 39, 3) := by decide +kernel
theorem dd_R_init_109 : decode cd_R_init 109 = .ok (.return_, 1) := by decide +kernel
theorem dd_R_accepts_0 : decode cd_R_accepts 0 = .ok (.lload_n 2, 1) := by decide +kernel
theorem dd_R_accepts_1 : decode cd_R_accepts 1 = .ok (.lconst 1, 1) := by decide +kernel
theorem dd_R_accepts_2 : decode cd_R_accepts 2 = .ok (.land, 1) := by decide +kernel
theorem dd_R_accepts_3 : decode cd_R_accepts 3 = .ok (.lconst 0, 1) := by decide +kernel
theorem dd_R_accepts_4 : decode cd_R_accepts 4 = .ok (.lcmp, 1) := by decide +kernel
theorem dd_R_accepts_5 : decode cd_R_accepts 5 = .ok (.ifCond .eq 7, 3) := by decide +kernel
theorem dd_R_accepts_8 : decode cd_R_accepts 8 = .ok (.iconst 1, 1) := by decide +kernel
theorem dd_R_accepts_9 : decode cd_R_accepts 9 = .ok (.goto 4, 3) := by decide +kernel
theorem dd_R_accepts_12 : decode cd_R_accepts 12 = .ok (.iconst 0, 1) := by decide +kernel
theorem dd_R_accepts_13 : decode cd_R_accepts 13 = .ok (.istore 4, 2) := by decide +kernel
theorem dd_R_accepts_15 : decode cd_R_accepts 15 = .ok (.lload_n 0, 1) := by decide +kernel
theorem dd_R_accepts_16 : decode cd_R_accepts 16 = .ok (.bipush 36, 2) := by decide +kernel
theorem dd_R_accepts_18 : decode cd_R_accepts 18 = .ok (.lushr, 1) := by decide +kernel
theorem dd_R_accepts_19 : decode cd_R_accepts 19 = .ok (.lconst 0, 1) := by decide +kernel
theorem dd_R_accepts_20 : decode cd_R_accepts 20 = .ok (.lcmp, 1) := by decide +kernel
theorem dd_R_accepts_21 : decode cd_R_accepts 21 = .ok (.ifCond .eq 7, 3) := by decide +kernel
theorem dd_R_accepts_24 : decode cd_R_accepts 24 = .ok (.iconst 1, 1) := by decide +kernel
theorem dd_R_accepts_25 : decode cd_R_accepts 25 = .ok (.goto 4, 3) := by decide +kernel
theorem dd_R_accepts_28 : decode cd_R_accepts 28 = .ok (.iconst 0, 1) := by decide +kernel
theorem dd_R_accepts_29 : decode cd_R_accepts 29 = .ok (.istore 5, 2) := by decide +kernel
theorem dd_R_accepts_31 : decode cd_R_accepts 31 = .ok (.lload_n 0, 1) := by decide +kernel
theorem dd_R_accepts_32 : decode cd_R_accepts 32 = .ok (.bipush 32, 2) := by decide +kernel
theorem dd_R_accepts_34 : decode cd_R_accepts 34 = .ok (.lushr, 1) := by decide +kernel
theorem dd_R_accepts_35 : decode cd_R_accepts 35 = .ok (.lload_n 0, 1) := by decide +kernel
theorem dd_R_accepts_36 : decode cd_R_accepts 36 = .ok (.ldc2_w 42, 3) := by decide +kernel
theorem dd_R_accepts_39 : decode cd_R_accepts 39 = .ok (.land, 1) := by decide +kernel
theorem dd_R_accepts_40 : decode cd_R_accepts 40 = .ok (.ladd, 1) := by decide +kernel
theorem dd_R_accepts_41 : decode cd_R_accepts 41 = .ok (.lload_n 2, 1) := by decide +kernel
theorem dd_R_accepts_42 : decode cd_R_accepts 42 = .ok (.bipush 32, 2) := by decide +kernel
theorem dd_R_accepts_44 : decode cd_R_accepts 44 = .ok (.lushr, 1) := by decide +kernel
theorem dd_R_accepts_45 : decode cd_R_accepts 45 = .ok (.ladd, 1) := by decide +kernel
theorem dd_R_accepts_46 : decode cd_R_accepts 46 = .ok (.lload_n 2, 1) := by decide +kernel
theorem dd_R_accepts_47 : decode cd_R_accepts 47 = .ok (.ldc2_w 42, 3) := by decide +kernel
theorem dd_R_accepts_50 : decode cd_R_accepts 50 = .ok (.land, 1) := by decide +kernel
theorem dd_R_accepts_51 : decode cd_R_accepts 51 = .ok (.ladd, 1) := by decide +kernel
theorem dd_R_accepts_52 : decode cd_R_accepts 52 = .ok (.lstore 6, 2) := by decide +kernel
theorem dd_R_accepts_54 : decode cd_R_accepts 54 = .ok (.iload 4, 2) := by decide +kernel
theorem dd_R_accepts_56 : decode cd_R_accepts 56 = .ok (.ifCond .eq 23, 3) := by decide +kernel
theorem dd_R_accepts_59 : decode cd_R_accepts 59 = .ok (.iload 5, 2) := by decide +kernel
theorem dd_R_accepts_61 : decode cd_R_accepts 61 = .ok (.ifCond .eq 18, 3) := by decide +kernel
theorem dd_R_accepts_64 : decode cd_R_accepts 64 = .ok (.lload 6, 2) := by decide +kernel
theorem dd_R_accepts_66 : decode cd_R_accepts 66 = .ok (.ldc2_w 7, 3) := by decide +kernel
theorem dd_R_accepts_69 : decode cd_R_accepts 69 = .ok (.lrem, 1) := by decide +kernel
theorem dd_R_accepts_70 : decode cd_R_accepts 70 = .ok (.lconst 0, 1) := by decide +kernel
theorem dd_R_accepts_71 : decode cd_R_accepts 71 = .ok (.lcmp, 1) := by decide +kernel
theorem dd_R_accepts_72 : decode cd_R_accepts 72 = .ok (.ifCond .eq 7, 3) := by decide +kernel
theorem dd_R_accepts_75 : decode cd_R_accepts 75 = .ok (.iconst 1, 1) := by decide +kernel
theorem dd_R_accepts_76 : decode cd_R_accepts 76 = .ok (.goto 4, 3) := by decide +kernel
theorem dd_R_accepts_79 : decode cd_R_accepts 79 = .ok (.iconst 0, 1) := by decide +kernel
theorem dd_R_accepts_80 : decode cd_R_accepts 80 = .ok (.ireturn, 1) := by decide +kernel
theorem dd_R_split_0 : decode cd_R_split 0 = .ok (.aload 4, 2) := by decide +kernel
theorem dd_R_split_2 : decode cd_R_split 2 = .ok (.iconst 0, 1) := by decide +kernel
theorem dd_R_split_3 : decode cd_R_split 3 = .ok (.lload_n 2, 1) := by decide +kernel
theorem dd_R_split_4 : decode cd_R_split 4 = .ok (.ldc2_w 42, 3) := by decide +kernel
theorem dd_R_split_7 : decode cd_R_split 7 = .ok (.land, 1) := by decide +kernel
theorem dd_R_split_8 : decode cd_R_split 8 = .ok (.lastore, 1) := by decide +kernel
theorem dd_R_split_9 : decode cd_R_split 9 = .ok (.aload 4, 2) := by decide +kernel
theorem dd_R_split_11 : decode cd_R_split 11 = .ok (.iconst 1, 1) := by decide +kernel
theorem dd_R_split_12 : decode cd_R_split 12 = .ok (.lload_n 2, 1) := by decide +kernel
theorem dd_R_split_13 : decode cd_R_split 13 = .ok (.bipush 32, 2) := by decide +kernel
theorem dd_R_split_15 : decode cd_R_split 15 = .ok (.lushr, 1) := by decide +kernel
theorem dd_R_split_16 : decode cd_R_split 16 = .ok (.lastore, 1) := by decide +kernel
theorem dd_R_split_17 : decode cd_R_split 17 = .ok (.aload 4, 2) := by decide +kernel
theorem dd_R_split_19 : decode cd_R_split 19 = .ok (.iconst 2, 1) := by decide +kernel
theorem dd_R_split_20 : decode cd_R_split 20 = .ok (.lload_n 0, 1) := by decide +kernel
theorem dd_R_split_21 : decode cd_R_split 21 = .ok (.ldc2_w 42, 3) := by decide +kernel
theorem dd_R_split_24 : decode cd_R_split 24 = .ok (.land, 1) := by decide +kernel
theorem dd_R_split_25 : decode cd_R_split 25 = .ok (.lastore, 1) := by decide +kernel
theorem dd_R_split_26 : decode cd_R_split 26 = .ok (.aload 4, 2) := by decide +kernel
theorem dd_R_split_28 : decode cd_R_split 28 = .ok (.iconst 3, 1) := by decide +kernel
theorem dd_R_split_29 : decode cd_R_split 29 = .ok (.lload_n 0, 1) := by decide +kernel
theorem dd_R_split_30 : decode cd_R_split 30 = .ok (.bipush 32, 2) := by decide +kernel
theorem dd_R_split_32 : decode cd_R_split 32 = .ok (.lushr, 1) := by decide +kernel
theorem dd_R_split_33 : decode cd_R_split 33 = .ok (.lastore, 1) := by decide +kernel
theorem dd_R_split_34 : decode cd_R_split 34 = .ok (.return_, 1) := by decide +kernel
theorem dd_R_word_0 : decode cd_R_word 0 = .ok (.iload_n 1, 1) := by decide +kernel
theorem dd_R_word_1 : decode cd_R_word 1 = .ok (.ifCond .eq 16, 3) := by decide +kernel
theorem dd_R_word_4 : decode cd_R_word 4 = .ok (.aload_n 0, 1) := by decide +kernel
theorem dd_R_word_5 : decode cd_R_word 5 = .ok (.iconst 3, 1) := by decide +kernel
theorem dd_R_word_6 : decode cd_R_word 6 = .ok (.laload, 1) := by decide +kernel
theorem dd_R_word_7 : decode cd_R_word 7 = .ok (.bipush 32, 2) := by decide +kernel
theorem dd_R_word_9 : decode cd_R_word 9 = .ok (.lshl, 1) := by decide +kernel
theorem dd_R_word_10 : decode cd_R_word 10 = .ok (.aload_n 0, 1) := by decide +kernel
theorem dd_R_word_11 : decode cd_R_word 11 = .ok (.iconst 2, 1) := by decide +kernel
theorem dd_R_word_12 : decode cd_R_word 12 = .ok (.laload, 1) := by decide +kernel
theorem dd_R_word_13 : decode cd_R_word 13 = .ok (.lor, 1) := by decide +kernel
theorem dd_R_word_14 : decode cd_R_word 14 = .ok (.goto 13, 3) := by decide +kernel
theorem dd_R_word_17 : decode cd_R_word 17 = .ok (.aload_n 0, 1) := by decide +kernel
theorem dd_R_word_18 : decode cd_R_word 18 = .ok (.iconst 1, 1) := by decide +kernel
theorem dd_R_word_19 : decode cd_R_word 19 = .ok (.laload, 1) := by decide +kernel
theorem dd_R_word_20 : decode cd_R_word 20 = .ok (.bipush 32, 2) := by decide +kernel
theorem dd_R_word_22 : decode cd_R_word 22 = .ok (.lshl, 1) := by decide +kernel
theorem dd_R_word_23 : decode cd_R_word 23 = .ok (.aload_n 0, 1) := by decide +kernel
theorem dd_R_word_24 : decode cd_R_word 24 = .ok (.iconst 0, 1) := by decide +kernel
theorem dd_R_word_25 : decode cd_R_word 25 = .ok (.laload, 1) := by decide +kernel
theorem dd_R_word_26 : decode cd_R_word 26 = .ok (.lor, 1) := by decide +kernel
theorem dd_R_word_27 : decode cd_R_word 27 = .ok (.lreturn, 1) := by decide +kernel
theorem dd_R_same_0 : decode cd_R_same 0 = .ok (.iconst 0, 1) := by decide +kernel
theorem dd_R_same_1 : decode cd_R_same 1 = .ok (.istore_n 2, 1) := by decide +kernel
theorem dd_R_same_2 : decode cd_R_same 2 = .ok (.iload_n 2, 1) := by decide +kernel
theorem dd_R_same_3 : decode cd_R_same 3 = .ok (.iconst 4, 1) := by decide +kernel
theorem dd_R_same_4 : decode cd_R_same 4 = .ok (.if_icmp .ge 21, 3) := by decide +kernel
theorem dd_R_same_7 : decode cd_R_same 7 = .ok (.aload_n 0, 1) := by decide +kernel
theorem dd_R_same_8 : decode cd_R_same 8 = .ok (.iload_n 2, 1) := by decide +kernel
theorem dd_R_same_9 : decode cd_R_same 9 = .ok (.laload, 1) := by decide +kernel
theorem dd_R_same_10 : decode cd_R_same 10 = .ok (.aload_n 1, 1) := by decide +kernel
theorem dd_R_same_11 : decode cd_R_same 11 = .ok (.iload_n 2, 1) := by decide +kernel
theorem dd_R_same_12 : decode cd_R_same 12 = .ok (.laload, 1) := by decide +kernel
theorem dd_R_same_13 : decode cd_R_same 13 = .ok (.lcmp, 1) := by decide +kernel
theorem dd_R_same_14 : decode cd_R_same 14 = .ok (.ifCond .eq 5, 3) := by decide +kernel
theorem dd_R_same_17 : decode cd_R_same 17 = .ok (.iconst 0, 1) := by decide +kernel
theorem dd_R_same_18 : decode cd_R_same 18 = .ok (.ireturn, 1) := by decide +kernel
theorem dd_R_same_19 : decode cd_R_same 19 = .ok (.iinc 2 1, 3) := by decide +kernel
theorem dd_R_same_22 : decode cd_R_same 22 = .ok (.goto (-20), 3) := by decide +kernel
theorem dd_R_same_25 : decode cd_R_same 25 = .ok (.iconst 1, 1) := by decide +kernel
theorem dd_R_same_26 : decode cd_R_same 26 = .ok (.ireturn, 1) := by decide +kernel
theorem dd_R_begin_0 : decode cd_R_begin 0 = .ok (.lload_n 1, 1) := by decide +kernel
theorem dd_R_begin_1 : decode cd_R_begin 1 = .ok (.lload_n 3, 1) := by decide +kernel
theorem dd_R_begin_2 : decode cd_R_begin 2 = .ok (.aload_n 0, 1) := by decide +kernel
theorem dd_R_begin_3 : decode cd_R_begin 3 = .ok (.getfield 21, 3) := by decide +kernel
theorem dd_R_begin_6 : decode cd_R_begin 6 = .ok (.invokestatic 44, 3) := by decide +kernel
theorem dd_R_begin_9 : decode cd_R_begin 9 = .ok (.aload_n 0, 1) := by decide +kernel
theorem dd_R_begin_10 : decode cd_R_begin 10 = .ok (.invokevirtual 48, 3) := by decide +kernel
theorem dd_R_begin_13 : decode cd_R_begin 13 = .ok (.aload_n 0, 1) := by decide +kernel
theorem dd_R_begin_14 : decode cd_R_begin 14 = .ok (.invokevirtual 51, 3) := by decide +kernel
theorem dd_R_begin_17 : decode cd_R_begin 17 = .ok (.aload_n 0, 1) := by decide +kernel
theorem dd_R_begin_18 : decode cd_R_begin 18 = .ok (.getfield 18, 3) := by decide +kernel
theorem dd_R_begin_21 : decode cd_R_begin 21 = .ok (.iconst 0, 1) := by decide +kernel
theorem dd_R_begin_22 : decode cd_R_begin 22 = .ok (.aload_n 0, 1) := by decide +kernel
theorem dd_R_begin_23 : decode cd_R_begin 23 = .ok (.getfield 24, 3) := by decide +kernel
theorem dd_R_begin_26 : decode cd_R_begin 26 = .ok (.iconst 0, 1) := by decide +kernel
theorem dd_R_begin_27 : decode cd_R_begin 27 = .ok (.iconst 4, 1) := by decide +kernel
theorem dd_R_begin_28 : decode cd_R_begin 28 = .ok (.invokestatic 54, 3) := by decide +kernel
theorem dd_R_begin_31 : decode cd_R_begin 31 = .ok (.aload_n 0, 1) := by decide +kernel
theorem dd_R_begin_32 : decode cd_R_begin 32 = .ok (.aload_n 0, 1) := by decide +kernel
theorem dd_R_begin_33 : decode cd_R_begin 33 = .ok (.getfield 24, 3) := by decide +kernel
theorem dd_R_begin_36 : decode cd_R_begin 36 = .ok (.invokevirtual 60, 3) := by decide +kernel
theorem dd_R_begin_39 : decode cd_R_begin 39 = .ok (.aload_n 0, 1) := by decide +kernel
theorem dd_R_begin_40 : decode cd_R_begin 40 = .ok (.getfield 24, 3) := by decide +kernel
theorem dd_R_begin_43 : decode cd_R_begin 43 = .ok (.iconst 0, 1) := by decide +kernel
theorem dd_R_begin_44 : decode cd_R_begin 44 = .ok (.aload_n 0, 1) := by decide +kernel
theorem dd_R_begin_45 : decode cd_R_begin 45 = .ok (.getfield 27, 3) := by decide +kernel
theorem dd_R_begin_48 : decode cd_R_begin 48 = .ok (.iconst 0, 1) := by decide +kernel
theorem dd_R_begin_49 : decode cd_R_begin 49 = .ok (.iconst 4, 1) := by decide +kernel
theorem dd_R_begin_50 : decode cd_R_begin 50 = .ok (.invokestatic 54, 3) := by decide +kernel
theorem dd_R_begin_53 : decode cd_R_begin 53 = .ok (.aload_n 0, 1) := by decide +kernel
theorem dd_R_begin_54 : decode cd_R_begin 54 = .ok (.aload_n 0, 1) := by decide +kernel
theorem dd_R_begin_55 : decode cd_R_begin 55 = .ok (.getfield 27, 3) := by decide +kernel
theorem dd_R_begin_58 : decode cd_R_begin 58 = .ok (.invokevirtual 60, 3) := by decide +kernel
theorem dd_R_begin_61 : decode cd_R_begin 61 = .ok (.return_, 1) := by decide +kernel
theorem dd_R_isBelowModulus_0 : decode cd_R_isBelowModulus 0 = .ok (.aload_n 0, 1) := by decide +kernel
theorem dd_R_isBelowModulus_1 : decode cd_R_isBelowModulus 1 = .ok (.getfield 21, 3) := by decide +kernel
theorem dd_R_isBelowModulus_4 : decode cd_R_isBelowModulus 4 = .ok (.iconst 1, 1) := by decide +kernel
theorem dd_R_isBelowModulus_5 : decode cd_R_isBelowModulus 5 = .ok (.invokestatic 64, 3) := by decide +kernel
theorem dd_R_isBelowModulus_8 : decode cd_R_isBelowModulus 8 = .ok (.lstore 5, 2) := by decide +kernel
theorem dd_R_isBelowModulus_10 : decode cd_R_isBelowModulus 10 = .ok (.aload_n 0, 1) := by decide +kernel
theorem dd_R_isBelowModulus_11 : decode cd_R_isBelowModulus 11 = .ok (.getfield 21, 3) := by decide +kernel
theorem dd_R_isBelowModulus_14 : decode cd_R_isBelowModulus 14 = .ok (.iconst 0, 1) := by decide +kernel
theorem dd_R_isBelowModulus_15 : decode cd_R_isBelowModulus 15 = .ok (.invokestatic 64, 3) := by decide +kernel
theorem dd_R_isBelowModulus_18 : decode cd_R_isBelowModulus 18 = .ok (.lstore 7, 2) := by decide +kernel
theorem dd_R_isBelowModulus_20 : decode cd_R_isBelowModulus 20 = .ok (.lload_n 1, 1) := by decide +kernel
theorem dd_R_isBelowModulus_21 : decode cd_R_isBelowModulus 21 = .ok (.lload 5, 2) := by decide +kernel
theorem dd_R_isBelowModulus_23 : decode cd_R_isBelowModulus 23 = .ok (.lcmp, 1) := by decide +kernel
theorem dd_R_isBelowModulus_24 : decode cd_R_isBelowModulus 24 = .ok (.ifCond .ne 12, 3) := by decide +kernel
theorem dd_R_isBelowModulus_27 : decode cd_R_isBelowModulus 27 = .ok (.lload_n 3, 1) := by decide +kernel
theorem dd_R_isBelowModulus_28 : decode cd_R_isBelowModulus 28 = .ok (.lload 7, 2) := by decide +kernel
theorem dd_R_isBelowModulus_30 : decode cd_R_isBelowModulus 30 = .ok (.invokestatic 68, 3) := by decide +kernel
theorem dd_R_isBelowModulus_33 : decode cd_R_isBelowModulus 33 = .ok (.goto 9, 3) := by decide +kernel
theorem dd_R_isBelowModulus_36 : decode cd_R_isBelowModulus 36 = .ok (.lload_n 1, 1) := by decide +kernel
theorem dd_R_isBelowModulus_37 : decode cd_R_isBelowModulus 37 = .ok (.lload 5, 2) := by decide +kernel
theorem dd_R_isBelowModulus_39 : decode cd_R_isBelowModulus 39 = .ok (.invokestatic 68, 3) := by decide +kernel
theorem dd_R_isBelowModulus_42 : decode cd_R_isBelowModulus 42 = .ok (.ireturn, 1) := by decide +kernel
theorem dd_R_multiply_0 : decode cd_R_multiply 0 = .ok (.aload_n 0, 1) := by decide +kernel
theorem dd_R_multiply_1 : decode cd_R_multiply 1 = .ok (.aload_n 1, 1) := by decide +kernel
theorem dd_R_multiply_2 : decode cd_R_multiply 2 = .ok (.aload_n 0, 1) := by decide +kernel
theorem dd_R_multiply_3 : decode cd_R_multiply 3 = .ok (.getfield 27, 3) := by decide +kernel
theorem dd_R_multiply_6 : decode cd_R_multiply 6 = .ok (.aload_n 0, 1) := by decide +kernel
theorem dd_R_multiply_7 : decode cd_R_multiply 7 = .ok (.getfield 36, 3) := by decide +kernel
theorem dd_R_multiply_10 : decode cd_R_multiply 10 = .ok (.invokevirtual 72, 3) := by decide +kernel
theorem dd_R_multiply_13 : decode cd_R_multiply 13 = .ok (.aload_n 0, 1) := by decide +kernel
theorem dd_R_multiply_14 : decode cd_R_multiply 14 = .ok (.aload_n 0, 1) := by decide +kernel
theorem dd_R_multiply_15 : decode cd_R_multiply 15 = .ok (.getfield 36, 3) := by decide +kernel
theorem dd_R_multiply_18 : decode cd_R_multiply 18 = .ok (.aload_n 2, 1) := by decide +kernel
theorem dd_R_multiply_19 : decode cd_R_multiply 19 = .ok (.aload_n 3, 1) := by decide +kernel
theorem dd_R_multiply_20 : decode cd_R_multiply 20 = .ok (.invokevirtual 72, 3) := by decide +kernel
theorem dd_R_multiply_23 : decode cd_R_multiply 23 = .ok (.return_, 1) := by decide +kernel
theorem dd_R_power_0 : decode cd_R_power 0 = .ok (.aload_n 0, 1) := by decide +kernel
theorem dd_R_power_1 : decode cd_R_power 1 = .ok (.aload_n 1, 1) := by decide +kernel
theorem dd_R_power_2 : decode cd_R_power 2 = .ok (.aload_n 0, 1) := by decide +kernel
theorem dd_R_power_3 : decode cd_R_power 3 = .ok (.getfield 27, 3) := by decide +kernel
theorem dd_R_power_6 : decode cd_R_power 6 = .ok (.aload_n 0, 1) := by decide +kernel
theorem dd_R_power_7 : decode cd_R_power 7 = .ok (.getfield 36, 3) := by decide +kernel
theorem dd_R_power_10 : decode cd_R_power 10 = .ok (.invokevirtual 72, 3) := by decide +kernel
theorem dd_R_power_13 : decode cd_R_power 13 = .ok (.aload_n 0, 1) := by decide +kernel
theorem dd_R_power_14 : decode cd_R_power 14 = .ok (.getfield 24, 3) := by decide +kernel
theorem dd_R_power_17 : decode cd_R_power 17 = .ok (.iconst 0, 1) := by decide +kernel
theorem dd_R_power_18 : decode cd_R_power 18 = .ok (.aload_n 0, 1) := by decide +kernel
theorem dd_R_power_19 : decode cd_R_power 19 = .ok (.getfield 39, 3) := by decide +kernel
theorem dd_R_power_22 : decode cd_R_power 22 = .ok (.iconst 0, 1) := by decide +kernel
theorem dd_R_power_23 : decode cd_R_power 23 = .ok (.iconst 4, 1) := by decide +kernel
theorem dd_R_power_24 : decode cd_R_power 24 = .ok (.invokestatic 54, 3) := by decide +kernel
theorem dd_R_power_27 : decode cd_R_power 27 = .ok (.aload_n 2, 1) := by decide +kernel
theorem dd_R_power_28 : decode cd_R_power 28 = .ok (.invokevirtual 76, 3) := by decide +kernel
theorem dd_R_power_31 : decode cd_R_power 31 = .ok (.istore 4, 2) := by decide +kernel
theorem dd_R_power_33 : decode cd_R_power 33 = .ok (.iload 4, 2) := by decide +kernel
theorem dd_R_power_35 : decode cd_R_power 35 = .ok (.ifCond .lt 50, 3) := by decide +kernel
theorem dd_R_power_38 : decode cd_R_power 38 = .ok (.aload_n 0, 1) := by decide +kernel
theorem dd_R_power_39 : decode cd_R_power 39 = .ok (.aload_n 0, 1) := by decide +kernel
theorem dd_R_power_40 : decode cd_R_power 40 = .ok (.getfield 39, 3) := by decide +kernel
theorem dd_R_power_43 : decode cd_R_power 43 = .ok (.aload_n 0, 1) := by decide +kernel
theorem dd_R_power_44 : decode cd_R_power 44 = .ok (.getfield 39, 3) := by decide +kernel
theorem dd_R_power_47 : decode cd_R_power 47 = .ok (.aload_n 0, 1) := by decide +kernel
theorem dd_R_power_48 : decode cd_R_power 48 = .ok (.getfield 39, 3) := by decide +kernel
theorem dd_R_power_51 : decode cd_R_power 51 = .ok (.invokevirtual 72, 3) := by decide +kernel
theorem dd_R_power_54 : decode cd_R_power 54 = .ok (.aload_n 2, 1) := by decide +kernel
theorem dd_R_power_55 : decode cd_R_power 55 = .ok (.iload 4, 2) := by decide +kernel
theorem dd_R_power_57 : decode cd_R_power 57 = .ok (.invokevirtual 82, 3) := by decide +kernel
theorem dd_R_power_60 : decode cd_R_power 60 = .ok (.ifCond .eq 19, 3) := by decide +kernel
theorem dd_R_power_63 : decode cd_R_power 63 = .ok (.aload_n 0, 1) := by decide +kernel
theorem dd_R_power_64 : decode cd_R_power 64 = .ok (.aload_n 0, 1) := by decide +kernel
theorem dd_R_power_65 : decode cd_R_power 65 = .ok (.getfield 39, 3) := by decide +kernel
theorem dd_R_power_68 : decode cd_R_power 68 = .ok (.aload_n 0, 1) := by decide +kernel
theorem dd_R_power_69 : decode cd_R_power 69 = .ok (.getfield 36, 3) := by decide +kernel
theorem dd_R_power_72 : decode cd_R_power 72 = .ok (.aload_n 0, 1) := by decide +kernel
theorem dd_R_power_73 : decode cd_R_power 73 = .ok (.getfield 39, 3) := by decide +kernel
theorem dd_R_power_76 : decode cd_R_power 76 = .ok (.invokevirtual 72, 3) := by decide +kernel
theorem dd_R_power_79 : decode cd_R_power 79 = .ok (.iinc 4 (-1), 3) := by decide +kernel
theorem dd_R_power_82 : decode cd_R_power 82 = .ok (.goto (-49), 3) := by decide +kernel
theorem dd_R_power_85 : decode cd_R_power 85 = .ok (.aload_n 0, 1) := by decide +kernel
theorem dd_R_power_86 : decode cd_R_power 86 = .ok (.aload_n 0, 1) := by decide +kernel
theorem dd_R_power_87 : decode cd_R_power 87 = .ok (.getfield 39, 3) := by decide +kernel
theorem dd_R_power_90 : decode cd_R_power 90 = .ok (.aload_n 0, 1) := by decide +kernel
theorem dd_R_power_91 : decode cd_R_power 91 = .ok (.getfield 18, 3) := by decide +kernel
theorem dd_R_power_94 : decode cd_R_power 94 = .ok (.aload_n 3, 1) := by decide +kernel
theorem dd_R_power_95 : decode cd_R_power 95 = .ok (.invokevirtual 72, 3) := by decide +kernel
theorem dd_R_power_98 : decode cd_R_power 98 = .ok (.return_, 1) := by decide +kernel
theorem dd_R_isBelow_0 : decode cd_R_isBelow 0 = .ok (.lload_n 0, 1) := by decide +kernel
theorem dd_R_isBelow_1 : decode cd_R_isBelow 1 = .ok (.ldc2_w 88, 3) := by decide +kernel
theorem dd_R_isBelow_4 : decode cd_R_isBelow 4 = .ok (.ladd, 1) := by decide +kernel
theorem dd_R_isBelow_5 : decode cd_R_isBelow 5 = .ok (.lload_n 2, 1) := by decide +kernel
theorem dd_R_isBelow_6 : decode cd_R_isBelow 6 = .ok (.ldc2_w 88, 3) := by decide +kernel
theorem dd_R_isBelow_9 : decode cd_R_isBelow 9 = .ok (.ladd, 1) := by decide +kernel
theorem dd_R_isBelow_10 : decode cd_R_isBelow 10 = .ok (.lcmp, 1) := by decide +kernel
theorem dd_R_isBelow_11 : decode cd_R_isBelow 11 = .ok (.ifCond .ge 7, 3) := by decide +kernel
theorem dd_R_isBelow_14 : decode cd_R_isBelow 14 = .ok (.iconst 1, 1) := by decide +kernel
theorem dd_R_isBelow_15 : decode cd_R_isBelow 15 = .ok (.goto 4, 3) := by decide +kernel
theorem dd_R_isBelow_18 : decode cd_R_isBelow 18 = .ok (.iconst 0, 1) := by decide +kernel
theorem dd_R_isBelow_19 : decode cd_R_isBelow 19 = .ok (.ireturn, 1) := by decide +kernel
theorem dd_R_findNegatedInverse_0 : decode cd_R_findNegatedInverse 0 = .ok (.aload_n 0, 1) := by decide +kernel
theorem dd_R_findNegatedInverse_1 : decode cd_R_findNegatedInverse 1 = .ok (.getfield 21, 3) := by decide +kernel
theorem dd_R_findNegatedInverse_4 : decode cd_R_findNegatedInverse 4 = .ok (.iconst 0, 1) := by decide +kernel
theorem dd_R_findNegatedInverse_5 : decode cd_R_findNegatedInverse 5 = .ok (.laload, 1) := by decide +kernel
theorem dd_R_findNegatedInverse_6 : decode cd_R_findNegatedInverse 6 = .ok (.lstore_n 1, 1) := by decide +kernel
theorem dd_R_findNegatedInverse_7 : decode cd_R_findNegatedInverse 7 = .ok (.lload_n 1, 1) := by decide +kernel
theorem dd_R_findNegatedInverse_8 : decode cd_R_findNegatedInverse 8 = .ok (.lstore_n 3, 1) := by decide +kernel
theorem dd_R_findNegatedInverse_9 : decode cd_R_findNegatedInverse 9 = .ok (.iconst 0, 1) := by decide +kernel
theorem dd_R_findNegatedInverse_10 : decode cd_R_findNegatedInverse 10 = .ok (.istore 5, 2) := by decide +kernel
theorem dd_R_findNegatedInverse_12 : decode cd_R_findNegatedInverse 12 = .ok (.iload 5, 2) := by decide +kernel
theorem dd_R_findNegatedInverse_14 : decode cd_R_findNegatedInverse 14 = .ok (.iconst 4, 1) := by decide +kernel
theorem dd_R_findNegatedInverse_15 : decode cd_R_findNegatedInverse 15 = .ok (.if_icmp .ge 23, 3) := by decide +kernel
theorem dd_R_findNegatedInverse_18 : decode cd_R_findNegatedInverse 18 = .ok (.lload_n 3, 1) := by decide +kernel
theorem dd_R_findNegatedInverse_19 : decode cd_R_findNegatedInverse 19 = .ok (.ldc2_w 90, 3) := by decide +kernel
theorem dd_R_findNegatedInverse_22 : decode cd_R_findNegatedInverse 22 = .ok (.lload_n 1, 1) := by decide +kernel
theorem dd_R_findNegatedInverse_23 : decode cd_R_findNegatedInverse 23 = .ok (.lload_n 3, 1) := by decide +kernel
theorem dd_R_findNegatedInverse_24 : decode cd_R_findNegatedInverse 24 = .ok (.lmul, 1) := by decide +kernel
theorem dd_R_findNegatedInverse_25 : decode cd_R_findNegatedInverse 25 = .ok (.lsub, 1) := by decide +kernel
theorem dd_R_findNegatedInverse_26 : decode cd_R_findNegatedInverse 26 = .ok (.lmul, 1) := by decide +kernel
theorem dd_R_findNegatedInverse_27 : decode cd_R_findNegatedInverse 27 = .ok (.ldc2_w 42, 3) := by decide +kernel
theorem dd_R_findNegatedInverse_30 : decode cd_R_findNegatedInverse 30 = .ok (.land, 1) := by decide +kernel
theorem dd_R_findNegatedInverse_31 : decode cd_R_findNegatedInverse 31 = .ok (.lstore_n 3, 1) := by decide +kernel
theorem dd_R_findNegatedInverse_32 : decode cd_R_findNegatedInverse 32 = .ok (.iinc 5 1, 3) := by decide +kernel
theorem dd_R_findNegatedInverse_35 : decode cd_R_findNegatedInverse 35 = .ok (.goto (-23), 3) := by decide +kernel
theorem dd_R_findNegatedInverse_38 : decode cd_R_findNegatedInverse 38 = .ok (.aload_n 0, 1) := by decide +kernel
theorem dd_R_findNegatedInverse_39 : decode cd_R_findNegatedInverse 39 = .ok (.lload_n 3, 1) := by decide +kernel
theorem dd_R_findNegatedInverse_40 : decode cd_R_findNegatedInverse 40 = .ok (.lneg, 1) := by decide +kernel
theorem dd_R_findNegatedInverse_41 : decode cd_R_findNegatedInverse 41 = .ok (.ldc2_w 42, 3) := by decide +kernel
theorem dd_R_findNegatedInverse_44 : decode cd_R_findNegatedInverse 44 = .ok (.land, 1) := by decide +kernel
theorem dd_R_findNegatedInverse_45 : decode cd_R_findNegatedInverse 45 = .ok (.putfield 92, 3) := by decide +kernel
theorem dd_R_findNegatedInverse_48 : decode cd_R_findNegatedInverse 48 = .ok (.return_, 1) := by decide +kernel
theorem dd_R_findThird_0 : decode cd_R_findThird 0 = .ok (.lconst 0, 1) := by decide +kernel
theorem dd_R_findThird_1 : decode cd_R_findThird 1 = .ok (.lstore_n 1, 1) := by decide +kernel
theorem dd_R_findThird_2 : decode cd_R_findThird 2 = .ok (.iconst 3, 1) := by decide +kernel
theorem dd_R_findThird_3 : decode cd_R_findThird 3 = .ok (.istore_n 3, 1) := by decide +kernel
theorem dd_R_findThird_4 : decode cd_R_findThird 4 = .ok (.iload_n 3, 1) := by decide +kernel
theorem dd_R_findThird_5 : decode cd_R_findThird 5 = .ok (.ifCond .lt 41, 3) := by decide +kernel
theorem dd_R_findThird_8 : decode cd_R_findThird 8 = .ok (.lload_n 1, 1) := by decide +kernel
theorem dd_R_findThird_9 : decode cd_R_findThird 9 = .ok (.bipush 32, 2) := by decide +kernel
theorem dd_R_findThird_11 : decode cd_R_findThird 11 = .ok (.lshl, 1) := by decide +kernel
theorem dd_R_findThird_12 : decode cd_R_findThird 12 = .ok (.aload_n 0, 1) := by decide +kernel
theorem dd_R_findThird_13 : decode cd_R_findThird 13 = .ok (.getfield 21, 3) := by decide +kernel
theorem dd_R_findThird_16 : decode cd_R_findThird 16 = .ok (.iload_n 3, 1) := by decide +kernel
theorem dd_R_findThird_17 : decode cd_R_findThird 17 = .ok (.laload, 1) := by decide +kernel
theorem dd_R_findThird_18 : decode cd_R_findThird 18 = .ok (.lor, 1) := by decide +kernel
theorem dd_R_findThird_19 : decode cd_R_findThird 19 = .ok (.lstore 4, 2) := by decide +kernel
theorem dd_R_findThird_21 : decode cd_R_findThird 21 = .ok (.aload_n 0, 1) := by decide +kernel
theorem dd_R_findThird_22 : decode cd_R_findThird 22 = .ok (.getfield 15, 3) := by decide +kernel
theorem dd_R_findThird_25 : decode cd_R_findThird 25 = .ok (.iload_n 3, 1) := by decide +kernel
theorem dd_R_findThird_26 : decode cd_R_findThird 26 = .ok (.lload 4, 2) := by decide +kernel
theorem dd_R_findThird_28 : decode cd_R_findThird 28 = .ok (.ldc2_w 7, 3) := by decide +kernel
theorem dd_R_findThird_31 : decode cd_R_findThird 31 = .ok (.ldiv, 1) := by decide +kernel
theorem dd_R_findThird_32 : decode cd_R_findThird 32 = .ok (.lastore, 1) := by decide +kernel
theorem dd_R_findThird_33 : decode cd_R_findThird 33 = .ok (.lload 4, 2) := by decide +kernel
theorem dd_R_findThird_35 : decode cd_R_findThird 35 = .ok (.ldc2_w 7, 3) := by decide +kernel
theorem dd_R_findThird_38 : decode cd_R_findThird 38 = .ok (.lrem, 1) := by decide +kernel
theorem dd_R_findThird_39 : decode cd_R_findThird 39 = .ok (.lstore_n 1, 1) := by decide +kernel
theorem dd_R_findThird_40 : decode cd_R_findThird 40 = .ok (.iinc 3 (-1), 3) := by decide +kernel
theorem dd_R_findThird_43 : decode cd_R_findThird 43 = .ok (.goto (-39), 3) := by decide +kernel
theorem dd_R_findThird_46 : decode cd_R_findThird 46 = .ok (.lload_n 1, 1) := by decide +kernel
theorem dd_R_findThird_47 : decode cd_R_findThird 47 = .ok (.lconst 1, 1) := by decide +kernel
theorem dd_R_findThird_48 : decode cd_R_findThird 48 = .ok (.lcmp, 1) := by decide +kernel
theorem dd_R_findThird_49 : decode cd_R_findThird 49 = .ok (.ifCond .ne 9, 3) := by decide +kernel
theorem dd_R_findThird_52 : decode cd_R_findThird 52 = .ok (.ldc2_w 90, 3) := by decide +kernel
theorem dd_R_findThird_55 : decode cd_R_findThird 55 = .ok (.goto 4, 3) := by decide +kernel
theorem dd_R_findThird_58 : decode cd_R_findThird 58 = .ok (.lconst 1, 1) := by decide +kernel
theorem dd_R_findThird_59 : decode cd_R_findThird 59 = .ok (.lstore_n 3, 1) := by decide +kernel
theorem dd_R_findThird_60 : decode cd_R_findThird 60 = .ok (.lconst 1, 1) := by decide +kernel
theorem dd_R_findThird_61 : decode cd_R_findThird 61 = .ok (.lstore 5, 2) := by decide +kernel
theorem dd_R_findThird_63 : decode cd_R_findThird 63 = .ok (.iconst 0, 1) := by decide +kernel
theorem dd_R_findThird_64 : decode cd_R_findThird 64 = .ok (.istore 7, 2) := by decide +kernel
theorem dd_R_findThird_66 : decode cd_R_findThird 66 = .ok (.iload 7, 2) := by decide +kernel
theorem dd_R_findThird_68 : decode cd_R_findThird 68 = .ok (.iconst 4, 1) := by decide +kernel
theorem dd_R_findThird_69 : decode cd_R_findThird 69 = .ok (.if_icmp .ge 43, 3) := by decide +kernel
theorem dd_R_findThird_72 : decode cd_R_findThird 72 = .ok (.aload_n 0, 1) := by decide +kernel
theorem dd_R_findThird_73 : decode cd_R_findThird 73 = .ok (.getfield 15, 3) := by decide +kernel
theorem dd_R_findThird_76 : decode cd_R_findThird 76 = .ok (.iload 7, 2) := by decide +kernel
theorem dd_R_findThird_78 : decode cd_R_findThird 78 = .ok (.laload, 1) := by decide +kernel
theorem dd_R_findThird_79 : decode cd_R_findThird 79 = .ok (.lload_n 3, 1) := by decide +kernel
theorem dd_R_findThird_80 : decode cd_R_findThird 80 = .ok (.lmul, 1) := by decide +kernel
theorem dd_R_findThird_81 : decode cd_R_findThird 81 = .ok (.lload 5, 2) := by decide +kernel
theorem dd_R_findThird_83 : decode cd_R_findThird 83 = .ok (.ladd, 1) := by decide +kernel
theorem dd_R_findThird_84 : decode cd_R_findThird 84 = .ok (.lstore 8, 2) := by decide +kernel
theorem dd_R_findThird_86 : decode cd_R_findThird 86 = .ok (.aload_n 0, 1) := by decide +kernel
theorem dd_R_findThird_87 : decode cd_R_findThird 87 = .ok (.getfield 15, 3) := by decide +kernel
theorem dd_R_findThird_90 : decode cd_R_findThird 90 = .ok (.iload 7, 2) := by decide +kernel
theorem dd_R_findThird_92 : decode cd_R_findThird 92 = .ok (.lload 8, 2) := by decide +kernel
theorem dd_R_findThird_94 : decode cd_R_findThird 94 = .ok (.ldc2_w 42, 3) := by decide +kernel
theorem dd_R_findThird_97 : decode cd_R_findThird 97 = .ok (.land, 1) := by decide +kernel
theorem dd_R_findThird_98 : decode cd_R_findThird 98 = .ok (.lastore, 1) := by decide +kernel
theorem dd_R_findThird_99 : decode cd_R_findThird 99 = .ok (.lload 8, 2) := by decide +kernel
theorem dd_R_findThird_101 : decode cd_R_findThird 101 = .ok (.bipush 32, 2) := by decide +kernel
theorem dd_R_findThird_103 : decode cd_R_findThird 103 = .ok (.lushr, 1) := by decide +kernel
theorem dd_R_findThird_104 : decode cd_R_findThird 104 = .ok (.lstore 5, 2) := by decide +kernel
theorem dd_R_findThird_106 : decode cd_R_findThird 106 = .ok (.iinc 7 1, 3) := by decide +kernel
theorem dd_R_findThird_109 : decode cd_R_findThird 109 = .ok (.goto (-43), 3) := by decide +kernel
theorem dd_R_findThird_112 : decode cd_R_findThird 112 = .ok (.return_, 1) := by decide +kernel
theorem dd_R_shiftBy128_0 : decode cd_R_shiftBy128 0 = .ok (.iconst 0, 1) := by decide +kernel
theorem dd_R_shiftBy128_1 : decode cd_R_shiftBy128 1 = .ok (.istore_n 2, 1) := by decide +kernel
theorem dd_R_shiftBy128_2 : decode cd_R_shiftBy128 2 = .ok (.iload_n 2, 1) := by decide +kernel
theorem dd_R_shiftBy128_3 : decode cd_R_shiftBy128 3 = .ok (.sipush 128, 3) := by decide +kernel
theorem dd_R_shiftBy128_6 : decode cd_R_shiftBy128 6 = .ok (.if_icmp .ge 67, 3) := by decide +kernel
theorem dd_R_shiftBy128_9 : decode cd_R_shiftBy128 9 = .ok (.lconst 0, 1) := by decide +kernel
theorem dd_R_shiftBy128_10 : decode cd_R_shiftBy128 10 = .ok (.lstore_n 3, 1) := by decide +kernel
theorem dd_R_shiftBy128_11 : decode cd_R_shiftBy128 11 = .ok (.iconst 0, 1) := by decide +kernel
theorem dd_R_shiftBy128_12 : decode cd_R_shiftBy128 12 = .ok (.istore 5, 2) := by decide +kernel
theorem dd_R_shiftBy128_14 : decode cd_R_shiftBy128 14 = .ok (.iload 5, 2) := by decide +kernel
theorem dd_R_shiftBy128_16 : decode cd_R_shiftBy128 16 = .ok (.iconst 4, 1) := by decide +kernel
theorem dd_R_shiftBy128_17 : decode cd_R_shiftBy128 17 = .ok (.if_icmp .ge 38, 3) := by decide +kernel
theorem dd_R_shiftBy128_20 : decode cd_R_shiftBy128 20 = .ok (.aload_n 1, 1) := by decide +kernel
theorem dd_R_shiftBy128_21 : decode cd_R_shiftBy128 21 = .ok (.iload 5, 2) := by decide +kernel
theorem dd_R_shiftBy128_23 : decode cd_R_shiftBy128 23 = .ok (.laload, 1) := by decide +kernel
theorem dd_R_shiftBy128_24 : decode cd_R_shiftBy128 24 = .ok (.iconst 1, 1) := by decide +kernel
theorem dd_R_shiftBy128_25 : decode cd_R_shiftBy128 25 = .ok (.lshl, 1) := by decide +kernel
theorem dd_R_shiftBy128_26 : decode cd_R_shiftBy128 26 = .ok (.lload_n 3, 1) := by decide +kernel
theorem dd_R_shiftBy128_27 : decode cd_R_shiftBy128 27 = .ok (.lor, 1) := by decide +kernel
theorem dd_R_shiftBy128_28 : decode cd_R_shiftBy128 28 = .ok (.lstore 6, 2) := by decide +kernel
theorem dd_R_shiftBy128_30 : decode cd_R_shiftBy128 30 = .ok (.aload_n 0, 1) := by decide +kernel
theorem dd_R_shiftBy128_31 : decode cd_R_shiftBy128 31 = .ok (.getfield 30, 3) := by decide +kernel
theorem dd_R_shiftBy128_34 : decode cd_R_shiftBy128 34 = .ok (.iload 5, 2) := by decide +kernel
theorem dd_R_shiftBy128_36 : decode cd_R_shiftBy128 36 = .ok (.lload 6, 2) := by decide +kernel
theorem dd_R_shiftBy128_38 : decode cd_R_shiftBy128 38 = .ok (.ldc2_w 42, 3) := by decide +kernel
theorem dd_R_shiftBy128_41 : decode cd_R_shiftBy128 41 = .ok (.land, 1) := by decide +kernel
theorem dd_R_shiftBy128_42 : decode cd_R_shiftBy128 42 = .ok (.lastore, 1) := by decide +kernel
theorem dd_R_shiftBy128_43 : decode cd_R_shiftBy128 43 = .ok (.lload 6, 2) := by decide +kernel
theorem dd_R_shiftBy128_45 : decode cd_R_shiftBy128 45 = .ok (.bipush 32, 2) := by decide +kernel
theorem dd_R_shiftBy128_47 : decode cd_R_shiftBy128 47 = .ok (.lushr, 1) := by decide +kernel
theorem dd_R_shiftBy128_48 : decode cd_R_shiftBy128 48 = .ok (.lstore_n 3, 1) := by decide +kernel
theorem dd_R_shiftBy128_49 : decode cd_R_shiftBy128 49 = .ok (.iinc 5 1, 3) := by decide +kernel
theorem dd_R_shiftBy128_52 : decode cd_R_shiftBy128 52 = .ok (.goto (-38), 3) := by decide +kernel
theorem dd_R_shiftBy128_55 : decode cd_R_shiftBy128 55 = .ok (.aload_n 0, 1) := by decide +kernel
theorem dd_R_shiftBy128_56 : decode cd_R_shiftBy128 56 = .ok (.getfield 30, 3) := by decide +kernel
theorem dd_R_shiftBy128_59 : decode cd_R_shiftBy128 59 = .ok (.iconst 4, 1) := by decide +kernel
theorem dd_R_shiftBy128_60 : decode cd_R_shiftBy128 60 = .ok (.lload_n 3, 1) := by decide +kernel
theorem dd_R_shiftBy128_61 : decode cd_R_shiftBy128 61 = .ok (.lastore, 1) := by decide +kernel
theorem dd_R_shiftBy128_62 : decode cd_R_shiftBy128 62 = .ok (.aload_n 0, 1) := by decide +kernel
theorem dd_R_shiftBy128_63 : decode cd_R_shiftBy128 63 = .ok (.aload_n 1, 1) := by decide +kernel
theorem dd_R_shiftBy128_64 : decode cd_R_shiftBy128 64 = .ok (.invokevirtual 96, 3) := by decide +kernel
theorem dd_R_shiftBy128_67 : decode cd_R_shiftBy128 67 = .ok (.iinc 2 1, 3) := by decide +kernel
theorem dd_R_shiftBy128_70 : decode cd_R_shiftBy128 70 = .ok (.goto (-68), 3) := by decide +kernel
theorem dd_R_shiftBy128_73 : decode cd_R_shiftBy128 73 = .ok (.return_, 1) := by decide +kernel
theorem dd_R_montgomery_0 : decode cd_R_montgomery 0 = .ok (.aload_n 0, 1) := by decide +kernel
theorem dd_R_montgomery_1 : decode cd_R_montgomery 1 = .ok (.getfield 30, 3) := by decide +kernel
theorem dd_R_montgomery_4 : decode cd_R_montgomery 4 = .ok (.lconst 0, 1) := by decide +kernel
theorem dd_R_montgomery_5 : decode cd_R_montgomery 5 = .ok (.invokestatic 99, 3) := by decide +kernel
theorem dd_R_montgomery_8 : decode cd_R_montgomery 8 = .ok (.iconst 0, 1) := by decide +kernel
theorem dd_R_montgomery_9 : decode cd_R_montgomery 9 = .ok (.istore 4, 2) := by decide +kernel
theorem dd_R_montgomery_11 : decode cd_R_montgomery 11 = .ok (.iload 4, 2) := by decide +kernel
theorem dd_R_montgomery_13 : decode cd_R_montgomery 13 = .ok (.iconst 4, 1) := by decide +kernel
theorem dd_R_montgomery_14 : decode cd_R_montgomery 14 = .ok (.if_icmp .ge 22, 3) := by decide +kernel
theorem dd_R_montgomery_17 : decode cd_R_montgomery 17 = .ok (.aload_n 0, 1) := by decide +kernel
theorem dd_R_montgomery_18 : decode cd_R_montgomery 18 = .ok (.aload_n 1, 1) := by decide +kernel
theorem dd_R_montgomery_19 : decode cd_R_montgomery 19 = .ok (.aload_n 2, 1) := by decide +kernel
theorem dd_R_montgomery_20 : decode cd_R_montgomery 20 = .ok (.iload 4, 2) := by decide +kernel
theorem dd_R_montgomery_22 : decode cd_R_montgomery 22 = .ok (.laload, 1) := by decide +kernel
theorem dd_R_montgomery_23 : decode cd_R_montgomery 23 = .ok (.invokevirtual 105, 3) := by decide +kernel
theorem dd_R_montgomery_26 : decode cd_R_montgomery 26 = .ok (.aload_n 0, 1) := by decide +kernel
theorem dd_R_montgomery_27 : decode cd_R_montgomery 27 = .ok (.invokevirtual 108, 3) := by decide +kernel
theorem dd_R_montgomery_30 : decode cd_R_montgomery 30 = .ok (.iinc 4 1, 3) := by decide +kernel
theorem dd_R_montgomery_33 : decode cd_R_montgomery 33 = .ok (.goto (-22), 3) := by decide +kernel
theorem dd_R_montgomery_36 : decode cd_R_montgomery 36 = .ok (.aload_n 0, 1) := by decide +kernel
theorem dd_R_montgomery_37 : decode cd_R_montgomery 37 = .ok (.aload_n 3, 1) := by decide +kernel
theorem dd_R_montgomery_38 : decode cd_R_montgomery 38 = .ok (.invokevirtual 96, 3) := by decide +kernel
theorem dd_R_montgomery_41 : decode cd_R_montgomery 41 = .ok (.return_, 1) := by decide +kernel
theorem dd_R_addProduct_0 : decode cd_R_addProduct 0 = .ok (.lconst 0, 1) := by decide +kernel
theorem dd_R_addProduct_1 : decode cd_R_addProduct 1 = .ok (.lstore 4, 2) := by decide +kernel
theorem dd_R_addProduct_3 : decode cd_R_addProduct 3 = .ok (.iconst 0, 1) := by decide +kernel
theorem dd_R_addProduct_4 : decode cd_R_addProduct 4 = .ok (.istore 6, 2) := by decide +kernel
theorem dd_R_addProduct_6 : decode cd_R_addProduct 6 = .ok (.iload 6, 2) := by decide +kernel
theorem dd_R_addProduct_8 : decode cd_R_addProduct 8 = .ok (.iconst 4, 1) := by decide +kernel
theorem dd_R_addProduct_9 : decode cd_R_addProduct 9 = .ok (.if_icmp .ge 48, 3) := by decide +kernel
theorem dd_R_addProduct_12 : decode cd_R_addProduct 12 = .ok (.aload_n 0, 1) := by decide +kernel
theorem dd_R_addProduct_13 : decode cd_R_addProduct 13 = .ok (.getfield 30, 3) := by decide +kernel
theorem dd_R_addProduct_16 : decode cd_R_addProduct 16 = .ok (.iload 6, 2) := by decide +kernel
theorem dd_R_addProduct_18 : decode cd_R_addProduct 18 = .ok (.laload, 1) := by decide +kernel
theorem dd_R_addProduct_19 : decode cd_R_addProduct 19 = .ok (.aload_n 1, 1) := by decide +kernel
theorem dd_R_addProduct_20 : decode cd_R_addProduct 20 = .ok (.iload 6, 2) := by decide +kernel
theorem dd_R_addProduct_22 : decode cd_R_addProduct 22 = .ok (.laload, 1) := by decide +kernel
theorem dd_R_addProduct_23 : decode cd_R_addProduct 23 = .ok (.lload_n 2, 1) := by decide +kernel
theorem dd_R_addProduct_24 : decode cd_R_addProduct 24 = .ok (.lmul, 1) := by decide +kernel
theorem dd_R_addProduct_25 : decode cd_R_addProduct 25 = .ok (.ladd, 1) := by decide +kernel
theorem dd_R_addProduct_26 : decode cd_R_addProduct 26 = .ok (.lload 4, 2) := by decide +kernel
theorem dd_R_addProduct_28 : decode cd_R_addProduct 28 = .ok (.ladd, 1) := by decide +kernel
theorem dd_R_addProduct_29 : decode cd_R_addProduct 29 = .ok (.lstore 7, 2) := by decide +kernel
theorem dd_R_addProduct_31 : decode cd_R_addProduct 31 = .ok (.aload_n 0, 1) := by decide +kernel
theorem dd_R_addProduct_32 : decode cd_R_addProduct 32 = .ok (.getfield 30, 3) := by decide +kernel
theorem dd_R_addProduct_35 : decode cd_R_addProduct 35 = .ok (.iload 6, 2) := by decide +kernel
theorem dd_R_addProduct_37 : decode cd_R_addProduct 37 = .ok (.lload 7, 2) := by decide +kernel
theorem dd_R_addProduct_39 : decode cd_R_addProduct 39 = .ok (.ldc2_w 42, 3) := by decide +kernel
theorem dd_R_addProduct_42 : decode cd_R_addProduct 42 = .ok (.land, 1) := by decide +kernel
theorem dd_R_addProduct_43 : decode cd_R_addProduct 43 = .ok (.lastore, 1) := by decide +kernel
theorem dd_R_addProduct_44 : decode cd_R_addProduct 44 = .ok (.lload 7, 2) := by decide +kernel
theorem dd_R_addProduct_46 : decode cd_R_addProduct 46 = .ok (.bipush 32, 2) := by decide +kernel
theorem dd_R_addProduct_48 : decode cd_R_addProduct 48 = .ok (.lushr, 1) := by decide +kernel
theorem dd_R_addProduct_49 : decode cd_R_addProduct 49 = .ok (.lstore 4, 2) := by decide +kernel
theorem dd_R_addProduct_51 : decode cd_R_addProduct 51 = .ok (.iinc 6 1, 3) := by decide +kernel
theorem dd_R_addProduct_54 : decode cd_R_addProduct 54 = .ok (.goto (-48), 3) := by decide +kernel
theorem dd_R_addProduct_57 : decode cd_R_addProduct 57 = .ok (.aload_n 0, 1) := by decide +kernel
theorem dd_R_addProduct_58 : decode cd_R_addProduct 58 = .ok (.getfield 30, 3) := by decide +kernel
theorem dd_R_addProduct_61 : decode cd_R_addProduct 61 = .ok (.iconst 4, 1) := by decide +kernel
theorem dd_R_addProduct_62 : decode cd_R_addProduct 62 = .ok (.laload, 1) := by decide +kernel
theorem dd_R_addProduct_63 : decode cd_R_addProduct 63 = .ok (.lload 4, 2) := by decide +kernel
theorem dd_R_addProduct_65 : decode cd_R_addProduct 65 = .ok (.ladd, 1) := by decide +kernel
theorem dd_R_addProduct_66 : decode cd_R_addProduct 66 = .ok (.lstore 6, 2) := by decide +kernel
theorem dd_R_addProduct_68 : decode cd_R_addProduct 68 = .ok (.aload_n 0, 1) := by decide +kernel
theorem dd_R_addProduct_69 : decode cd_R_addProduct 69 = .ok (.getfield 30, 3) := by decide +kernel
theorem dd_R_addProduct_72 : decode cd_R_addProduct 72 = .ok (.iconst 4, 1) := by decide +kernel
theorem dd_R_addProduct_73 : decode cd_R_addProduct 73 = .ok (.lload 6, 2) := by decide +kernel
theorem dd_R_addProduct_75 : decode cd_R_addProduct 75 = .ok (.ldc2_w 42, 3) := by decide +kernel
theorem dd_R_addProduct_78 : decode cd_R_addProduct 78 = .ok (.land, 1) := by decide +kernel
theorem dd_R_addProduct_79 : decode cd_R_addProduct 79 = .ok (.lastore, 1) := by decide +kernel
theorem dd_R_addProduct_80 : decode cd_R_addProduct 80 = .ok (.aload_n 0, 1) := by decide +kernel
theorem dd_R_addProduct_81 : decode cd_R_addProduct 81 = .ok (.getfield 30, 3) := by decide +kernel
theorem dd_R_addProduct_84 : decode cd_R_addProduct 84 = .ok (.iconst 5, 1) := by decide +kernel
theorem dd_R_addProduct_85 : decode cd_R_addProduct 85 = .ok (.lload 6, 2) := by decide +kernel
theorem dd_R_addProduct_87 : decode cd_R_addProduct 87 = .ok (.bipush 32, 2) := by decide +kernel
theorem dd_R_addProduct_89 : decode cd_R_addProduct 89 = .ok (.lushr, 1) := by decide +kernel
theorem dd_R_addProduct_90 : decode cd_R_addProduct 90 = .ok (.lastore, 1) := by decide +kernel
theorem dd_R_addProduct_91 : decode cd_R_addProduct 91 = .ok (.return_, 1) := by decide +kernel
theorem dd_R_dropLowestLimb_0 : decode cd_R_dropLowestLimb 0 = .ok (.aload_n 0, 1) := by decide +kernel
theorem dd_R_dropLowestLimb_1 : decode cd_R_dropLowestLimb 1 = .ok (.getfield 30, 3) := by decide +kernel
theorem dd_R_dropLowestLimb_4 : decode cd_R_dropLowestLimb 4 = .ok (.iconst 0, 1) := by decide +kernel
theorem dd_R_dropLowestLimb_5 : decode cd_R_dropLowestLimb 5 = .ok (.laload, 1) := by decide +kernel
theorem dd_R_dropLowestLimb_6 : decode cd_R_dropLowestLimb 6 = .ok (.aload_n 0, 1) := by decide +kernel
theorem dd_R_dropLowestLimb_7 : decode cd_R_dropLowestLimb 7 = .ok (.getfield 92, 3) := by decide +kernel
theorem dd_R_dropLowestLimb_10 : decode cd_R_dropLowestLimb 10 = .ok (.lmul, 1) := by decide +kernel
theorem dd_R_dropLowestLimb_11 : decode cd_R_dropLowestLimb 11 = .ok (.ldc2_w 42, 3) := by decide +kernel
theorem dd_R_dropLowestLimb_14 : decode cd_R_dropLowestLimb 14 = .ok (.land, 1) := by decide +kernel
theorem dd_R_dropLowestLimb_15 : decode cd_R_dropLowestLimb 15 = .ok (.lstore_n 1, 1) := by decide +kernel
theorem dd_R_dropLowestLimb_16 : decode cd_R_dropLowestLimb 16 = .ok (.aload_n 0, 1) := by decide +kernel
theorem dd_R_dropLowestLimb_17 : decode cd_R_dropLowestLimb 17 = .ok (.getfield 30, 3) := by decide +kernel
theorem dd_R_dropLowestLimb_20 : decode cd_R_dropLowestLimb 20 = .ok (.iconst 0, 1) := by decide +kernel
theorem dd_R_dropLowestLimb_21 : decode cd_R_dropLowestLimb 21 = .ok (.laload, 1) := by decide +kernel
theorem dd_R_dropLowestLimb_22 : decode cd_R_dropLowestLimb 22 = .ok (.lload_n 1, 1) := by decide +kernel
theorem dd_R_dropLowestLimb_23 : decode cd_R_dropLowestLimb 23 = .ok (.aload_n 0, 1) := by decide +kernel
theorem dd_R_dropLowestLimb_24 : decode cd_R_dropLowestLimb 24 = .ok (.getfield 21, 3) := by decide +kernel
theorem dd_R_dropLowestLimb_27 : decode cd_R_dropLowestLimb 27 = .ok (.iconst 0, 1) := by decide +kernel
theorem dd_R_dropLowestLimb_28 : decode cd_R_dropLowestLimb 28 = .ok (.laload, 1) := by decide +kernel
theorem dd_R_dropLowestLimb_29 : decode cd_R_dropLowestLimb 29 = .ok (.lmul, 1) := by decide +kernel
theorem dd_R_dropLowestLimb_30 : decode cd_R_dropLowestLimb 30 = .ok (.ladd, 1) := by decide +kernel
theorem dd_R_dropLowestLimb_31 : decode cd_R_dropLowestLimb 31 = .ok (.bipush 32, 2) := by decide +kernel
theorem dd_R_dropLowestLimb_33 : decode cd_R_dropLowestLimb 33 = .ok (.lushr, 1) := by decide +kernel
theorem dd_R_dropLowestLimb_34 : decode cd_R_dropLowestLimb 34 = .ok (.lstore_n 3, 1) := by decide +kernel
theorem dd_R_dropLowestLimb_35 : decode cd_R_dropLowestLimb 35 = .ok (.iconst 1, 1) := by decide +kernel
theorem dd_R_dropLowestLimb_36 : decode cd_R_dropLowestLimb 36 = .ok (.istore 5, 2) := by decide +kernel
theorem dd_R_dropLowestLimb_38 : decode cd_R_dropLowestLimb 38 = .ok (.iload 5, 2) := by decide +kernel
theorem dd_R_dropLowestLimb_40 : decode cd_R_dropLowestLimb 40 = .ok (.iconst 4, 1) := by decide +kernel
theorem dd_R_dropLowestLimb_41 : decode cd_R_dropLowestLimb 41 = .ok (.if_icmp .ge 51, 3) := by decide +kernel
theorem dd_R_dropLowestLimb_44 : decode cd_R_dropLowestLimb 44 = .ok (.aload_n 0, 1) := by decide +kernel
theorem dd_R_dropLowestLimb_45 : decode cd_R_dropLowestLimb 45 = .ok (.getfield 30, 3) := by decide +kernel
theorem dd_R_dropLowestLimb_48 : decode cd_R_dropLowestLimb 48 = .ok (.iload 5, 2) := by decide +kernel
theorem dd_R_dropLowestLimb_50 : decode cd_R_dropLowestLimb 50 = .ok (.laload, 1) := by decide +kernel
theorem dd_R_dropLowestLimb_51 : decode cd_R_dropLowestLimb 51 = .ok (.lload_n 1, 1) := by decide +kernel
theorem dd_R_dropLowestLimb_52 : decode cd_R_dropLowestLimb 52 = .ok (.aload_n 0, 1) := by decide +kernel
theorem dd_R_dropLowestLimb_53 : decode cd_R_dropLowestLimb 53 = .ok (.getfield 21, 3) := by decide +kernel
theorem dd_R_dropLowestLimb_56 : decode cd_R_dropLowestLimb 56 = .ok (.iload 5, 2) := by decide +kernel
theorem dd_R_dropLowestLimb_58 : decode cd_R_dropLowestLimb 58 = .ok (.laload, 1) := by decide +kernel
theorem dd_R_dropLowestLimb_59 : decode cd_R_dropLowestLimb 59 = .ok (.lmul, 1) := by decide +kernel
theorem dd_R_dropLowestLimb_60 : decode cd_R_dropLowestLimb 60 = .ok (.ladd, 1) := by decide +kernel
theorem dd_R_dropLowestLimb_61 : decode cd_R_dropLowestLimb 61 = .ok (.lload_n 3, 1) := by decide +kernel
theorem dd_R_dropLowestLimb_62 : decode cd_R_dropLowestLimb 62 = .ok (.ladd, 1) := by decide +kernel
theorem dd_R_dropLowestLimb_63 : decode cd_R_dropLowestLimb 63 = .ok (.lstore 6, 2) := by decide +kernel
theorem dd_R_dropLowestLimb_65 : decode cd_R_dropLowestLimb 65 = .ok (.aload_n 0, 1) := by decide +kernel
theorem dd_R_dropLowestLimb_66 : decode cd_R_dropLowestLimb 66 = .ok (.getfield 30, 3) := by decide +kernel
theorem dd_R_dropLowestLimb_69 : decode cd_R_dropLowestLimb 69 = .ok (.iload 5, 2) := by decide +kernel
theorem dd_R_dropLowestLimb_71 : decode cd_R_dropLowestLimb 71 = .ok (.iconst 1, 1) := by decide +kernel
theorem dd_R_dropLowestLimb_72 : decode cd_R_dropLowestLimb 72 = .ok (.isub, 1) := by decide +kernel
theorem dd_R_dropLowestLimb_73 : decode cd_R_dropLowestLimb 73 = .ok (.lload 6, 2) := by decide +kernel
theorem dd_R_dropLowestLimb_75 : decode cd_R_dropLowestLimb 75 = .ok (.ldc2_w 42, 3) := by decide +kernel
theorem dd_R_dropLowestLimb_78 : decode cd_R_dropLowestLimb 78 = .ok (.land, 1) := by decide +kernel
theorem dd_R_dropLowestLimb_79 : decode cd_R_dropLowestLimb 79 = .ok (.lastore, 1) := by decide +kernel
theorem dd_R_dropLowestLimb_80 : decode cd_R_dropLowestLimb 80 = .ok (.lload 6, 2) := by decide +kernel
theorem dd_R_dropLowestLimb_82 : decode cd_R_dropLowestLimb 82 = .ok (.bipush 32, 2) := by decide +kernel
theorem dd_R_dropLowestLimb_84 : decode cd_R_dropLowestLimb 84 = .ok (.lushr, 1) := by decide +kernel
theorem dd_R_dropLowestLimb_85 : decode cd_R_dropLowestLimb 85 = .ok (.lstore_n 3, 1) := by decide +kernel
theorem dd_R_dropLowestLimb_86 : decode cd_R_dropLowestLimb 86 = .ok (.iinc 5 1, 3) := by decide +kernel
theorem dd_R_dropLowestLimb_89 : decode cd_R_dropLowestLimb 89 = .ok (.goto (-51), 3) := by decide +kernel
theorem dd_R_dropLowestLimb_92 : decode cd_R_dropLowestLimb 92 = .ok (.aload_n 0, 1) := by decide +kernel
theorem dd_R_dropLowestLimb_93 : decode cd_R_dropLowestLimb 93 = .ok (.getfield 30, 3) := by decide +kernel
theorem dd_R_dropLowestLimb_96 : decode cd_R_dropLowestLimb 96 = .ok (.iconst 4, 1) := by decide +kernel
theorem dd_R_dropLowestLimb_97 : decode cd_R_dropLowestLimb 97 = .ok (.laload, 1) := by decide +kernel
theorem dd_R_dropLowestLimb_98 : decode cd_R_dropLowestLimb 98 = .ok (.lload_n 3, 1) := by decide +kernel
theorem dd_R_dropLowestLimb_99 : decode cd_R_dropLowestLimb 99 = .ok (.ladd, 1) := by decide +kernel
theorem dd_R_dropLowestLimb_100 : decode cd_R_dropLowestLimb 100 = .ok (.lstore 5, 2) := by decide +kernel
theorem dd_R_dropLowestLimb_102 : decode cd_R_dropLowestLimb 102 = .ok (.aload_n 0, 1) := by decide +kernel
theorem dd_R_dropLowestLimb_103 : decode cd_R_dropLowestLimb 103 = .ok (.getfield 30, 3) := by decide +kernel
theorem dd_R_dropLowestLimb_106 : decode cd_R_dropLowestLimb 106 = .ok (.iconst 3, 1) := by decide +kernel
theorem dd_R_dropLowestLimb_107 : decode cd_R_dropLowestLimb 107 = .ok (.lload 5, 2) := by decide +kernel
theorem dd_R_dropLowestLimb_109 : decode cd_R_dropLowestLimb 109 = .ok (.ldc2_w 42, 3) := by decide +kernel
theorem dd_R_dropLowestLimb_112 : decode cd_R_dropLowestLimb 112 = .ok (.land, 1) := by decide +kernel
theorem dd_R_dropLowestLimb_113 : decode cd_R_dropLowestLimb 113 = .ok (.lastore, 1) := by decide +kernel
theorem dd_R_dropLowestLimb_114 : decode cd_R_dropLowestLimb 114 = .ok (.aload_n 0, 1) := by decide +kernel
theorem dd_R_dropLowestLimb_115 : decode cd_R_dropLowestLimb 115 = .ok (.getfield 30, 3) := by decide +kernel
theorem dd_R_dropLowestLimb_118 : decode cd_R_dropLowestLimb 118 = .ok (.iconst 4, 1) := by decide +kernel
theorem dd_R_dropLowestLimb_119 : decode cd_R_dropLowestLimb 119 = .ok (.aload_n 0, 1) := by decide +kernel
theorem dd_R_dropLowestLimb_120 : decode cd_R_dropLowestLimb 120 = .ok (.getfield 30, 3) := by decide +kernel
theorem dd_R_dropLowestLimb_123 : decode cd_R_dropLowestLimb 123 = .ok (.iconst 5, 1) := by decide +kernel
theorem dd_R_dropLowestLimb_124 : decode cd_R_dropLowestLimb 124 = .ok (.laload, 1) := by decide +kernel
theorem dd_R_dropLowestLimb_125 : decode cd_R_dropLowestLimb 125 = .ok (.lload 5, 2) := by decide +kernel
theorem dd_R_dropLowestLimb_127 : decode cd_R_dropLowestLimb 127 = .ok (.bipush 32, 2) := by decide +kernel
theorem dd_R_dropLowestLimb_129 : decode cd_R_dropLowestLimb 129 = .ok (.lushr, 1) := by decide +kernel
theorem dd_R_dropLowestLimb_130 : decode cd_R_dropLowestLimb 130 = .ok (.ladd, 1) := by decide +kernel
theorem dd_R_dropLowestLimb_131 : decode cd_R_dropLowestLimb 131 = .ok (.lastore, 1) := by decide +kernel
theorem dd_R_dropLowestLimb_132 : decode cd_R_dropLowestLimb 132 = .ok (.return_, 1) := by decide +kernel
theorem dd_R_reduceTotal_0 : decode cd_R_reduceTotal 0 = .ok (.lconst 0, 1) := by decide +kernel
theorem dd_R_reduceTotal_1 : decode cd_R_reduceTotal 1 = .ok (.lstore_n 2, 1) := by decide +kernel
theorem dd_R_reduceTotal_2 : decode cd_R_reduceTotal 2 = .ok (.iconst 0, 1) := by decide +kernel
theorem dd_R_reduceTotal_3 : decode cd_R_reduceTotal 3 = .ok (.istore 4, 2) := by decide +kernel
theorem dd_R_reduceTotal_5 : decode cd_R_reduceTotal 5 = .ok (.iload 4, 2) := by decide +kernel
theorem dd_R_reduceTotal_7 : decode cd_R_reduceTotal 7 = .ok (.iconst 4, 1) := by decide +kernel
theorem dd_R_reduceTotal_8 : decode cd_R_reduceTotal 8 = .ok (.if_icmp .ge 47, 3) := by decide +kernel
theorem dd_R_reduceTotal_11 : decode cd_R_reduceTotal 11 = .ok (.aload_n 0, 1) := by decide +kernel
theorem dd_R_reduceTotal_12 : decode cd_R_reduceTotal 12 = .ok (.getfield 30, 3) := by decide +kernel
theorem dd_R_reduceTotal_15 : decode cd_R_reduceTotal 15 = .ok (.iload 4, 2) := by decide +kernel
theorem dd_R_reduceTotal_17 : decode cd_R_reduceTotal 17 = .ok (.laload, 1) := by decide +kernel
theorem dd_R_reduceTotal_18 : decode cd_R_reduceTotal 18 = .ok (.aload_n 0, 1) := by decide +kernel
theorem dd_R_reduceTotal_19 : decode cd_R_reduceTotal 19 = .ok (.getfield 21, 3) := by decide +kernel
theorem dd_R_reduceTotal_22 : decode cd_R_reduceTotal 22 = .ok (.iload 4, 2) := by decide +kernel
theorem dd_R_reduceTotal_24 : decode cd_R_reduceTotal 24 = .ok (.laload, 1) := by decide +kernel
theorem dd_R_reduceTotal_25 : decode cd_R_reduceTotal 25 = .ok (.lsub, 1) := by decide +kernel
theorem dd_R_reduceTotal_26 : decode cd_R_reduceTotal 26 = .ok (.lload_n 2, 1) := by decide +kernel
theorem dd_R_reduceTotal_27 : decode cd_R_reduceTotal 27 = .ok (.lsub, 1) := by decide +kernel
theorem dd_R_reduceTotal_28 : decode cd_R_reduceTotal 28 = .ok (.lstore 5, 2) := by decide +kernel
theorem dd_R_reduceTotal_30 : decode cd_R_reduceTotal 30 = .ok (.aload_n 0, 1) := by decide +kernel
theorem dd_R_reduceTotal_31 : decode cd_R_reduceTotal 31 = .ok (.getfield 33, 3) := by decide +kernel
theorem dd_R_reduceTotal_34 : decode cd_R_reduceTotal 34 = .ok (.iload 4, 2) := by decide +kernel
theorem dd_R_reduceTotal_36 : decode cd_R_reduceTotal 36 = .ok (.lload 5, 2) := by decide +kernel
theorem dd_R_reduceTotal_38 : decode cd_R_reduceTotal 38 = .ok (.ldc2_w 42, 3) := by decide +kernel
theorem dd_R_reduceTotal_41 : decode cd_R_reduceTotal 41 = .ok (.land, 1) := by decide +kernel
theorem dd_R_reduceTotal_42 : decode cd_R_reduceTotal 42 = .ok (.lastore, 1) := by decide +kernel
theorem dd_R_reduceTotal_43 : decode cd_R_reduceTotal 43 = .ok (.lload 5, 2) := by decide +kernel
theorem dd_R_reduceTotal_45 : decode cd_R_reduceTotal 45 = .ok (.bipush 63, 2) := by decide +kernel
theorem dd_R_reduceTotal_47 : decode cd_R_reduceTotal 47 = .ok (.lushr, 1) := by decide +kernel
theorem dd_R_reduceTotal_48 : decode cd_R_reduceTotal 48 = .ok (.lstore_n 2, 1) := by decide +kernel
theorem dd_R_reduceTotal_49 : decode cd_R_reduceTotal 49 = .ok (.iinc 4 1, 3) := by decide +kernel
theorem dd_R_reduceTotal_52 : decode cd_R_reduceTotal 52 = .ok (.goto (-47), 3) := by decide +kernel
theorem dd_R_reduceTotal_55 : decode cd_R_reduceTotal 55 = .ok (.lload_n 2, 1) := by decide +kernel
theorem dd_R_reduceTotal_56 : decode cd_R_reduceTotal 56 = .ok (.aload_n 0, 1) := by decide +kernel
theorem dd_R_reduceTotal_57 : decode cd_R_reduceTotal 57 = .ok (.getfield 30, 3) := by decide +kernel
theorem dd_R_reduceTotal_60 : decode cd_R_reduceTotal 60 = .ok (.iconst 4, 1) := by decide +kernel
theorem dd_R_reduceTotal_61 : decode cd_R_reduceTotal 61 = .ok (.laload, 1) := by decide +kernel
theorem dd_R_reduceTotal_62 : decode cd_R_reduceTotal 62 = .ok (.lcmp, 1) := by decide +kernel
theorem dd_R_reduceTotal_63 : decode cd_R_reduceTotal 63 = .ok (.ifCond .le 10, 3) := by decide +kernel
theorem dd_R_reduceTotal_66 : decode cd_R_reduceTotal 66 = .ok (.aload_n 0, 1) := by decide +kernel
theorem dd_R_reduceTotal_67 : decode cd_R_reduceTotal 67 = .ok (.getfield 30, 3) := by decide +kernel
theorem dd_R_reduceTotal_70 : decode cd_R_reduceTotal 70 = .ok (.goto 7, 3) := by decide +kernel
theorem dd_R_reduceTotal_73 : decode cd_R_reduceTotal 73 = .ok (.aload_n 0, 1) := by decide +kernel
theorem dd_R_reduceTotal_74 : decode cd_R_reduceTotal 74 = .ok (.getfield 33, 3) := by decide +kernel
theorem dd_R_reduceTotal_77 : decode cd_R_reduceTotal 77 = .ok (.iconst 0, 1) := by decide +kernel
theorem dd_R_reduceTotal_78 : decode cd_R_reduceTotal 78 = .ok (.aload_n 1, 1) := by decide +kernel
theorem dd_R_reduceTotal_79 : decode cd_R_reduceTotal 79 = .ok (.iconst 0, 1) := by decide +kernel
theorem dd_R_reduceTotal_80 : decode cd_R_reduceTotal 80 = .ok (.iconst 4, 1) := by decide +kernel
theorem dd_R_reduceTotal_81 : decode cd_R_reduceTotal 81 = .ok (.invokestatic 54, 3) := by decide +kernel
theorem dd_R_reduceTotal_84 : decode cd_R_reduceTotal 84 = .ok (.return_, 1) := by decide +kernel
