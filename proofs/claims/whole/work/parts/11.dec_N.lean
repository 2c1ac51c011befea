theorem dd_N_init_0 : decode cd_N_init 0 = .ok (.aload_n 0, 1) := by decide +kernel
theorem dd_N_init_1 : decode cd_N_init 1 = .ok (.invokespecial 3, 3) := by decide +kernel
theorem dd_N_init_4 : decode cd_N_init 4 = .ok (.aload_n 0, 1) := by decide +kernel
theorem dd_N_init_5 : decode cd_N_init 5 = .ok (.bipush 11, 2) := by decide +kernel
theorem dd_N_init_7 : decode cd_N_init 7 = .ok (.newarray .long, 2) := by decide +kernel
theorem dd_N_init_9 : decode cd_N_init 9 = .ok (.putfield 9, 3) := by decide +kernel
theorem dd_N_init_12 : decode cd_N_init 12 = .ok (.return_, 1) := by decide +kernel
theorem dd_N_become_0 : decode cd_N_become 0 = .ok (.aload_n 0, 1) := by decide +kernel
theorem dd_N_become_1 : decode cd_N_become 1 = .ok (.getfield 9, 3) := by decide +kernel
theorem dd_N_become_4 : decode cd_N_become 4 = .ok (.lconst 0, 1) := by decide +kernel
theorem dd_N_become_5 : decode cd_N_become 5 = .ok (.invokestatic 13, 3) := by decide +kernel
theorem dd_N_become_8 : decode cd_N_become 8 = .ok (.aload_n 0, 1) := by decide +kernel
theorem dd_N_become_9 : decode cd_N_become 9 = .ok (.getfield 9, 3) := by decide +kernel
theorem dd_N_become_12 : decode cd_N_become 12 = .ok (.iconst 0, 1) := by decide +kernel
theorem dd_N_become_13 : decode cd_N_become 13 = .ok (.iload_n 1, 1) := by decide +kernel
theorem dd_N_become_14 : decode cd_N_become 14 = .ok (.i2l, 1) := by decide +kernel
theorem dd_N_become_15 : decode cd_N_become 15 = .ok (.lastore, 1) := by decide +kernel
theorem dd_N_become_16 : decode cd_N_become 16 = .ok (.return_, 1) := by decide +kernel
theorem dd_N_multiply_0 : decode cd_N_multiply 0 = .ok (.lconst 0, 1) := by decide +kernel
theorem dd_N_multiply_1 : decode cd_N_multiply 1 = .ok (.lstore_n 2, 1) := by decide +kernel
theorem dd_N_multiply_2 : decode cd_N_multiply 2 = .ok (.iconst 0, 1) := by decide +kernel
theorem dd_N_multiply_3 : decode cd_N_multiply 3 = .ok (.istore 4, 2) := by decide +kernel
theorem dd_N_multiply_5 : decode cd_N_multiply 5 = .ok (.iload 4, 2) := by decide +kernel
theorem dd_N_multiply_7 : decode cd_N_multiply 7 = .ok (.bipush 11, 2) := by decide +kernel
theorem dd_N_multiply_9 : decode cd_N_multiply 9 = .ok (.if_icmp .ge 42, 3) := by decide +kernel
theorem dd_N_multiply_12 : decode cd_N_multiply 12 = .ok (.aload_n 0, 1) := by decide +kernel
theorem dd_N_multiply_13 : decode cd_N_multiply 13 = .ok (.getfield 9, 3) := by decide +kernel
theorem dd_N_multiply_16 : decode cd_N_multiply 16 = .ok (.iload 4, 2) := by decide +kernel
theorem dd_N_multiply_18 : decode cd_N_multiply 18 = .ok (.laload, 1) := by decide +kernel
theorem dd_N_multiply_19 : decode cd_N_multiply 19 = .ok (.iload_n 1, 1) := by decide +kernel
theorem dd_N_multiply_20 : decode cd_N_multiply 20 = .ok (.i2l, 1) := by decide +kernel
theorem dd_N_multiply_21 : decode cd_N_multiply 21 = .ok (.lmul, 1) := by decide +kernel
theorem dd_N_multiply_22 : decode cd_N_multiply 22 = .ok (.lload_n 2, 1) := by decide +kernel
theorem dd_N_multiply_23 : decode cd_N_multiply 23 = .ok (.ladd, 1) := by decide +kernel
theorem dd_N_multiply_24 : decode cd_N_multiply 24 = .ok (.lstore 5, 2) := by decide +kernel
theorem dd_N_multiply_26 : decode cd_N_multiply 26 = .ok (.aload_n 0, 1) := by decide +kernel
theorem dd_N_multiply_27 : decode cd_N_multiply 27 = .ok (.getfield 9, 3) := by decide +kernel
theorem dd_N_multiply_30 : decode cd_N_multiply 30 = .ok (.iload 4, 2) := by decide +kernel
theorem dd_N_multiply_32 : decode cd_N_multiply 32 = .ok (.lload 5, 2) := by decide +kernel
theorem dd_N_multiply_34 : decode cd_N_multiply 34 = .ok (.ldc2_w 19, 3) := by decide +kernel
theorem dd_N_multiply_37 : decode cd_N_multiply 37 = .ok (.land, 1) := by decide +kernel
theorem dd_N_multiply_38 : decode cd_N_multiply 38 = .ok (.lastore, 1) := by decide +kernel
theorem dd_N_multiply_39 : decode cd_N_multiply 39 = .ok (.lload 5, 2) := by decide +kernel
theorem dd_N_multiply_41 : decode cd_N_multiply 41 = .ok (.bipush 32, 2) := by decide +kernel
theorem dd_N_multiply_43 : decode cd_N_multiply 43 = .ok (.lushr, 1) := by decide +kernel
theorem dd_N_multiply_44 : decode cd_N_multiply 44 = .ok (.lstore_n 2, 1) := by decide +kernel
theorem dd_N_multiply_45 : decode cd_N_multiply 45 = .ok (.iinc 4 1, 3) := by decide +kernel
theorem dd_N_multiply_48 : decode cd_N_multiply 48 = .ok (.goto (-43), 3) := by decide +kernel
theorem dd_N_multiply_51 : decode cd_N_multiply 51 = .ok (.return_, 1) := by decide +kernel
theorem dd_N_remainder_0 : decode cd_N_remainder 0 = .ok (.iload_n 1, 1) := by decide +kernel
theorem dd_N_remainder_1 : decode cd_N_remainder 1 = .ok (.ifCond .gt 5, 3) := by decide +kernel
theorem dd_N_remainder_4 : decode cd_N_remainder 4 = .ok (.iconst 0, 1) := by decide +kernel
theorem dd_N_remainder_5 : decode cd_N_remainder 5 = .ok (.ireturn, 1) := by decide +kernel
theorem dd_N_remainder_6 : decode cd_N_remainder 6 = .ok (.lconst 0, 1) := by decide +kernel
theorem dd_N_remainder_7 : decode cd_N_remainder 7 = .ok (.lstore_n 2, 1) := by decide +kernel
theorem dd_N_remainder_8 : decode cd_N_remainder 8 = .ok (.bipush 10, 2) := by decide +kernel
theorem dd_N_remainder_10 : decode cd_N_remainder 10 = .ok (.istore 4, 2) := by decide +kernel
theorem dd_N_remainder_12 : decode cd_N_remainder 12 = .ok (.iload 4, 2) := by decide +kernel
theorem dd_N_remainder_14 : decode cd_N_remainder 14 = .ok (.ifCond .lt 25, 3) := by decide +kernel
theorem dd_N_remainder_17 : decode cd_N_remainder 17 = .ok (.lload_n 2, 1) := by decide +kernel
theorem dd_N_remainder_18 : decode cd_N_remainder 18 = .ok (.bipush 32, 2) := by decide +kernel
theorem dd_N_remainder_20 : decode cd_N_remainder 20 = .ok (.lshl, 1) := by decide +kernel
theorem dd_N_remainder_21 : decode cd_N_remainder 21 = .ok (.aload_n 0, 1) := by decide +kernel
theorem dd_N_remainder_22 : decode cd_N_remainder 22 = .ok (.getfield 9, 3) := by decide +kernel
theorem dd_N_remainder_25 : decode cd_N_remainder 25 = .ok (.iload 4, 2) := by decide +kernel
theorem dd_N_remainder_27 : decode cd_N_remainder 27 = .ok (.laload, 1) := by decide +kernel
theorem dd_N_remainder_28 : decode cd_N_remainder 28 = .ok (.lor, 1) := by decide +kernel
theorem dd_N_remainder_29 : decode cd_N_remainder 29 = .ok (.iload_n 1, 1) := by decide +kernel
theorem dd_N_remainder_30 : decode cd_N_remainder 30 = .ok (.i2l, 1) := by decide +kernel
theorem dd_N_remainder_31 : decode cd_N_remainder 31 = .ok (.lrem, 1) := by decide +kernel
theorem dd_N_remainder_32 : decode cd_N_remainder 32 = .ok (.lstore_n 2, 1) := by decide +kernel
theorem dd_N_remainder_33 : decode cd_N_remainder 33 = .ok (.iinc 4 (-1), 3) := by decide +kernel
theorem dd_N_remainder_36 : decode cd_N_remainder 36 = .ok (.goto (-24), 3) := by decide +kernel
theorem dd_N_remainder_39 : decode cd_N_remainder 39 = .ok (.lload_n 2, 1) := by decide +kernel
theorem dd_N_remainder_40 : decode cd_N_remainder 40 = .ok (.l2i, 1) := by decide +kernel
theorem dd_N_remainder_41 : decode cd_N_remainder 41 = .ok (.ireturn, 1) := by decide +kernel
theorem dd_N_divide_0 : decode cd_N_divide 0 = .ok (.iload_n 1, 1) := by decide +kernel
theorem dd_N_divide_1 : decode cd_N_divide 1 = .ok (.ifCond .gt 4, 3) := by decide +kernel
theorem dd_N_divide_4 : decode cd_N_divide 4 = .ok (.return_, 1) := by decide +kernel
theorem dd_N_divide_5 : decode cd_N_divide 5 = .ok (.lconst 0, 1) := by decide +kernel
theorem dd_N_divide_6 : decode cd_N_divide 6 = .ok (.lstore_n 2, 1) := by decide +kernel
theorem dd_N_divide_7 : decode cd_N_divide 7 = .ok (.bipush 10, 2) := by decide +kernel
theorem dd_N_divide_9 : decode cd_N_divide 9 = .ok (.istore 4, 2) := by decide +kernel
theorem dd_N_divide_11 : decode cd_N_divide 11 = .ok (.iload 4, 2) := by decide +kernel
theorem dd_N_divide_13 : decode cd_N_divide 13 = .ok (.ifCond .lt 41, 3) := by decide +kernel
theorem dd_N_divide_16 : decode cd_N_divide 16 = .ok (.lload_n 2, 1) := by decide +kernel
theorem dd_N_divide_17 : decode cd_N_divide 17 = .ok (.bipush 32, 2) := by decide +kernel
theorem dd_N_divide_19 : decode cd_N_divide 19 = .ok (.lshl, 1) := by decide +kernel
theorem dd_N_divide_20 : decode cd_N_divide 20 = .ok (.aload_n 0, 1) := by decide +kernel
theorem dd_N_divide_21 : decode cd_N_divide 21 = .ok (.getfield 9, 3) := by decide +kernel
theorem dd_N_divide_24 : decode cd_N_divide 24 = .ok (.iload 4, 2) := by decide +kernel
theorem dd_N_divide_26 : decode cd_N_divide 26 = .ok (.laload, 1) := by decide +kernel
theorem dd_N_divide_27 : decode cd_N_divide 27 = .ok (.lor, 1) := by decide +kernel
theorem dd_N_divide_28 : decode cd_N_divide 28 = .ok (.lstore 5, 2) := by decide +kernel
theorem dd_N_divide_30 : decode cd_N_divide 30 = .ok (.aload_n 0, 1) := by decide +kernel
theorem dd_N_divide_31 : decode cd_N_divide 31 = .ok (.getfield 9, 3) := by decide +kernel
theorem dd_N_divide_34 : decode cd_N_divide 34 = .ok (.iload 4, 2) := by decide +kernel
theorem dd_N_divide_36 : decode cd_N_divide 36 = .ok (.lload 5, 2) := by decide +kernel
theorem dd_N_divide_38 : decode cd_N_divide 38 = .ok (.iload_n 1, 1) := by decide +kernel
theorem dd_N_divide_39 : decode cd_N_divide 39 = .ok (.i2l, 1) := by decide +kernel
theorem dd_N_divide_40 : decode cd_N_divide 40 = .ok (.ldiv, 1) := by decide +kernel
theorem dd_N_divide_41 : decode cd_N_divide 41 = .ok (.lastore, 1) := by decide +kernel
theorem dd_N_divide_42 : decode cd_N_divide 42 = .ok (.lload 5, 2) := by decide +kernel
theorem dd_N_divide_44 : decode cd_N_divide 44 = .ok (.iload_n 1, 1) := by decide +kernel
theorem dd_N_divide_45 : decode cd_N_divide 45 = .ok (.i2l, 1) := by decide +kernel
theorem dd_N_divide_46 : decode cd_N_divide 46 = .ok (.lrem, 1) := by decide +kernel
theorem dd_N_divide_47 : decode cd_N_divide 47 = .ok (.lstore_n 2, 1) := by decide +kernel
theorem dd_N_divide_48 : decode cd_N_divide 48 = .ok (.iinc 4 (-1), 3) := by decide +kernel
theorem dd_N_divide_51 : decode cd_N_divide 51 = .ok (.goto (-40), 3) := by decide +kernel
theorem dd_N_divide_54 : decode cd_N_divide 54 = .ok (.return_, 1) := by decide +kernel
theorem dd_N_bit_0 : decode cd_N_bit 0 = .ok (.aload_n 0, 1) := by decide +kernel
theorem dd_N_bit_1 : decode cd_N_bit 1 = .ok (.getfield 9, 3) := by decide +kernel
theorem dd_N_bit_4 : decode cd_N_bit 4 = .ok (.iload_n 1, 1) := by decide +kernel
theorem dd_N_bit_5 : decode cd_N_bit 5 = .ok (.iconst 5, 1) := by decide +kernel
theorem dd_N_bit_6 : decode cd_N_bit 6 = .ok (.iushr, 1) := by decide +kernel
theorem dd_N_bit_7 : decode cd_N_bit 7 = .ok (.laload, 1) := by decide +kernel
theorem dd_N_bit_8 : decode cd_N_bit 8 = .ok (.iload_n 1, 1) := by decide +kernel
theorem dd_N_bit_9 : decode cd_N_bit 9 = .ok (.bipush 31, 2) := by decide +kernel
theorem dd_N_bit_11 : decode cd_N_bit 11 = .ok (.iand, 1) := by decide +kernel
theorem dd_N_bit_12 : decode cd_N_bit 12 = .ok (.lushr, 1) := by decide +kernel
theorem dd_N_bit_13 : decode cd_N_bit 13 = .ok (.lconst 1, 1) := by decide +kernel
theorem dd_N_bit_14 : decode cd_N_bit 14 = .ok (.land, 1) := by decide +kernel
theorem dd_N_bit_15 : decode cd_N_bit 15 = .ok (.lconst 0, 1) := by decide +kernel
theorem dd_N_bit_16 : decode cd_N_bit 16 = .ok (.lcmp, 1) := by decide +kernel
theorem dd_N_bit_17 : decode cd_N_bit 17 = .ok (.ifCond .eq 7, 3) := by decide +kernel
theorem dd_N_bit_20 : decode cd_N_bit 20 = .ok (.iconst 1, 1) := by decide +kernel
theorem dd_N_bit_21 : decode cd_N_bit 21 = .ok (.goto 4, 3) := by decide +kernel
theorem dd_N_bit_24 : decode cd_N_bit 24 = .ok (.iconst 0, 1) := by decide +kernel
theorem dd_N_bit_25 : decode cd_N_bit 25 = .ok (.ireturn, 1) := by decide +kernel
theorem dd_N_highestBit_0 : decode cd_N_highestBit 0 = .ok (.sipush 351, 3) := by decide +kernel
theorem dd_N_highestBit_3 : decode cd_N_highestBit 3 = .ok (.istore_n 1, 1) := by decide +kernel
theorem dd_N_highestBit_4 : decode cd_N_highestBit 4 = .ok (.iload_n 1, 1) := by decide +kernel
theorem dd_N_highestBit_5 : decode cd_N_highestBit 5 = .ok (.ifCond .lt 19, 3) := by decide +kernel
theorem dd_N_highestBit_8 : decode cd_N_highestBit 8 = .ok (.aload_n 0, 1) := by decide +kernel
theorem dd_N_highestBit_9 : decode cd_N_highestBit 9 = .ok (.iload_n 1, 1) := by decide +kernel
theorem dd_N_highestBit_10 : decode cd_N_highestBit 10 = .ok (.invokevirtual 21, 3) := by decide +kernel
theorem dd_N_highestBit_13 : decode cd_N_highestBit 13 = .ok (.ifCond .eq 5, 3) := by decide +kernel
theorem dd_N_highestBit_16 : decode cd_N_highestBit 16 = .ok (.iload_n 1, 1) := by decide +kernel
theorem dd_N_highestBit_17 : decode cd_N_highestBit 17 = .ok (.ireturn, 1) := by decide +kernel
theorem dd_N_highestBit_18 : decode cd_N_highestBit 18 = .ok (.iinc 1 (-1), 3) := by decide +kernel
theorem dd_N_highestBit_21 : decode cd_N_highestBit 21 = .ok (.goto (-17), 3) := by decide +kernel
theorem dd_N_highestBit_24 : decode cd_N_highestBit 24 = .ok (.iconst (-1), 1) := by decide +kernel
theorem dd_N_highestBit_25 : decode cd_N_highestBit 25 = .ok (.ireturn, 1) := by decide +kernel
