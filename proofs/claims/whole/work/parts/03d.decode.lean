/-! rows that decode: printed by wip/whole/znames.py -/
theorem d_MO_again_0 : decode c_MO_again 0 = .ok (.aload_n 0, 1) := by decide +kernel
theorem d_MO_again_1 : decode c_MO_again 1 = .ok (.iconst 0, 1) := by decide +kernel
theorem d_MO_again_2 : decode c_MO_again 2 = .ok (.putfield 49, 3) := by decide +kernel
theorem d_MO_again_5 : decode c_MO_again 5 = .ok (.iconst 0, 1) := by decide +kernel
theorem d_MO_again_6 : decode c_MO_again 6 = .ok (.istore_n 1, 1) := by decide +kernel
theorem d_MO_again_7 : decode c_MO_again 7 = .ok (.iload_n 1, 1) := by decide +kernel
theorem d_MO_again_8 : decode c_MO_again 8 = .ok (.aload_n 0, 1) := by decide +kernel
theorem d_MO_again_9 : decode c_MO_again 9 = .ok (.getfield 174, 3) := by decide +kernel
theorem d_MO_again_12 : decode c_MO_again 12 = .ok (.if_icmp .ge 21, 3) := by decide +kernel
theorem d_MO_again_15 : decode c_MO_again 15 = .ok (.aload_n 0, 1) := by decide +kernel
theorem d_MO_again_16 : decode c_MO_again 16 = .ok (.getfield 7, 3) := by decide +kernel
theorem d_MO_again_19 : decode c_MO_again 19 = .ok (.iload_n 1, 1) := by decide +kernel
theorem d_MO_again_20 : decode c_MO_again 20 = .ok (.aload_n 0, 1) := by decide +kernel
theorem d_MO_again_21 : decode c_MO_again 21 = .ok (.getfield 13, 3) := by decide +kernel
theorem d_MO_again_24 : decode c_MO_again 24 = .ok (.iload_n 1, 1) := by decide +kernel
theorem d_MO_again_25 : decode c_MO_again 25 = .ok (.baload, 1) := by decide +kernel
theorem d_MO_again_26 : decode c_MO_again 26 = .ok (.bastore, 1) := by decide +kernel
theorem d_MO_again_27 : decode c_MO_again 27 = .ok (.iinc 1 1, 3) := by decide +kernel
theorem d_MO_again_30 : decode c_MO_again 30 = .ok (.goto (-23), 3) := by decide +kernel
theorem d_MO_again_33 : decode c_MO_again 33 = .ok (.aload_n 0, 1) := by decide +kernel
theorem d_MO_again_34 : decode c_MO_again 34 = .ok (.aload_n 0, 1) := by decide +kernel
theorem d_MO_again_35 : decode c_MO_again 35 = .ok (.getfield 174, 3) := by decide +kernel
theorem d_MO_again_38 : decode c_MO_again 38 = .ok (.putfield 165, 3) := by decide +kernel
theorem d_MO_again_41 : decode c_MO_again 41 = .ok (.aload_n 0, 1) := by decide +kernel
theorem d_MO_again_42 : decode c_MO_again 42 = .ok (.getfield 165, 3) := by decide +kernel
theorem d_MO_again_45 : decode c_MO_again 45 = .ok (.ireturn, 1) := by decide +kernel
theorem d_MO_word_0 : decode c_MO_word 0 = .ok (.aload_n 0, 1) := by decide +kernel
theorem d_MO_word_1 : decode c_MO_word 1 = .ok (.iconst 0, 1) := by decide +kernel
theorem d_MO_word_2 : decode c_MO_word 2 = .ok (.putfield 49, 3) := by decide +kernel
theorem d_MO_word_5 : decode c_MO_word 5 = .ok (.iload_n 1, 1) := by decide +kernel
theorem d_MO_word_6 : decode c_MO_word 6 = .ok (.ifCond .lt 11, 3) := by decide +kernel
theorem d_MO_word_9 : decode c_MO_word 9 = .ok (.iload_n 1, 1) := by decide +kernel
theorem d_MO_word_10 : decode c_MO_word 10 = .ok (.aload_n 0, 1) := by decide +kernel
theorem d_MO_word_11 : decode c_MO_word 11 = .ok (.getfield 174, 3) := by decide +kernel
theorem d_MO_word_14 : decode c_MO_word 14 = .ok (.if_icmp .lt 10, 3) := by decide +kernel
theorem d_MO_word_17 : decode c_MO_word 17 = .ok (.aload_n 0, 1) := by decide +kernel
theorem d_MO_word_18 : decode c_MO_word 18 = .ok (.iconst 1, 1) := by decide +kernel
theorem d_MO_word_19 : decode c_MO_word 19 = .ok (.invokevirtual 171, 3) := by decide +kernel
theorem d_MO_word_22 : decode c_MO_word 22 = .ok (.i2l, 1) := by decide +kernel
theorem d_MO_word_23 : decode c_MO_word 23 = .ok (.lreturn, 1) := by decide +kernel
theorem d_MO_word_24 : decode c_MO_word 24 = .ok (.lconst 0, 1) := by decide +kernel
theorem d_MO_word_25 : decode c_MO_word 25 = .ok (.lstore_n 2, 1) := by decide +kernel
theorem d_MO_word_26 : decode c_MO_word 26 = .ok (.iload_n 1, 1) := by decide +kernel
theorem d_MO_word_27 : decode c_MO_word 27 = .ok (.istore 4, 2) := by decide +kernel
theorem d_MO_word_29 : decode c_MO_word 29 = .ok (.iload 4, 2) := by decide +kernel
theorem d_MO_word_31 : decode c_MO_word 31 = .ok (.iload_n 1, 1) := by decide +kernel
theorem d_MO_word_32 : decode c_MO_word 32 = .ok (.bipush 8, 2) := by decide +kernel
theorem d_MO_word_34 : decode c_MO_word 34 = .ok (.iadd, 1) := by decide +kernel
theorem d_MO_word_35 : decode c_MO_word 35 = .ok (.if_icmp .ge 41, 3) := by decide +kernel
theorem d_MO_word_38 : decode c_MO_word 38 = .ok (.lload_n 2, 1) := by decide +kernel
theorem d_MO_word_39 : decode c_MO_word 39 = .ok (.ldc2_w 117, 3) := by decide +kernel
theorem d_MO_word_42 : decode c_MO_word 42 = .ok (.lmul, 1) := by decide +kernel
theorem d_MO_word_43 : decode c_MO_word 43 = .ok (.iload 4, 2) := by decide +kernel
theorem d_MO_word_45 : decode c_MO_word 45 = .ok (.aload_n 0, 1) := by decide +kernel
theorem d_MO_word_46 : decode c_MO_word 46 = .ok (.getfield 174, 3) := by decide +kernel
theorem d_MO_word_49 : decode c_MO_word 49 = .ok (.if_icmp .ge 17, 3) := by decide +kernel
theorem d_MO_word_52 : decode c_MO_word 52 = .ok (.aload_n 0, 1) := by decide +kernel
theorem d_MO_word_53 : decode c_MO_word 53 = .ok (.getfield 13, 3) := by decide +kernel
theorem d_MO_word_56 : decode c_MO_word 56 = .ok (.iload 4, 2) := by decide +kernel
theorem d_MO_word_58 : decode c_MO_word 58 = .ok (.baload, 1) := by decide +kernel
theorem d_MO_word_59 : decode c_MO_word 59 = .ok (.sipush 255, 3) := by decide +kernel
theorem d_MO_word_62 : decode c_MO_word 62 = .ok (.iand, 1) := by decide +kernel
theorem d_MO_word_63 : decode c_MO_word 63 = .ok (.goto 4, 3) := by decide +kernel
theorem d_MO_word_66 : decode c_MO_word 66 = .ok (.iconst 0, 1) := by decide +kernel
theorem d_MO_word_67 : decode c_MO_word 67 = .ok (.i2l, 1) := by decide +kernel
theorem d_MO_word_68 : decode c_MO_word 68 = .ok (.ladd, 1) := by decide +kernel
theorem d_MO_word_69 : decode c_MO_word 69 = .ok (.lstore_n 2, 1) := by decide +kernel
theorem d_MO_word_70 : decode c_MO_word 70 = .ok (.iinc 4 1, 3) := by decide +kernel
theorem d_MO_word_73 : decode c_MO_word 73 = .ok (.goto (-44), 3) := by decide +kernel
theorem d_MO_word_76 : decode c_MO_word 76 = .ok (.lload_n 2, 1) := by decide +kernel
theorem d_MO_word_77 : decode c_MO_word 77 = .ok (.lreturn, 1) := by decide +kernel
theorem d_MO_count_0 : decode c_MO_count 0 = .ok (.aload_n 0, 1) := by decide +kernel
theorem d_MO_count_1 : decode c_MO_count 1 = .ok (.iconst 0, 1) := by decide +kernel
theorem d_MO_count_2 : decode c_MO_count 2 = .ok (.putfield 49, 3) := by decide +kernel
theorem d_MO_count_5 : decode c_MO_count 5 = .ok (.iload_n 1, 1) := by decide +kernel
theorem d_MO_count_6 : decode c_MO_count 6 = .ok (.ifCond .lt 8, 3) := by decide +kernel
theorem d_MO_count_9 : decode c_MO_count 9 = .ok (.iload_n 1, 1) := by decide +kernel
theorem d_MO_count_10 : decode c_MO_count 10 = .ok (.iconst 1, 1) := by decide +kernel
theorem d_MO_count_11 : decode c_MO_count 11 = .ok (.if_icmp .le 11, 3) := by decide +kernel
theorem d_MO_count_14 : decode c_MO_count 14 = .ok (.aload_n 0, 1) := by decide +kernel
theorem d_MO_count_15 : decode c_MO_count 15 = .ok (.iconst 1, 1) := by decide +kernel
theorem d_MO_count_16 : decode c_MO_count 16 = .ok (.invokevirtual 171, 3) := by decide +kernel
theorem d_MO_count_19 : decode c_MO_count 19 = .ok (.goto 18, 3) := by decide +kernel
theorem d_MO_count_22 : decode c_MO_count 22 = .ok (.iload_n 1, 1) := by decide +kernel
theorem d_MO_count_23 : decode c_MO_count 23 = .ok (.ifCond .ne 10, 3) := by decide +kernel
theorem d_MO_count_26 : decode c_MO_count 26 = .ok (.aload_n 0, 1) := by decide +kernel
theorem d_MO_count_27 : decode c_MO_count 27 = .ok (.getfield 165, 3) := by decide +kernel
theorem d_MO_count_30 : decode c_MO_count 30 = .ok (.goto 7, 3) := by decide +kernel
theorem d_MO_count_33 : decode c_MO_count 33 = .ok (.aload_n 0, 1) := by decide +kernel
theorem d_MO_count_34 : decode c_MO_count 34 = .ok (.getfield 174, 3) := by decide +kernel
theorem d_MO_count_37 : decode c_MO_count 37 = .ok (.ireturn, 1) := by decide +kernel
