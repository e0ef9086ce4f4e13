/-! rows that decode: printed by wip/whole/znames.py -/
theorem d_ZB_init_0 : decode c_ZB_init 0 = .ok (.aload_n 0, 1) := by decide +kernel
theorem d_ZB_init_1 : decode c_ZB_init 1 = .ok (.invokespecial 3, 3) := by decide +kernel
theorem d_ZB_init_4 : decode c_ZB_init 4 = .ok (.aload_n 0, 1) := by decide +kernel
theorem d_ZB_init_5 : decode c_ZB_init 5 = .ok (.sipush 16384, 3) := by decide +kernel
theorem d_ZB_init_8 : decode c_ZB_init 8 = .ok (.newarray .byte, 2) := by decide +kernel
theorem d_ZB_init_10 : decode c_ZB_init 10 = .ok (.putfield 9, 3) := by decide +kernel
theorem d_ZB_init_13 : decode c_ZB_init 13 = .ok (.aload_n 0, 1) := by decide +kernel
theorem d_ZB_init_14 : decode c_ZB_init 14 = .ok (.sipush 16384, 3) := by decide +kernel
theorem d_ZB_init_17 : decode c_ZB_init 17 = .ok (.newarray .byte, 2) := by decide +kernel
theorem d_ZB_init_19 : decode c_ZB_init 19 = .ok (.putfield 13, 3) := by decide +kernel
theorem d_ZB_init_22 : decode c_ZB_init 22 = .ok (.aload_n 0, 1) := by decide +kernel
theorem d_ZB_init_23 : decode c_ZB_init 23 = .ok (.sipush 16384, 3) := by decide +kernel
theorem d_ZB_init_26 : decode c_ZB_init 26 = .ok (.newarray .byte, 2) := by decide +kernel
theorem d_ZB_init_28 : decode c_ZB_init 28 = .ok (.putfield 16, 3) := by decide +kernel
theorem d_ZB_init_31 : decode c_ZB_init 31 = .ok (.aload_n 0, 1) := by decide +kernel
theorem d_ZB_init_32 : decode c_ZB_init 32 = .ok (.new 19, 3) := by decide +kernel
theorem d_ZB_init_35 : decode c_ZB_init 35 = .ok (.dup, 1) := by decide +kernel
theorem d_ZB_init_36 : decode c_ZB_init 36 = .ok (.invokespecial 21, 3) := by decide +kernel
theorem d_ZB_init_39 : decode c_ZB_init 39 = .ok (.putfield 22, 3) := by decide +kernel
theorem d_ZB_init_42 : decode c_ZB_init 42 = .ok (.aload_n 0, 1) := by decide +kernel
theorem d_ZB_init_43 : decode c_ZB_init 43 = .ok (.new 26, 3) := by decide +kernel
theorem d_ZB_init_46 : decode c_ZB_init 46 = .ok (.dup, 1) := by decide +kernel
theorem d_ZB_init_47 : decode c_ZB_init 47 = .ok (.invokespecial 28, 3) := by decide +kernel
theorem d_ZB_init_50 : decode c_ZB_init 50 = .ok (.putfield 29, 3) := by decide +kernel
theorem d_ZB_init_53 : decode c_ZB_init 53 = .ok (.return_, 1) := by decide +kernel
theorem d_UN_init_0 : decode c_UN_init 0 = .ok (.aload_n 0, 1) := by decide +kernel
theorem d_UN_init_1 : decode c_UN_init 1 = .ok (.invokespecial 3, 3) := by decide +kernel
theorem d_UN_init_4 : decode c_UN_init 4 = .ok (.aload_n 0, 1) := by decide +kernel
theorem d_UN_init_5 : decode c_UN_init 5 = .ok (.new 9, 3) := by decide +kernel
theorem d_UN_init_8 : decode c_UN_init 8 = .ok (.dup, 1) := by decide +kernel
theorem d_UN_init_9 : decode c_UN_init 9 = .ok (.invokespecial 11, 3) := by decide +kernel
theorem d_UN_init_12 : decode c_UN_init 12 = .ok (.putfield 12, 3) := by decide +kernel
theorem d_UN_init_15 : decode c_UN_init 15 = .ok (.aload_n 0, 1) := by decide +kernel
theorem d_UN_init_16 : decode c_UN_init 16 = .ok (.new 18, 3) := by decide +kernel
theorem d_UN_init_19 : decode c_UN_init 19 = .ok (.dup, 1) := by decide +kernel
theorem d_UN_init_20 : decode c_UN_init 20 = .ok (.invokespecial 20, 3) := by decide +kernel
theorem d_UN_init_23 : decode c_UN_init 23 = .ok (.putfield 21, 3) := by decide +kernel
theorem d_UN_init_26 : decode c_UN_init 26 = .ok (.aload_n 0, 1) := by decide +kernel
theorem d_UN_init_27 : decode c_UN_init 27 = .ok (.new 18, 3) := by decide +kernel
theorem d_UN_init_30 : decode c_UN_init 30 = .ok (.dup, 1) := by decide +kernel
theorem d_UN_init_31 : decode c_UN_init 31 = .ok (.invokespecial 20, 3) := by decide +kernel
theorem d_UN_init_34 : decode c_UN_init 34 = .ok (.putfield 25, 3) := by decide +kernel
theorem d_UN_init_37 : decode c_UN_init 37 = .ok (.aload_n 0, 1) := by decide +kernel
theorem d_UN_init_38 : decode c_UN_init 38 = .ok (.new 18, 3) := by decide +kernel
theorem d_UN_init_41 : decode c_UN_init 41 = .ok (.dup, 1) := by decide +kernel
theorem d_UN_init_42 : decode c_UN_init 42 = .ok (.invokespecial 20, 3) := by decide +kernel
theorem d_UN_init_45 : decode c_UN_init 45 = .ok (.putfield 28, 3) := by decide +kernel
theorem d_UN_init_48 : decode c_UN_init 48 = .ok (.aload_n 0, 1) := by decide +kernel
theorem d_UN_init_49 : decode c_UN_init 49 = .ok (.new 18, 3) := by decide +kernel
theorem d_UN_init_52 : decode c_UN_init 52 = .ok (.dup, 1) := by decide +kernel
theorem d_UN_init_53 : decode c_UN_init 53 = .ok (.invokespecial 20, 3) := by decide +kernel
theorem d_UN_init_56 : decode c_UN_init 56 = .ok (.putfield 31, 3) := by decide +kernel
theorem d_UN_init_59 : decode c_UN_init 59 = .ok (.aload_n 0, 1) := by decide +kernel
theorem d_UN_init_60 : decode c_UN_init 60 = .ok (.new 18, 3) := by decide +kernel
theorem d_UN_init_63 : decode c_UN_init 63 = .ok (.dup, 1) := by decide +kernel
theorem d_UN_init_64 : decode c_UN_init 64 = .ok (.invokespecial 20, 3) := by decide +kernel
theorem d_UN_init_67 : decode c_UN_init 67 = .ok (.putfield 34, 3) := by decide +kernel
theorem d_UN_init_70 : decode c_UN_init 70 = .ok (.aload_n 0, 1) := by decide +kernel
theorem d_UN_init_71 : decode c_UN_init 71 = .ok (.sipush 316, 3) := by decide +kernel
theorem d_UN_init_74 : decode c_UN_init 74 = .ok (.newarray .int, 2) := by decide +kernel
theorem d_UN_init_76 : decode c_UN_init 76 = .ok (.putfield 37, 3) := by decide +kernel
theorem d_UN_init_79 : decode c_UN_init 79 = .ok (.aload_n 0, 1) := by decide +kernel
theorem d_UN_init_80 : decode c_UN_init 80 = .ok (.iconst 0, 1) := by decide +kernel
theorem d_UN_init_81 : decode c_UN_init 81 = .ok (.newarray .byte, 2) := by decide +kernel
theorem d_UN_init_83 : decode c_UN_init 83 = .ok (.putfield 41, 3) := by decide +kernel
theorem d_UN_init_86 : decode c_UN_init 86 = .ok (.aload_n 0, 1) := by decide +kernel
theorem d_UN_init_87 : decode c_UN_init 87 = .ok (.invokevirtual 45, 3) := by decide +kernel
theorem d_UN_init_90 : decode c_UN_init 90 = .ok (.return_, 1) := by decide +kernel
theorem d_BR_init_0 : decode c_BR_init 0 = .ok (.aload_n 0, 1) := by decide +kernel
theorem d_BR_init_1 : decode c_BR_init 1 = .ok (.invokespecial 1, 3) := by decide +kernel
theorem d_BR_init_4 : decode c_BR_init 4 = .ok (.aload_n 0, 1) := by decide +kernel
theorem d_BR_init_5 : decode c_BR_init 5 = .ok (.iconst 0, 1) := by decide +kernel
theorem d_BR_init_6 : decode c_BR_init 6 = .ok (.newarray .byte, 2) := by decide +kernel
theorem d_BR_init_8 : decode c_BR_init 8 = .ok (.putfield 7, 3) := by decide +kernel
theorem d_BR_init_11 : decode c_BR_init 11 = .ok (.return_, 1) := by decide +kernel
theorem d_CO_init_0 : decode c_CO_init 0 = .ok (.aload_n 0, 1) := by decide +kernel
theorem d_CO_init_1 : decode c_CO_init 1 = .ok (.invokespecial 3, 3) := by decide +kernel
theorem d_CO_init_4 : decode c_CO_init 4 = .ok (.aload_n 0, 1) := by decide +kernel
theorem d_CO_init_5 : decode c_CO_init 5 = .ok (.bipush 16, 2) := by decide +kernel
theorem d_CO_init_7 : decode c_CO_init 7 = .ok (.newarray .int, 2) := by decide +kernel
theorem d_CO_init_9 : decode c_CO_init 9 = .ok (.putfield 9, 3) := by decide +kernel
theorem d_CO_init_12 : decode c_CO_init 12 = .ok (.aload_n 0, 1) := by decide +kernel
theorem d_CO_init_13 : decode c_CO_init 13 = .ok (.sipush 288, 3) := by decide +kernel
theorem d_CO_init_16 : decode c_CO_init 16 = .ok (.newarray .int, 2) := by decide +kernel
theorem d_CO_init_18 : decode c_CO_init 18 = .ok (.putfield 13, 3) := by decide +kernel
theorem d_CO_init_21 : decode c_CO_init 21 = .ok (.aload_n 0, 1) := by decide +kernel
theorem d_CO_init_22 : decode c_CO_init 22 = .ok (.bipush 16, 2) := by decide +kernel
theorem d_CO_init_24 : decode c_CO_init 24 = .ok (.newarray .int, 2) := by decide +kernel
theorem d_CO_init_26 : decode c_CO_init 26 = .ok (.putfield 16, 3) := by decide +kernel
theorem d_CO_init_29 : decode c_CO_init 29 = .ok (.return_, 1) := by decide +kernel
theorem d_UN_makeFixedCodes_0 : decode c_UN_makeFixedCodes 0 = .ok (.sipush 288, 3) := by decide +kernel
theorem d_UN_makeFixedCodes_3 : decode c_UN_makeFixedCodes 3 = .ok (.newarray .int, 2) := by decide +kernel
theorem d_UN_makeFixedCodes_5 : decode c_UN_makeFixedCodes 5 = .ok (.astore_n 1, 1) := by decide +kernel
theorem d_UN_makeFixedCodes_6 : decode c_UN_makeFixedCodes 6 = .ok (.iconst 0, 1) := by decide +kernel
theorem d_UN_makeFixedCodes_7 : decode c_UN_makeFixedCodes 7 = .ok (.istore_n 2, 1) := by decide +kernel
theorem d_UN_makeFixedCodes_8 : decode c_UN_makeFixedCodes 8 = .ok (.iload_n 2, 1) := by decide +kernel
theorem d_UN_makeFixedCodes_9 : decode c_UN_makeFixedCodes 9 = .ok (.sipush 288, 3) := by decide +kernel
theorem d_UN_makeFixedCodes_12 : decode c_UN_makeFixedCodes 12 = .ok (.if_icmp .ge 50, 3) := by decide +kernel
theorem d_UN_makeFixedCodes_15 : decode c_UN_makeFixedCodes 15 = .ok (.aload_n 1, 1) := by decide +kernel
theorem d_UN_makeFixedCodes_16 : decode c_UN_makeFixedCodes 16 = .ok (.iload_n 2, 1) := by decide +kernel
theorem d_UN_makeFixedCodes_17 : decode c_UN_makeFixedCodes 17 = .ok (.iload_n 2, 1) := by decide +kernel
theorem d_UN_makeFixedCodes_18 : decode c_UN_makeFixedCodes 18 = .ok (.sipush 144, 3) := by decide +kernel
theorem d_UN_makeFixedCodes_21 : decode c_UN_makeFixedCodes 21 = .ok (.if_icmp .ge 8, 3) := by decide +kernel
theorem d_UN_makeFixedCodes_24 : decode c_UN_makeFixedCodes 24 = .ok (.bipush 8, 2) := by decide +kernel
theorem d_UN_makeFixedCodes_26 : decode c_UN_makeFixedCodes 26 = .ok (.goto 29, 3) := by decide +kernel
theorem d_UN_makeFixedCodes_29 : decode c_UN_makeFixedCodes 29 = .ok (.iload_n 2, 1) := by decide +kernel
theorem d_UN_makeFixedCodes_30 : decode c_UN_makeFixedCodes 30 = .ok (.sipush 256, 3) := by decide +kernel
theorem d_UN_makeFixedCodes_33 : decode c_UN_makeFixedCodes 33 = .ok (.if_icmp .ge 8, 3) := by decide +kernel
theorem d_UN_makeFixedCodes_36 : decode c_UN_makeFixedCodes 36 = .ok (.bipush 9, 2) := by decide +kernel
theorem d_UN_makeFixedCodes_38 : decode c_UN_makeFixedCodes 38 = .ok (.goto 17, 3) := by decide +kernel
theorem d_UN_makeFixedCodes_41 : decode c_UN_makeFixedCodes 41 = .ok (.iload_n 2, 1) := by decide +kernel
theorem d_UN_makeFixedCodes_42 : decode c_UN_makeFixedCodes 42 = .ok (.sipush 280, 3) := by decide +kernel
theorem d_UN_makeFixedCodes_45 : decode c_UN_makeFixedCodes 45 = .ok (.if_icmp .ge 8, 3) := by decide +kernel
theorem d_UN_makeFixedCodes_48 : decode c_UN_makeFixedCodes 48 = .ok (.bipush 7, 2) := by decide +kernel
theorem d_UN_makeFixedCodes_50 : decode c_UN_makeFixedCodes 50 = .ok (.goto 5, 3) := by decide +kernel
theorem d_UN_makeFixedCodes_53 : decode c_UN_makeFixedCodes 53 = .ok (.bipush 8, 2) := by decide +kernel
theorem d_UN_makeFixedCodes_55 : decode c_UN_makeFixedCodes 55 = .ok (.iastore, 1) := by decide +kernel
theorem d_UN_makeFixedCodes_56 : decode c_UN_makeFixedCodes 56 = .ok (.iinc 2 1, 3) := by decide +kernel
theorem d_UN_makeFixedCodes_59 : decode c_UN_makeFixedCodes 59 = .ok (.goto (-51), 3) := by decide +kernel
theorem d_UN_makeFixedCodes_62 : decode c_UN_makeFixedCodes 62 = .ok (.aload_n 0, 1) := by decide +kernel
theorem d_UN_makeFixedCodes_63 : decode c_UN_makeFixedCodes 63 = .ok (.getfield 21, 3) := by decide +kernel
theorem d_UN_makeFixedCodes_66 : decode c_UN_makeFixedCodes 66 = .ok (.aload_n 1, 1) := by decide +kernel
theorem d_UN_makeFixedCodes_67 : decode c_UN_makeFixedCodes 67 = .ok (.iconst 0, 1) := by decide +kernel
theorem d_UN_makeFixedCodes_68 : decode c_UN_makeFixedCodes 68 = .ok (.sipush 288, 3) := by decide +kernel
theorem d_UN_makeFixedCodes_71 : decode c_UN_makeFixedCodes 71 = .ok (.invokevirtual 65, 3) := by decide +kernel
theorem d_UN_makeFixedCodes_74 : decode c_UN_makeFixedCodes 74 = .ok (.aload_n 1, 1) := by decide +kernel
theorem d_UN_makeFixedCodes_75 : decode c_UN_makeFixedCodes 75 = .ok (.iconst 5, 1) := by decide +kernel
theorem d_UN_makeFixedCodes_76 : decode c_UN_makeFixedCodes 76 = .ok (.invokestatic 69, 3) := by decide +kernel
theorem d_UN_makeFixedCodes_79 : decode c_UN_makeFixedCodes 79 = .ok (.aload_n 0, 1) := by decide +kernel
theorem d_UN_makeFixedCodes_80 : decode c_UN_makeFixedCodes 80 = .ok (.getfield 25, 3) := by decide +kernel
theorem d_UN_makeFixedCodes_83 : decode c_UN_makeFixedCodes 83 = .ok (.aload_n 1, 1) := by decide +kernel
theorem d_UN_makeFixedCodes_84 : decode c_UN_makeFixedCodes 84 = .ok (.iconst 0, 1) := by decide +kernel
theorem d_UN_makeFixedCodes_85 : decode c_UN_makeFixedCodes 85 = .ok (.bipush 32, 2) := by decide +kernel
theorem d_UN_makeFixedCodes_87 : decode c_UN_makeFixedCodes 87 = .ok (.invokevirtual 65, 3) := by decide +kernel
theorem d_UN_makeFixedCodes_90 : decode c_UN_makeFixedCodes 90 = .ok (.return_, 1) := by decide +kernel
theorem d_CO_make_0 : decode c_CO_make 0 = .ok (.aload_n 0, 1) := by decide +kernel
theorem d_CO_make_1 : decode c_CO_make 1 = .ok (.getfield 9, 3) := by decide +kernel
theorem d_CO_make_4 : decode c_CO_make 4 = .ok (.iconst 0, 1) := by decide +kernel
theorem d_CO_make_5 : decode c_CO_make 5 = .ok (.invokestatic 19, 3) := by decide +kernel
theorem d_CO_make_8 : decode c_CO_make 8 = .ok (.aload_n 0, 1) := by decide +kernel
theorem d_CO_make_9 : decode c_CO_make 9 = .ok (.iconst 0, 1) := by decide +kernel
theorem d_CO_make_10 : decode c_CO_make 10 = .ok (.putfield 25, 3) := by decide +kernel
theorem d_CO_make_13 : decode c_CO_make 13 = .ok (.iconst 0, 1) := by decide +kernel
theorem d_CO_make_14 : decode c_CO_make 14 = .ok (.istore 4, 2) := by decide +kernel
theorem d_CO_make_16 : decode c_CO_make 16 = .ok (.iload 4, 2) := by decide +kernel
theorem d_CO_make_18 : decode c_CO_make 18 = .ok (.iload_n 3, 1) := by decide +kernel
theorem d_CO_make_19 : decode c_CO_make 19 = .ok (.if_icmp .ge 51, 3) := by decide +kernel
theorem d_CO_make_22 : decode c_CO_make 22 = .ok (.aload_n 1, 1) := by decide +kernel
theorem d_CO_make_23 : decode c_CO_make 23 = .ok (.iload_n 2, 1) := by decide +kernel
theorem d_CO_make_24 : decode c_CO_make 24 = .ok (.iload 4, 2) := by decide +kernel
theorem d_CO_make_26 : decode c_CO_make 26 = .ok (.iadd, 1) := by decide +kernel
theorem d_CO_make_27 : decode c_CO_make 27 = .ok (.iaload, 1) := by decide +kernel
theorem d_CO_make_28 : decode c_CO_make 28 = .ok (.istore 5, 2) := by decide +kernel
theorem d_CO_make_30 : decode c_CO_make 30 = .ok (.aload_n 0, 1) := by decide +kernel
theorem d_CO_make_31 : decode c_CO_make 31 = .ok (.getfield 9, 3) := by decide +kernel
theorem d_CO_make_34 : decode c_CO_make 34 = .ok (.iload 5, 2) := by decide +kernel
theorem d_CO_make_36 : decode c_CO_make 36 = .ok (.dup2, 1) := by decide +kernel
theorem d_CO_make_37 : decode c_CO_make 37 = .ok (.iaload, 1) := by decide +kernel
theorem d_CO_make_38 : decode c_CO_make 38 = .ok (.iconst 1, 1) := by decide +kernel
theorem d_CO_make_39 : decode c_CO_make 39 = .ok (.iadd, 1) := by decide +kernel
theorem d_CO_make_40 : decode c_CO_make 40 = .ok (.iastore, 1) := by decide +kernel
theorem d_CO_make_41 : decode c_CO_make 41 = .ok (.aload_n 0, 1) := by decide +kernel
theorem d_CO_make_42 : decode c_CO_make 42 = .ok (.dup, 1) := by decide +kernel
theorem d_CO_make_43 : decode c_CO_make 43 = .ok (.getfield 25, 3) := by decide +kernel
theorem d_CO_make_46 : decode c_CO_make 46 = .ok (.iload 5, 2) := by decide +kernel
theorem d_CO_make_48 : decode c_CO_make 48 = .ok (.ifCond .ne 7, 3) := by decide +kernel
theorem d_CO_make_51 : decode c_CO_make 51 = .ok (.iconst 0, 1) := by decide +kernel
theorem d_CO_make_52 : decode c_CO_make 52 = .ok (.goto 8, 3) := by decide +kernel
theorem d_CO_make_55 : decode c_CO_make 55 = .ok (.ldc 29, 2) := by decide +kernel
theorem d_CO_make_57 : decode c_CO_make 57 = .ok (.iload 5, 2) := by decide +kernel
theorem d_CO_make_59 : decode c_CO_make 59 = .ok (.ishr, 1) := by decide +kernel
theorem d_CO_make_60 : decode c_CO_make 60 = .ok (.iadd, 1) := by decide +kernel
theorem d_CO_make_61 : decode c_CO_make 61 = .ok (.putfield 25, 3) := by decide +kernel
theorem d_CO_make_64 : decode c_CO_make 64 = .ok (.iinc 4 1, 3) := by decide +kernel
theorem d_CO_make_67 : decode c_CO_make 67 = .ok (.goto (-51), 3) := by decide +kernel
theorem d_CO_make_70 : decode c_CO_make 70 = .ok (.aload_n 0, 1) := by decide +kernel
theorem d_CO_make_71 : decode c_CO_make 71 = .ok (.getfield 16, 3) := by decide +kernel
theorem d_CO_make_74 : decode c_CO_make 74 = .ok (.iconst 1, 1) := by decide +kernel
theorem d_CO_make_75 : decode c_CO_make 75 = .ok (.iconst 0, 1) := by decide +kernel
theorem d_CO_make_76 : decode c_CO_make 76 = .ok (.iastore, 1) := by decide +kernel
theorem d_CO_make_77 : decode c_CO_make 77 = .ok (.iconst 2, 1) := by decide +kernel
theorem d_CO_make_78 : decode c_CO_make 78 = .ok (.istore 4, 2) := by decide +kernel
theorem d_CO_make_80 : decode c_CO_make 80 = .ok (.iload 4, 2) := by decide +kernel
theorem d_CO_make_82 : decode c_CO_make 82 = .ok (.bipush 15, 2) := by decide +kernel
theorem d_CO_make_84 : decode c_CO_make 84 = .ok (.if_icmp .gt 35, 3) := by decide +kernel
theorem d_CO_make_87 : decode c_CO_make 87 = .ok (.aload_n 0, 1) := by decide +kernel
theorem d_CO_make_88 : decode c_CO_make 88 = .ok (.getfield 16, 3) := by decide +kernel
theorem d_CO_make_91 : decode c_CO_make 91 = .ok (.iload 4, 2) := by decide +kernel
theorem d_CO_make_93 : decode c_CO_make 93 = .ok (.aload_n 0, 1) := by decide +kernel
theorem d_CO_make_94 : decode c_CO_make 94 = .ok (.getfield 16, 3) := by decide +kernel
theorem d_CO_make_97 : decode c_CO_make 97 = .ok (.iload 4, 2) := by decide +kernel
theorem d_CO_make_99 : decode c_CO_make 99 = .ok (.iconst 1, 1) := by decide +kernel
theorem d_CO_make_100 : decode c_CO_make 100 = .ok (.isub, 1) := by decide +kernel
theorem d_CO_make_101 : decode c_CO_make 101 = .ok (.iaload, 1) := by decide +kernel
theorem d_CO_make_102 : decode c_CO_make 102 = .ok (.aload_n 0, 1) := by decide +kernel
theorem d_CO_make_103 : decode c_CO_make 103 = .ok (.getfield 9, 3) := by decide +kernel
theorem d_CO_make_106 : decode c_CO_make 106 = .ok (.iload 4, 2) := by decide +kernel
theorem d_CO_make_108 : decode c_CO_make 108 = .ok (.iconst 1, 1) := by decide +kernel
theorem d_CO_make_109 : decode c_CO_make 109 = .ok (.isub, 1) := by decide +kernel
theorem d_CO_make_110 : decode c_CO_make 110 = .ok (.iaload, 1) := by decide +kernel
theorem d_CO_make_111 : decode c_CO_make 111 = .ok (.iadd, 1) := by decide +kernel
theorem d_CO_make_112 : decode c_CO_make 112 = .ok (.iastore, 1) := by decide +kernel
theorem d_CO_make_113 : decode c_CO_make 113 = .ok (.iinc 4 1, 3) := by decide +kernel
theorem d_CO_make_116 : decode c_CO_make 116 = .ok (.goto (-36), 3) := by decide +kernel
theorem d_CO_make_119 : decode c_CO_make 119 = .ok (.iconst 0, 1) := by decide +kernel
theorem d_CO_make_120 : decode c_CO_make 120 = .ok (.istore 4, 2) := by decide +kernel
theorem d_CO_make_122 : decode c_CO_make 122 = .ok (.iload 4, 2) := by decide +kernel
theorem d_CO_make_124 : decode c_CO_make 124 = .ok (.iload_n 3, 1) := by decide +kernel
theorem d_CO_make_125 : decode c_CO_make 125 = .ok (.if_icmp .ge 47, 3) := by decide +kernel
theorem d_CO_make_128 : decode c_CO_make 128 = .ok (.aload_n 1, 1) := by decide +kernel
theorem d_CO_make_129 : decode c_CO_make 129 = .ok (.iload_n 2, 1) := by decide +kernel
theorem d_CO_make_130 : decode c_CO_make 130 = .ok (.iload 4, 2) := by decide +kernel
theorem d_CO_make_132 : decode c_CO_make 132 = .ok (.iadd, 1) := by decide +kernel
theorem d_CO_make_133 : decode c_CO_make 133 = .ok (.iaload, 1) := by decide +kernel
theorem d_CO_make_134 : decode c_CO_make 134 = .ok (.istore 5, 2) := by decide +kernel
theorem d_CO_make_136 : decode c_CO_make 136 = .ok (.iload 5, 2) := by decide +kernel
theorem d_CO_make_138 : decode c_CO_make 138 = .ok (.ifCond .eq 28, 3) := by decide +kernel
theorem d_CO_make_141 : decode c_CO_make 141 = .ok (.aload_n 0, 1) := by decide +kernel
theorem d_CO_make_142 : decode c_CO_make 142 = .ok (.getfield 13, 3) := by decide +kernel
theorem d_CO_make_145 : decode c_CO_make 145 = .ok (.aload_n 0, 1) := by decide +kernel
theorem d_CO_make_146 : decode c_CO_make 146 = .ok (.getfield 16, 3) := by decide +kernel
theorem d_CO_make_149 : decode c_CO_make 149 = .ok (.iload 5, 2) := by decide +kernel
theorem d_CO_make_151 : decode c_CO_make 151 = .ok (.iaload, 1) := by decide +kernel
theorem d_CO_make_152 : decode c_CO_make 152 = .ok (.iload 4, 2) := by decide +kernel
theorem d_CO_make_154 : decode c_CO_make 154 = .ok (.iastore, 1) := by decide +kernel
theorem d_CO_make_155 : decode c_CO_make 155 = .ok (.aload_n 0, 1) := by decide +kernel
theorem d_CO_make_156 : decode c_CO_make 156 = .ok (.getfield 16, 3) := by decide +kernel
theorem d_CO_make_159 : decode c_CO_make 159 = .ok (.iload 5, 2) := by decide +kernel
theorem d_CO_make_161 : decode c_CO_make 161 = .ok (.dup2, 1) := by decide +kernel
theorem d_CO_make_162 : decode c_CO_make 162 = .ok (.iaload, 1) := by decide +kernel
theorem d_CO_make_163 : decode c_CO_make 163 = .ok (.iconst 1, 1) := by decide +kernel
theorem d_CO_make_164 : decode c_CO_make 164 = .ok (.iadd, 1) := by decide +kernel
theorem d_CO_make_165 : decode c_CO_make 165 = .ok (.iastore, 1) := by decide +kernel
theorem d_CO_make_166 : decode c_CO_make 166 = .ok (.iinc 4 1, 3) := by decide +kernel
theorem d_CO_make_169 : decode c_CO_make 169 = .ok (.goto (-47), 3) := by decide +kernel
theorem d_CO_make_172 : decode c_CO_make 172 = .ok (.return_, 1) := by decide +kernel
theorem d_AR_fill_0 : decode c_AR_fill 0 = .ok (.iconst 0, 1) := by decide +kernel
theorem d_AR_fill_1 : decode c_AR_fill 1 = .ok (.istore_n 2, 1) := by decide +kernel
theorem d_AR_fill_2 : decode c_AR_fill 2 = .ok (.aload_n 0, 1) := by decide +kernel
theorem d_AR_fill_3 : decode c_AR_fill 3 = .ok (.arraylength, 1) := by decide +kernel
theorem d_AR_fill_4 : decode c_AR_fill 4 = .ok (.istore_n 3, 1) := by decide +kernel
theorem d_AR_fill_5 : decode c_AR_fill 5 = .ok (.iload_n 2, 1) := by decide +kernel
theorem d_AR_fill_6 : decode c_AR_fill 6 = .ok (.iload_n 3, 1) := by decide +kernel
theorem d_AR_fill_7 : decode c_AR_fill 7 = .ok (.if_icmp .ge 13, 3) := by decide +kernel
theorem d_AR_fill_10 : decode c_AR_fill 10 = .ok (.aload_n 0, 1) := by decide +kernel
theorem d_AR_fill_11 : decode c_AR_fill 11 = .ok (.iload_n 2, 1) := by decide +kernel
theorem d_AR_fill_12 : decode c_AR_fill 12 = .ok (.iload_n 1, 1) := by decide +kernel
theorem d_AR_fill_13 : decode c_AR_fill 13 = .ok (.iastore, 1) := by decide +kernel
theorem d_AR_fill_14 : decode c_AR_fill 14 = .ok (.iinc 2 1, 3) := by decide +kernel
theorem d_AR_fill_17 : decode c_AR_fill 17 = .ok (.goto (-12), 3) := by decide +kernel
theorem d_AR_fill_20 : decode c_AR_fill 20 = .ok (.return_, 1) := by decide +kernel
theorem d_PA_init_0 : decode c_PA_init 0 = .ok (.aload_n 0, 1) := by decide +kernel
theorem d_PA_init_1 : decode c_PA_init 1 = .ok (.invokespecial 3, 3) := by decide +kernel
theorem d_PA_init_4 : decode c_PA_init 4 = .ok (.aload_n 0, 1) := by decide +kernel
theorem d_PA_init_5 : decode c_PA_init 5 = .ok (.sipush 4096, 3) := by decide +kernel
theorem d_PA_init_8 : decode c_PA_init 8 = .ok (.newarray .int, 2) := by decide +kernel
theorem d_PA_init_10 : decode c_PA_init 10 = .ok (.putfield 11, 3) := by decide +kernel
theorem d_PA_init_13 : decode c_PA_init 13 = .ok (.aload_n 0, 1) := by decide +kernel
theorem d_PA_init_14 : decode c_PA_init 14 = .ok (.sipush 4096, 3) := by decide +kernel
theorem d_PA_init_17 : decode c_PA_init 17 = .ok (.newarray .int, 2) := by decide +kernel
theorem d_PA_init_19 : decode c_PA_init 19 = .ok (.putfield 15, 3) := by decide +kernel
theorem d_PA_init_22 : decode c_PA_init 22 = .ok (.aload_n 0, 1) := by decide +kernel
theorem d_PA_init_23 : decode c_PA_init 23 = .ok (.iconst 0, 1) := by decide +kernel
theorem d_PA_init_24 : decode c_PA_init 24 = .ok (.newarray .byte, 2) := by decide +kernel
theorem d_PA_init_26 : decode c_PA_init 26 = .ok (.putfield 18, 3) := by decide +kernel
theorem d_PA_init_29 : decode c_PA_init 29 = .ok (.aload_n 0, 1) := by decide +kernel
theorem d_PA_init_30 : decode c_PA_init 30 = .ok (.iconst 0, 1) := by decide +kernel
theorem d_PA_init_31 : decode c_PA_init 31 = .ok (.newarray .byte, 2) := by decide +kernel
theorem d_PA_init_33 : decode c_PA_init 33 = .ok (.putfield 22, 3) := by decide +kernel
theorem d_PA_init_36 : decode c_PA_init 36 = .ok (.return_, 1) := by decide +kernel
theorem d_ZB_again_0 : decode c_ZB_again 0 = .ok (.aload_n 0, 1) := by decide +kernel
theorem d_ZB_again_1 : decode c_ZB_again 1 = .ok (.getfield 13, 3) := by decide +kernel
theorem d_ZB_again_4 : decode c_ZB_again 4 = .ok (.iconst 0, 1) := by decide +kernel
theorem d_ZB_again_5 : decode c_ZB_again 5 = .ok (.aload_n 0, 1) := by decide +kernel
theorem d_ZB_again_6 : decode c_ZB_again 6 = .ok (.getfield 9, 3) := by decide +kernel
theorem d_ZB_again_9 : decode c_ZB_again 9 = .ok (.iconst 0, 1) := by decide +kernel
theorem d_ZB_again_10 : decode c_ZB_again 10 = .ok (.aload_n 0, 1) := by decide +kernel
theorem d_ZB_again_11 : decode c_ZB_again 11 = .ok (.getfield 53, 3) := by decide +kernel
theorem d_ZB_again_14 : decode c_ZB_again 14 = .ok (.invokestatic 56, 3) := by decide +kernel
theorem d_ZB_again_17 : decode c_ZB_again 17 = .ok (.aload_n 0, 1) := by decide +kernel
theorem d_ZB_again_18 : decode c_ZB_again 18 = .ok (.aload_n 0, 1) := by decide +kernel
theorem d_ZB_again_19 : decode c_ZB_again 19 = .ok (.getfield 53, 3) := by decide +kernel
theorem d_ZB_again_22 : decode c_ZB_again 22 = .ok (.putfield 33, 3) := by decide +kernel
theorem d_ZB_again_25 : decode c_ZB_again 25 = .ok (.aload_n 0, 1) := by decide +kernel
theorem d_ZB_again_26 : decode c_ZB_again 26 = .ok (.getfield 33, 3) := by decide +kernel
theorem d_ZB_again_29 : decode c_ZB_again 29 = .ok (.ireturn, 1) := by decide +kernel
theorem d_ZB_adler_0 : decode c_ZB_adler 0 = .ok (.aload_n 0, 1) := by decide +kernel
theorem d_ZB_adler_1 : decode c_ZB_adler 1 = .ok (.getfield 9, 3) := by decide +kernel
theorem d_ZB_adler_4 : decode c_ZB_adler 4 = .ok (.aload_n 0, 1) := by decide +kernel
theorem d_ZB_adler_5 : decode c_ZB_adler 5 = .ok (.getfield 33, 3) := by decide +kernel
theorem d_ZB_adler_8 : decode c_ZB_adler 8 = .ok (.invokestatic 73, 3) := by decide +kernel
theorem d_ZB_adler_11 : decode c_ZB_adler 11 = .ok (.ireturn, 1) := by decide +kernel
theorem d_ZB_adlerOf_0 : decode c_ZB_adlerOf 0 = .ok (.iconst 1, 1) := by decide +kernel
theorem d_ZB_adlerOf_1 : decode c_ZB_adlerOf 1 = .ok (.istore_n 2, 1) := by decide +kernel
theorem d_ZB_adlerOf_2 : decode c_ZB_adlerOf 2 = .ok (.iconst 0, 1) := by decide +kernel
theorem d_ZB_adlerOf_3 : decode c_ZB_adlerOf 3 = .ok (.istore_n 3, 1) := by decide +kernel
theorem d_ZB_adlerOf_4 : decode c_ZB_adlerOf 4 = .ok (.iconst 0, 1) := by decide +kernel
theorem d_ZB_adlerOf_5 : decode c_ZB_adlerOf 5 = .ok (.istore 4, 2) := by decide +kernel
theorem d_ZB_adlerOf_7 : decode c_ZB_adlerOf 7 = .ok (.iload 4, 2) := by decide +kernel
theorem d_ZB_adlerOf_9 : decode c_ZB_adlerOf 9 = .ok (.iload_n 1, 1) := by decide +kernel
theorem d_ZB_adlerOf_10 : decode c_ZB_adlerOf 10 = .ok (.if_icmp .ge 30, 3) := by decide +kernel
theorem d_ZB_adlerOf_13 : decode c_ZB_adlerOf 13 = .ok (.iload_n 2, 1) := by decide +kernel
theorem d_ZB_adlerOf_14 : decode c_ZB_adlerOf 14 = .ok (.aload_n 0, 1) := by decide +kernel
theorem d_ZB_adlerOf_15 : decode c_ZB_adlerOf 15 = .ok (.iload 4, 2) := by decide +kernel
theorem d_ZB_adlerOf_17 : decode c_ZB_adlerOf 17 = .ok (.baload, 1) := by decide +kernel
theorem d_ZB_adlerOf_18 : decode c_ZB_adlerOf 18 = .ok (.sipush 255, 3) := by decide +kernel
theorem d_ZB_adlerOf_21 : decode c_ZB_adlerOf 21 = .ok (.iand, 1) := by decide +kernel
theorem d_ZB_adlerOf_22 : decode c_ZB_adlerOf 22 = .ok (.iadd, 1) := by decide +kernel
theorem d_ZB_adlerOf_23 : decode c_ZB_adlerOf 23 = .ok (.ldc 81, 2) := by decide +kernel
theorem d_ZB_adlerOf_25 : decode c_ZB_adlerOf 25 = .ok (.irem, 1) := by decide +kernel
theorem d_ZB_adlerOf_26 : decode c_ZB_adlerOf 26 = .ok (.istore_n 2, 1) := by decide +kernel
theorem d_ZB_adlerOf_27 : decode c_ZB_adlerOf 27 = .ok (.iload_n 3, 1) := by decide +kernel
theorem d_ZB_adlerOf_28 : decode c_ZB_adlerOf 28 = .ok (.iload_n 2, 1) := by decide +kernel
theorem d_ZB_adlerOf_29 : decode c_ZB_adlerOf 29 = .ok (.iadd, 1) := by decide +kernel
theorem d_ZB_adlerOf_30 : decode c_ZB_adlerOf 30 = .ok (.ldc 81, 2) := by decide +kernel
theorem d_ZB_adlerOf_32 : decode c_ZB_adlerOf 32 = .ok (.irem, 1) := by decide +kernel
theorem d_ZB_adlerOf_33 : decode c_ZB_adlerOf 33 = .ok (.istore_n 3, 1) := by decide +kernel
theorem d_ZB_adlerOf_34 : decode c_ZB_adlerOf 34 = .ok (.iinc 4 1, 3) := by decide +kernel
theorem d_ZB_adlerOf_37 : decode c_ZB_adlerOf 37 = .ok (.goto (-30), 3) := by decide +kernel
theorem d_ZB_adlerOf_40 : decode c_ZB_adlerOf 40 = .ok (.iload_n 3, 1) := by decide +kernel
theorem d_ZB_adlerOf_41 : decode c_ZB_adlerOf 41 = .ok (.bipush 16, 2) := by decide +kernel
theorem d_ZB_adlerOf_43 : decode c_ZB_adlerOf 43 = .ok (.ishl, 1) := by decide +kernel
theorem d_ZB_adlerOf_44 : decode c_ZB_adlerOf 44 = .ok (.iload_n 2, 1) := by decide +kernel
theorem d_ZB_adlerOf_45 : decode c_ZB_adlerOf 45 = .ok (.ior, 1) := by decide +kernel
theorem d_ZB_adlerOf_46 : decode c_ZB_adlerOf 46 = .ok (.ireturn, 1) := by decide +kernel
theorem d_LW_feed_0 : decode c_LW_feed 0 = .ok (.aload 6, 2) := by decide +kernel
theorem d_LW_feed_2 : decode c_LW_feed 2 = .ok (.iconst 0, 1) := by decide +kernel
theorem d_LW_feed_3 : decode c_LW_feed 3 = .ok (.aload_n 0, 1) := by decide +kernel
theorem d_LW_feed_4 : decode c_LW_feed 4 = .ok (.iload_n 1, 1) := by decide +kernel
theorem d_LW_feed_5 : decode c_LW_feed 5 = .ok (.iload_n 2, 1) := by decide +kernel
theorem d_LW_feed_6 : decode c_LW_feed 6 = .ok (.iload_n 3, 1) := by decide +kernel
theorem d_LW_feed_7 : decode c_LW_feed 7 = .ok (.iload 4, 2) := by decide +kernel
theorem d_LW_feed_9 : decode c_LW_feed 9 = .ok (.iload 5, 2) := by decide +kernel
theorem d_LW_feed_11 : decode c_LW_feed 11 = .ok (.invokevirtual 7, 3) := by decide +kernel
theorem d_LW_feed_14 : decode c_LW_feed 14 = .ok (.i2l, 1) := by decide +kernel
theorem d_LW_feed_15 : decode c_LW_feed 15 = .ok (.lastore, 1) := by decide +kernel
theorem d_LW_feed_16 : decode c_LW_feed 16 = .ok (.goto 7, 3) := by decide +kernel
theorem d_LW_feed_19 : decode c_LW_feed 19 = .ok (.astore 7, 2) := by decide +kernel
theorem d_LW_feed_21 : decode c_LW_feed 21 = .ok (.iconst 1, 1) := by decide +kernel
theorem d_LW_feed_22 : decode c_LW_feed 22 = .ok (.ireturn, 1) := by decide +kernel
theorem d_LW_feed_23 : decode c_LW_feed 23 = .ok (.iconst 0, 1) := by decide +kernel
theorem d_LW_feed_24 : decode c_LW_feed 24 = .ok (.ireturn, 1) := by decide +kernel
theorem d_ZB_feed_0 : decode c_ZB_feed 0 = .ok (.aload_n 0, 1) := by decide +kernel
theorem d_ZB_feed_1 : decode c_ZB_feed 1 = .ok (.getfield 33, 3) := by decide +kernel
theorem d_ZB_feed_4 : decode c_ZB_feed 4 = .ok (.bipush 20, 2) := by decide +kernel
theorem d_ZB_feed_6 : decode c_ZB_feed 6 = .ok (.iadd, 1) := by decide +kernel
theorem d_ZB_feed_7 : decode c_ZB_feed 7 = .ok (.sipush 16384, 3) := by decide +kernel
theorem d_ZB_feed_10 : decode c_ZB_feed 10 = .ok (.if_icmp .le 13, 3) := by decide +kernel
theorem d_ZB_feed_13 : decode c_ZB_feed 13 = .ok (.new 37, 3) := by decide +kernel
theorem d_ZB_feed_16 : decode c_ZB_feed 16 = .ok (.dup, 1) := by decide +kernel
theorem d_ZB_feed_17 : decode c_ZB_feed 17 = .ok (.ldc 39, 2) := by decide +kernel
theorem d_ZB_feed_19 : decode c_ZB_feed 19 = .ok (.invokespecial 41, 3) := by decide +kernel
theorem d_ZB_feed_22 : decode c_ZB_feed 22 = .ok (.athrow, 1) := by decide +kernel
theorem d_ZB_feed_23 : decode c_ZB_feed 23 = .ok (.aload_n 0, 1) := by decide +kernel
theorem d_ZB_feed_24 : decode c_ZB_feed 24 = .ok (.aload_n 0, 1) := by decide +kernel
theorem d_ZB_feed_25 : decode c_ZB_feed 25 = .ok (.getfield 33, 3) := by decide +kernel
theorem d_ZB_feed_28 : decode c_ZB_feed 28 = .ok (.iload_n 1, 1) := by decide +kernel
theorem d_ZB_feed_29 : decode c_ZB_feed 29 = .ok (.invokevirtual 44, 3) := by decide +kernel
theorem d_ZB_feed_32 : decode c_ZB_feed 32 = .ok (.aload_n 0, 1) := by decide +kernel
theorem d_ZB_feed_33 : decode c_ZB_feed 33 = .ok (.aload_n 0, 1) := by decide +kernel
theorem d_ZB_feed_34 : decode c_ZB_feed 34 = .ok (.getfield 33, 3) := by decide +kernel
theorem d_ZB_feed_37 : decode c_ZB_feed 37 = .ok (.iconst 4, 1) := by decide +kernel
theorem d_ZB_feed_38 : decode c_ZB_feed 38 = .ok (.iadd, 1) := by decide +kernel
theorem d_ZB_feed_39 : decode c_ZB_feed 39 = .ok (.iload_n 2, 1) := by decide +kernel
theorem d_ZB_feed_40 : decode c_ZB_feed 40 = .ok (.invokevirtual 44, 3) := by decide +kernel
theorem d_ZB_feed_43 : decode c_ZB_feed 43 = .ok (.aload_n 0, 1) := by decide +kernel
theorem d_ZB_feed_44 : decode c_ZB_feed 44 = .ok (.aload_n 0, 1) := by decide +kernel
theorem d_ZB_feed_45 : decode c_ZB_feed 45 = .ok (.getfield 33, 3) := by decide +kernel
theorem d_ZB_feed_48 : decode c_ZB_feed 48 = .ok (.bipush 8, 2) := by decide +kernel
theorem d_ZB_feed_50 : decode c_ZB_feed 50 = .ok (.iadd, 1) := by decide +kernel
theorem d_ZB_feed_51 : decode c_ZB_feed 51 = .ok (.iload_n 3, 1) := by decide +kernel
theorem d_ZB_feed_52 : decode c_ZB_feed 52 = .ok (.invokevirtual 44, 3) := by decide +kernel
theorem d_ZB_feed_55 : decode c_ZB_feed 55 = .ok (.aload_n 0, 1) := by decide +kernel
theorem d_ZB_feed_56 : decode c_ZB_feed 56 = .ok (.aload_n 0, 1) := by decide +kernel
theorem d_ZB_feed_57 : decode c_ZB_feed 57 = .ok (.getfield 33, 3) := by decide +kernel
theorem d_ZB_feed_60 : decode c_ZB_feed 60 = .ok (.bipush 12, 2) := by decide +kernel
theorem d_ZB_feed_62 : decode c_ZB_feed 62 = .ok (.iadd, 1) := by decide +kernel
theorem d_ZB_feed_63 : decode c_ZB_feed 63 = .ok (.iload 4, 2) := by decide +kernel
theorem d_ZB_feed_65 : decode c_ZB_feed 65 = .ok (.invokevirtual 44, 3) := by decide +kernel
theorem d_ZB_feed_68 : decode c_ZB_feed 68 = .ok (.aload_n 0, 1) := by decide +kernel
theorem d_ZB_feed_69 : decode c_ZB_feed 69 = .ok (.aload_n 0, 1) := by decide +kernel
theorem d_ZB_feed_70 : decode c_ZB_feed 70 = .ok (.getfield 33, 3) := by decide +kernel
theorem d_ZB_feed_73 : decode c_ZB_feed 73 = .ok (.bipush 16, 2) := by decide +kernel
theorem d_ZB_feed_75 : decode c_ZB_feed 75 = .ok (.iadd, 1) := by decide +kernel
theorem d_ZB_feed_76 : decode c_ZB_feed 76 = .ok (.iload 5, 2) := by decide +kernel
theorem d_ZB_feed_78 : decode c_ZB_feed 78 = .ok (.invokevirtual 44, 3) := by decide +kernel
theorem d_ZB_feed_81 : decode c_ZB_feed 81 = .ok (.aload_n 0, 1) := by decide +kernel
theorem d_ZB_feed_82 : decode c_ZB_feed 82 = .ok (.dup, 1) := by decide +kernel
theorem d_ZB_feed_83 : decode c_ZB_feed 83 = .ok (.getfield 33, 3) := by decide +kernel
theorem d_ZB_feed_86 : decode c_ZB_feed 86 = .ok (.bipush 20, 2) := by decide +kernel
theorem d_ZB_feed_88 : decode c_ZB_feed 88 = .ok (.iadd, 1) := by decide +kernel
theorem d_ZB_feed_89 : decode c_ZB_feed 89 = .ok (.putfield 33, 3) := by decide +kernel
theorem d_ZB_feed_92 : decode c_ZB_feed 92 = .ok (.aload_n 0, 1) := by decide +kernel
theorem d_ZB_feed_93 : decode c_ZB_feed 93 = .ok (.getfield 33, 3) := by decide +kernel
theorem d_ZB_feed_96 : decode c_ZB_feed 96 = .ok (.ireturn, 1) := by decide +kernel
theorem d_ZB_putInt_0 : decode c_ZB_putInt 0 = .ok (.aload_n 0, 1) := by decide +kernel
theorem d_ZB_putInt_1 : decode c_ZB_putInt 1 = .ok (.getfield 9, 3) := by decide +kernel
theorem d_ZB_putInt_4 : decode c_ZB_putInt 4 = .ok (.iload_n 1, 1) := by decide +kernel
theorem d_ZB_putInt_5 : decode c_ZB_putInt 5 = .ok (.iload_n 2, 1) := by decide +kernel
theorem d_ZB_putInt_6 : decode c_ZB_putInt 6 = .ok (.bipush 24, 2) := by decide +kernel
theorem d_ZB_putInt_8 : decode c_ZB_putInt 8 = .ok (.ishr, 1) := by decide +kernel
theorem d_ZB_putInt_9 : decode c_ZB_putInt 9 = .ok (.i2b, 1) := by decide +kernel
theorem d_ZB_putInt_10 : decode c_ZB_putInt 10 = .ok (.bastore, 1) := by decide +kernel
theorem d_ZB_putInt_11 : decode c_ZB_putInt 11 = .ok (.aload_n 0, 1) := by decide +kernel
theorem d_ZB_putInt_12 : decode c_ZB_putInt 12 = .ok (.getfield 9, 3) := by decide +kernel
theorem d_ZB_putInt_15 : decode c_ZB_putInt 15 = .ok (.iload_n 1, 1) := by decide +kernel
theorem d_ZB_putInt_16 : decode c_ZB_putInt 16 = .ok (.iconst 1, 1) := by decide +kernel
theorem d_ZB_putInt_17 : decode c_ZB_putInt 17 = .ok (.iadd, 1) := by decide +kernel
theorem d_ZB_putInt_18 : decode c_ZB_putInt 18 = .ok (.iload_n 2, 1) := by decide +kernel
theorem d_ZB_putInt_19 : decode c_ZB_putInt 19 = .ok (.bipush 16, 2) := by decide +kernel
theorem d_ZB_putInt_21 : decode c_ZB_putInt 21 = .ok (.ishr, 1) := by decide +kernel
theorem d_ZB_putInt_22 : decode c_ZB_putInt 22 = .ok (.i2b, 1) := by decide +kernel
theorem d_ZB_putInt_23 : decode c_ZB_putInt 23 = .ok (.bastore, 1) := by decide +kernel
theorem d_ZB_putInt_24 : decode c_ZB_putInt 24 = .ok (.aload_n 0, 1) := by decide +kernel
theorem d_ZB_putInt_25 : decode c_ZB_putInt 25 = .ok (.getfield 9, 3) := by decide +kernel
theorem d_ZB_putInt_28 : decode c_ZB_putInt 28 = .ok (.iload_n 1, 1) := by decide +kernel
theorem d_ZB_putInt_29 : decode c_ZB_putInt 29 = .ok (.iconst 2, 1) := by decide +kernel
theorem d_ZB_putInt_30 : decode c_ZB_putInt 30 = .ok (.iadd, 1) := by decide +kernel
theorem d_ZB_putInt_31 : decode c_ZB_putInt 31 = .ok (.iload_n 2, 1) := by decide +kernel
theorem d_ZB_putInt_32 : decode c_ZB_putInt 32 = .ok (.bipush 8, 2) := by decide +kernel
theorem d_ZB_putInt_34 : decode c_ZB_putInt 34 = .ok (.ishr, 1) := by decide +kernel
theorem d_ZB_putInt_35 : decode c_ZB_putInt 35 = .ok (.i2b, 1) := by decide +kernel
theorem d_ZB_putInt_36 : decode c_ZB_putInt 36 = .ok (.bastore, 1) := by decide +kernel
theorem d_ZB_putInt_37 : decode c_ZB_putInt 37 = .ok (.aload_n 0, 1) := by decide +kernel
theorem d_ZB_putInt_38 : decode c_ZB_putInt 38 = .ok (.getfield 9, 3) := by decide +kernel
theorem d_ZB_putInt_41 : decode c_ZB_putInt 41 = .ok (.iload_n 1, 1) := by decide +kernel
theorem d_ZB_putInt_42 : decode c_ZB_putInt 42 = .ok (.iconst 3, 1) := by decide +kernel
theorem d_ZB_putInt_43 : decode c_ZB_putInt 43 = .ok (.iadd, 1) := by decide +kernel
theorem d_ZB_putInt_44 : decode c_ZB_putInt 44 = .ok (.iload_n 2, 1) := by decide +kernel
theorem d_ZB_putInt_45 : decode c_ZB_putInt 45 = .ok (.i2b, 1) := by decide +kernel
theorem d_ZB_putInt_46 : decode c_ZB_putInt 46 = .ok (.bastore, 1) := by decide +kernel
theorem d_ZB_putInt_47 : decode c_ZB_putInt 47 = .ok (.return_, 1) := by decide +kernel
theorem d_LW_end_0 : decode c_LW_end 0 = .ok (.aload_n 2, 1) := by decide +kernel
theorem d_LW_end_1 : decode c_LW_end 1 = .ok (.iconst 0, 1) := by decide +kernel
theorem d_LW_end_2 : decode c_LW_end 2 = .ok (.aload_n 0, 1) := by decide +kernel
theorem d_LW_end_3 : decode c_LW_end 3 = .ok (.iload_n 1, 1) := by decide +kernel
theorem d_LW_end_4 : decode c_LW_end 4 = .ok (.invokevirtual 15, 3) := by decide +kernel
theorem d_LW_end_7 : decode c_LW_end 7 = .ok (.i2l, 1) := by decide +kernel
theorem d_LW_end_8 : decode c_LW_end 8 = .ok (.lastore, 1) := by decide +kernel
theorem d_LW_end_9 : decode c_LW_end 9 = .ok (.goto 6, 3) := by decide +kernel
theorem d_LW_end_12 : decode c_LW_end 12 = .ok (.astore_n 3, 1) := by decide +kernel
theorem d_LW_end_13 : decode c_LW_end 13 = .ok (.iconst 1, 1) := by decide +kernel
theorem d_LW_end_14 : decode c_LW_end 14 = .ok (.ireturn, 1) := by decide +kernel
theorem d_LW_end_15 : decode c_LW_end 15 = .ok (.iconst 0, 1) := by decide +kernel
theorem d_LW_end_16 : decode c_LW_end 16 = .ok (.ireturn, 1) := by decide +kernel
theorem d_ZB_end_0 : decode c_ZB_end 0 = .ok (.iload_n 1, 1) := by decide +kernel
theorem d_ZB_end_1 : decode c_ZB_end 1 = .ok (.ifCond .lt 11, 3) := by decide +kernel
theorem d_ZB_end_4 : decode c_ZB_end 4 = .ok (.iload_n 1, 1) := by decide +kernel
theorem d_ZB_end_5 : decode c_ZB_end 5 = .ok (.aload_n 0, 1) := by decide +kernel
theorem d_ZB_end_6 : decode c_ZB_end 6 = .ok (.getfield 33, 3) := by decide +kernel
theorem d_ZB_end_9 : decode c_ZB_end 9 = .ok (.if_icmp .le 13, 3) := by decide +kernel
theorem d_ZB_end_12 : decode c_ZB_end 12 = .ok (.new 48, 3) := by decide +kernel
theorem d_ZB_end_15 : decode c_ZB_end 15 = .ok (.dup, 1) := by decide +kernel
theorem d_ZB_end_16 : decode c_ZB_end 16 = .ok (.ldc 50, 2) := by decide +kernel
theorem d_ZB_end_18 : decode c_ZB_end 18 = .ok (.invokespecial 52, 3) := by decide +kernel
theorem d_ZB_end_21 : decode c_ZB_end 21 = .ok (.athrow, 1) := by decide +kernel
theorem d_ZB_end_22 : decode c_ZB_end 22 = .ok (.aload_n 0, 1) := by decide +kernel
theorem d_ZB_end_23 : decode c_ZB_end 23 = .ok (.iload_n 1, 1) := by decide +kernel
theorem d_ZB_end_24 : decode c_ZB_end 24 = .ok (.putfield 33, 3) := by decide +kernel
theorem d_ZB_end_27 : decode c_ZB_end 27 = .ok (.iload_n 1, 1) := by decide +kernel
theorem d_ZB_end_28 : decode c_ZB_end 28 = .ok (.ireturn, 1) := by decide +kernel
theorem d_LW_unpack_0 : decode c_LW_unpack 0 = .ok (.aload_n 1, 1) := by decide +kernel
theorem d_LW_unpack_1 : decode c_LW_unpack 1 = .ok (.iconst 0, 1) := by decide +kernel
theorem d_LW_unpack_2 : decode c_LW_unpack 2 = .ok (.aload_n 0, 1) := by decide +kernel
theorem d_LW_unpack_3 : decode c_LW_unpack 3 = .ok (.invokevirtual 21, 3) := by decide +kernel
theorem d_LW_unpack_6 : decode c_LW_unpack 6 = .ok (.i2l, 1) := by decide +kernel
theorem d_LW_unpack_7 : decode c_LW_unpack 7 = .ok (.lastore, 1) := by decide +kernel
theorem d_LW_unpack_8 : decode c_LW_unpack 8 = .ok (.goto 9, 3) := by decide +kernel
theorem d_LW_unpack_11 : decode c_LW_unpack 11 = .ok (.astore_n 2, 1) := by decide +kernel
theorem d_LW_unpack_12 : decode c_LW_unpack 12 = .ok (.iconst 1, 1) := by decide +kernel
theorem d_LW_unpack_13 : decode c_LW_unpack 13 = .ok (.ireturn, 1) := by decide +kernel
theorem d_LW_unpack_14 : decode c_LW_unpack 14 = .ok (.astore_n 2, 1) := by decide +kernel
theorem d_LW_unpack_15 : decode c_LW_unpack 15 = .ok (.iconst 2, 1) := by decide +kernel
theorem d_LW_unpack_16 : decode c_LW_unpack 16 = .ok (.ireturn, 1) := by decide +kernel
theorem d_LW_unpack_17 : decode c_LW_unpack 17 = .ok (.iconst 0, 1) := by decide +kernel
theorem d_LW_unpack_18 : decode c_LW_unpack 18 = .ok (.ireturn, 1) := by decide +kernel
theorem d_ZB_unpack_0 : decode c_ZB_unpack 0 = .ok (.aload_n 0, 1) := by decide +kernel
theorem d_ZB_unpack_1 : decode c_ZB_unpack 1 = .ok (.getfield 33, 3) := by decide +kernel
theorem d_ZB_unpack_4 : decode c_ZB_unpack 4 = .ok (.istore_n 1, 1) := by decide +kernel
theorem d_ZB_unpack_5 : decode c_ZB_unpack 5 = .ok (.aload_n 0, 1) := by decide +kernel
theorem d_ZB_unpack_6 : decode c_ZB_unpack 6 = .ok (.iconst 0, 1) := by decide +kernel
theorem d_ZB_unpack_7 : decode c_ZB_unpack 7 = .ok (.putfield 33, 3) := by decide +kernel
theorem d_ZB_unpack_10 : decode c_ZB_unpack 10 = .ok (.aload_n 0, 1) := by decide +kernel
theorem d_ZB_unpack_11 : decode c_ZB_unpack 11 = .ok (.aload_n 0, 1) := by decide +kernel
theorem d_ZB_unpack_12 : decode c_ZB_unpack 12 = .ok (.getfield 22, 3) := by decide +kernel
theorem d_ZB_unpack_15 : decode c_ZB_unpack 15 = .ok (.aload_n 0, 1) := by decide +kernel
theorem d_ZB_unpack_16 : decode c_ZB_unpack 16 = .ok (.getfield 9, 3) := by decide +kernel
theorem d_ZB_unpack_19 : decode c_ZB_unpack 19 = .ok (.iload_n 1, 1) := by decide +kernel
theorem d_ZB_unpack_20 : decode c_ZB_unpack 20 = .ok (.aload_n 0, 1) := by decide +kernel
theorem d_ZB_unpack_21 : decode c_ZB_unpack 21 = .ok (.getfield 16, 3) := by decide +kernel
theorem d_ZB_unpack_24 : decode c_ZB_unpack 24 = .ok (.invokevirtual 62, 3) := by decide +kernel
theorem d_ZB_unpack_27 : decode c_ZB_unpack 27 = .ok (.invokevirtual 66, 3) := by decide +kernel
theorem d_ZB_unpack_30 : decode c_ZB_unpack 30 = .ok (.ireturn, 1) := by decide +kernel
theorem d_UN_read_0 : decode c_UN_read 0 = .ok (.aload_n 0, 1) := by decide +kernel
theorem d_UN_read_1 : decode c_UN_read 1 = .ok (.getfield 12, 3) := by decide +kernel
theorem d_UN_read_4 : decode c_UN_read 4 = .ok (.aload_n 1, 1) := by decide +kernel
theorem d_UN_read_5 : decode c_UN_read 5 = .ok (.iload_n 2, 1) := by decide +kernel
theorem d_UN_read_6 : decode c_UN_read 6 = .ok (.invokevirtual 48, 3) := by decide +kernel
theorem d_UN_read_9 : decode c_UN_read 9 = .ok (.aload_n 0, 1) := by decide +kernel
theorem d_UN_read_10 : decode c_UN_read 10 = .ok (.aload_n 3, 1) := by decide +kernel
theorem d_UN_read_11 : decode c_UN_read 11 = .ok (.putfield 41, 3) := by decide +kernel
theorem d_UN_read_14 : decode c_UN_read 14 = .ok (.aload_n 0, 1) := by decide +kernel
theorem d_UN_read_15 : decode c_UN_read 15 = .ok (.iconst 0, 1) := by decide +kernel
theorem d_UN_read_16 : decode c_UN_read 16 = .ok (.putfield 52, 3) := by decide +kernel
theorem d_UN_read_19 : decode c_UN_read 19 = .ok (.aload_n 0, 1) := by decide +kernel
theorem d_UN_read_20 : decode c_UN_read 20 = .ok (.invokevirtual 56, 3) := by decide +kernel
theorem d_UN_read_23 : decode c_UN_read 23 = .ok (.aload_n 0, 1) := by decide +kernel
theorem d_UN_read_24 : decode c_UN_read 24 = .ok (.invokevirtual 59, 3) := by decide +kernel
theorem d_UN_read_27 : decode c_UN_read 27 = .ok (.aload_n 0, 1) := by decide +kernel
theorem d_UN_read_28 : decode c_UN_read 28 = .ok (.invokevirtual 62, 3) := by decide +kernel
theorem d_UN_read_31 : decode c_UN_read 31 = .ok (.aload_n 0, 1) := by decide +kernel
theorem d_UN_read_32 : decode c_UN_read 32 = .ok (.getfield 52, 3) := by decide +kernel
theorem d_UN_read_35 : decode c_UN_read 35 = .ok (.ireturn, 1) := by decide +kernel
theorem d_BR_open_0 : decode c_BR_open 0 = .ok (.aload_n 0, 1) := by decide +kernel
theorem d_BR_open_1 : decode c_BR_open 1 = .ok (.aload_n 1, 1) := by decide +kernel
theorem d_BR_open_2 : decode c_BR_open 2 = .ok (.putfield 7, 3) := by decide +kernel
theorem d_BR_open_5 : decode c_BR_open 5 = .ok (.aload_n 0, 1) := by decide +kernel
theorem d_BR_open_6 : decode c_BR_open 6 = .ok (.bipush 8, 2) := by decide +kernel
theorem d_BR_open_8 : decode c_BR_open 8 = .ok (.iload_n 2, 1) := by decide +kernel
theorem d_BR_open_9 : decode c_BR_open 9 = .ok (.imul, 1) := by decide +kernel
theorem d_BR_open_10 : decode c_BR_open 10 = .ok (.putfield 13, 3) := by decide +kernel
theorem d_BR_open_13 : decode c_BR_open 13 = .ok (.aload_n 0, 1) := by decide +kernel
theorem d_BR_open_14 : decode c_BR_open 14 = .ok (.iconst 0, 1) := by decide +kernel
theorem d_BR_open_15 : decode c_BR_open 15 = .ok (.putfield 17, 3) := by decide +kernel
theorem d_BR_open_18 : decode c_BR_open 18 = .ok (.return_, 1) := by decide +kernel
theorem d_UN_readHead_0 : decode c_UN_readHead 0 = .ok (.aload_n 0, 1) := by decide +kernel
theorem d_UN_readHead_1 : decode c_UN_readHead 1 = .ok (.getfield 12, 3) := by decide +kernel
theorem d_UN_readHead_4 : decode c_UN_readHead 4 = .ok (.bipush 8, 2) := by decide +kernel
theorem d_UN_readHead_6 : decode c_UN_readHead 6 = .ok (.invokevirtual 75, 3) := by decide +kernel
theorem d_UN_readHead_9 : decode c_UN_readHead 9 = .ok (.istore_n 1, 1) := by decide +kernel
theorem d_UN_readHead_10 : decode c_UN_readHead 10 = .ok (.aload_n 0, 1) := by decide +kernel
theorem d_UN_readHead_11 : decode c_UN_readHead 11 = .ok (.getfield 12, 3) := by decide +kernel
theorem d_UN_readHead_14 : decode c_UN_readHead 14 = .ok (.bipush 8, 2) := by decide +kernel
theorem d_UN_readHead_16 : decode c_UN_readHead 16 = .ok (.invokevirtual 75, 3) := by decide +kernel
theorem d_UN_readHead_19 : decode c_UN_readHead 19 = .ok (.istore_n 2, 1) := by decide +kernel
theorem d_UN_readHead_20 : decode c_UN_readHead 20 = .ok (.iload_n 1, 1) := by decide +kernel
theorem d_UN_readHead_21 : decode c_UN_readHead 21 = .ok (.bipush 16, 2) := by decide +kernel
theorem d_UN_readHead_23 : decode c_UN_readHead 23 = .ok (.irem, 1) := by decide +kernel
theorem d_UN_readHead_24 : decode c_UN_readHead 24 = .ok (.bipush 8, 2) := by decide +kernel
theorem d_UN_readHead_26 : decode c_UN_readHead 26 = .ok (.if_icmp .ne 16, 3) := by decide +kernel
theorem d_UN_readHead_29 : decode c_UN_readHead 29 = .ok (.iload_n 1, 1) := by decide +kernel
theorem d_UN_readHead_30 : decode c_UN_readHead 30 = .ok (.bipush 16, 2) := by decide +kernel
theorem d_UN_readHead_32 : decode c_UN_readHead 32 = .ok (.idiv, 1) := by decide +kernel
theorem d_UN_readHead_33 : decode c_UN_readHead 33 = .ok (.bipush 7, 2) := by decide +kernel
theorem d_UN_readHead_35 : decode c_UN_readHead 35 = .ok (.if_icmp .gt 7, 3) := by decide +kernel
theorem d_UN_readHead_38 : decode c_UN_readHead 38 = .ok (.iconst 1, 1) := by decide +kernel
theorem d_UN_readHead_39 : decode c_UN_readHead 39 = .ok (.goto 4, 3) := by decide +kernel
theorem d_UN_readHead_42 : decode c_UN_readHead 42 = .ok (.iconst 0, 1) := by decide +kernel
theorem d_UN_readHead_43 : decode c_UN_readHead 43 = .ok (.istore_n 3, 1) := by decide +kernel
theorem d_UN_readHead_44 : decode c_UN_readHead 44 = .ok (.sipush 256, 3) := by decide +kernel
theorem d_UN_readHead_47 : decode c_UN_readHead 47 = .ok (.iload_n 1, 1) := by decide +kernel
theorem d_UN_readHead_48 : decode c_UN_readHead 48 = .ok (.imul, 1) := by decide +kernel
theorem d_UN_readHead_49 : decode c_UN_readHead 49 = .ok (.iload_n 2, 1) := by decide +kernel
theorem d_UN_readHead_50 : decode c_UN_readHead 50 = .ok (.iadd, 1) := by decide +kernel
theorem d_UN_readHead_51 : decode c_UN_readHead 51 = .ok (.bipush 31, 2) := by decide +kernel
theorem d_UN_readHead_53 : decode c_UN_readHead 53 = .ok (.irem, 1) := by decide +kernel
theorem d_UN_readHead_54 : decode c_UN_readHead 54 = .ok (.ifCond .ne 16, 3) := by decide +kernel
theorem d_UN_readHead_57 : decode c_UN_readHead 57 = .ok (.iload_n 2, 1) := by decide +kernel
theorem d_UN_readHead_58 : decode c_UN_readHead 58 = .ok (.bipush 32, 2) := by decide +kernel
theorem d_UN_readHead_60 : decode c_UN_readHead 60 = .ok (.idiv, 1) := by decide +kernel
theorem d_UN_readHead_61 : decode c_UN_readHead 61 = .ok (.iconst 2, 1) := by decide +kernel
theorem d_UN_readHead_62 : decode c_UN_readHead 62 = .ok (.irem, 1) := by decide +kernel
theorem d_UN_readHead_63 : decode c_UN_readHead 63 = .ok (.ifCond .ne 7, 3) := by decide +kernel
theorem d_UN_readHead_66 : decode c_UN_readHead 66 = .ok (.iconst 1, 1) := by decide +kernel
theorem d_UN_readHead_67 : decode c_UN_readHead 67 = .ok (.goto 4, 3) := by decide +kernel
theorem d_UN_readHead_70 : decode c_UN_readHead 70 = .ok (.iconst 0, 1) := by decide +kernel
theorem d_UN_readHead_71 : decode c_UN_readHead 71 = .ok (.istore 4, 2) := by decide +kernel
theorem d_UN_readHead_73 : decode c_UN_readHead 73 = .ok (.iload_n 3, 1) := by decide +kernel
theorem d_UN_readHead_74 : decode c_UN_readHead 74 = .ok (.ifCond .eq 8, 3) := by decide +kernel
theorem d_UN_readHead_77 : decode c_UN_readHead 77 = .ok (.iload 4, 2) := by decide +kernel
theorem d_UN_readHead_79 : decode c_UN_readHead 79 = .ok (.ifCond .ne 13, 3) := by decide +kernel
theorem d_UN_readHead_82 : decode c_UN_readHead 82 = .ok (.new 79, 3) := by decide +kernel
theorem d_UN_readHead_85 : decode c_UN_readHead 85 = .ok (.dup, 1) := by decide +kernel
theorem d_UN_readHead_86 : decode c_UN_readHead 86 = .ok (.ldc 81, 2) := by decide +kernel
theorem d_UN_readHead_88 : decode c_UN_readHead 88 = .ok (.invokespecial 83, 3) := by decide +kernel
theorem d_UN_readHead_91 : decode c_UN_readHead 91 = .ok (.athrow, 1) := by decide +kernel
theorem d_UN_readHead_92 : decode c_UN_readHead 92 = .ok (.return_, 1) := by decide +kernel
theorem d_BR_number_0 : decode c_BR_number 0 = .ok (.iload_n 1, 1) := by decide +kernel
theorem d_BR_number_1 : decode c_BR_number 1 = .ok (.aload_n 0, 1) := by decide +kernel
theorem d_BR_number_2 : decode c_BR_number 2 = .ok (.getfield 13, 3) := by decide +kernel
theorem d_BR_number_5 : decode c_BR_number 5 = .ok (.aload_n 0, 1) := by decide +kernel
theorem d_BR_number_6 : decode c_BR_number 6 = .ok (.getfield 17, 3) := by decide +kernel
theorem d_BR_number_9 : decode c_BR_number 9 = .ok (.isub, 1) := by decide +kernel
theorem d_BR_number_10 : decode c_BR_number 10 = .ok (.if_icmp .le 13, 3) := by decide +kernel
theorem d_BR_number_13 : decode c_BR_number 13 = .ok (.new 20, 3) := by decide +kernel
theorem d_BR_number_16 : decode c_BR_number 16 = .ok (.dup, 1) := by decide +kernel
theorem d_BR_number_17 : decode c_BR_number 17 = .ok (.ldc 22, 2) := by decide +kernel
theorem d_BR_number_19 : decode c_BR_number 19 = .ok (.invokespecial 24, 3) := by decide +kernel
theorem d_BR_number_22 : decode c_BR_number 22 = .ok (.athrow, 1) := by decide +kernel
theorem d_BR_number_23 : decode c_BR_number 23 = .ok (.iconst 0, 1) := by decide +kernel
theorem d_BR_number_24 : decode c_BR_number 24 = .ok (.istore_n 2, 1) := by decide +kernel
theorem d_BR_number_25 : decode c_BR_number 25 = .ok (.iconst 0, 1) := by decide +kernel
theorem d_BR_number_26 : decode c_BR_number 26 = .ok (.istore_n 3, 1) := by decide +kernel
theorem d_BR_number_27 : decode c_BR_number 27 = .ok (.iload_n 3, 1) := by decide +kernel
theorem d_BR_number_28 : decode c_BR_number 28 = .ok (.iload_n 1, 1) := by decide +kernel
theorem d_BR_number_29 : decode c_BR_number 29 = .ok (.if_icmp .ge 45, 3) := by decide +kernel
theorem d_BR_number_32 : decode c_BR_number 32 = .ok (.iload_n 2, 1) := by decide +kernel
theorem d_BR_number_33 : decode c_BR_number 33 = .ok (.aload_n 0, 1) := by decide +kernel
theorem d_BR_number_34 : decode c_BR_number 34 = .ok (.getfield 7, 3) := by decide +kernel
theorem d_BR_number_37 : decode c_BR_number 37 = .ok (.aload_n 0, 1) := by decide +kernel
theorem d_BR_number_38 : decode c_BR_number 38 = .ok (.getfield 17, 3) := by decide +kernel
theorem d_BR_number_41 : decode c_BR_number 41 = .ok (.iconst 3, 1) := by decide +kernel
theorem d_BR_number_42 : decode c_BR_number 42 = .ok (.ishr, 1) := by decide +kernel
theorem d_BR_number_43 : decode c_BR_number 43 = .ok (.baload, 1) := by decide +kernel
theorem d_BR_number_44 : decode c_BR_number 44 = .ok (.aload_n 0, 1) := by decide +kernel
theorem d_BR_number_45 : decode c_BR_number 45 = .ok (.getfield 17, 3) := by decide +kernel
theorem d_BR_number_48 : decode c_BR_number 48 = .ok (.bipush 7, 2) := by decide +kernel
theorem d_BR_number_50 : decode c_BR_number 50 = .ok (.iand, 1) := by decide +kernel
theorem d_BR_number_51 : decode c_BR_number 51 = .ok (.ishr, 1) := by decide +kernel
theorem d_BR_number_52 : decode c_BR_number 52 = .ok (.iconst 1, 1) := by decide +kernel
theorem d_BR_number_53 : decode c_BR_number 53 = .ok (.iand, 1) := by decide +kernel
theorem d_BR_number_54 : decode c_BR_number 54 = .ok (.iload_n 3, 1) := by decide +kernel
theorem d_BR_number_55 : decode c_BR_number 55 = .ok (.ishl, 1) := by decide +kernel
theorem d_BR_number_56 : decode c_BR_number 56 = .ok (.ior, 1) := by decide +kernel
theorem d_BR_number_57 : decode c_BR_number 57 = .ok (.istore_n 2, 1) := by decide +kernel
theorem d_BR_number_58 : decode c_BR_number 58 = .ok (.aload_n 0, 1) := by decide +kernel
theorem d_BR_number_59 : decode c_BR_number 59 = .ok (.dup, 1) := by decide +kernel
theorem d_BR_number_60 : decode c_BR_number 60 = .ok (.getfield 17, 3) := by decide +kernel
theorem d_BR_number_63 : decode c_BR_number 63 = .ok (.iconst 1, 1) := by decide +kernel
theorem d_BR_number_64 : decode c_BR_number 64 = .ok (.iadd, 1) := by decide +kernel
theorem d_BR_number_65 : decode c_BR_number 65 = .ok (.putfield 17, 3) := by decide +kernel
theorem d_BR_number_68 : decode c_BR_number 68 = .ok (.iinc 3 1, 3) := by decide +kernel
theorem d_BR_number_71 : decode c_BR_number 71 = .ok (.goto (-44), 3) := by decide +kernel
theorem d_BR_number_74 : decode c_BR_number 74 = .ok (.iload_n 2, 1) := by decide +kernel
theorem d_BR_number_75 : decode c_BR_number 75 = .ok (.ireturn, 1) := by decide +kernel
theorem d_UN_readBlocks_0 : decode c_UN_readBlocks 0 = .ok (.iconst 0, 1) := by decide +kernel
theorem d_UN_readBlocks_1 : decode c_UN_readBlocks 1 = .ok (.istore_n 1, 1) := by decide +kernel
theorem d_UN_readBlocks_2 : decode c_UN_readBlocks 2 = .ok (.iload_n 1, 1) := by decide +kernel
theorem d_UN_readBlocks_3 : decode c_UN_readBlocks 3 = .ok (.ldc 99, 2) := by decide +kernel
theorem d_UN_readBlocks_5 : decode c_UN_readBlocks 5 = .ok (.if_icmp .ge 105, 3) := by decide +kernel
theorem d_UN_readBlocks_8 : decode c_UN_readBlocks 8 = .ok (.aload_n 0, 1) := by decide +kernel
theorem d_UN_readBlocks_9 : decode c_UN_readBlocks 9 = .ok (.getfield 12, 3) := by decide +kernel
theorem d_UN_readBlocks_12 : decode c_UN_readBlocks 12 = .ok (.invokevirtual 100, 3) := by decide +kernel
theorem d_UN_readBlocks_15 : decode c_UN_readBlocks 15 = .ok (.iconst 1, 1) := by decide +kernel
theorem d_UN_readBlocks_16 : decode c_UN_readBlocks 16 = .ok (.if_icmp .ne 7, 3) := by decide +kernel
theorem d_UN_readBlocks_19 : decode c_UN_readBlocks 19 = .ok (.iconst 1, 1) := by decide +kernel
theorem d_UN_readBlocks_20 : decode c_UN_readBlocks 20 = .ok (.goto 4, 3) := by decide +kernel
theorem d_UN_readBlocks_23 : decode c_UN_readBlocks 23 = .ok (.iconst 0, 1) := by decide +kernel
theorem d_UN_readBlocks_24 : decode c_UN_readBlocks 24 = .ok (.istore_n 2, 1) := by decide +kernel
theorem d_UN_readBlocks_25 : decode c_UN_readBlocks 25 = .ok (.aload_n 0, 1) := by decide +kernel
theorem d_UN_readBlocks_26 : decode c_UN_readBlocks 26 = .ok (.getfield 12, 3) := by decide +kernel
theorem d_UN_readBlocks_29 : decode c_UN_readBlocks 29 = .ok (.iconst 2, 1) := by decide +kernel
theorem d_UN_readBlocks_30 : decode c_UN_readBlocks 30 = .ok (.invokevirtual 75, 3) := by decide +kernel
theorem d_UN_readBlocks_33 : decode c_UN_readBlocks 33 = .ok (.istore_n 3, 1) := by decide +kernel
theorem d_UN_readBlocks_34 : decode c_UN_readBlocks 34 = .ok (.iload_n 3, 1) := by decide +kernel
theorem d_UN_readBlocks_35 : decode c_UN_readBlocks 35 = .ok (.ifCond .ne 10, 3) := by decide +kernel
theorem d_UN_readBlocks_38 : decode c_UN_readBlocks 38 = .ok (.aload_n 0, 1) := by decide +kernel
theorem d_UN_readBlocks_39 : decode c_UN_readBlocks 39 = .ok (.invokevirtual 104, 3) := by decide +kernel
theorem d_UN_readBlocks_42 : decode c_UN_readBlocks 42 = .ok (.goto 57, 3) := by decide +kernel
theorem d_UN_readBlocks_45 : decode c_UN_readBlocks 45 = .ok (.iload_n 3, 1) := by decide +kernel
theorem d_UN_readBlocks_46 : decode c_UN_readBlocks 46 = .ok (.iconst 1, 1) := by decide +kernel
theorem d_UN_readBlocks_47 : decode c_UN_readBlocks 47 = .ok (.if_icmp .ne 18, 3) := by decide +kernel
theorem d_UN_readBlocks_50 : decode c_UN_readBlocks 50 = .ok (.aload_n 0, 1) := by decide +kernel
theorem d_UN_readBlocks_51 : decode c_UN_readBlocks 51 = .ok (.aload_n 0, 1) := by decide +kernel
theorem d_UN_readBlocks_52 : decode c_UN_readBlocks 52 = .ok (.getfield 21, 3) := by decide +kernel
theorem d_UN_readBlocks_55 : decode c_UN_readBlocks 55 = .ok (.aload_n 0, 1) := by decide +kernel
theorem d_UN_readBlocks_56 : decode c_UN_readBlocks 56 = .ok (.getfield 25, 3) := by decide +kernel
theorem d_UN_readBlocks_59 : decode c_UN_readBlocks 59 = .ok (.invokevirtual 107, 3) := by decide +kernel
theorem d_UN_readBlocks_62 : decode c_UN_readBlocks 62 = .ok (.goto 37, 3) := by decide +kernel
theorem d_UN_readBlocks_65 : decode c_UN_readBlocks 65 = .ok (.iload_n 3, 1) := by decide +kernel
theorem d_UN_readBlocks_66 : decode c_UN_readBlocks 66 = .ok (.iconst 2, 1) := by decide +kernel
theorem d_UN_readBlocks_67 : decode c_UN_readBlocks 67 = .ok (.if_icmp .ne 22, 3) := by decide +kernel
theorem d_UN_readBlocks_70 : decode c_UN_readBlocks 70 = .ok (.aload_n 0, 1) := by decide +kernel
theorem d_UN_readBlocks_71 : decode c_UN_readBlocks 71 = .ok (.invokevirtual 111, 3) := by decide +kernel
theorem d_UN_readBlocks_74 : decode c_UN_readBlocks 74 = .ok (.aload_n 0, 1) := by decide +kernel
theorem d_UN_readBlocks_75 : decode c_UN_readBlocks 75 = .ok (.aload_n 0, 1) := by decide +kernel
theorem d_UN_readBlocks_76 : decode c_UN_readBlocks 76 = .ok (.getfield 28, 3) := by decide +kernel
theorem d_UN_readBlocks_79 : decode c_UN_readBlocks 79 = .ok (.aload_n 0, 1) := by decide +kernel
theorem d_UN_readBlocks_80 : decode c_UN_readBlocks 80 = .ok (.getfield 31, 3) := by decide +kernel
theorem d_UN_readBlocks_83 : decode c_UN_readBlocks 83 = .ok (.invokevirtual 107, 3) := by decide +kernel
theorem d_UN_readBlocks_86 : decode c_UN_readBlocks 86 = .ok (.goto 13, 3) := by decide +kernel
theorem d_UN_readBlocks_89 : decode c_UN_readBlocks 89 = .ok (.new 79, 3) := by decide +kernel
theorem d_UN_readBlocks_92 : decode c_UN_readBlocks 92 = .ok (.dup, 1) := by decide +kernel
theorem d_UN_readBlocks_93 : decode c_UN_readBlocks 93 = .ok (.ldc 114, 2) := by decide +kernel
theorem d_UN_readBlocks_95 : decode c_UN_readBlocks 95 = .ok (.invokespecial 83, 3) := by decide +kernel
theorem d_UN_readBlocks_98 : decode c_UN_readBlocks 98 = .ok (.athrow, 1) := by decide +kernel
theorem d_UN_readBlocks_99 : decode c_UN_readBlocks 99 = .ok (.iload_n 2, 1) := by decide +kernel
theorem d_UN_readBlocks_100 : decode c_UN_readBlocks 100 = .ok (.ifCond .eq 4, 3) := by decide +kernel
theorem d_UN_readBlocks_103 : decode c_UN_readBlocks 103 = .ok (.return_, 1) := by decide +kernel
theorem d_UN_readBlocks_104 : decode c_UN_readBlocks 104 = .ok (.iinc 1 1, 3) := by decide +kernel
theorem d_UN_readBlocks_107 : decode c_UN_readBlocks 107 = .ok (.goto (-105), 3) := by decide +kernel
theorem d_UN_readBlocks_110 : decode c_UN_readBlocks 110 = .ok (.return_, 1) := by decide +kernel
theorem d_BR_bit_0 : decode c_BR_bit 0 = .ok (.aload_n 0, 1) := by decide +kernel
theorem d_BR_bit_1 : decode c_BR_bit 1 = .ok (.getfield 17, 3) := by decide +kernel
theorem d_BR_bit_4 : decode c_BR_bit 4 = .ok (.aload_n 0, 1) := by decide +kernel
theorem d_BR_bit_5 : decode c_BR_bit 5 = .ok (.getfield 13, 3) := by decide +kernel
theorem d_BR_bit_8 : decode c_BR_bit 8 = .ok (.if_icmp .lt 13, 3) := by decide +kernel
theorem d_BR_bit_11 : decode c_BR_bit 11 = .ok (.new 20, 3) := by decide +kernel
theorem d_BR_bit_14 : decode c_BR_bit 14 = .ok (.dup, 1) := by decide +kernel
theorem d_BR_bit_15 : decode c_BR_bit 15 = .ok (.ldc 22, 2) := by decide +kernel
theorem d_BR_bit_17 : decode c_BR_bit 17 = .ok (.invokespecial 24, 3) := by decide +kernel
theorem d_BR_bit_20 : decode c_BR_bit 20 = .ok (.athrow, 1) := by decide +kernel
theorem d_BR_bit_21 : decode c_BR_bit 21 = .ok (.aload_n 0, 1) := by decide +kernel
theorem d_BR_bit_22 : decode c_BR_bit 22 = .ok (.getfield 7, 3) := by decide +kernel
theorem d_BR_bit_25 : decode c_BR_bit 25 = .ok (.aload_n 0, 1) := by decide +kernel
theorem d_BR_bit_26 : decode c_BR_bit 26 = .ok (.getfield 17, 3) := by decide +kernel
theorem d_BR_bit_29 : decode c_BR_bit 29 = .ok (.iconst 3, 1) := by decide +kernel
theorem d_BR_bit_30 : decode c_BR_bit 30 = .ok (.ishr, 1) := by decide +kernel
theorem d_BR_bit_31 : decode c_BR_bit 31 = .ok (.baload, 1) := by decide +kernel
theorem d_BR_bit_32 : decode c_BR_bit 32 = .ok (.aload_n 0, 1) := by decide +kernel
theorem d_BR_bit_33 : decode c_BR_bit 33 = .ok (.getfield 17, 3) := by decide +kernel
theorem d_BR_bit_36 : decode c_BR_bit 36 = .ok (.bipush 7, 2) := by decide +kernel
theorem d_BR_bit_38 : decode c_BR_bit 38 = .ok (.iand, 1) := by decide +kernel
theorem d_BR_bit_39 : decode c_BR_bit 39 = .ok (.ishr, 1) := by decide +kernel
theorem d_BR_bit_40 : decode c_BR_bit 40 = .ok (.iconst 1, 1) := by decide +kernel
theorem d_BR_bit_41 : decode c_BR_bit 41 = .ok (.iand, 1) := by decide +kernel
theorem d_BR_bit_42 : decode c_BR_bit 42 = .ok (.istore_n 1, 1) := by decide +kernel
theorem d_BR_bit_43 : decode c_BR_bit 43 = .ok (.aload_n 0, 1) := by decide +kernel
theorem d_BR_bit_44 : decode c_BR_bit 44 = .ok (.dup, 1) := by decide +kernel
theorem d_BR_bit_45 : decode c_BR_bit 45 = .ok (.getfield 17, 3) := by decide +kernel
theorem d_BR_bit_48 : decode c_BR_bit 48 = .ok (.iconst 1, 1) := by decide +kernel
theorem d_BR_bit_49 : decode c_BR_bit 49 = .ok (.iadd, 1) := by decide +kernel
theorem d_BR_bit_50 : decode c_BR_bit 50 = .ok (.putfield 17, 3) := by decide +kernel
theorem d_BR_bit_53 : decode c_BR_bit 53 = .ok (.iload_n 1, 1) := by decide +kernel
theorem d_BR_bit_54 : decode c_BR_bit 54 = .ok (.ireturn, 1) := by decide +kernel
theorem d_UN_readStored_0 : decode c_UN_readStored 0 = .ok (.aload_n 0, 1) := by decide +kernel
theorem d_UN_readStored_1 : decode c_UN_readStored 1 = .ok (.getfield 12, 3) := by decide +kernel
theorem d_UN_readStored_4 : decode c_UN_readStored 4 = .ok (.invokevirtual 86, 3) := by decide +kernel
theorem d_UN_readStored_7 : decode c_UN_readStored 7 = .ok (.aload_n 0, 1) := by decide +kernel
theorem d_UN_readStored_8 : decode c_UN_readStored 8 = .ok (.getfield 12, 3) := by decide +kernel
theorem d_UN_readStored_11 : decode c_UN_readStored 11 = .ok (.bipush 16, 2) := by decide +kernel
theorem d_UN_readStored_13 : decode c_UN_readStored 13 = .ok (.invokevirtual 75, 3) := by decide +kernel
theorem d_UN_readStored_16 : decode c_UN_readStored 16 = .ok (.istore_n 1, 1) := by decide +kernel
theorem d_UN_readStored_17 : decode c_UN_readStored 17 = .ok (.aload_n 0, 1) := by decide +kernel
theorem d_UN_readStored_18 : decode c_UN_readStored 18 = .ok (.getfield 12, 3) := by decide +kernel
theorem d_UN_readStored_21 : decode c_UN_readStored 21 = .ok (.bipush 16, 2) := by decide +kernel
theorem d_UN_readStored_23 : decode c_UN_readStored 23 = .ok (.invokevirtual 75, 3) := by decide +kernel
theorem d_UN_readStored_26 : decode c_UN_readStored 26 = .ok (.ldc 116, 2) := by decide +kernel
theorem d_UN_readStored_28 : decode c_UN_readStored 28 = .ok (.iload_n 1, 1) := by decide +kernel
theorem d_UN_readStored_29 : decode c_UN_readStored 29 = .ok (.isub, 1) := by decide +kernel
theorem d_UN_readStored_30 : decode c_UN_readStored 30 = .ok (.if_icmp .eq 13, 3) := by decide +kernel
theorem d_UN_readStored_33 : decode c_UN_readStored 33 = .ok (.new 79, 3) := by decide +kernel
theorem d_UN_readStored_36 : decode c_UN_readStored 36 = .ok (.dup, 1) := by decide +kernel
theorem d_UN_readStored_37 : decode c_UN_readStored 37 = .ok (.ldc 117, 2) := by decide +kernel
theorem d_UN_readStored_39 : decode c_UN_readStored 39 = .ok (.invokespecial 83, 3) := by decide +kernel
theorem d_UN_readStored_42 : decode c_UN_readStored 42 = .ok (.athrow, 1) := by decide +kernel
theorem d_UN_readStored_43 : decode c_UN_readStored 43 = .ok (.iconst 0, 1) := by decide +kernel
theorem d_UN_readStored_44 : decode c_UN_readStored 44 = .ok (.istore_n 2, 1) := by decide +kernel
theorem d_UN_readStored_45 : decode c_UN_readStored 45 = .ok (.iload_n 2, 1) := by decide +kernel
theorem d_UN_readStored_46 : decode c_UN_readStored 46 = .ok (.iload_n 1, 1) := by decide +kernel
theorem d_UN_readStored_47 : decode c_UN_readStored 47 = .ok (.if_icmp .ge 22, 3) := by decide +kernel
theorem d_UN_readStored_50 : decode c_UN_readStored 50 = .ok (.aload_n 0, 1) := by decide +kernel
theorem d_UN_readStored_51 : decode c_UN_readStored 51 = .ok (.aload_n 0, 1) := by decide +kernel
theorem d_UN_readStored_52 : decode c_UN_readStored 52 = .ok (.getfield 12, 3) := by decide +kernel
theorem d_UN_readStored_55 : decode c_UN_readStored 55 = .ok (.bipush 8, 2) := by decide +kernel
theorem d_UN_readStored_57 : decode c_UN_readStored 57 = .ok (.invokevirtual 75, 3) := by decide +kernel
theorem d_UN_readStored_60 : decode c_UN_readStored 60 = .ok (.invokevirtual 119, 3) := by decide +kernel
theorem d_UN_readStored_63 : decode c_UN_readStored 63 = .ok (.iinc 2 1, 3) := by decide +kernel
theorem d_UN_readStored_66 : decode c_UN_readStored 66 = .ok (.goto (-21), 3) := by decide +kernel
theorem d_UN_readStored_69 : decode c_UN_readStored 69 = .ok (.return_, 1) := by decide +kernel
theorem d_BR_skipToByte_0 : decode c_BR_skipToByte 0 = .ok (.aload_n 0, 1) := by decide +kernel
theorem d_BR_skipToByte_1 : decode c_BR_skipToByte 1 = .ok (.aload_n 0, 1) := by decide +kernel
theorem d_BR_skipToByte_2 : decode c_BR_skipToByte 2 = .ok (.getfield 17, 3) := by decide +kernel
theorem d_BR_skipToByte_5 : decode c_BR_skipToByte 5 = .ok (.bipush 7, 2) := by decide +kernel
theorem d_BR_skipToByte_7 : decode c_BR_skipToByte 7 = .ok (.iadd, 1) := by decide +kernel
theorem d_BR_skipToByte_8 : decode c_BR_skipToByte 8 = .ok (.bipush (-8), 2) := by decide +kernel
theorem d_BR_skipToByte_10 : decode c_BR_skipToByte 10 = .ok (.iand, 1) := by decide +kernel
theorem d_BR_skipToByte_11 : decode c_BR_skipToByte 11 = .ok (.putfield 17, 3) := by decide +kernel
theorem d_BR_skipToByte_14 : decode c_BR_skipToByte 14 = .ok (.return_, 1) := by decide +kernel
theorem d_UN_put_0 : decode c_UN_put 0 = .ok (.aload_n 0, 1) := by decide +kernel
theorem d_UN_put_1 : decode c_UN_put 1 = .ok (.getfield 52, 3) := by decide +kernel
theorem d_UN_put_4 : decode c_UN_put 4 = .ok (.sipush 16384, 3) := by decide +kernel
theorem d_UN_put_7 : decode c_UN_put 7 = .ok (.if_icmp .lt 13, 3) := by decide +kernel
theorem d_UN_put_10 : decode c_UN_put 10 = .ok (.new 180, 3) := by decide +kernel
theorem d_UN_put_13 : decode c_UN_put 13 = .ok (.dup, 1) := by decide +kernel
theorem d_UN_put_14 : decode c_UN_put 14 = .ok (.ldc 182, 2) := by decide +kernel
theorem d_UN_put_16 : decode c_UN_put 16 = .ok (.invokespecial 184, 3) := by decide +kernel
theorem d_UN_put_19 : decode c_UN_put 19 = .ok (.athrow, 1) := by decide +kernel
theorem d_UN_put_20 : decode c_UN_put 20 = .ok (.aload_n 0, 1) := by decide +kernel
theorem d_UN_put_21 : decode c_UN_put 21 = .ok (.getfield 41, 3) := by decide +kernel
theorem d_UN_put_24 : decode c_UN_put 24 = .ok (.aload_n 0, 1) := by decide +kernel
theorem d_UN_put_25 : decode c_UN_put 25 = .ok (.getfield 52, 3) := by decide +kernel
theorem d_UN_put_28 : decode c_UN_put 28 = .ok (.iload_n 1, 1) := by decide +kernel
theorem d_UN_put_29 : decode c_UN_put 29 = .ok (.i2b, 1) := by decide +kernel
theorem d_UN_put_30 : decode c_UN_put 30 = .ok (.bastore, 1) := by decide +kernel
theorem d_UN_put_31 : decode c_UN_put 31 = .ok (.aload_n 0, 1) := by decide +kernel
theorem d_UN_put_32 : decode c_UN_put 32 = .ok (.dup, 1) := by decide +kernel
theorem d_UN_put_33 : decode c_UN_put 33 = .ok (.getfield 52, 3) := by decide +kernel
theorem d_UN_put_36 : decode c_UN_put 36 = .ok (.iconst 1, 1) := by decide +kernel
theorem d_UN_put_37 : decode c_UN_put 37 = .ok (.iadd, 1) := by decide +kernel
theorem d_UN_put_38 : decode c_UN_put 38 = .ok (.putfield 52, 3) := by decide +kernel
theorem d_UN_put_41 : decode c_UN_put 41 = .ok (.return_, 1) := by decide +kernel
theorem d_UN_readCoded_0 : decode c_UN_readCoded 0 = .ok (.iconst 0, 1) := by decide +kernel
theorem d_UN_readCoded_1 : decode c_UN_readCoded 1 = .ok (.istore_n 3, 1) := by decide +kernel
theorem d_UN_readCoded_2 : decode c_UN_readCoded 2 = .ok (.iload_n 3, 1) := by decide +kernel
theorem d_UN_readCoded_3 : decode c_UN_readCoded 3 = .ok (.ldc 99, 2) := by decide +kernel
theorem d_UN_readCoded_5 : decode c_UN_readCoded 5 = .ok (.if_icmp .ge 56, 3) := by decide +kernel
theorem d_UN_readCoded_8 : decode c_UN_readCoded 8 = .ok (.aload_n 1, 1) := by decide +kernel
theorem d_UN_readCoded_9 : decode c_UN_readCoded 9 = .ok (.aload_n 0, 1) := by decide +kernel
theorem d_UN_readCoded_10 : decode c_UN_readCoded 10 = .ok (.getfield 12, 3) := by decide +kernel
theorem d_UN_readCoded_13 : decode c_UN_readCoded 13 = .ok (.invokevirtual 146, 3) := by decide +kernel
theorem d_UN_readCoded_16 : decode c_UN_readCoded 16 = .ok (.istore 4, 2) := by decide +kernel
theorem d_UN_readCoded_18 : decode c_UN_readCoded 18 = .ok (.iload 4, 2) := by decide +kernel
theorem d_UN_readCoded_20 : decode c_UN_readCoded 20 = .ok (.sipush 256, 3) := by decide +kernel
theorem d_UN_readCoded_23 : decode c_UN_readCoded 23 = .ok (.if_icmp .ne 4, 3) := by decide +kernel
theorem d_UN_readCoded_26 : decode c_UN_readCoded 26 = .ok (.return_, 1) := by decide +kernel
theorem d_UN_readCoded_27 : decode c_UN_readCoded 27 = .ok (.iload 4, 2) := by decide +kernel
theorem d_UN_readCoded_29 : decode c_UN_readCoded 29 = .ok (.sipush 256, 3) := by decide +kernel
theorem d_UN_readCoded_32 : decode c_UN_readCoded 32 = .ok (.if_icmp .ge 12, 3) := by decide +kernel
theorem d_UN_readCoded_35 : decode c_UN_readCoded 35 = .ok (.aload_n 0, 1) := by decide +kernel
theorem d_UN_readCoded_36 : decode c_UN_readCoded 36 = .ok (.iload 4, 2) := by decide +kernel
theorem d_UN_readCoded_38 : decode c_UN_readCoded 38 = .ok (.invokevirtual 119, 3) := by decide +kernel
theorem d_UN_readCoded_41 : decode c_UN_readCoded 41 = .ok (.goto 14, 3) := by decide +kernel
theorem d_UN_readCoded_44 : decode c_UN_readCoded 44 = .ok (.aload_n 0, 1) := by decide +kernel
theorem d_UN_readCoded_45 : decode c_UN_readCoded 45 = .ok (.iload 4, 2) := by decide +kernel
theorem d_UN_readCoded_47 : decode c_UN_readCoded 47 = .ok (.sipush 257, 3) := by decide +kernel
theorem d_UN_readCoded_50 : decode c_UN_readCoded 50 = .ok (.isub, 1) := by decide +kernel
theorem d_UN_readCoded_51 : decode c_UN_readCoded 51 = .ok (.aload_n 2, 1) := by decide +kernel
theorem d_UN_readCoded_52 : decode c_UN_readCoded 52 = .ok (.invokevirtual 158, 3) := by decide +kernel
theorem d_UN_readCoded_55 : decode c_UN_readCoded 55 = .ok (.iinc 3 1, 3) := by decide +kernel
theorem d_UN_readCoded_58 : decode c_UN_readCoded 58 = .ok (.goto (-56), 3) := by decide +kernel
theorem d_UN_readCoded_61 : decode c_UN_readCoded 61 = .ok (.return_, 1) := by decide +kernel
theorem d_CO_read_0 : decode c_CO_read 0 = .ok (.iconst 0, 1) := by decide +kernel
theorem d_CO_read_1 : decode c_CO_read 1 = .ok (.istore_n 2, 1) := by decide +kernel
theorem d_CO_read_2 : decode c_CO_read 2 = .ok (.iconst 0, 1) := by decide +kernel
theorem d_CO_read_3 : decode c_CO_read 3 = .ok (.istore_n 3, 1) := by decide +kernel
theorem d_CO_read_4 : decode c_CO_read 4 = .ok (.iconst 0, 1) := by decide +kernel
theorem d_CO_read_5 : decode c_CO_read 5 = .ok (.istore 4, 2) := by decide +kernel
theorem d_CO_read_7 : decode c_CO_read 7 = .ok (.iconst 1, 1) := by decide +kernel
theorem d_CO_read_8 : decode c_CO_read 8 = .ok (.istore 5, 2) := by decide +kernel
theorem d_CO_read_10 : decode c_CO_read 10 = .ok (.iload 5, 2) := by decide +kernel
theorem d_CO_read_12 : decode c_CO_read 12 = .ok (.bipush 15, 2) := by decide +kernel
theorem d_CO_read_14 : decode c_CO_read 14 = .ok (.if_icmp .gt 61, 3) := by decide +kernel
theorem d_CO_read_17 : decode c_CO_read 17 = .ok (.iconst 2, 1) := by decide +kernel
theorem d_CO_read_18 : decode c_CO_read 18 = .ok (.iload_n 2, 1) := by decide +kernel
theorem d_CO_read_19 : decode c_CO_read 19 = .ok (.imul, 1) := by decide +kernel
theorem d_CO_read_20 : decode c_CO_read 20 = .ok (.aload_n 1, 1) := by decide +kernel
theorem d_CO_read_21 : decode c_CO_read 21 = .ok (.invokevirtual 30, 3) := by decide +kernel
theorem d_CO_read_24 : decode c_CO_read 24 = .ok (.iadd, 1) := by decide +kernel
theorem d_CO_read_25 : decode c_CO_read 25 = .ok (.istore_n 2, 1) := by decide +kernel
theorem d_CO_read_26 : decode c_CO_read 26 = .ok (.aload_n 0, 1) := by decide +kernel
theorem d_CO_read_27 : decode c_CO_read 27 = .ok (.getfield 9, 3) := by decide +kernel
theorem d_CO_read_30 : decode c_CO_read 30 = .ok (.iload 5, 2) := by decide +kernel
theorem d_CO_read_32 : decode c_CO_read 32 = .ok (.iaload, 1) := by decide +kernel
theorem d_CO_read_33 : decode c_CO_read 33 = .ok (.istore 6, 2) := by decide +kernel
theorem d_CO_read_35 : decode c_CO_read 35 = .ok (.iload_n 2, 1) := by decide +kernel
theorem d_CO_read_36 : decode c_CO_read 36 = .ok (.iload_n 3, 1) := by decide +kernel
theorem d_CO_read_37 : decode c_CO_read 37 = .ok (.isub, 1) := by decide +kernel
theorem d_CO_read_38 : decode c_CO_read 38 = .ok (.iload 6, 2) := by decide +kernel
theorem d_CO_read_40 : decode c_CO_read 40 = .ok (.if_icmp .ge 15, 3) := by decide +kernel
theorem d_CO_read_43 : decode c_CO_read 43 = .ok (.aload_n 0, 1) := by decide +kernel
theorem d_CO_read_44 : decode c_CO_read 44 = .ok (.getfield 13, 3) := by decide +kernel
theorem d_CO_read_47 : decode c_CO_read 47 = .ok (.iload 4, 2) := by decide +kernel
theorem d_CO_read_49 : decode c_CO_read 49 = .ok (.iload_n 2, 1) := by decide +kernel
theorem d_CO_read_50 : decode c_CO_read 50 = .ok (.iadd, 1) := by decide +kernel
theorem d_CO_read_51 : decode c_CO_read 51 = .ok (.iload_n 3, 1) := by decide +kernel
theorem d_CO_read_52 : decode c_CO_read 52 = .ok (.isub, 1) := by decide +kernel
theorem d_CO_read_53 : decode c_CO_read 53 = .ok (.iaload, 1) := by decide +kernel
theorem d_CO_read_54 : decode c_CO_read 54 = .ok (.ireturn, 1) := by decide +kernel
theorem d_CO_read_55 : decode c_CO_read 55 = .ok (.iload 4, 2) := by decide +kernel
theorem d_CO_read_57 : decode c_CO_read 57 = .ok (.iload 6, 2) := by decide +kernel
theorem d_CO_read_59 : decode c_CO_read 59 = .ok (.iadd, 1) := by decide +kernel
theorem d_CO_read_60 : decode c_CO_read 60 = .ok (.istore 4, 2) := by decide +kernel
theorem d_CO_read_62 : decode c_CO_read 62 = .ok (.iconst 2, 1) := by decide +kernel
theorem d_CO_read_63 : decode c_CO_read 63 = .ok (.iload_n 3, 1) := by decide +kernel
theorem d_CO_read_64 : decode c_CO_read 64 = .ok (.iload 6, 2) := by decide +kernel
theorem d_CO_read_66 : decode c_CO_read 66 = .ok (.iadd, 1) := by decide +kernel
theorem d_CO_read_67 : decode c_CO_read 67 = .ok (.imul, 1) := by decide +kernel
theorem d_CO_read_68 : decode c_CO_read 68 = .ok (.istore_n 3, 1) := by decide +kernel
theorem d_CO_read_69 : decode c_CO_read 69 = .ok (.iinc 5 1, 3) := by decide +kernel
theorem d_CO_read_72 : decode c_CO_read 72 = .ok (.goto (-62), 3) := by decide +kernel
theorem d_CO_read_75 : decode c_CO_read 75 = .ok (.new 36, 3) := by decide +kernel
theorem d_CO_read_78 : decode c_CO_read 78 = .ok (.dup, 1) := by decide +kernel
theorem d_CO_read_79 : decode c_CO_read 79 = .ok (.ldc 38, 2) := by decide +kernel
theorem d_CO_read_81 : decode c_CO_read 81 = .ok (.invokespecial 40, 3) := by decide +kernel
theorem d_CO_read_84 : decode c_CO_read 84 = .ok (.athrow, 1) := by decide +kernel
theorem d_UN_readCopy_0 : decode c_UN_readCopy 0 = .ok (.iload_n 1, 1) := by decide +kernel
theorem d_UN_readCopy_1 : decode c_UN_readCopy 1 = .ok (.getstatic 162, 3) := by decide +kernel
theorem d_UN_readCopy_4 : decode c_UN_readCopy 4 = .ok (.arraylength, 1) := by decide +kernel
theorem d_UN_readCopy_5 : decode c_UN_readCopy 5 = .ok (.if_icmp .lt 13, 3) := by decide +kernel
theorem d_UN_readCopy_8 : decode c_UN_readCopy 8 = .ok (.new 79, 3) := by decide +kernel
theorem d_UN_readCopy_11 : decode c_UN_readCopy 11 = .ok (.dup, 1) := by decide +kernel
theorem d_UN_readCopy_12 : decode c_UN_readCopy 12 = .ok (.ldc 165, 2) := by decide +kernel
theorem d_UN_readCopy_14 : decode c_UN_readCopy 14 = .ok (.invokespecial 83, 3) := by decide +kernel
theorem d_UN_readCopy_17 : decode c_UN_readCopy 17 = .ok (.athrow, 1) := by decide +kernel
theorem d_UN_readCopy_18 : decode c_UN_readCopy 18 = .ok (.getstatic 162, 3) := by decide +kernel
theorem d_UN_readCopy_21 : decode c_UN_readCopy 21 = .ok (.iload_n 1, 1) := by decide +kernel
theorem d_UN_readCopy_22 : decode c_UN_readCopy 22 = .ok (.iaload, 1) := by decide +kernel
theorem d_UN_readCopy_23 : decode c_UN_readCopy 23 = .ok (.aload_n 0, 1) := by decide +kernel
theorem d_UN_readCopy_24 : decode c_UN_readCopy 24 = .ok (.getfield 12, 3) := by decide +kernel
theorem d_UN_readCopy_27 : decode c_UN_readCopy 27 = .ok (.getstatic 167, 3) := by decide +kernel
theorem d_UN_readCopy_30 : decode c_UN_readCopy 30 = .ok (.iload_n 1, 1) := by decide +kernel
theorem d_UN_readCopy_31 : decode c_UN_readCopy 31 = .ok (.iaload, 1) := by decide +kernel
theorem d_UN_readCopy_32 : decode c_UN_readCopy 32 = .ok (.invokevirtual 75, 3) := by decide +kernel
theorem d_UN_readCopy_35 : decode c_UN_readCopy 35 = .ok (.iadd, 1) := by decide +kernel
theorem d_UN_readCopy_36 : decode c_UN_readCopy 36 = .ok (.istore_n 3, 1) := by decide +kernel
theorem d_UN_readCopy_37 : decode c_UN_readCopy 37 = .ok (.aload_n 2, 1) := by decide +kernel
theorem d_UN_readCopy_38 : decode c_UN_readCopy 38 = .ok (.aload_n 0, 1) := by decide +kernel
theorem d_UN_readCopy_39 : decode c_UN_readCopy 39 = .ok (.getfield 12, 3) := by decide +kernel
theorem d_UN_readCopy_42 : decode c_UN_readCopy 42 = .ok (.invokevirtual 146, 3) := by decide +kernel
theorem d_UN_readCopy_45 : decode c_UN_readCopy 45 = .ok (.istore 4, 2) := by decide +kernel
theorem d_UN_readCopy_47 : decode c_UN_readCopy 47 = .ok (.iload 4, 2) := by decide +kernel
theorem d_UN_readCopy_49 : decode c_UN_readCopy 49 = .ok (.getstatic 170, 3) := by decide +kernel
theorem d_UN_readCopy_52 : decode c_UN_readCopy 52 = .ok (.arraylength, 1) := by decide +kernel
theorem d_UN_readCopy_53 : decode c_UN_readCopy 53 = .ok (.if_icmp .lt 13, 3) := by decide +kernel
theorem d_UN_readCopy_56 : decode c_UN_readCopy 56 = .ok (.new 79, 3) := by decide +kernel
theorem d_UN_readCopy_59 : decode c_UN_readCopy 59 = .ok (.dup, 1) := by decide +kernel
theorem d_UN_readCopy_60 : decode c_UN_readCopy 60 = .ok (.ldc 173, 2) := by decide +kernel
theorem d_UN_readCopy_62 : decode c_UN_readCopy 62 = .ok (.invokespecial 83, 3) := by decide +kernel
theorem d_UN_readCopy_65 : decode c_UN_readCopy 65 = .ok (.athrow, 1) := by decide +kernel
theorem d_UN_readCopy_66 : decode c_UN_readCopy 66 = .ok (.getstatic 170, 3) := by decide +kernel
theorem d_UN_readCopy_69 : decode c_UN_readCopy 69 = .ok (.iload 4, 2) := by decide +kernel
theorem d_UN_readCopy_71 : decode c_UN_readCopy 71 = .ok (.iaload, 1) := by decide +kernel
theorem d_UN_readCopy_72 : decode c_UN_readCopy 72 = .ok (.aload_n 0, 1) := by decide +kernel
theorem d_UN_readCopy_73 : decode c_UN_readCopy 73 = .ok (.getfield 12, 3) := by decide +kernel
theorem d_UN_readCopy_76 : decode c_UN_readCopy 76 = .ok (.getstatic 175, 3) := by decide +kernel
theorem d_UN_readCopy_79 : decode c_UN_readCopy 79 = .ok (.iload 4, 2) := by decide +kernel
theorem d_UN_readCopy_81 : decode c_UN_readCopy 81 = .ok (.iaload, 1) := by decide +kernel
theorem d_UN_readCopy_82 : decode c_UN_readCopy 82 = .ok (.invokevirtual 75, 3) := by decide +kernel
theorem d_UN_readCopy_85 : decode c_UN_readCopy 85 = .ok (.iadd, 1) := by decide +kernel
theorem d_UN_readCopy_86 : decode c_UN_readCopy 86 = .ok (.istore 5, 2) := by decide +kernel
theorem d_UN_readCopy_88 : decode c_UN_readCopy 88 = .ok (.iload 5, 2) := by decide +kernel
theorem d_UN_readCopy_90 : decode c_UN_readCopy 90 = .ok (.aload_n 0, 1) := by decide +kernel
theorem d_UN_readCopy_91 : decode c_UN_readCopy 91 = .ok (.getfield 52, 3) := by decide +kernel
theorem d_UN_readCopy_94 : decode c_UN_readCopy 94 = .ok (.if_icmp .le 13, 3) := by decide +kernel
theorem d_UN_readCopy_97 : decode c_UN_readCopy 97 = .ok (.new 79, 3) := by decide +kernel
theorem d_UN_readCopy_100 : decode c_UN_readCopy 100 = .ok (.dup, 1) := by decide +kernel
theorem d_UN_readCopy_101 : decode c_UN_readCopy 101 = .ok (.ldc 178, 2) := by decide +kernel
theorem d_UN_readCopy_103 : decode c_UN_readCopy 103 = .ok (.invokespecial 83, 3) := by decide +kernel
theorem d_UN_readCopy_106 : decode c_UN_readCopy 106 = .ok (.athrow, 1) := by decide +kernel
theorem d_UN_readCopy_107 : decode c_UN_readCopy 107 = .ok (.iconst 0, 1) := by decide +kernel
theorem d_UN_readCopy_108 : decode c_UN_readCopy 108 = .ok (.istore 6, 2) := by decide +kernel
theorem d_UN_readCopy_110 : decode c_UN_readCopy 110 = .ok (.iload 6, 2) := by decide +kernel
theorem d_UN_readCopy_112 : decode c_UN_readCopy 112 = .ok (.iload_n 3, 1) := by decide +kernel
theorem d_UN_readCopy_113 : decode c_UN_readCopy 113 = .ok (.if_icmp .ge 25, 3) := by decide +kernel
theorem d_UN_readCopy_116 : decode c_UN_readCopy 116 = .ok (.aload_n 0, 1) := by decide +kernel
theorem d_UN_readCopy_117 : decode c_UN_readCopy 117 = .ok (.aload_n 0, 1) := by decide +kernel
theorem d_UN_readCopy_118 : decode c_UN_readCopy 118 = .ok (.getfield 41, 3) := by decide +kernel
theorem d_UN_readCopy_121 : decode c_UN_readCopy 121 = .ok (.aload_n 0, 1) := by decide +kernel
theorem d_UN_readCopy_122 : decode c_UN_readCopy 122 = .ok (.getfield 52, 3) := by decide +kernel
theorem d_UN_readCopy_125 : decode c_UN_readCopy 125 = .ok (.iload 5, 2) := by decide +kernel
theorem d_UN_readCopy_127 : decode c_UN_readCopy 127 = .ok (.isub, 1) := by decide +kernel
theorem d_UN_readCopy_128 : decode c_UN_readCopy 128 = .ok (.baload, 1) := by decide +kernel
theorem d_UN_readCopy_129 : decode c_UN_readCopy 129 = .ok (.invokevirtual 119, 3) := by decide +kernel
theorem d_UN_readCopy_132 : decode c_UN_readCopy 132 = .ok (.iinc 6 1, 3) := by decide +kernel
theorem d_UN_readCopy_135 : decode c_UN_readCopy 135 = .ok (.goto (-25), 3) := by decide +kernel
theorem d_UN_readCopy_138 : decode c_UN_readCopy 138 = .ok (.return_, 1) := by decide +kernel
theorem d_UN_readToldCodes_0 : decode c_UN_readToldCodes 0 = .ok (.aload_n 0, 1) := by decide +kernel
theorem d_UN_readToldCodes_1 : decode c_UN_readToldCodes 1 = .ok (.getfield 12, 3) := by decide +kernel
theorem d_UN_readToldCodes_4 : decode c_UN_readToldCodes 4 = .ok (.iconst 5, 1) := by decide +kernel
theorem d_UN_readToldCodes_5 : decode c_UN_readToldCodes 5 = .ok (.invokevirtual 75, 3) := by decide +kernel
theorem d_UN_readToldCodes_8 : decode c_UN_readToldCodes 8 = .ok (.sipush 257, 3) := by decide +kernel
theorem d_UN_readToldCodes_11 : decode c_UN_readToldCodes 11 = .ok (.iadd, 1) := by decide +kernel
theorem d_UN_readToldCodes_12 : decode c_UN_readToldCodes 12 = .ok (.istore_n 1, 1) := by decide +kernel
theorem d_UN_readToldCodes_13 : decode c_UN_readToldCodes 13 = .ok (.aload_n 0, 1) := by decide +kernel
theorem d_UN_readToldCodes_14 : decode c_UN_readToldCodes 14 = .ok (.getfield 12, 3) := by decide +kernel
theorem d_UN_readToldCodes_17 : decode c_UN_readToldCodes 17 = .ok (.iconst 5, 1) := by decide +kernel
theorem d_UN_readToldCodes_18 : decode c_UN_readToldCodes 18 = .ok (.invokevirtual 75, 3) := by decide +kernel
theorem d_UN_readToldCodes_21 : decode c_UN_readToldCodes 21 = .ok (.iconst 1, 1) := by decide +kernel
theorem d_UN_readToldCodes_22 : decode c_UN_readToldCodes 22 = .ok (.iadd, 1) := by decide +kernel
theorem d_UN_readToldCodes_23 : decode c_UN_readToldCodes 23 = .ok (.istore_n 2, 1) := by decide +kernel
theorem d_UN_readToldCodes_24 : decode c_UN_readToldCodes 24 = .ok (.aload_n 0, 1) := by decide +kernel
theorem d_UN_readToldCodes_25 : decode c_UN_readToldCodes 25 = .ok (.getfield 12, 3) := by decide +kernel
theorem d_UN_readToldCodes_28 : decode c_UN_readToldCodes 28 = .ok (.iconst 4, 1) := by decide +kernel
theorem d_UN_readToldCodes_29 : decode c_UN_readToldCodes 29 = .ok (.invokevirtual 75, 3) := by decide +kernel
theorem d_UN_readToldCodes_32 : decode c_UN_readToldCodes 32 = .ok (.iconst 4, 1) := by decide +kernel
theorem d_UN_readToldCodes_33 : decode c_UN_readToldCodes 33 = .ok (.iadd, 1) := by decide +kernel
theorem d_UN_readToldCodes_34 : decode c_UN_readToldCodes 34 = .ok (.istore_n 3, 1) := by decide +kernel
theorem d_UN_readToldCodes_35 : decode c_UN_readToldCodes 35 = .ok (.iload_n 1, 1) := by decide +kernel
theorem d_UN_readToldCodes_36 : decode c_UN_readToldCodes 36 = .ok (.sipush 286, 3) := by decide +kernel
theorem d_UN_readToldCodes_39 : decode c_UN_readToldCodes 39 = .ok (.if_icmp .gt 9, 3) := by decide +kernel
theorem d_UN_readToldCodes_42 : decode c_UN_readToldCodes 42 = .ok (.iload_n 2, 1) := by decide +kernel
theorem d_UN_readToldCodes_43 : decode c_UN_readToldCodes 43 = .ok (.bipush 30, 2) := by decide +kernel
theorem d_UN_readToldCodes_45 : decode c_UN_readToldCodes 45 = .ok (.if_icmp .le 13, 3) := by decide +kernel
theorem d_UN_readToldCodes_48 : decode c_UN_readToldCodes 48 = .ok (.new 79, 3) := by decide +kernel
theorem d_UN_readToldCodes_51 : decode c_UN_readToldCodes 51 = .ok (.dup, 1) := by decide +kernel
theorem d_UN_readToldCodes_52 : decode c_UN_readToldCodes 52 = .ok (.ldc 123, 2) := by decide +kernel
theorem d_UN_readToldCodes_54 : decode c_UN_readToldCodes 54 = .ok (.invokespecial 83, 3) := by decide +kernel
theorem d_UN_readToldCodes_57 : decode c_UN_readToldCodes 57 = .ok (.athrow, 1) := by decide +kernel
theorem d_UN_readToldCodes_58 : decode c_UN_readToldCodes 58 = .ok (.aload_n 0, 1) := by decide +kernel
theorem d_UN_readToldCodes_59 : decode c_UN_readToldCodes 59 = .ok (.iload_n 3, 1) := by decide +kernel
theorem d_UN_readToldCodes_60 : decode c_UN_readToldCodes 60 = .ok (.invokevirtual 125, 3) := by decide +kernel
theorem d_UN_readToldCodes_63 : decode c_UN_readToldCodes 63 = .ok (.aload_n 0, 1) := by decide +kernel
theorem d_UN_readToldCodes_64 : decode c_UN_readToldCodes 64 = .ok (.iload_n 1, 1) := by decide +kernel
theorem d_UN_readToldCodes_65 : decode c_UN_readToldCodes 65 = .ok (.iload_n 2, 1) := by decide +kernel
theorem d_UN_readToldCodes_66 : decode c_UN_readToldCodes 66 = .ok (.iadd, 1) := by decide +kernel
theorem d_UN_readToldCodes_67 : decode c_UN_readToldCodes 67 = .ok (.invokevirtual 128, 3) := by decide +kernel
theorem d_UN_readToldCodes_70 : decode c_UN_readToldCodes 70 = .ok (.aload_n 0, 1) := by decide +kernel
theorem d_UN_readToldCodes_71 : decode c_UN_readToldCodes 71 = .ok (.getfield 28, 3) := by decide +kernel
theorem d_UN_readToldCodes_74 : decode c_UN_readToldCodes 74 = .ok (.aload_n 0, 1) := by decide +kernel
theorem d_UN_readToldCodes_75 : decode c_UN_readToldCodes 75 = .ok (.getfield 37, 3) := by decide +kernel
theorem d_UN_readToldCodes_78 : decode c_UN_readToldCodes 78 = .ok (.iconst 0, 1) := by decide +kernel
theorem d_UN_readToldCodes_79 : decode c_UN_readToldCodes 79 = .ok (.iload_n 1, 1) := by decide +kernel
theorem d_UN_readToldCodes_80 : decode c_UN_readToldCodes 80 = .ok (.invokevirtual 65, 3) := by decide +kernel
theorem d_UN_readToldCodes_83 : decode c_UN_readToldCodes 83 = .ok (.aload_n 0, 1) := by decide +kernel
theorem d_UN_readToldCodes_84 : decode c_UN_readToldCodes 84 = .ok (.getfield 31, 3) := by decide +kernel
theorem d_UN_readToldCodes_87 : decode c_UN_readToldCodes 87 = .ok (.aload_n 0, 1) := by decide +kernel
theorem d_UN_readToldCodes_88 : decode c_UN_readToldCodes 88 = .ok (.getfield 37, 3) := by decide +kernel
theorem d_UN_readToldCodes_91 : decode c_UN_readToldCodes 91 = .ok (.iload_n 1, 1) := by decide +kernel
theorem d_UN_readToldCodes_92 : decode c_UN_readToldCodes 92 = .ok (.iload_n 2, 1) := by decide +kernel
theorem d_UN_readToldCodes_93 : decode c_UN_readToldCodes 93 = .ok (.invokevirtual 65, 3) := by decide +kernel
theorem d_UN_readToldCodes_96 : decode c_UN_readToldCodes 96 = .ok (.aload_n 0, 1) := by decide +kernel
theorem d_UN_readToldCodes_97 : decode c_UN_readToldCodes 97 = .ok (.getfield 37, 3) := by decide +kernel
theorem d_UN_readToldCodes_100 : decode c_UN_readToldCodes 100 = .ok (.sipush 256, 3) := by decide +kernel
theorem d_UN_readToldCodes_103 : decode c_UN_readToldCodes 103 = .ok (.iaload, 1) := by decide +kernel
theorem d_UN_readToldCodes_104 : decode c_UN_readToldCodes 104 = .ok (.ifCond .eq 13, 3) := by decide +kernel
theorem d_UN_readToldCodes_107 : decode c_UN_readToldCodes 107 = .ok (.aload_n 0, 1) := by decide +kernel
theorem d_UN_readToldCodes_108 : decode c_UN_readToldCodes 108 = .ok (.getfield 28, 3) := by decide +kernel
theorem d_UN_readToldCodes_111 : decode c_UN_readToldCodes 111 = .ok (.invokevirtual 131, 3) := by decide +kernel
theorem d_UN_readToldCodes_114 : decode c_UN_readToldCodes 114 = .ok (.ifCond .ne 13, 3) := by decide +kernel
theorem d_UN_readToldCodes_117 : decode c_UN_readToldCodes 117 = .ok (.new 79, 3) := by decide +kernel
theorem d_UN_readToldCodes_120 : decode c_UN_readToldCodes 120 = .ok (.dup, 1) := by decide +kernel
theorem d_UN_readToldCodes_121 : decode c_UN_readToldCodes 121 = .ok (.ldc 134, 2) := by decide +kernel
theorem d_UN_readToldCodes_123 : decode c_UN_readToldCodes 123 = .ok (.invokespecial 83, 3) := by decide +kernel
theorem d_UN_readToldCodes_126 : decode c_UN_readToldCodes 126 = .ok (.athrow, 1) := by decide +kernel
theorem d_UN_readToldCodes_127 : decode c_UN_readToldCodes 127 = .ok (.aload_n 0, 1) := by decide +kernel
theorem d_UN_readToldCodes_128 : decode c_UN_readToldCodes 128 = .ok (.getfield 31, 3) := by decide +kernel
theorem d_UN_readToldCodes_131 : decode c_UN_readToldCodes 131 = .ok (.invokevirtual 131, 3) := by decide +kernel
theorem d_UN_readToldCodes_134 : decode c_UN_readToldCodes 134 = .ok (.ifCond .ne 23, 3) := by decide +kernel
theorem d_UN_readToldCodes_137 : decode c_UN_readToldCodes 137 = .ok (.aload_n 0, 1) := by decide +kernel
theorem d_UN_readToldCodes_138 : decode c_UN_readToldCodes 138 = .ok (.getfield 31, 3) := by decide +kernel
theorem d_UN_readToldCodes_141 : decode c_UN_readToldCodes 141 = .ok (.invokevirtual 136, 3) := by decide +kernel
theorem d_UN_readToldCodes_144 : decode c_UN_readToldCodes 144 = .ok (.ifCond .ne 13, 3) := by decide +kernel
theorem d_UN_readToldCodes_147 : decode c_UN_readToldCodes 147 = .ok (.new 79, 3) := by decide +kernel
theorem d_UN_readToldCodes_150 : decode c_UN_readToldCodes 150 = .ok (.dup, 1) := by decide +kernel
theorem d_UN_readToldCodes_151 : decode c_UN_readToldCodes 151 = .ok (.ldc 139, 2) := by decide +kernel
theorem d_UN_readToldCodes_153 : decode c_UN_readToldCodes 153 = .ok (.invokespecial 83, 3) := by decide +kernel
theorem d_UN_readToldCodes_156 : decode c_UN_readToldCodes 156 = .ok (.athrow, 1) := by decide +kernel
theorem d_UN_readToldCodes_157 : decode c_UN_readToldCodes 157 = .ok (.return_, 1) := by decide +kernel
theorem d_UN_readLengthCodes_0 : decode c_UN_readLengthCodes 0 = .ok (.aload_n 0, 1) := by decide +kernel
theorem d_UN_readLengthCodes_1 : decode c_UN_readLengthCodes 1 = .ok (.getfield 37, 3) := by decide +kernel
theorem d_UN_readLengthCodes_4 : decode c_UN_readLengthCodes 4 = .ok (.iconst 0, 1) := by decide +kernel
theorem d_UN_readLengthCodes_5 : decode c_UN_readLengthCodes 5 = .ok (.invokestatic 69, 3) := by decide +kernel
theorem d_UN_readLengthCodes_8 : decode c_UN_readLengthCodes 8 = .ok (.iconst 0, 1) := by decide +kernel
theorem d_UN_readLengthCodes_9 : decode c_UN_readLengthCodes 9 = .ok (.istore_n 2, 1) := by decide +kernel
theorem d_UN_readLengthCodes_10 : decode c_UN_readLengthCodes 10 = .ok (.iload_n 2, 1) := by decide +kernel
theorem d_UN_readLengthCodes_11 : decode c_UN_readLengthCodes 11 = .ok (.iload_n 1, 1) := by decide +kernel
theorem d_UN_readLengthCodes_12 : decode c_UN_readLengthCodes 12 = .ok (.if_icmp .ge 27, 3) := by decide +kernel
theorem d_UN_readLengthCodes_15 : decode c_UN_readLengthCodes 15 = .ok (.aload_n 0, 1) := by decide +kernel
theorem d_UN_readLengthCodes_16 : decode c_UN_readLengthCodes 16 = .ok (.getfield 37, 3) := by decide +kernel
theorem d_UN_readLengthCodes_19 : decode c_UN_readLengthCodes 19 = .ok (.getstatic 141, 3) := by decide +kernel
theorem d_UN_readLengthCodes_22 : decode c_UN_readLengthCodes 22 = .ok (.iload_n 2, 1) := by decide +kernel
theorem d_UN_readLengthCodes_23 : decode c_UN_readLengthCodes 23 = .ok (.iaload, 1) := by decide +kernel
theorem d_UN_readLengthCodes_24 : decode c_UN_readLengthCodes 24 = .ok (.aload_n 0, 1) := by decide +kernel
theorem d_UN_readLengthCodes_25 : decode c_UN_readLengthCodes 25 = .ok (.getfield 12, 3) := by decide +kernel
theorem d_UN_readLengthCodes_28 : decode c_UN_readLengthCodes 28 = .ok (.iconst 3, 1) := by decide +kernel
theorem d_UN_readLengthCodes_29 : decode c_UN_readLengthCodes 29 = .ok (.invokevirtual 75, 3) := by decide +kernel
theorem d_UN_readLengthCodes_32 : decode c_UN_readLengthCodes 32 = .ok (.iastore, 1) := by decide +kernel
theorem d_UN_readLengthCodes_33 : decode c_UN_readLengthCodes 33 = .ok (.iinc 2 1, 3) := by decide +kernel
theorem d_UN_readLengthCodes_36 : decode c_UN_readLengthCodes 36 = .ok (.goto (-26), 3) := by decide +kernel
theorem d_UN_readLengthCodes_39 : decode c_UN_readLengthCodes 39 = .ok (.aload_n 0, 1) := by decide +kernel
theorem d_UN_readLengthCodes_40 : decode c_UN_readLengthCodes 40 = .ok (.getfield 34, 3) := by decide +kernel
theorem d_UN_readLengthCodes_43 : decode c_UN_readLengthCodes 43 = .ok (.aload_n 0, 1) := by decide +kernel
theorem d_UN_readLengthCodes_44 : decode c_UN_readLengthCodes 44 = .ok (.getfield 37, 3) := by decide +kernel
theorem d_UN_readLengthCodes_47 : decode c_UN_readLengthCodes 47 = .ok (.iconst 0, 1) := by decide +kernel
theorem d_UN_readLengthCodes_48 : decode c_UN_readLengthCodes 48 = .ok (.bipush 19, 2) := by decide +kernel
theorem d_UN_readLengthCodes_50 : decode c_UN_readLengthCodes 50 = .ok (.invokevirtual 65, 3) := by decide +kernel
theorem d_UN_readLengthCodes_53 : decode c_UN_readLengthCodes 53 = .ok (.aload_n 0, 1) := by decide +kernel
theorem d_UN_readLengthCodes_54 : decode c_UN_readLengthCodes 54 = .ok (.getfield 34, 3) := by decide +kernel
theorem d_UN_readLengthCodes_57 : decode c_UN_readLengthCodes 57 = .ok (.invokevirtual 131, 3) := by decide +kernel
theorem d_UN_readLengthCodes_60 : decode c_UN_readLengthCodes 60 = .ok (.ifCond .ne 13, 3) := by decide +kernel
theorem d_UN_readLengthCodes_63 : decode c_UN_readLengthCodes 63 = .ok (.new 79, 3) := by decide +kernel
theorem d_UN_readLengthCodes_66 : decode c_UN_readLengthCodes 66 = .ok (.dup, 1) := by decide +kernel
theorem d_UN_readLengthCodes_67 : decode c_UN_readLengthCodes 67 = .ok (.ldc 144, 2) := by decide +kernel
theorem d_UN_readLengthCodes_69 : decode c_UN_readLengthCodes 69 = .ok (.invokespecial 83, 3) := by decide +kernel
theorem d_UN_readLengthCodes_72 : decode c_UN_readLengthCodes 72 = .ok (.athrow, 1) := by decide +kernel
theorem d_UN_readLengthCodes_73 : decode c_UN_readLengthCodes 73 = .ok (.return_, 1) := by decide +kernel
theorem d_CO_useAllWords_0 : decode c_CO_useAllWords 0 = .ok (.aload_n 0, 1) := by decide +kernel
theorem d_CO_useAllWords_1 : decode c_CO_useAllWords 1 = .ok (.getfield 25, 3) := by decide +kernel
theorem d_CO_useAllWords_4 : decode c_CO_useAllWords 4 = .ok (.ldc 29, 2) := by decide +kernel
theorem d_CO_useAllWords_6 : decode c_CO_useAllWords 6 = .ok (.if_icmp .ne 7, 3) := by decide +kernel
theorem d_CO_useAllWords_9 : decode c_CO_useAllWords 9 = .ok (.iconst 1, 1) := by decide +kernel
theorem d_CO_useAllWords_10 : decode c_CO_useAllWords 10 = .ok (.goto 4, 3) := by decide +kernel
theorem d_CO_useAllWords_13 : decode c_CO_useAllWords 13 = .ok (.iconst 0, 1) := by decide +kernel
theorem d_CO_useAllWords_14 : decode c_CO_useAllWords 14 = .ok (.ireturn, 1) := by decide +kernel
theorem d_UN_readLengths_0 : decode c_UN_readLengths 0 = .ok (.iconst 0, 1) := by decide +kernel
theorem d_UN_readLengths_1 : decode c_UN_readLengths 1 = .ok (.istore_n 2, 1) := by decide +kernel
theorem d_UN_readLengths_2 : decode c_UN_readLengths 2 = .ok (.iconst 0, 1) := by decide +kernel
theorem d_UN_readLengths_3 : decode c_UN_readLengths 3 = .ok (.istore_n 3, 1) := by decide +kernel
theorem d_UN_readLengths_4 : decode c_UN_readLengths 4 = .ok (.iload_n 3, 1) := by decide +kernel
theorem d_UN_readLengths_5 : decode c_UN_readLengths 5 = .ok (.iload_n 1, 1) := by decide +kernel
theorem d_UN_readLengths_6 : decode c_UN_readLengths 6 = .ok (.if_icmp .ge 57, 3) := by decide +kernel
theorem d_UN_readLengths_9 : decode c_UN_readLengths 9 = .ok (.iload_n 2, 1) := by decide +kernel
theorem d_UN_readLengths_10 : decode c_UN_readLengths 10 = .ok (.iload_n 1, 1) := by decide +kernel
theorem d_UN_readLengths_11 : decode c_UN_readLengths 11 = .ok (.if_icmp .ge 52, 3) := by decide +kernel
theorem d_UN_readLengths_14 : decode c_UN_readLengths 14 = .ok (.aload_n 0, 1) := by decide +kernel
theorem d_UN_readLengths_15 : decode c_UN_readLengths 15 = .ok (.getfield 34, 3) := by decide +kernel
theorem d_UN_readLengths_18 : decode c_UN_readLengths 18 = .ok (.aload_n 0, 1) := by decide +kernel
theorem d_UN_readLengths_19 : decode c_UN_readLengths 19 = .ok (.getfield 12, 3) := by decide +kernel
theorem d_UN_readLengths_22 : decode c_UN_readLengths 22 = .ok (.invokevirtual 146, 3) := by decide +kernel
theorem d_UN_readLengths_25 : decode c_UN_readLengths 25 = .ok (.istore 4, 2) := by decide +kernel
theorem d_UN_readLengths_27 : decode c_UN_readLengths 27 = .ok (.iload 4, 2) := by decide +kernel
theorem d_UN_readLengths_29 : decode c_UN_readLengths 29 = .ok (.bipush 16, 2) := by decide +kernel
theorem d_UN_readLengths_31 : decode c_UN_readLengths 31 = .ok (.if_icmp .ge 17, 3) := by decide +kernel
theorem d_UN_readLengths_34 : decode c_UN_readLengths 34 = .ok (.aload_n 0, 1) := by decide +kernel
theorem d_UN_readLengths_35 : decode c_UN_readLengths 35 = .ok (.getfield 37, 3) := by decide +kernel
theorem d_UN_readLengths_38 : decode c_UN_readLengths 38 = .ok (.iload_n 2, 1) := by decide +kernel
theorem d_UN_readLengths_39 : decode c_UN_readLengths 39 = .ok (.iload 4, 2) := by decide +kernel
theorem d_UN_readLengths_41 : decode c_UN_readLengths 41 = .ok (.iastore, 1) := by decide +kernel
theorem d_UN_readLengths_42 : decode c_UN_readLengths 42 = .ok (.iinc 2 1, 3) := by decide +kernel
theorem d_UN_readLengths_45 : decode c_UN_readLengths 45 = .ok (.goto 12, 3) := by decide +kernel
theorem d_UN_readLengths_48 : decode c_UN_readLengths 48 = .ok (.aload_n 0, 1) := by decide +kernel
theorem d_UN_readLengths_49 : decode c_UN_readLengths 49 = .ok (.iload 4, 2) := by decide +kernel
theorem d_UN_readLengths_51 : decode c_UN_readLengths 51 = .ok (.iload_n 2, 1) := by decide +kernel
theorem d_UN_readLengths_52 : decode c_UN_readLengths 52 = .ok (.iload_n 1, 1) := by decide +kernel
theorem d_UN_readLengths_53 : decode c_UN_readLengths 53 = .ok (.invokevirtual 150, 3) := by decide +kernel
theorem d_UN_readLengths_56 : decode c_UN_readLengths 56 = .ok (.istore_n 2, 1) := by decide +kernel
theorem d_UN_readLengths_57 : decode c_UN_readLengths 57 = .ok (.iinc 3 1, 3) := by decide +kernel
theorem d_UN_readLengths_60 : decode c_UN_readLengths 60 = .ok (.goto (-56), 3) := by decide +kernel
theorem d_UN_readLengths_63 : decode c_UN_readLengths 63 = .ok (.return_, 1) := by decide +kernel
theorem d_UN_readRun_0 : decode c_UN_readRun 0 = .ok (.iload_n 1, 1) := by decide +kernel
theorem d_UN_readRun_1 : decode c_UN_readRun 1 = .ok (.bipush 16, 2) := by decide +kernel
theorem d_UN_readRun_3 : decode c_UN_readRun 3 = .ok (.if_icmp .ne 17, 3) := by decide +kernel
theorem d_UN_readRun_6 : decode c_UN_readRun 6 = .ok (.iload_n 2, 1) := by decide +kernel
theorem d_UN_readRun_7 : decode c_UN_readRun 7 = .ok (.ifCond .ne 13, 3) := by decide +kernel
theorem d_UN_readRun_10 : decode c_UN_readRun 10 = .ok (.new 79, 3) := by decide +kernel
theorem d_UN_readRun_13 : decode c_UN_readRun 13 = .ok (.dup, 1) := by decide +kernel
theorem d_UN_readRun_14 : decode c_UN_readRun 14 = .ok (.ldc 154, 2) := by decide +kernel
theorem d_UN_readRun_16 : decode c_UN_readRun 16 = .ok (.invokespecial 83, 3) := by decide +kernel
theorem d_UN_readRun_19 : decode c_UN_readRun 19 = .ok (.athrow, 1) := by decide +kernel
theorem d_UN_readRun_20 : decode c_UN_readRun 20 = .ok (.iconst 0, 1) := by decide +kernel
theorem d_UN_readRun_21 : decode c_UN_readRun 21 = .ok (.istore 4, 2) := by decide +kernel
theorem d_UN_readRun_23 : decode c_UN_readRun 23 = .ok (.iload_n 1, 1) := by decide +kernel
theorem d_UN_readRun_24 : decode c_UN_readRun 24 = .ok (.bipush 16, 2) := by decide +kernel
theorem d_UN_readRun_26 : decode c_UN_readRun 26 = .ok (.if_icmp .ne 28, 3) := by decide +kernel
theorem d_UN_readRun_29 : decode c_UN_readRun 29 = .ok (.aload_n 0, 1) := by decide +kernel
theorem d_UN_readRun_30 : decode c_UN_readRun 30 = .ok (.getfield 37, 3) := by decide +kernel
theorem d_UN_readRun_33 : decode c_UN_readRun 33 = .ok (.iload_n 2, 1) := by decide +kernel
theorem d_UN_readRun_34 : decode c_UN_readRun 34 = .ok (.iconst 1, 1) := by decide +kernel
theorem d_UN_readRun_35 : decode c_UN_readRun 35 = .ok (.isub, 1) := by decide +kernel
theorem d_UN_readRun_36 : decode c_UN_readRun 36 = .ok (.iaload, 1) := by decide +kernel
theorem d_UN_readRun_37 : decode c_UN_readRun 37 = .ok (.istore 4, 2) := by decide +kernel
theorem d_UN_readRun_39 : decode c_UN_readRun 39 = .ok (.iconst 3, 1) := by decide +kernel
theorem d_UN_readRun_40 : decode c_UN_readRun 40 = .ok (.aload_n 0, 1) := by decide +kernel
theorem d_UN_readRun_41 : decode c_UN_readRun 41 = .ok (.getfield 12, 3) := by decide +kernel
theorem d_UN_readRun_44 : decode c_UN_readRun 44 = .ok (.iconst 2, 1) := by decide +kernel
theorem d_UN_readRun_45 : decode c_UN_readRun 45 = .ok (.invokevirtual 75, 3) := by decide +kernel
theorem d_UN_readRun_48 : decode c_UN_readRun 48 = .ok (.iadd, 1) := by decide +kernel
theorem d_UN_readRun_49 : decode c_UN_readRun 49 = .ok (.istore 5, 2) := by decide +kernel
theorem d_UN_readRun_51 : decode c_UN_readRun 51 = .ok (.goto 38, 3) := by decide +kernel
theorem d_UN_readRun_54 : decode c_UN_readRun 54 = .ok (.iload_n 1, 1) := by decide +kernel
theorem d_UN_readRun_55 : decode c_UN_readRun 55 = .ok (.bipush 17, 2) := by decide +kernel
theorem d_UN_readRun_57 : decode c_UN_readRun 57 = .ok (.if_icmp .ne 18, 3) := by decide +kernel
theorem d_UN_readRun_60 : decode c_UN_readRun 60 = .ok (.iconst 3, 1) := by decide +kernel
theorem d_UN_readRun_61 : decode c_UN_readRun 61 = .ok (.aload_n 0, 1) := by decide +kernel
theorem d_UN_readRun_62 : decode c_UN_readRun 62 = .ok (.getfield 12, 3) := by decide +kernel
theorem d_UN_readRun_65 : decode c_UN_readRun 65 = .ok (.iconst 3, 1) := by decide +kernel
theorem d_UN_readRun_66 : decode c_UN_readRun 66 = .ok (.invokevirtual 75, 3) := by decide +kernel
theorem d_UN_readRun_69 : decode c_UN_readRun 69 = .ok (.iadd, 1) := by decide +kernel
theorem d_UN_readRun_70 : decode c_UN_readRun 70 = .ok (.istore 5, 2) := by decide +kernel
theorem d_UN_readRun_72 : decode c_UN_readRun 72 = .ok (.goto 17, 3) := by decide +kernel
theorem d_UN_readRun_75 : decode c_UN_readRun 75 = .ok (.bipush 11, 2) := by decide +kernel
theorem d_UN_readRun_77 : decode c_UN_readRun 77 = .ok (.aload_n 0, 1) := by decide +kernel
theorem d_UN_readRun_78 : decode c_UN_readRun 78 = .ok (.getfield 12, 3) := by decide +kernel
theorem d_UN_readRun_81 : decode c_UN_readRun 81 = .ok (.bipush 7, 2) := by decide +kernel
theorem d_UN_readRun_83 : decode c_UN_readRun 83 = .ok (.invokevirtual 75, 3) := by decide +kernel
theorem d_UN_readRun_86 : decode c_UN_readRun 86 = .ok (.iadd, 1) := by decide +kernel
theorem d_UN_readRun_87 : decode c_UN_readRun 87 = .ok (.istore 5, 2) := by decide +kernel
theorem d_UN_readRun_89 : decode c_UN_readRun 89 = .ok (.iload 5, 2) := by decide +kernel
theorem d_UN_readRun_91 : decode c_UN_readRun 91 = .ok (.iload_n 3, 1) := by decide +kernel
theorem d_UN_readRun_92 : decode c_UN_readRun 92 = .ok (.iload_n 2, 1) := by decide +kernel
theorem d_UN_readRun_93 : decode c_UN_readRun 93 = .ok (.isub, 1) := by decide +kernel
theorem d_UN_readRun_94 : decode c_UN_readRun 94 = .ok (.if_icmp .le 13, 3) := by decide +kernel
theorem d_UN_readRun_97 : decode c_UN_readRun 97 = .ok (.new 79, 3) := by decide +kernel
theorem d_UN_readRun_100 : decode c_UN_readRun 100 = .ok (.dup, 1) := by decide +kernel
theorem d_UN_readRun_101 : decode c_UN_readRun 101 = .ok (.ldc 156, 2) := by decide +kernel
theorem d_UN_readRun_103 : decode c_UN_readRun 103 = .ok (.invokespecial 83, 3) := by decide +kernel
theorem d_UN_readRun_106 : decode c_UN_readRun 106 = .ok (.athrow, 1) := by decide +kernel
theorem d_UN_readRun_107 : decode c_UN_readRun 107 = .ok (.iconst 0, 1) := by decide +kernel
theorem d_UN_readRun_108 : decode c_UN_readRun 108 = .ok (.istore 6, 2) := by decide +kernel
theorem d_UN_readRun_110 : decode c_UN_readRun 110 = .ok (.iload 6, 2) := by decide +kernel
theorem d_UN_readRun_112 : decode c_UN_readRun 112 = .ok (.iload 5, 2) := by decide +kernel
theorem d_UN_readRun_114 : decode c_UN_readRun 114 = .ok (.if_icmp .ge 20, 3) := by decide +kernel
theorem d_UN_readRun_117 : decode c_UN_readRun 117 = .ok (.aload_n 0, 1) := by decide +kernel
theorem d_UN_readRun_118 : decode c_UN_readRun 118 = .ok (.getfield 37, 3) := by decide +kernel
theorem d_UN_readRun_121 : decode c_UN_readRun 121 = .ok (.iload_n 2, 1) := by decide +kernel
theorem d_UN_readRun_122 : decode c_UN_readRun 122 = .ok (.iload 6, 2) := by decide +kernel
theorem d_UN_readRun_124 : decode c_UN_readRun 124 = .ok (.iadd, 1) := by decide +kernel
theorem d_UN_readRun_125 : decode c_UN_readRun 125 = .ok (.iload 4, 2) := by decide +kernel
theorem d_UN_readRun_127 : decode c_UN_readRun 127 = .ok (.iastore, 1) := by decide +kernel
theorem d_UN_readRun_128 : decode c_UN_readRun 128 = .ok (.iinc 6 1, 3) := by decide +kernel
theorem d_UN_readRun_131 : decode c_UN_readRun 131 = .ok (.goto (-21), 3) := by decide +kernel
theorem d_UN_readRun_134 : decode c_UN_readRun 134 = .ok (.iload_n 2, 1) := by decide +kernel
theorem d_UN_readRun_135 : decode c_UN_readRun 135 = .ok (.iload 5, 2) := by decide +kernel
theorem d_UN_readRun_137 : decode c_UN_readRun 137 = .ok (.iadd, 1) := by decide +kernel
theorem d_UN_readRun_138 : decode c_UN_readRun 138 = .ok (.ireturn, 1) := by decide +kernel
