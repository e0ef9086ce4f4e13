/-! rows that decode: printed by wip/whole/znames.py -/
theorem d_CO_areOneOfOneBitOrNone_0 : decode c_CO_areOneOfOneBitOrNone 0 = .ok (.aload_n 0, 1) := by decide +kernel
theorem d_CO_areOneOfOneBitOrNone_1 : decode c_CO_areOneOfOneBitOrNone 1 = .ok (.getfield 25, 3) := by decide +kernel
theorem d_CO_areOneOfOneBitOrNone_4 : decode c_CO_areOneOfOneBitOrNone 4 = .ok (.ifCond .eq 23, 3) := by decide +kernel
theorem d_CO_areOneOfOneBitOrNone_7 : decode c_CO_areOneOfOneBitOrNone 7 = .ok (.aload_n 0, 1) := by decide +kernel
theorem d_CO_areOneOfOneBitOrNone_8 : decode c_CO_areOneOfOneBitOrNone 8 = .ok (.getfield 25, 3) := by decide +kernel
theorem d_CO_areOneOfOneBitOrNone_11 : decode c_CO_areOneOfOneBitOrNone 11 = .ok (.sipush 16384, 3) := by decide +kernel
theorem d_CO_areOneOfOneBitOrNone_14 : decode c_CO_areOneOfOneBitOrNone 14 = .ok (.if_icmp .ne 17, 3) := by decide +kernel
theorem d_CO_areOneOfOneBitOrNone_17 : decode c_CO_areOneOfOneBitOrNone 17 = .ok (.aload_n 0, 1) := by decide +kernel
theorem d_CO_areOneOfOneBitOrNone_18 : decode c_CO_areOneOfOneBitOrNone 18 = .ok (.getfield 9, 3) := by decide +kernel
theorem d_CO_areOneOfOneBitOrNone_21 : decode c_CO_areOneOfOneBitOrNone 21 = .ok (.iconst 1, 1) := by decide +kernel
theorem d_CO_areOneOfOneBitOrNone_22 : decode c_CO_areOneOfOneBitOrNone 22 = .ok (.iaload, 1) := by decide +kernel
theorem d_CO_areOneOfOneBitOrNone_23 : decode c_CO_areOneOfOneBitOrNone 23 = .ok (.iconst 1, 1) := by decide +kernel
theorem d_CO_areOneOfOneBitOrNone_24 : decode c_CO_areOneOfOneBitOrNone 24 = .ok (.if_icmp .ne 7, 3) := by decide +kernel
theorem d_CO_areOneOfOneBitOrNone_27 : decode c_CO_areOneOfOneBitOrNone 27 = .ok (.iconst 1, 1) := by decide +kernel
theorem d_CO_areOneOfOneBitOrNone_28 : decode c_CO_areOneOfOneBitOrNone 28 = .ok (.goto 4, 3) := by decide +kernel
theorem d_CO_areOneOfOneBitOrNone_31 : decode c_CO_areOneOfOneBitOrNone 31 = .ok (.iconst 0, 1) := by decide +kernel
theorem d_CO_areOneOfOneBitOrNone_32 : decode c_CO_areOneOfOneBitOrNone 32 = .ok (.ireturn, 1) := by decide +kernel
theorem d_UN_readTail_0 : decode c_UN_readTail 0 = .ok (.aload_n 0, 1) := by decide +kernel
theorem d_UN_readTail_1 : decode c_UN_readTail 1 = .ok (.getfield 12, 3) := by decide +kernel
theorem d_UN_readTail_4 : decode c_UN_readTail 4 = .ok (.invokevirtual 86, 3) := by decide +kernel
theorem d_UN_readTail_7 : decode c_UN_readTail 7 = .ok (.iconst 0, 1) := by decide +kernel
theorem d_UN_readTail_8 : decode c_UN_readTail 8 = .ok (.istore_n 1, 1) := by decide +kernel
theorem d_UN_readTail_9 : decode c_UN_readTail 9 = .ok (.iconst 0, 1) := by decide +kernel
theorem d_UN_readTail_10 : decode c_UN_readTail 10 = .ok (.istore_n 2, 1) := by decide +kernel
theorem d_UN_readTail_11 : decode c_UN_readTail 11 = .ok (.iload_n 2, 1) := by decide +kernel
theorem d_UN_readTail_12 : decode c_UN_readTail 12 = .ok (.iconst 4, 1) := by decide +kernel
theorem d_UN_readTail_13 : decode c_UN_readTail 13 = .ok (.if_icmp .ge 24, 3) := by decide +kernel
theorem d_UN_readTail_16 : decode c_UN_readTail 16 = .ok (.iload_n 1, 1) := by decide +kernel
theorem d_UN_readTail_17 : decode c_UN_readTail 17 = .ok (.bipush 8, 2) := by decide +kernel
theorem d_UN_readTail_19 : decode c_UN_readTail 19 = .ok (.ishl, 1) := by decide +kernel
theorem d_UN_readTail_20 : decode c_UN_readTail 20 = .ok (.aload_n 0, 1) := by decide +kernel
theorem d_UN_readTail_21 : decode c_UN_readTail 21 = .ok (.getfield 12, 3) := by decide +kernel
theorem d_UN_readTail_24 : decode c_UN_readTail 24 = .ok (.bipush 8, 2) := by decide +kernel
theorem d_UN_readTail_26 : decode c_UN_readTail 26 = .ok (.invokevirtual 75, 3) := by decide +kernel
theorem d_UN_readTail_29 : decode c_UN_readTail 29 = .ok (.ior, 1) := by decide +kernel
theorem d_UN_readTail_30 : decode c_UN_readTail 30 = .ok (.istore_n 1, 1) := by decide +kernel
theorem d_UN_readTail_31 : decode c_UN_readTail 31 = .ok (.iinc 2 1, 3) := by decide +kernel
theorem d_UN_readTail_34 : decode c_UN_readTail 34 = .ok (.goto (-23), 3) := by decide +kernel
theorem d_UN_readTail_37 : decode c_UN_readTail 37 = .ok (.iload_n 1, 1) := by decide +kernel
theorem d_UN_readTail_38 : decode c_UN_readTail 38 = .ok (.aload_n 0, 1) := by decide +kernel
theorem d_UN_readTail_39 : decode c_UN_readTail 39 = .ok (.getfield 41, 3) := by decide +kernel
theorem d_UN_readTail_42 : decode c_UN_readTail 42 = .ok (.aload_n 0, 1) := by decide +kernel
theorem d_UN_readTail_43 : decode c_UN_readTail 43 = .ok (.getfield 52, 3) := by decide +kernel
theorem d_UN_readTail_46 : decode c_UN_readTail 46 = .ok (.invokestatic 89, 3) := by decide +kernel
theorem d_UN_readTail_49 : decode c_UN_readTail 49 = .ok (.if_icmp .ne 13, 3) := by decide +kernel
theorem d_UN_readTail_52 : decode c_UN_readTail 52 = .ok (.aload_n 0, 1) := by decide +kernel
theorem d_UN_readTail_53 : decode c_UN_readTail 53 = .ok (.getfield 12, 3) := by decide +kernel
theorem d_UN_readTail_56 : decode c_UN_readTail 56 = .ok (.invokevirtual 93, 3) := by decide +kernel
theorem d_UN_readTail_59 : decode c_UN_readTail 59 = .ok (.ifCond .ne 13, 3) := by decide +kernel
theorem d_UN_readTail_62 : decode c_UN_readTail 62 = .ok (.new 79, 3) := by decide +kernel
theorem d_UN_readTail_65 : decode c_UN_readTail 65 = .ok (.dup, 1) := by decide +kernel
theorem d_UN_readTail_66 : decode c_UN_readTail 66 = .ok (.ldc 97, 2) := by decide +kernel
theorem d_UN_readTail_68 : decode c_UN_readTail 68 = .ok (.invokespecial 83, 3) := by decide +kernel
theorem d_UN_readTail_71 : decode c_UN_readTail 71 = .ok (.athrow, 1) := by decide +kernel
theorem d_UN_readTail_72 : decode c_UN_readTail 72 = .ok (.return_, 1) := by decide +kernel
theorem d_BR_atEnd_0 : decode c_BR_atEnd 0 = .ok (.aload_n 0, 1) := by decide +kernel
theorem d_BR_atEnd_1 : decode c_BR_atEnd 1 = .ok (.getfield 17, 3) := by decide +kernel
theorem d_BR_atEnd_4 : decode c_BR_atEnd 4 = .ok (.aload_n 0, 1) := by decide +kernel
theorem d_BR_atEnd_5 : decode c_BR_atEnd 5 = .ok (.getfield 13, 3) := by decide +kernel
theorem d_BR_atEnd_8 : decode c_BR_atEnd 8 = .ok (.if_icmp .lt 7, 3) := by decide +kernel
theorem d_BR_atEnd_11 : decode c_BR_atEnd 11 = .ok (.iconst 1, 1) := by decide +kernel
theorem d_BR_atEnd_12 : decode c_BR_atEnd 12 = .ok (.goto 4, 3) := by decide +kernel
theorem d_BR_atEnd_15 : decode c_BR_atEnd 15 = .ok (.iconst 0, 1) := by decide +kernel
theorem d_BR_atEnd_16 : decode c_BR_atEnd 16 = .ok (.ireturn, 1) := by decide +kernel
theorem d_ZB_keepDraft_0 : decode c_ZB_keepDraft 0 = .ok (.aload_n 0, 1) := by decide +kernel
theorem d_ZB_keepDraft_1 : decode c_ZB_keepDraft 1 = .ok (.getfield 13, 3) := by decide +kernel
theorem d_ZB_keepDraft_4 : decode c_ZB_keepDraft 4 = .ok (.astore_n 2, 1) := by decide +kernel
theorem d_ZB_keepDraft_5 : decode c_ZB_keepDraft 5 = .ok (.aload_n 0, 1) := by decide +kernel
theorem d_ZB_keepDraft_6 : decode c_ZB_keepDraft 6 = .ok (.aload_n 0, 1) := by decide +kernel
theorem d_ZB_keepDraft_7 : decode c_ZB_keepDraft 7 = .ok (.getfield 16, 3) := by decide +kernel
theorem d_ZB_keepDraft_10 : decode c_ZB_keepDraft 10 = .ok (.putfield 13, 3) := by decide +kernel
theorem d_ZB_keepDraft_13 : decode c_ZB_keepDraft 13 = .ok (.aload_n 0, 1) := by decide +kernel
theorem d_ZB_keepDraft_14 : decode c_ZB_keepDraft 14 = .ok (.aload_n 2, 1) := by decide +kernel
theorem d_ZB_keepDraft_15 : decode c_ZB_keepDraft 15 = .ok (.putfield 16, 3) := by decide +kernel
theorem d_ZB_keepDraft_18 : decode c_ZB_keepDraft 18 = .ok (.aload_n 0, 1) := by decide +kernel
theorem d_ZB_keepDraft_19 : decode c_ZB_keepDraft 19 = .ok (.iload_n 1, 1) := by decide +kernel
theorem d_ZB_keepDraft_20 : decode c_ZB_keepDraft 20 = .ok (.putfield 53, 3) := by decide +kernel
theorem d_ZB_keepDraft_23 : decode c_ZB_keepDraft 23 = .ok (.iload_n 1, 1) := by decide +kernel
theorem d_ZB_keepDraft_24 : decode c_ZB_keepDraft 24 = .ok (.ireturn, 1) := by decide +kernel
theorem d_LW_pack_0 : decode c_LW_pack 0 = .ok (.aload_n 1, 1) := by decide +kernel
theorem d_LW_pack_1 : decode c_LW_pack 1 = .ok (.iconst 0, 1) := by decide +kernel
theorem d_LW_pack_2 : decode c_LW_pack 2 = .ok (.aload_n 0, 1) := by decide +kernel
theorem d_LW_pack_3 : decode c_LW_pack 3 = .ok (.invokevirtual 27, 3) := by decide +kernel
theorem d_LW_pack_6 : decode c_LW_pack 6 = .ok (.i2l, 1) := by decide +kernel
theorem d_LW_pack_7 : decode c_LW_pack 7 = .ok (.lastore, 1) := by decide +kernel
theorem d_LW_pack_8 : decode c_LW_pack 8 = .ok (.goto 6, 3) := by decide +kernel
theorem d_LW_pack_11 : decode c_LW_pack 11 = .ok (.astore_n 2, 1) := by decide +kernel
theorem d_LW_pack_12 : decode c_LW_pack 12 = .ok (.iconst 1, 1) := by decide +kernel
theorem d_LW_pack_13 : decode c_LW_pack 13 = .ok (.ireturn, 1) := by decide +kernel
theorem d_LW_pack_14 : decode c_LW_pack 14 = .ok (.iconst 0, 1) := by decide +kernel
theorem d_LW_pack_15 : decode c_LW_pack 15 = .ok (.ireturn, 1) := by decide +kernel
theorem d_ZB_pack_0 : decode c_ZB_pack 0 = .ok (.aload_n 0, 1) := by decide +kernel
theorem d_ZB_pack_1 : decode c_ZB_pack 1 = .ok (.aload_n 0, 1) := by decide +kernel
theorem d_ZB_pack_2 : decode c_ZB_pack 2 = .ok (.getfield 29, 3) := by decide +kernel
theorem d_ZB_pack_5 : decode c_ZB_pack 5 = .ok (.aload_n 0, 1) := by decide +kernel
theorem d_ZB_pack_6 : decode c_ZB_pack 6 = .ok (.getfield 9, 3) := by decide +kernel
theorem d_ZB_pack_9 : decode c_ZB_pack 9 = .ok (.aload_n 0, 1) := by decide +kernel
theorem d_ZB_pack_10 : decode c_ZB_pack 10 = .ok (.getfield 33, 3) := by decide +kernel
theorem d_ZB_pack_13 : decode c_ZB_pack 13 = .ok (.aload_n 0, 1) := by decide +kernel
theorem d_ZB_pack_14 : decode c_ZB_pack 14 = .ok (.getfield 16, 3) := by decide +kernel
theorem d_ZB_pack_17 : decode c_ZB_pack 17 = .ok (.invokevirtual 70, 3) := by decide +kernel
theorem d_ZB_pack_20 : decode c_ZB_pack 20 = .ok (.invokevirtual 66, 3) := by decide +kernel
theorem d_ZB_pack_23 : decode c_ZB_pack 23 = .ok (.ireturn, 1) := by decide +kernel
theorem d_PA_write_0 : decode c_PA_write 0 = .ok (.aload_n 0, 1) := by decide +kernel
theorem d_PA_write_1 : decode c_PA_write 1 = .ok (.aload_n 1, 1) := by decide +kernel
theorem d_PA_write_2 : decode c_PA_write 2 = .ok (.iload_n 2, 1) := by decide +kernel
theorem d_PA_write_3 : decode c_PA_write 3 = .ok (.aload_n 3, 1) := by decide +kernel
theorem d_PA_write_4 : decode c_PA_write 4 = .ok (.invokevirtual 25, 3) := by decide +kernel
theorem d_PA_write_7 : decode c_PA_write 7 = .ok (.aload_n 0, 1) := by decide +kernel
theorem d_PA_write_8 : decode c_PA_write 8 = .ok (.bipush 120, 2) := by decide +kernel
theorem d_PA_write_10 : decode c_PA_write 10 = .ok (.invokevirtual 29, 3) := by decide +kernel
theorem d_PA_write_13 : decode c_PA_write 13 = .ok (.aload_n 0, 1) := by decide +kernel
theorem d_PA_write_14 : decode c_PA_write 14 = .ok (.iconst 1, 1) := by decide +kernel
theorem d_PA_write_15 : decode c_PA_write 15 = .ok (.invokevirtual 29, 3) := by decide +kernel
theorem d_PA_write_18 : decode c_PA_write 18 = .ok (.aload_n 0, 1) := by decide +kernel
theorem d_PA_write_19 : decode c_PA_write 19 = .ok (.iconst 1, 1) := by decide +kernel
theorem d_PA_write_20 : decode c_PA_write 20 = .ok (.iconst 1, 1) := by decide +kernel
theorem d_PA_write_21 : decode c_PA_write 21 = .ok (.invokevirtual 33, 3) := by decide +kernel
theorem d_PA_write_24 : decode c_PA_write 24 = .ok (.aload_n 0, 1) := by decide +kernel
theorem d_PA_write_25 : decode c_PA_write 25 = .ok (.iconst 1, 1) := by decide +kernel
theorem d_PA_write_26 : decode c_PA_write 26 = .ok (.iconst 2, 1) := by decide +kernel
theorem d_PA_write_27 : decode c_PA_write 27 = .ok (.invokevirtual 33, 3) := by decide +kernel
theorem d_PA_write_30 : decode c_PA_write 30 = .ok (.aload_n 0, 1) := by decide +kernel
theorem d_PA_write_31 : decode c_PA_write 31 = .ok (.invokevirtual 37, 3) := by decide +kernel
theorem d_PA_write_34 : decode c_PA_write 34 = .ok (.aload_n 0, 1) := by decide +kernel
theorem d_PA_write_35 : decode c_PA_write 35 = .ok (.sipush 256, 3) := by decide +kernel
theorem d_PA_write_38 : decode c_PA_write 38 = .ok (.invokevirtual 40, 3) := by decide +kernel
theorem d_PA_write_41 : decode c_PA_write 41 = .ok (.aload_n 0, 1) := by decide +kernel
theorem d_PA_write_42 : decode c_PA_write 42 = .ok (.invokevirtual 43, 3) := by decide +kernel
theorem d_PA_write_45 : decode c_PA_write 45 = .ok (.aload_n 0, 1) := by decide +kernel
theorem d_PA_write_46 : decode c_PA_write 46 = .ok (.aload_n 1, 1) := by decide +kernel
theorem d_PA_write_47 : decode c_PA_write 47 = .ok (.iload_n 2, 1) := by decide +kernel
theorem d_PA_write_48 : decode c_PA_write 48 = .ok (.invokestatic 46, 3) := by decide +kernel
theorem d_PA_write_51 : decode c_PA_write 51 = .ok (.invokevirtual 50, 3) := by decide +kernel
theorem d_PA_write_54 : decode c_PA_write 54 = .ok (.aload_n 0, 1) := by decide +kernel
theorem d_PA_write_55 : decode c_PA_write 55 = .ok (.getfield 53, 3) := by decide +kernel
theorem d_PA_write_58 : decode c_PA_write 58 = .ok (.ireturn, 1) := by decide +kernel
theorem d_PA_open_0 : decode c_PA_open 0 = .ok (.aload_n 0, 1) := by decide +kernel
theorem d_PA_open_1 : decode c_PA_open 1 = .ok (.getfield 11, 3) := by decide +kernel
theorem d_PA_open_4 : decode c_PA_open 4 = .ok (.iconst (-1), 1) := by decide +kernel
theorem d_PA_open_5 : decode c_PA_open 5 = .ok (.invokestatic 57, 3) := by decide +kernel
theorem d_PA_open_8 : decode c_PA_open 8 = .ok (.aload_n 0, 1) := by decide +kernel
theorem d_PA_open_9 : decode c_PA_open 9 = .ok (.aload_n 1, 1) := by decide +kernel
theorem d_PA_open_10 : decode c_PA_open 10 = .ok (.putfield 18, 3) := by decide +kernel
theorem d_PA_open_13 : decode c_PA_open 13 = .ok (.aload_n 0, 1) := by decide +kernel
theorem d_PA_open_14 : decode c_PA_open 14 = .ok (.iload_n 2, 1) := by decide +kernel
theorem d_PA_open_15 : decode c_PA_open 15 = .ok (.putfield 63, 3) := by decide +kernel
theorem d_PA_open_18 : decode c_PA_open 18 = .ok (.aload_n 0, 1) := by decide +kernel
theorem d_PA_open_19 : decode c_PA_open 19 = .ok (.aload_n 3, 1) := by decide +kernel
theorem d_PA_open_20 : decode c_PA_open 20 = .ok (.putfield 22, 3) := by decide +kernel
theorem d_PA_open_23 : decode c_PA_open 23 = .ok (.aload_n 0, 1) := by decide +kernel
theorem d_PA_open_24 : decode c_PA_open 24 = .ok (.iconst 0, 1) := by decide +kernel
theorem d_PA_open_25 : decode c_PA_open 25 = .ok (.putfield 53, 3) := by decide +kernel
theorem d_PA_open_28 : decode c_PA_open 28 = .ok (.aload_n 0, 1) := by decide +kernel
theorem d_PA_open_29 : decode c_PA_open 29 = .ok (.iconst 0, 1) := by decide +kernel
theorem d_PA_open_30 : decode c_PA_open 30 = .ok (.putfield 66, 3) := by decide +kernel
theorem d_PA_open_33 : decode c_PA_open 33 = .ok (.aload_n 0, 1) := by decide +kernel
theorem d_PA_open_34 : decode c_PA_open 34 = .ok (.iconst 0, 1) := by decide +kernel
theorem d_PA_open_35 : decode c_PA_open 35 = .ok (.putfield 69, 3) := by decide +kernel
theorem d_PA_open_38 : decode c_PA_open 38 = .ok (.return_, 1) := by decide +kernel
theorem d_PA_putByte_0 : decode c_PA_putByte 0 = .ok (.aload_n 0, 1) := by decide +kernel
theorem d_PA_putByte_1 : decode c_PA_putByte 1 = .ok (.getfield 53, 3) := by decide +kernel
theorem d_PA_putByte_4 : decode c_PA_putByte 4 = .ok (.sipush 16384, 3) := by decide +kernel
theorem d_PA_putByte_7 : decode c_PA_putByte 7 = .ok (.if_icmp .lt 13, 3) := by decide +kernel
theorem d_PA_putByte_10 : decode c_PA_putByte 10 = .ok (.new 123, 3) := by decide +kernel
theorem d_PA_putByte_13 : decode c_PA_putByte 13 = .ok (.dup, 1) := by decide +kernel
theorem d_PA_putByte_14 : decode c_PA_putByte 14 = .ok (.ldc 125, 2) := by decide +kernel
theorem d_PA_putByte_16 : decode c_PA_putByte 16 = .ok (.invokespecial 127, 3) := by decide +kernel
theorem d_PA_putByte_19 : decode c_PA_putByte 19 = .ok (.athrow, 1) := by decide +kernel
theorem d_PA_putByte_20 : decode c_PA_putByte 20 = .ok (.aload_n 0, 1) := by decide +kernel
theorem d_PA_putByte_21 : decode c_PA_putByte 21 = .ok (.getfield 22, 3) := by decide +kernel
theorem d_PA_putByte_24 : decode c_PA_putByte 24 = .ok (.aload_n 0, 1) := by decide +kernel
theorem d_PA_putByte_25 : decode c_PA_putByte 25 = .ok (.getfield 53, 3) := by decide +kernel
theorem d_PA_putByte_28 : decode c_PA_putByte 28 = .ok (.iload_n 1, 1) := by decide +kernel
theorem d_PA_putByte_29 : decode c_PA_putByte 29 = .ok (.i2b, 1) := by decide +kernel
theorem d_PA_putByte_30 : decode c_PA_putByte 30 = .ok (.bastore, 1) := by decide +kernel
theorem d_PA_putByte_31 : decode c_PA_putByte 31 = .ok (.aload_n 0, 1) := by decide +kernel
theorem d_PA_putByte_32 : decode c_PA_putByte 32 = .ok (.dup, 1) := by decide +kernel
theorem d_PA_putByte_33 : decode c_PA_putByte 33 = .ok (.getfield 53, 3) := by decide +kernel
theorem d_PA_putByte_36 : decode c_PA_putByte 36 = .ok (.iconst 1, 1) := by decide +kernel
theorem d_PA_putByte_37 : decode c_PA_putByte 37 = .ok (.iadd, 1) := by decide +kernel
theorem d_PA_putByte_38 : decode c_PA_putByte 38 = .ok (.putfield 53, 3) := by decide +kernel
theorem d_PA_putByte_41 : decode c_PA_putByte 41 = .ok (.return_, 1) := by decide +kernel
theorem d_PA_putNumber_0 : decode c_PA_putNumber 0 = .ok (.aload_n 0, 1) := by decide +kernel
theorem d_PA_putNumber_1 : decode c_PA_putNumber 1 = .ok (.dup, 1) := by decide +kernel
theorem d_PA_putNumber_2 : decode c_PA_putNumber 2 = .ok (.getfield 66, 3) := by decide +kernel
theorem d_PA_putNumber_5 : decode c_PA_putNumber 5 = .ok (.iload_n 1, 1) := by decide +kernel
theorem d_PA_putNumber_6 : decode c_PA_putNumber 6 = .ok (.aload_n 0, 1) := by decide +kernel
theorem d_PA_putNumber_7 : decode c_PA_putNumber 7 = .ok (.getfield 69, 3) := by decide +kernel
theorem d_PA_putNumber_10 : decode c_PA_putNumber 10 = .ok (.ishl, 1) := by decide +kernel
theorem d_PA_putNumber_11 : decode c_PA_putNumber 11 = .ok (.ior, 1) := by decide +kernel
theorem d_PA_putNumber_12 : decode c_PA_putNumber 12 = .ok (.putfield 66, 3) := by decide +kernel
theorem d_PA_putNumber_15 : decode c_PA_putNumber 15 = .ok (.aload_n 0, 1) := by decide +kernel
theorem d_PA_putNumber_16 : decode c_PA_putNumber 16 = .ok (.dup, 1) := by decide +kernel
theorem d_PA_putNumber_17 : decode c_PA_putNumber 17 = .ok (.getfield 69, 3) := by decide +kernel
theorem d_PA_putNumber_20 : decode c_PA_putNumber 20 = .ok (.iload_n 2, 1) := by decide +kernel
theorem d_PA_putNumber_21 : decode c_PA_putNumber 21 = .ok (.iadd, 1) := by decide +kernel
theorem d_PA_putNumber_22 : decode c_PA_putNumber 22 = .ok (.putfield 69, 3) := by decide +kernel
theorem d_PA_putNumber_25 : decode c_PA_putNumber 25 = .ok (.aload_n 0, 1) := by decide +kernel
theorem d_PA_putNumber_26 : decode c_PA_putNumber 26 = .ok (.getfield 69, 3) := by decide +kernel
theorem d_PA_putNumber_29 : decode c_PA_putNumber 29 = .ok (.bipush 8, 2) := by decide +kernel
theorem d_PA_putNumber_31 : decode c_PA_putNumber 31 = .ok (.if_icmp .lt 36, 3) := by decide +kernel
theorem d_PA_putNumber_34 : decode c_PA_putNumber 34 = .ok (.aload_n 0, 1) := by decide +kernel
theorem d_PA_putNumber_35 : decode c_PA_putNumber 35 = .ok (.aload_n 0, 1) := by decide +kernel
theorem d_PA_putNumber_36 : decode c_PA_putNumber 36 = .ok (.getfield 66, 3) := by decide +kernel
theorem d_PA_putNumber_39 : decode c_PA_putNumber 39 = .ok (.invokevirtual 29, 3) := by decide +kernel
theorem d_PA_putNumber_42 : decode c_PA_putNumber 42 = .ok (.aload_n 0, 1) := by decide +kernel
theorem d_PA_putNumber_43 : decode c_PA_putNumber 43 = .ok (.dup, 1) := by decide +kernel
theorem d_PA_putNumber_44 : decode c_PA_putNumber 44 = .ok (.getfield 66, 3) := by decide +kernel
theorem d_PA_putNumber_47 : decode c_PA_putNumber 47 = .ok (.bipush 8, 2) := by decide +kernel
theorem d_PA_putNumber_49 : decode c_PA_putNumber 49 = .ok (.ishr, 1) := by decide +kernel
theorem d_PA_putNumber_50 : decode c_PA_putNumber 50 = .ok (.putfield 66, 3) := by decide +kernel
theorem d_PA_putNumber_53 : decode c_PA_putNumber 53 = .ok (.aload_n 0, 1) := by decide +kernel
theorem d_PA_putNumber_54 : decode c_PA_putNumber 54 = .ok (.dup, 1) := by decide +kernel
theorem d_PA_putNumber_55 : decode c_PA_putNumber 55 = .ok (.getfield 69, 3) := by decide +kernel
theorem d_PA_putNumber_58 : decode c_PA_putNumber 58 = .ok (.bipush 8, 2) := by decide +kernel
theorem d_PA_putNumber_60 : decode c_PA_putNumber 60 = .ok (.isub, 1) := by decide +kernel
theorem d_PA_putNumber_61 : decode c_PA_putNumber 61 = .ok (.putfield 69, 3) := by decide +kernel
theorem d_PA_putNumber_64 : decode c_PA_putNumber 64 = .ok (.goto (-39), 3) := by decide +kernel
theorem d_PA_putNumber_67 : decode c_PA_putNumber 67 = .ok (.return_, 1) := by decide +kernel
theorem d_PA_writeTape_0 : decode c_PA_writeTape 0 = .ok (.iconst 0, 1) := by decide +kernel
theorem d_PA_writeTape_1 : decode c_PA_writeTape 1 = .ok (.istore_n 2, 1) := by decide +kernel
theorem d_PA_writeTape_2 : decode c_PA_writeTape 2 = .ok (.iload_n 2, 1) := by decide +kernel
theorem d_PA_writeTape_3 : decode c_PA_writeTape 3 = .ok (.aload_n 0, 1) := by decide +kernel
theorem d_PA_writeTape_4 : decode c_PA_writeTape 4 = .ok (.getfield 63, 3) := by decide +kernel
theorem d_PA_writeTape_7 : decode c_PA_writeTape 7 = .ok (.if_icmp .ge 72, 3) := by decide +kernel
theorem d_PA_writeTape_10 : decode c_PA_writeTape 10 = .ok (.aload_n 0, 1) := by decide +kernel
theorem d_PA_writeTape_11 : decode c_PA_writeTape 11 = .ok (.iload_n 2, 1) := by decide +kernel
theorem d_PA_writeTape_12 : decode c_PA_writeTape 12 = .ok (.invokevirtual 72, 3) := by decide +kernel
theorem d_PA_writeTape_15 : decode c_PA_writeTape 15 = .ok (.iconst 1, 1) := by decide +kernel
theorem d_PA_writeTape_16 : decode c_PA_writeTape 16 = .ok (.aload_n 0, 1) := by decide +kernel
theorem d_PA_writeTape_17 : decode c_PA_writeTape 17 = .ok (.getfield 75, 3) := by decide +kernel
theorem d_PA_writeTape_20 : decode c_PA_writeTape 20 = .ok (.invokestatic 78, 3) := by decide +kernel
theorem d_PA_writeTape_23 : decode c_PA_writeTape 23 = .ok (.istore_n 1, 1) := by decide +kernel
theorem d_PA_writeTape_24 : decode c_PA_writeTape 24 = .ok (.aload_n 0, 1) := by decide +kernel
theorem d_PA_writeTape_25 : decode c_PA_writeTape 25 = .ok (.getfield 75, 3) := by decide +kernel
theorem d_PA_writeTape_28 : decode c_PA_writeTape 28 = .ok (.ifCond .ne 20, 3) := by decide +kernel
theorem d_PA_writeTape_31 : decode c_PA_writeTape 31 = .ok (.aload_n 0, 1) := by decide +kernel
theorem d_PA_writeTape_32 : decode c_PA_writeTape 32 = .ok (.aload_n 0, 1) := by decide +kernel
theorem d_PA_writeTape_33 : decode c_PA_writeTape 33 = .ok (.getfield 18, 3) := by decide +kernel
theorem d_PA_writeTape_36 : decode c_PA_writeTape 36 = .ok (.iload_n 2, 1) := by decide +kernel
theorem d_PA_writeTape_37 : decode c_PA_writeTape 37 = .ok (.baload, 1) := by decide +kernel
theorem d_PA_writeTape_38 : decode c_PA_writeTape 38 = .ok (.sipush 255, 3) := by decide +kernel
theorem d_PA_writeTape_41 : decode c_PA_writeTape 41 = .ok (.iand, 1) := by decide +kernel
theorem d_PA_writeTape_42 : decode c_PA_writeTape 42 = .ok (.invokevirtual 40, 3) := by decide +kernel
theorem d_PA_writeTape_45 : decode c_PA_writeTape 45 = .ok (.goto 7, 3) := by decide +kernel
theorem d_PA_writeTape_48 : decode c_PA_writeTape 48 = .ok (.aload_n 0, 1) := by decide +kernel
theorem d_PA_writeTape_49 : decode c_PA_writeTape 49 = .ok (.invokevirtual 84, 3) := by decide +kernel
theorem d_PA_writeTape_52 : decode c_PA_writeTape 52 = .ok (.iconst 0, 1) := by decide +kernel
theorem d_PA_writeTape_53 : decode c_PA_writeTape 53 = .ok (.istore_n 3, 1) := by decide +kernel
theorem d_PA_writeTape_54 : decode c_PA_writeTape 54 = .ok (.iload_n 3, 1) := by decide +kernel
theorem d_PA_writeTape_55 : decode c_PA_writeTape 55 = .ok (.iload_n 1, 1) := by decide +kernel
theorem d_PA_writeTape_56 : decode c_PA_writeTape 56 = .ok (.if_icmp .ge 16, 3) := by decide +kernel
theorem d_PA_writeTape_59 : decode c_PA_writeTape 59 = .ok (.aload_n 0, 1) := by decide +kernel
theorem d_PA_writeTape_60 : decode c_PA_writeTape 60 = .ok (.iload_n 2, 1) := by decide +kernel
theorem d_PA_writeTape_61 : decode c_PA_writeTape 61 = .ok (.iload_n 3, 1) := by decide +kernel
theorem d_PA_writeTape_62 : decode c_PA_writeTape 62 = .ok (.iadd, 1) := by decide +kernel
theorem d_PA_writeTape_63 : decode c_PA_writeTape 63 = .ok (.invokevirtual 87, 3) := by decide +kernel
theorem d_PA_writeTape_66 : decode c_PA_writeTape 66 = .ok (.iinc 3 1, 3) := by decide +kernel
theorem d_PA_writeTape_69 : decode c_PA_writeTape 69 = .ok (.goto (-15), 3) := by decide +kernel
theorem d_PA_writeTape_72 : decode c_PA_writeTape 72 = .ok (.iload_n 2, 1) := by decide +kernel
theorem d_PA_writeTape_73 : decode c_PA_writeTape 73 = .ok (.iload_n 1, 1) := by decide +kernel
theorem d_PA_writeTape_74 : decode c_PA_writeTape 74 = .ok (.iadd, 1) := by decide +kernel
theorem d_PA_writeTape_75 : decode c_PA_writeTape 75 = .ok (.istore_n 2, 1) := by decide +kernel
theorem d_PA_writeTape_76 : decode c_PA_writeTape 76 = .ok (.goto (-74), 3) := by decide +kernel
theorem d_PA_writeTape_79 : decode c_PA_writeTape 79 = .ok (.return_, 1) := by decide +kernel
theorem d_PA_findCopy_0 : decode c_PA_findCopy 0 = .ok (.aload_n 0, 1) := by decide +kernel
theorem d_PA_findCopy_1 : decode c_PA_findCopy 1 = .ok (.iconst 0, 1) := by decide +kernel
theorem d_PA_findCopy_2 : decode c_PA_findCopy 2 = .ok (.putfield 75, 3) := by decide +kernel
theorem d_PA_findCopy_5 : decode c_PA_findCopy 5 = .ok (.sipush 258, 3) := by decide +kernel
theorem d_PA_findCopy_8 : decode c_PA_findCopy 8 = .ok (.aload_n 0, 1) := by decide +kernel
theorem d_PA_findCopy_9 : decode c_PA_findCopy 9 = .ok (.getfield 63, 3) := by decide +kernel
theorem d_PA_findCopy_12 : decode c_PA_findCopy 12 = .ok (.iload_n 1, 1) := by decide +kernel
theorem d_PA_findCopy_13 : decode c_PA_findCopy 13 = .ok (.isub, 1) := by decide +kernel
theorem d_PA_findCopy_14 : decode c_PA_findCopy 14 = .ok (.invokestatic 90, 3) := by decide +kernel
theorem d_PA_findCopy_17 : decode c_PA_findCopy 17 = .ok (.istore_n 2, 1) := by decide +kernel
theorem d_PA_findCopy_18 : decode c_PA_findCopy 18 = .ok (.iload_n 2, 1) := by decide +kernel
theorem d_PA_findCopy_19 : decode c_PA_findCopy 19 = .ok (.iconst 3, 1) := by decide +kernel
theorem d_PA_findCopy_20 : decode c_PA_findCopy 20 = .ok (.if_icmp .ge 4, 3) := by decide +kernel
theorem d_PA_findCopy_23 : decode c_PA_findCopy 23 = .ok (.return_, 1) := by decide +kernel
theorem d_PA_findCopy_24 : decode c_PA_findCopy 24 = .ok (.iconst 2, 1) := by decide +kernel
theorem d_PA_findCopy_25 : decode c_PA_findCopy 25 = .ok (.istore_n 3, 1) := by decide +kernel
theorem d_PA_findCopy_26 : decode c_PA_findCopy 26 = .ok (.iconst 0, 1) := by decide +kernel
theorem d_PA_findCopy_27 : decode c_PA_findCopy 27 = .ok (.iload_n 1, 1) := by decide +kernel
theorem d_PA_findCopy_28 : decode c_PA_findCopy 28 = .ok (.sipush 4096, 3) := by decide +kernel
theorem d_PA_findCopy_31 : decode c_PA_findCopy 31 = .ok (.isub, 1) := by decide +kernel
theorem d_PA_findCopy_32 : decode c_PA_findCopy 32 = .ok (.invokestatic 78, 3) := by decide +kernel
theorem d_PA_findCopy_35 : decode c_PA_findCopy 35 = .ok (.istore 4, 2) := by decide +kernel
theorem d_PA_findCopy_37 : decode c_PA_findCopy 37 = .ok (.aload_n 0, 1) := by decide +kernel
theorem d_PA_findCopy_38 : decode c_PA_findCopy 38 = .ok (.getfield 11, 3) := by decide +kernel
theorem d_PA_findCopy_41 : decode c_PA_findCopy 41 = .ok (.aload_n 0, 1) := by decide +kernel
theorem d_PA_findCopy_42 : decode c_PA_findCopy 42 = .ok (.iload_n 1, 1) := by decide +kernel
theorem d_PA_findCopy_43 : decode c_PA_findCopy 43 = .ok (.invokevirtual 93, 3) := by decide +kernel
theorem d_PA_findCopy_46 : decode c_PA_findCopy 46 = .ok (.iaload, 1) := by decide +kernel
theorem d_PA_findCopy_47 : decode c_PA_findCopy 47 = .ok (.istore 5, 2) := by decide +kernel
theorem d_PA_findCopy_49 : decode c_PA_findCopy 49 = .ok (.iconst 0, 1) := by decide +kernel
theorem d_PA_findCopy_50 : decode c_PA_findCopy 50 = .ok (.istore 6, 2) := by decide +kernel
theorem d_PA_findCopy_52 : decode c_PA_findCopy 52 = .ok (.iload 6, 2) := by decide +kernel
theorem d_PA_findCopy_54 : decode c_PA_findCopy 54 = .ok (.sipush 4096, 3) := by decide +kernel
theorem d_PA_findCopy_57 : decode c_PA_findCopy 57 = .ok (.if_icmp .ge 87, 3) := by decide +kernel
theorem d_PA_findCopy_60 : decode c_PA_findCopy 60 = .ok (.iload 5, 2) := by decide +kernel
theorem d_PA_findCopy_62 : decode c_PA_findCopy 62 = .ok (.iload 4, 2) := by decide +kernel
theorem d_PA_findCopy_64 : decode c_PA_findCopy 64 = .ok (.if_icmp .lt 80, 3) := by decide +kernel
theorem d_PA_findCopy_67 : decode c_PA_findCopy 67 = .ok (.iload_n 3, 1) := by decide +kernel
theorem d_PA_findCopy_68 : decode c_PA_findCopy 68 = .ok (.iload_n 2, 1) := by decide +kernel
theorem d_PA_findCopy_69 : decode c_PA_findCopy 69 = .ok (.if_icmp .ge 75, 3) := by decide +kernel
theorem d_PA_findCopy_72 : decode c_PA_findCopy 72 = .ok (.aload_n 0, 1) := by decide +kernel
theorem d_PA_findCopy_73 : decode c_PA_findCopy 73 = .ok (.getfield 18, 3) := by decide +kernel
theorem d_PA_findCopy_76 : decode c_PA_findCopy 76 = .ok (.iload 5, 2) := by decide +kernel
theorem d_PA_findCopy_78 : decode c_PA_findCopy 78 = .ok (.iload_n 3, 1) := by decide +kernel
theorem d_PA_findCopy_79 : decode c_PA_findCopy 79 = .ok (.iadd, 1) := by decide +kernel
theorem d_PA_findCopy_80 : decode c_PA_findCopy 80 = .ok (.baload, 1) := by decide +kernel
theorem d_PA_findCopy_81 : decode c_PA_findCopy 81 = .ok (.aload_n 0, 1) := by decide +kernel
theorem d_PA_findCopy_82 : decode c_PA_findCopy 82 = .ok (.getfield 18, 3) := by decide +kernel
theorem d_PA_findCopy_85 : decode c_PA_findCopy 85 = .ok (.iload_n 1, 1) := by decide +kernel
theorem d_PA_findCopy_86 : decode c_PA_findCopy 86 = .ok (.iload_n 3, 1) := by decide +kernel
theorem d_PA_findCopy_87 : decode c_PA_findCopy 87 = .ok (.iadd, 1) := by decide +kernel
theorem d_PA_findCopy_88 : decode c_PA_findCopy 88 = .ok (.baload, 1) := by decide +kernel
theorem d_PA_findCopy_89 : decode c_PA_findCopy 89 = .ok (.if_icmp .ne 36, 3) := by decide +kernel
theorem d_PA_findCopy_92 : decode c_PA_findCopy 92 = .ok (.aload_n 0, 1) := by decide +kernel
theorem d_PA_findCopy_93 : decode c_PA_findCopy 93 = .ok (.iload 5, 2) := by decide +kernel
theorem d_PA_findCopy_95 : decode c_PA_findCopy 95 = .ok (.iload_n 1, 1) := by decide +kernel
theorem d_PA_findCopy_96 : decode c_PA_findCopy 96 = .ok (.iload_n 2, 1) := by decide +kernel
theorem d_PA_findCopy_97 : decode c_PA_findCopy 97 = .ok (.invokevirtual 97, 3) := by decide +kernel
theorem d_PA_findCopy_100 : decode c_PA_findCopy 100 = .ok (.istore 7, 2) := by decide +kernel
theorem d_PA_findCopy_102 : decode c_PA_findCopy 102 = .ok (.iload 7, 2) := by decide +kernel
theorem d_PA_findCopy_104 : decode c_PA_findCopy 104 = .ok (.iload_n 3, 1) := by decide +kernel
theorem d_PA_findCopy_105 : decode c_PA_findCopy 105 = .ok (.if_icmp .le 20, 3) := by decide +kernel
theorem d_PA_findCopy_108 : decode c_PA_findCopy 108 = .ok (.iload 7, 2) := by decide +kernel
theorem d_PA_findCopy_110 : decode c_PA_findCopy 110 = .ok (.istore_n 3, 1) := by decide +kernel
theorem d_PA_findCopy_111 : decode c_PA_findCopy 111 = .ok (.aload_n 0, 1) := by decide +kernel
theorem d_PA_findCopy_112 : decode c_PA_findCopy 112 = .ok (.iload 7, 2) := by decide +kernel
theorem d_PA_findCopy_114 : decode c_PA_findCopy 114 = .ok (.putfield 75, 3) := by decide +kernel
theorem d_PA_findCopy_117 : decode c_PA_findCopy 117 = .ok (.aload_n 0, 1) := by decide +kernel
theorem d_PA_findCopy_118 : decode c_PA_findCopy 118 = .ok (.iload_n 1, 1) := by decide +kernel
theorem d_PA_findCopy_119 : decode c_PA_findCopy 119 = .ok (.iload 5, 2) := by decide +kernel
theorem d_PA_findCopy_121 : decode c_PA_findCopy 121 = .ok (.isub, 1) := by decide +kernel
theorem d_PA_findCopy_122 : decode c_PA_findCopy 122 = .ok (.putfield 101, 3) := by decide +kernel
theorem d_PA_findCopy_125 : decode c_PA_findCopy 125 = .ok (.aload_n 0, 1) := by decide +kernel
theorem d_PA_findCopy_126 : decode c_PA_findCopy 126 = .ok (.getfield 15, 3) := by decide +kernel
theorem d_PA_findCopy_129 : decode c_PA_findCopy 129 = .ok (.iload 5, 2) := by decide +kernel
theorem d_PA_findCopy_131 : decode c_PA_findCopy 131 = .ok (.sipush 4096, 3) := by decide +kernel
theorem d_PA_findCopy_134 : decode c_PA_findCopy 134 = .ok (.irem, 1) := by decide +kernel
theorem d_PA_findCopy_135 : decode c_PA_findCopy 135 = .ok (.iaload, 1) := by decide +kernel
theorem d_PA_findCopy_136 : decode c_PA_findCopy 136 = .ok (.istore 5, 2) := by decide +kernel
theorem d_PA_findCopy_138 : decode c_PA_findCopy 138 = .ok (.iinc 6 1, 3) := by decide +kernel
theorem d_PA_findCopy_141 : decode c_PA_findCopy 141 = .ok (.goto (-89), 3) := by decide +kernel
theorem d_PA_findCopy_144 : decode c_PA_findCopy 144 = .ok (.return_, 1) := by decide +kernel
theorem d_PA_chainOf_0 : decode c_PA_chainOf 0 = .ok (.aload_n 0, 1) := by decide +kernel
theorem d_PA_chainOf_1 : decode c_PA_chainOf 1 = .ok (.getfield 18, 3) := by decide +kernel
theorem d_PA_chainOf_4 : decode c_PA_chainOf 4 = .ok (.iload_n 1, 1) := by decide +kernel
theorem d_PA_chainOf_5 : decode c_PA_chainOf 5 = .ok (.baload, 1) := by decide +kernel
theorem d_PA_chainOf_6 : decode c_PA_chainOf 6 = .ok (.sipush 255, 3) := by decide +kernel
theorem d_PA_chainOf_9 : decode c_PA_chainOf 9 = .ok (.iand, 1) := by decide +kernel
theorem d_PA_chainOf_10 : decode c_PA_chainOf 10 = .ok (.istore_n 2, 1) := by decide +kernel
theorem d_PA_chainOf_11 : decode c_PA_chainOf 11 = .ok (.aload_n 0, 1) := by decide +kernel
theorem d_PA_chainOf_12 : decode c_PA_chainOf 12 = .ok (.getfield 18, 3) := by decide +kernel
theorem d_PA_chainOf_15 : decode c_PA_chainOf 15 = .ok (.iload_n 1, 1) := by decide +kernel
theorem d_PA_chainOf_16 : decode c_PA_chainOf 16 = .ok (.iconst 1, 1) := by decide +kernel
theorem d_PA_chainOf_17 : decode c_PA_chainOf 17 = .ok (.iadd, 1) := by decide +kernel
theorem d_PA_chainOf_18 : decode c_PA_chainOf 18 = .ok (.baload, 1) := by decide +kernel
theorem d_PA_chainOf_19 : decode c_PA_chainOf 19 = .ok (.sipush 255, 3) := by decide +kernel
theorem d_PA_chainOf_22 : decode c_PA_chainOf 22 = .ok (.iand, 1) := by decide +kernel
theorem d_PA_chainOf_23 : decode c_PA_chainOf 23 = .ok (.istore_n 3, 1) := by decide +kernel
theorem d_PA_chainOf_24 : decode c_PA_chainOf 24 = .ok (.aload_n 0, 1) := by decide +kernel
theorem d_PA_chainOf_25 : decode c_PA_chainOf 25 = .ok (.getfield 18, 3) := by decide +kernel
theorem d_PA_chainOf_28 : decode c_PA_chainOf 28 = .ok (.iload_n 1, 1) := by decide +kernel
theorem d_PA_chainOf_29 : decode c_PA_chainOf 29 = .ok (.iconst 2, 1) := by decide +kernel
theorem d_PA_chainOf_30 : decode c_PA_chainOf 30 = .ok (.iadd, 1) := by decide +kernel
theorem d_PA_chainOf_31 : decode c_PA_chainOf 31 = .ok (.baload, 1) := by decide +kernel
theorem d_PA_chainOf_32 : decode c_PA_chainOf 32 = .ok (.sipush 255, 3) := by decide +kernel
theorem d_PA_chainOf_35 : decode c_PA_chainOf 35 = .ok (.iand, 1) := by decide +kernel
theorem d_PA_chainOf_36 : decode c_PA_chainOf 36 = .ok (.istore 4, 2) := by decide +kernel
theorem d_PA_chainOf_38 : decode c_PA_chainOf 38 = .ok (.iload_n 2, 1) := by decide +kernel
theorem d_PA_chainOf_39 : decode c_PA_chainOf 39 = .ok (.iconst 4, 1) := by decide +kernel
theorem d_PA_chainOf_40 : decode c_PA_chainOf 40 = .ok (.ishl, 1) := by decide +kernel
theorem d_PA_chainOf_41 : decode c_PA_chainOf 41 = .ok (.iload_n 3, 1) := by decide +kernel
theorem d_PA_chainOf_42 : decode c_PA_chainOf 42 = .ok (.iconst 2, 1) := by decide +kernel
theorem d_PA_chainOf_43 : decode c_PA_chainOf 43 = .ok (.ishl, 1) := by decide +kernel
theorem d_PA_chainOf_44 : decode c_PA_chainOf 44 = .ok (.ixor, 1) := by decide +kernel
theorem d_PA_chainOf_45 : decode c_PA_chainOf 45 = .ok (.iload 4, 2) := by decide +kernel
theorem d_PA_chainOf_47 : decode c_PA_chainOf 47 = .ok (.ixor, 1) := by decide +kernel
theorem d_PA_chainOf_48 : decode c_PA_chainOf 48 = .ok (.sipush 4095, 3) := by decide +kernel
theorem d_PA_chainOf_51 : decode c_PA_chainOf 51 = .ok (.iand, 1) := by decide +kernel
theorem d_PA_chainOf_52 : decode c_PA_chainOf 52 = .ok (.ireturn, 1) := by decide +kernel
theorem d_PA_agreement_0 : decode c_PA_agreement 0 = .ok (.iconst 0, 1) := by decide +kernel
theorem d_PA_agreement_1 : decode c_PA_agreement 1 = .ok (.istore 4, 2) := by decide +kernel
theorem d_PA_agreement_3 : decode c_PA_agreement 3 = .ok (.iload 4, 2) := by decide +kernel
theorem d_PA_agreement_5 : decode c_PA_agreement 5 = .ok (.iload_n 3, 1) := by decide +kernel
theorem d_PA_agreement_6 : decode c_PA_agreement 6 = .ok (.if_icmp .ge 30, 3) := by decide +kernel
theorem d_PA_agreement_9 : decode c_PA_agreement 9 = .ok (.aload_n 0, 1) := by decide +kernel
theorem d_PA_agreement_10 : decode c_PA_agreement 10 = .ok (.getfield 18, 3) := by decide +kernel
theorem d_PA_agreement_13 : decode c_PA_agreement 13 = .ok (.iload_n 1, 1) := by decide +kernel
theorem d_PA_agreement_14 : decode c_PA_agreement 14 = .ok (.iload 4, 2) := by decide +kernel
theorem d_PA_agreement_16 : decode c_PA_agreement 16 = .ok (.iadd, 1) := by decide +kernel
theorem d_PA_agreement_17 : decode c_PA_agreement 17 = .ok (.baload, 1) := by decide +kernel
theorem d_PA_agreement_18 : decode c_PA_agreement 18 = .ok (.aload_n 0, 1) := by decide +kernel
theorem d_PA_agreement_19 : decode c_PA_agreement 19 = .ok (.getfield 18, 3) := by decide +kernel
theorem d_PA_agreement_22 : decode c_PA_agreement 22 = .ok (.iload_n 2, 1) := by decide +kernel
theorem d_PA_agreement_23 : decode c_PA_agreement 23 = .ok (.iload 4, 2) := by decide +kernel
theorem d_PA_agreement_25 : decode c_PA_agreement 25 = .ok (.iadd, 1) := by decide +kernel
theorem d_PA_agreement_26 : decode c_PA_agreement 26 = .ok (.baload, 1) := by decide +kernel
theorem d_PA_agreement_27 : decode c_PA_agreement 27 = .ok (.if_icmp .ne 9, 3) := by decide +kernel
theorem d_PA_agreement_30 : decode c_PA_agreement 30 = .ok (.iinc 4 1, 3) := by decide +kernel
theorem d_PA_agreement_33 : decode c_PA_agreement 33 = .ok (.goto (-30), 3) := by decide +kernel
theorem d_PA_agreement_36 : decode c_PA_agreement 36 = .ok (.iload 4, 2) := by decide +kernel
theorem d_PA_agreement_38 : decode c_PA_agreement 38 = .ok (.ireturn, 1) := by decide +kernel
theorem d_PA_putLiteral_0 : decode c_PA_putLiteral 0 = .ok (.iload_n 1, 1) := by decide +kernel
theorem d_PA_putLiteral_1 : decode c_PA_putLiteral 1 = .ok (.sipush 144, 3) := by decide +kernel
theorem d_PA_putLiteral_4 : decode c_PA_putLiteral 4 = .ok (.if_icmp .ge 21, 3) := by decide +kernel
theorem d_PA_putLiteral_7 : decode c_PA_putLiteral 7 = .ok (.aload_n 0, 1) := by decide +kernel
theorem d_PA_putLiteral_8 : decode c_PA_putLiteral 8 = .ok (.bipush 48, 2) := by decide +kernel
theorem d_PA_putLiteral_10 : decode c_PA_putLiteral 10 = .ok (.iload_n 1, 1) := by decide +kernel
theorem d_PA_putLiteral_11 : decode c_PA_putLiteral 11 = .ok (.iadd, 1) := by decide +kernel
theorem d_PA_putLiteral_12 : decode c_PA_putLiteral 12 = .ok (.bipush 8, 2) := by decide +kernel
theorem d_PA_putLiteral_14 : decode c_PA_putLiteral 14 = .ok (.invokestatic 117, 3) := by decide +kernel
theorem d_PA_putLiteral_17 : decode c_PA_putLiteral 17 = .ok (.bipush 8, 2) := by decide +kernel
theorem d_PA_putLiteral_19 : decode c_PA_putLiteral 19 = .ok (.invokevirtual 33, 3) := by decide +kernel
theorem d_PA_putLiteral_22 : decode c_PA_putLiteral 22 = .ok (.goto 79, 3) := by decide +kernel
theorem d_PA_putLiteral_25 : decode c_PA_putLiteral 25 = .ok (.iload_n 1, 1) := by decide +kernel
theorem d_PA_putLiteral_26 : decode c_PA_putLiteral 26 = .ok (.sipush 256, 3) := by decide +kernel
theorem d_PA_putLiteral_29 : decode c_PA_putLiteral 29 = .ok (.if_icmp .ge 26, 3) := by decide +kernel
theorem d_PA_putLiteral_32 : decode c_PA_putLiteral 32 = .ok (.aload_n 0, 1) := by decide +kernel
theorem d_PA_putLiteral_33 : decode c_PA_putLiteral 33 = .ok (.sipush 400, 3) := by decide +kernel
theorem d_PA_putLiteral_36 : decode c_PA_putLiteral 36 = .ok (.iload_n 1, 1) := by decide +kernel
theorem d_PA_putLiteral_37 : decode c_PA_putLiteral 37 = .ok (.iadd, 1) := by decide +kernel
theorem d_PA_putLiteral_38 : decode c_PA_putLiteral 38 = .ok (.sipush 144, 3) := by decide +kernel
theorem d_PA_putLiteral_41 : decode c_PA_putLiteral 41 = .ok (.isub, 1) := by decide +kernel
theorem d_PA_putLiteral_42 : decode c_PA_putLiteral 42 = .ok (.bipush 9, 2) := by decide +kernel
theorem d_PA_putLiteral_44 : decode c_PA_putLiteral 44 = .ok (.invokestatic 117, 3) := by decide +kernel
theorem d_PA_putLiteral_47 : decode c_PA_putLiteral 47 = .ok (.bipush 9, 2) := by decide +kernel
theorem d_PA_putLiteral_49 : decode c_PA_putLiteral 49 = .ok (.invokevirtual 33, 3) := by decide +kernel
theorem d_PA_putLiteral_52 : decode c_PA_putLiteral 52 = .ok (.goto 49, 3) := by decide +kernel
theorem d_PA_putLiteral_55 : decode c_PA_putLiteral 55 = .ok (.iload_n 1, 1) := by decide +kernel
theorem d_PA_putLiteral_56 : decode c_PA_putLiteral 56 = .ok (.sipush 280, 3) := by decide +kernel
theorem d_PA_putLiteral_59 : decode c_PA_putLiteral 59 = .ok (.if_icmp .ge 22, 3) := by decide +kernel
theorem d_PA_putLiteral_62 : decode c_PA_putLiteral 62 = .ok (.aload_n 0, 1) := by decide +kernel
theorem d_PA_putLiteral_63 : decode c_PA_putLiteral 63 = .ok (.iload_n 1, 1) := by decide +kernel
theorem d_PA_putLiteral_64 : decode c_PA_putLiteral 64 = .ok (.sipush 256, 3) := by decide +kernel
theorem d_PA_putLiteral_67 : decode c_PA_putLiteral 67 = .ok (.isub, 1) := by decide +kernel
theorem d_PA_putLiteral_68 : decode c_PA_putLiteral 68 = .ok (.bipush 7, 2) := by decide +kernel
theorem d_PA_putLiteral_70 : decode c_PA_putLiteral 70 = .ok (.invokestatic 117, 3) := by decide +kernel
theorem d_PA_putLiteral_73 : decode c_PA_putLiteral 73 = .ok (.bipush 7, 2) := by decide +kernel
theorem d_PA_putLiteral_75 : decode c_PA_putLiteral 75 = .ok (.invokevirtual 33, 3) := by decide +kernel
theorem d_PA_putLiteral_78 : decode c_PA_putLiteral 78 = .ok (.goto 23, 3) := by decide +kernel
theorem d_PA_putLiteral_81 : decode c_PA_putLiteral 81 = .ok (.aload_n 0, 1) := by decide +kernel
theorem d_PA_putLiteral_82 : decode c_PA_putLiteral 82 = .ok (.sipush 192, 3) := by decide +kernel
theorem d_PA_putLiteral_85 : decode c_PA_putLiteral 85 = .ok (.iload_n 1, 1) := by decide +kernel
theorem d_PA_putLiteral_86 : decode c_PA_putLiteral 86 = .ok (.iadd, 1) := by decide +kernel
theorem d_PA_putLiteral_87 : decode c_PA_putLiteral 87 = .ok (.sipush 280, 3) := by decide +kernel
theorem d_PA_putLiteral_90 : decode c_PA_putLiteral 90 = .ok (.isub, 1) := by decide +kernel
theorem d_PA_putLiteral_91 : decode c_PA_putLiteral 91 = .ok (.bipush 8, 2) := by decide +kernel
theorem d_PA_putLiteral_93 : decode c_PA_putLiteral 93 = .ok (.invokestatic 117, 3) := by decide +kernel
theorem d_PA_putLiteral_96 : decode c_PA_putLiteral 96 = .ok (.bipush 8, 2) := by decide +kernel
theorem d_PA_putLiteral_98 : decode c_PA_putLiteral 98 = .ok (.invokevirtual 33, 3) := by decide +kernel
theorem d_PA_putLiteral_101 : decode c_PA_putLiteral 101 = .ok (.return_, 1) := by decide +kernel
theorem d_PA_turned_0 : decode c_PA_turned 0 = .ok (.iconst 0, 1) := by decide +kernel
theorem d_PA_turned_1 : decode c_PA_turned 1 = .ok (.istore_n 2, 1) := by decide +kernel
theorem d_PA_turned_2 : decode c_PA_turned 2 = .ok (.iconst 0, 1) := by decide +kernel
theorem d_PA_turned_3 : decode c_PA_turned 3 = .ok (.istore_n 3, 1) := by decide +kernel
theorem d_PA_turned_4 : decode c_PA_turned 4 = .ok (.iload_n 3, 1) := by decide +kernel
theorem d_PA_turned_5 : decode c_PA_turned 5 = .ok (.iload_n 1, 1) := by decide +kernel
theorem d_PA_turned_6 : decode c_PA_turned 6 = .ok (.if_icmp .ge 19, 3) := by decide +kernel
theorem d_PA_turned_9 : decode c_PA_turned 9 = .ok (.iload_n 2, 1) := by decide +kernel
theorem d_PA_turned_10 : decode c_PA_turned 10 = .ok (.iconst 1, 1) := by decide +kernel
theorem d_PA_turned_11 : decode c_PA_turned 11 = .ok (.ishl, 1) := by decide +kernel
theorem d_PA_turned_12 : decode c_PA_turned 12 = .ok (.iload_n 0, 1) := by decide +kernel
theorem d_PA_turned_13 : decode c_PA_turned 13 = .ok (.iload_n 3, 1) := by decide +kernel
theorem d_PA_turned_14 : decode c_PA_turned 14 = .ok (.ishr, 1) := by decide +kernel
theorem d_PA_turned_15 : decode c_PA_turned 15 = .ok (.iconst 1, 1) := by decide +kernel
theorem d_PA_turned_16 : decode c_PA_turned 16 = .ok (.iand, 1) := by decide +kernel
theorem d_PA_turned_17 : decode c_PA_turned 17 = .ok (.ior, 1) := by decide +kernel
theorem d_PA_turned_18 : decode c_PA_turned 18 = .ok (.istore_n 2, 1) := by decide +kernel
theorem d_PA_turned_19 : decode c_PA_turned 19 = .ok (.iinc 3 1, 3) := by decide +kernel
theorem d_PA_turned_22 : decode c_PA_turned 22 = .ok (.goto (-18), 3) := by decide +kernel
theorem d_PA_turned_25 : decode c_PA_turned 25 = .ok (.iload_n 2, 1) := by decide +kernel
theorem d_PA_turned_26 : decode c_PA_turned 26 = .ok (.ireturn, 1) := by decide +kernel
theorem d_PA_putCopy_0 : decode c_PA_putCopy 0 = .ok (.getstatic 104, 3) := by decide +kernel
theorem d_PA_putCopy_3 : decode c_PA_putCopy 3 = .ok (.aload_n 0, 1) := by decide +kernel
theorem d_PA_putCopy_4 : decode c_PA_putCopy 4 = .ok (.getfield 75, 3) := by decide +kernel
theorem d_PA_putCopy_7 : decode c_PA_putCopy 7 = .ok (.invokestatic 107, 3) := by decide +kernel
theorem d_PA_putCopy_10 : decode c_PA_putCopy 10 = .ok (.istore_n 1, 1) := by decide +kernel
theorem d_PA_putCopy_11 : decode c_PA_putCopy 11 = .ok (.aload_n 0, 1) := by decide +kernel
theorem d_PA_putCopy_12 : decode c_PA_putCopy 12 = .ok (.sipush 257, 3) := by decide +kernel
theorem d_PA_putCopy_15 : decode c_PA_putCopy 15 = .ok (.iload_n 1, 1) := by decide +kernel
theorem d_PA_putCopy_16 : decode c_PA_putCopy 16 = .ok (.iadd, 1) := by decide +kernel
theorem d_PA_putCopy_17 : decode c_PA_putCopy 17 = .ok (.invokevirtual 40, 3) := by decide +kernel
theorem d_PA_putCopy_20 : decode c_PA_putCopy 20 = .ok (.aload_n 0, 1) := by decide +kernel
theorem d_PA_putCopy_21 : decode c_PA_putCopy 21 = .ok (.aload_n 0, 1) := by decide +kernel
theorem d_PA_putCopy_22 : decode c_PA_putCopy 22 = .ok (.getfield 75, 3) := by decide +kernel
theorem d_PA_putCopy_25 : decode c_PA_putCopy 25 = .ok (.getstatic 104, 3) := by decide +kernel
theorem d_PA_putCopy_28 : decode c_PA_putCopy 28 = .ok (.iload_n 1, 1) := by decide +kernel
theorem d_PA_putCopy_29 : decode c_PA_putCopy 29 = .ok (.iaload, 1) := by decide +kernel
theorem d_PA_putCopy_30 : decode c_PA_putCopy 30 = .ok (.isub, 1) := by decide +kernel
theorem d_PA_putCopy_31 : decode c_PA_putCopy 31 = .ok (.getstatic 111, 3) := by decide +kernel
theorem d_PA_putCopy_34 : decode c_PA_putCopy 34 = .ok (.iload_n 1, 1) := by decide +kernel
theorem d_PA_putCopy_35 : decode c_PA_putCopy 35 = .ok (.iaload, 1) := by decide +kernel
theorem d_PA_putCopy_36 : decode c_PA_putCopy 36 = .ok (.invokevirtual 33, 3) := by decide +kernel
theorem d_PA_putCopy_39 : decode c_PA_putCopy 39 = .ok (.getstatic 114, 3) := by decide +kernel
theorem d_PA_putCopy_42 : decode c_PA_putCopy 42 = .ok (.aload_n 0, 1) := by decide +kernel
theorem d_PA_putCopy_43 : decode c_PA_putCopy 43 = .ok (.getfield 101, 3) := by decide +kernel
theorem d_PA_putCopy_46 : decode c_PA_putCopy 46 = .ok (.invokestatic 107, 3) := by decide +kernel
theorem d_PA_putCopy_49 : decode c_PA_putCopy 49 = .ok (.istore_n 2, 1) := by decide +kernel
theorem d_PA_putCopy_50 : decode c_PA_putCopy 50 = .ok (.aload_n 0, 1) := by decide +kernel
theorem d_PA_putCopy_51 : decode c_PA_putCopy 51 = .ok (.iload_n 2, 1) := by decide +kernel
theorem d_PA_putCopy_52 : decode c_PA_putCopy 52 = .ok (.iconst 5, 1) := by decide +kernel
theorem d_PA_putCopy_53 : decode c_PA_putCopy 53 = .ok (.invokestatic 117, 3) := by decide +kernel
theorem d_PA_putCopy_56 : decode c_PA_putCopy 56 = .ok (.iconst 5, 1) := by decide +kernel
theorem d_PA_putCopy_57 : decode c_PA_putCopy 57 = .ok (.invokevirtual 33, 3) := by decide +kernel
theorem d_PA_putCopy_60 : decode c_PA_putCopy 60 = .ok (.aload_n 0, 1) := by decide +kernel
theorem d_PA_putCopy_61 : decode c_PA_putCopy 61 = .ok (.aload_n 0, 1) := by decide +kernel
theorem d_PA_putCopy_62 : decode c_PA_putCopy 62 = .ok (.getfield 101, 3) := by decide +kernel
theorem d_PA_putCopy_65 : decode c_PA_putCopy 65 = .ok (.getstatic 114, 3) := by decide +kernel
theorem d_PA_putCopy_68 : decode c_PA_putCopy 68 = .ok (.iload_n 2, 1) := by decide +kernel
theorem d_PA_putCopy_69 : decode c_PA_putCopy 69 = .ok (.iaload, 1) := by decide +kernel
theorem d_PA_putCopy_70 : decode c_PA_putCopy 70 = .ok (.isub, 1) := by decide +kernel
theorem d_PA_putCopy_71 : decode c_PA_putCopy 71 = .ok (.getstatic 120, 3) := by decide +kernel
theorem d_PA_putCopy_74 : decode c_PA_putCopy 74 = .ok (.iload_n 2, 1) := by decide +kernel
theorem d_PA_putCopy_75 : decode c_PA_putCopy 75 = .ok (.iaload, 1) := by decide +kernel
theorem d_PA_putCopy_76 : decode c_PA_putCopy 76 = .ok (.invokevirtual 33, 3) := by decide +kernel
theorem d_PA_putCopy_79 : decode c_PA_putCopy 79 = .ok (.return_, 1) := by decide +kernel
theorem d_PA_lastNotAbove_0 : decode c_PA_lastNotAbove 0 = .ok (.iconst 0, 1) := by decide +kernel
theorem d_PA_lastNotAbove_1 : decode c_PA_lastNotAbove 1 = .ok (.istore_n 2, 1) := by decide +kernel
theorem d_PA_lastNotAbove_2 : decode c_PA_lastNotAbove 2 = .ok (.iconst 1, 1) := by decide +kernel
theorem d_PA_lastNotAbove_3 : decode c_PA_lastNotAbove 3 = .ok (.istore_n 3, 1) := by decide +kernel
theorem d_PA_lastNotAbove_4 : decode c_PA_lastNotAbove 4 = .ok (.iload_n 3, 1) := by decide +kernel
theorem d_PA_lastNotAbove_5 : decode c_PA_lastNotAbove 5 = .ok (.aload_n 0, 1) := by decide +kernel
theorem d_PA_lastNotAbove_6 : decode c_PA_lastNotAbove 6 = .ok (.arraylength, 1) := by decide +kernel
theorem d_PA_lastNotAbove_7 : decode c_PA_lastNotAbove 7 = .ok (.if_icmp .ge 18, 3) := by decide +kernel
theorem d_PA_lastNotAbove_10 : decode c_PA_lastNotAbove 10 = .ok (.aload_n 0, 1) := by decide +kernel
theorem d_PA_lastNotAbove_11 : decode c_PA_lastNotAbove 11 = .ok (.iload_n 3, 1) := by decide +kernel
theorem d_PA_lastNotAbove_12 : decode c_PA_lastNotAbove 12 = .ok (.iaload, 1) := by decide +kernel
theorem d_PA_lastNotAbove_13 : decode c_PA_lastNotAbove 13 = .ok (.iload_n 1, 1) := by decide +kernel
theorem d_PA_lastNotAbove_14 : decode c_PA_lastNotAbove 14 = .ok (.if_icmp .gt 11, 3) := by decide +kernel
theorem d_PA_lastNotAbove_17 : decode c_PA_lastNotAbove 17 = .ok (.iload_n 3, 1) := by decide +kernel
theorem d_PA_lastNotAbove_18 : decode c_PA_lastNotAbove 18 = .ok (.istore_n 2, 1) := by decide +kernel
theorem d_PA_lastNotAbove_19 : decode c_PA_lastNotAbove 19 = .ok (.iinc 3 1, 3) := by decide +kernel
theorem d_PA_lastNotAbove_22 : decode c_PA_lastNotAbove 22 = .ok (.goto (-18), 3) := by decide +kernel
theorem d_PA_lastNotAbove_25 : decode c_PA_lastNotAbove 25 = .ok (.iload_n 2, 1) := by decide +kernel
theorem d_PA_lastNotAbove_26 : decode c_PA_lastNotAbove 26 = .ok (.ireturn, 1) := by decide +kernel
theorem d_PA_remember_0 : decode c_PA_remember 0 = .ok (.aload_n 0, 1) := by decide +kernel
theorem d_PA_remember_1 : decode c_PA_remember 1 = .ok (.getfield 63, 3) := by decide +kernel
theorem d_PA_remember_4 : decode c_PA_remember 4 = .ok (.iload_n 1, 1) := by decide +kernel
theorem d_PA_remember_5 : decode c_PA_remember 5 = .ok (.isub, 1) := by decide +kernel
theorem d_PA_remember_6 : decode c_PA_remember 6 = .ok (.iconst 3, 1) := by decide +kernel
theorem d_PA_remember_7 : decode c_PA_remember 7 = .ok (.if_icmp .lt 32, 3) := by decide +kernel
theorem d_PA_remember_10 : decode c_PA_remember 10 = .ok (.aload_n 0, 1) := by decide +kernel
theorem d_PA_remember_11 : decode c_PA_remember 11 = .ok (.iload_n 1, 1) := by decide +kernel
theorem d_PA_remember_12 : decode c_PA_remember 12 = .ok (.invokevirtual 93, 3) := by decide +kernel
theorem d_PA_remember_15 : decode c_PA_remember 15 = .ok (.istore_n 2, 1) := by decide +kernel
theorem d_PA_remember_16 : decode c_PA_remember 16 = .ok (.aload_n 0, 1) := by decide +kernel
theorem d_PA_remember_17 : decode c_PA_remember 17 = .ok (.getfield 15, 3) := by decide +kernel
theorem d_PA_remember_20 : decode c_PA_remember 20 = .ok (.iload_n 1, 1) := by decide +kernel
theorem d_PA_remember_21 : decode c_PA_remember 21 = .ok (.sipush 4096, 3) := by decide +kernel
theorem d_PA_remember_24 : decode c_PA_remember 24 = .ok (.irem, 1) := by decide +kernel
theorem d_PA_remember_25 : decode c_PA_remember 25 = .ok (.aload_n 0, 1) := by decide +kernel
theorem d_PA_remember_26 : decode c_PA_remember 26 = .ok (.getfield 11, 3) := by decide +kernel
theorem d_PA_remember_29 : decode c_PA_remember 29 = .ok (.iload_n 2, 1) := by decide +kernel
theorem d_PA_remember_30 : decode c_PA_remember 30 = .ok (.iaload, 1) := by decide +kernel
theorem d_PA_remember_31 : decode c_PA_remember 31 = .ok (.iastore, 1) := by decide +kernel
theorem d_PA_remember_32 : decode c_PA_remember 32 = .ok (.aload_n 0, 1) := by decide +kernel
theorem d_PA_remember_33 : decode c_PA_remember 33 = .ok (.getfield 11, 3) := by decide +kernel
theorem d_PA_remember_36 : decode c_PA_remember 36 = .ok (.iload_n 2, 1) := by decide +kernel
theorem d_PA_remember_37 : decode c_PA_remember 37 = .ok (.iload_n 1, 1) := by decide +kernel
theorem d_PA_remember_38 : decode c_PA_remember 38 = .ok (.iastore, 1) := by decide +kernel
theorem d_PA_remember_39 : decode c_PA_remember 39 = .ok (.return_, 1) := by decide +kernel
theorem d_PA_putLastBits_0 : decode c_PA_putLastBits 0 = .ok (.aload_n 0, 1) := by decide +kernel
theorem d_PA_putLastBits_1 : decode c_PA_putLastBits 1 = .ok (.getfield 69, 3) := by decide +kernel
theorem d_PA_putLastBits_4 : decode c_PA_putLastBits 4 = .ok (.ifCond .le 11, 3) := by decide +kernel
theorem d_PA_putLastBits_7 : decode c_PA_putLastBits 7 = .ok (.aload_n 0, 1) := by decide +kernel
theorem d_PA_putLastBits_8 : decode c_PA_putLastBits 8 = .ok (.aload_n 0, 1) := by decide +kernel
theorem d_PA_putLastBits_9 : decode c_PA_putLastBits 9 = .ok (.getfield 66, 3) := by decide +kernel
theorem d_PA_putLastBits_12 : decode c_PA_putLastBits 12 = .ok (.invokevirtual 29, 3) := by decide +kernel
theorem d_PA_putLastBits_15 : decode c_PA_putLastBits 15 = .ok (.return_, 1) := by decide +kernel
theorem d_PA_putAdler_0 : decode c_PA_putAdler 0 = .ok (.bipush 24, 2) := by decide +kernel
theorem d_PA_putAdler_2 : decode c_PA_putAdler 2 = .ok (.istore_n 2, 1) := by decide +kernel
theorem d_PA_putAdler_3 : decode c_PA_putAdler 3 = .ok (.iload_n 2, 1) := by decide +kernel
theorem d_PA_putAdler_4 : decode c_PA_putAdler 4 = .ok (.ifCond .lt 16, 3) := by decide +kernel
theorem d_PA_putAdler_7 : decode c_PA_putAdler 7 = .ok (.aload_n 0, 1) := by decide +kernel
theorem d_PA_putAdler_8 : decode c_PA_putAdler 8 = .ok (.iload_n 1, 1) := by decide +kernel
theorem d_PA_putAdler_9 : decode c_PA_putAdler 9 = .ok (.iload_n 2, 1) := by decide +kernel
theorem d_PA_putAdler_10 : decode c_PA_putAdler 10 = .ok (.ishr, 1) := by decide +kernel
theorem d_PA_putAdler_11 : decode c_PA_putAdler 11 = .ok (.invokevirtual 29, 3) := by decide +kernel
theorem d_PA_putAdler_14 : decode c_PA_putAdler 14 = .ok (.iinc 2 (-8), 3) := by decide +kernel
theorem d_PA_putAdler_17 : decode c_PA_putAdler 17 = .ok (.goto (-14), 3) := by decide +kernel
theorem d_PA_putAdler_20 : decode c_PA_putAdler 20 = .ok (.return_, 1) := by decide +kernel
theorem d_LW_word_0 : decode c_LW_word 0 = .ok (.aload_n 2, 1) := by decide +kernel
theorem d_LW_word_1 : decode c_LW_word 1 = .ok (.iconst 0, 1) := by decide +kernel
theorem d_LW_word_2 : decode c_LW_word 2 = .ok (.aload_n 0, 1) := by decide +kernel
theorem d_LW_word_3 : decode c_LW_word 3 = .ok (.iload_n 1, 1) := by decide +kernel
theorem d_LW_word_4 : decode c_LW_word 4 = .ok (.invokevirtual 30, 3) := by decide +kernel
theorem d_LW_word_7 : decode c_LW_word 7 = .ok (.lastore, 1) := by decide +kernel
theorem d_LW_word_8 : decode c_LW_word 8 = .ok (.goto 6, 3) := by decide +kernel
theorem d_LW_word_11 : decode c_LW_word 11 = .ok (.astore_n 3, 1) := by decide +kernel
theorem d_LW_word_12 : decode c_LW_word 12 = .ok (.iconst 1, 1) := by decide +kernel
theorem d_LW_word_13 : decode c_LW_word 13 = .ok (.ireturn, 1) := by decide +kernel
theorem d_LW_word_14 : decode c_LW_word 14 = .ok (.iconst 0, 1) := by decide +kernel
theorem d_LW_word_15 : decode c_LW_word 15 = .ok (.ireturn, 1) := by decide +kernel
theorem d_ZB_word_0 : decode c_ZB_word 0 = .ok (.iload_n 1, 1) := by decide +kernel
theorem d_ZB_word_1 : decode c_ZB_word 1 = .ok (.ifCond .lt 11, 3) := by decide +kernel
theorem d_ZB_word_4 : decode c_ZB_word 4 = .ok (.iload_n 1, 1) := by decide +kernel
theorem d_ZB_word_5 : decode c_ZB_word 5 = .ok (.aload_n 0, 1) := by decide +kernel
theorem d_ZB_word_6 : decode c_ZB_word 6 = .ok (.getfield 53, 3) := by decide +kernel
theorem d_ZB_word_9 : decode c_ZB_word 9 = .ok (.if_icmp .lt 13, 3) := by decide +kernel
theorem d_ZB_word_12 : decode c_ZB_word 12 = .ok (.new 37, 3) := by decide +kernel
theorem d_ZB_word_15 : decode c_ZB_word 15 = .ok (.dup, 1) := by decide +kernel
theorem d_ZB_word_16 : decode c_ZB_word 16 = .ok (.ldc 77, 2) := by decide +kernel
theorem d_ZB_word_18 : decode c_ZB_word 18 = .ok (.invokespecial 41, 3) := by decide +kernel
theorem d_ZB_word_21 : decode c_ZB_word 21 = .ok (.athrow, 1) := by decide +kernel
theorem d_ZB_word_22 : decode c_ZB_word 22 = .ok (.lconst 0, 1) := by decide +kernel
theorem d_ZB_word_23 : decode c_ZB_word 23 = .ok (.lstore_n 2, 1) := by decide +kernel
theorem d_ZB_word_24 : decode c_ZB_word 24 = .ok (.iconst 0, 1) := by decide +kernel
theorem d_ZB_word_25 : decode c_ZB_word 25 = .ok (.istore 4, 2) := by decide +kernel
theorem d_ZB_word_27 : decode c_ZB_word 27 = .ok (.iload 4, 2) := by decide +kernel
theorem d_ZB_word_29 : decode c_ZB_word 29 = .ok (.bipush 8, 2) := by decide +kernel
theorem d_ZB_word_31 : decode c_ZB_word 31 = .ok (.if_icmp .ge 48, 3) := by decide +kernel
theorem d_ZB_word_34 : decode c_ZB_word 34 = .ok (.iload 4, 2) := by decide +kernel
theorem d_ZB_word_36 : decode c_ZB_word 36 = .ok (.aload_n 0, 1) := by decide +kernel
theorem d_ZB_word_37 : decode c_ZB_word 37 = .ok (.getfield 53, 3) := by decide +kernel
theorem d_ZB_word_40 : decode c_ZB_word 40 = .ok (.iload_n 1, 1) := by decide +kernel
theorem d_ZB_word_41 : decode c_ZB_word 41 = .ok (.isub, 1) := by decide +kernel
theorem d_ZB_word_42 : decode c_ZB_word 42 = .ok (.if_icmp .ge 19, 3) := by decide +kernel
theorem d_ZB_word_45 : decode c_ZB_word 45 = .ok (.aload_n 0, 1) := by decide +kernel
theorem d_ZB_word_46 : decode c_ZB_word 46 = .ok (.getfield 13, 3) := by decide +kernel
theorem d_ZB_word_49 : decode c_ZB_word 49 = .ok (.iload_n 1, 1) := by decide +kernel
theorem d_ZB_word_50 : decode c_ZB_word 50 = .ok (.iload 4, 2) := by decide +kernel
theorem d_ZB_word_52 : decode c_ZB_word 52 = .ok (.iadd, 1) := by decide +kernel
theorem d_ZB_word_53 : decode c_ZB_word 53 = .ok (.baload, 1) := by decide +kernel
theorem d_ZB_word_54 : decode c_ZB_word 54 = .ok (.sipush 255, 3) := by decide +kernel
theorem d_ZB_word_57 : decode c_ZB_word 57 = .ok (.iand, 1) := by decide +kernel
theorem d_ZB_word_58 : decode c_ZB_word 58 = .ok (.goto 4, 3) := by decide +kernel
theorem d_ZB_word_61 : decode c_ZB_word 61 = .ok (.iconst 0, 1) := by decide +kernel
theorem d_ZB_word_62 : decode c_ZB_word 62 = .ok (.istore 5, 2) := by decide +kernel
theorem d_ZB_word_64 : decode c_ZB_word 64 = .ok (.lload_n 2, 1) := by decide +kernel
theorem d_ZB_word_65 : decode c_ZB_word 65 = .ok (.bipush 8, 2) := by decide +kernel
theorem d_ZB_word_67 : decode c_ZB_word 67 = .ok (.lshl, 1) := by decide +kernel
theorem d_ZB_word_68 : decode c_ZB_word 68 = .ok (.iload 5, 2) := by decide +kernel
theorem d_ZB_word_70 : decode c_ZB_word 70 = .ok (.i2l, 1) := by decide +kernel
theorem d_ZB_word_71 : decode c_ZB_word 71 = .ok (.lor, 1) := by decide +kernel
theorem d_ZB_word_72 : decode c_ZB_word 72 = .ok (.lstore_n 2, 1) := by decide +kernel
theorem d_ZB_word_73 : decode c_ZB_word 73 = .ok (.iinc 4 1, 3) := by decide +kernel
theorem d_ZB_word_76 : decode c_ZB_word 76 = .ok (.goto (-49), 3) := by decide +kernel
theorem d_ZB_word_79 : decode c_ZB_word 79 = .ok (.lload_n 2, 1) := by decide +kernel
theorem d_ZB_word_80 : decode c_ZB_word 80 = .ok (.lreturn, 1) := by decide +kernel
theorem d_LW_count_0 : decode c_LW_count 0 = .ok (.aload_n 2, 1) := by decide +kernel
theorem d_LW_count_1 : decode c_LW_count 1 = .ok (.iconst 0, 1) := by decide +kernel
theorem d_LW_count_2 : decode c_LW_count 2 = .ok (.aload_n 0, 1) := by decide +kernel
theorem d_LW_count_3 : decode c_LW_count 3 = .ok (.iload_n 1, 1) := by decide +kernel
theorem d_LW_count_4 : decode c_LW_count 4 = .ok (.invokevirtual 34, 3) := by decide +kernel
theorem d_LW_count_7 : decode c_LW_count 7 = .ok (.i2l, 1) := by decide +kernel
theorem d_LW_count_8 : decode c_LW_count 8 = .ok (.lastore, 1) := by decide +kernel
theorem d_LW_count_9 : decode c_LW_count 9 = .ok (.goto 6, 3) := by decide +kernel
theorem d_LW_count_12 : decode c_LW_count 12 = .ok (.astore_n 3, 1) := by decide +kernel
theorem d_LW_count_13 : decode c_LW_count 13 = .ok (.iconst 1, 1) := by decide +kernel
theorem d_LW_count_14 : decode c_LW_count 14 = .ok (.ireturn, 1) := by decide +kernel
theorem d_LW_count_15 : decode c_LW_count 15 = .ok (.iconst 0, 1) := by decide +kernel
theorem d_LW_count_16 : decode c_LW_count 16 = .ok (.ireturn, 1) := by decide +kernel
theorem d_ZB_count_0 : decode c_ZB_count 0 = .ok (.iload_n 1, 1) := by decide +kernel
theorem d_ZB_count_1 : decode c_ZB_count 1 = .ok (.ifCond .ne 8, 3) := by decide +kernel
theorem d_ZB_count_4 : decode c_ZB_count 4 = .ok (.aload_n 0, 1) := by decide +kernel
theorem d_ZB_count_5 : decode c_ZB_count 5 = .ok (.getfield 33, 3) := by decide +kernel
theorem d_ZB_count_8 : decode c_ZB_count 8 = .ok (.ireturn, 1) := by decide +kernel
theorem d_ZB_count_9 : decode c_ZB_count 9 = .ok (.iload_n 1, 1) := by decide +kernel
theorem d_ZB_count_10 : decode c_ZB_count 10 = .ok (.iconst 1, 1) := by decide +kernel
theorem d_ZB_count_11 : decode c_ZB_count 11 = .ok (.if_icmp .ne 8, 3) := by decide +kernel
theorem d_ZB_count_14 : decode c_ZB_count 14 = .ok (.aload_n 0, 1) := by decide +kernel
theorem d_ZB_count_15 : decode c_ZB_count 15 = .ok (.getfield 53, 3) := by decide +kernel
theorem d_ZB_count_18 : decode c_ZB_count 18 = .ok (.ireturn, 1) := by decide +kernel
theorem d_ZB_count_19 : decode c_ZB_count 19 = .ok (.new 48, 3) := by decide +kernel
theorem d_ZB_count_22 : decode c_ZB_count 22 = .ok (.dup, 1) := by decide +kernel
theorem d_ZB_count_23 : decode c_ZB_count 23 = .ok (.ldc 79, 2) := by decide +kernel
theorem d_ZB_count_25 : decode c_ZB_count 25 = .ok (.invokespecial 52, 3) := by decide +kernel
theorem d_ZB_count_28 : decode c_ZB_count 28 = .ok (.athrow, 1) := by decide +kernel
theorem d_MO_init_0 : decode c_MO_init 0 = .ok (.aload_n 0, 1) := by decide +kernel
theorem d_MO_init_1 : decode c_MO_init 1 = .ok (.invokespecial 1, 3) := by decide +kernel
theorem d_MO_init_4 : decode c_MO_init 4 = .ok (.aload_n 0, 1) := by decide +kernel
theorem d_MO_init_5 : decode c_MO_init 5 = .ok (.sipush 16384, 3) := by decide +kernel
theorem d_MO_init_8 : decode c_MO_init 8 = .ok (.newarray .byte, 2) := by decide +kernel
theorem d_MO_init_10 : decode c_MO_init 10 = .ok (.putfield 7, 3) := by decide +kernel
theorem d_MO_init_13 : decode c_MO_init 13 = .ok (.aload_n 0, 1) := by decide +kernel
theorem d_MO_init_14 : decode c_MO_init 14 = .ok (.sipush 16384, 3) := by decide +kernel
theorem d_MO_init_17 : decode c_MO_init 17 = .ok (.newarray .byte, 2) := by decide +kernel
theorem d_MO_init_19 : decode c_MO_init 19 = .ok (.putfield 13, 3) := by decide +kernel
theorem d_MO_init_22 : decode c_MO_init 22 = .ok (.aload_n 0, 1) := by decide +kernel
theorem d_MO_init_23 : decode c_MO_init 23 = .ok (.sipush 16384, 3) := by decide +kernel
theorem d_MO_init_26 : decode c_MO_init 26 = .ok (.newarray .byte, 2) := by decide +kernel
theorem d_MO_init_28 : decode c_MO_init 28 = .ok (.putfield 16, 3) := by decide +kernel
theorem d_MO_init_31 : decode c_MO_init 31 = .ok (.aload_n 0, 1) := by decide +kernel
theorem d_MO_init_32 : decode c_MO_init 32 = .ok (.sipush 16640, 3) := by decide +kernel
theorem d_MO_init_35 : decode c_MO_init 35 = .ok (.newarray .byte, 2) := by decide +kernel
theorem d_MO_init_37 : decode c_MO_init 37 = .ok (.putfield 19, 3) := by decide +kernel
theorem d_MO_init_40 : decode c_MO_init 40 = .ok (.aload_n 0, 1) := by decide +kernel
theorem d_MO_init_41 : decode c_MO_init 41 = .ok (.new 22, 3) := by decide +kernel
theorem d_MO_init_44 : decode c_MO_init 44 = .ok (.dup, 1) := by decide +kernel
theorem d_MO_init_45 : decode c_MO_init 45 = .ok (.invokespecial 24, 3) := by decide +kernel
theorem d_MO_init_48 : decode c_MO_init 48 = .ok (.putfield 25, 3) := by decide +kernel
theorem d_MO_init_51 : decode c_MO_init 51 = .ok (.aload_n 0, 1) := by decide +kernel
theorem d_MO_init_52 : decode c_MO_init 52 = .ok (.new 22, 3) := by decide +kernel
theorem d_MO_init_55 : decode c_MO_init 55 = .ok (.dup, 1) := by decide +kernel
theorem d_MO_init_56 : decode c_MO_init 56 = .ok (.invokespecial 24, 3) := by decide +kernel
theorem d_MO_init_59 : decode c_MO_init 59 = .ok (.putfield 29, 3) := by decide +kernel
theorem d_MO_init_62 : decode c_MO_init 62 = .ok (.aload_n 0, 1) := by decide +kernel
theorem d_MO_init_63 : decode c_MO_init 63 = .ok (.new 22, 3) := by decide +kernel
theorem d_MO_init_66 : decode c_MO_init 66 = .ok (.dup, 1) := by decide +kernel
theorem d_MO_init_67 : decode c_MO_init 67 = .ok (.invokespecial 24, 3) := by decide +kernel
theorem d_MO_init_70 : decode c_MO_init 70 = .ok (.putfield 32, 3) := by decide +kernel
theorem d_MO_init_73 : decode c_MO_init 73 = .ok (.aload_n 0, 1) := by decide +kernel
theorem d_MO_init_74 : decode c_MO_init 74 = .ok (.sipush 640, 3) := by decide +kernel
theorem d_MO_init_77 : decode c_MO_init 77 = .ok (.newarray .int, 2) := by decide +kernel
theorem d_MO_init_79 : decode c_MO_init 79 = .ok (.putfield 35, 3) := by decide +kernel
theorem d_MO_init_82 : decode c_MO_init 82 = .ok (.aload_n 0, 1) := by decide +kernel
theorem d_MO_init_83 : decode c_MO_init 83 = .ok (.ldc 39, 2) := by decide +kernel
theorem d_MO_init_85 : decode c_MO_init 85 = .ok (.newarray .byte, 2) := by decide +kernel
theorem d_MO_init_87 : decode c_MO_init 87 = .ok (.putfield 40, 3) := by decide +kernel
theorem d_MO_init_90 : decode c_MO_init 90 = .ok (.aload_n 0, 1) := by decide +kernel
theorem d_MO_init_91 : decode c_MO_init 91 = .ok (.ldc 39, 2) := by decide +kernel
theorem d_MO_init_93 : decode c_MO_init 93 = .ok (.newarray .int, 2) := by decide +kernel
theorem d_MO_init_95 : decode c_MO_init 95 = .ok (.putfield 43, 3) := by decide +kernel
theorem d_MO_init_98 : decode c_MO_init 98 = .ok (.aload_n 0, 1) := by decide +kernel
theorem d_MO_init_99 : decode c_MO_init 99 = .ok (.sipush 16640, 3) := by decide +kernel
theorem d_MO_init_102 : decode c_MO_init 102 = .ok (.newarray .int, 2) := by decide +kernel
theorem d_MO_init_104 : decode c_MO_init 104 = .ok (.putfield 46, 3) := by decide +kernel
theorem d_MO_init_107 : decode c_MO_init 107 = .ok (.return_, 1) := by decide +kernel
theorem d_MC_init_0 : decode c_MC_init 0 = .ok (.aload_n 0, 1) := by decide +kernel
theorem d_MC_init_1 : decode c_MC_init 1 = .ok (.invokespecial 1, 3) := by decide +kernel
theorem d_MC_init_4 : decode c_MC_init 4 = .ok (.aload_n 0, 1) := by decide +kernel
theorem d_MC_init_5 : decode c_MC_init 5 = .ok (.bipush 16, 2) := by decide +kernel
theorem d_MC_init_7 : decode c_MC_init 7 = .ok (.newarray .int, 2) := by decide +kernel
theorem d_MC_init_9 : decode c_MC_init 9 = .ok (.putfield 7, 3) := by decide +kernel
theorem d_MC_init_12 : decode c_MC_init 12 = .ok (.aload_n 0, 1) := by decide +kernel
theorem d_MC_init_13 : decode c_MC_init 13 = .ok (.sipush 320, 3) := by decide +kernel
theorem d_MC_init_16 : decode c_MC_init 16 = .ok (.newarray .int, 2) := by decide +kernel
theorem d_MC_init_18 : decode c_MC_init 18 = .ok (.putfield 13, 3) := by decide +kernel
theorem d_MC_init_21 : decode c_MC_init 21 = .ok (.return_, 1) := by decide +kernel
theorem d_MO_thrown_0 : decode c_MO_thrown 0 = .ok (.aload_n 0, 1) := by decide +kernel
theorem d_MO_thrown_1 : decode c_MO_thrown 1 = .ok (.getfield 49, 3) := by decide +kernel
theorem d_MO_thrown_4 : decode c_MO_thrown 4 = .ok (.ireturn, 1) := by decide +kernel
theorem d_MO_unpack_0 : decode c_MO_unpack 0 = .ok (.aload_n 0, 1) := by decide +kernel
theorem d_MO_unpack_1 : decode c_MO_unpack 1 = .ok (.iconst 0, 1) := by decide +kernel
theorem d_MO_unpack_2 : decode c_MO_unpack 2 = .ok (.putfield 49, 3) := by decide +kernel
theorem d_MO_unpack_5 : decode c_MO_unpack 5 = .ok (.iconst 0, 1) := by decide +kernel
theorem d_MO_unpack_6 : decode c_MO_unpack 6 = .ok (.istore_n 1, 1) := by decide +kernel
theorem d_MO_unpack_7 : decode c_MO_unpack 7 = .ok (.iload_n 1, 1) := by decide +kernel
theorem d_MO_unpack_8 : decode c_MO_unpack 8 = .ok (.aload_n 0, 1) := by decide +kernel
theorem d_MO_unpack_9 : decode c_MO_unpack 9 = .ok (.getfield 165, 3) := by decide +kernel
theorem d_MO_unpack_12 : decode c_MO_unpack 12 = .ok (.if_icmp .ge 21, 3) := by decide +kernel
theorem d_MO_unpack_15 : decode c_MO_unpack 15 = .ok (.aload_n 0, 1) := by decide +kernel
theorem d_MO_unpack_16 : decode c_MO_unpack 16 = .ok (.getfield 16, 3) := by decide +kernel
theorem d_MO_unpack_19 : decode c_MO_unpack 19 = .ok (.iload_n 1, 1) := by decide +kernel
theorem d_MO_unpack_20 : decode c_MO_unpack 20 = .ok (.aload_n 0, 1) := by decide +kernel
theorem d_MO_unpack_21 : decode c_MO_unpack 21 = .ok (.getfield 7, 3) := by decide +kernel
theorem d_MO_unpack_24 : decode c_MO_unpack 24 = .ok (.iload_n 1, 1) := by decide +kernel
theorem d_MO_unpack_25 : decode c_MO_unpack 25 = .ok (.baload, 1) := by decide +kernel
theorem d_MO_unpack_26 : decode c_MO_unpack 26 = .ok (.bastore, 1) := by decide +kernel
theorem d_MO_unpack_27 : decode c_MO_unpack 27 = .ok (.iinc 1 1, 3) := by decide +kernel
theorem d_MO_unpack_30 : decode c_MO_unpack 30 = .ok (.goto (-23), 3) := by decide +kernel
theorem d_MO_unpack_33 : decode c_MO_unpack 33 = .ok (.aload_n 0, 1) := by decide +kernel
theorem d_MO_unpack_34 : decode c_MO_unpack 34 = .ok (.aload_n 0, 1) := by decide +kernel
theorem d_MO_unpack_35 : decode c_MO_unpack 35 = .ok (.getfield 165, 3) := by decide +kernel
theorem d_MO_unpack_38 : decode c_MO_unpack 38 = .ok (.putfield 59, 3) := by decide +kernel
theorem d_MO_unpack_41 : decode c_MO_unpack 41 = .ok (.aload_n 0, 1) := by decide +kernel
theorem d_MO_unpack_42 : decode c_MO_unpack 42 = .ok (.iconst 0, 1) := by decide +kernel
theorem d_MO_unpack_43 : decode c_MO_unpack 43 = .ok (.putfield 165, 3) := by decide +kernel
theorem d_MO_unpack_46 : decode c_MO_unpack 46 = .ok (.aload_n 0, 1) := by decide +kernel
theorem d_MO_unpack_47 : decode c_MO_unpack 47 = .ok (.invokevirtual 168, 3) := by decide +kernel
theorem d_MO_unpack_50 : decode c_MO_unpack 50 = .ok (.goto 17, 3) := by decide +kernel
theorem d_MO_unpack_53 : decode c_MO_unpack 53 = .ok (.astore_n 1, 1) := by decide +kernel
theorem d_MO_unpack_54 : decode c_MO_unpack 54 = .ok (.aload_n 0, 1) := by decide +kernel
theorem d_MO_unpack_55 : decode c_MO_unpack 55 = .ok (.iconst 1, 1) := by decide +kernel
theorem d_MO_unpack_56 : decode c_MO_unpack 56 = .ok (.invokevirtual 171, 3) := by decide +kernel
theorem d_MO_unpack_59 : decode c_MO_unpack 59 = .ok (.ireturn, 1) := by decide +kernel
theorem d_MO_unpack_60 : decode c_MO_unpack 60 = .ok (.astore_n 1, 1) := by decide +kernel
theorem d_MO_unpack_61 : decode c_MO_unpack 61 = .ok (.aload_n 0, 1) := by decide +kernel
theorem d_MO_unpack_62 : decode c_MO_unpack 62 = .ok (.iconst 2, 1) := by decide +kernel
theorem d_MO_unpack_63 : decode c_MO_unpack 63 = .ok (.invokevirtual 171, 3) := by decide +kernel
theorem d_MO_unpack_66 : decode c_MO_unpack 66 = .ok (.ireturn, 1) := by decide +kernel
theorem d_MO_unpack_67 : decode c_MO_unpack 67 = .ok (.aload_n 0, 1) := by decide +kernel
theorem d_MO_unpack_68 : decode c_MO_unpack 68 = .ok (.aload_n 0, 1) := by decide +kernel
theorem d_MO_unpack_69 : decode c_MO_unpack 69 = .ok (.getfield 90, 3) := by decide +kernel
theorem d_MO_unpack_72 : decode c_MO_unpack 72 = .ok (.putfield 174, 3) := by decide +kernel
theorem d_MO_unpack_75 : decode c_MO_unpack 75 = .ok (.iconst 0, 1) := by decide +kernel
theorem d_MO_unpack_76 : decode c_MO_unpack 76 = .ok (.istore_n 1, 1) := by decide +kernel
theorem d_MO_unpack_77 : decode c_MO_unpack 77 = .ok (.iload_n 1, 1) := by decide +kernel
theorem d_MO_unpack_78 : decode c_MO_unpack 78 = .ok (.aload_n 0, 1) := by decide +kernel
theorem d_MO_unpack_79 : decode c_MO_unpack 79 = .ok (.getfield 174, 3) := by decide +kernel
theorem d_MO_unpack_82 : decode c_MO_unpack 82 = .ok (.if_icmp .ge 21, 3) := by decide +kernel
theorem d_MO_unpack_85 : decode c_MO_unpack 85 = .ok (.aload_n 0, 1) := by decide +kernel
theorem d_MO_unpack_86 : decode c_MO_unpack 86 = .ok (.getfield 13, 3) := by decide +kernel
theorem d_MO_unpack_89 : decode c_MO_unpack 89 = .ok (.iload_n 1, 1) := by decide +kernel
theorem d_MO_unpack_90 : decode c_MO_unpack 90 = .ok (.aload_n 0, 1) := by decide +kernel
theorem d_MO_unpack_91 : decode c_MO_unpack 91 = .ok (.getfield 19, 3) := by decide +kernel
theorem d_MO_unpack_94 : decode c_MO_unpack 94 = .ok (.iload_n 1, 1) := by decide +kernel
theorem d_MO_unpack_95 : decode c_MO_unpack 95 = .ok (.baload, 1) := by decide +kernel
theorem d_MO_unpack_96 : decode c_MO_unpack 96 = .ok (.bastore, 1) := by decide +kernel
theorem d_MO_unpack_97 : decode c_MO_unpack 97 = .ok (.iinc 1 1, 3) := by decide +kernel
theorem d_MO_unpack_100 : decode c_MO_unpack 100 = .ok (.goto (-23), 3) := by decide +kernel
theorem d_MO_unpack_103 : decode c_MO_unpack 103 = .ok (.aload_n 0, 1) := by decide +kernel
theorem d_MO_unpack_104 : decode c_MO_unpack 104 = .ok (.getfield 174, 3) := by decide +kernel
theorem d_MO_unpack_107 : decode c_MO_unpack 107 = .ok (.ireturn, 1) := by decide +kernel
theorem d_MO_inflate_0 : decode c_MO_inflate 0 = .ok (.aload_n 0, 1) := by decide +kernel
theorem d_MO_inflate_1 : decode c_MO_inflate 1 = .ok (.aload_n 0, 1) := by decide +kernel
theorem d_MO_inflate_2 : decode c_MO_inflate 2 = .ok (.getfield 59, 3) := by decide +kernel
theorem d_MO_inflate_5 : decode c_MO_inflate 5 = .ok (.iconst 1, 1) := by decide +kernel
theorem d_MO_inflate_6 : decode c_MO_inflate 6 = .ok (.if_icmp .le 7, 3) := by decide +kernel
theorem d_MO_inflate_9 : decode c_MO_inflate 9 = .ok (.iconst 1, 1) := by decide +kernel
theorem d_MO_inflate_10 : decode c_MO_inflate 10 = .ok (.goto 4, 3) := by decide +kernel
theorem d_MO_inflate_13 : decode c_MO_inflate 13 = .ok (.iconst 0, 1) := by decide +kernel
theorem d_MO_inflate_14 : decode c_MO_inflate 14 = .ok (.invokevirtual 62, 3) := by decide +kernel
theorem d_MO_inflate_17 : decode c_MO_inflate 17 = .ok (.aload_n 0, 1) := by decide +kernel
theorem d_MO_inflate_18 : decode c_MO_inflate 18 = .ok (.getfield 16, 3) := by decide +kernel
theorem d_MO_inflate_21 : decode c_MO_inflate 21 = .ok (.iconst 0, 1) := by decide +kernel
theorem d_MO_inflate_22 : decode c_MO_inflate 22 = .ok (.baload, 1) := by decide +kernel
theorem d_MO_inflate_23 : decode c_MO_inflate 23 = .ok (.sipush 255, 3) := by decide +kernel
theorem d_MO_inflate_26 : decode c_MO_inflate 26 = .ok (.iand, 1) := by decide +kernel
theorem d_MO_inflate_27 : decode c_MO_inflate 27 = .ok (.istore_n 1, 1) := by decide +kernel
theorem d_MO_inflate_28 : decode c_MO_inflate 28 = .ok (.aload_n 0, 1) := by decide +kernel
theorem d_MO_inflate_29 : decode c_MO_inflate 29 = .ok (.getfield 16, 3) := by decide +kernel
theorem d_MO_inflate_32 : decode c_MO_inflate 32 = .ok (.iconst 1, 1) := by decide +kernel
theorem d_MO_inflate_33 : decode c_MO_inflate 33 = .ok (.baload, 1) := by decide +kernel
theorem d_MO_inflate_34 : decode c_MO_inflate 34 = .ok (.sipush 255, 3) := by decide +kernel
theorem d_MO_inflate_37 : decode c_MO_inflate 37 = .ok (.iand, 1) := by decide +kernel
theorem d_MO_inflate_38 : decode c_MO_inflate 38 = .ok (.istore_n 2, 1) := by decide +kernel
theorem d_MO_inflate_39 : decode c_MO_inflate 39 = .ok (.aload_n 0, 1) := by decide +kernel
theorem d_MO_inflate_40 : decode c_MO_inflate 40 = .ok (.iload_n 1, 1) := by decide +kernel
theorem d_MO_inflate_41 : decode c_MO_inflate 41 = .ok (.bipush 16, 2) := by decide +kernel
theorem d_MO_inflate_43 : decode c_MO_inflate 43 = .ok (.irem, 1) := by decide +kernel
theorem d_MO_inflate_44 : decode c_MO_inflate 44 = .ok (.bipush 8, 2) := by decide +kernel
theorem d_MO_inflate_46 : decode c_MO_inflate 46 = .ok (.if_icmp .ne 38, 3) := by decide +kernel
theorem d_MO_inflate_49 : decode c_MO_inflate 49 = .ok (.iload_n 1, 1) := by decide +kernel
theorem d_MO_inflate_50 : decode c_MO_inflate 50 = .ok (.bipush 16, 2) := by decide +kernel
theorem d_MO_inflate_52 : decode c_MO_inflate 52 = .ok (.idiv, 1) := by decide +kernel
theorem d_MO_inflate_53 : decode c_MO_inflate 53 = .ok (.bipush 7, 2) := by decide +kernel
theorem d_MO_inflate_55 : decode c_MO_inflate 55 = .ok (.if_icmp .gt 29, 3) := by decide +kernel
theorem d_MO_inflate_58 : decode c_MO_inflate 58 = .ok (.sipush 256, 3) := by decide +kernel
theorem d_MO_inflate_61 : decode c_MO_inflate 61 = .ok (.iload_n 1, 1) := by decide +kernel
theorem d_MO_inflate_62 : decode c_MO_inflate 62 = .ok (.imul, 1) := by decide +kernel
theorem d_MO_inflate_63 : decode c_MO_inflate 63 = .ok (.iload_n 2, 1) := by decide +kernel
theorem d_MO_inflate_64 : decode c_MO_inflate 64 = .ok (.iadd, 1) := by decide +kernel
theorem d_MO_inflate_65 : decode c_MO_inflate 65 = .ok (.bipush 31, 2) := by decide +kernel
theorem d_MO_inflate_67 : decode c_MO_inflate 67 = .ok (.irem, 1) := by decide +kernel
theorem d_MO_inflate_68 : decode c_MO_inflate 68 = .ok (.ifCond .ne 16, 3) := by decide +kernel
theorem d_MO_inflate_71 : decode c_MO_inflate 71 = .ok (.iload_n 2, 1) := by decide +kernel
theorem d_MO_inflate_72 : decode c_MO_inflate 72 = .ok (.bipush 32, 2) := by decide +kernel
theorem d_MO_inflate_74 : decode c_MO_inflate 74 = .ok (.idiv, 1) := by decide +kernel
theorem d_MO_inflate_75 : decode c_MO_inflate 75 = .ok (.iconst 2, 1) := by decide +kernel
theorem d_MO_inflate_76 : decode c_MO_inflate 76 = .ok (.irem, 1) := by decide +kernel
theorem d_MO_inflate_77 : decode c_MO_inflate 77 = .ok (.ifCond .ne 7, 3) := by decide +kernel
theorem d_MO_inflate_80 : decode c_MO_inflate 80 = .ok (.iconst 1, 1) := by decide +kernel
theorem d_MO_inflate_81 : decode c_MO_inflate 81 = .ok (.goto 4, 3) := by decide +kernel
theorem d_MO_inflate_84 : decode c_MO_inflate 84 = .ok (.iconst 0, 1) := by decide +kernel
theorem d_MO_inflate_85 : decode c_MO_inflate 85 = .ok (.invokevirtual 62, 3) := by decide +kernel
theorem d_MO_inflate_88 : decode c_MO_inflate 88 = .ok (.aload_n 0, 1) := by decide +kernel
theorem d_MO_inflate_89 : decode c_MO_inflate 89 = .ok (.bipush 16, 2) := by decide +kernel
theorem d_MO_inflate_91 : decode c_MO_inflate 91 = .ok (.putfield 56, 3) := by decide +kernel
theorem d_MO_inflate_94 : decode c_MO_inflate 94 = .ok (.aload_n 0, 1) := by decide +kernel
theorem d_MO_inflate_95 : decode c_MO_inflate 95 = .ok (.iconst 0, 1) := by decide +kernel
theorem d_MO_inflate_96 : decode c_MO_inflate 96 = .ok (.putfield 90, 3) := by decide +kernel
theorem d_MO_inflate_99 : decode c_MO_inflate 99 = .ok (.iconst 0, 1) := by decide +kernel
theorem d_MO_inflate_100 : decode c_MO_inflate 100 = .ok (.istore_n 3, 1) := by decide +kernel
theorem d_MO_inflate_101 : decode c_MO_inflate 101 = .ok (.iload_n 3, 1) := by decide +kernel
theorem d_MO_inflate_102 : decode c_MO_inflate 102 = .ok (.ifCond .ne 146, 3) := by decide +kernel
theorem d_MO_inflate_105 : decode c_MO_inflate 105 = .ok (.aload_n 0, 1) := by decide +kernel
theorem d_MO_inflate_106 : decode c_MO_inflate 106 = .ok (.iconst 1, 1) := by decide +kernel
theorem d_MO_inflate_107 : decode c_MO_inflate 107 = .ok (.invokevirtual 66, 3) := by decide +kernel
theorem d_MO_inflate_110 : decode c_MO_inflate 110 = .ok (.iconst 1, 1) := by decide +kernel
theorem d_MO_inflate_111 : decode c_MO_inflate 111 = .ok (.if_icmp .ne 7, 3) := by decide +kernel
theorem d_MO_inflate_114 : decode c_MO_inflate 114 = .ok (.iconst 1, 1) := by decide +kernel
theorem d_MO_inflate_115 : decode c_MO_inflate 115 = .ok (.goto 4, 3) := by decide +kernel
theorem d_MO_inflate_118 : decode c_MO_inflate 118 = .ok (.iconst 0, 1) := by decide +kernel
theorem d_MO_inflate_119 : decode c_MO_inflate 119 = .ok (.istore_n 3, 1) := by decide +kernel
theorem d_MO_inflate_120 : decode c_MO_inflate 120 = .ok (.aload_n 0, 1) := by decide +kernel
theorem d_MO_inflate_121 : decode c_MO_inflate 121 = .ok (.iconst 2, 1) := by decide +kernel
theorem d_MO_inflate_122 : decode c_MO_inflate 122 = .ok (.invokevirtual 66, 3) := by decide +kernel
theorem d_MO_inflate_125 : decode c_MO_inflate 125 = .ok (.istore 4, 2) := by decide +kernel
theorem d_MO_inflate_127 : decode c_MO_inflate 127 = .ok (.aload_n 0, 1) := by decide +kernel
theorem d_MO_inflate_128 : decode c_MO_inflate 128 = .ok (.iload 4, 2) := by decide +kernel
theorem d_MO_inflate_130 : decode c_MO_inflate 130 = .ok (.iconst 3, 1) := by decide +kernel
theorem d_MO_inflate_131 : decode c_MO_inflate 131 = .ok (.if_icmp .ge 7, 3) := by decide +kernel
theorem d_MO_inflate_134 : decode c_MO_inflate 134 = .ok (.iconst 1, 1) := by decide +kernel
theorem d_MO_inflate_135 : decode c_MO_inflate 135 = .ok (.goto 4, 3) := by decide +kernel
theorem d_MO_inflate_138 : decode c_MO_inflate 138 = .ok (.iconst 0, 1) := by decide +kernel
theorem d_MO_inflate_139 : decode c_MO_inflate 139 = .ok (.invokevirtual 62, 3) := by decide +kernel
theorem d_MO_inflate_142 : decode c_MO_inflate 142 = .ok (.iload 4, 2) := by decide +kernel
theorem d_MO_inflate_144 : decode c_MO_inflate 144 = .ok (.ifCond .ne 80, 3) := by decide +kernel
theorem d_MO_inflate_147 : decode c_MO_inflate 147 = .ok (.aload_n 0, 1) := by decide +kernel
theorem d_MO_inflate_148 : decode c_MO_inflate 148 = .ok (.aload_n 0, 1) := by decide +kernel
theorem d_MO_inflate_149 : decode c_MO_inflate 149 = .ok (.getfield 56, 3) := by decide +kernel
theorem d_MO_inflate_152 : decode c_MO_inflate 152 = .ok (.bipush 7, 2) := by decide +kernel
theorem d_MO_inflate_154 : decode c_MO_inflate 154 = .ok (.iadd, 1) := by decide +kernel
theorem d_MO_inflate_155 : decode c_MO_inflate 155 = .ok (.bipush 8, 2) := by decide +kernel
theorem d_MO_inflate_157 : decode c_MO_inflate 157 = .ok (.idiv, 1) := by decide +kernel
theorem d_MO_inflate_158 : decode c_MO_inflate 158 = .ok (.bipush 8, 2) := by decide +kernel
theorem d_MO_inflate_160 : decode c_MO_inflate 160 = .ok (.imul, 1) := by decide +kernel
theorem d_MO_inflate_161 : decode c_MO_inflate 161 = .ok (.putfield 56, 3) := by decide +kernel
theorem d_MO_inflate_164 : decode c_MO_inflate 164 = .ok (.aload_n 0, 1) := by decide +kernel
theorem d_MO_inflate_165 : decode c_MO_inflate 165 = .ok (.bipush 16, 2) := by decide +kernel
theorem d_MO_inflate_167 : decode c_MO_inflate 167 = .ok (.invokevirtual 66, 3) := by decide +kernel
theorem d_MO_inflate_170 : decode c_MO_inflate 170 = .ok (.istore 5, 2) := by decide +kernel
theorem d_MO_inflate_172 : decode c_MO_inflate 172 = .ok (.aload_n 0, 1) := by decide +kernel
theorem d_MO_inflate_173 : decode c_MO_inflate 173 = .ok (.aload_n 0, 1) := by decide +kernel
theorem d_MO_inflate_174 : decode c_MO_inflate 174 = .ok (.bipush 16, 2) := by decide +kernel
theorem d_MO_inflate_176 : decode c_MO_inflate 176 = .ok (.invokevirtual 66, 3) := by decide +kernel
theorem d_MO_inflate_179 : decode c_MO_inflate 179 = .ok (.ldc 107, 2) := by decide +kernel
theorem d_MO_inflate_181 : decode c_MO_inflate 181 = .ok (.iload 5, 2) := by decide +kernel
theorem d_MO_inflate_183 : decode c_MO_inflate 183 = .ok (.isub, 1) := by decide +kernel
theorem d_MO_inflate_184 : decode c_MO_inflate 184 = .ok (.if_icmp .ne 7, 3) := by decide +kernel
theorem d_MO_inflate_187 : decode c_MO_inflate 187 = .ok (.iconst 1, 1) := by decide +kernel
theorem d_MO_inflate_188 : decode c_MO_inflate 188 = .ok (.goto 4, 3) := by decide +kernel
theorem d_MO_inflate_191 : decode c_MO_inflate 191 = .ok (.iconst 0, 1) := by decide +kernel
theorem d_MO_inflate_192 : decode c_MO_inflate 192 = .ok (.invokevirtual 62, 3) := by decide +kernel
theorem d_MO_inflate_195 : decode c_MO_inflate 195 = .ok (.iconst 0, 1) := by decide +kernel
theorem d_MO_inflate_196 : decode c_MO_inflate 196 = .ok (.istore 6, 2) := by decide +kernel
theorem d_MO_inflate_198 : decode c_MO_inflate 198 = .ok (.iload 6, 2) := by decide +kernel
theorem d_MO_inflate_200 : decode c_MO_inflate 200 = .ok (.iload 5, 2) := by decide +kernel
theorem d_MO_inflate_202 : decode c_MO_inflate 202 = .ok (.if_icmp .ge 19, 3) := by decide +kernel
theorem d_MO_inflate_205 : decode c_MO_inflate 205 = .ok (.aload_n 0, 1) := by decide +kernel
theorem d_MO_inflate_206 : decode c_MO_inflate 206 = .ok (.aload_n 0, 1) := by decide +kernel
theorem d_MO_inflate_207 : decode c_MO_inflate 207 = .ok (.bipush 8, 2) := by decide +kernel
theorem d_MO_inflate_209 : decode c_MO_inflate 209 = .ok (.invokevirtual 66, 3) := by decide +kernel
theorem d_MO_inflate_212 : decode c_MO_inflate 212 = .ok (.invokevirtual 96, 3) := by decide +kernel
theorem d_MO_inflate_215 : decode c_MO_inflate 215 = .ok (.iinc 6 1, 3) := by decide +kernel
theorem d_MO_inflate_218 : decode c_MO_inflate 218 = .ok (.goto (-20), 3) := by decide +kernel
theorem d_MO_inflate_221 : decode c_MO_inflate 221 = .ok (.goto (-120), 3) := by decide +kernel
theorem d_MO_inflate_224 : decode c_MO_inflate 224 = .ok (.iload 4, 2) := by decide +kernel
theorem d_MO_inflate_226 : decode c_MO_inflate 226 = .ok (.iconst 1, 1) := by decide +kernel
theorem d_MO_inflate_227 : decode c_MO_inflate 227 = .ok (.if_icmp .ne 10, 3) := by decide +kernel
theorem d_MO_inflate_230 : decode c_MO_inflate 230 = .ok (.aload_n 0, 1) := by decide +kernel
theorem d_MO_inflate_231 : decode c_MO_inflate 231 = .ok (.invokevirtual 108, 3) := by decide +kernel
theorem d_MO_inflate_234 : decode c_MO_inflate 234 = .ok (.goto 7, 3) := by decide +kernel
theorem d_MO_inflate_237 : decode c_MO_inflate 237 = .ok (.aload_n 0, 1) := by decide +kernel
theorem d_MO_inflate_238 : decode c_MO_inflate 238 = .ok (.invokevirtual 111, 3) := by decide +kernel
theorem d_MO_inflate_241 : decode c_MO_inflate 241 = .ok (.aload_n 0, 1) := by decide +kernel
theorem d_MO_inflate_242 : decode c_MO_inflate 242 = .ok (.invokevirtual 114, 3) := by decide +kernel
theorem d_MO_inflate_245 : decode c_MO_inflate 245 = .ok (.goto (-144), 3) := by decide +kernel
theorem d_MO_inflate_248 : decode c_MO_inflate 248 = .ok (.aload_n 0, 1) := by decide +kernel
theorem d_MO_inflate_249 : decode c_MO_inflate 249 = .ok (.aload_n 0, 1) := by decide +kernel
theorem d_MO_inflate_250 : decode c_MO_inflate 250 = .ok (.getfield 56, 3) := by decide +kernel
theorem d_MO_inflate_253 : decode c_MO_inflate 253 = .ok (.bipush 7, 2) := by decide +kernel
theorem d_MO_inflate_255 : decode c_MO_inflate 255 = .ok (.iadd, 1) := by decide +kernel
theorem d_MO_inflate_256 : decode c_MO_inflate 256 = .ok (.bipush 8, 2) := by decide +kernel
theorem d_MO_inflate_258 : decode c_MO_inflate 258 = .ok (.idiv, 1) := by decide +kernel
theorem d_MO_inflate_259 : decode c_MO_inflate 259 = .ok (.bipush 8, 2) := by decide +kernel
theorem d_MO_inflate_261 : decode c_MO_inflate 261 = .ok (.imul, 1) := by decide +kernel
theorem d_MO_inflate_262 : decode c_MO_inflate 262 = .ok (.putfield 56, 3) := by decide +kernel
theorem d_MO_inflate_265 : decode c_MO_inflate 265 = .ok (.lconst 0, 1) := by decide +kernel
theorem d_MO_inflate_266 : decode c_MO_inflate 266 = .ok (.lstore 4, 2) := by decide +kernel
theorem d_MO_inflate_268 : decode c_MO_inflate 268 = .ok (.iconst 0, 1) := by decide +kernel
theorem d_MO_inflate_269 : decode c_MO_inflate 269 = .ok (.istore 6, 2) := by decide +kernel
theorem d_MO_inflate_271 : decode c_MO_inflate 271 = .ok (.iload 6, 2) := by decide +kernel
theorem d_MO_inflate_273 : decode c_MO_inflate 273 = .ok (.iconst 4, 1) := by decide +kernel
theorem d_MO_inflate_274 : decode c_MO_inflate 274 = .ok (.if_icmp .ge 25, 3) := by decide +kernel
theorem d_MO_inflate_277 : decode c_MO_inflate 277 = .ok (.lload 4, 2) := by decide +kernel
theorem d_MO_inflate_279 : decode c_MO_inflate 279 = .ok (.ldc2_w 117, 3) := by decide +kernel
theorem d_MO_inflate_282 : decode c_MO_inflate 282 = .ok (.lmul, 1) := by decide +kernel
theorem d_MO_inflate_283 : decode c_MO_inflate 283 = .ok (.aload_n 0, 1) := by decide +kernel
theorem d_MO_inflate_284 : decode c_MO_inflate 284 = .ok (.bipush 8, 2) := by decide +kernel
theorem d_MO_inflate_286 : decode c_MO_inflate 286 = .ok (.invokevirtual 66, 3) := by decide +kernel
theorem d_MO_inflate_289 : decode c_MO_inflate 289 = .ok (.i2l, 1) := by decide +kernel
theorem d_MO_inflate_290 : decode c_MO_inflate 290 = .ok (.ladd, 1) := by decide +kernel
theorem d_MO_inflate_291 : decode c_MO_inflate 291 = .ok (.lstore 4, 2) := by decide +kernel
theorem d_MO_inflate_293 : decode c_MO_inflate 293 = .ok (.iinc 6 1, 3) := by decide +kernel
theorem d_MO_inflate_296 : decode c_MO_inflate 296 = .ok (.goto (-25), 3) := by decide +kernel
theorem d_MO_inflate_299 : decode c_MO_inflate 299 = .ok (.aload_n 0, 1) := by decide +kernel
theorem d_MO_inflate_300 : decode c_MO_inflate 300 = .ok (.lload 4, 2) := by decide +kernel
theorem d_MO_inflate_302 : decode c_MO_inflate 302 = .ok (.aload_n 0, 1) := by decide +kernel
theorem d_MO_inflate_303 : decode c_MO_inflate 303 = .ok (.getfield 19, 3) := by decide +kernel
theorem d_MO_inflate_306 : decode c_MO_inflate 306 = .ok (.aload_n 0, 1) := by decide +kernel
theorem d_MO_inflate_307 : decode c_MO_inflate 307 = .ok (.getfield 90, 3) := by decide +kernel
theorem d_MO_inflate_310 : decode c_MO_inflate 310 = .ok (.invokestatic 119, 3) := by decide +kernel
theorem d_MO_inflate_313 : decode c_MO_inflate 313 = .ok (.lcmp, 1) := by decide +kernel
theorem d_MO_inflate_314 : decode c_MO_inflate 314 = .ok (.ifCond .ne 21, 3) := by decide +kernel
theorem d_MO_inflate_317 : decode c_MO_inflate 317 = .ok (.aload_n 0, 1) := by decide +kernel
theorem d_MO_inflate_318 : decode c_MO_inflate 318 = .ok (.getfield 56, 3) := by decide +kernel
theorem d_MO_inflate_321 : decode c_MO_inflate 321 = .ok (.bipush 8, 2) := by decide +kernel
theorem d_MO_inflate_323 : decode c_MO_inflate 323 = .ok (.aload_n 0, 1) := by decide +kernel
theorem d_MO_inflate_324 : decode c_MO_inflate 324 = .ok (.getfield 59, 3) := by decide +kernel
theorem d_MO_inflate_327 : decode c_MO_inflate 327 = .ok (.imul, 1) := by decide +kernel
theorem d_MO_inflate_328 : decode c_MO_inflate 328 = .ok (.if_icmp .ne 7, 3) := by decide +kernel
theorem d_MO_inflate_331 : decode c_MO_inflate 331 = .ok (.iconst 1, 1) := by decide +kernel
theorem d_MO_inflate_332 : decode c_MO_inflate 332 = .ok (.goto 4, 3) := by decide +kernel
theorem d_MO_inflate_335 : decode c_MO_inflate 335 = .ok (.iconst 0, 1) := by decide +kernel
theorem d_MO_inflate_336 : decode c_MO_inflate 336 = .ok (.invokevirtual 62, 3) := by decide +kernel
theorem d_MO_inflate_339 : decode c_MO_inflate 339 = .ok (.return_, 1) := by decide +kernel
theorem d_MO_can_0 : decode c_MO_can 0 = .ok (.iload_n 1, 1) := by decide +kernel
theorem d_MO_can_1 : decode c_MO_can 1 = .ok (.ifCond .ne 11, 3) := by decide +kernel
theorem d_MO_can_4 : decode c_MO_can 4 = .ok (.new 53, 3) := by decide +kernel
theorem d_MO_can_7 : decode c_MO_can 7 = .ok (.dup, 1) := by decide +kernel
theorem d_MO_can_8 : decode c_MO_can 8 = .ok (.invokespecial 55, 3) := by decide +kernel
theorem d_MO_can_11 : decode c_MO_can 11 = .ok (.athrow, 1) := by decide +kernel
theorem d_MO_can_12 : decode c_MO_can 12 = .ok (.return_, 1) := by decide +kernel
theorem d_MO_bits_0 : decode c_MO_bits 0 = .ok (.iconst 0, 1) := by decide +kernel
theorem d_MO_bits_1 : decode c_MO_bits 1 = .ok (.istore_n 2, 1) := by decide +kernel
theorem d_MO_bits_2 : decode c_MO_bits 2 = .ok (.iconst 0, 1) := by decide +kernel
theorem d_MO_bits_3 : decode c_MO_bits 3 = .ok (.istore_n 3, 1) := by decide +kernel
theorem d_MO_bits_4 : decode c_MO_bits 4 = .ok (.iload_n 3, 1) := by decide +kernel
theorem d_MO_bits_5 : decode c_MO_bits 5 = .ok (.iload_n 1, 1) := by decide +kernel
theorem d_MO_bits_6 : decode c_MO_bits 6 = .ok (.if_icmp .ge 68, 3) := by decide +kernel
theorem d_MO_bits_9 : decode c_MO_bits 9 = .ok (.aload_n 0, 1) := by decide +kernel
theorem d_MO_bits_10 : decode c_MO_bits 10 = .ok (.aload_n 0, 1) := by decide +kernel
theorem d_MO_bits_11 : decode c_MO_bits 11 = .ok (.getfield 56, 3) := by decide +kernel
theorem d_MO_bits_14 : decode c_MO_bits 14 = .ok (.bipush 8, 2) := by decide +kernel
theorem d_MO_bits_16 : decode c_MO_bits 16 = .ok (.aload_n 0, 1) := by decide +kernel
theorem d_MO_bits_17 : decode c_MO_bits 17 = .ok (.getfield 59, 3) := by decide +kernel
theorem d_MO_bits_20 : decode c_MO_bits 20 = .ok (.imul, 1) := by decide +kernel
theorem d_MO_bits_21 : decode c_MO_bits 21 = .ok (.if_icmp .ge 7, 3) := by decide +kernel
theorem d_MO_bits_24 : decode c_MO_bits 24 = .ok (.iconst 1, 1) := by decide +kernel
theorem d_MO_bits_25 : decode c_MO_bits 25 = .ok (.goto 4, 3) := by decide +kernel
theorem d_MO_bits_28 : decode c_MO_bits 28 = .ok (.iconst 0, 1) := by decide +kernel
theorem d_MO_bits_29 : decode c_MO_bits 29 = .ok (.invokevirtual 62, 3) := by decide +kernel
theorem d_MO_bits_32 : decode c_MO_bits 32 = .ok (.iload_n 2, 1) := by decide +kernel
theorem d_MO_bits_33 : decode c_MO_bits 33 = .ok (.aload_n 0, 1) := by decide +kernel
theorem d_MO_bits_34 : decode c_MO_bits 34 = .ok (.getfield 16, 3) := by decide +kernel
theorem d_MO_bits_37 : decode c_MO_bits 37 = .ok (.aload_n 0, 1) := by decide +kernel
theorem d_MO_bits_38 : decode c_MO_bits 38 = .ok (.getfield 56, 3) := by decide +kernel
theorem d_MO_bits_41 : decode c_MO_bits 41 = .ok (.iconst 3, 1) := by decide +kernel
theorem d_MO_bits_42 : decode c_MO_bits 42 = .ok (.ishr, 1) := by decide +kernel
theorem d_MO_bits_43 : decode c_MO_bits 43 = .ok (.baload, 1) := by decide +kernel
theorem d_MO_bits_44 : decode c_MO_bits 44 = .ok (.aload_n 0, 1) := by decide +kernel
theorem d_MO_bits_45 : decode c_MO_bits 45 = .ok (.getfield 56, 3) := by decide +kernel
theorem d_MO_bits_48 : decode c_MO_bits 48 = .ok (.bipush 7, 2) := by decide +kernel
theorem d_MO_bits_50 : decode c_MO_bits 50 = .ok (.iand, 1) := by decide +kernel
theorem d_MO_bits_51 : decode c_MO_bits 51 = .ok (.ishr, 1) := by decide +kernel
theorem d_MO_bits_52 : decode c_MO_bits 52 = .ok (.iconst 1, 1) := by decide +kernel
theorem d_MO_bits_53 : decode c_MO_bits 53 = .ok (.iand, 1) := by decide +kernel
theorem d_MO_bits_54 : decode c_MO_bits 54 = .ok (.iload_n 3, 1) := by decide +kernel
theorem d_MO_bits_55 : decode c_MO_bits 55 = .ok (.ishl, 1) := by decide +kernel
theorem d_MO_bits_56 : decode c_MO_bits 56 = .ok (.ior, 1) := by decide +kernel
theorem d_MO_bits_57 : decode c_MO_bits 57 = .ok (.istore_n 2, 1) := by decide +kernel
theorem d_MO_bits_58 : decode c_MO_bits 58 = .ok (.aload_n 0, 1) := by decide +kernel
theorem d_MO_bits_59 : decode c_MO_bits 59 = .ok (.dup, 1) := by decide +kernel
theorem d_MO_bits_60 : decode c_MO_bits 60 = .ok (.getfield 56, 3) := by decide +kernel
theorem d_MO_bits_63 : decode c_MO_bits 63 = .ok (.iconst 1, 1) := by decide +kernel
theorem d_MO_bits_64 : decode c_MO_bits 64 = .ok (.iadd, 1) := by decide +kernel
theorem d_MO_bits_65 : decode c_MO_bits 65 = .ok (.putfield 56, 3) := by decide +kernel
theorem d_MO_bits_68 : decode c_MO_bits 68 = .ok (.iinc 3 1, 3) := by decide +kernel
theorem d_MO_bits_71 : decode c_MO_bits 71 = .ok (.goto (-67), 3) := by decide +kernel
theorem d_MO_bits_74 : decode c_MO_bits 74 = .ok (.iload_n 2, 1) := by decide +kernel
theorem d_MO_bits_75 : decode c_MO_bits 75 = .ok (.ireturn, 1) := by decide +kernel
theorem d_MO_give_0 : decode c_MO_give 0 = .ok (.aload_n 0, 1) := by decide +kernel
theorem d_MO_give_1 : decode c_MO_give 1 = .ok (.getfield 90, 3) := by decide +kernel
theorem d_MO_give_4 : decode c_MO_give 4 = .ok (.sipush 16384, 3) := by decide +kernel
theorem d_MO_give_7 : decode c_MO_give 7 = .ok (.if_icmp .ne 11, 3) := by decide +kernel
theorem d_MO_give_10 : decode c_MO_give 10 = .ok (.new 93, 3) := by decide +kernel
theorem d_MO_give_13 : decode c_MO_give 13 = .ok (.dup, 1) := by decide +kernel
theorem d_MO_give_14 : decode c_MO_give 14 = .ok (.invokespecial 95, 3) := by decide +kernel
theorem d_MO_give_17 : decode c_MO_give 17 = .ok (.athrow, 1) := by decide +kernel
theorem d_MO_give_18 : decode c_MO_give 18 = .ok (.aload_n 0, 1) := by decide +kernel
theorem d_MO_give_19 : decode c_MO_give 19 = .ok (.getfield 19, 3) := by decide +kernel
theorem d_MO_give_22 : decode c_MO_give 22 = .ok (.aload_n 0, 1) := by decide +kernel
theorem d_MO_give_23 : decode c_MO_give 23 = .ok (.getfield 90, 3) := by decide +kernel
theorem d_MO_give_26 : decode c_MO_give 26 = .ok (.iload_n 1, 1) := by decide +kernel
theorem d_MO_give_27 : decode c_MO_give 27 = .ok (.i2b, 1) := by decide +kernel
theorem d_MO_give_28 : decode c_MO_give 28 = .ok (.bastore, 1) := by decide +kernel
theorem d_MO_give_29 : decode c_MO_give 29 = .ok (.aload_n 0, 1) := by decide +kernel
theorem d_MO_give_30 : decode c_MO_give 30 = .ok (.dup, 1) := by decide +kernel
theorem d_MO_give_31 : decode c_MO_give 31 = .ok (.getfield 90, 3) := by decide +kernel
theorem d_MO_give_34 : decode c_MO_give 34 = .ok (.iconst 1, 1) := by decide +kernel
theorem d_MO_give_35 : decode c_MO_give 35 = .ok (.iadd, 1) := by decide +kernel
theorem d_MO_give_36 : decode c_MO_give 36 = .ok (.putfield 90, 3) := by decide +kernel
theorem d_MO_give_39 : decode c_MO_give 39 = .ok (.return_, 1) := by decide +kernel
theorem d_MO_fixedCodes_0 : decode c_MO_fixedCodes 0 = .ok (.iconst 0, 1) := by decide +kernel
theorem d_MO_fixedCodes_1 : decode c_MO_fixedCodes 1 = .ok (.istore_n 1, 1) := by decide +kernel
theorem d_MO_fixedCodes_2 : decode c_MO_fixedCodes 2 = .ok (.iload_n 1, 1) := by decide +kernel
theorem d_MO_fixedCodes_3 : decode c_MO_fixedCodes 3 = .ok (.sipush 288, 3) := by decide +kernel
theorem d_MO_fixedCodes_6 : decode c_MO_fixedCodes 6 = .ok (.if_icmp .ge 53, 3) := by decide +kernel
theorem d_MO_fixedCodes_9 : decode c_MO_fixedCodes 9 = .ok (.aload_n 0, 1) := by decide +kernel
theorem d_MO_fixedCodes_10 : decode c_MO_fixedCodes 10 = .ok (.getfield 35, 3) := by decide +kernel
theorem d_MO_fixedCodes_13 : decode c_MO_fixedCodes 13 = .ok (.iload_n 1, 1) := by decide +kernel
theorem d_MO_fixedCodes_14 : decode c_MO_fixedCodes 14 = .ok (.iload_n 1, 1) := by decide +kernel
theorem d_MO_fixedCodes_15 : decode c_MO_fixedCodes 15 = .ok (.sipush 144, 3) := by decide +kernel
theorem d_MO_fixedCodes_18 : decode c_MO_fixedCodes 18 = .ok (.if_icmp .ge 8, 3) := by decide +kernel
theorem d_MO_fixedCodes_21 : decode c_MO_fixedCodes 21 = .ok (.bipush 8, 2) := by decide +kernel
theorem d_MO_fixedCodes_23 : decode c_MO_fixedCodes 23 = .ok (.goto 29, 3) := by decide +kernel
theorem d_MO_fixedCodes_26 : decode c_MO_fixedCodes 26 = .ok (.iload_n 1, 1) := by decide +kernel
theorem d_MO_fixedCodes_27 : decode c_MO_fixedCodes 27 = .ok (.sipush 256, 3) := by decide +kernel
theorem d_MO_fixedCodes_30 : decode c_MO_fixedCodes 30 = .ok (.if_icmp .ge 8, 3) := by decide +kernel
theorem d_MO_fixedCodes_33 : decode c_MO_fixedCodes 33 = .ok (.bipush 9, 2) := by decide +kernel
theorem d_MO_fixedCodes_35 : decode c_MO_fixedCodes 35 = .ok (.goto 17, 3) := by decide +kernel
theorem d_MO_fixedCodes_38 : decode c_MO_fixedCodes 38 = .ok (.iload_n 1, 1) := by decide +kernel
theorem d_MO_fixedCodes_39 : decode c_MO_fixedCodes 39 = .ok (.sipush 280, 3) := by decide +kernel
theorem d_MO_fixedCodes_42 : decode c_MO_fixedCodes 42 = .ok (.if_icmp .ge 8, 3) := by decide +kernel
theorem d_MO_fixedCodes_45 : decode c_MO_fixedCodes 45 = .ok (.bipush 7, 2) := by decide +kernel
theorem d_MO_fixedCodes_47 : decode c_MO_fixedCodes 47 = .ok (.goto 5, 3) := by decide +kernel
theorem d_MO_fixedCodes_50 : decode c_MO_fixedCodes 50 = .ok (.bipush 8, 2) := by decide +kernel
theorem d_MO_fixedCodes_52 : decode c_MO_fixedCodes 52 = .ok (.iastore, 1) := by decide +kernel
theorem d_MO_fixedCodes_53 : decode c_MO_fixedCodes 53 = .ok (.iinc 1 1, 3) := by decide +kernel
theorem d_MO_fixedCodes_56 : decode c_MO_fixedCodes 56 = .ok (.goto (-54), 3) := by decide +kernel
theorem d_MO_fixedCodes_59 : decode c_MO_fixedCodes 59 = .ok (.aload_n 0, 1) := by decide +kernel
theorem d_MO_fixedCodes_60 : decode c_MO_fixedCodes 60 = .ok (.getfield 25, 3) := by decide +kernel
theorem d_MO_fixedCodes_63 : decode c_MO_fixedCodes 63 = .ok (.aload_n 0, 1) := by decide +kernel
theorem d_MO_fixedCodes_64 : decode c_MO_fixedCodes 64 = .ok (.getfield 35, 3) := by decide +kernel
theorem d_MO_fixedCodes_67 : decode c_MO_fixedCodes 67 = .ok (.iconst 0, 1) := by decide +kernel
theorem d_MO_fixedCodes_68 : decode c_MO_fixedCodes 68 = .ok (.sipush 288, 3) := by decide +kernel
theorem d_MO_fixedCodes_71 : decode c_MO_fixedCodes 71 = .ok (.invokevirtual 76, 3) := by decide +kernel
theorem d_MO_fixedCodes_74 : decode c_MO_fixedCodes 74 = .ok (.istore_n 1, 1) := by decide +kernel
theorem d_MO_fixedCodes_75 : decode c_MO_fixedCodes 75 = .ok (.iconst 0, 1) := by decide +kernel
theorem d_MO_fixedCodes_76 : decode c_MO_fixedCodes 76 = .ok (.istore_n 2, 1) := by decide +kernel
theorem d_MO_fixedCodes_77 : decode c_MO_fixedCodes 77 = .ok (.iload_n 2, 1) := by decide +kernel
theorem d_MO_fixedCodes_78 : decode c_MO_fixedCodes 78 = .ok (.bipush 32, 2) := by decide +kernel
theorem d_MO_fixedCodes_80 : decode c_MO_fixedCodes 80 = .ok (.if_icmp .ge 16, 3) := by decide +kernel
theorem d_MO_fixedCodes_83 : decode c_MO_fixedCodes 83 = .ok (.aload_n 0, 1) := by decide +kernel
theorem d_MO_fixedCodes_84 : decode c_MO_fixedCodes 84 = .ok (.getfield 35, 3) := by decide +kernel
theorem d_MO_fixedCodes_87 : decode c_MO_fixedCodes 87 = .ok (.iload_n 2, 1) := by decide +kernel
theorem d_MO_fixedCodes_88 : decode c_MO_fixedCodes 88 = .ok (.iconst 5, 1) := by decide +kernel
theorem d_MO_fixedCodes_89 : decode c_MO_fixedCodes 89 = .ok (.iastore, 1) := by decide +kernel
theorem d_MO_fixedCodes_90 : decode c_MO_fixedCodes 90 = .ok (.iinc 2 1, 3) := by decide +kernel
theorem d_MO_fixedCodes_93 : decode c_MO_fixedCodes 93 = .ok (.goto (-16), 3) := by decide +kernel
theorem d_MO_fixedCodes_96 : decode c_MO_fixedCodes 96 = .ok (.aload_n 0, 1) := by decide +kernel
theorem d_MO_fixedCodes_97 : decode c_MO_fixedCodes 97 = .ok (.getfield 29, 3) := by decide +kernel
theorem d_MO_fixedCodes_100 : decode c_MO_fixedCodes 100 = .ok (.aload_n 0, 1) := by decide +kernel
theorem d_MO_fixedCodes_101 : decode c_MO_fixedCodes 101 = .ok (.getfield 35, 3) := by decide +kernel
theorem d_MO_fixedCodes_104 : decode c_MO_fixedCodes 104 = .ok (.iconst 0, 1) := by decide +kernel
theorem d_MO_fixedCodes_105 : decode c_MO_fixedCodes 105 = .ok (.bipush 32, 2) := by decide +kernel
theorem d_MO_fixedCodes_107 : decode c_MO_fixedCodes 107 = .ok (.invokevirtual 76, 3) := by decide +kernel
theorem d_MO_fixedCodes_110 : decode c_MO_fixedCodes 110 = .ok (.istore_n 1, 1) := by decide +kernel
theorem d_MO_fixedCodes_111 : decode c_MO_fixedCodes 111 = .ok (.return_, 1) := by decide +kernel
