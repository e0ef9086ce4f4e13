/-! rows that decode: printed by wip/whole/znames.py -/
theorem d_MC_make_0 : decode c_MC_make 0 = .ok (.iconst 0, 1) := by decide +kernel
theorem d_MC_make_1 : decode c_MC_make 1 = .ok (.istore 4, 2) := by decide +kernel
theorem d_MC_make_3 : decode c_MC_make 3 = .ok (.iload 4, 2) := by decide +kernel
theorem d_MC_make_5 : decode c_MC_make 5 = .ok (.bipush 16, 2) := by decide +kernel
theorem d_MC_make_7 : decode c_MC_make 7 = .ok (.if_icmp .ge 17, 3) := by decide +kernel
theorem d_MC_make_10 : decode c_MC_make 10 = .ok (.aload_n 0, 1) := by decide +kernel
theorem d_MC_make_11 : decode c_MC_make 11 = .ok (.getfield 7, 3) := by decide +kernel
theorem d_MC_make_14 : decode c_MC_make 14 = .ok (.iload 4, 2) := by decide +kernel
theorem d_MC_make_16 : decode c_MC_make 16 = .ok (.iconst 0, 1) := by decide +kernel
theorem d_MC_make_17 : decode c_MC_make 17 = .ok (.iastore, 1) := by decide +kernel
theorem d_MC_make_18 : decode c_MC_make 18 = .ok (.iinc 4 1, 3) := by decide +kernel
theorem d_MC_make_21 : decode c_MC_make 21 = .ok (.goto (-18), 3) := by decide +kernel
theorem d_MC_make_24 : decode c_MC_make 24 = .ok (.aload_n 0, 1) := by decide +kernel
theorem d_MC_make_25 : decode c_MC_make 25 = .ok (.iconst 0, 1) := by decide +kernel
theorem d_MC_make_26 : decode c_MC_make 26 = .ok (.putfield 16, 3) := by decide +kernel
theorem d_MC_make_29 : decode c_MC_make 29 = .ok (.iconst 1, 1) := by decide +kernel
theorem d_MC_make_30 : decode c_MC_make 30 = .ok (.istore 4, 2) := by decide +kernel
theorem d_MC_make_32 : decode c_MC_make 32 = .ok (.iload 4, 2) := by decide +kernel
theorem d_MC_make_34 : decode c_MC_make 34 = .ok (.bipush 16, 2) := by decide +kernel
theorem d_MC_make_36 : decode c_MC_make 36 = .ok (.if_icmp .ge 70, 3) := by decide +kernel
theorem d_MC_make_39 : decode c_MC_make 39 = .ok (.iconst 0, 1) := by decide +kernel
theorem d_MC_make_40 : decode c_MC_make 40 = .ok (.istore 5, 2) := by decide +kernel
theorem d_MC_make_42 : decode c_MC_make 42 = .ok (.iload 5, 2) := by decide +kernel
theorem d_MC_make_44 : decode c_MC_make 44 = .ok (.iload_n 3, 1) := by decide +kernel
theorem d_MC_make_45 : decode c_MC_make 45 = .ok (.if_icmp .ge 55, 3) := by decide +kernel
theorem d_MC_make_48 : decode c_MC_make 48 = .ok (.aload_n 1, 1) := by decide +kernel
theorem d_MC_make_49 : decode c_MC_make 49 = .ok (.iload_n 2, 1) := by decide +kernel
theorem d_MC_make_50 : decode c_MC_make 50 = .ok (.iload 5, 2) := by decide +kernel
theorem d_MC_make_52 : decode c_MC_make 52 = .ok (.iadd, 1) := by decide +kernel
theorem d_MC_make_53 : decode c_MC_make 53 = .ok (.iaload, 1) := by decide +kernel
theorem d_MC_make_54 : decode c_MC_make 54 = .ok (.iload 4, 2) := by decide +kernel
theorem d_MC_make_56 : decode c_MC_make 56 = .ok (.if_icmp .eq 6, 3) := by decide +kernel
theorem d_MC_make_59 : decode c_MC_make 59 = .ok (.goto 35, 3) := by decide +kernel
theorem d_MC_make_62 : decode c_MC_make 62 = .ok (.aload_n 0, 1) := by decide +kernel
theorem d_MC_make_63 : decode c_MC_make 63 = .ok (.getfield 7, 3) := by decide +kernel
theorem d_MC_make_66 : decode c_MC_make 66 = .ok (.iload 4, 2) := by decide +kernel
theorem d_MC_make_68 : decode c_MC_make 68 = .ok (.dup2, 1) := by decide +kernel
theorem d_MC_make_69 : decode c_MC_make 69 = .ok (.iaload, 1) := by decide +kernel
theorem d_MC_make_70 : decode c_MC_make 70 = .ok (.iconst 1, 1) := by decide +kernel
theorem d_MC_make_71 : decode c_MC_make 71 = .ok (.iadd, 1) := by decide +kernel
theorem d_MC_make_72 : decode c_MC_make 72 = .ok (.iastore, 1) := by decide +kernel
theorem d_MC_make_73 : decode c_MC_make 73 = .ok (.aload_n 0, 1) := by decide +kernel
theorem d_MC_make_74 : decode c_MC_make 74 = .ok (.getfield 13, 3) := by decide +kernel
theorem d_MC_make_77 : decode c_MC_make 77 = .ok (.aload_n 0, 1) := by decide +kernel
theorem d_MC_make_78 : decode c_MC_make 78 = .ok (.getfield 16, 3) := by decide +kernel
theorem d_MC_make_81 : decode c_MC_make 81 = .ok (.iload 5, 2) := by decide +kernel
theorem d_MC_make_83 : decode c_MC_make 83 = .ok (.iastore, 1) := by decide +kernel
theorem d_MC_make_84 : decode c_MC_make 84 = .ok (.aload_n 0, 1) := by decide +kernel
theorem d_MC_make_85 : decode c_MC_make 85 = .ok (.dup, 1) := by decide +kernel
theorem d_MC_make_86 : decode c_MC_make 86 = .ok (.getfield 16, 3) := by decide +kernel
theorem d_MC_make_89 : decode c_MC_make 89 = .ok (.iconst 1, 1) := by decide +kernel
theorem d_MC_make_90 : decode c_MC_make 90 = .ok (.iadd, 1) := by decide +kernel
theorem d_MC_make_91 : decode c_MC_make 91 = .ok (.putfield 16, 3) := by decide +kernel
theorem d_MC_make_94 : decode c_MC_make 94 = .ok (.iinc 5 1, 3) := by decide +kernel
theorem d_MC_make_97 : decode c_MC_make 97 = .ok (.goto (-55), 3) := by decide +kernel
theorem d_MC_make_100 : decode c_MC_make 100 = .ok (.iinc 4 1, 3) := by decide +kernel
theorem d_MC_make_103 : decode c_MC_make 103 = .ok (.goto (-71), 3) := by decide +kernel
theorem d_MC_make_106 : decode c_MC_make 106 = .ok (.ldc 20, 2) := by decide +kernel
theorem d_MC_make_108 : decode c_MC_make 108 = .ok (.istore 4, 2) := by decide +kernel
theorem d_MC_make_110 : decode c_MC_make 110 = .ok (.iconst 1, 1) := by decide +kernel
theorem d_MC_make_111 : decode c_MC_make 111 = .ok (.istore 5, 2) := by decide +kernel
theorem d_MC_make_113 : decode c_MC_make 113 = .ok (.iload 5, 2) := by decide +kernel
theorem d_MC_make_115 : decode c_MC_make 115 = .ok (.bipush 16, 2) := by decide +kernel
theorem d_MC_make_117 : decode c_MC_make 117 = .ok (.if_icmp .ge 27, 3) := by decide +kernel
theorem d_MC_make_120 : decode c_MC_make 120 = .ok (.iload 4, 2) := by decide +kernel
theorem d_MC_make_122 : decode c_MC_make 122 = .ok (.aload_n 0, 1) := by decide +kernel
theorem d_MC_make_123 : decode c_MC_make 123 = .ok (.getfield 7, 3) := by decide +kernel
theorem d_MC_make_126 : decode c_MC_make 126 = .ok (.iload 5, 2) := by decide +kernel
theorem d_MC_make_128 : decode c_MC_make 128 = .ok (.iaload, 1) := by decide +kernel
theorem d_MC_make_129 : decode c_MC_make 129 = .ok (.bipush 15, 2) := by decide +kernel
theorem d_MC_make_131 : decode c_MC_make 131 = .ok (.iload 5, 2) := by decide +kernel
theorem d_MC_make_133 : decode c_MC_make 133 = .ok (.isub, 1) := by decide +kernel
theorem d_MC_make_134 : decode c_MC_make 134 = .ok (.ishl, 1) := by decide +kernel
theorem d_MC_make_135 : decode c_MC_make 135 = .ok (.isub, 1) := by decide +kernel
theorem d_MC_make_136 : decode c_MC_make 136 = .ok (.istore 4, 2) := by decide +kernel
theorem d_MC_make_138 : decode c_MC_make 138 = .ok (.iinc 5 1, 3) := by decide +kernel
theorem d_MC_make_141 : decode c_MC_make 141 = .ok (.goto (-28), 3) := by decide +kernel
theorem d_MC_make_144 : decode c_MC_make 144 = .ok (.iload 4, 2) := by decide +kernel
theorem d_MC_make_146 : decode c_MC_make 146 = .ok (.ireturn, 1) := by decide +kernel
theorem d_MO_toldCodes_0 : decode c_MO_toldCodes 0 = .ok (.aload_n 0, 1) := by decide +kernel
theorem d_MO_toldCodes_1 : decode c_MO_toldCodes 1 = .ok (.iconst 5, 1) := by decide +kernel
theorem d_MO_toldCodes_2 : decode c_MO_toldCodes 2 = .ok (.invokevirtual 66, 3) := by decide +kernel
theorem d_MO_toldCodes_5 : decode c_MO_toldCodes 5 = .ok (.sipush 257, 3) := by decide +kernel
theorem d_MO_toldCodes_8 : decode c_MO_toldCodes 8 = .ok (.iadd, 1) := by decide +kernel
theorem d_MO_toldCodes_9 : decode c_MO_toldCodes 9 = .ok (.istore_n 1, 1) := by decide +kernel
theorem d_MO_toldCodes_10 : decode c_MO_toldCodes 10 = .ok (.aload_n 0, 1) := by decide +kernel
theorem d_MO_toldCodes_11 : decode c_MO_toldCodes 11 = .ok (.iconst 5, 1) := by decide +kernel
theorem d_MO_toldCodes_12 : decode c_MO_toldCodes 12 = .ok (.invokevirtual 66, 3) := by decide +kernel
theorem d_MO_toldCodes_15 : decode c_MO_toldCodes 15 = .ok (.iconst 1, 1) := by decide +kernel
theorem d_MO_toldCodes_16 : decode c_MO_toldCodes 16 = .ok (.iadd, 1) := by decide +kernel
theorem d_MO_toldCodes_17 : decode c_MO_toldCodes 17 = .ok (.istore_n 2, 1) := by decide +kernel
theorem d_MO_toldCodes_18 : decode c_MO_toldCodes 18 = .ok (.aload_n 0, 1) := by decide +kernel
theorem d_MO_toldCodes_19 : decode c_MO_toldCodes 19 = .ok (.iconst 4, 1) := by decide +kernel
theorem d_MO_toldCodes_20 : decode c_MO_toldCodes 20 = .ok (.invokevirtual 66, 3) := by decide +kernel
theorem d_MO_toldCodes_23 : decode c_MO_toldCodes 23 = .ok (.iconst 4, 1) := by decide +kernel
theorem d_MO_toldCodes_24 : decode c_MO_toldCodes 24 = .ok (.iadd, 1) := by decide +kernel
theorem d_MO_toldCodes_25 : decode c_MO_toldCodes 25 = .ok (.istore_n 3, 1) := by decide +kernel
theorem d_MO_toldCodes_26 : decode c_MO_toldCodes 26 = .ok (.aload_n 0, 1) := by decide +kernel
theorem d_MO_toldCodes_27 : decode c_MO_toldCodes 27 = .ok (.iload_n 1, 1) := by decide +kernel
theorem d_MO_toldCodes_28 : decode c_MO_toldCodes 28 = .ok (.sipush 286, 3) := by decide +kernel
theorem d_MO_toldCodes_31 : decode c_MO_toldCodes 31 = .ok (.if_icmp .gt 13, 3) := by decide +kernel
theorem d_MO_toldCodes_34 : decode c_MO_toldCodes 34 = .ok (.iload_n 2, 1) := by decide +kernel
theorem d_MO_toldCodes_35 : decode c_MO_toldCodes 35 = .ok (.bipush 30, 2) := by decide +kernel
theorem d_MO_toldCodes_37 : decode c_MO_toldCodes 37 = .ok (.if_icmp .gt 7, 3) := by decide +kernel
theorem d_MO_toldCodes_40 : decode c_MO_toldCodes 40 = .ok (.iconst 1, 1) := by decide +kernel
theorem d_MO_toldCodes_41 : decode c_MO_toldCodes 41 = .ok (.goto 4, 3) := by decide +kernel
theorem d_MO_toldCodes_44 : decode c_MO_toldCodes 44 = .ok (.iconst 0, 1) := by decide +kernel
theorem d_MO_toldCodes_45 : decode c_MO_toldCodes 45 = .ok (.invokevirtual 62, 3) := by decide +kernel
theorem d_MO_toldCodes_48 : decode c_MO_toldCodes 48 = .ok (.iconst 0, 1) := by decide +kernel
theorem d_MO_toldCodes_49 : decode c_MO_toldCodes 49 = .ok (.istore 4, 2) := by decide +kernel
theorem d_MO_toldCodes_51 : decode c_MO_toldCodes 51 = .ok (.iload 4, 2) := by decide +kernel
theorem d_MO_toldCodes_53 : decode c_MO_toldCodes 53 = .ok (.bipush 19, 2) := by decide +kernel
theorem d_MO_toldCodes_55 : decode c_MO_toldCodes 55 = .ok (.if_icmp .ge 17, 3) := by decide +kernel
theorem d_MO_toldCodes_58 : decode c_MO_toldCodes 58 = .ok (.aload_n 0, 1) := by decide +kernel
theorem d_MO_toldCodes_59 : decode c_MO_toldCodes 59 = .ok (.getfield 35, 3) := by decide +kernel
theorem d_MO_toldCodes_62 : decode c_MO_toldCodes 62 = .ok (.iload 4, 2) := by decide +kernel
theorem d_MO_toldCodes_64 : decode c_MO_toldCodes 64 = .ok (.iconst 0, 1) := by decide +kernel
theorem d_MO_toldCodes_65 : decode c_MO_toldCodes 65 = .ok (.iastore, 1) := by decide +kernel
theorem d_MO_toldCodes_66 : decode c_MO_toldCodes 66 = .ok (.iinc 4 1, 3) := by decide +kernel
theorem d_MO_toldCodes_69 : decode c_MO_toldCodes 69 = .ok (.goto (-18), 3) := by decide +kernel
theorem d_MO_toldCodes_72 : decode c_MO_toldCodes 72 = .ok (.iconst 0, 1) := by decide +kernel
theorem d_MO_toldCodes_73 : decode c_MO_toldCodes 73 = .ok (.istore 4, 2) := by decide +kernel
theorem d_MO_toldCodes_75 : decode c_MO_toldCodes 75 = .ok (.iload 4, 2) := by decide +kernel
theorem d_MO_toldCodes_77 : decode c_MO_toldCodes 77 = .ok (.iload_n 3, 1) := by decide +kernel
theorem d_MO_toldCodes_78 : decode c_MO_toldCodes 78 = .ok (.if_icmp .ge 25, 3) := by decide +kernel
theorem d_MO_toldCodes_81 : decode c_MO_toldCodes 81 = .ok (.aload_n 0, 1) := by decide +kernel
theorem d_MO_toldCodes_82 : decode c_MO_toldCodes 82 = .ok (.getfield 35, 3) := by decide +kernel
theorem d_MO_toldCodes_85 : decode c_MO_toldCodes 85 = .ok (.getstatic 80, 3) := by decide +kernel
theorem d_MO_toldCodes_88 : decode c_MO_toldCodes 88 = .ok (.iload 4, 2) := by decide +kernel
theorem d_MO_toldCodes_90 : decode c_MO_toldCodes 90 = .ok (.iaload, 1) := by decide +kernel
theorem d_MO_toldCodes_91 : decode c_MO_toldCodes 91 = .ok (.aload_n 0, 1) := by decide +kernel
theorem d_MO_toldCodes_92 : decode c_MO_toldCodes 92 = .ok (.iconst 3, 1) := by decide +kernel
theorem d_MO_toldCodes_93 : decode c_MO_toldCodes 93 = .ok (.invokevirtual 66, 3) := by decide +kernel
theorem d_MO_toldCodes_96 : decode c_MO_toldCodes 96 = .ok (.iastore, 1) := by decide +kernel
theorem d_MO_toldCodes_97 : decode c_MO_toldCodes 97 = .ok (.iinc 4 1, 3) := by decide +kernel
theorem d_MO_toldCodes_100 : decode c_MO_toldCodes 100 = .ok (.goto (-25), 3) := by decide +kernel
theorem d_MO_toldCodes_103 : decode c_MO_toldCodes 103 = .ok (.aload_n 0, 1) := by decide +kernel
theorem d_MO_toldCodes_104 : decode c_MO_toldCodes 104 = .ok (.aload_n 0, 1) := by decide +kernel
theorem d_MO_toldCodes_105 : decode c_MO_toldCodes 105 = .ok (.getfield 32, 3) := by decide +kernel
theorem d_MO_toldCodes_108 : decode c_MO_toldCodes 108 = .ok (.aload_n 0, 1) := by decide +kernel
theorem d_MO_toldCodes_109 : decode c_MO_toldCodes 109 = .ok (.getfield 35, 3) := by decide +kernel
theorem d_MO_toldCodes_112 : decode c_MO_toldCodes 112 = .ok (.iconst 0, 1) := by decide +kernel
theorem d_MO_toldCodes_113 : decode c_MO_toldCodes 113 = .ok (.bipush 19, 2) := by decide +kernel
theorem d_MO_toldCodes_115 : decode c_MO_toldCodes 115 = .ok (.invokevirtual 76, 3) := by decide +kernel
theorem d_MO_toldCodes_118 : decode c_MO_toldCodes 118 = .ok (.ifCond .ne 7, 3) := by decide +kernel
theorem d_MO_toldCodes_121 : decode c_MO_toldCodes 121 = .ok (.iconst 1, 1) := by decide +kernel
theorem d_MO_toldCodes_122 : decode c_MO_toldCodes 122 = .ok (.goto 4, 3) := by decide +kernel
theorem d_MO_toldCodes_125 : decode c_MO_toldCodes 125 = .ok (.iconst 0, 1) := by decide +kernel
theorem d_MO_toldCodes_126 : decode c_MO_toldCodes 126 = .ok (.invokevirtual 62, 3) := by decide +kernel
theorem d_MO_toldCodes_129 : decode c_MO_toldCodes 129 = .ok (.iconst 0, 1) := by decide +kernel
theorem d_MO_toldCodes_130 : decode c_MO_toldCodes 130 = .ok (.istore 4, 2) := by decide +kernel
theorem d_MO_toldCodes_132 : decode c_MO_toldCodes 132 = .ok (.iload 4, 2) := by decide +kernel
theorem d_MO_toldCodes_134 : decode c_MO_toldCodes 134 = .ok (.iload_n 1, 1) := by decide +kernel
theorem d_MO_toldCodes_135 : decode c_MO_toldCodes 135 = .ok (.iload_n 2, 1) := by decide +kernel
theorem d_MO_toldCodes_136 : decode c_MO_toldCodes 136 = .ok (.iadd, 1) := by decide +kernel
theorem d_MO_toldCodes_137 : decode c_MO_toldCodes 137 = .ok (.if_icmp .ge 174, 3) := by decide +kernel
theorem d_MO_toldCodes_140 : decode c_MO_toldCodes 140 = .ok (.aload_n 0, 1) := by decide +kernel
theorem d_MO_toldCodes_141 : decode c_MO_toldCodes 141 = .ok (.aload_n 0, 1) := by decide +kernel
theorem d_MO_toldCodes_142 : decode c_MO_toldCodes 142 = .ok (.getfield 32, 3) := by decide +kernel
theorem d_MO_toldCodes_145 : decode c_MO_toldCodes 145 = .ok (.invokevirtual 83, 3) := by decide +kernel
theorem d_MO_toldCodes_148 : decode c_MO_toldCodes 148 = .ok (.istore 5, 2) := by decide +kernel
theorem d_MO_toldCodes_150 : decode c_MO_toldCodes 150 = .ok (.iload 5, 2) := by decide +kernel
theorem d_MO_toldCodes_152 : decode c_MO_toldCodes 152 = .ok (.bipush 16, 2) := by decide +kernel
theorem d_MO_toldCodes_154 : decode c_MO_toldCodes 154 = .ok (.if_icmp .ge 18, 3) := by decide +kernel
theorem d_MO_toldCodes_157 : decode c_MO_toldCodes 157 = .ok (.aload_n 0, 1) := by decide +kernel
theorem d_MO_toldCodes_158 : decode c_MO_toldCodes 158 = .ok (.getfield 35, 3) := by decide +kernel
theorem d_MO_toldCodes_161 : decode c_MO_toldCodes 161 = .ok (.iload 4, 2) := by decide +kernel
theorem d_MO_toldCodes_163 : decode c_MO_toldCodes 163 = .ok (.iload 5, 2) := by decide +kernel
theorem d_MO_toldCodes_165 : decode c_MO_toldCodes 165 = .ok (.iastore, 1) := by decide +kernel
theorem d_MO_toldCodes_166 : decode c_MO_toldCodes 166 = .ok (.iinc 4 1, 3) := by decide +kernel
theorem d_MO_toldCodes_169 : decode c_MO_toldCodes 169 = .ok (.goto (-37), 3) := by decide +kernel
theorem d_MO_toldCodes_172 : decode c_MO_toldCodes 172 = .ok (.aload_n 0, 1) := by decide +kernel
theorem d_MO_toldCodes_173 : decode c_MO_toldCodes 173 = .ok (.iload 5, 2) := by decide +kernel
theorem d_MO_toldCodes_175 : decode c_MO_toldCodes 175 = .ok (.bipush 16, 2) := by decide +kernel
theorem d_MO_toldCodes_177 : decode c_MO_toldCodes 177 = .ok (.if_icmp .gt 8, 3) := by decide +kernel
theorem d_MO_toldCodes_180 : decode c_MO_toldCodes 180 = .ok (.iload 4, 2) := by decide +kernel
theorem d_MO_toldCodes_182 : decode c_MO_toldCodes 182 = .ok (.ifCond .le 7, 3) := by decide +kernel
theorem d_MO_toldCodes_185 : decode c_MO_toldCodes 185 = .ok (.iconst 1, 1) := by decide +kernel
theorem d_MO_toldCodes_186 : decode c_MO_toldCodes 186 = .ok (.goto 4, 3) := by decide +kernel
theorem d_MO_toldCodes_189 : decode c_MO_toldCodes 189 = .ok (.iconst 0, 1) := by decide +kernel
theorem d_MO_toldCodes_190 : decode c_MO_toldCodes 190 = .ok (.invokevirtual 62, 3) := by decide +kernel
theorem d_MO_toldCodes_193 : decode c_MO_toldCodes 193 = .ok (.iload 5, 2) := by decide +kernel
theorem d_MO_toldCodes_195 : decode c_MO_toldCodes 195 = .ok (.bipush 16, 2) := by decide +kernel
theorem d_MO_toldCodes_197 : decode c_MO_toldCodes 197 = .ok (.if_icmp .ne 15, 3) := by decide +kernel
theorem d_MO_toldCodes_200 : decode c_MO_toldCodes 200 = .ok (.aload_n 0, 1) := by decide +kernel
theorem d_MO_toldCodes_201 : decode c_MO_toldCodes 201 = .ok (.getfield 35, 3) := by decide +kernel
theorem d_MO_toldCodes_204 : decode c_MO_toldCodes 204 = .ok (.iload 4, 2) := by decide +kernel
theorem d_MO_toldCodes_206 : decode c_MO_toldCodes 206 = .ok (.iconst 1, 1) := by decide +kernel
theorem d_MO_toldCodes_207 : decode c_MO_toldCodes 207 = .ok (.isub, 1) := by decide +kernel
theorem d_MO_toldCodes_208 : decode c_MO_toldCodes 208 = .ok (.iaload, 1) := by decide +kernel
theorem d_MO_toldCodes_209 : decode c_MO_toldCodes 209 = .ok (.goto 4, 3) := by decide +kernel
theorem d_MO_toldCodes_212 : decode c_MO_toldCodes 212 = .ok (.iconst 0, 1) := by decide +kernel
theorem d_MO_toldCodes_213 : decode c_MO_toldCodes 213 = .ok (.istore 6, 2) := by decide +kernel
theorem d_MO_toldCodes_215 : decode c_MO_toldCodes 215 = .ok (.iload 5, 2) := by decide +kernel
theorem d_MO_toldCodes_217 : decode c_MO_toldCodes 217 = .ok (.bipush 16, 2) := by decide +kernel
theorem d_MO_toldCodes_219 : decode c_MO_toldCodes 219 = .ok (.if_icmp .ne 13, 3) := by decide +kernel
theorem d_MO_toldCodes_222 : decode c_MO_toldCodes 222 = .ok (.iconst 3, 1) := by decide +kernel
theorem d_MO_toldCodes_223 : decode c_MO_toldCodes 223 = .ok (.aload_n 0, 1) := by decide +kernel
theorem d_MO_toldCodes_224 : decode c_MO_toldCodes 224 = .ok (.iconst 2, 1) := by decide +kernel
theorem d_MO_toldCodes_225 : decode c_MO_toldCodes 225 = .ok (.invokevirtual 66, 3) := by decide +kernel
theorem d_MO_toldCodes_228 : decode c_MO_toldCodes 228 = .ok (.iadd, 1) := by decide +kernel
theorem d_MO_toldCodes_229 : decode c_MO_toldCodes 229 = .ok (.goto 29, 3) := by decide +kernel
theorem d_MO_toldCodes_232 : decode c_MO_toldCodes 232 = .ok (.iload 5, 2) := by decide +kernel
theorem d_MO_toldCodes_234 : decode c_MO_toldCodes 234 = .ok (.bipush 17, 2) := by decide +kernel
theorem d_MO_toldCodes_236 : decode c_MO_toldCodes 236 = .ok (.if_icmp .ne 13, 3) := by decide +kernel
theorem d_MO_toldCodes_239 : decode c_MO_toldCodes 239 = .ok (.iconst 3, 1) := by decide +kernel
theorem d_MO_toldCodes_240 : decode c_MO_toldCodes 240 = .ok (.aload_n 0, 1) := by decide +kernel
theorem d_MO_toldCodes_241 : decode c_MO_toldCodes 241 = .ok (.iconst 3, 1) := by decide +kernel
theorem d_MO_toldCodes_242 : decode c_MO_toldCodes 242 = .ok (.invokevirtual 66, 3) := by decide +kernel
theorem d_MO_toldCodes_245 : decode c_MO_toldCodes 245 = .ok (.iadd, 1) := by decide +kernel
theorem d_MO_toldCodes_246 : decode c_MO_toldCodes 246 = .ok (.goto 12, 3) := by decide +kernel
theorem d_MO_toldCodes_249 : decode c_MO_toldCodes 249 = .ok (.bipush 11, 2) := by decide +kernel
theorem d_MO_toldCodes_251 : decode c_MO_toldCodes 251 = .ok (.aload_n 0, 1) := by decide +kernel
theorem d_MO_toldCodes_252 : decode c_MO_toldCodes 252 = .ok (.bipush 7, 2) := by decide +kernel
theorem d_MO_toldCodes_254 : decode c_MO_toldCodes 254 = .ok (.invokevirtual 66, 3) := by decide +kernel
theorem d_MO_toldCodes_257 : decode c_MO_toldCodes 257 = .ok (.iadd, 1) := by decide +kernel
theorem d_MO_toldCodes_258 : decode c_MO_toldCodes 258 = .ok (.istore 7, 2) := by decide +kernel
theorem d_MO_toldCodes_260 : decode c_MO_toldCodes 260 = .ok (.aload_n 0, 1) := by decide +kernel
theorem d_MO_toldCodes_261 : decode c_MO_toldCodes 261 = .ok (.iload 4, 2) := by decide +kernel
theorem d_MO_toldCodes_263 : decode c_MO_toldCodes 263 = .ok (.iload 7, 2) := by decide +kernel
theorem d_MO_toldCodes_265 : decode c_MO_toldCodes 265 = .ok (.iadd, 1) := by decide +kernel
theorem d_MO_toldCodes_266 : decode c_MO_toldCodes 266 = .ok (.iload_n 1, 1) := by decide +kernel
theorem d_MO_toldCodes_267 : decode c_MO_toldCodes 267 = .ok (.iload_n 2, 1) := by decide +kernel
theorem d_MO_toldCodes_268 : decode c_MO_toldCodes 268 = .ok (.iadd, 1) := by decide +kernel
theorem d_MO_toldCodes_269 : decode c_MO_toldCodes 269 = .ok (.if_icmp .gt 7, 3) := by decide +kernel
theorem d_MO_toldCodes_272 : decode c_MO_toldCodes 272 = .ok (.iconst 1, 1) := by decide +kernel
theorem d_MO_toldCodes_273 : decode c_MO_toldCodes 273 = .ok (.goto 4, 3) := by decide +kernel
theorem d_MO_toldCodes_276 : decode c_MO_toldCodes 276 = .ok (.iconst 0, 1) := by decide +kernel
theorem d_MO_toldCodes_277 : decode c_MO_toldCodes 277 = .ok (.invokevirtual 62, 3) := by decide +kernel
theorem d_MO_toldCodes_280 : decode c_MO_toldCodes 280 = .ok (.iconst 0, 1) := by decide +kernel
theorem d_MO_toldCodes_281 : decode c_MO_toldCodes 281 = .ok (.istore 8, 2) := by decide +kernel
theorem d_MO_toldCodes_283 : decode c_MO_toldCodes 283 = .ok (.iload 8, 2) := by decide +kernel
theorem d_MO_toldCodes_285 : decode c_MO_toldCodes 285 = .ok (.iload 7, 2) := by decide +kernel
theorem d_MO_toldCodes_287 : decode c_MO_toldCodes 287 = .ok (.if_icmp .ge 21, 3) := by decide +kernel
theorem d_MO_toldCodes_290 : decode c_MO_toldCodes 290 = .ok (.aload_n 0, 1) := by decide +kernel
theorem d_MO_toldCodes_291 : decode c_MO_toldCodes 291 = .ok (.getfield 35, 3) := by decide +kernel
theorem d_MO_toldCodes_294 : decode c_MO_toldCodes 294 = .ok (.iload 4, 2) := by decide +kernel
theorem d_MO_toldCodes_296 : decode c_MO_toldCodes 296 = .ok (.iload 6, 2) := by decide +kernel
theorem d_MO_toldCodes_298 : decode c_MO_toldCodes 298 = .ok (.iastore, 1) := by decide +kernel
theorem d_MO_toldCodes_299 : decode c_MO_toldCodes 299 = .ok (.iinc 4 1, 3) := by decide +kernel
theorem d_MO_toldCodes_302 : decode c_MO_toldCodes 302 = .ok (.iinc 8 1, 3) := by decide +kernel
theorem d_MO_toldCodes_305 : decode c_MO_toldCodes 305 = .ok (.goto (-22), 3) := by decide +kernel
theorem d_MO_toldCodes_308 : decode c_MO_toldCodes 308 = .ok (.goto (-176), 3) := by decide +kernel
theorem d_MO_toldCodes_311 : decode c_MO_toldCodes 311 = .ok (.aload_n 0, 1) := by decide +kernel
theorem d_MO_toldCodes_312 : decode c_MO_toldCodes 312 = .ok (.aload_n 0, 1) := by decide +kernel
theorem d_MO_toldCodes_313 : decode c_MO_toldCodes 313 = .ok (.getfield 35, 3) := by decide +kernel
theorem d_MO_toldCodes_316 : decode c_MO_toldCodes 316 = .ok (.sipush 256, 3) := by decide +kernel
theorem d_MO_toldCodes_319 : decode c_MO_toldCodes 319 = .ok (.iaload, 1) := by decide +kernel
theorem d_MO_toldCodes_320 : decode c_MO_toldCodes 320 = .ok (.ifCond .le 23, 3) := by decide +kernel
theorem d_MO_toldCodes_323 : decode c_MO_toldCodes 323 = .ok (.aload_n 0, 1) := by decide +kernel
theorem d_MO_toldCodes_324 : decode c_MO_toldCodes 324 = .ok (.getfield 25, 3) := by decide +kernel
theorem d_MO_toldCodes_327 : decode c_MO_toldCodes 327 = .ok (.aload_n 0, 1) := by decide +kernel
theorem d_MO_toldCodes_328 : decode c_MO_toldCodes 328 = .ok (.getfield 35, 3) := by decide +kernel
theorem d_MO_toldCodes_331 : decode c_MO_toldCodes 331 = .ok (.iconst 0, 1) := by decide +kernel
theorem d_MO_toldCodes_332 : decode c_MO_toldCodes 332 = .ok (.iload_n 1, 1) := by decide +kernel
theorem d_MO_toldCodes_333 : decode c_MO_toldCodes 333 = .ok (.invokevirtual 76, 3) := by decide +kernel
theorem d_MO_toldCodes_336 : decode c_MO_toldCodes 336 = .ok (.ifCond .ne 7, 3) := by decide +kernel
theorem d_MO_toldCodes_339 : decode c_MO_toldCodes 339 = .ok (.iconst 1, 1) := by decide +kernel
theorem d_MO_toldCodes_340 : decode c_MO_toldCodes 340 = .ok (.goto 4, 3) := by decide +kernel
theorem d_MO_toldCodes_343 : decode c_MO_toldCodes 343 = .ok (.iconst 0, 1) := by decide +kernel
theorem d_MO_toldCodes_344 : decode c_MO_toldCodes 344 = .ok (.invokevirtual 62, 3) := by decide +kernel
theorem d_MO_toldCodes_347 : decode c_MO_toldCodes 347 = .ok (.aload_n 0, 1) := by decide +kernel
theorem d_MO_toldCodes_348 : decode c_MO_toldCodes 348 = .ok (.getfield 29, 3) := by decide +kernel
theorem d_MO_toldCodes_351 : decode c_MO_toldCodes 351 = .ok (.aload_n 0, 1) := by decide +kernel
theorem d_MO_toldCodes_352 : decode c_MO_toldCodes 352 = .ok (.getfield 35, 3) := by decide +kernel
theorem d_MO_toldCodes_355 : decode c_MO_toldCodes 355 = .ok (.iload_n 1, 1) := by decide +kernel
theorem d_MO_toldCodes_356 : decode c_MO_toldCodes 356 = .ok (.iload_n 2, 1) := by decide +kernel
theorem d_MO_toldCodes_357 : decode c_MO_toldCodes 357 = .ok (.invokevirtual 76, 3) := by decide +kernel
theorem d_MO_toldCodes_360 : decode c_MO_toldCodes 360 = .ok (.istore 5, 2) := by decide +kernel
theorem d_MO_toldCodes_362 : decode c_MO_toldCodes 362 = .ok (.aload_n 0, 1) := by decide +kernel
theorem d_MO_toldCodes_363 : decode c_MO_toldCodes 363 = .ok (.iload 5, 2) := by decide +kernel
theorem d_MO_toldCodes_365 : decode c_MO_toldCodes 365 = .ok (.ifCond .eq 37, 3) := by decide +kernel
theorem d_MO_toldCodes_368 : decode c_MO_toldCodes 368 = .ok (.aload_n 0, 1) := by decide +kernel
theorem d_MO_toldCodes_369 : decode c_MO_toldCodes 369 = .ok (.getfield 29, 3) := by decide +kernel
theorem d_MO_toldCodes_372 : decode c_MO_toldCodes 372 = .ok (.getfield 87, 3) := by decide +kernel
theorem d_MO_toldCodes_375 : decode c_MO_toldCodes 375 = .ok (.ifCond .eq 27, 3) := by decide +kernel
theorem d_MO_toldCodes_378 : decode c_MO_toldCodes 378 = .ok (.aload_n 0, 1) := by decide +kernel
theorem d_MO_toldCodes_379 : decode c_MO_toldCodes 379 = .ok (.getfield 29, 3) := by decide +kernel
theorem d_MO_toldCodes_382 : decode c_MO_toldCodes 382 = .ok (.getfield 87, 3) := by decide +kernel
theorem d_MO_toldCodes_385 : decode c_MO_toldCodes 385 = .ok (.iconst 1, 1) := by decide +kernel
theorem d_MO_toldCodes_386 : decode c_MO_toldCodes 386 = .ok (.if_icmp .ne 20, 3) := by decide +kernel
theorem d_MO_toldCodes_389 : decode c_MO_toldCodes 389 = .ok (.aload_n 0, 1) := by decide +kernel
theorem d_MO_toldCodes_390 : decode c_MO_toldCodes 390 = .ok (.getfield 29, 3) := by decide +kernel
theorem d_MO_toldCodes_393 : decode c_MO_toldCodes 393 = .ok (.getfield 70, 3) := by decide +kernel
theorem d_MO_toldCodes_396 : decode c_MO_toldCodes 396 = .ok (.iconst 1, 1) := by decide +kernel
theorem d_MO_toldCodes_397 : decode c_MO_toldCodes 397 = .ok (.iaload, 1) := by decide +kernel
theorem d_MO_toldCodes_398 : decode c_MO_toldCodes 398 = .ok (.iconst 1, 1) := by decide +kernel
theorem d_MO_toldCodes_399 : decode c_MO_toldCodes 399 = .ok (.if_icmp .ne 7, 3) := by decide +kernel
theorem d_MO_toldCodes_402 : decode c_MO_toldCodes 402 = .ok (.iconst 1, 1) := by decide +kernel
theorem d_MO_toldCodes_403 : decode c_MO_toldCodes 403 = .ok (.goto 4, 3) := by decide +kernel
theorem d_MO_toldCodes_406 : decode c_MO_toldCodes 406 = .ok (.iconst 0, 1) := by decide +kernel
theorem d_MO_toldCodes_407 : decode c_MO_toldCodes 407 = .ok (.invokevirtual 62, 3) := by decide +kernel
theorem d_MO_toldCodes_410 : decode c_MO_toldCodes 410 = .ok (.return_, 1) := by decide +kernel
theorem d_MO_meaning_0 : decode c_MO_meaning 0 = .ok (.iconst 0, 1) := by decide +kernel
theorem d_MO_meaning_1 : decode c_MO_meaning 1 = .ok (.istore_n 2, 1) := by decide +kernel
theorem d_MO_meaning_2 : decode c_MO_meaning 2 = .ok (.iconst 0, 1) := by decide +kernel
theorem d_MO_meaning_3 : decode c_MO_meaning 3 = .ok (.istore_n 3, 1) := by decide +kernel
theorem d_MO_meaning_4 : decode c_MO_meaning 4 = .ok (.iconst 0, 1) := by decide +kernel
theorem d_MO_meaning_5 : decode c_MO_meaning 5 = .ok (.istore 4, 2) := by decide +kernel
theorem d_MO_meaning_7 : decode c_MO_meaning 7 = .ok (.iconst 1, 1) := by decide +kernel
theorem d_MO_meaning_8 : decode c_MO_meaning 8 = .ok (.istore 5, 2) := by decide +kernel
theorem d_MO_meaning_10 : decode c_MO_meaning 10 = .ok (.iload 5, 2) := by decide +kernel
theorem d_MO_meaning_12 : decode c_MO_meaning 12 = .ok (.bipush 16, 2) := by decide +kernel
theorem d_MO_meaning_14 : decode c_MO_meaning 14 = .ok (.if_icmp .ge 70, 3) := by decide +kernel
theorem d_MO_meaning_17 : decode c_MO_meaning 17 = .ok (.iload_n 2, 1) := by decide +kernel
theorem d_MO_meaning_18 : decode c_MO_meaning 18 = .ok (.iconst 1, 1) := by decide +kernel
theorem d_MO_meaning_19 : decode c_MO_meaning 19 = .ok (.ishl, 1) := by decide +kernel
theorem d_MO_meaning_20 : decode c_MO_meaning 20 = .ok (.aload_n 0, 1) := by decide +kernel
theorem d_MO_meaning_21 : decode c_MO_meaning 21 = .ok (.iconst 1, 1) := by decide +kernel
theorem d_MO_meaning_22 : decode c_MO_meaning 22 = .ok (.invokevirtual 66, 3) := by decide +kernel
theorem d_MO_meaning_25 : decode c_MO_meaning 25 = .ok (.ior, 1) := by decide +kernel
theorem d_MO_meaning_26 : decode c_MO_meaning 26 = .ok (.istore_n 2, 1) := by decide +kernel
theorem d_MO_meaning_27 : decode c_MO_meaning 27 = .ok (.iload_n 3, 1) := by decide +kernel
theorem d_MO_meaning_28 : decode c_MO_meaning 28 = .ok (.iconst 1, 1) := by decide +kernel
theorem d_MO_meaning_29 : decode c_MO_meaning 29 = .ok (.ishl, 1) := by decide +kernel
theorem d_MO_meaning_30 : decode c_MO_meaning 30 = .ok (.istore_n 3, 1) := by decide +kernel
theorem d_MO_meaning_31 : decode c_MO_meaning 31 = .ok (.iload_n 2, 1) := by decide +kernel
theorem d_MO_meaning_32 : decode c_MO_meaning 32 = .ok (.iload_n 3, 1) := by decide +kernel
theorem d_MO_meaning_33 : decode c_MO_meaning 33 = .ok (.isub, 1) := by decide +kernel
theorem d_MO_meaning_34 : decode c_MO_meaning 34 = .ok (.aload_n 1, 1) := by decide +kernel
theorem d_MO_meaning_35 : decode c_MO_meaning 35 = .ok (.getfield 70, 3) := by decide +kernel
theorem d_MO_meaning_38 : decode c_MO_meaning 38 = .ok (.iload 5, 2) := by decide +kernel
theorem d_MO_meaning_40 : decode c_MO_meaning 40 = .ok (.iaload, 1) := by decide +kernel
theorem d_MO_meaning_41 : decode c_MO_meaning 41 = .ok (.if_icmp .ge 15, 3) := by decide +kernel
theorem d_MO_meaning_44 : decode c_MO_meaning 44 = .ok (.aload_n 1, 1) := by decide +kernel
theorem d_MO_meaning_45 : decode c_MO_meaning 45 = .ok (.getfield 73, 3) := by decide +kernel
theorem d_MO_meaning_48 : decode c_MO_meaning 48 = .ok (.iload 4, 2) := by decide +kernel
theorem d_MO_meaning_50 : decode c_MO_meaning 50 = .ok (.iload_n 2, 1) := by decide +kernel
theorem d_MO_meaning_51 : decode c_MO_meaning 51 = .ok (.iadd, 1) := by decide +kernel
theorem d_MO_meaning_52 : decode c_MO_meaning 52 = .ok (.iload_n 3, 1) := by decide +kernel
theorem d_MO_meaning_53 : decode c_MO_meaning 53 = .ok (.isub, 1) := by decide +kernel
theorem d_MO_meaning_54 : decode c_MO_meaning 54 = .ok (.iaload, 1) := by decide +kernel
theorem d_MO_meaning_55 : decode c_MO_meaning 55 = .ok (.ireturn, 1) := by decide +kernel
theorem d_MO_meaning_56 : decode c_MO_meaning 56 = .ok (.iload 4, 2) := by decide +kernel
theorem d_MO_meaning_58 : decode c_MO_meaning 58 = .ok (.aload_n 1, 1) := by decide +kernel
theorem d_MO_meaning_59 : decode c_MO_meaning 59 = .ok (.getfield 70, 3) := by decide +kernel
theorem d_MO_meaning_62 : decode c_MO_meaning 62 = .ok (.iload 5, 2) := by decide +kernel
theorem d_MO_meaning_64 : decode c_MO_meaning 64 = .ok (.iaload, 1) := by decide +kernel
theorem d_MO_meaning_65 : decode c_MO_meaning 65 = .ok (.iadd, 1) := by decide +kernel
theorem d_MO_meaning_66 : decode c_MO_meaning 66 = .ok (.istore 4, 2) := by decide +kernel
theorem d_MO_meaning_68 : decode c_MO_meaning 68 = .ok (.iload_n 3, 1) := by decide +kernel
theorem d_MO_meaning_69 : decode c_MO_meaning 69 = .ok (.aload_n 1, 1) := by decide +kernel
theorem d_MO_meaning_70 : decode c_MO_meaning 70 = .ok (.getfield 70, 3) := by decide +kernel
theorem d_MO_meaning_73 : decode c_MO_meaning 73 = .ok (.iload 5, 2) := by decide +kernel
theorem d_MO_meaning_75 : decode c_MO_meaning 75 = .ok (.iaload, 1) := by decide +kernel
theorem d_MO_meaning_76 : decode c_MO_meaning 76 = .ok (.iadd, 1) := by decide +kernel
theorem d_MO_meaning_77 : decode c_MO_meaning 77 = .ok (.istore_n 3, 1) := by decide +kernel
theorem d_MO_meaning_78 : decode c_MO_meaning 78 = .ok (.iinc 5 1, 3) := by decide +kernel
theorem d_MO_meaning_81 : decode c_MO_meaning 81 = .ok (.goto (-71), 3) := by decide +kernel
theorem d_MO_meaning_84 : decode c_MO_meaning 84 = .ok (.aload_n 0, 1) := by decide +kernel
theorem d_MO_meaning_85 : decode c_MO_meaning 85 = .ok (.iconst 0, 1) := by decide +kernel
theorem d_MO_meaning_86 : decode c_MO_meaning 86 = .ok (.invokevirtual 62, 3) := by decide +kernel
theorem d_MO_meaning_89 : decode c_MO_meaning 89 = .ok (.iconst 0, 1) := by decide +kernel
theorem d_MO_meaning_90 : decode c_MO_meaning 90 = .ok (.ireturn, 1) := by decide +kernel
theorem d_MO_block_0 : decode c_MO_block 0 = .ok (.aload_n 0, 1) := by decide +kernel
theorem d_MO_block_1 : decode c_MO_block 1 = .ok (.aload_n 0, 1) := by decide +kernel
theorem d_MO_block_2 : decode c_MO_block 2 = .ok (.getfield 25, 3) := by decide +kernel
theorem d_MO_block_5 : decode c_MO_block 5 = .ok (.invokevirtual 83, 3) := by decide +kernel
theorem d_MO_block_8 : decode c_MO_block 8 = .ok (.istore_n 1, 1) := by decide +kernel
theorem d_MO_block_9 : decode c_MO_block 9 = .ok (.iload_n 1, 1) := by decide +kernel
theorem d_MO_block_10 : decode c_MO_block 10 = .ok (.sipush 256, 3) := by decide +kernel
theorem d_MO_block_13 : decode c_MO_block 13 = .ok (.if_icmp .ge 11, 3) := by decide +kernel
theorem d_MO_block_16 : decode c_MO_block 16 = .ok (.aload_n 0, 1) := by decide +kernel
theorem d_MO_block_17 : decode c_MO_block 17 = .ok (.iload_n 1, 1) := by decide +kernel
theorem d_MO_block_18 : decode c_MO_block 18 = .ok (.invokevirtual 96, 3) := by decide +kernel
theorem d_MO_block_21 : decode c_MO_block 21 = .ok (.goto (-21), 3) := by decide +kernel
theorem d_MO_block_24 : decode c_MO_block 24 = .ok (.iload_n 1, 1) := by decide +kernel
theorem d_MO_block_25 : decode c_MO_block 25 = .ok (.sipush 256, 3) := by decide +kernel
theorem d_MO_block_28 : decode c_MO_block 28 = .ok (.if_icmp .ne 4, 3) := by decide +kernel
theorem d_MO_block_31 : decode c_MO_block 31 = .ok (.return_, 1) := by decide +kernel
theorem d_MO_block_32 : decode c_MO_block 32 = .ok (.aload_n 0, 1) := by decide +kernel
theorem d_MO_block_33 : decode c_MO_block 33 = .ok (.iload_n 1, 1) := by decide +kernel
theorem d_MO_block_34 : decode c_MO_block 34 = .ok (.sipush 286, 3) := by decide +kernel
theorem d_MO_block_37 : decode c_MO_block 37 = .ok (.if_icmp .ge 7, 3) := by decide +kernel
theorem d_MO_block_40 : decode c_MO_block 40 = .ok (.iconst 1, 1) := by decide +kernel
theorem d_MO_block_41 : decode c_MO_block 41 = .ok (.goto 4, 3) := by decide +kernel
theorem d_MO_block_44 : decode c_MO_block 44 = .ok (.iconst 0, 1) := by decide +kernel
theorem d_MO_block_45 : decode c_MO_block 45 = .ok (.invokevirtual 62, 3) := by decide +kernel
theorem d_MO_block_48 : decode c_MO_block 48 = .ok (.iconst 3, 1) := by decide +kernel
theorem d_MO_block_49 : decode c_MO_block 49 = .ok (.istore_n 2, 1) := by decide +kernel
theorem d_MO_block_50 : decode c_MO_block 50 = .ok (.sipush 257, 3) := by decide +kernel
theorem d_MO_block_53 : decode c_MO_block 53 = .ok (.istore_n 3, 1) := by decide +kernel
theorem d_MO_block_54 : decode c_MO_block 54 = .ok (.iload_n 3, 1) := by decide +kernel
theorem d_MO_block_55 : decode c_MO_block 55 = .ok (.iload_n 1, 1) := by decide +kernel
theorem d_MO_block_56 : decode c_MO_block 56 = .ok (.if_icmp .ge 18, 3) := by decide +kernel
theorem d_MO_block_59 : decode c_MO_block 59 = .ok (.iload_n 2, 1) := by decide +kernel
theorem d_MO_block_60 : decode c_MO_block 60 = .ok (.iconst 1, 1) := by decide +kernel
theorem d_MO_block_61 : decode c_MO_block 61 = .ok (.iload_n 3, 1) := by decide +kernel
theorem d_MO_block_62 : decode c_MO_block 62 = .ok (.invokestatic 100, 3) := by decide +kernel
theorem d_MO_block_65 : decode c_MO_block 65 = .ok (.ishl, 1) := by decide +kernel
theorem d_MO_block_66 : decode c_MO_block 66 = .ok (.iadd, 1) := by decide +kernel
theorem d_MO_block_67 : decode c_MO_block 67 = .ok (.istore_n 2, 1) := by decide +kernel
theorem d_MO_block_68 : decode c_MO_block 68 = .ok (.iinc 3 1, 3) := by decide +kernel
theorem d_MO_block_71 : decode c_MO_block 71 = .ok (.goto (-17), 3) := by decide +kernel
theorem d_MO_block_74 : decode c_MO_block 74 = .ok (.iload_n 1, 1) := by decide +kernel
theorem d_MO_block_75 : decode c_MO_block 75 = .ok (.sipush 285, 3) := by decide +kernel
theorem d_MO_block_78 : decode c_MO_block 78 = .ok (.if_icmp .ne 9, 3) := by decide +kernel
theorem d_MO_block_81 : decode c_MO_block 81 = .ok (.sipush 258, 3) := by decide +kernel
theorem d_MO_block_84 : decode c_MO_block 84 = .ok (.goto 13, 3) := by decide +kernel
theorem d_MO_block_87 : decode c_MO_block 87 = .ok (.iload_n 2, 1) := by decide +kernel
theorem d_MO_block_88 : decode c_MO_block 88 = .ok (.aload_n 0, 1) := by decide +kernel
theorem d_MO_block_89 : decode c_MO_block 89 = .ok (.iload_n 1, 1) := by decide +kernel
theorem d_MO_block_90 : decode c_MO_block 90 = .ok (.invokestatic 100, 3) := by decide +kernel
theorem d_MO_block_93 : decode c_MO_block 93 = .ok (.invokevirtual 66, 3) := by decide +kernel
theorem d_MO_block_96 : decode c_MO_block 96 = .ok (.iadd, 1) := by decide +kernel
theorem d_MO_block_97 : decode c_MO_block 97 = .ok (.istore_n 2, 1) := by decide +kernel
theorem d_MO_block_98 : decode c_MO_block 98 = .ok (.aload_n 0, 1) := by decide +kernel
theorem d_MO_block_99 : decode c_MO_block 99 = .ok (.aload_n 0, 1) := by decide +kernel
theorem d_MO_block_100 : decode c_MO_block 100 = .ok (.getfield 29, 3) := by decide +kernel
theorem d_MO_block_103 : decode c_MO_block 103 = .ok (.invokevirtual 83, 3) := by decide +kernel
theorem d_MO_block_106 : decode c_MO_block 106 = .ok (.istore_n 3, 1) := by decide +kernel
theorem d_MO_block_107 : decode c_MO_block 107 = .ok (.aload_n 0, 1) := by decide +kernel
theorem d_MO_block_108 : decode c_MO_block 108 = .ok (.iload_n 3, 1) := by decide +kernel
theorem d_MO_block_109 : decode c_MO_block 109 = .ok (.bipush 30, 2) := by decide +kernel
theorem d_MO_block_111 : decode c_MO_block 111 = .ok (.if_icmp .ge 7, 3) := by decide +kernel
theorem d_MO_block_114 : decode c_MO_block 114 = .ok (.iconst 1, 1) := by decide +kernel
theorem d_MO_block_115 : decode c_MO_block 115 = .ok (.goto 4, 3) := by decide +kernel
theorem d_MO_block_118 : decode c_MO_block 118 = .ok (.iconst 0, 1) := by decide +kernel
theorem d_MO_block_119 : decode c_MO_block 119 = .ok (.invokevirtual 62, 3) := by decide +kernel
theorem d_MO_block_122 : decode c_MO_block 122 = .ok (.iconst 1, 1) := by decide +kernel
theorem d_MO_block_123 : decode c_MO_block 123 = .ok (.istore 4, 2) := by decide +kernel
theorem d_MO_block_125 : decode c_MO_block 125 = .ok (.iconst 0, 1) := by decide +kernel
theorem d_MO_block_126 : decode c_MO_block 126 = .ok (.istore 5, 2) := by decide +kernel
theorem d_MO_block_128 : decode c_MO_block 128 = .ok (.iload 5, 2) := by decide +kernel
theorem d_MO_block_130 : decode c_MO_block 130 = .ok (.iload_n 3, 1) := by decide +kernel
theorem d_MO_block_131 : decode c_MO_block 131 = .ok (.if_icmp .ge 21, 3) := by decide +kernel
theorem d_MO_block_134 : decode c_MO_block 134 = .ok (.iload 4, 2) := by decide +kernel
theorem d_MO_block_136 : decode c_MO_block 136 = .ok (.iconst 1, 1) := by decide +kernel
theorem d_MO_block_137 : decode c_MO_block 137 = .ok (.iload 5, 2) := by decide +kernel
theorem d_MO_block_139 : decode c_MO_block 139 = .ok (.invokestatic 103, 3) := by decide +kernel
theorem d_MO_block_142 : decode c_MO_block 142 = .ok (.ishl, 1) := by decide +kernel
theorem d_MO_block_143 : decode c_MO_block 143 = .ok (.iadd, 1) := by decide +kernel
theorem d_MO_block_144 : decode c_MO_block 144 = .ok (.istore 4, 2) := by decide +kernel
theorem d_MO_block_146 : decode c_MO_block 146 = .ok (.iinc 5 1, 3) := by decide +kernel
theorem d_MO_block_149 : decode c_MO_block 149 = .ok (.goto (-21), 3) := by decide +kernel
theorem d_MO_block_152 : decode c_MO_block 152 = .ok (.iload 4, 2) := by decide +kernel
theorem d_MO_block_154 : decode c_MO_block 154 = .ok (.aload_n 0, 1) := by decide +kernel
theorem d_MO_block_155 : decode c_MO_block 155 = .ok (.iload_n 3, 1) := by decide +kernel
theorem d_MO_block_156 : decode c_MO_block 156 = .ok (.invokestatic 103, 3) := by decide +kernel
theorem d_MO_block_159 : decode c_MO_block 159 = .ok (.invokevirtual 66, 3) := by decide +kernel
theorem d_MO_block_162 : decode c_MO_block 162 = .ok (.iadd, 1) := by decide +kernel
theorem d_MO_block_163 : decode c_MO_block 163 = .ok (.istore 4, 2) := by decide +kernel
theorem d_MO_block_165 : decode c_MO_block 165 = .ok (.aload_n 0, 1) := by decide +kernel
theorem d_MO_block_166 : decode c_MO_block 166 = .ok (.iload 4, 2) := by decide +kernel
theorem d_MO_block_168 : decode c_MO_block 168 = .ok (.ldc 106, 2) := by decide +kernel
theorem d_MO_block_170 : decode c_MO_block 170 = .ok (.if_icmp .gt 16, 3) := by decide +kernel
theorem d_MO_block_173 : decode c_MO_block 173 = .ok (.iload 4, 2) := by decide +kernel
theorem d_MO_block_175 : decode c_MO_block 175 = .ok (.aload_n 0, 1) := by decide +kernel
theorem d_MO_block_176 : decode c_MO_block 176 = .ok (.getfield 90, 3) := by decide +kernel
theorem d_MO_block_179 : decode c_MO_block 179 = .ok (.if_icmp .gt 7, 3) := by decide +kernel
theorem d_MO_block_182 : decode c_MO_block 182 = .ok (.iconst 1, 1) := by decide +kernel
theorem d_MO_block_183 : decode c_MO_block 183 = .ok (.goto 4, 3) := by decide +kernel
theorem d_MO_block_186 : decode c_MO_block 186 = .ok (.iconst 0, 1) := by decide +kernel
theorem d_MO_block_187 : decode c_MO_block 187 = .ok (.invokevirtual 62, 3) := by decide +kernel
theorem d_MO_block_190 : decode c_MO_block 190 = .ok (.iconst 0, 1) := by decide +kernel
theorem d_MO_block_191 : decode c_MO_block 191 = .ok (.istore 5, 2) := by decide +kernel
theorem d_MO_block_193 : decode c_MO_block 193 = .ok (.iload 5, 2) := by decide +kernel
theorem d_MO_block_195 : decode c_MO_block 195 = .ok (.iload_n 2, 1) := by decide +kernel
theorem d_MO_block_196 : decode c_MO_block 196 = .ok (.if_icmp .ge 25, 3) := by decide +kernel
theorem d_MO_block_199 : decode c_MO_block 199 = .ok (.aload_n 0, 1) := by decide +kernel
theorem d_MO_block_200 : decode c_MO_block 200 = .ok (.aload_n 0, 1) := by decide +kernel
theorem d_MO_block_201 : decode c_MO_block 201 = .ok (.getfield 19, 3) := by decide +kernel
theorem d_MO_block_204 : decode c_MO_block 204 = .ok (.aload_n 0, 1) := by decide +kernel
theorem d_MO_block_205 : decode c_MO_block 205 = .ok (.getfield 90, 3) := by decide +kernel
theorem d_MO_block_208 : decode c_MO_block 208 = .ok (.iload 4, 2) := by decide +kernel
theorem d_MO_block_210 : decode c_MO_block 210 = .ok (.isub, 1) := by decide +kernel
theorem d_MO_block_211 : decode c_MO_block 211 = .ok (.baload, 1) := by decide +kernel
theorem d_MO_block_212 : decode c_MO_block 212 = .ok (.invokevirtual 96, 3) := by decide +kernel
theorem d_MO_block_215 : decode c_MO_block 215 = .ok (.iinc 5 1, 3) := by decide +kernel
theorem d_MO_block_218 : decode c_MO_block 218 = .ok (.goto (-25), 3) := by decide +kernel
theorem d_MO_block_221 : decode c_MO_block 221 = .ok (.goto (-221), 3) := by decide +kernel
theorem d_MO_lengthBits_0 : decode c_MO_lengthBits 0 = .ok (.iload_n 0, 1) := by decide +kernel
theorem d_MO_lengthBits_1 : decode c_MO_lengthBits 1 = .ok (.sipush 265, 3) := by decide +kernel
theorem d_MO_lengthBits_4 : decode c_MO_lengthBits 4 = .ok (.if_icmp .ge 7, 3) := by decide +kernel
theorem d_MO_lengthBits_7 : decode c_MO_lengthBits 7 = .ok (.iconst 0, 1) := by decide +kernel
theorem d_MO_lengthBits_8 : decode c_MO_lengthBits 8 = .ok (.goto 21, 3) := by decide +kernel
theorem d_MO_lengthBits_11 : decode c_MO_lengthBits 11 = .ok (.iload_n 0, 1) := by decide +kernel
theorem d_MO_lengthBits_12 : decode c_MO_lengthBits 12 = .ok (.sipush 285, 3) := by decide +kernel
theorem d_MO_lengthBits_15 : decode c_MO_lengthBits 15 = .ok (.if_icmp .ne 7, 3) := by decide +kernel
theorem d_MO_lengthBits_18 : decode c_MO_lengthBits 18 = .ok (.iconst 0, 1) := by decide +kernel
theorem d_MO_lengthBits_19 : decode c_MO_lengthBits 19 = .ok (.goto 10, 3) := by decide +kernel
theorem d_MO_lengthBits_22 : decode c_MO_lengthBits 22 = .ok (.iload_n 0, 1) := by decide +kernel
theorem d_MO_lengthBits_23 : decode c_MO_lengthBits 23 = .ok (.sipush 261, 3) := by decide +kernel
theorem d_MO_lengthBits_26 : decode c_MO_lengthBits 26 = .ok (.isub, 1) := by decide +kernel
theorem d_MO_lengthBits_27 : decode c_MO_lengthBits 27 = .ok (.iconst 4, 1) := by decide +kernel
theorem d_MO_lengthBits_28 : decode c_MO_lengthBits 28 = .ok (.idiv, 1) := by decide +kernel
theorem d_MO_lengthBits_29 : decode c_MO_lengthBits 29 = .ok (.ireturn, 1) := by decide +kernel
theorem d_MO_distanceBits_0 : decode c_MO_distanceBits 0 = .ok (.iload_n 0, 1) := by decide +kernel
theorem d_MO_distanceBits_1 : decode c_MO_distanceBits 1 = .ok (.iconst 4, 1) := by decide +kernel
theorem d_MO_distanceBits_2 : decode c_MO_distanceBits 2 = .ok (.if_icmp .ge 7, 3) := by decide +kernel
theorem d_MO_distanceBits_5 : decode c_MO_distanceBits 5 = .ok (.iconst 0, 1) := by decide +kernel
theorem d_MO_distanceBits_6 : decode c_MO_distanceBits 6 = .ok (.goto 8, 3) := by decide +kernel
theorem d_MO_distanceBits_9 : decode c_MO_distanceBits 9 = .ok (.iload_n 0, 1) := by decide +kernel
theorem d_MO_distanceBits_10 : decode c_MO_distanceBits 10 = .ok (.iconst 2, 1) := by decide +kernel
theorem d_MO_distanceBits_11 : decode c_MO_distanceBits 11 = .ok (.isub, 1) := by decide +kernel
theorem d_MO_distanceBits_12 : decode c_MO_distanceBits 12 = .ok (.iconst 2, 1) := by decide +kernel
theorem d_MO_distanceBits_13 : decode c_MO_distanceBits 13 = .ok (.idiv, 1) := by decide +kernel
theorem d_MO_distanceBits_14 : decode c_MO_distanceBits 14 = .ok (.ireturn, 1) := by decide +kernel
theorem d_MO_adler_0 : decode c_MO_adler 0 = .ok (.iconst 1, 1) := by decide +kernel
theorem d_MO_adler_1 : decode c_MO_adler 1 = .ok (.istore_n 2, 1) := by decide +kernel
theorem d_MO_adler_2 : decode c_MO_adler 2 = .ok (.iconst 0, 1) := by decide +kernel
theorem d_MO_adler_3 : decode c_MO_adler 3 = .ok (.istore_n 3, 1) := by decide +kernel
theorem d_MO_adler_4 : decode c_MO_adler 4 = .ok (.iconst 0, 1) := by decide +kernel
theorem d_MO_adler_5 : decode c_MO_adler 5 = .ok (.istore 4, 2) := by decide +kernel
theorem d_MO_adler_7 : decode c_MO_adler 7 = .ok (.iload 4, 2) := by decide +kernel
theorem d_MO_adler_9 : decode c_MO_adler 9 = .ok (.iload_n 1, 1) := by decide +kernel
theorem d_MO_adler_10 : decode c_MO_adler 10 = .ok (.if_icmp .ge 30, 3) := by decide +kernel
theorem d_MO_adler_13 : decode c_MO_adler 13 = .ok (.iload_n 2, 1) := by decide +kernel
theorem d_MO_adler_14 : decode c_MO_adler 14 = .ok (.aload_n 0, 1) := by decide +kernel
theorem d_MO_adler_15 : decode c_MO_adler 15 = .ok (.iload 4, 2) := by decide +kernel
theorem d_MO_adler_17 : decode c_MO_adler 17 = .ok (.baload, 1) := by decide +kernel
theorem d_MO_adler_18 : decode c_MO_adler 18 = .ok (.sipush 255, 3) := by decide +kernel
theorem d_MO_adler_21 : decode c_MO_adler 21 = .ok (.iand, 1) := by decide +kernel
theorem d_MO_adler_22 : decode c_MO_adler 22 = .ok (.iadd, 1) := by decide +kernel
theorem d_MO_adler_23 : decode c_MO_adler 23 = .ok (.ldc 123, 2) := by decide +kernel
theorem d_MO_adler_25 : decode c_MO_adler 25 = .ok (.irem, 1) := by decide +kernel
theorem d_MO_adler_26 : decode c_MO_adler 26 = .ok (.istore_n 2, 1) := by decide +kernel
theorem d_MO_adler_27 : decode c_MO_adler 27 = .ok (.iload_n 3, 1) := by decide +kernel
theorem d_MO_adler_28 : decode c_MO_adler 28 = .ok (.iload_n 2, 1) := by decide +kernel
theorem d_MO_adler_29 : decode c_MO_adler 29 = .ok (.iadd, 1) := by decide +kernel
theorem d_MO_adler_30 : decode c_MO_adler 30 = .ok (.ldc 123, 2) := by decide +kernel
theorem d_MO_adler_32 : decode c_MO_adler 32 = .ok (.irem, 1) := by decide +kernel
theorem d_MO_adler_33 : decode c_MO_adler 33 = .ok (.istore_n 3, 1) := by decide +kernel
theorem d_MO_adler_34 : decode c_MO_adler 34 = .ok (.iinc 4 1, 3) := by decide +kernel
theorem d_MO_adler_37 : decode c_MO_adler 37 = .ok (.goto (-30), 3) := by decide +kernel
theorem d_MO_adler_40 : decode c_MO_adler 40 = .ok (.ldc2_w 124, 3) := by decide +kernel
theorem d_MO_adler_43 : decode c_MO_adler 43 = .ok (.iload_n 3, 1) := by decide +kernel
theorem d_MO_adler_44 : decode c_MO_adler 44 = .ok (.i2l, 1) := by decide +kernel
theorem d_MO_adler_45 : decode c_MO_adler 45 = .ok (.lmul, 1) := by decide +kernel
theorem d_MO_adler_46 : decode c_MO_adler 46 = .ok (.iload_n 2, 1) := by decide +kernel
theorem d_MO_adler_47 : decode c_MO_adler 47 = .ok (.i2l, 1) := by decide +kernel
theorem d_MO_adler_48 : decode c_MO_adler 48 = .ok (.ladd, 1) := by decide +kernel
theorem d_MO_adler_49 : decode c_MO_adler 49 = .ok (.lreturn, 1) := by decide +kernel
theorem d_MO_fail_0 : decode c_MO_fail 0 = .ok (.aload_n 0, 1) := by decide +kernel
theorem d_MO_fail_1 : decode c_MO_fail 1 = .ok (.iload_n 1, 1) := by decide +kernel
theorem d_MO_fail_2 : decode c_MO_fail 2 = .ok (.putfield 49, 3) := by decide +kernel
theorem d_MO_fail_5 : decode c_MO_fail 5 = .ok (.iconst 0, 1) := by decide +kernel
theorem d_MO_fail_6 : decode c_MO_fail 6 = .ok (.ireturn, 1) := by decide +kernel
theorem d_MO_pack_0 : decode c_MO_pack 0 = .ok (.aload_n 0, 1) := by decide +kernel
theorem d_MO_pack_1 : decode c_MO_pack 1 = .ok (.iconst 0, 1) := by decide +kernel
theorem d_MO_pack_2 : decode c_MO_pack 2 = .ok (.putfield 49, 3) := by decide +kernel
theorem d_MO_pack_5 : decode c_MO_pack 5 = .ok (.iconst 0, 1) := by decide +kernel
theorem d_MO_pack_6 : decode c_MO_pack 6 = .ok (.istore_n 1, 1) := by decide +kernel
theorem d_MO_pack_7 : decode c_MO_pack 7 = .ok (.iload_n 1, 1) := by decide +kernel
theorem d_MO_pack_8 : decode c_MO_pack 8 = .ok (.aload_n 0, 1) := by decide +kernel
theorem d_MO_pack_9 : decode c_MO_pack 9 = .ok (.getfield 165, 3) := by decide +kernel
theorem d_MO_pack_12 : decode c_MO_pack 12 = .ok (.if_icmp .ge 21, 3) := by decide +kernel
theorem d_MO_pack_15 : decode c_MO_pack 15 = .ok (.aload_n 0, 1) := by decide +kernel
theorem d_MO_pack_16 : decode c_MO_pack 16 = .ok (.getfield 19, 3) := by decide +kernel
theorem d_MO_pack_19 : decode c_MO_pack 19 = .ok (.iload_n 1, 1) := by decide +kernel
theorem d_MO_pack_20 : decode c_MO_pack 20 = .ok (.aload_n 0, 1) := by decide +kernel
theorem d_MO_pack_21 : decode c_MO_pack 21 = .ok (.getfield 7, 3) := by decide +kernel
theorem d_MO_pack_24 : decode c_MO_pack 24 = .ok (.iload_n 1, 1) := by decide +kernel
theorem d_MO_pack_25 : decode c_MO_pack 25 = .ok (.baload, 1) := by decide +kernel
theorem d_MO_pack_26 : decode c_MO_pack 26 = .ok (.bastore, 1) := by decide +kernel
theorem d_MO_pack_27 : decode c_MO_pack 27 = .ok (.iinc 1 1, 3) := by decide +kernel
theorem d_MO_pack_30 : decode c_MO_pack 30 = .ok (.goto (-23), 3) := by decide +kernel
theorem d_MO_pack_33 : decode c_MO_pack 33 = .ok (.aload_n 0, 1) := by decide +kernel
theorem d_MO_pack_34 : decode c_MO_pack 34 = .ok (.aload_n 0, 1) := by decide +kernel
theorem d_MO_pack_35 : decode c_MO_pack 35 = .ok (.getfield 165, 3) := by decide +kernel
theorem d_MO_pack_38 : decode c_MO_pack 38 = .ok (.putfield 90, 3) := by decide +kernel
theorem d_MO_pack_41 : decode c_MO_pack 41 = .ok (.aload_n 0, 1) := by decide +kernel
theorem d_MO_pack_42 : decode c_MO_pack 42 = .ok (.iconst 0, 1) := by decide +kernel
theorem d_MO_pack_43 : decode c_MO_pack 43 = .ok (.putfield 126, 3) := by decide +kernel
theorem d_MO_pack_46 : decode c_MO_pack 46 = .ok (.aload_n 0, 1) := by decide +kernel
theorem d_MO_pack_47 : decode c_MO_pack 47 = .ok (.bipush 120, 2) := by decide +kernel
theorem d_MO_pack_49 : decode c_MO_pack 49 = .ok (.invokevirtual 129, 3) := by decide +kernel
theorem d_MO_pack_52 : decode c_MO_pack 52 = .ok (.aload_n 0, 1) := by decide +kernel
theorem d_MO_pack_53 : decode c_MO_pack 53 = .ok (.iconst 1, 1) := by decide +kernel
theorem d_MO_pack_54 : decode c_MO_pack 54 = .ok (.invokevirtual 129, 3) := by decide +kernel
theorem d_MO_pack_57 : decode c_MO_pack 57 = .ok (.aload_n 0, 1) := by decide +kernel
theorem d_MO_pack_58 : decode c_MO_pack 58 = .ok (.invokevirtual 177, 3) := by decide +kernel
theorem d_MO_pack_61 : decode c_MO_pack 61 = .ok (.aload_n 0, 1) := by decide +kernel
theorem d_MO_pack_62 : decode c_MO_pack 62 = .ok (.aload_n 0, 1) := by decide +kernel
theorem d_MO_pack_63 : decode c_MO_pack 63 = .ok (.getfield 19, 3) := by decide +kernel
theorem d_MO_pack_66 : decode c_MO_pack 66 = .ok (.aload_n 0, 1) := by decide +kernel
theorem d_MO_pack_67 : decode c_MO_pack 67 = .ok (.getfield 90, 3) := by decide +kernel
theorem d_MO_pack_70 : decode c_MO_pack 70 = .ok (.invokestatic 119, 3) := by decide +kernel
theorem d_MO_pack_73 : decode c_MO_pack 73 = .ok (.invokevirtual 180, 3) := by decide +kernel
theorem d_MO_pack_76 : decode c_MO_pack 76 = .ok (.aload_n 0, 1) := by decide +kernel
theorem d_MO_pack_77 : decode c_MO_pack 77 = .ok (.getfield 126, 3) := by decide +kernel
theorem d_MO_pack_80 : decode c_MO_pack 80 = .ok (.sipush 16384, 3) := by decide +kernel
theorem d_MO_pack_83 : decode c_MO_pack 83 = .ok (.if_icmp .le 9, 3) := by decide +kernel
theorem d_MO_pack_86 : decode c_MO_pack 86 = .ok (.aload_n 0, 1) := by decide +kernel
theorem d_MO_pack_87 : decode c_MO_pack 87 = .ok (.iconst 1, 1) := by decide +kernel
theorem d_MO_pack_88 : decode c_MO_pack 88 = .ok (.invokevirtual 171, 3) := by decide +kernel
theorem d_MO_pack_91 : decode c_MO_pack 91 = .ok (.ireturn, 1) := by decide +kernel
theorem d_MO_pack_92 : decode c_MO_pack 92 = .ok (.aload_n 0, 1) := by decide +kernel
theorem d_MO_pack_93 : decode c_MO_pack 93 = .ok (.aload_n 0, 1) := by decide +kernel
theorem d_MO_pack_94 : decode c_MO_pack 94 = .ok (.getfield 126, 3) := by decide +kernel
theorem d_MO_pack_97 : decode c_MO_pack 97 = .ok (.putfield 174, 3) := by decide +kernel
theorem d_MO_pack_100 : decode c_MO_pack 100 = .ok (.iconst 0, 1) := by decide +kernel
theorem d_MO_pack_101 : decode c_MO_pack 101 = .ok (.istore_n 1, 1) := by decide +kernel
theorem d_MO_pack_102 : decode c_MO_pack 102 = .ok (.iload_n 1, 1) := by decide +kernel
theorem d_MO_pack_103 : decode c_MO_pack 103 = .ok (.aload_n 0, 1) := by decide +kernel
theorem d_MO_pack_104 : decode c_MO_pack 104 = .ok (.getfield 174, 3) := by decide +kernel
theorem d_MO_pack_107 : decode c_MO_pack 107 = .ok (.if_icmp .ge 21, 3) := by decide +kernel
theorem d_MO_pack_110 : decode c_MO_pack 110 = .ok (.aload_n 0, 1) := by decide +kernel
theorem d_MO_pack_111 : decode c_MO_pack 111 = .ok (.getfield 13, 3) := by decide +kernel
theorem d_MO_pack_114 : decode c_MO_pack 114 = .ok (.iload_n 1, 1) := by decide +kernel
theorem d_MO_pack_115 : decode c_MO_pack 115 = .ok (.aload_n 0, 1) := by decide +kernel
theorem d_MO_pack_116 : decode c_MO_pack 116 = .ok (.getfield 40, 3) := by decide +kernel
theorem d_MO_pack_119 : decode c_MO_pack 119 = .ok (.iload_n 1, 1) := by decide +kernel
theorem d_MO_pack_120 : decode c_MO_pack 120 = .ok (.baload, 1) := by decide +kernel
theorem d_MO_pack_121 : decode c_MO_pack 121 = .ok (.bastore, 1) := by decide +kernel
theorem d_MO_pack_122 : decode c_MO_pack 122 = .ok (.iinc 1 1, 3) := by decide +kernel
theorem d_MO_pack_125 : decode c_MO_pack 125 = .ok (.goto (-23), 3) := by decide +kernel
theorem d_MO_pack_128 : decode c_MO_pack 128 = .ok (.aload_n 0, 1) := by decide +kernel
theorem d_MO_pack_129 : decode c_MO_pack 129 = .ok (.getfield 174, 3) := by decide +kernel
theorem d_MO_pack_132 : decode c_MO_pack 132 = .ok (.ireturn, 1) := by decide +kernel
theorem d_MO_put_0 : decode c_MO_put 0 = .ok (.aload_n 0, 1) := by decide +kernel
theorem d_MO_put_1 : decode c_MO_put 1 = .ok (.getfield 126, 3) := by decide +kernel
theorem d_MO_put_4 : decode c_MO_put 4 = .ok (.aload_n 0, 1) := by decide +kernel
theorem d_MO_put_5 : decode c_MO_put 5 = .ok (.getfield 40, 3) := by decide +kernel
theorem d_MO_put_8 : decode c_MO_put 8 = .ok (.arraylength, 1) := by decide +kernel
theorem d_MO_put_9 : decode c_MO_put 9 = .ok (.if_icmp .ne 11, 3) := by decide +kernel
theorem d_MO_put_12 : decode c_MO_put 12 = .ok (.new 93, 3) := by decide +kernel
theorem d_MO_put_15 : decode c_MO_put 15 = .ok (.dup, 1) := by decide +kernel
theorem d_MO_put_16 : decode c_MO_put 16 = .ok (.invokespecial 95, 3) := by decide +kernel
theorem d_MO_put_19 : decode c_MO_put 19 = .ok (.athrow, 1) := by decide +kernel
theorem d_MO_put_20 : decode c_MO_put 20 = .ok (.aload_n 0, 1) := by decide +kernel
theorem d_MO_put_21 : decode c_MO_put 21 = .ok (.getfield 40, 3) := by decide +kernel
theorem d_MO_put_24 : decode c_MO_put 24 = .ok (.aload_n 0, 1) := by decide +kernel
theorem d_MO_put_25 : decode c_MO_put 25 = .ok (.getfield 126, 3) := by decide +kernel
theorem d_MO_put_28 : decode c_MO_put 28 = .ok (.iload_n 1, 1) := by decide +kernel
theorem d_MO_put_29 : decode c_MO_put 29 = .ok (.i2b, 1) := by decide +kernel
theorem d_MO_put_30 : decode c_MO_put 30 = .ok (.bastore, 1) := by decide +kernel
theorem d_MO_put_31 : decode c_MO_put 31 = .ok (.aload_n 0, 1) := by decide +kernel
theorem d_MO_put_32 : decode c_MO_put 32 = .ok (.dup, 1) := by decide +kernel
theorem d_MO_put_33 : decode c_MO_put 33 = .ok (.getfield 126, 3) := by decide +kernel
theorem d_MO_put_36 : decode c_MO_put 36 = .ok (.iconst 1, 1) := by decide +kernel
theorem d_MO_put_37 : decode c_MO_put 37 = .ok (.iadd, 1) := by decide +kernel
theorem d_MO_put_38 : decode c_MO_put 38 = .ok (.putfield 126, 3) := by decide +kernel
theorem d_MO_put_41 : decode c_MO_put 41 = .ok (.return_, 1) := by decide +kernel
theorem d_MO_deflate_0 : decode c_MO_deflate 0 = .ok (.iconst 0, 1) := by decide +kernel
theorem d_MO_deflate_1 : decode c_MO_deflate 1 = .ok (.istore_n 1, 1) := by decide +kernel
theorem d_MO_deflate_2 : decode c_MO_deflate 2 = .ok (.iload_n 1, 1) := by decide +kernel
theorem d_MO_deflate_3 : decode c_MO_deflate 3 = .ok (.ldc 39, 2) := by decide +kernel
theorem d_MO_deflate_5 : decode c_MO_deflate 5 = .ok (.if_icmp .ge 16, 3) := by decide +kernel
theorem d_MO_deflate_8 : decode c_MO_deflate 8 = .ok (.aload_n 0, 1) := by decide +kernel
theorem d_MO_deflate_9 : decode c_MO_deflate 9 = .ok (.getfield 43, 3) := by decide +kernel
theorem d_MO_deflate_12 : decode c_MO_deflate 12 = .ok (.iload_n 1, 1) := by decide +kernel
theorem d_MO_deflate_13 : decode c_MO_deflate 13 = .ok (.iconst (-1), 1) := by decide +kernel
theorem d_MO_deflate_14 : decode c_MO_deflate 14 = .ok (.iastore, 1) := by decide +kernel
theorem d_MO_deflate_15 : decode c_MO_deflate 15 = .ok (.iinc 1 1, 3) := by decide +kernel
theorem d_MO_deflate_18 : decode c_MO_deflate 18 = .ok (.goto (-16), 3) := by decide +kernel
theorem d_MO_deflate_21 : decode c_MO_deflate 21 = .ok (.aload_n 0, 1) := by decide +kernel
theorem d_MO_deflate_22 : decode c_MO_deflate 22 = .ok (.iconst 0, 1) := by decide +kernel
theorem d_MO_deflate_23 : decode c_MO_deflate 23 = .ok (.putfield 132, 3) := by decide +kernel
theorem d_MO_deflate_26 : decode c_MO_deflate 26 = .ok (.aload_n 0, 1) := by decide +kernel
theorem d_MO_deflate_27 : decode c_MO_deflate 27 = .ok (.iconst 0, 1) := by decide +kernel
theorem d_MO_deflate_28 : decode c_MO_deflate 28 = .ok (.putfield 135, 3) := by decide +kernel
theorem d_MO_deflate_31 : decode c_MO_deflate 31 = .ok (.aload_n 0, 1) := by decide +kernel
theorem d_MO_deflate_32 : decode c_MO_deflate 32 = .ok (.iconst 3, 1) := by decide +kernel
theorem d_MO_deflate_33 : decode c_MO_deflate 33 = .ok (.iconst 3, 1) := by decide +kernel
theorem d_MO_deflate_34 : decode c_MO_deflate 34 = .ok (.invokevirtual 141, 3) := by decide +kernel
theorem d_MO_deflate_37 : decode c_MO_deflate 37 = .ok (.iconst 0, 1) := by decide +kernel
theorem d_MO_deflate_38 : decode c_MO_deflate 38 = .ok (.istore_n 1, 1) := by decide +kernel
theorem d_MO_deflate_39 : decode c_MO_deflate 39 = .ok (.iconst 0, 1) := by decide +kernel
theorem d_MO_deflate_40 : decode c_MO_deflate 40 = .ok (.istore_n 2, 1) := by decide +kernel
theorem d_MO_deflate_41 : decode c_MO_deflate 41 = .ok (.iload_n 1, 1) := by decide +kernel
theorem d_MO_deflate_42 : decode c_MO_deflate 42 = .ok (.aload_n 0, 1) := by decide +kernel
theorem d_MO_deflate_43 : decode c_MO_deflate 43 = .ok (.getfield 90, 3) := by decide +kernel
theorem d_MO_deflate_46 : decode c_MO_deflate 46 = .ok (.if_icmp .ge 215, 3) := by decide +kernel
theorem d_MO_deflate_49 : decode c_MO_deflate 49 = .ok (.iload_n 2, 1) := by decide +kernel
theorem d_MO_deflate_50 : decode c_MO_deflate 50 = .ok (.iload_n 1, 1) := by decide +kernel
theorem d_MO_deflate_51 : decode c_MO_deflate 51 = .ok (.if_icmp .ge 44, 3) := by decide +kernel
theorem d_MO_deflate_54 : decode c_MO_deflate 54 = .ok (.iload_n 2, 1) := by decide +kernel
theorem d_MO_deflate_55 : decode c_MO_deflate 55 = .ok (.iconst 2, 1) := by decide +kernel
theorem d_MO_deflate_56 : decode c_MO_deflate 56 = .ok (.iadd, 1) := by decide +kernel
theorem d_MO_deflate_57 : decode c_MO_deflate 57 = .ok (.aload_n 0, 1) := by decide +kernel
theorem d_MO_deflate_58 : decode c_MO_deflate 58 = .ok (.getfield 90, 3) := by decide +kernel
theorem d_MO_deflate_61 : decode c_MO_deflate 61 = .ok (.if_icmp .ge 34, 3) := by decide +kernel
theorem d_MO_deflate_64 : decode c_MO_deflate 64 = .ok (.aload_n 0, 1) := by decide +kernel
theorem d_MO_deflate_65 : decode c_MO_deflate 65 = .ok (.iload_n 2, 1) := by decide +kernel
theorem d_MO_deflate_66 : decode c_MO_deflate 66 = .ok (.invokevirtual 153, 3) := by decide +kernel
theorem d_MO_deflate_69 : decode c_MO_deflate 69 = .ok (.istore_n 3, 1) := by decide +kernel
theorem d_MO_deflate_70 : decode c_MO_deflate 70 = .ok (.aload_n 0, 1) := by decide +kernel
theorem d_MO_deflate_71 : decode c_MO_deflate 71 = .ok (.getfield 46, 3) := by decide +kernel
theorem d_MO_deflate_74 : decode c_MO_deflate 74 = .ok (.iload_n 2, 1) := by decide +kernel
theorem d_MO_deflate_75 : decode c_MO_deflate 75 = .ok (.aload_n 0, 1) := by decide +kernel
theorem d_MO_deflate_76 : decode c_MO_deflate 76 = .ok (.getfield 43, 3) := by decide +kernel
theorem d_MO_deflate_79 : decode c_MO_deflate 79 = .ok (.iload_n 3, 1) := by decide +kernel
theorem d_MO_deflate_80 : decode c_MO_deflate 80 = .ok (.iaload, 1) := by decide +kernel
theorem d_MO_deflate_81 : decode c_MO_deflate 81 = .ok (.iastore, 1) := by decide +kernel
theorem d_MO_deflate_82 : decode c_MO_deflate 82 = .ok (.aload_n 0, 1) := by decide +kernel
theorem d_MO_deflate_83 : decode c_MO_deflate 83 = .ok (.getfield 43, 3) := by decide +kernel
theorem d_MO_deflate_86 : decode c_MO_deflate 86 = .ok (.iload_n 3, 1) := by decide +kernel
theorem d_MO_deflate_87 : decode c_MO_deflate 87 = .ok (.iload_n 2, 1) := by decide +kernel
theorem d_MO_deflate_88 : decode c_MO_deflate 88 = .ok (.iastore, 1) := by decide +kernel
theorem d_MO_deflate_89 : decode c_MO_deflate 89 = .ok (.iinc 2 1, 3) := by decide +kernel
theorem d_MO_deflate_92 : decode c_MO_deflate 92 = .ok (.goto (-43), 3) := by decide +kernel
theorem d_MO_deflate_95 : decode c_MO_deflate 95 = .ok (.iconst 2, 1) := by decide +kernel
theorem d_MO_deflate_96 : decode c_MO_deflate 96 = .ok (.istore_n 3, 1) := by decide +kernel
theorem d_MO_deflate_97 : decode c_MO_deflate 97 = .ok (.iconst 0, 1) := by decide +kernel
theorem d_MO_deflate_98 : decode c_MO_deflate 98 = .ok (.istore 4, 2) := by decide +kernel
theorem d_MO_deflate_100 : decode c_MO_deflate 100 = .ok (.sipush 258, 3) := by decide +kernel
theorem d_MO_deflate_103 : decode c_MO_deflate 103 = .ok (.aload_n 0, 1) := by decide +kernel
theorem d_MO_deflate_104 : decode c_MO_deflate 104 = .ok (.getfield 90, 3) := by decide +kernel
theorem d_MO_deflate_107 : decode c_MO_deflate 107 = .ok (.iload_n 1, 1) := by decide +kernel
theorem d_MO_deflate_108 : decode c_MO_deflate 108 = .ok (.isub, 1) := by decide +kernel
theorem d_MO_deflate_109 : decode c_MO_deflate 109 = .ok (.invokestatic 156, 3) := by decide +kernel
theorem d_MO_deflate_112 : decode c_MO_deflate 112 = .ok (.istore 5, 2) := by decide +kernel
theorem d_MO_deflate_114 : decode c_MO_deflate 114 = .ok (.iload 5, 2) := by decide +kernel
theorem d_MO_deflate_116 : decode c_MO_deflate 116 = .ok (.iconst 2, 1) := by decide +kernel
theorem d_MO_deflate_117 : decode c_MO_deflate 117 = .ok (.if_icmp .le 16, 3) := by decide +kernel
theorem d_MO_deflate_120 : decode c_MO_deflate 120 = .ok (.aload_n 0, 1) := by decide +kernel
theorem d_MO_deflate_121 : decode c_MO_deflate 121 = .ok (.getfield 43, 3) := by decide +kernel
theorem d_MO_deflate_124 : decode c_MO_deflate 124 = .ok (.aload_n 0, 1) := by decide +kernel
theorem d_MO_deflate_125 : decode c_MO_deflate 125 = .ok (.iload_n 1, 1) := by decide +kernel
theorem d_MO_deflate_126 : decode c_MO_deflate 126 = .ok (.invokevirtual 153, 3) := by decide +kernel
theorem d_MO_deflate_129 : decode c_MO_deflate 129 = .ok (.iaload, 1) := by decide +kernel
theorem d_MO_deflate_130 : decode c_MO_deflate 130 = .ok (.goto 4, 3) := by decide +kernel
theorem d_MO_deflate_133 : decode c_MO_deflate 133 = .ok (.iconst (-1), 1) := by decide +kernel
theorem d_MO_deflate_134 : decode c_MO_deflate 134 = .ok (.istore 6, 2) := by decide +kernel
theorem d_MO_deflate_136 : decode c_MO_deflate 136 = .ok (.iload 6, 2) := by decide +kernel
theorem d_MO_deflate_138 : decode c_MO_deflate 138 = .ok (.ifCond .lt 84, 3) := by decide +kernel
theorem d_MO_deflate_141 : decode c_MO_deflate 141 = .ok (.iload_n 1, 1) := by decide +kernel
theorem d_MO_deflate_142 : decode c_MO_deflate 142 = .ok (.iload 6, 2) := by decide +kernel
theorem d_MO_deflate_144 : decode c_MO_deflate 144 = .ok (.isub, 1) := by decide +kernel
theorem d_MO_deflate_145 : decode c_MO_deflate 145 = .ok (.sipush 4096, 3) := by decide +kernel
theorem d_MO_deflate_148 : decode c_MO_deflate 148 = .ok (.if_icmp .gt 74, 3) := by decide +kernel
theorem d_MO_deflate_151 : decode c_MO_deflate 151 = .ok (.iload_n 3, 1) := by decide +kernel
theorem d_MO_deflate_152 : decode c_MO_deflate 152 = .ok (.iload 5, 2) := by decide +kernel
theorem d_MO_deflate_154 : decode c_MO_deflate 154 = .ok (.if_icmp .ge 68, 3) := by decide +kernel
theorem d_MO_deflate_157 : decode c_MO_deflate 157 = .ok (.iconst 0, 1) := by decide +kernel
theorem d_MO_deflate_158 : decode c_MO_deflate 158 = .ok (.istore 7, 2) := by decide +kernel
theorem d_MO_deflate_160 : decode c_MO_deflate 160 = .ok (.iload 7, 2) := by decide +kernel
theorem d_MO_deflate_162 : decode c_MO_deflate 162 = .ok (.iload 5, 2) := by decide +kernel
theorem d_MO_deflate_164 : decode c_MO_deflate 164 = .ok (.if_icmp .ge 31, 3) := by decide +kernel
theorem d_MO_deflate_167 : decode c_MO_deflate 167 = .ok (.aload_n 0, 1) := by decide +kernel
theorem d_MO_deflate_168 : decode c_MO_deflate 168 = .ok (.getfield 19, 3) := by decide +kernel
theorem d_MO_deflate_171 : decode c_MO_deflate 171 = .ok (.iload 6, 2) := by decide +kernel
theorem d_MO_deflate_173 : decode c_MO_deflate 173 = .ok (.iload 7, 2) := by decide +kernel
theorem d_MO_deflate_175 : decode c_MO_deflate 175 = .ok (.iadd, 1) := by decide +kernel
theorem d_MO_deflate_176 : decode c_MO_deflate 176 = .ok (.baload, 1) := by decide +kernel
theorem d_MO_deflate_177 : decode c_MO_deflate 177 = .ok (.aload_n 0, 1) := by decide +kernel
theorem d_MO_deflate_178 : decode c_MO_deflate 178 = .ok (.getfield 19, 3) := by decide +kernel
theorem d_MO_deflate_181 : decode c_MO_deflate 181 = .ok (.iload_n 1, 1) := by decide +kernel
theorem d_MO_deflate_182 : decode c_MO_deflate 182 = .ok (.iload 7, 2) := by decide +kernel
theorem d_MO_deflate_184 : decode c_MO_deflate 184 = .ok (.iadd, 1) := by decide +kernel
theorem d_MO_deflate_185 : decode c_MO_deflate 185 = .ok (.baload, 1) := by decide +kernel
theorem d_MO_deflate_186 : decode c_MO_deflate 186 = .ok (.if_icmp .ne 9, 3) := by decide +kernel
theorem d_MO_deflate_189 : decode c_MO_deflate 189 = .ok (.iinc 7 1, 3) := by decide +kernel
theorem d_MO_deflate_192 : decode c_MO_deflate 192 = .ok (.goto (-32), 3) := by decide +kernel
theorem d_MO_deflate_195 : decode c_MO_deflate 195 = .ok (.iload 7, 2) := by decide +kernel
theorem d_MO_deflate_197 : decode c_MO_deflate 197 = .ok (.iload_n 3, 1) := by decide +kernel
theorem d_MO_deflate_198 : decode c_MO_deflate 198 = .ok (.if_icmp .le 12, 3) := by decide +kernel
theorem d_MO_deflate_201 : decode c_MO_deflate 201 = .ok (.iload 7, 2) := by decide +kernel
theorem d_MO_deflate_203 : decode c_MO_deflate 203 = .ok (.istore_n 3, 1) := by decide +kernel
theorem d_MO_deflate_204 : decode c_MO_deflate 204 = .ok (.iload_n 1, 1) := by decide +kernel
theorem d_MO_deflate_205 : decode c_MO_deflate 205 = .ok (.iload 6, 2) := by decide +kernel
theorem d_MO_deflate_207 : decode c_MO_deflate 207 = .ok (.isub, 1) := by decide +kernel
theorem d_MO_deflate_208 : decode c_MO_deflate 208 = .ok (.istore 4, 2) := by decide +kernel
theorem d_MO_deflate_210 : decode c_MO_deflate 210 = .ok (.aload_n 0, 1) := by decide +kernel
theorem d_MO_deflate_211 : decode c_MO_deflate 211 = .ok (.getfield 46, 3) := by decide +kernel
theorem d_MO_deflate_214 : decode c_MO_deflate 214 = .ok (.iload 6, 2) := by decide +kernel
theorem d_MO_deflate_216 : decode c_MO_deflate 216 = .ok (.iaload, 1) := by decide +kernel
theorem d_MO_deflate_217 : decode c_MO_deflate 217 = .ok (.istore 6, 2) := by decide +kernel
theorem d_MO_deflate_219 : decode c_MO_deflate 219 = .ok (.goto (-83), 3) := by decide +kernel
theorem d_MO_deflate_222 : decode c_MO_deflate 222 = .ok (.iload 4, 2) := by decide +kernel
theorem d_MO_deflate_224 : decode c_MO_deflate 224 = .ok (.ifCond .le 17, 3) := by decide +kernel
theorem d_MO_deflate_227 : decode c_MO_deflate 227 = .ok (.aload_n 0, 1) := by decide +kernel
theorem d_MO_deflate_228 : decode c_MO_deflate 228 = .ok (.iload_n 3, 1) := by decide +kernel
theorem d_MO_deflate_229 : decode c_MO_deflate 229 = .ok (.iload 4, 2) := by decide +kernel
theorem d_MO_deflate_231 : decode c_MO_deflate 231 = .ok (.invokevirtual 162, 3) := by decide +kernel
theorem d_MO_deflate_234 : decode c_MO_deflate 234 = .ok (.iload_n 1, 1) := by decide +kernel
theorem d_MO_deflate_235 : decode c_MO_deflate 235 = .ok (.iload_n 3, 1) := by decide +kernel
theorem d_MO_deflate_236 : decode c_MO_deflate 236 = .ok (.iadd, 1) := by decide +kernel
theorem d_MO_deflate_237 : decode c_MO_deflate 237 = .ok (.istore_n 1, 1) := by decide +kernel
theorem d_MO_deflate_238 : decode c_MO_deflate 238 = .ok (.goto 20, 3) := by decide +kernel
theorem d_MO_deflate_241 : decode c_MO_deflate 241 = .ok (.aload_n 0, 1) := by decide +kernel
theorem d_MO_deflate_242 : decode c_MO_deflate 242 = .ok (.aload_n 0, 1) := by decide +kernel
theorem d_MO_deflate_243 : decode c_MO_deflate 243 = .ok (.getfield 19, 3) := by decide +kernel
theorem d_MO_deflate_246 : decode c_MO_deflate 246 = .ok (.iload_n 1, 1) := by decide +kernel
theorem d_MO_deflate_247 : decode c_MO_deflate 247 = .ok (.baload, 1) := by decide +kernel
theorem d_MO_deflate_248 : decode c_MO_deflate 248 = .ok (.sipush 255, 3) := by decide +kernel
theorem d_MO_deflate_251 : decode c_MO_deflate 251 = .ok (.iand, 1) := by decide +kernel
theorem d_MO_deflate_252 : decode c_MO_deflate 252 = .ok (.invokevirtual 148, 3) := by decide +kernel
theorem d_MO_deflate_255 : decode c_MO_deflate 255 = .ok (.iinc 1 1, 3) := by decide +kernel
theorem d_MO_deflate_258 : decode c_MO_deflate 258 = .ok (.goto (-217), 3) := by decide +kernel
theorem d_MO_deflate_261 : decode c_MO_deflate 261 = .ok (.aload_n 0, 1) := by decide +kernel
theorem d_MO_deflate_262 : decode c_MO_deflate 262 = .ok (.sipush 256, 3) := by decide +kernel
theorem d_MO_deflate_265 : decode c_MO_deflate 265 = .ok (.invokevirtual 148, 3) := by decide +kernel
theorem d_MO_deflate_268 : decode c_MO_deflate 268 = .ok (.aload_n 0, 1) := by decide +kernel
theorem d_MO_deflate_269 : decode c_MO_deflate 269 = .ok (.invokevirtual 138, 3) := by decide +kernel
theorem d_MO_deflate_272 : decode c_MO_deflate 272 = .ok (.return_, 1) := by decide +kernel
theorem d_MO_putBits_0 : decode c_MO_putBits 0 = .ok (.iconst 0, 1) := by decide +kernel
theorem d_MO_putBits_1 : decode c_MO_putBits 1 = .ok (.istore_n 3, 1) := by decide +kernel
theorem d_MO_putBits_2 : decode c_MO_putBits 2 = .ok (.iload_n 3, 1) := by decide +kernel
theorem d_MO_putBits_3 : decode c_MO_putBits 3 = .ok (.iload_n 2, 1) := by decide +kernel
theorem d_MO_putBits_4 : decode c_MO_putBits 4 = .ok (.if_icmp .ge 51, 3) := by decide +kernel
theorem d_MO_putBits_7 : decode c_MO_putBits 7 = .ok (.aload_n 0, 1) := by decide +kernel
theorem d_MO_putBits_8 : decode c_MO_putBits 8 = .ok (.dup, 1) := by decide +kernel
theorem d_MO_putBits_9 : decode c_MO_putBits 9 = .ok (.getfield 132, 3) := by decide +kernel
theorem d_MO_putBits_12 : decode c_MO_putBits 12 = .ok (.iload_n 1, 1) := by decide +kernel
theorem d_MO_putBits_13 : decode c_MO_putBits 13 = .ok (.iload_n 3, 1) := by decide +kernel
theorem d_MO_putBits_14 : decode c_MO_putBits 14 = .ok (.ishr, 1) := by decide +kernel
theorem d_MO_putBits_15 : decode c_MO_putBits 15 = .ok (.iconst 1, 1) := by decide +kernel
theorem d_MO_putBits_16 : decode c_MO_putBits 16 = .ok (.iand, 1) := by decide +kernel
theorem d_MO_putBits_17 : decode c_MO_putBits 17 = .ok (.aload_n 0, 1) := by decide +kernel
theorem d_MO_putBits_18 : decode c_MO_putBits 18 = .ok (.getfield 135, 3) := by decide +kernel
theorem d_MO_putBits_21 : decode c_MO_putBits 21 = .ok (.ishl, 1) := by decide +kernel
theorem d_MO_putBits_22 : decode c_MO_putBits 22 = .ok (.ior, 1) := by decide +kernel
theorem d_MO_putBits_23 : decode c_MO_putBits 23 = .ok (.putfield 132, 3) := by decide +kernel
theorem d_MO_putBits_26 : decode c_MO_putBits 26 = .ok (.aload_n 0, 1) := by decide +kernel
theorem d_MO_putBits_27 : decode c_MO_putBits 27 = .ok (.dup, 1) := by decide +kernel
theorem d_MO_putBits_28 : decode c_MO_putBits 28 = .ok (.getfield 135, 3) := by decide +kernel
theorem d_MO_putBits_31 : decode c_MO_putBits 31 = .ok (.iconst 1, 1) := by decide +kernel
theorem d_MO_putBits_32 : decode c_MO_putBits 32 = .ok (.iadd, 1) := by decide +kernel
theorem d_MO_putBits_33 : decode c_MO_putBits 33 = .ok (.putfield 135, 3) := by decide +kernel
theorem d_MO_putBits_36 : decode c_MO_putBits 36 = .ok (.aload_n 0, 1) := by decide +kernel
theorem d_MO_putBits_37 : decode c_MO_putBits 37 = .ok (.getfield 135, 3) := by decide +kernel
theorem d_MO_putBits_40 : decode c_MO_putBits 40 = .ok (.bipush 8, 2) := by decide +kernel
theorem d_MO_putBits_42 : decode c_MO_putBits 42 = .ok (.if_icmp .ne 7, 3) := by decide +kernel
theorem d_MO_putBits_45 : decode c_MO_putBits 45 = .ok (.aload_n 0, 1) := by decide +kernel
theorem d_MO_putBits_46 : decode c_MO_putBits 46 = .ok (.invokevirtual 138, 3) := by decide +kernel
theorem d_MO_putBits_49 : decode c_MO_putBits 49 = .ok (.iinc 3 1, 3) := by decide +kernel
theorem d_MO_putBits_52 : decode c_MO_putBits 52 = .ok (.goto (-50), 3) := by decide +kernel
theorem d_MO_putBits_55 : decode c_MO_putBits 55 = .ok (.return_, 1) := by decide +kernel
theorem d_MO_flush_0 : decode c_MO_flush 0 = .ok (.aload_n 0, 1) := by decide +kernel
theorem d_MO_flush_1 : decode c_MO_flush 1 = .ok (.getfield 135, 3) := by decide +kernel
theorem d_MO_flush_4 : decode c_MO_flush 4 = .ok (.ifCond .ne 4, 3) := by decide +kernel
theorem d_MO_flush_7 : decode c_MO_flush 7 = .ok (.return_, 1) := by decide +kernel
theorem d_MO_flush_8 : decode c_MO_flush 8 = .ok (.aload_n 0, 1) := by decide +kernel
theorem d_MO_flush_9 : decode c_MO_flush 9 = .ok (.aload_n 0, 1) := by decide +kernel
theorem d_MO_flush_10 : decode c_MO_flush 10 = .ok (.getfield 132, 3) := by decide +kernel
theorem d_MO_flush_13 : decode c_MO_flush 13 = .ok (.invokevirtual 129, 3) := by decide +kernel
theorem d_MO_flush_16 : decode c_MO_flush 16 = .ok (.aload_n 0, 1) := by decide +kernel
theorem d_MO_flush_17 : decode c_MO_flush 17 = .ok (.iconst 0, 1) := by decide +kernel
theorem d_MO_flush_18 : decode c_MO_flush 18 = .ok (.putfield 132, 3) := by decide +kernel
theorem d_MO_flush_21 : decode c_MO_flush 21 = .ok (.aload_n 0, 1) := by decide +kernel
theorem d_MO_flush_22 : decode c_MO_flush 22 = .ok (.iconst 0, 1) := by decide +kernel
theorem d_MO_flush_23 : decode c_MO_flush 23 = .ok (.putfield 135, 3) := by decide +kernel
theorem d_MO_flush_26 : decode c_MO_flush 26 = .ok (.return_, 1) := by decide +kernel
theorem d_MO_mark_0 : decode c_MO_mark 0 = .ok (.aload_n 0, 1) := by decide +kernel
theorem d_MO_mark_1 : decode c_MO_mark 1 = .ok (.getfield 19, 3) := by decide +kernel
theorem d_MO_mark_4 : decode c_MO_mark 4 = .ok (.iload_n 1, 1) := by decide +kernel
theorem d_MO_mark_5 : decode c_MO_mark 5 = .ok (.baload, 1) := by decide +kernel
theorem d_MO_mark_6 : decode c_MO_mark 6 = .ok (.sipush 255, 3) := by decide +kernel
theorem d_MO_mark_9 : decode c_MO_mark 9 = .ok (.iand, 1) := by decide +kernel
theorem d_MO_mark_10 : decode c_MO_mark 10 = .ok (.ldc 151, 2) := by decide +kernel
theorem d_MO_mark_12 : decode c_MO_mark 12 = .ok (.imul, 1) := by decide +kernel
theorem d_MO_mark_13 : decode c_MO_mark 13 = .ok (.aload_n 0, 1) := by decide +kernel
theorem d_MO_mark_14 : decode c_MO_mark 14 = .ok (.getfield 19, 3) := by decide +kernel
theorem d_MO_mark_17 : decode c_MO_mark 17 = .ok (.iload_n 1, 1) := by decide +kernel
theorem d_MO_mark_18 : decode c_MO_mark 18 = .ok (.iconst 1, 1) := by decide +kernel
theorem d_MO_mark_19 : decode c_MO_mark 19 = .ok (.iadd, 1) := by decide +kernel
theorem d_MO_mark_20 : decode c_MO_mark 20 = .ok (.baload, 1) := by decide +kernel
theorem d_MO_mark_21 : decode c_MO_mark 21 = .ok (.sipush 255, 3) := by decide +kernel
theorem d_MO_mark_24 : decode c_MO_mark 24 = .ok (.iand, 1) := by decide +kernel
theorem d_MO_mark_25 : decode c_MO_mark 25 = .ok (.sipush 257, 3) := by decide +kernel
theorem d_MO_mark_28 : decode c_MO_mark 28 = .ok (.imul, 1) := by decide +kernel
theorem d_MO_mark_29 : decode c_MO_mark 29 = .ok (.iadd, 1) := by decide +kernel
theorem d_MO_mark_30 : decode c_MO_mark 30 = .ok (.aload_n 0, 1) := by decide +kernel
theorem d_MO_mark_31 : decode c_MO_mark 31 = .ok (.getfield 19, 3) := by decide +kernel
theorem d_MO_mark_34 : decode c_MO_mark 34 = .ok (.iload_n 1, 1) := by decide +kernel
theorem d_MO_mark_35 : decode c_MO_mark 35 = .ok (.iconst 2, 1) := by decide +kernel
theorem d_MO_mark_36 : decode c_MO_mark 36 = .ok (.iadd, 1) := by decide +kernel
theorem d_MO_mark_37 : decode c_MO_mark 37 = .ok (.baload, 1) := by decide +kernel
theorem d_MO_mark_38 : decode c_MO_mark 38 = .ok (.sipush 255, 3) := by decide +kernel
theorem d_MO_mark_41 : decode c_MO_mark 41 = .ok (.iand, 1) := by decide +kernel
theorem d_MO_mark_42 : decode c_MO_mark 42 = .ok (.iadd, 1) := by decide +kernel
theorem d_MO_mark_43 : decode c_MO_mark 43 = .ok (.ldc 152, 2) := by decide +kernel
theorem d_MO_mark_45 : decode c_MO_mark 45 = .ok (.imul, 1) := by decide +kernel
theorem d_MO_mark_46 : decode c_MO_mark 46 = .ok (.iconst 4, 1) := by decide +kernel
theorem d_MO_mark_47 : decode c_MO_mark 47 = .ok (.ishr, 1) := by decide +kernel
theorem d_MO_mark_48 : decode c_MO_mark 48 = .ok (.ldc 107, 2) := by decide +kernel
theorem d_MO_mark_50 : decode c_MO_mark 50 = .ok (.iand, 1) := by decide +kernel
theorem d_MO_mark_51 : decode c_MO_mark 51 = .ok (.ireturn, 1) := by decide +kernel
theorem d_MO_putCopy_0 : decode c_MO_putCopy 0 = .ok (.sipush 257, 3) := by decide +kernel
theorem d_MO_putCopy_3 : decode c_MO_putCopy 3 = .ok (.istore_n 3, 1) := by decide +kernel
theorem d_MO_putCopy_4 : decode c_MO_putCopy 4 = .ok (.iconst 3, 1) := by decide +kernel
theorem d_MO_putCopy_5 : decode c_MO_putCopy 5 = .ok (.istore 4, 2) := by decide +kernel
theorem d_MO_putCopy_7 : decode c_MO_putCopy 7 = .ok (.iload_n 3, 1) := by decide +kernel
theorem d_MO_putCopy_8 : decode c_MO_putCopy 8 = .ok (.sipush 284, 3) := by decide +kernel
theorem d_MO_putCopy_11 : decode c_MO_putCopy 11 = .ok (.if_icmp .ge 33, 3) := by decide +kernel
theorem d_MO_putCopy_14 : decode c_MO_putCopy 14 = .ok (.iload 4, 2) := by decide +kernel
theorem d_MO_putCopy_16 : decode c_MO_putCopy 16 = .ok (.iconst 1, 1) := by decide +kernel
theorem d_MO_putCopy_17 : decode c_MO_putCopy 17 = .ok (.iload_n 3, 1) := by decide +kernel
theorem d_MO_putCopy_18 : decode c_MO_putCopy 18 = .ok (.invokestatic 100, 3) := by decide +kernel
theorem d_MO_putCopy_21 : decode c_MO_putCopy 21 = .ok (.ishl, 1) := by decide +kernel
theorem d_MO_putCopy_22 : decode c_MO_putCopy 22 = .ok (.iadd, 1) := by decide +kernel
theorem d_MO_putCopy_23 : decode c_MO_putCopy 23 = .ok (.iload_n 1, 1) := by decide +kernel
theorem d_MO_putCopy_24 : decode c_MO_putCopy 24 = .ok (.if_icmp .gt 20, 3) := by decide +kernel
theorem d_MO_putCopy_27 : decode c_MO_putCopy 27 = .ok (.iload 4, 2) := by decide +kernel
theorem d_MO_putCopy_29 : decode c_MO_putCopy 29 = .ok (.iconst 1, 1) := by decide +kernel
theorem d_MO_putCopy_30 : decode c_MO_putCopy 30 = .ok (.iload_n 3, 1) := by decide +kernel
theorem d_MO_putCopy_31 : decode c_MO_putCopy 31 = .ok (.invokestatic 100, 3) := by decide +kernel
theorem d_MO_putCopy_34 : decode c_MO_putCopy 34 = .ok (.ishl, 1) := by decide +kernel
theorem d_MO_putCopy_35 : decode c_MO_putCopy 35 = .ok (.iadd, 1) := by decide +kernel
theorem d_MO_putCopy_36 : decode c_MO_putCopy 36 = .ok (.istore 4, 2) := by decide +kernel
theorem d_MO_putCopy_38 : decode c_MO_putCopy 38 = .ok (.iinc 3 1, 3) := by decide +kernel
theorem d_MO_putCopy_41 : decode c_MO_putCopy 41 = .ok (.goto (-34), 3) := by decide +kernel
theorem d_MO_putCopy_44 : decode c_MO_putCopy 44 = .ok (.iload_n 1, 1) := by decide +kernel
theorem d_MO_putCopy_45 : decode c_MO_putCopy 45 = .ok (.sipush 258, 3) := by decide +kernel
theorem d_MO_putCopy_48 : decode c_MO_putCopy 48 = .ok (.if_icmp .ne 12, 3) := by decide +kernel
theorem d_MO_putCopy_51 : decode c_MO_putCopy 51 = .ok (.sipush 285, 3) := by decide +kernel
theorem d_MO_putCopy_54 : decode c_MO_putCopy 54 = .ok (.istore_n 3, 1) := by decide +kernel
theorem d_MO_putCopy_55 : decode c_MO_putCopy 55 = .ok (.sipush 258, 3) := by decide +kernel
theorem d_MO_putCopy_58 : decode c_MO_putCopy 58 = .ok (.istore 4, 2) := by decide +kernel
theorem d_MO_putCopy_60 : decode c_MO_putCopy 60 = .ok (.aload_n 0, 1) := by decide +kernel
theorem d_MO_putCopy_61 : decode c_MO_putCopy 61 = .ok (.iload_n 3, 1) := by decide +kernel
theorem d_MO_putCopy_62 : decode c_MO_putCopy 62 = .ok (.invokevirtual 148, 3) := by decide +kernel
theorem d_MO_putCopy_65 : decode c_MO_putCopy 65 = .ok (.aload_n 0, 1) := by decide +kernel
theorem d_MO_putCopy_66 : decode c_MO_putCopy 66 = .ok (.iload_n 1, 1) := by decide +kernel
theorem d_MO_putCopy_67 : decode c_MO_putCopy 67 = .ok (.iload 4, 2) := by decide +kernel
theorem d_MO_putCopy_69 : decode c_MO_putCopy 69 = .ok (.isub, 1) := by decide +kernel
theorem d_MO_putCopy_70 : decode c_MO_putCopy 70 = .ok (.iload_n 3, 1) := by decide +kernel
theorem d_MO_putCopy_71 : decode c_MO_putCopy 71 = .ok (.invokestatic 100, 3) := by decide +kernel
theorem d_MO_putCopy_74 : decode c_MO_putCopy 74 = .ok (.invokevirtual 141, 3) := by decide +kernel
theorem d_MO_putCopy_77 : decode c_MO_putCopy 77 = .ok (.iconst 0, 1) := by decide +kernel
theorem d_MO_putCopy_78 : decode c_MO_putCopy 78 = .ok (.istore 5, 2) := by decide +kernel
theorem d_MO_putCopy_80 : decode c_MO_putCopy 80 = .ok (.iconst 1, 1) := by decide +kernel
theorem d_MO_putCopy_81 : decode c_MO_putCopy 81 = .ok (.istore 6, 2) := by decide +kernel
theorem d_MO_putCopy_83 : decode c_MO_putCopy 83 = .ok (.iload 6, 2) := by decide +kernel
theorem d_MO_putCopy_85 : decode c_MO_putCopy 85 = .ok (.iconst 1, 1) := by decide +kernel
theorem d_MO_putCopy_86 : decode c_MO_putCopy 86 = .ok (.iload 5, 2) := by decide +kernel
theorem d_MO_putCopy_88 : decode c_MO_putCopy 88 = .ok (.invokestatic 103, 3) := by decide +kernel
theorem d_MO_putCopy_91 : decode c_MO_putCopy 91 = .ok (.ishl, 1) := by decide +kernel
theorem d_MO_putCopy_92 : decode c_MO_putCopy 92 = .ok (.iadd, 1) := by decide +kernel
theorem d_MO_putCopy_93 : decode c_MO_putCopy 93 = .ok (.iload_n 2, 1) := by decide +kernel
theorem d_MO_putCopy_94 : decode c_MO_putCopy 94 = .ok (.if_icmp .gt 21, 3) := by decide +kernel
theorem d_MO_putCopy_97 : decode c_MO_putCopy 97 = .ok (.iload 6, 2) := by decide +kernel
theorem d_MO_putCopy_99 : decode c_MO_putCopy 99 = .ok (.iconst 1, 1) := by decide +kernel
theorem d_MO_putCopy_100 : decode c_MO_putCopy 100 = .ok (.iload 5, 2) := by decide +kernel
theorem d_MO_putCopy_102 : decode c_MO_putCopy 102 = .ok (.invokestatic 103, 3) := by decide +kernel
theorem d_MO_putCopy_105 : decode c_MO_putCopy 105 = .ok (.ishl, 1) := by decide +kernel
theorem d_MO_putCopy_106 : decode c_MO_putCopy 106 = .ok (.iadd, 1) := by decide +kernel
theorem d_MO_putCopy_107 : decode c_MO_putCopy 107 = .ok (.istore 6, 2) := by decide +kernel
theorem d_MO_putCopy_109 : decode c_MO_putCopy 109 = .ok (.iinc 5 1, 3) := by decide +kernel
theorem d_MO_putCopy_112 : decode c_MO_putCopy 112 = .ok (.goto (-29), 3) := by decide +kernel
theorem d_MO_putCopy_115 : decode c_MO_putCopy 115 = .ok (.aload_n 0, 1) := by decide +kernel
theorem d_MO_putCopy_116 : decode c_MO_putCopy 116 = .ok (.iload 5, 2) := by decide +kernel
theorem d_MO_putCopy_118 : decode c_MO_putCopy 118 = .ok (.iconst 5, 1) := by decide +kernel
theorem d_MO_putCopy_119 : decode c_MO_putCopy 119 = .ok (.invokevirtual 145, 3) := by decide +kernel
theorem d_MO_putCopy_122 : decode c_MO_putCopy 122 = .ok (.aload_n 0, 1) := by decide +kernel
theorem d_MO_putCopy_123 : decode c_MO_putCopy 123 = .ok (.iload_n 2, 1) := by decide +kernel
theorem d_MO_putCopy_124 : decode c_MO_putCopy 124 = .ok (.iload 6, 2) := by decide +kernel
theorem d_MO_putCopy_126 : decode c_MO_putCopy 126 = .ok (.isub, 1) := by decide +kernel
theorem d_MO_putCopy_127 : decode c_MO_putCopy 127 = .ok (.iload 5, 2) := by decide +kernel
theorem d_MO_putCopy_129 : decode c_MO_putCopy 129 = .ok (.invokestatic 103, 3) := by decide +kernel
theorem d_MO_putCopy_132 : decode c_MO_putCopy 132 = .ok (.invokevirtual 141, 3) := by decide +kernel
theorem d_MO_putCopy_135 : decode c_MO_putCopy 135 = .ok (.return_, 1) := by decide +kernel
theorem d_MO_putLiteral_0 : decode c_MO_putLiteral 0 = .ok (.iload_n 1, 1) := by decide +kernel
theorem d_MO_putLiteral_1 : decode c_MO_putLiteral 1 = .ok (.sipush 144, 3) := by decide +kernel
theorem d_MO_putLiteral_4 : decode c_MO_putLiteral 4 = .ok (.if_icmp .ge 16, 3) := by decide +kernel
theorem d_MO_putLiteral_7 : decode c_MO_putLiteral 7 = .ok (.aload_n 0, 1) := by decide +kernel
theorem d_MO_putLiteral_8 : decode c_MO_putLiteral 8 = .ok (.bipush 48, 2) := by decide +kernel
theorem d_MO_putLiteral_10 : decode c_MO_putLiteral 10 = .ok (.iload_n 1, 1) := by decide +kernel
theorem d_MO_putLiteral_11 : decode c_MO_putLiteral 11 = .ok (.iadd, 1) := by decide +kernel
theorem d_MO_putLiteral_12 : decode c_MO_putLiteral 12 = .ok (.bipush 8, 2) := by decide +kernel
theorem d_MO_putLiteral_14 : decode c_MO_putLiteral 14 = .ok (.invokevirtual 145, 3) := by decide +kernel
theorem d_MO_putLiteral_17 : decode c_MO_putLiteral 17 = .ok (.goto 64, 3) := by decide +kernel
theorem d_MO_putLiteral_20 : decode c_MO_putLiteral 20 = .ok (.iload_n 1, 1) := by decide +kernel
theorem d_MO_putLiteral_21 : decode c_MO_putLiteral 21 = .ok (.sipush 256, 3) := by decide +kernel
theorem d_MO_putLiteral_24 : decode c_MO_putLiteral 24 = .ok (.if_icmp .ge 21, 3) := by decide +kernel
theorem d_MO_putLiteral_27 : decode c_MO_putLiteral 27 = .ok (.aload_n 0, 1) := by decide +kernel
theorem d_MO_putLiteral_28 : decode c_MO_putLiteral 28 = .ok (.sipush 400, 3) := by decide +kernel
theorem d_MO_putLiteral_31 : decode c_MO_putLiteral 31 = .ok (.iload_n 1, 1) := by decide +kernel
theorem d_MO_putLiteral_32 : decode c_MO_putLiteral 32 = .ok (.iadd, 1) := by decide +kernel
theorem d_MO_putLiteral_33 : decode c_MO_putLiteral 33 = .ok (.sipush 144, 3) := by decide +kernel
theorem d_MO_putLiteral_36 : decode c_MO_putLiteral 36 = .ok (.isub, 1) := by decide +kernel
theorem d_MO_putLiteral_37 : decode c_MO_putLiteral 37 = .ok (.bipush 9, 2) := by decide +kernel
theorem d_MO_putLiteral_39 : decode c_MO_putLiteral 39 = .ok (.invokevirtual 145, 3) := by decide +kernel
theorem d_MO_putLiteral_42 : decode c_MO_putLiteral 42 = .ok (.goto 39, 3) := by decide +kernel
theorem d_MO_putLiteral_45 : decode c_MO_putLiteral 45 = .ok (.iload_n 1, 1) := by decide +kernel
theorem d_MO_putLiteral_46 : decode c_MO_putLiteral 46 = .ok (.sipush 280, 3) := by decide +kernel
theorem d_MO_putLiteral_49 : decode c_MO_putLiteral 49 = .ok (.if_icmp .ge 17, 3) := by decide +kernel
theorem d_MO_putLiteral_52 : decode c_MO_putLiteral 52 = .ok (.aload_n 0, 1) := by decide +kernel
theorem d_MO_putLiteral_53 : decode c_MO_putLiteral 53 = .ok (.iload_n 1, 1) := by decide +kernel
theorem d_MO_putLiteral_54 : decode c_MO_putLiteral 54 = .ok (.sipush 256, 3) := by decide +kernel
theorem d_MO_putLiteral_57 : decode c_MO_putLiteral 57 = .ok (.isub, 1) := by decide +kernel
theorem d_MO_putLiteral_58 : decode c_MO_putLiteral 58 = .ok (.bipush 7, 2) := by decide +kernel
theorem d_MO_putLiteral_60 : decode c_MO_putLiteral 60 = .ok (.invokevirtual 145, 3) := by decide +kernel
theorem d_MO_putLiteral_63 : decode c_MO_putLiteral 63 = .ok (.goto 18, 3) := by decide +kernel
theorem d_MO_putLiteral_66 : decode c_MO_putLiteral 66 = .ok (.aload_n 0, 1) := by decide +kernel
theorem d_MO_putLiteral_67 : decode c_MO_putLiteral 67 = .ok (.sipush 192, 3) := by decide +kernel
theorem d_MO_putLiteral_70 : decode c_MO_putLiteral 70 = .ok (.iload_n 1, 1) := by decide +kernel
theorem d_MO_putLiteral_71 : decode c_MO_putLiteral 71 = .ok (.iadd, 1) := by decide +kernel
theorem d_MO_putLiteral_72 : decode c_MO_putLiteral 72 = .ok (.sipush 280, 3) := by decide +kernel
theorem d_MO_putLiteral_75 : decode c_MO_putLiteral 75 = .ok (.isub, 1) := by decide +kernel
theorem d_MO_putLiteral_76 : decode c_MO_putLiteral 76 = .ok (.bipush 8, 2) := by decide +kernel
theorem d_MO_putLiteral_78 : decode c_MO_putLiteral 78 = .ok (.invokevirtual 145, 3) := by decide +kernel
theorem d_MO_putLiteral_81 : decode c_MO_putLiteral 81 = .ok (.return_, 1) := by decide +kernel
theorem d_MO_putCode_0 : decode c_MO_putCode 0 = .ok (.iload_n 2, 1) := by decide +kernel
theorem d_MO_putCode_1 : decode c_MO_putCode 1 = .ok (.iconst 1, 1) := by decide +kernel
theorem d_MO_putCode_2 : decode c_MO_putCode 2 = .ok (.isub, 1) := by decide +kernel
theorem d_MO_putCode_3 : decode c_MO_putCode 3 = .ok (.istore_n 3, 1) := by decide +kernel
theorem d_MO_putCode_4 : decode c_MO_putCode 4 = .ok (.iload_n 3, 1) := by decide +kernel
theorem d_MO_putCode_5 : decode c_MO_putCode 5 = .ok (.ifCond .lt 19, 3) := by decide +kernel
theorem d_MO_putCode_8 : decode c_MO_putCode 8 = .ok (.aload_n 0, 1) := by decide +kernel
theorem d_MO_putCode_9 : decode c_MO_putCode 9 = .ok (.iload_n 1, 1) := by decide +kernel
theorem d_MO_putCode_10 : decode c_MO_putCode 10 = .ok (.iload_n 3, 1) := by decide +kernel
theorem d_MO_putCode_11 : decode c_MO_putCode 11 = .ok (.ishr, 1) := by decide +kernel
theorem d_MO_putCode_12 : decode c_MO_putCode 12 = .ok (.iconst 1, 1) := by decide +kernel
theorem d_MO_putCode_13 : decode c_MO_putCode 13 = .ok (.iand, 1) := by decide +kernel
theorem d_MO_putCode_14 : decode c_MO_putCode 14 = .ok (.iconst 1, 1) := by decide +kernel
theorem d_MO_putCode_15 : decode c_MO_putCode 15 = .ok (.invokevirtual 141, 3) := by decide +kernel
theorem d_MO_putCode_18 : decode c_MO_putCode 18 = .ok (.iinc 3 (-1), 3) := by decide +kernel
theorem d_MO_putCode_21 : decode c_MO_putCode 21 = .ok (.goto (-17), 3) := by decide +kernel
theorem d_MO_putCode_24 : decode c_MO_putCode 24 = .ok (.return_, 1) := by decide +kernel
theorem d_MO_putBig_0 : decode c_MO_putBig 0 = .ok (.bipush 24, 2) := by decide +kernel
theorem d_MO_putBig_2 : decode c_MO_putBig 2 = .ok (.istore_n 3, 1) := by decide +kernel
theorem d_MO_putBig_3 : decode c_MO_putBig 3 = .ok (.iload_n 3, 1) := by decide +kernel
theorem d_MO_putBig_4 : decode c_MO_putBig 4 = .ok (.ifCond .lt 17, 3) := by decide +kernel
theorem d_MO_putBig_7 : decode c_MO_putBig 7 = .ok (.aload_n 0, 1) := by decide +kernel
theorem d_MO_putBig_8 : decode c_MO_putBig 8 = .ok (.lload_n 1, 1) := by decide +kernel
theorem d_MO_putBig_9 : decode c_MO_putBig 9 = .ok (.iload_n 3, 1) := by decide +kernel
theorem d_MO_putBig_10 : decode c_MO_putBig 10 = .ok (.lshr, 1) := by decide +kernel
theorem d_MO_putBig_11 : decode c_MO_putBig 11 = .ok (.l2i, 1) := by decide +kernel
theorem d_MO_putBig_12 : decode c_MO_putBig 12 = .ok (.invokevirtual 129, 3) := by decide +kernel
theorem d_MO_putBig_15 : decode c_MO_putBig 15 = .ok (.iinc 3 (-8), 3) := by decide +kernel
theorem d_MO_putBig_18 : decode c_MO_putBig 18 = .ok (.goto (-15), 3) := by decide +kernel
theorem d_MO_putBig_21 : decode c_MO_putBig 21 = .ok (.return_, 1) := by decide +kernel
theorem d_MO_adler2_0 : decode c_MO_adler2 0 = .ok (.aload_n 0, 1) := by decide +kernel
theorem d_MO_adler2_1 : decode c_MO_adler2 1 = .ok (.iconst 0, 1) := by decide +kernel
theorem d_MO_adler2_2 : decode c_MO_adler2 2 = .ok (.putfield 49, 3) := by decide +kernel
theorem d_MO_adler2_5 : decode c_MO_adler2 5 = .ok (.aload_n 0, 1) := by decide +kernel
theorem d_MO_adler2_6 : decode c_MO_adler2 6 = .ok (.getfield 7, 3) := by decide +kernel
theorem d_MO_adler2_9 : decode c_MO_adler2 9 = .ok (.aload_n 0, 1) := by decide +kernel
theorem d_MO_adler2_10 : decode c_MO_adler2 10 = .ok (.getfield 165, 3) := by decide +kernel
theorem d_MO_adler2_13 : decode c_MO_adler2 13 = .ok (.invokestatic 119, 3) := by decide +kernel
theorem d_MO_adler2_16 : decode c_MO_adler2 16 = .ok (.l2i, 1) := by decide +kernel
theorem d_MO_adler2_17 : decode c_MO_adler2 17 = .ok (.ireturn, 1) := by decide +kernel
theorem d_MO_feed_0 : decode c_MO_feed 0 = .ok (.aload_n 0, 1) := by decide +kernel
theorem d_MO_feed_1 : decode c_MO_feed 1 = .ok (.iconst 0, 1) := by decide +kernel
theorem d_MO_feed_2 : decode c_MO_feed 2 = .ok (.putfield 49, 3) := by decide +kernel
theorem d_MO_feed_5 : decode c_MO_feed 5 = .ok (.aload_n 0, 1) := by decide +kernel
theorem d_MO_feed_6 : decode c_MO_feed 6 = .ok (.getfield 165, 3) := by decide +kernel
theorem d_MO_feed_9 : decode c_MO_feed 9 = .ok (.bipush 20, 2) := by decide +kernel
theorem d_MO_feed_11 : decode c_MO_feed 11 = .ok (.iadd, 1) := by decide +kernel
theorem d_MO_feed_12 : decode c_MO_feed 12 = .ok (.sipush 16384, 3) := by decide +kernel
theorem d_MO_feed_15 : decode c_MO_feed 15 = .ok (.if_icmp .le 9, 3) := by decide +kernel
theorem d_MO_feed_18 : decode c_MO_feed 18 = .ok (.aload_n 0, 1) := by decide +kernel
theorem d_MO_feed_19 : decode c_MO_feed 19 = .ok (.iconst 1, 1) := by decide +kernel
theorem d_MO_feed_20 : decode c_MO_feed 20 = .ok (.invokevirtual 171, 3) := by decide +kernel
theorem d_MO_feed_23 : decode c_MO_feed 23 = .ok (.ireturn, 1) := by decide +kernel
theorem d_MO_feed_24 : decode c_MO_feed 24 = .ok (.iconst 0, 1) := by decide +kernel
theorem d_MO_feed_25 : decode c_MO_feed 25 = .ok (.istore 6, 2) := by decide +kernel
theorem d_MO_feed_27 : decode c_MO_feed 27 = .ok (.iload 6, 2) := by decide +kernel
theorem d_MO_feed_29 : decode c_MO_feed 29 = .ok (.bipush 20, 2) := by decide +kernel
theorem d_MO_feed_31 : decode c_MO_feed 31 = .ok (.if_icmp .ge 90, 3) := by decide +kernel
theorem d_MO_feed_34 : decode c_MO_feed 34 = .ok (.iload 6, 2) := by decide +kernel
theorem d_MO_feed_36 : decode c_MO_feed 36 = .ok (.iconst 4, 1) := by decide +kernel
theorem d_MO_feed_37 : decode c_MO_feed 37 = .ok (.if_icmp .ge 7, 3) := by decide +kernel
theorem d_MO_feed_40 : decode c_MO_feed 40 = .ok (.iload_n 1, 1) := by decide +kernel
theorem d_MO_feed_41 : decode c_MO_feed 41 = .ok (.goto 39, 3) := by decide +kernel
theorem d_MO_feed_44 : decode c_MO_feed 44 = .ok (.iload 6, 2) := by decide +kernel
theorem d_MO_feed_46 : decode c_MO_feed 46 = .ok (.bipush 8, 2) := by decide +kernel
theorem d_MO_feed_48 : decode c_MO_feed 48 = .ok (.if_icmp .ge 7, 3) := by decide +kernel
theorem d_MO_feed_51 : decode c_MO_feed 51 = .ok (.iload_n 2, 1) := by decide +kernel
theorem d_MO_feed_52 : decode c_MO_feed 52 = .ok (.goto 28, 3) := by decide +kernel
theorem d_MO_feed_55 : decode c_MO_feed 55 = .ok (.iload 6, 2) := by decide +kernel
theorem d_MO_feed_57 : decode c_MO_feed 57 = .ok (.bipush 12, 2) := by decide +kernel
theorem d_MO_feed_59 : decode c_MO_feed 59 = .ok (.if_icmp .ge 7, 3) := by decide +kernel
theorem d_MO_feed_62 : decode c_MO_feed 62 = .ok (.iload_n 3, 1) := by decide +kernel
theorem d_MO_feed_63 : decode c_MO_feed 63 = .ok (.goto 17, 3) := by decide +kernel
theorem d_MO_feed_66 : decode c_MO_feed 66 = .ok (.iload 6, 2) := by decide +kernel
theorem d_MO_feed_68 : decode c_MO_feed 68 = .ok (.bipush 16, 2) := by decide +kernel
theorem d_MO_feed_70 : decode c_MO_feed 70 = .ok (.if_icmp .ge 8, 3) := by decide +kernel
theorem d_MO_feed_73 : decode c_MO_feed 73 = .ok (.iload 4, 2) := by decide +kernel
theorem d_MO_feed_75 : decode c_MO_feed 75 = .ok (.goto 5, 3) := by decide +kernel
theorem d_MO_feed_78 : decode c_MO_feed 78 = .ok (.iload 5, 2) := by decide +kernel
theorem d_MO_feed_80 : decode c_MO_feed 80 = .ok (.istore 7, 2) := by decide +kernel
theorem d_MO_feed_82 : decode c_MO_feed 82 = .ok (.aload_n 0, 1) := by decide +kernel
theorem d_MO_feed_83 : decode c_MO_feed 83 = .ok (.getfield 7, 3) := by decide +kernel
theorem d_MO_feed_86 : decode c_MO_feed 86 = .ok (.aload_n 0, 1) := by decide +kernel
theorem d_MO_feed_87 : decode c_MO_feed 87 = .ok (.getfield 165, 3) := by decide +kernel
theorem d_MO_feed_90 : decode c_MO_feed 90 = .ok (.iload 7, 2) := by decide +kernel
theorem d_MO_feed_92 : decode c_MO_feed 92 = .ok (.bipush 24, 2) := by decide +kernel
theorem d_MO_feed_94 : decode c_MO_feed 94 = .ok (.bipush 8, 2) := by decide +kernel
theorem d_MO_feed_96 : decode c_MO_feed 96 = .ok (.iload 6, 2) := by decide +kernel
theorem d_MO_feed_98 : decode c_MO_feed 98 = .ok (.iconst 4, 1) := by decide +kernel
theorem d_MO_feed_99 : decode c_MO_feed 99 = .ok (.irem, 1) := by decide +kernel
theorem d_MO_feed_100 : decode c_MO_feed 100 = .ok (.imul, 1) := by decide +kernel
theorem d_MO_feed_101 : decode c_MO_feed 101 = .ok (.isub, 1) := by decide +kernel
theorem d_MO_feed_102 : decode c_MO_feed 102 = .ok (.ishr, 1) := by decide +kernel
theorem d_MO_feed_103 : decode c_MO_feed 103 = .ok (.i2b, 1) := by decide +kernel
theorem d_MO_feed_104 : decode c_MO_feed 104 = .ok (.bastore, 1) := by decide +kernel
theorem d_MO_feed_105 : decode c_MO_feed 105 = .ok (.aload_n 0, 1) := by decide +kernel
theorem d_MO_feed_106 : decode c_MO_feed 106 = .ok (.dup, 1) := by decide +kernel
theorem d_MO_feed_107 : decode c_MO_feed 107 = .ok (.getfield 165, 3) := by decide +kernel
theorem d_MO_feed_110 : decode c_MO_feed 110 = .ok (.iconst 1, 1) := by decide +kernel
theorem d_MO_feed_111 : decode c_MO_feed 111 = .ok (.iadd, 1) := by decide +kernel
theorem d_MO_feed_112 : decode c_MO_feed 112 = .ok (.putfield 165, 3) := by decide +kernel
theorem d_MO_feed_115 : decode c_MO_feed 115 = .ok (.iinc 6 1, 3) := by decide +kernel
theorem d_MO_feed_118 : decode c_MO_feed 118 = .ok (.goto (-91), 3) := by decide +kernel
theorem d_MO_feed_121 : decode c_MO_feed 121 = .ok (.aload_n 0, 1) := by decide +kernel
theorem d_MO_feed_122 : decode c_MO_feed 122 = .ok (.getfield 165, 3) := by decide +kernel
theorem d_MO_feed_125 : decode c_MO_feed 125 = .ok (.ireturn, 1) := by decide +kernel
theorem d_MO_end_0 : decode c_MO_end 0 = .ok (.aload_n 0, 1) := by decide +kernel
theorem d_MO_end_1 : decode c_MO_end 1 = .ok (.iconst 0, 1) := by decide +kernel
theorem d_MO_end_2 : decode c_MO_end 2 = .ok (.putfield 49, 3) := by decide +kernel
theorem d_MO_end_5 : decode c_MO_end 5 = .ok (.iload_n 1, 1) := by decide +kernel
theorem d_MO_end_6 : decode c_MO_end 6 = .ok (.ifCond .lt 11, 3) := by decide +kernel
theorem d_MO_end_9 : decode c_MO_end 9 = .ok (.iload_n 1, 1) := by decide +kernel
theorem d_MO_end_10 : decode c_MO_end 10 = .ok (.aload_n 0, 1) := by decide +kernel
theorem d_MO_end_11 : decode c_MO_end 11 = .ok (.getfield 165, 3) := by decide +kernel
theorem d_MO_end_14 : decode c_MO_end 14 = .ok (.if_icmp .le 9, 3) := by decide +kernel
theorem d_MO_end_17 : decode c_MO_end 17 = .ok (.aload_n 0, 1) := by decide +kernel
theorem d_MO_end_18 : decode c_MO_end 18 = .ok (.iconst 1, 1) := by decide +kernel
theorem d_MO_end_19 : decode c_MO_end 19 = .ok (.invokevirtual 171, 3) := by decide +kernel
theorem d_MO_end_22 : decode c_MO_end 22 = .ok (.ireturn, 1) := by decide +kernel
theorem d_MO_end_23 : decode c_MO_end 23 = .ok (.aload_n 0, 1) := by decide +kernel
theorem d_MO_end_24 : decode c_MO_end 24 = .ok (.iload_n 1, 1) := by decide +kernel
theorem d_MO_end_25 : decode c_MO_end 25 = .ok (.putfield 165, 3) := by decide +kernel
theorem d_MO_end_28 : decode c_MO_end 28 = .ok (.iload_n 1, 1) := by decide +kernel
theorem d_MO_end_29 : decode c_MO_end 29 = .ok (.ireturn, 1) := by decide +kernel
