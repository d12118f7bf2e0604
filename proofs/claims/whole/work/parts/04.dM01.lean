theorem dX10_against_6 : decode cX10_against 6 = .ok (.iconst 1, 1) := by decide +kernel
theorem dX10_against_7 : decode cX10_against 7 = .ok (.invokestatic 156, 3) := by decide +kernel
theorem dX10_against_10 : decode cX10_against 10 = .ok (.iaload, 1) := by decide +kernel
theorem dX10_against_11 : decode cX10_against 11 = .ok (.bipush 32, 2) := by decide +kernel
theorem dX10_against_13 : decode cX10_against 13 = .ok (.if_icmp .ne 7, 3) := by decide +kernel
theorem dX10_against_16 : decode cX10_against 16 = .ok (.iconst 0, 1) := by decide +kernel
theorem dX10_against_17 : decode cX10_against 17 = .ok (.goto 4, 3) := by decide +kernel
theorem dX10_against_20 : decode cX10_against 20 = .ok (.iconst 1, 1) := by decide +kernel
theorem dX10_against_21 : decode cX10_against 21 = .ok (.iadd, 1) := by decide +kernel
theorem dX10_against_22 : decode cX10_against 22 = .ok (.istore_n 2, 1) := by decide +kernel
theorem dX10_against_23 : decode cX10_against 23 = .ok (.iconst 1, 1) := by decide +kernel
theorem dX10_against_24 : decode cX10_against 24 = .ok (.aload_n 0, 1) := by decide +kernel
theorem dX10_against_25 : decode cX10_against 25 = .ok (.getfield 7, 3) := by decide +kernel
theorem dX10_against_28 : decode cX10_against 28 = .ok (.iload_n 1, 1) := by decide +kernel
theorem dX10_against_29 : decode cX10_against 29 = .ok (.iconst 3, 1) := by decide +kernel
theorem dX10_against_30 : decode cX10_against 30 = .ok (.invokestatic 156, 3) := by decide +kernel
theorem dX10_against_33 : decode cX10_against 33 = .ok (.iaload, 1) := by decide +kernel
theorem dX10_against_34 : decode cX10_against 34 = .ok (.bipush 32, 2) := by decide +kernel
theorem dX10_against_36 : decode cX10_against 36 = .ok (.if_icmp .ne 7, 3) := by decide +kernel
theorem dX10_against_39 : decode cX10_against 39 = .ok (.iconst 0, 1) := by decide +kernel
theorem dX10_against_40 : decode cX10_against 40 = .ok (.goto 4, 3) := by decide +kernel
theorem dX10_against_43 : decode cX10_against 43 = .ok (.iconst 1, 1) := by decide +kernel
theorem dX10_against_44 : decode cX10_against 44 = .ok (.iadd, 1) := by decide +kernel
theorem dX10_against_45 : decode cX10_against 45 = .ok (.istore_n 3, 1) := by decide +kernel
theorem dX10_against_46 : decode cX10_against 46 = .ok (.iconst 0, 1) := by decide +kernel
theorem dX10_against_47 : decode cX10_against 47 = .ok (.istore 4, 2) := by decide +kernel
theorem dX10_against_49 : decode cX10_against 49 = .ok (.iload 4, 2) := by decide +kernel
theorem dX10_against_51 : decode cX10_against 51 = .ok (.iload_n 2, 1) := by decide +kernel
theorem dX10_against_52 : decode cX10_against 52 = .ok (.if_icmp .ge 29, 3) := by decide +kernel
theorem dX10_against_55 : decode cX10_against 55 = .ok (.aload_n 0, 1) := by decide +kernel
theorem dX10_against_56 : decode cX10_against 56 = .ok (.aload_n 0, 1) := by decide +kernel
theorem dX10_against_57 : decode cX10_against 57 = .ok (.getfield 7, 3) := by decide +kernel
theorem dX10_against_60 : decode cX10_against 60 = .ok (.iload_n 1, 1) := by decide +kernel
theorem dX10_against_61 : decode cX10_against 61 = .ok (.iload 4, 2) := by decide +kernel
theorem dX10_against_63 : decode cX10_against 63 = .ok (.invokestatic 156, 3) := by decide +kernel
theorem dX10_against_66 : decode cX10_against 66 = .ok (.iaload, 1) := by decide +kernel
theorem dX10_against_67 : decode cX10_against 67 = .ok (.invokevirtual 162, 3) := by decide +kernel
theorem dX10_against_70 : decode cX10_against 70 = .ok (.ifCond .ge 5, 3) := by decide +kernel
theorem dX10_against_73 : decode cX10_against 73 = .ok (.iconst 2, 1) := by decide +kernel
theorem dX10_against_74 : decode cX10_against 74 = .ok (.ireturn, 1) := by decide +kernel
theorem dX10_against_75 : decode cX10_against 75 = .ok (.iinc 4 1, 3) := by decide +kernel
theorem dX10_against_78 : decode cX10_against 78 = .ok (.goto (-29), 3) := by decide +kernel
theorem dX10_against_81 : decode cX10_against 81 = .ok (.aload_n 0, 1) := by decide +kernel
theorem dX10_against_82 : decode cX10_against 82 = .ok (.getfield 7, 3) := by decide +kernel
theorem dX10_against_85 : decode cX10_against 85 = .ok (.iconst 1, 1) := by decide +kernel
theorem dX10_against_86 : decode cX10_against 86 = .ok (.iaload, 1) := by decide +kernel
theorem dX10_against_87 : decode cX10_against 87 = .ok (.iload_n 2, 1) := by decide +kernel
theorem dX10_against_88 : decode cX10_against 88 = .ok (.isub, 1) := by decide +kernel
theorem dX10_against_89 : decode cX10_against 89 = .ok (.iload_n 3, 1) := by decide +kernel
theorem dX10_against_90 : decode cX10_against 90 = .ok (.iadd, 1) := by decide +kernel
theorem dX10_against_91 : decode cX10_against 91 = .ok (.bipush 6, 2) := by decide +kernel
theorem dX10_against_93 : decode cX10_against 93 = .ok (.if_icmp .le 7, 3) := by decide +kernel
theorem dX10_against_96 : decode cX10_against 96 = .ok (.iconst 1, 1) := by decide +kernel
theorem dX10_against_97 : decode cX10_against 97 = .ok (.goto 4, 3) := by decide +kernel
theorem dX10_against_100 : decode cX10_against 100 = .ok (.iconst 0, 1) := by decide +kernel
theorem dX10_against_101 : decode cX10_against 101 = .ok (.ireturn, 1) := by decide +kernel
theorem dX10_applies_0 : decode cX10_applies 0 = .ok (.iconst 0, 1) := by decide +kernel
theorem dX10_applies_1 : decode cX10_applies 1 = .ok (.istore_n 2, 1) := by decide +kernel
theorem dX10_applies_2 : decode cX10_applies 2 = .ok (.bipush 20, 2) := by decide +kernel
theorem dX10_applies_4 : decode cX10_applies 4 = .ok (.istore_n 3, 1) := by decide +kernel
theorem dX10_applies_5 : decode cX10_applies 5 = .ok (.bipush 60, 2) := by decide +kernel
theorem dX10_applies_7 : decode cX10_applies 7 = .ok (.istore 4, 2) := by decide +kernel
theorem dX10_applies_9 : decode cX10_applies 9 = .ok (.iconst 0, 1) := by decide +kernel
theorem dX10_applies_10 : decode cX10_applies 10 = .ok (.istore 5, 2) := by decide +kernel
theorem dX10_applies_12 : decode cX10_applies 12 = .ok (.iload 5, 2) := by decide +kernel
theorem dX10_applies_14 : decode cX10_applies 14 = .ok (.iconst 2, 1) := by decide +kernel
theorem dX10_applies_15 : decode cX10_applies 15 = .ok (.if_icmp .ge 127, 3) := by decide +kernel
theorem dX10_applies_18 : decode cX10_applies 18 = .ok (.aload_n 0, 1) := by decide +kernel
theorem dX10_applies_19 : decode cX10_applies 19 = .ok (.getfield 7, 3) := by decide +kernel
theorem dX10_applies_22 : decode cX10_applies 22 = .ok (.iload_n 1, 1) := by decide +kernel
theorem dX10_applies_23 : decode cX10_applies 23 = .ok (.iload 5, 2) := by decide +kernel
theorem dX10_applies_25 : decode cX10_applies 25 = .ok (.invokestatic 156, 3) := by decide +kernel
theorem dX10_applies_28 : decode cX10_applies 28 = .ok (.iaload, 1) := by decide +kernel
theorem dX10_applies_29 : decode cX10_applies 29 = .ok (.bipush 32, 2) := by decide +kernel
theorem dX10_applies_31 : decode cX10_applies 31 = .ok (.if_icmp .eq 111, 3) := by decide +kernel
theorem dX10_applies_34 : decode cX10_applies 34 = .ok (.aload_n 0, 1) := by decide +kernel
theorem dX10_applies_35 : decode cX10_applies 35 = .ok (.aload_n 0, 1) := by decide +kernel
theorem dX10_applies_36 : decode cX10_applies 36 = .ok (.getfield 7, 3) := by decide +kernel
theorem dX10_applies_39 : decode cX10_applies 39 = .ok (.iload_n 1, 1) := by decide +kernel
theorem dX10_applies_40 : decode cX10_applies 40 = .ok (.iload 5, 2) := by decide +kernel
theorem dX10_applies_42 : decode cX10_applies 42 = .ok (.invokestatic 156, 3) := by decide +kernel
theorem dX10_applies_45 : decode cX10_applies 45 = .ok (.iaload, 1) := by decide +kernel
theorem dX10_applies_46 : decode cX10_applies 46 = .ok (.invokevirtual 162, 3) := by decide +kernel
theorem dX10_applies_49 : decode cX10_applies 49 = .ok (.istore 6, 2) := by decide +kernel
theorem dX10_applies_51 : decode cX10_applies 51 = .ok (.iload_n 2, 1) := by decide +kernel
theorem dX10_applies_52 : decode cX10_applies 52 = .ok (.aload_n 0, 1) := by decide +kernel
theorem dX10_applies_53 : decode cX10_applies 53 = .ok (.getfield 7, 3) := by decide +kernel
theorem dX10_applies_56 : decode cX10_applies 56 = .ok (.iload 6, 2) := by decide +kernel
theorem dX10_applies_58 : decode cX10_applies 58 = .ok (.iconst 1, 1) := by decide +kernel
theorem dX10_applies_59 : decode cX10_applies 59 = .ok (.invokestatic 83, 3) := by decide +kernel
theorem dX10_applies_62 : decode cX10_applies 62 = .ok (.iaload, 1) := by decide +kernel
theorem dX10_applies_63 : decode cX10_applies 63 = .ok (.iadd, 1) := by decide +kernel
theorem dX10_applies_64 : decode cX10_applies 64 = .ok (.istore_n 2, 1) := by decide +kernel
theorem dX10_applies_65 : decode cX10_applies 65 = .ok (.aload_n 0, 1) := by decide +kernel
theorem dX10_applies_66 : decode cX10_applies 66 = .ok (.getfield 7, 3) := by decide +kernel
theorem dX10_applies_69 : decode cX10_applies 69 = .ok (.iload 6, 2) := by decide +kernel
theorem dX10_applies_71 : decode cX10_applies 71 = .ok (.iconst 2, 1) := by decide +kernel
theorem dX10_applies_72 : decode cX10_applies 72 = .ok (.invokestatic 83, 3) := by decide +kernel
theorem dX10_applies_75 : decode cX10_applies 75 = .ok (.iaload, 1) := by decide +kernel
theorem dX10_applies_76 : decode cX10_applies 76 = .ok (.iload_n 3, 1) := by decide +kernel
theorem dX10_applies_77 : decode cX10_applies 77 = .ok (.if_icmp .ge 17, 3) := by decide +kernel
theorem dX10_applies_80 : decode cX10_applies 80 = .ok (.aload_n 0, 1) := by decide +kernel
theorem dX10_applies_81 : decode cX10_applies 81 = .ok (.getfield 7, 3) := by decide +kernel
theorem dX10_applies_84 : decode cX10_applies 84 = .ok (.iload 6, 2) := by decide +kernel
theorem dX10_applies_86 : decode cX10_applies 86 = .ok (.iconst 2, 1) := by decide +kernel
theorem dX10_applies_87 : decode cX10_applies 87 = .ok (.invokestatic 83, 3) := by decide +kernel
theorem dX10_applies_90 : decode cX10_applies 90 = .ok (.iaload, 1) := by decide +kernel
theorem dX10_applies_91 : decode cX10_applies 91 = .ok (.goto 4, 3) := by decide +kernel
theorem dX10_applies_94 : decode cX10_applies 94 = .ok (.iload_n 3, 1) := by decide +kernel
theorem dX10_applies_95 : decode cX10_applies 95 = .ok (.istore_n 3, 1) := by decide +kernel
theorem dX10_applies_96 : decode cX10_applies 96 = .ok (.aload_n 0, 1) := by decide +kernel
theorem dX10_applies_97 : decode cX10_applies 97 = .ok (.getfield 7, 3) := by decide +kernel
theorem dX10_applies_100 : decode cX10_applies 100 = .ok (.iload 6, 2) := by decide +kernel
theorem dX10_applies_102 : decode cX10_applies 102 = .ok (.iconst 3, 1) := by decide +kernel
theorem dX10_applies_103 : decode cX10_applies 103 = .ok (.invokestatic 83, 3) := by decide +kernel
theorem dX10_applies_106 : decode cX10_applies 106 = .ok (.iaload, 1) := by decide +kernel
theorem dX10_applies_107 : decode cX10_applies 107 = .ok (.iload 4, 2) := by decide +kernel
theorem dX10_applies_109 : decode cX10_applies 109 = .ok (.if_icmp .ge 17, 3) := by decide +kernel
theorem dX10_applies_112 : decode cX10_applies 112 = .ok (.aload_n 0, 1) := by decide +kernel
theorem dX10_applies_113 : decode cX10_applies 113 = .ok (.getfield 7, 3) := by decide +kernel
theorem dX10_applies_116 : decode cX10_applies 116 = .ok (.iload 6, 2) := by decide +kernel
theorem dX10_applies_118 : decode cX10_applies 118 = .ok (.iconst 3, 1) := by decide +kernel
theorem dX10_applies_119 : decode cX10_applies 119 = .ok (.invokestatic 83, 3) := by decide +kernel
theorem dX10_applies_122 : decode cX10_applies 122 = .ok (.iaload, 1) := by decide +kernel
theorem dX10_applies_123 : decode cX10_applies 123 = .ok (.goto 5, 3) := by decide +kernel
theorem dX10_applies_126 : decode cX10_applies 126 = .ok (.iload 4, 2) := by decide +kernel
theorem dX10_applies_128 : decode cX10_applies 128 = .ok (.istore 4, 2) := by decide +kernel
theorem dX10_applies_130 : decode cX10_applies 130 = .ok (.aload_n 0, 1) := by decide +kernel
theorem dX10_applies_131 : decode cX10_applies 131 = .ok (.iload 6, 2) := by decide +kernel
theorem dX10_applies_133 : decode cX10_applies 133 = .ok (.invokevirtual 146, 3) := by decide +kernel
theorem dX10_applies_136 : decode cX10_applies 136 = .ok (.iinc 5 1, 3) := by decide +kernel
theorem dX10_applies_139 : decode cX10_applies 139 = .ok (.goto (-127), 3) := by decide +kernel
theorem dX10_applies_142 : decode cX10_applies 142 = .ok (.aload_n 0, 1) := by decide +kernel
theorem dX10_applies_143 : decode cX10_applies 143 = .ok (.getfield 7, 3) := by decide +kernel
theorem dX10_applies_146 : decode cX10_applies 146 = .ok (.iload_n 1, 1) := by decide +kernel
theorem dX10_applies_147 : decode cX10_applies 147 = .ok (.iconst 3, 1) := by decide +kernel
theorem dX10_applies_148 : decode cX10_applies 148 = .ok (.invokestatic 156, 3) := by decide +kernel
theorem dX10_applies_151 : decode cX10_applies 151 = .ok (.iaload, 1) := by decide +kernel
theorem dX10_applies_152 : decode cX10_applies 152 = .ok (.bipush 32, 2) := by decide +kernel
theorem dX10_applies_154 : decode cX10_applies 154 = .ok (.if_icmp .ne 24, 3) := by decide +kernel
theorem dX10_applies_157 : decode cX10_applies 157 = .ok (.aload_n 0, 1) := by decide +kernel
theorem dX10_applies_158 : decode cX10_applies 158 = .ok (.aload_n 0, 1) := by decide +kernel
theorem dX10_applies_159 : decode cX10_applies 159 = .ok (.getfield 7, 3) := by decide +kernel
theorem dX10_applies_162 : decode cX10_applies 162 = .ok (.iload_n 1, 1) := by decide +kernel
theorem dX10_applies_163 : decode cX10_applies 163 = .ok (.iconst 2, 1) := by decide +kernel
theorem dX10_applies_164 : decode cX10_applies 164 = .ok (.invokestatic 156, 3) := by decide +kernel
theorem dX10_applies_167 : decode cX10_applies 167 = .ok (.iaload, 1) := by decide +kernel
theorem dX10_applies_168 : decode cX10_applies 168 = .ok (.iload_n 2, 1) := by decide +kernel
theorem dX10_applies_169 : decode cX10_applies 169 = .ok (.iload_n 3, 1) := by decide +kernel
theorem dX10_applies_170 : decode cX10_applies 170 = .ok (.iload 4, 2) := by decide +kernel
theorem dX10_applies_172 : decode cX10_applies 172 = .ok (.invokevirtual 139, 3) := by decide +kernel
theorem dX10_applies_175 : decode cX10_applies 175 = .ok (.pop, 1) := by decide +kernel
theorem dX10_applies_176 : decode cX10_applies 176 = .ok (.iconst 1, 1) := by decide +kernel
theorem dX10_applies_177 : decode cX10_applies 177 = .ok (.ireturn, 1) := by decide +kernel
theorem dX10_applies_178 : decode cX10_applies 178 = .ok (.aload_n 0, 1) := by decide +kernel
theorem dX10_applies_179 : decode cX10_applies 179 = .ok (.aload_n 0, 1) := by decide +kernel
theorem dX10_applies_180 : decode cX10_applies 180 = .ok (.getfield 7, 3) := by decide +kernel
theorem dX10_applies_183 : decode cX10_applies 183 = .ok (.iload_n 1, 1) := by decide +kernel
theorem dX10_applies_184 : decode cX10_applies 184 = .ok (.iconst 2, 1) := by decide +kernel
theorem dX10_applies_185 : decode cX10_applies 185 = .ok (.invokestatic 156, 3) := by decide +kernel
theorem dX10_applies_188 : decode cX10_applies 188 = .ok (.iaload, 1) := by decide +kernel
theorem dX10_applies_189 : decode cX10_applies 189 = .ok (.iload_n 2, 1) := by decide +kernel
theorem dX10_applies_190 : decode cX10_applies 190 = .ok (.iconst 2, 1) := by decide +kernel
theorem dX10_applies_191 : decode cX10_applies 191 = .ok (.idiv, 1) := by decide +kernel
theorem dX10_applies_192 : decode cX10_applies 192 = .ok (.iload_n 2, 1) := by decide +kernel
theorem dX10_applies_193 : decode cX10_applies 193 = .ok (.iconst 2, 1) := by decide +kernel
theorem dX10_applies_194 : decode cX10_applies 194 = .ok (.irem, 1) := by decide +kernel
theorem dX10_applies_195 : decode cX10_applies 195 = .ok (.iadd, 1) := by decide +kernel
theorem dX10_applies_196 : decode cX10_applies 196 = .ok (.iload_n 3, 1) := by decide +kernel
theorem dX10_applies_197 : decode cX10_applies 197 = .ok (.iload 4, 2) := by decide +kernel
theorem dX10_applies_199 : decode cX10_applies 199 = .ok (.invokevirtual 139, 3) := by decide +kernel
theorem dX10_applies_202 : decode cX10_applies 202 = .ok (.pop, 1) := by decide +kernel
theorem dX10_applies_203 : decode cX10_applies 203 = .ok (.aload_n 0, 1) := by decide +kernel
theorem dX10_applies_204 : decode cX10_applies 204 = .ok (.aload_n 0, 1) := by decide +kernel
theorem dX10_applies_205 : decode cX10_applies 205 = .ok (.getfield 7, 3) := by decide +kernel
theorem dX10_applies_208 : decode cX10_applies 208 = .ok (.iload_n 1, 1) := by decide +kernel
theorem dX10_applies_209 : decode cX10_applies 209 = .ok (.iconst 3, 1) := by decide +kernel
theorem dX10_applies_210 : decode cX10_applies 210 = .ok (.invokestatic 156, 3) := by decide +kernel
theorem dX10_applies_213 : decode cX10_applies 213 = .ok (.iaload, 1) := by decide +kernel
theorem dX10_applies_214 : decode cX10_applies 214 = .ok (.iload_n 2, 1) := by decide +kernel
theorem dX10_applies_215 : decode cX10_applies 215 = .ok (.iconst 2, 1) := by decide +kernel
theorem dX10_applies_216 : decode cX10_applies 216 = .ok (.idiv, 1) := by decide +kernel
theorem dX10_applies_217 : decode cX10_applies 217 = .ok (.iload_n 3, 1) := by decide +kernel
theorem dX10_applies_218 : decode cX10_applies 218 = .ok (.iload 4, 2) := by decide +kernel
theorem dX10_applies_220 : decode cX10_applies 220 = .ok (.invokevirtual 139, 3) := by decide +kernel
theorem dX10_applies_223 : decode cX10_applies 223 = .ok (.pop, 1) := by decide +kernel
theorem dX10_applies_224 : decode cX10_applies 224 = .ok (.iconst 2, 1) := by decide +kernel
theorem dX10_applies_225 : decode cX10_applies 225 = .ok (.ireturn, 1) := by decide +kernel
theorem dX10_apply_0 : decode cX10_apply 0 = .ok (.aload_n 0, 1) := by decide +kernel
theorem dX10_apply_1 : decode cX10_apply 1 = .ok (.aload_n 0, 1) := by decide +kernel
theorem dX10_apply_2 : decode cX10_apply 2 = .ok (.iload_n 1, 1) := by decide +kernel
theorem dX10_apply_3 : decode cX10_apply 3 = .ok (.invokevirtual 159, 3) := by decide +kernel
theorem dX10_apply_6 : decode cX10_apply 6 = .ok (.ifCond .eq 7, 3) := by decide +kernel
theorem dX10_apply_9 : decode cX10_apply 9 = .ok (.iconst 0, 1) := by decide +kernel
theorem dX10_apply_10 : decode cX10_apply 10 = .ok (.goto 4, 3) := by decide +kernel
theorem dX10_apply_13 : decode cX10_apply 13 = .ok (.iconst 1, 1) := by decide +kernel
theorem dX10_apply_14 : decode cX10_apply 14 = .ok (.putfield 51, 3) := by decide +kernel
theorem dX10_apply_17 : decode cX10_apply 17 = .ok (.aload_n 0, 1) := by decide +kernel
theorem dX10_apply_18 : decode cX10_apply 18 = .ok (.getfield 51, 3) := by decide +kernel
theorem dX10_apply_21 : decode cX10_apply 21 = .ok (.ifCond .le 5, 3) := by decide +kernel
theorem dX10_apply_24 : decode cX10_apply 24 = .ok (.iconst 0, 1) := by decide +kernel
theorem dX10_apply_25 : decode cX10_apply 25 = .ok (.ireturn, 1) := by decide +kernel
theorem dX10_apply_26 : decode cX10_apply 26 = .ok (.aload_n 0, 1) := by decide +kernel
theorem dX10_apply_27 : decode cX10_apply 27 = .ok (.iload_n 1, 1) := by decide +kernel
theorem dX10_apply_28 : decode cX10_apply 28 = .ok (.invokevirtual 165, 3) := by decide +kernel
theorem dX10_apply_31 : decode cX10_apply 31 = .ok (.istore_n 2, 1) := by decide +kernel
theorem dX10_apply_32 : decode cX10_apply 32 = .ok (.iload_n 2, 1) := by decide +kernel
theorem dX10_apply_33 : decode cX10_apply 33 = .ok (.ifCond .le 10, 3) := by decide +kernel
theorem dX10_apply_36 : decode cX10_apply 36 = .ok (.aload_n 0, 1) := by decide +kernel
theorem dX10_apply_37 : decode cX10_apply 37 = .ok (.iconst 2, 1) := by decide +kernel
theorem dX10_apply_38 : decode cX10_apply 38 = .ok (.iload_n 2, 1) := by decide +kernel
theorem dX10_apply_39 : decode cX10_apply 39 = .ok (.invokevirtual 133, 3) := by decide +kernel
theorem dX10_apply_42 : decode cX10_apply 42 = .ok (.ireturn, 1) := by decide +kernel
theorem dX10_apply_43 : decode cX10_apply 43 = .ok (.aload_n 0, 1) := by decide +kernel
theorem dX10_apply_44 : decode cX10_apply 44 = .ok (.invokevirtual 136, 3) := by decide +kernel
theorem dX10_apply_47 : decode cX10_apply 47 = .ok (.aload_n 0, 1) := by decide +kernel
theorem dX10_apply_48 : decode cX10_apply 48 = .ok (.iload_n 1, 1) := by decide +kernel
theorem dX10_apply_49 : decode cX10_apply 49 = .ok (.invokevirtual 168, 3) := by decide +kernel
theorem dX10_apply_52 : decode cX10_apply 52 = .ok (.ireturn, 1) := by decide +kernel
theorem dX10_rootsNow_0 : decode cX10_rootsNow 0 = .ok (.aload_n 0, 1) := by decide +kernel
theorem dX10_rootsNow_1 : decode cX10_rootsNow 1 = .ok (.iconst 0, 1) := by decide +kernel
theorem dX10_rootsNow_2 : decode cX10_rootsNow 2 = .ok (.putfield 69, 3) := by decide +kernel
theorem dX10_rootsNow_5 : decode cX10_rootsNow 5 = .ok (.aload_n 0, 1) := by decide +kernel
theorem dX10_rootsNow_6 : decode cX10_rootsNow 6 = .ok (.invokevirtual 150, 3) := by decide +kernel
theorem dX10_rootsNow_9 : decode cX10_rootsNow 9 = .ok (.aload_n 0, 1) := by decide +kernel
theorem dX10_rootsNow_10 : decode cX10_rootsNow 10 = .ok (.iconst 0, 1) := by decide +kernel
theorem dX10_rootsNow_11 : decode cX10_rootsNow 11 = .ok (.putfield 69, 3) := by decide +kernel
theorem dX10_rootsNow_14 : decode cX10_rootsNow 14 = .ok (.aload_n 0, 1) := by decide +kernel
theorem dX10_rootsNow_15 : decode cX10_rootsNow 15 = .ok (.getfield 100, 3) := by decide +kernel
theorem dX10_rootsNow_18 : decode cX10_rootsNow 18 = .ok (.ireturn, 1) := by decide +kernel
theorem dX10_rootsThen_0 : decode cX10_rootsThen 0 = .ok (.aload_n 0, 1) := by decide +kernel
theorem dX10_rootsThen_1 : decode cX10_rootsThen 1 = .ok (.getfield 7, 3) := by decide +kernel
theorem dX10_rootsThen_4 : decode cX10_rootsThen 4 = .ok (.iconst 0, 1) := by decide +kernel
theorem dX10_rootsThen_5 : decode cX10_rootsThen 5 = .ok (.aload_n 0, 1) := by decide +kernel
theorem dX10_rootsThen_6 : decode cX10_rootsThen 6 = .ok (.getfield 16, 3) := by decide +kernel
theorem dX10_rootsThen_9 : decode cX10_rootsThen 9 = .ok (.iconst 0, 1) := by decide +kernel
theorem dX10_rootsThen_10 : decode cX10_rootsThen 10 = .ok (.invokestatic 76, 3) := by decide +kernel
theorem dX10_rootsThen_13 : decode cX10_rootsThen 13 = .ok (.aload_n 0, 1) := by decide +kernel
theorem dX10_rootsThen_14 : decode cX10_rootsThen 14 = .ok (.iload_n 1, 1) := by decide +kernel
theorem dX10_rootsThen_15 : decode cX10_rootsThen 15 = .ok (.invokevirtual 168, 3) := by decide +kernel
theorem dX10_rootsThen_18 : decode cX10_rootsThen 18 = .ok (.pop, 1) := by decide +kernel
theorem dX10_rootsThen_19 : decode cX10_rootsThen 19 = .ok (.aload_n 0, 1) := by decide +kernel
theorem dX10_rootsThen_20 : decode cX10_rootsThen 20 = .ok (.invokevirtual 171, 3) := by decide +kernel
theorem dX10_rootsThen_23 : decode cX10_rootsThen 23 = .ok (.istore_n 2, 1) := by decide +kernel
theorem dX10_rootsThen_24 : decode cX10_rootsThen 24 = .ok (.aload_n 0, 1) := by decide +kernel
theorem dX10_rootsThen_25 : decode cX10_rootsThen 25 = .ok (.getfield 16, 3) := by decide +kernel
theorem dX10_rootsThen_28 : decode cX10_rootsThen 28 = .ok (.iconst 0, 1) := by decide +kernel
theorem dX10_rootsThen_29 : decode cX10_rootsThen 29 = .ok (.aload_n 0, 1) := by decide +kernel
theorem dX10_rootsThen_30 : decode cX10_rootsThen 30 = .ok (.getfield 7, 3) := by decide +kernel
theorem dX10_rootsThen_33 : decode cX10_rootsThen 33 = .ok (.iconst 0, 1) := by decide +kernel
theorem dX10_rootsThen_34 : decode cX10_rootsThen 34 = .ok (.invokestatic 76, 3) := by decide +kernel
theorem dX10_rootsThen_37 : decode cX10_rootsThen 37 = .ok (.iload_n 2, 1) := by decide +kernel
theorem dX10_rootsThen_38 : decode cX10_rootsThen 38 = .ok (.ireturn, 1) := by decide +kernel
theorem dX10_rootsBy_0 : decode cX10_rootsBy 0 = .ok (.aload_n 0, 1) := by decide +kernel
theorem dX10_rootsBy_1 : decode cX10_rootsBy 1 = .ok (.aload_n 0, 1) := by decide +kernel
theorem dX10_rootsBy_2 : decode cX10_rootsBy 2 = .ok (.iload_n 1, 1) := by decide +kernel
theorem dX10_rootsBy_3 : decode cX10_rootsBy 3 = .ok (.invokevirtual 159, 3) := by decide +kernel
theorem dX10_rootsBy_6 : decode cX10_rootsBy 6 = .ok (.ifCond .eq 19, 3) := by decide +kernel
theorem dX10_rootsBy_9 : decode cX10_rootsBy 9 = .ok (.aload_n 0, 1) := by decide +kernel
theorem dX10_rootsBy_10 : decode cX10_rootsBy 10 = .ok (.iload_n 1, 1) := by decide +kernel
theorem dX10_rootsBy_11 : decode cX10_rootsBy 11 = .ok (.invokevirtual 165, 3) := by decide +kernel
theorem dX10_rootsBy_14 : decode cX10_rootsBy 14 = .ok (.ifCond .le 7, 3) := by decide +kernel
theorem dX10_rootsBy_17 : decode cX10_rootsBy 17 = .ok (.iconst 2, 1) := by decide +kernel
theorem dX10_rootsBy_18 : decode cX10_rootsBy 18 = .ok (.goto 8, 3) := by decide +kernel
theorem dX10_rootsBy_21 : decode cX10_rootsBy 21 = .ok (.iconst 0, 1) := by decide +kernel
theorem dX10_rootsBy_22 : decode cX10_rootsBy 22 = .ok (.goto 4, 3) := by decide +kernel
theorem dX10_rootsBy_25 : decode cX10_rootsBy 25 = .ok (.iconst 1, 1) := by decide +kernel
theorem dX10_rootsBy_26 : decode cX10_rootsBy 26 = .ok (.putfield 51, 3) := by decide +kernel
theorem dX10_rootsBy_29 : decode cX10_rootsBy 29 = .ok (.aload_n 0, 1) := by decide +kernel
theorem dX10_rootsBy_30 : decode cX10_rootsBy 30 = .ok (.getfield 51, 3) := by decide +kernel
theorem dX10_rootsBy_33 : decode cX10_rootsBy 33 = .ok (.ifCond .le 7, 3) := by decide +kernel
theorem dX10_rootsBy_36 : decode cX10_rootsBy 36 = .ok (.iconst 0, 1) := by decide +kernel
theorem dX10_rootsBy_37 : decode cX10_rootsBy 37 = .ok (.goto 8, 3) := by decide +kernel
theorem dX10_rootsBy_40 : decode cX10_rootsBy 40 = .ok (.aload_n 0, 1) := by decide +kernel
theorem dX10_rootsBy_41 : decode cX10_rootsBy 41 = .ok (.iload_n 1, 1) := by decide +kernel
theorem dX10_rootsBy_42 : decode cX10_rootsBy 42 = .ok (.invokevirtual 175, 3) := by decide +kernel
theorem dX10_rootsBy_45 : decode cX10_rootsBy 45 = .ok (.ireturn, 1) := by decide +kernel
theorem dX10_bestEquivalence_0 : decode cX10_bestEquivalence 0 = .ok (.aload_n 0, 1) := by decide +kernel
theorem dX10_bestEquivalence_1 : decode cX10_bestEquivalence 1 = .ok (.iconst 0, 1) := by decide +kernel
theorem dX10_bestEquivalence_2 : decode cX10_bestEquivalence 2 = .ok (.putfield 51, 3) := by decide +kernel
theorem dX10_bestEquivalence_5 : decode cX10_bestEquivalence 5 = .ok (.iconst (-1), 1) := by decide +kernel
theorem dX10_bestEquivalence_6 : decode cX10_bestEquivalence 6 = .ok (.istore_n 1, 1) := by decide +kernel
theorem dX10_bestEquivalence_7 : decode cX10_bestEquivalence 7 = .ok (.iconst (-1), 1) := by decide +kernel
theorem dX10_bestEquivalence_8 : decode cX10_bestEquivalence 8 = .ok (.istore_n 2, 1) := by decide +kernel
theorem dX10_bestEquivalence_9 : decode cX10_bestEquivalence 9 = .ok (.iconst 0, 1) := by decide +kernel
theorem dX10_bestEquivalence_10 : decode cX10_bestEquivalence 10 = .ok (.istore_n 3, 1) := by decide +kernel
theorem dX10_bestEquivalence_11 : decode cX10_bestEquivalence 11 = .ok (.iload_n 3, 1) := by decide +kernel
theorem dX10_bestEquivalence_12 : decode cX10_bestEquivalence 12 = .ok (.aload_n 0, 1) := by decide +kernel
theorem dX10_bestEquivalence_13 : decode cX10_bestEquivalence 13 = .ok (.getfield 7, 3) := by decide +kernel
theorem dX10_bestEquivalence_16 : decode cX10_bestEquivalence 16 = .ok (.iconst 2, 1) := by decide +kernel
theorem dX10_bestEquivalence_17 : decode cX10_bestEquivalence 17 = .ok (.iaload, 1) := by decide +kernel
theorem dX10_bestEquivalence_18 : decode cX10_bestEquivalence 18 = .ok (.if_icmp .ge 53, 3) := by decide +kernel
theorem dX10_bestEquivalence_21 : decode cX10_bestEquivalence 21 = .ok (.aload_n 0, 1) := by decide +kernel
theorem dX10_bestEquivalence_22 : decode cX10_bestEquivalence 22 = .ok (.iload_n 3, 1) := by decide +kernel
theorem dX10_bestEquivalence_23 : decode cX10_bestEquivalence 23 = .ok (.invokevirtual 165, 3) := by decide +kernel
theorem dX10_bestEquivalence_26 : decode cX10_bestEquivalence 26 = .ok (.ifCond .le 7, 3) := by decide +kernel
theorem dX10_bestEquivalence_29 : decode cX10_bestEquivalence 29 = .ok (.iconst (-1), 1) := by decide +kernel
theorem dX10_bestEquivalence_30 : decode cX10_bestEquivalence 30 = .ok (.goto 8, 3) := by decide +kernel
theorem dX10_bestEquivalence_33 : decode cX10_bestEquivalence 33 = .ok (.aload_n 0, 1) := by decide +kernel
theorem dX10_bestEquivalence_34 : decode cX10_bestEquivalence 34 = .ok (.iload_n 3, 1) := by decide +kernel
theorem dX10_bestEquivalence_35 : decode cX10_bestEquivalence 35 = .ok (.invokevirtual 175, 3) := by decide +kernel
theorem dX10_bestEquivalence_38 : decode cX10_bestEquivalence 38 = .ok (.istore 4, 2) := by decide +kernel
theorem dX10_bestEquivalence_40 : decode cX10_bestEquivalence 40 = .ok (.iload 4, 2) := by decide +kernel
theorem dX10_bestEquivalence_42 : decode cX10_bestEquivalence 42 = .ok (.iload_n 2, 1) := by decide +kernel
theorem dX10_bestEquivalence_43 : decode cX10_bestEquivalence 43 = .ok (.if_icmp .le 7, 3) := by decide +kernel
theorem dX10_bestEquivalence_46 : decode cX10_bestEquivalence 46 = .ok (.iload_n 3, 1) := by decide +kernel
theorem dX10_bestEquivalence_47 : decode cX10_bestEquivalence 47 = .ok (.goto 4, 3) := by decide +kernel
theorem dX10_bestEquivalence_50 : decode cX10_bestEquivalence 50 = .ok (.iload_n 1, 1) := by decide +kernel
theorem dX10_bestEquivalence_51 : decode cX10_bestEquivalence 51 = .ok (.istore_n 1, 1) := by decide +kernel
theorem dX10_bestEquivalence_52 : decode cX10_bestEquivalence 52 = .ok (.iload 4, 2) := by decide +kernel
theorem dX10_bestEquivalence_54 : decode cX10_bestEquivalence 54 = .ok (.iload_n 2, 1) := by decide +kernel
theorem dX10_bestEquivalence_55 : decode cX10_bestEquivalence 55 = .ok (.if_icmp .le 8, 3) := by decide +kernel
theorem dX10_bestEquivalence_58 : decode cX10_bestEquivalence 58 = .ok (.iload 4, 2) := by decide +kernel
theorem dX10_bestEquivalence_60 : decode cX10_bestEquivalence 60 = .ok (.goto 4, 3) := by decide +kernel
theorem dX10_bestEquivalence_63 : decode cX10_bestEquivalence 63 = .ok (.iload_n 2, 1) := by decide +kernel
theorem dX10_bestEquivalence_64 : decode cX10_bestEquivalence 64 = .ok (.istore_n 2, 1) := by decide +kernel
theorem dX10_bestEquivalence_65 : decode cX10_bestEquivalence 65 = .ok (.iinc 3 1, 3) := by decide +kernel
theorem dX10_bestEquivalence_68 : decode cX10_bestEquivalence 68 = .ok (.goto (-57), 3) := by decide +kernel
theorem dX10_bestEquivalence_71 : decode cX10_bestEquivalence 71 = .ok (.iload_n 1, 1) := by decide +kernel
theorem dX10_bestEquivalence_72 : decode cX10_bestEquivalence 72 = .ok (.ifCond .ge 11, 3) := by decide +kernel
theorem dX10_bestEquivalence_75 : decode cX10_bestEquivalence 75 = .ok (.aload_n 0, 1) := by decide +kernel
theorem dX10_bestEquivalence_76 : decode cX10_bestEquivalence 76 = .ok (.iconst 1, 1) := by decide +kernel
theorem dX10_bestEquivalence_77 : decode cX10_bestEquivalence 77 = .ok (.invokevirtual 57, 3) := by decide +kernel
theorem dX10_bestEquivalence_80 : decode cX10_bestEquivalence 80 = .ok (.goto 4, 3) := by decide +kernel
theorem dX10_bestEquivalence_83 : decode cX10_bestEquivalence 83 = .ok (.iload_n 1, 1) := by decide +kernel
theorem dX10_bestEquivalence_84 : decode cX10_bestEquivalence 84 = .ok (.ireturn, 1) := by decide +kernel
theorem dX10_append_0 : decode cX10_append 0 = .ok (.aload_n 0, 1) := by decide +kernel
theorem dX10_append_1 : decode cX10_append 1 = .ok (.aload_n 0, 1) := by decide +kernel
theorem dX10_append_2 : decode cX10_append 2 = .ok (.getfield 178, 3) := by decide +kernel
theorem dX10_append_5 : decode cX10_append 5 = .ok (.bipush 50, 2) := by decide +kernel
theorem dX10_append_7 : decode cX10_append 7 = .ok (.if_icmp .ne 7, 3) := by decide +kernel
theorem dX10_append_10 : decode cX10_append 10 = .ok (.iconst 1, 1) := by decide +kernel
theorem dX10_append_11 : decode cX10_append 11 = .ok (.goto 4, 3) := by decide +kernel
theorem dX10_append_14 : decode cX10_append 14 = .ok (.iconst 0, 1) := by decide +kernel
theorem dX10_append_15 : decode cX10_append 15 = .ok (.putfield 51, 3) := by decide +kernel
theorem dX10_append_18 : decode cX10_append 18 = .ok (.aload_n 0, 1) := by decide +kernel
theorem dX10_append_19 : decode cX10_append 19 = .ok (.getfield 51, 3) := by decide +kernel
theorem dX10_append_22 : decode cX10_append 22 = .ok (.ifCond .ne 23, 3) := by decide +kernel
theorem dX10_append_25 : decode cX10_append 25 = .ok (.aload_n 0, 1) := by decide +kernel
theorem dX10_append_26 : decode cX10_append 26 = .ok (.getfield 35, 3) := by decide +kernel
theorem dX10_append_29 : decode cX10_append 29 = .ok (.aload_n 0, 1) := by decide +kernel
theorem dX10_append_30 : decode cX10_append 30 = .ok (.getfield 178, 3) := by decide +kernel
theorem dX10_append_33 : decode cX10_append 33 = .ok (.iload_n 1, 1) := by decide +kernel
theorem dX10_append_34 : decode cX10_append 34 = .ok (.iastore, 1) := by decide +kernel
theorem dX10_append_35 : decode cX10_append 35 = .ok (.aload_n 0, 1) := by decide +kernel
theorem dX10_append_36 : decode cX10_append 36 = .ok (.dup, 1) := by decide +kernel
theorem dX10_append_37 : decode cX10_append 37 = .ok (.getfield 178, 3) := by decide +kernel
theorem dX10_append_40 : decode cX10_append 40 = .ok (.iconst 1, 1) := by decide +kernel
theorem dX10_append_41 : decode cX10_append 41 = .ok (.iadd, 1) := by decide +kernel
theorem dX10_append_42 : decode cX10_append 42 = .ok (.putfield 178, 3) := by decide +kernel
theorem dX10_append_45 : decode cX10_append 45 = .ok (.return_, 1) := by decide +kernel
theorem dX10_here_0 : decode cX10_here 0 = .ok (.aload_n 0, 1) := by decide +kernel
theorem dX10_here_1 : decode cX10_here 1 = .ok (.getfield 181, 3) := by decide +kernel
theorem dX10_here_4 : decode cX10_here 4 = .ok (.aload_n 0, 1) := by decide +kernel
theorem dX10_here_5 : decode cX10_here 5 = .ok (.getfield 178, 3) := by decide +kernel
theorem dX10_here_8 : decode cX10_here 8 = .ok (.if_icmp .ge 15, 3) := by decide +kernel
theorem dX10_here_11 : decode cX10_here 11 = .ok (.aload_n 0, 1) := by decide +kernel
theorem dX10_here_12 : decode cX10_here 12 = .ok (.getfield 35, 3) := by decide +kernel
theorem dX10_here_15 : decode cX10_here 15 = .ok (.aload_n 0, 1) := by decide +kernel
theorem dX10_here_16 : decode cX10_here 16 = .ok (.getfield 181, 3) := by decide +kernel
theorem dX10_here_19 : decode cX10_here 19 = .ok (.iaload, 1) := by decide +kernel
theorem dX10_here_20 : decode cX10_here 20 = .ok (.goto 4, 3) := by decide +kernel
theorem dX10_here_23 : decode cX10_here 23 = .ok (.iconst (-1), 1) := by decide +kernel
theorem dX10_here_24 : decode cX10_here 24 = .ok (.ireturn, 1) := by decide +kernel
theorem dX10_skips_0 : decode cX10_skips 0 = .ok (.aload_n 0, 1) := by decide +kernel
theorem dX10_skips_1 : decode cX10_skips 1 = .ok (.invokevirtual 184, 3) := by decide +kernel
theorem dX10_skips_4 : decode cX10_skips 4 = .ok (.iload_n 1, 1) := by decide +kernel
theorem dX10_skips_5 : decode cX10_skips 5 = .ok (.if_icmp .ne 7, 3) := by decide +kernel
theorem dX10_skips_8 : decode cX10_skips 8 = .ok (.iconst 1, 1) := by decide +kernel
theorem dX10_skips_9 : decode cX10_skips 9 = .ok (.goto 4, 3) := by decide +kernel
theorem dX10_skips_12 : decode cX10_skips 12 = .ok (.iconst 0, 1) := by decide +kernel
theorem dX10_skips_13 : decode cX10_skips 13 = .ok (.istore_n 2, 1) := by decide +kernel
theorem dX10_skips_14 : decode cX10_skips 14 = .ok (.aload_n 0, 1) := by decide +kernel
theorem dX10_skips_15 : decode cX10_skips 15 = .ok (.dup, 1) := by decide +kernel
theorem dX10_skips_16 : decode cX10_skips 16 = .ok (.getfield 181, 3) := by decide +kernel
theorem dX10_skips_19 : decode cX10_skips 19 = .ok (.iload_n 2, 1) := by decide +kernel
theorem dX10_skips_20 : decode cX10_skips 20 = .ok (.ifCond .eq 7, 3) := by decide +kernel
theorem dX10_skips_23 : decode cX10_skips 23 = .ok (.iconst 1, 1) := by decide +kernel
theorem dX10_skips_24 : decode cX10_skips 24 = .ok (.goto 4, 3) := by decide +kernel
theorem dX10_skips_27 : decode cX10_skips 27 = .ok (.iconst 0, 1) := by decide +kernel
theorem dX10_skips_28 : decode cX10_skips 28 = .ok (.iadd, 1) := by decide +kernel
theorem dX10_skips_29 : decode cX10_skips 29 = .ok (.putfield 181, 3) := by decide +kernel
theorem dX10_skips_32 : decode cX10_skips 32 = .ok (.iload_n 2, 1) := by decide +kernel
theorem dX10_skips_33 : decode cX10_skips 33 = .ok (.ireturn, 1) := by decide +kernel
theorem dX10_digits_0 : decode cX10_digits 0 = .ok (.aload_n 0, 1) := by decide +kernel
theorem dX10_digits_1 : decode cX10_digits 1 = .ok (.invokevirtual 184, 3) := by decide +kernel
theorem dX10_digits_4 : decode cX10_digits 4 = .ok (.bipush 48, 2) := by decide +kernel
theorem dX10_digits_6 : decode cX10_digits 6 = .ok (.bipush 57, 2) := by decide +kernel
theorem dX10_digits_8 : decode cX10_digits 8 = .ok (.invokestatic 61, 3) := by decide +kernel
theorem dX10_digits_11 : decode cX10_digits 11 = .ok (.ifCond .ne 5, 3) := by decide +kernel
theorem dX10_digits_14 : decode cX10_digits 14 = .ok (.iconst 0, 1) := by decide +kernel
theorem dX10_digits_15 : decode cX10_digits 15 = .ok (.ireturn, 1) := by decide +kernel
theorem dX10_digits_16 : decode cX10_digits 16 = .ok (.aload_n 0, 1) := by decide +kernel
theorem dX10_digits_17 : decode cX10_digits 17 = .ok (.aload_n 0, 1) := by decide +kernel
theorem dX10_digits_18 : decode cX10_digits 18 = .ok (.invokevirtual 184, 3) := by decide +kernel
theorem dX10_digits_21 : decode cX10_digits 21 = .ok (.bipush 48, 2) := by decide +kernel
theorem dX10_digits_23 : decode cX10_digits 23 = .ok (.isub, 1) := by decide +kernel
theorem dX10_digits_24 : decode cX10_digits 24 = .ok (.putfield 187, 3) := by decide +kernel
theorem dX10_digits_27 : decode cX10_digits 27 = .ok (.aload_n 0, 1) := by decide +kernel
theorem dX10_digits_28 : decode cX10_digits 28 = .ok (.dup, 1) := by decide +kernel
theorem dX10_digits_29 : decode cX10_digits 29 = .ok (.getfield 181, 3) := by decide +kernel
theorem dX10_digits_32 : decode cX10_digits 32 = .ok (.iconst 1, 1) := by decide +kernel
theorem dX10_digits_33 : decode cX10_digits 33 = .ok (.iadd, 1) := by decide +kernel
theorem dX10_digits_34 : decode cX10_digits 34 = .ok (.putfield 181, 3) := by decide +kernel
theorem dX10_digits_37 : decode cX10_digits 37 = .ok (.aload_n 0, 1) := by decide +kernel
theorem dX10_digits_38 : decode cX10_digits 38 = .ok (.getfield 187, 3) := by decide +kernel
theorem dX10_digits_41 : decode cX10_digits 41 = .ok (.ifCond .le 46, 3) := by decide +kernel
theorem dX10_digits_44 : decode cX10_digits 44 = .ok (.aload_n 0, 1) := by decide +kernel
theorem dX10_digits_45 : decode cX10_digits 45 = .ok (.invokevirtual 184, 3) := by decide +kernel
theorem dX10_digits_48 : decode cX10_digits 48 = .ok (.bipush 48, 2) := by decide +kernel
theorem dX10_digits_50 : decode cX10_digits 50 = .ok (.bipush 57, 2) := by decide +kernel
theorem dX10_digits_52 : decode cX10_digits 52 = .ok (.invokestatic 61, 3) := by decide +kernel
theorem dX10_digits_55 : decode cX10_digits 55 = .ok (.ifCond .eq 32, 3) := by decide +kernel
theorem dX10_digits_58 : decode cX10_digits 58 = .ok (.aload_n 0, 1) := by decide +kernel
theorem dX10_digits_59 : decode cX10_digits 59 = .ok (.bipush 10, 2) := by decide +kernel
theorem dX10_digits_61 : decode cX10_digits 61 = .ok (.aload_n 0, 1) := by decide +kernel
theorem dX10_digits_62 : decode cX10_digits 62 = .ok (.getfield 187, 3) := by decide +kernel
theorem dX10_digits_65 : decode cX10_digits 65 = .ok (.imul, 1) := by decide +kernel
theorem dX10_digits_66 : decode cX10_digits 66 = .ok (.aload_n 0, 1) := by decide +kernel
theorem dX10_digits_67 : decode cX10_digits 67 = .ok (.invokevirtual 184, 3) := by decide +kernel
theorem dX10_digits_70 : decode cX10_digits 70 = .ok (.iadd, 1) := by decide +kernel
theorem dX10_digits_71 : decode cX10_digits 71 = .ok (.bipush 48, 2) := by decide +kernel
theorem dX10_digits_73 : decode cX10_digits 73 = .ok (.isub, 1) := by decide +kernel
theorem dX10_digits_74 : decode cX10_digits 74 = .ok (.putfield 187, 3) := by decide +kernel
theorem dX10_digits_77 : decode cX10_digits 77 = .ok (.aload_n 0, 1) := by decide +kernel
theorem dX10_digits_78 : decode cX10_digits 78 = .ok (.dup, 1) := by decide +kernel
theorem dX10_digits_79 : decode cX10_digits 79 = .ok (.getfield 181, 3) := by decide +kernel
theorem dX10_digits_82 : decode cX10_digits 82 = .ok (.iconst 1, 1) := by decide +kernel
theorem dX10_digits_83 : decode cX10_digits 83 = .ok (.iadd, 1) := by decide +kernel
theorem dX10_digits_84 : decode cX10_digits 84 = .ok (.putfield 181, 3) := by decide +kernel
theorem dX10_digits_87 : decode cX10_digits 87 = .ok (.iconst 1, 1) := by decide +kernel
theorem dX10_digits_88 : decode cX10_digits 88 = .ok (.ireturn, 1) := by decide +kernel
theorem dX10_begins_0 : decode cX10_begins 0 = .ok (.bipush 12, 2) := by decide +kernel
theorem dX10_begins_2 : decode cX10_begins 2 = .ok (.aload_n 0, 1) := by decide +kernel
theorem dX10_begins_3 : decode cX10_begins 3 = .ok (.getfield 190, 3) := by decide +kernel
theorem dX10_begins_6 : decode cX10_begins 6 = .ok (.imul, 1) := by decide +kernel
theorem dX10_begins_7 : decode cX10_begins 7 = .ok (.istore_n 2, 1) := by decide +kernel
theorem dX10_begins_8 : decode cX10_begins 8 = .ok (.iconst 0, 1) := by decide +kernel
theorem dX10_begins_9 : decode cX10_begins 9 = .ok (.istore_n 3, 1) := by decide +kernel
theorem dX10_begins_10 : decode cX10_begins 10 = .ok (.iload_n 3, 1) := by decide +kernel
theorem dX10_begins_11 : decode cX10_begins 11 = .ok (.bipush 12, 2) := by decide +kernel
theorem dX10_begins_13 : decode cX10_begins 13 = .ok (.if_icmp .ge 18, 3) := by decide +kernel
theorem dX10_begins_16 : decode cX10_begins 16 = .ok (.aload_n 0, 1) := by decide +kernel
theorem dX10_begins_17 : decode cX10_begins 17 = .ok (.getfield 42, 3) := by decide +kernel
theorem dX10_begins_20 : decode cX10_begins 20 = .ok (.iload_n 2, 1) := by decide +kernel
theorem dX10_begins_21 : decode cX10_begins 21 = .ok (.iload_n 3, 1) := by decide +kernel
theorem dX10_begins_22 : decode cX10_begins 22 = .ok (.iadd, 1) := by decide +kernel
theorem dX10_begins_23 : decode cX10_begins 23 = .ok (.iconst 0, 1) := by decide +kernel
theorem dX10_begins_24 : decode cX10_begins 24 = .ok (.iastore, 1) := by decide +kernel
theorem dX10_begins_25 : decode cX10_begins 25 = .ok (.iinc 3 1, 3) := by decide +kernel
theorem dX10_begins_28 : decode cX10_begins 28 = .ok (.goto (-18), 3) := by decide +kernel
theorem dX10_begins_31 : decode cX10_begins 31 = .ok (.aload_n 0, 1) := by decide +kernel
theorem dX10_begins_32 : decode cX10_begins 32 = .ok (.getfield 42, 3) := by decide +kernel
theorem dX10_begins_35 : decode cX10_begins 35 = .ok (.iload_n 2, 1) := by decide +kernel
theorem dX10_begins_36 : decode cX10_begins 36 = .ok (.iconst 0, 1) := by decide +kernel
theorem dX10_begins_37 : decode cX10_begins 37 = .ok (.iadd, 1) := by decide +kernel
theorem dX10_begins_38 : decode cX10_begins 38 = .ok (.iload_n 1, 1) := by decide +kernel
theorem dX10_begins_39 : decode cX10_begins 39 = .ok (.iastore, 1) := by decide +kernel
theorem dX10_begins_40 : decode cX10_begins 40 = .ok (.aload_n 0, 1) := by decide +kernel
theorem dX10_begins_41 : decode cX10_begins 41 = .ok (.getfield 42, 3) := by decide +kernel
theorem dX10_begins_44 : decode cX10_begins 44 = .ok (.iload_n 2, 1) := by decide +kernel
theorem dX10_begins_45 : decode cX10_begins 45 = .ok (.iconst 1, 1) := by decide +kernel
theorem dX10_begins_46 : decode cX10_begins 46 = .ok (.iadd, 1) := by decide +kernel
theorem dX10_begins_47 : decode cX10_begins 47 = .ok (.aload_n 0, 1) := by decide +kernel
theorem dX10_begins_48 : decode cX10_begins 48 = .ok (.getfield 193, 3) := by decide +kernel
theorem dX10_begins_51 : decode cX10_begins 51 = .ok (.ifCond .ne 7, 3) := by decide +kernel
theorem dX10_begins_54 : decode cX10_begins 54 = .ok (.iconst (-1), 1) := by decide +kernel
theorem dX10_begins_55 : decode cX10_begins 55 = .ok (.goto 14, 3) := by decide +kernel
theorem dX10_begins_58 : decode cX10_begins 58 = .ok (.aload_n 0, 1) := by decide +kernel
theorem dX10_begins_59 : decode cX10_begins 59 = .ok (.getfield 45, 3) := by decide +kernel
theorem dX10_begins_62 : decode cX10_begins 62 = .ok (.aload_n 0, 1) := by decide +kernel
theorem dX10_begins_63 : decode cX10_begins 63 = .ok (.getfield 193, 3) := by decide +kernel
theorem dX10_begins_66 : decode cX10_begins 66 = .ok (.iconst 1, 1) := by decide +kernel
theorem dX10_begins_67 : decode cX10_begins 67 = .ok (.isub, 1) := by decide +kernel
theorem dX10_begins_68 : decode cX10_begins 68 = .ok (.iaload, 1) := by decide +kernel
theorem dX10_begins_69 : decode cX10_begins 69 = .ok (.iastore, 1) := by decide +kernel
theorem dX10_begins_70 : decode cX10_begins 70 = .ok (.aload_n 0, 1) := by decide +kernel
theorem dX10_begins_71 : decode cX10_begins 71 = .ok (.getfield 42, 3) := by decide +kernel
theorem dX10_begins_74 : decode cX10_begins 74 = .ok (.iload_n 2, 1) := by decide +kernel
theorem dX10_begins_75 : decode cX10_begins 75 = .ok (.iconst 3, 1) := by decide +kernel
theorem dX10_begins_76 : decode cX10_begins 76 = .ok (.iadd, 1) := by decide +kernel
theorem dX10_begins_77 : decode cX10_begins 77 = .ok (.iload_n 1, 1) := by decide +kernel
theorem dX10_begins_78 : decode cX10_begins 78 = .ok (.iconst 1, 1) := by decide +kernel
theorem dX10_begins_79 : decode cX10_begins 79 = .ok (.if_icmp .ne 7, 3) := by decide +kernel
theorem dX10_begins_82 : decode cX10_begins 82 = .ok (.iconst (-1), 1) := by decide +kernel
theorem dX10_begins_83 : decode cX10_begins 83 = .ok (.goto 5, 3) := by decide +kernel
theorem dX10_begins_86 : decode cX10_begins 86 = .ok (.bipush 60, 2) := by decide +kernel
theorem dX10_begins_88 : decode cX10_begins 88 = .ok (.iastore, 1) := by decide +kernel
theorem dX10_begins_89 : decode cX10_begins 89 = .ok (.aload_n 0, 1) := by decide +kernel
theorem dX10_begins_90 : decode cX10_begins 90 = .ok (.getfield 42, 3) := by decide +kernel
theorem dX10_begins_93 : decode cX10_begins 93 = .ok (.iload_n 2, 1) := by decide +kernel
theorem dX10_begins_94 : decode cX10_begins 94 = .ok (.iconst 4, 1) := by decide +kernel
theorem dX10_begins_95 : decode cX10_begins 95 = .ok (.iadd, 1) := by decide +kernel
theorem dX10_begins_96 : decode cX10_begins 96 = .ok (.iload_n 1, 1) := by decide +kernel
theorem dX10_begins_97 : decode cX10_begins 97 = .ok (.iconst 1, 1) := by decide +kernel
theorem dX10_begins_98 : decode cX10_begins 98 = .ok (.if_icmp .ne 7, 3) := by decide +kernel
theorem dX10_begins_101 : decode cX10_begins 101 = .ok (.iconst (-1), 1) := by decide +kernel
theorem dX10_begins_102 : decode cX10_begins 102 = .ok (.goto 5, 3) := by decide +kernel
theorem dX10_begins_105 : decode cX10_begins 105 = .ok (.bipush 10, 2) := by decide +kernel
theorem dX10_begins_107 : decode cX10_begins 107 = .ok (.iastore, 1) := by decide +kernel
theorem dX10_begins_108 : decode cX10_begins 108 = .ok (.aload_n 0, 1) := by decide +kernel
theorem dX10_begins_109 : decode cX10_begins 109 = .ok (.getfield 42, 3) := by decide +kernel
theorem dX10_begins_112 : decode cX10_begins 112 = .ok (.iload_n 2, 1) := by decide +kernel
theorem dX10_begins_113 : decode cX10_begins 113 = .ok (.bipush 11, 2) := by decide +kernel
theorem dX10_begins_115 : decode cX10_begins 115 = .ok (.iadd, 1) := by decide +kernel
theorem dX10_begins_116 : decode cX10_begins 116 = .ok (.aload_n 0, 1) := by decide +kernel
theorem dX10_begins_117 : decode cX10_begins 117 = .ok (.getfield 193, 3) := by decide +kernel
theorem dX10_begins_120 : decode cX10_begins 120 = .ok (.iastore, 1) := by decide +kernel
theorem dX10_begins_121 : decode cX10_begins 121 = .ok (.aload_n 0, 1) := by decide +kernel
theorem dX10_begins_122 : decode cX10_begins 122 = .ok (.dup, 1) := by decide +kernel
theorem dX10_begins_123 : decode cX10_begins 123 = .ok (.getfield 190, 3) := by decide +kernel
theorem dX10_begins_126 : decode cX10_begins 126 = .ok (.iconst 1, 1) := by decide +kernel
theorem dX10_begins_127 : decode cX10_begins 127 = .ok (.iadd, 1) := by decide +kernel
theorem dX10_begins_128 : decode cX10_begins 128 = .ok (.putfield 190, 3) := by decide +kernel
theorem dX10_begins_131 : decode cX10_begins 131 = .ok (.return_, 1) := by decide +kernel
theorem dX10_isNew_0 : decode cX10_isNew 0 = .ok (.iconst 0, 1) := by decide +kernel
theorem dX10_isNew_1 : decode cX10_isNew 1 = .ok (.istore_n 3, 1) := by decide +kernel
theorem dX10_isNew_2 : decode cX10_isNew 2 = .ok (.iload_n 3, 1) := by decide +kernel
theorem dX10_isNew_3 : decode cX10_isNew 3 = .ok (.aload_n 0, 1) := by decide +kernel
theorem dX10_isNew_4 : decode cX10_isNew 4 = .ok (.getfield 42, 3) := by decide +kernel
theorem dX10_isNew_7 : decode cX10_isNew 7 = .ok (.iload_n 1, 1) := by decide +kernel
theorem dX10_isNew_8 : decode cX10_isNew 8 = .ok (.iconst 5, 1) := by decide +kernel
theorem dX10_isNew_9 : decode cX10_isNew 9 = .ok (.iadd, 1) := by decide +kernel
theorem dX10_isNew_10 : decode cX10_isNew 10 = .ok (.iaload, 1) := by decide +kernel
theorem dX10_isNew_11 : decode cX10_isNew 11 = .ok (.if_icmp .ge 26, 3) := by decide +kernel
theorem dX10_isNew_14 : decode cX10_isNew 14 = .ok (.aload_n 0, 1) := by decide +kernel
theorem dX10_isNew_15 : decode cX10_isNew 15 = .ok (.getfield 42, 3) := by decide +kernel
theorem dX10_isNew_18 : decode cX10_isNew 18 = .ok (.iload_n 1, 1) := by decide +kernel
theorem dX10_isNew_19 : decode cX10_isNew 19 = .ok (.bipush 6, 2) := by decide +kernel
theorem dX10_isNew_21 : decode cX10_isNew 21 = .ok (.iadd, 1) := by decide +kernel
theorem dX10_isNew_22 : decode cX10_isNew 22 = .ok (.iload_n 3, 1) := by decide +kernel
theorem dX10_isNew_23 : decode cX10_isNew 23 = .ok (.iadd, 1) := by decide +kernel
theorem dX10_isNew_24 : decode cX10_isNew 24 = .ok (.iaload, 1) := by decide +kernel
theorem dX10_isNew_25 : decode cX10_isNew 25 = .ok (.iload_n 2, 1) := by decide +kernel
theorem dX10_isNew_26 : decode cX10_isNew 26 = .ok (.if_icmp .ne 5, 3) := by decide +kernel
theorem dX10_isNew_29 : decode cX10_isNew 29 = .ok (.iconst 0, 1) := by decide +kernel
theorem dX10_isNew_30 : decode cX10_isNew 30 = .ok (.ireturn, 1) := by decide +kernel
theorem dX10_isNew_31 : decode cX10_isNew 31 = .ok (.iinc 3 1, 3) := by decide +kernel
theorem dX10_isNew_34 : decode cX10_isNew 34 = .ok (.goto (-32), 3) := by decide +kernel
theorem dX10_isNew_37 : decode cX10_isNew 37 = .ok (.iconst 1, 1) := by decide +kernel
theorem dX10_isNew_38 : decode cX10_isNew 38 = .ok (.ireturn, 1) := by decide +kernel
theorem dX10_leaf_0 : decode cX10_leaf 0 = .ok (.bipush 12, 2) := by decide +kernel
theorem dX10_leaf_2 : decode cX10_leaf 2 = .ok (.aload_n 0, 1) := by decide +kernel
theorem dX10_leaf_3 : decode cX10_leaf 3 = .ok (.getfield 190, 3) := by decide +kernel
theorem dX10_leaf_6 : decode cX10_leaf 6 = .ok (.imul, 1) := by decide +kernel
theorem dX10_leaf_7 : decode cX10_leaf 7 = .ok (.istore_n 1, 1) := by decide +kernel
theorem dX10_leaf_8 : decode cX10_leaf 8 = .ok (.aload_n 0, 1) := by decide +kernel
theorem dX10_leaf_9 : decode cX10_leaf 9 = .ok (.invokevirtual 184, 3) := by decide +kernel
theorem dX10_leaf_12 : decode cX10_leaf 12 = .ok (.invokestatic 123, 3) := by decide +kernel
theorem dX10_leaf_15 : decode cX10_leaf 15 = .ok (.ifCond .ne 5, 3) := by decide +kernel
theorem dX10_leaf_18 : decode cX10_leaf 18 = .ok (.iconst 0, 1) := by decide +kernel
theorem dX10_leaf_19 : decode cX10_leaf 19 = .ok (.ireturn, 1) := by decide +kernel
theorem dX10_leaf_20 : decode cX10_leaf 20 = .ok (.aload_n 0, 1) := by decide +kernel
theorem dX10_leaf_21 : decode cX10_leaf 21 = .ok (.iconst 0, 1) := by decide +kernel
theorem dX10_leaf_22 : decode cX10_leaf 22 = .ok (.invokevirtual 196, 3) := by decide +kernel
theorem dX10_leaf_25 : decode cX10_leaf 25 = .ok (.aload_n 0, 1) := by decide +kernel
theorem dX10_leaf_26 : decode cX10_leaf 26 = .ok (.invokevirtual 184, 3) := by decide +kernel
theorem dX10_leaf_29 : decode cX10_leaf 29 = .ok (.invokestatic 123, 3) := by decide +kernel
theorem dX10_leaf_32 : decode cX10_leaf 32 = .ok (.ifCond .eq 76, 3) := by decide +kernel
theorem dX10_leaf_35 : decode cX10_leaf 35 = .ok (.aload_n 0, 1) := by decide +kernel
theorem dX10_leaf_36 : decode cX10_leaf 36 = .ok (.getfield 42, 3) := by decide +kernel
theorem dX10_leaf_39 : decode cX10_leaf 39 = .ok (.iload_n 1, 1) := by decide +kernel
theorem dX10_leaf_40 : decode cX10_leaf 40 = .ok (.iconst 5, 1) := by decide +kernel
theorem dX10_leaf_41 : decode cX10_leaf 41 = .ok (.iadd, 1) := by decide +kernel
theorem dX10_leaf_42 : decode cX10_leaf 42 = .ok (.iaload, 1) := by decide +kernel
theorem dX10_leaf_43 : decode cX10_leaf 43 = .ok (.iconst 5, 1) := by decide +kernel
theorem dX10_leaf_44 : decode cX10_leaf 44 = .ok (.if_icmp .eq 15, 3) := by decide +kernel
theorem dX10_leaf_47 : decode cX10_leaf 47 = .ok (.aload_n 0, 1) := by decide +kernel
theorem dX10_leaf_48 : decode cX10_leaf 48 = .ok (.iload_n 1, 1) := by decide +kernel
theorem dX10_leaf_49 : decode cX10_leaf 49 = .ok (.aload_n 0, 1) := by decide +kernel
theorem dX10_leaf_50 : decode cX10_leaf 50 = .ok (.invokevirtual 184, 3) := by decide +kernel
theorem dX10_leaf_53 : decode cX10_leaf 53 = .ok (.invokevirtual 199, 3) := by decide +kernel
theorem dX10_leaf_56 : decode cX10_leaf 56 = .ok (.ifCond .ne 5, 3) := by decide +kernel
theorem dX10_leaf_59 : decode cX10_leaf 59 = .ok (.iconst 0, 1) := by decide +kernel
theorem dX10_leaf_60 : decode cX10_leaf 60 = .ok (.ireturn, 1) := by decide +kernel
theorem dX10_leaf_61 : decode cX10_leaf 61 = .ok (.aload_n 0, 1) := by decide +kernel
theorem dX10_leaf_62 : decode cX10_leaf 62 = .ok (.getfield 42, 3) := by decide +kernel
theorem dX10_leaf_65 : decode cX10_leaf 65 = .ok (.iload_n 1, 1) := by decide +kernel
theorem dX10_leaf_66 : decode cX10_leaf 66 = .ok (.bipush 6, 2) := by decide +kernel
theorem dX10_leaf_68 : decode cX10_leaf 68 = .ok (.iadd, 1) := by decide +kernel
theorem dX10_leaf_69 : decode cX10_leaf 69 = .ok (.aload_n 0, 1) := by decide +kernel
theorem dX10_leaf_70 : decode cX10_leaf 70 = .ok (.getfield 42, 3) := by decide +kernel
theorem dX10_leaf_73 : decode cX10_leaf 73 = .ok (.iload_n 1, 1) := by decide +kernel
theorem dX10_leaf_74 : decode cX10_leaf 74 = .ok (.iconst 5, 1) := by decide +kernel
theorem dX10_leaf_75 : decode cX10_leaf 75 = .ok (.iadd, 1) := by decide +kernel
theorem dX10_leaf_76 : decode cX10_leaf 76 = .ok (.iaload, 1) := by decide +kernel
theorem dX10_leaf_77 : decode cX10_leaf 77 = .ok (.iadd, 1) := by decide +kernel
theorem dX10_leaf_78 : decode cX10_leaf 78 = .ok (.aload_n 0, 1) := by decide +kernel
theorem dX10_leaf_79 : decode cX10_leaf 79 = .ok (.invokevirtual 184, 3) := by decide +kernel
theorem dX10_leaf_82 : decode cX10_leaf 82 = .ok (.iastore, 1) := by decide +kernel
theorem dX10_leaf_83 : decode cX10_leaf 83 = .ok (.aload_n 0, 1) := by decide +kernel
theorem dX10_leaf_84 : decode cX10_leaf 84 = .ok (.getfield 42, 3) := by decide +kernel
theorem dX10_leaf_87 : decode cX10_leaf 87 = .ok (.iload_n 1, 1) := by decide +kernel
theorem dX10_leaf_88 : decode cX10_leaf 88 = .ok (.iconst 5, 1) := by decide +kernel
theorem dX10_leaf_89 : decode cX10_leaf 89 = .ok (.iadd, 1) := by decide +kernel
theorem dX10_leaf_90 : decode cX10_leaf 90 = .ok (.dup2, 1) := by decide +kernel
theorem dX10_leaf_91 : decode cX10_leaf 91 = .ok (.iaload, 1) := by decide +kernel
theorem dX10_leaf_92 : decode cX10_leaf 92 = .ok (.iconst 1, 1) := by decide +kernel
theorem dX10_leaf_93 : decode cX10_leaf 93 = .ok (.iadd, 1) := by decide +kernel
theorem dX10_leaf_94 : decode cX10_leaf 94 = .ok (.iastore, 1) := by decide +kernel
theorem dX10_leaf_95 : decode cX10_leaf 95 = .ok (.aload_n 0, 1) := by decide +kernel
theorem dX10_leaf_96 : decode cX10_leaf 96 = .ok (.dup, 1) := by decide +kernel
theorem dX10_leaf_97 : decode cX10_leaf 97 = .ok (.getfield 181, 3) := by decide +kernel
theorem dX10_leaf_100 : decode cX10_leaf 100 = .ok (.iconst 1, 1) := by decide +kernel
theorem dX10_leaf_101 : decode cX10_leaf 101 = .ok (.iadd, 1) := by decide +kernel
theorem dX10_leaf_102 : decode cX10_leaf 102 = .ok (.putfield 181, 3) := by decide +kernel
theorem dX10_leaf_105 : decode cX10_leaf 105 = .ok (.goto (-80), 3) := by decide +kernel
theorem dX10_leaf_108 : decode cX10_leaf 108 = .ok (.aload_n 0, 1) := by decide +kernel
theorem dX10_leaf_109 : decode cX10_leaf 109 = .ok (.invokevirtual 202, 3) := by decide +kernel
theorem dX10_leaf_112 : decode cX10_leaf 112 = .ok (.ifCond .ne 5, 3) := by decide +kernel
theorem dX10_leaf_115 : decode cX10_leaf 115 = .ok (.iconst 0, 1) := by decide +kernel
theorem dX10_leaf_116 : decode cX10_leaf 116 = .ok (.ireturn, 1) := by decide +kernel
theorem dX10_leaf_117 : decode cX10_leaf 117 = .ok (.aload_n 0, 1) := by decide +kernel
theorem dX10_leaf_118 : decode cX10_leaf 118 = .ok (.getfield 42, 3) := by decide +kernel
theorem dX10_leaf_121 : decode cX10_leaf 121 = .ok (.iload_n 1, 1) := by decide +kernel
theorem dX10_leaf_122 : decode cX10_leaf 122 = .ok (.iconst 2, 1) := by decide +kernel
theorem dX10_leaf_123 : decode cX10_leaf 123 = .ok (.iadd, 1) := by decide +kernel
theorem dX10_leaf_124 : decode cX10_leaf 124 = .ok (.aload_n 0, 1) := by decide +kernel
theorem dX10_leaf_125 : decode cX10_leaf 125 = .ok (.getfield 187, 3) := by decide +kernel
theorem dX10_leaf_128 : decode cX10_leaf 128 = .ok (.iastore, 1) := by decide +kernel
theorem dX10_leaf_129 : decode cX10_leaf 129 = .ok (.aload_n 0, 1) := by decide +kernel
theorem dX10_leaf_130 : decode cX10_leaf 130 = .ok (.bipush 60, 2) := by decide +kernel
theorem dX10_leaf_132 : decode cX10_leaf 132 = .ok (.invokevirtual 205, 3) := by decide +kernel
theorem dX10_leaf_135 : decode cX10_leaf 135 = .ok (.ifCond .eq 24, 3) := by decide +kernel
theorem dX10_leaf_138 : decode cX10_leaf 138 = .ok (.aload_n 0, 1) := by decide +kernel
theorem dX10_leaf_139 : decode cX10_leaf 139 = .ok (.invokevirtual 202, 3) := by decide +kernel
theorem dX10_leaf_142 : decode cX10_leaf 142 = .ok (.ifCond .ne 5, 3) := by decide +kernel
theorem dX10_leaf_145 : decode cX10_leaf 145 = .ok (.iconst 0, 1) := by decide +kernel
theorem dX10_leaf_146 : decode cX10_leaf 146 = .ok (.ireturn, 1) := by decide +kernel
theorem dX10_leaf_147 : decode cX10_leaf 147 = .ok (.aload_n 0, 1) := by decide +kernel
theorem dX10_leaf_148 : decode cX10_leaf 148 = .ok (.getfield 42, 3) := by decide +kernel
theorem dX10_leaf_151 : decode cX10_leaf 151 = .ok (.iload_n 1, 1) := by decide +kernel
theorem dX10_leaf_152 : decode cX10_leaf 152 = .ok (.iconst 3, 1) := by decide +kernel
theorem dX10_leaf_153 : decode cX10_leaf 153 = .ok (.iadd, 1) := by decide +kernel
theorem dX10_leaf_154 : decode cX10_leaf 154 = .ok (.aload_n 0, 1) := by decide +kernel
theorem dX10_leaf_155 : decode cX10_leaf 155 = .ok (.getfield 187, 3) := by decide +kernel
theorem dX10_leaf_158 : decode cX10_leaf 158 = .ok (.iastore, 1) := by decide +kernel
theorem dX10_leaf_159 : decode cX10_leaf 159 = .ok (.aload_n 0, 1) := by decide +kernel
theorem dX10_leaf_160 : decode cX10_leaf 160 = .ok (.bipush 62, 2) := by decide +kernel
theorem dX10_leaf_162 : decode cX10_leaf 162 = .ok (.invokevirtual 205, 3) := by decide +kernel
theorem dX10_leaf_165 : decode cX10_leaf 165 = .ok (.ifCond .eq 24, 3) := by decide +kernel
theorem dX10_leaf_168 : decode cX10_leaf 168 = .ok (.aload_n 0, 1) := by decide +kernel
theorem dX10_leaf_169 : decode cX10_leaf 169 = .ok (.invokevirtual 202, 3) := by decide +kernel
theorem dX10_leaf_172 : decode cX10_leaf 172 = .ok (.ifCond .ne 5, 3) := by decide +kernel
theorem dX10_leaf_175 : decode cX10_leaf 175 = .ok (.iconst 0, 1) := by decide +kernel
theorem dX10_leaf_176 : decode cX10_leaf 176 = .ok (.ireturn, 1) := by decide +kernel
theorem dX10_leaf_177 : decode cX10_leaf 177 = .ok (.aload_n 0, 1) := by decide +kernel
theorem dX10_leaf_178 : decode cX10_leaf 178 = .ok (.getfield 42, 3) := by decide +kernel
theorem dX10_leaf_181 : decode cX10_leaf 181 = .ok (.iload_n 1, 1) := by decide +kernel
theorem dX10_leaf_182 : decode cX10_leaf 182 = .ok (.iconst 4, 1) := by decide +kernel
theorem dX10_leaf_183 : decode cX10_leaf 183 = .ok (.iadd, 1) := by decide +kernel
theorem dX10_leaf_184 : decode cX10_leaf 184 = .ok (.aload_n 0, 1) := by decide +kernel
theorem dX10_leaf_185 : decode cX10_leaf 185 = .ok (.getfield 187, 3) := by decide +kernel
theorem dX10_leaf_188 : decode cX10_leaf 188 = .ok (.iastore, 1) := by decide +kernel
theorem dX10_leaf_189 : decode cX10_leaf 189 = .ok (.iconst 1, 1) := by decide +kernel
theorem dX10_leaf_190 : decode cX10_leaf 190 = .ok (.ireturn, 1) := by decide +kernel
theorem dX10_group_0 : decode cX10_group 0 = .ok (.aload_n 0, 1) := by decide +kernel
theorem dX10_group_1 : decode cX10_group 1 = .ok (.getfield 193, 3) := by decide +kernel
theorem dX10_group_4 : decode cX10_group 4 = .ok (.iconst 3, 1) := by decide +kernel
theorem dX10_group_5 : decode cX10_group 5 = .ok (.if_icmp .ne 5, 3) := by decide +kernel
theorem dX10_group_8 : decode cX10_group 8 = .ok (.iconst 0, 1) := by decide +kernel
theorem dX10_group_9 : decode cX10_group 9 = .ok (.ireturn, 1) := by decide +kernel
theorem dX10_group_10 : decode cX10_group 10 = .ok (.bipush 12, 2) := by decide +kernel
theorem dX10_group_12 : decode cX10_group 12 = .ok (.aload_n 0, 1) := by decide +kernel
theorem dX10_group_13 : decode cX10_group 13 = .ok (.getfield 190, 3) := by decide +kernel
theorem dX10_group_16 : decode cX10_group 16 = .ok (.imul, 1) := by decide +kernel
theorem dX10_group_17 : decode cX10_group 17 = .ok (.istore_n 1, 1) := by decide +kernel
theorem dX10_group_18 : decode cX10_group 18 = .ok (.aload_n 0, 1) := by decide +kernel
theorem dX10_group_19 : decode cX10_group 19 = .ok (.getfield 190, 3) := by decide +kernel
theorem dX10_group_22 : decode cX10_group 22 = .ok (.istore_n 2, 1) := by decide +kernel
theorem dX10_group_23 : decode cX10_group 23 = .ok (.aload_n 0, 1) := by decide +kernel
theorem dX10_group_24 : decode cX10_group 24 = .ok (.dup, 1) := by decide +kernel
theorem dX10_group_25 : decode cX10_group 25 = .ok (.getfield 181, 3) := by decide +kernel
theorem dX10_group_28 : decode cX10_group 28 = .ok (.iconst 1, 1) := by decide +kernel
theorem dX10_group_29 : decode cX10_group 29 = .ok (.iadd, 1) := by decide +kernel
theorem dX10_group_30 : decode cX10_group 30 = .ok (.putfield 181, 3) := by decide +kernel
theorem dX10_group_33 : decode cX10_group 33 = .ok (.aload_n 0, 1) := by decide +kernel
theorem dX10_group_34 : decode cX10_group 34 = .ok (.iconst 1, 1) := by decide +kernel
theorem dX10_group_35 : decode cX10_group 35 = .ok (.invokevirtual 196, 3) := by decide +kernel
theorem dX10_group_38 : decode cX10_group 38 = .ok (.aload_n 0, 1) := by decide +kernel
theorem dX10_group_39 : decode cX10_group 39 = .ok (.invokevirtual 184, 3) := by decide +kernel
theorem dX10_group_42 : decode cX10_group 42 = .ok (.bipush 49, 2) := by decide +kernel
theorem dX10_group_44 : decode cX10_group 44 = .ok (.bipush 57, 2) := by decide +kernel
theorem dX10_group_46 : decode cX10_group 46 = .ok (.invokestatic 61, 3) := by decide +kernel
theorem dX10_group_49 : decode cX10_group 49 = .ok (.ifCond .ne 5, 3) := by decide +kernel
theorem dX10_group_52 : decode cX10_group 52 = .ok (.iconst 0, 1) := by decide +kernel
theorem dX10_group_53 : decode cX10_group 53 = .ok (.ireturn, 1) := by decide +kernel
theorem dX10_group_54 : decode cX10_group 54 = .ok (.aload_n 0, 1) := by decide +kernel
theorem dX10_group_55 : decode cX10_group 55 = .ok (.getfield 42, 3) := by decide +kernel
theorem dX10_group_58 : decode cX10_group 58 = .ok (.iload_n 1, 1) := by decide +kernel
theorem dX10_group_59 : decode cX10_group 59 = .ok (.iconst 2, 1) := by decide +kernel
theorem dX10_group_60 : decode cX10_group 60 = .ok (.iadd, 1) := by decide +kernel
theorem dX10_group_61 : decode cX10_group 61 = .ok (.aload_n 0, 1) := by decide +kernel
theorem dX10_group_62 : decode cX10_group 62 = .ok (.invokevirtual 184, 3) := by decide +kernel
theorem dX10_group_65 : decode cX10_group 65 = .ok (.bipush 48, 2) := by decide +kernel
theorem dX10_group_67 : decode cX10_group 67 = .ok (.isub, 1) := by decide +kernel
theorem dX10_group_68 : decode cX10_group 68 = .ok (.iastore, 1) := by decide +kernel
theorem dX10_group_69 : decode cX10_group 69 = .ok (.aload_n 0, 1) := by decide +kernel
theorem dX10_group_70 : decode cX10_group 70 = .ok (.dup, 1) := by decide +kernel
theorem dX10_group_71 : decode cX10_group 71 = .ok (.getfield 181, 3) := by decide +kernel
theorem dX10_group_74 : decode cX10_group 74 = .ok (.iconst 1, 1) := by decide +kernel
theorem dX10_group_75 : decode cX10_group 75 = .ok (.iadd, 1) := by decide +kernel
theorem dX10_group_76 : decode cX10_group 76 = .ok (.putfield 181, 3) := by decide +kernel
theorem dX10_group_79 : decode cX10_group 79 = .ok (.aload_n 0, 1) := by decide +kernel
theorem dX10_group_80 : decode cX10_group 80 = .ok (.getfield 45, 3) := by decide +kernel
theorem dX10_group_83 : decode cX10_group 83 = .ok (.aload_n 0, 1) := by decide +kernel
theorem dX10_group_84 : decode cX10_group 84 = .ok (.getfield 193, 3) := by decide +kernel
theorem dX10_group_87 : decode cX10_group 87 = .ok (.iload_n 2, 1) := by decide +kernel
theorem dX10_group_88 : decode cX10_group 88 = .ok (.iastore, 1) := by decide +kernel
theorem dX10_group_89 : decode cX10_group 89 = .ok (.aload_n 0, 1) := by decide +kernel
theorem dX10_group_90 : decode cX10_group 90 = .ok (.dup, 1) := by decide +kernel
theorem dX10_group_91 : decode cX10_group 91 = .ok (.getfield 193, 3) := by decide +kernel
theorem dX10_group_94 : decode cX10_group 94 = .ok (.iconst 1, 1) := by decide +kernel
theorem dX10_group_95 : decode cX10_group 95 = .ok (.iadd, 1) := by decide +kernel
theorem dX10_group_96 : decode cX10_group 96 = .ok (.putfield 193, 3) := by decide +kernel
theorem dX10_group_99 : decode cX10_group 99 = .ok (.aload_n 0, 1) := by decide +kernel
theorem dX10_group_100 : decode cX10_group 100 = .ok (.bipush 58, 2) := by decide +kernel
theorem dX10_group_102 : decode cX10_group 102 = .ok (.invokevirtual 205, 3) := by decide +kernel
theorem dX10_group_105 : decode cX10_group 105 = .ok (.ireturn, 1) := by decide +kernel
theorem dX10_follows_0 : decode cX10_follows 0 = .ok (.aload_n 0, 1) := by decide +kernel
theorem dX10_follows_1 : decode cX10_follows 1 = .ok (.getfield 193, 3) := by decide +kernel
theorem dX10_follows_4 : decode cX10_follows 4 = .ok (.ifCond .le 38, 3) := by decide +kernel
theorem dX10_follows_7 : decode cX10_follows 7 = .ok (.aload_n 0, 1) := by decide +kernel
theorem dX10_follows_8 : decode cX10_follows 8 = .ok (.bipush 44, 2) := by decide +kernel
theorem dX10_follows_10 : decode cX10_follows 10 = .ok (.invokevirtual 205, 3) := by decide +kernel
theorem dX10_follows_13 : decode cX10_follows 13 = .ok (.ifCond .eq 5, 3) := by decide +kernel
theorem dX10_follows_16 : decode cX10_follows 16 = .ok (.iconst 1, 1) := by decide +kernel
theorem dX10_follows_17 : decode cX10_follows 17 = .ok (.ireturn, 1) := by decide +kernel
theorem dX10_follows_18 : decode cX10_follows 18 = .ok (.aload_n 0, 1) := by decide +kernel
theorem dX10_follows_19 : decode cX10_follows 19 = .ok (.bipush 93, 2) := by decide +kernel
theorem dX10_follows_21 : decode cX10_follows 21 = .ok (.invokevirtual 205, 3) := by decide +kernel
theorem dX10_follows_24 : decode cX10_follows 24 = .ok (.ifCond .ne 5, 3) := by decide +kernel
theorem dX10_follows_27 : decode cX10_follows 27 = .ok (.iconst 0, 1) := by decide +kernel
theorem dX10_follows_28 : decode cX10_follows 28 = .ok (.ireturn, 1) := by decide +kernel
theorem dX10_follows_29 : decode cX10_follows 29 = .ok (.aload_n 0, 1) := by decide +kernel
theorem dX10_follows_30 : decode cX10_follows 30 = .ok (.dup, 1) := by decide +kernel
theorem dX10_follows_31 : decode cX10_follows 31 = .ok (.getfield 193, 3) := by decide +kernel
theorem dX10_follows_34 : decode cX10_follows 34 = .ok (.iconst 1, 1) := by decide +kernel
theorem dX10_follows_35 : decode cX10_follows 35 = .ok (.isub, 1) := by decide +kernel
theorem dX10_follows_36 : decode cX10_follows 36 = .ok (.putfield 193, 3) := by decide +kernel
theorem dX10_follows_39 : decode cX10_follows 39 = .ok (.goto (-39), 3) := by decide +kernel
theorem dX10_follows_42 : decode cX10_follows 42 = .ok (.aload_n 0, 1) := by decide +kernel
theorem dX10_follows_43 : decode cX10_follows 43 = .ok (.getfield 181, 3) := by decide +kernel
theorem dX10_follows_46 : decode cX10_follows 46 = .ok (.aload_n 0, 1) := by decide +kernel
theorem dX10_follows_47 : decode cX10_follows 47 = .ok (.getfield 178, 3) := by decide +kernel
theorem dX10_follows_50 : decode cX10_follows 50 = .ok (.if_icmp .ge 7, 3) := by decide +kernel
theorem dX10_follows_53 : decode cX10_follows 53 = .ok (.iconst 1, 1) := by decide +kernel
theorem dX10_follows_54 : decode cX10_follows 54 = .ok (.goto 4, 3) := by decide +kernel
theorem dX10_follows_57 : decode cX10_follows 57 = .ok (.iconst 0, 1) := by decide +kernel
theorem dX10_follows_58 : decode cX10_follows 58 = .ok (.ireturn, 1) := by decide +kernel
theorem dX10_isText_0 : decode cX10_isText 0 = .ok (.aload_n 0, 1) := by decide +kernel
theorem dX10_isText_1 : decode cX10_isText 1 = .ok (.iconst 0, 1) := by decide +kernel
theorem dX10_isText_2 : decode cX10_isText 2 = .ok (.putfield 181, 3) := by decide +kernel
theorem dX10_isText_5 : decode cX10_isText 5 = .ok (.aload_n 0, 1) := by decide +kernel
theorem dX10_isText_6 : decode cX10_isText 6 = .ok (.iconst 0, 1) := by decide +kernel
theorem dX10_isText_7 : decode cX10_isText 7 = .ok (.putfield 190, 3) := by decide +kernel
theorem dX10_isText_10 : decode cX10_isText 10 = .ok (.aload_n 0, 1) := by decide +kernel
theorem dX10_isText_11 : decode cX10_isText 11 = .ok (.iconst 0, 1) := by decide +kernel
theorem dX10_isText_12 : decode cX10_isText 12 = .ok (.putfield 193, 3) := by decide +kernel
theorem dX10_isText_15 : decode cX10_isText 15 = .ok (.aload_n 0, 1) := by decide +kernel
theorem dX10_isText_16 : decode cX10_isText 16 = .ok (.invokevirtual 184, 3) := by decide +kernel
theorem dX10_isText_19 : decode cX10_isText 19 = .ok (.bipush 91, 2) := by decide +kernel
theorem dX10_isText_21 : decode cX10_isText 21 = .ok (.if_icmp .ne 12, 3) := by decide +kernel
theorem dX10_isText_24 : decode cX10_isText 24 = .ok (.aload_n 0, 1) := by decide +kernel
theorem dX10_isText_25 : decode cX10_isText 25 = .ok (.invokevirtual 208, 3) := by decide +kernel
theorem dX10_isText_28 : decode cX10_isText 28 = .ok (.ifCond .ne (-13), 3) := by decide +kernel
theorem dX10_isText_31 : decode cX10_isText 31 = .ok (.iconst 0, 1) := by decide +kernel
theorem dX10_isText_32 : decode cX10_isText 32 = .ok (.ireturn, 1) := by decide +kernel
theorem dX10_isText_33 : decode cX10_isText 33 = .ok (.aload_n 0, 1) := by decide +kernel
theorem dX10_isText_34 : decode cX10_isText 34 = .ok (.invokevirtual 211, 3) := by decide +kernel
theorem dX10_isText_37 : decode cX10_isText 37 = .ok (.ifCond .ne 5, 3) := by decide +kernel
theorem dX10_isText_40 : decode cX10_isText 40 = .ok (.iconst 0, 1) := by decide +kernel
theorem dX10_isText_41 : decode cX10_isText 41 = .ok (.ireturn, 1) := by decide +kernel
theorem dX10_isText_42 : decode cX10_isText 42 = .ok (.aload_n 0, 1) := by decide +kernel
theorem dX10_isText_43 : decode cX10_isText 43 = .ok (.invokevirtual 214, 3) := by decide +kernel
theorem dX10_isText_46 : decode cX10_isText 46 = .ok (.ifCond .ne (-31), 3) := by decide +kernel
theorem dX10_isText_49 : decode cX10_isText 49 = .ok (.aload_n 0, 1) := by decide +kernel
theorem dX10_isText_50 : decode cX10_isText 50 = .ok (.getfield 193, 3) := by decide +kernel
theorem dX10_isText_53 : decode cX10_isText 53 = .ok (.ifCond .ne 18, 3) := by decide +kernel
theorem dX10_isText_56 : decode cX10_isText 56 = .ok (.aload_n 0, 1) := by decide +kernel
theorem dX10_isText_57 : decode cX10_isText 57 = .ok (.getfield 181, 3) := by decide +kernel
theorem dX10_isText_60 : decode cX10_isText 60 = .ok (.aload_n 0, 1) := by decide +kernel
theorem dX10_isText_61 : decode cX10_isText 61 = .ok (.getfield 178, 3) := by decide +kernel
theorem dX10_isText_64 : decode cX10_isText 64 = .ok (.if_icmp .ne 7, 3) := by decide +kernel
theorem dX10_isText_67 : decode cX10_isText 67 = .ok (.iconst 1, 1) := by decide +kernel
theorem dX10_isText_68 : decode cX10_isText 68 = .ok (.goto 4, 3) := by decide +kernel
theorem dX10_isText_71 : decode cX10_isText 71 = .ok (.iconst 0, 1) := by decide +kernel
theorem dX10_isText_72 : decode cX10_isText 72 = .ok (.ireturn, 1) := by decide +kernel
theorem dX10_parts_0 : decode cX10_parts 0 = .ok (.iconst 0, 1) := by decide +kernel
theorem dX10_parts_1 : decode cX10_parts 1 = .ok (.istore 4, 2) := by decide +kernel
theorem dX10_parts_3 : decode cX10_parts 3 = .ok (.iconst 0, 1) := by decide +kernel
theorem dX10_parts_4 : decode cX10_parts 4 = .ok (.istore 5, 2) := by decide +kernel
theorem dX10_parts_6 : decode cX10_parts 6 = .ok (.iload 5, 2) := by decide +kernel
theorem dX10_parts_8 : decode cX10_parts 8 = .ok (.iload_n 2, 1) := by decide +kernel
theorem dX10_parts_9 : decode cX10_parts 9 = .ok (.if_icmp .ge 34, 3) := by decide +kernel
theorem dX10_parts_12 : decode cX10_parts 12 = .ok (.iload 4, 2) := by decide +kernel
theorem dX10_parts_14 : decode cX10_parts 14 = .ok (.aload_n 0, 1) := by decide +kernel
theorem dX10_parts_15 : decode cX10_parts 15 = .ok (.iload_n 1, 1) := by decide +kernel
theorem dX10_parts_16 : decode cX10_parts 16 = .ok (.bipush 12, 2) := by decide +kernel
theorem dX10_parts_18 : decode cX10_parts 18 = .ok (.iload 5, 2) := by decide +kernel
theorem dX10_parts_20 : decode cX10_parts 20 = .ok (.imul, 1) := by decide +kernel
theorem dX10_parts_21 : decode cX10_parts 21 = .ok (.iadd, 1) := by decide +kernel
theorem dX10_parts_22 : decode cX10_parts 22 = .ok (.iconst 1, 1) := by decide +kernel
theorem dX10_parts_23 : decode cX10_parts 23 = .ok (.iadd, 1) := by decide +kernel
theorem dX10_parts_24 : decode cX10_parts 24 = .ok (.iaload, 1) := by decide +kernel
theorem dX10_parts_25 : decode cX10_parts 25 = .ok (.iload_n 3, 1) := by decide +kernel
theorem dX10_parts_26 : decode cX10_parts 26 = .ok (.if_icmp .ne 7, 3) := by decide +kernel
theorem dX10_parts_29 : decode cX10_parts 29 = .ok (.iconst 1, 1) := by decide +kernel
theorem dX10_parts_30 : decode cX10_parts 30 = .ok (.goto 4, 3) := by decide +kernel
theorem dX10_parts_33 : decode cX10_parts 33 = .ok (.iconst 0, 1) := by decide +kernel
theorem dX10_parts_34 : decode cX10_parts 34 = .ok (.iadd, 1) := by decide +kernel
theorem dX10_parts_35 : decode cX10_parts 35 = .ok (.istore 4, 2) := by decide +kernel
theorem dX10_parts_37 : decode cX10_parts 37 = .ok (.iinc 5 1, 3) := by decide +kernel
theorem dX10_parts_40 : decode cX10_parts 40 = .ok (.goto (-34), 3) := by decide +kernel
theorem dX10_parts_43 : decode cX10_parts 43 = .ok (.iload 4, 2) := by decide +kernel
theorem dX10_parts_45 : decode cX10_parts 45 = .ok (.ireturn, 1) := by decide +kernel
theorem dX10_refusedBy_0 : decode cX10_refusedBy 0 = .ok (.iconst 0, 1) := by decide +kernel
theorem dX10_refusedBy_1 : decode cX10_refusedBy 1 = .ok (.istore_n 1, 1) := by decide +kernel
theorem dX10_refusedBy_2 : decode cX10_refusedBy 2 = .ok (.iconst 1, 1) := by decide +kernel
theorem dX10_refusedBy_3 : decode cX10_refusedBy 3 = .ok (.istore_n 2, 1) := by decide +kernel
theorem dX10_refusedBy_4 : decode cX10_refusedBy 4 = .ok (.iconst 1, 1) := by decide +kernel
theorem dX10_refusedBy_5 : decode cX10_refusedBy 5 = .ok (.istore_n 3, 1) := by decide +kernel
theorem dX10_refusedBy_6 : decode cX10_refusedBy 6 = .ok (.iconst 0, 1) := by decide +kernel
theorem dX10_refusedBy_7 : decode cX10_refusedBy 7 = .ok (.istore 4, 2) := by decide +kernel
theorem dX10_refusedBy_9 : decode cX10_refusedBy 9 = .ok (.iload 4, 2) := by decide +kernel
theorem dX10_refusedBy_11 : decode cX10_refusedBy 11 = .ok (.aload_n 0, 1) := by decide +kernel
theorem dX10_refusedBy_12 : decode cX10_refusedBy 12 = .ok (.getfield 190, 3) := by decide +kernel
theorem dX10_refusedBy_15 : decode cX10_refusedBy 15 = .ok (.if_icmp .ge 136, 3) := by decide +kernel
theorem dX10_refusedBy_18 : decode cX10_refusedBy 18 = .ok (.bipush 12, 2) := by decide +kernel
theorem dX10_refusedBy_20 : decode cX10_refusedBy 20 = .ok (.iload 4, 2) := by decide +kernel
theorem dX10_refusedBy_22 : decode cX10_refusedBy 22 = .ok (.imul, 1) := by decide +kernel
theorem dX10_refusedBy_23 : decode cX10_refusedBy 23 = .ok (.istore 5, 2) := by decide +kernel
theorem dX10_refusedBy_25 : decode cX10_refusedBy 25 = .ok (.aload_n 0, 1) := by decide +kernel
theorem dX10_refusedBy_26 : decode cX10_refusedBy 26 = .ok (.getfield 42, 3) := by decide +kernel
theorem dX10_refusedBy_29 : decode cX10_refusedBy 29 = .ok (.iload 5, 2) := by decide +kernel
theorem dX10_refusedBy_31 : decode cX10_refusedBy 31 = .ok (.iconst 0, 1) := by decide +kernel
theorem dX10_refusedBy_32 : decode cX10_refusedBy 32 = .ok (.iadd, 1) := by decide +kernel
theorem dX10_refusedBy_33 : decode cX10_refusedBy 33 = .ok (.iaload, 1) := by decide +kernel
theorem dX10_refusedBy_34 : decode cX10_refusedBy 34 = .ok (.iconst 1, 1) := by decide +kernel
theorem dX10_refusedBy_35 : decode cX10_refusedBy 35 = .ok (.if_icmp .ne 42, 3) := by decide +kernel
theorem dX10_refusedBy_38 : decode cX10_refusedBy 38 = .ok (.iload_n 3, 1) := by decide +kernel
theorem dX10_refusedBy_39 : decode cX10_refusedBy 39 = .ok (.ifCond .eq 33, 3) := by decide +kernel
theorem dX10_refusedBy_42 : decode cX10_refusedBy 42 = .ok (.aload_n 0, 1) := by decide +kernel
theorem dX10_refusedBy_43 : decode cX10_refusedBy 43 = .ok (.getfield 42, 3) := by decide +kernel
theorem dX10_refusedBy_46 : decode cX10_refusedBy 46 = .ok (.iload 5, 2) := by decide +kernel
theorem dX10_refusedBy_48 : decode cX10_refusedBy 48 = .ok (.iconst 2, 1) := by decide +kernel
theorem dX10_refusedBy_49 : decode cX10_refusedBy 49 = .ok (.iadd, 1) := by decide +kernel
theorem dX10_refusedBy_50 : decode cX10_refusedBy 50 = .ok (.iaload, 1) := by decide +kernel
theorem dX10_refusedBy_51 : decode cX10_refusedBy 51 = .ok (.aload_n 0, 1) := by decide +kernel
theorem dX10_refusedBy_52 : decode cX10_refusedBy 52 = .ok (.getfield 42, 3) := by decide +kernel
theorem dX10_refusedBy_55 : decode cX10_refusedBy 55 = .ok (.iconst 0, 1) := by decide +kernel
theorem dX10_refusedBy_56 : decode cX10_refusedBy 56 = .ok (.aload_n 0, 1) := by decide +kernel
theorem dX10_refusedBy_57 : decode cX10_refusedBy 57 = .ok (.getfield 190, 3) := by decide +kernel
theorem dX10_refusedBy_60 : decode cX10_refusedBy 60 = .ok (.iload 4, 2) := by decide +kernel
theorem dX10_refusedBy_62 : decode cX10_refusedBy 62 = .ok (.invokestatic 217, 3) := by decide +kernel
theorem dX10_refusedBy_65 : decode cX10_refusedBy 65 = .ok (.if_icmp .gt 7, 3) := by decide +kernel
theorem dX10_refusedBy_68 : decode cX10_refusedBy 68 = .ok (.iconst 1, 1) := by decide +kernel
theorem dX10_refusedBy_69 : decode cX10_refusedBy 69 = .ok (.goto 4, 3) := by decide +kernel
theorem dX10_refusedBy_72 : decode cX10_refusedBy 72 = .ok (.iconst 0, 1) := by decide +kernel
theorem dX10_refusedBy_73 : decode cX10_refusedBy 73 = .ok (.istore_n 3, 1) := by decide +kernel
theorem dX10_refusedBy_74 : decode cX10_refusedBy 74 = .ok (.goto 71, 3) := by decide +kernel
theorem dX10_refusedBy_77 : decode cX10_refusedBy 77 = .ok (.iinc 1 1, 3) := by decide +kernel
theorem dX10_refusedBy_80 : decode cX10_refusedBy 80 = .ok (.iload_n 2, 1) := by decide +kernel
theorem dX10_refusedBy_81 : decode cX10_refusedBy 81 = .ok (.ifCond .eq 62, 3) := by decide +kernel
theorem dX10_refusedBy_84 : decode cX10_refusedBy 84 = .ok (.aload_n 0, 1) := by decide +kernel
theorem dX10_refusedBy_85 : decode cX10_refusedBy 85 = .ok (.getfield 42, 3) := by decide +kernel
theorem dX10_refusedBy_88 : decode cX10_refusedBy 88 = .ok (.iload 5, 2) := by decide +kernel
theorem dX10_refusedBy_90 : decode cX10_refusedBy 90 = .ok (.iconst 2, 1) := by decide +kernel
theorem dX10_refusedBy_91 : decode cX10_refusedBy 91 = .ok (.iadd, 1) := by decide +kernel
theorem dX10_refusedBy_92 : decode cX10_refusedBy 92 = .ok (.iaload, 1) := by decide +kernel
theorem dX10_refusedBy_93 : decode cX10_refusedBy 93 = .ok (.iconst 1, 1) := by decide +kernel
theorem dX10_refusedBy_94 : decode cX10_refusedBy 94 = .ok (.bipush 30, 2) := by decide +kernel
theorem dX10_refusedBy_96 : decode cX10_refusedBy 96 = .ok (.invokestatic 61, 3) := by decide +kernel
theorem dX10_refusedBy_99 : decode cX10_refusedBy 99 = .ok (.ifCond .eq 44, 3) := by decide +kernel
theorem dX10_refusedBy_102 : decode cX10_refusedBy 102 = .ok (.aload_n 0, 1) := by decide +kernel
theorem dX10_refusedBy_103 : decode cX10_refusedBy 103 = .ok (.getfield 42, 3) := by decide +kernel
theorem dX10_refusedBy_106 : decode cX10_refusedBy 106 = .ok (.iload 5, 2) := by decide +kernel
theorem dX10_refusedBy_108 : decode cX10_refusedBy 108 = .ok (.iconst 3, 1) := by decide +kernel
theorem dX10_refusedBy_109 : decode cX10_refusedBy 109 = .ok (.iadd, 1) := by decide +kernel
theorem dX10_refusedBy_110 : decode cX10_refusedBy 110 = .ok (.iaload, 1) := by decide +kernel
theorem dX10_refusedBy_111 : decode cX10_refusedBy 111 = .ok (.iconst 0, 1) := by decide +kernel
theorem dX10_refusedBy_112 : decode cX10_refusedBy 112 = .ok (.bipush 60, 2) := by decide +kernel
theorem dX10_refusedBy_114 : decode cX10_refusedBy 114 = .ok (.invokestatic 61, 3) := by decide +kernel
theorem dX10_refusedBy_117 : decode cX10_refusedBy 117 = .ok (.ifCond .eq 26, 3) := by decide +kernel
theorem dX10_refusedBy_120 : decode cX10_refusedBy 120 = .ok (.aload_n 0, 1) := by decide +kernel
theorem dX10_refusedBy_121 : decode cX10_refusedBy 121 = .ok (.getfield 42, 3) := by decide +kernel
theorem dX10_refusedBy_124 : decode cX10_refusedBy 124 = .ok (.iload 5, 2) := by decide +kernel
theorem dX10_refusedBy_126 : decode cX10_refusedBy 126 = .ok (.iconst 4, 1) := by decide +kernel
theorem dX10_refusedBy_127 : decode cX10_refusedBy 127 = .ok (.iadd, 1) := by decide +kernel
theorem dX10_refusedBy_128 : decode cX10_refusedBy 128 = .ok (.iaload, 1) := by decide +kernel
theorem dX10_refusedBy_129 : decode cX10_refusedBy 129 = .ok (.bipush 10, 2) := by decide +kernel
theorem dX10_refusedBy_131 : decode cX10_refusedBy 131 = .ok (.bipush 20, 2) := by decide +kernel
theorem dX10_refusedBy_133 : decode cX10_refusedBy 133 = .ok (.invokestatic 61, 3) := by decide +kernel
theorem dX10_refusedBy_136 : decode cX10_refusedBy 136 = .ok (.ifCond .eq 7, 3) := by decide +kernel
theorem dX10_refusedBy_139 : decode cX10_refusedBy 139 = .ok (.iconst 1, 1) := by decide +kernel
theorem dX10_refusedBy_140 : decode cX10_refusedBy 140 = .ok (.goto 4, 3) := by decide +kernel
theorem dX10_refusedBy_143 : decode cX10_refusedBy 143 = .ok (.iconst 0, 1) := by decide +kernel
theorem dX10_refusedBy_144 : decode cX10_refusedBy 144 = .ok (.istore_n 2, 1) := by decide +kernel
theorem dX10_refusedBy_145 : decode cX10_refusedBy 145 = .ok (.iinc 4 1, 3) := by decide +kernel
theorem dX10_refusedBy_148 : decode cX10_refusedBy 148 = .ok (.goto (-139), 3) := by decide +kernel
theorem dX10_refusedBy_151 : decode cX10_refusedBy 151 = .ok (.iload_n 2, 1) := by decide +kernel
theorem dX10_refusedBy_152 : decode cX10_refusedBy 152 = .ok (.ifCond .ne 7, 3) := by decide +kernel
theorem dX10_refusedBy_155 : decode cX10_refusedBy 155 = .ok (.iconst 3, 1) := by decide +kernel
theorem dX10_refusedBy_156 : decode cX10_refusedBy 156 = .ok (.goto 30, 3) := by decide +kernel
theorem dX10_refusedBy_159 : decode cX10_refusedBy 159 = .ok (.aload_n 0, 1) := by decide +kernel
theorem dX10_refusedBy_160 : decode cX10_refusedBy 160 = .ok (.getfield 190, 3) := by decide +kernel
theorem dX10_refusedBy_163 : decode cX10_refusedBy 163 = .ok (.bipush 8, 2) := by decide +kernel
theorem dX10_refusedBy_165 : decode cX10_refusedBy 165 = .ok (.if_icmp .gt 8, 3) := by decide +kernel
theorem dX10_refusedBy_168 : decode cX10_refusedBy 168 = .ok (.iload_n 1, 1) := by decide +kernel
theorem dX10_refusedBy_169 : decode cX10_refusedBy 169 = .ok (.iconst 4, 1) := by decide +kernel
theorem dX10_refusedBy_170 : decode cX10_refusedBy 170 = .ok (.if_icmp .le 7, 3) := by decide +kernel
theorem dX10_refusedBy_173 : decode cX10_refusedBy 173 = .ok (.iconst 4, 1) := by decide +kernel
theorem dX10_refusedBy_174 : decode cX10_refusedBy 174 = .ok (.goto 12, 3) := by decide +kernel
theorem dX10_refusedBy_177 : decode cX10_refusedBy 177 = .ok (.iload_n 3, 1) := by decide +kernel
theorem dX10_refusedBy_178 : decode cX10_refusedBy 178 = .ok (.ifCond .eq 7, 3) := by decide +kernel
theorem dX10_refusedBy_181 : decode cX10_refusedBy 181 = .ok (.iconst 0, 1) := by decide +kernel
theorem dX10_refusedBy_182 : decode cX10_refusedBy 182 = .ok (.goto 4, 3) := by decide +kernel
theorem dX10_refusedBy_185 : decode cX10_refusedBy 185 = .ok (.iconst 5, 1) := by decide +kernel
theorem dX10_refusedBy_186 : decode cX10_refusedBy 186 = .ok (.ireturn, 1) := by decide +kernel
theorem dX10_readProgram_0 : decode cX10_readProgram 0 = .ok (.aload_n 0, 1) := by decide +kernel
theorem dX10_readProgram_1 : decode cX10_readProgram 1 = .ok (.iconst 0, 1) := by decide +kernel
theorem dX10_readProgram_2 : decode cX10_readProgram 2 = .ok (.putfield 51, 3) := by decide +kernel
theorem dX10_readProgram_5 : decode cX10_readProgram 5 = .ok (.aload_n 0, 1) := by decide +kernel
theorem dX10_readProgram_6 : decode cX10_readProgram 6 = .ok (.invokevirtual 221, 3) := by decide +kernel
theorem dX10_readProgram_9 : decode cX10_readProgram 9 = .ok (.istore_n 1, 1) := by decide +kernel
theorem dX10_readProgram_10 : decode cX10_readProgram 10 = .ok (.aload_n 0, 1) := by decide +kernel
theorem dX10_readProgram_11 : decode cX10_readProgram 11 = .ok (.iload_n 1, 1) := by decide +kernel
theorem dX10_readProgram_12 : decode cX10_readProgram 12 = .ok (.ifCond .eq 7, 3) := by decide +kernel
theorem dX10_readProgram_15 : decode cX10_readProgram 15 = .ok (.iconst (-1), 1) := by decide +kernel
theorem dX10_readProgram_16 : decode cX10_readProgram 16 = .ok (.goto 7, 3) := by decide +kernel
theorem dX10_readProgram_19 : decode cX10_readProgram 19 = .ok (.aload_n 0, 1) := by decide +kernel
theorem dX10_readProgram_20 : decode cX10_readProgram 20 = .ok (.getfield 181, 3) := by decide +kernel
theorem dX10_readProgram_23 : decode cX10_readProgram 23 = .ok (.putfield 38, 3) := by decide +kernel
theorem dX10_readProgram_26 : decode cX10_readProgram 26 = .ok (.aload_n 0, 1) := by decide +kernel
theorem dX10_readProgram_27 : decode cX10_readProgram 27 = .ok (.iconst 0, 1) := by decide +kernel
theorem dX10_readProgram_28 : decode cX10_readProgram 28 = .ok (.putfield 178, 3) := by decide +kernel
theorem dX10_readProgram_31 : decode cX10_readProgram 31 = .ok (.iload_n 1, 1) := by decide +kernel
theorem dX10_readProgram_32 : decode cX10_readProgram 32 = .ok (.ifCond .ne 9, 3) := by decide +kernel
theorem dX10_readProgram_35 : decode cX10_readProgram 35 = .ok (.aload_n 0, 1) := by decide +kernel
theorem dX10_readProgram_36 : decode cX10_readProgram 36 = .ok (.iconst 1, 1) := by decide +kernel
theorem dX10_readProgram_37 : decode cX10_readProgram 37 = .ok (.invokevirtual 57, 3) := by decide +kernel
theorem dX10_readProgram_40 : decode cX10_readProgram 40 = .ok (.ireturn, 1) := by decide +kernel
theorem dX10_readProgram_41 : decode cX10_readProgram 41 = .ok (.aload_n 0, 1) := by decide +kernel
theorem dX10_readProgram_42 : decode cX10_readProgram 42 = .ok (.invokevirtual 224, 3) := by decide +kernel
theorem dX10_readProgram_45 : decode cX10_readProgram 45 = .ok (.istore_n 2, 1) := by decide +kernel
theorem dX10_readProgram_46 : decode cX10_readProgram 46 = .ok (.iload_n 2, 1) := by decide +kernel
theorem dX10_readProgram_47 : decode cX10_readProgram 47 = .ok (.ifCond .le 10, 3) := by decide +kernel
theorem dX10_readProgram_50 : decode cX10_readProgram 50 = .ok (.aload_n 0, 1) := by decide +kernel
theorem dX10_readProgram_51 : decode cX10_readProgram 51 = .ok (.iconst 2, 1) := by decide +kernel
theorem dX10_readProgram_52 : decode cX10_readProgram 52 = .ok (.iload_n 2, 1) := by decide +kernel
theorem dX10_readProgram_53 : decode cX10_readProgram 53 = .ok (.invokevirtual 133, 3) := by decide +kernel
theorem dX10_readProgram_56 : decode cX10_readProgram 56 = .ok (.ireturn, 1) := by decide +kernel
theorem dX10_readProgram_57 : decode cX10_readProgram 57 = .ok (.aload_n 0, 1) := by decide +kernel
theorem dX10_readProgram_58 : decode cX10_readProgram 58 = .ok (.invokevirtual 136, 3) := by decide +kernel
theorem dX10_readProgram_61 : decode cX10_readProgram 61 = .ok (.aload_n 0, 1) := by decide +kernel
theorem dX10_readProgram_62 : decode cX10_readProgram 62 = .ok (.getfield 7, 3) := by decide +kernel
theorem dX10_readProgram_65 : decode cX10_readProgram 65 = .ok (.iconst 3, 1) := by decide +kernel
theorem dX10_readProgram_66 : decode cX10_readProgram 66 = .ok (.aload_n 0, 1) := by decide +kernel
theorem dX10_readProgram_67 : decode cX10_readProgram 67 = .ok (.getfield 190, 3) := by decide +kernel
theorem dX10_readProgram_70 : decode cX10_readProgram 70 = .ok (.iastore, 1) := by decide +kernel
theorem dX10_readProgram_71 : decode cX10_readProgram 71 = .ok (.iconst 0, 1) := by decide +kernel
theorem dX10_readProgram_72 : decode cX10_readProgram 72 = .ok (.istore_n 3, 1) := by decide +kernel
theorem dX10_readProgram_73 : decode cX10_readProgram 73 = .ok (.iload_n 3, 1) := by decide +kernel
theorem dX10_readProgram_74 : decode cX10_readProgram 74 = .ok (.bipush 96, 2) := by decide +kernel
theorem dX10_readProgram_76 : decode cX10_readProgram 76 = .ok (.if_icmp .ge 39, 3) := by decide +kernel
theorem dX10_readProgram_79 : decode cX10_readProgram 79 = .ok (.aload_n 0, 1) := by decide +kernel
theorem dX10_readProgram_80 : decode cX10_readProgram 80 = .ok (.getfield 7, 3) := by decide +kernel
theorem dX10_readProgram_83 : decode cX10_readProgram 83 = .ok (.bipush 60, 2) := by decide +kernel
theorem dX10_readProgram_85 : decode cX10_readProgram 85 = .ok (.iload_n 3, 1) := by decide +kernel
theorem dX10_readProgram_86 : decode cX10_readProgram 86 = .ok (.iadd, 1) := by decide +kernel
theorem dX10_readProgram_87 : decode cX10_readProgram 87 = .ok (.iload_n 3, 1) := by decide +kernel
theorem dX10_readProgram_88 : decode cX10_readProgram 88 = .ok (.bipush 12, 2) := by decide +kernel
theorem dX10_readProgram_90 : decode cX10_readProgram 90 = .ok (.aload_n 0, 1) := by decide +kernel
theorem dX10_readProgram_91 : decode cX10_readProgram 91 = .ok (.getfield 190, 3) := by decide +kernel
theorem dX10_readProgram_94 : decode cX10_readProgram 94 = .ok (.imul, 1) := by decide +kernel
theorem dX10_readProgram_95 : decode cX10_readProgram 95 = .ok (.if_icmp .ge 12, 3) := by decide +kernel
theorem dX10_readProgram_98 : decode cX10_readProgram 98 = .ok (.aload_n 0, 1) := by decide +kernel
theorem dX10_readProgram_99 : decode cX10_readProgram 99 = .ok (.getfield 42, 3) := by decide +kernel
theorem dX10_readProgram_102 : decode cX10_readProgram 102 = .ok (.iload_n 3, 1) := by decide +kernel
theorem dX10_readProgram_103 : decode cX10_readProgram 103 = .ok (.iaload, 1) := by decide +kernel
theorem dX10_readProgram_104 : decode cX10_readProgram 104 = .ok (.goto 4, 3) := by decide +kernel
theorem dX10_readProgram_107 : decode cX10_readProgram 107 = .ok (.iconst 0, 1) := by decide +kernel
theorem dX10_readProgram_108 : decode cX10_readProgram 108 = .ok (.iastore, 1) := by decide +kernel
theorem dX10_readProgram_109 : decode cX10_readProgram 109 = .ok (.iinc 3 1, 3) := by decide +kernel
theorem dX10_readProgram_112 : decode cX10_readProgram 112 = .ok (.goto (-39), 3) := by decide +kernel
theorem dX10_readProgram_115 : decode cX10_readProgram 115 = .ok (.aload_n 0, 1) := by decide +kernel
theorem dX10_readProgram_116 : decode cX10_readProgram 116 = .ok (.getfield 190, 3) := by decide +kernel
theorem dX10_readProgram_119 : decode cX10_readProgram 119 = .ok (.ireturn, 1) := by decide +kernel
theorem dX10_faultPosition_0 : decode cX10_faultPosition 0 = .ok (.aload_n 0, 1) := by decide +kernel
theorem dX10_faultPosition_1 : decode cX10_faultPosition 1 = .ok (.iconst 0, 1) := by decide +kernel
theorem dX10_faultPosition_2 : decode cX10_faultPosition 2 = .ok (.putfield 51, 3) := by decide +kernel
theorem dX10_faultPosition_5 : decode cX10_faultPosition 5 = .ok (.aload_n 0, 1) := by decide +kernel
theorem dX10_faultPosition_6 : decode cX10_faultPosition 6 = .ok (.getfield 38, 3) := by decide +kernel
theorem dX10_faultPosition_9 : decode cX10_faultPosition 9 = .ok (.ireturn, 1) := by decide +kernel
theorem dX10_refusal_0 : decode cX10_refusal 0 = .ok (.aload_n 0, 1) := by decide +kernel
theorem dX10_refusal_1 : decode cX10_refusal 1 = .ok (.aload_n 0, 1) := by decide +kernel
theorem dX10_refusal_2 : decode cX10_refusal 2 = .ok (.getfield 54, 3) := by decide +kernel
theorem dX10_refusal_5 : decode cX10_refusal 5 = .ok (.ifCond .ne 7, 3) := by decide +kernel
theorem dX10_refusal_8 : decode cX10_refusal 8 = .ok (.iconst 1, 1) := by decide +kernel
theorem dX10_refusal_9 : decode cX10_refusal 9 = .ok (.goto 4, 3) := by decide +kernel
theorem dX10_refusal_12 : decode cX10_refusal 12 = .ok (.iconst 0, 1) := by decide +kernel
theorem dX10_refusal_13 : decode cX10_refusal 13 = .ok (.putfield 51, 3) := by decide +kernel
theorem dX10_refusal_16 : decode cX10_refusal 16 = .ok (.aload_n 0, 1) := by decide +kernel
theorem dX10_refusal_17 : decode cX10_refusal 17 = .ok (.getfield 54, 3) := by decide +kernel
theorem dX10_refusal_20 : decode cX10_refusal 20 = .ok (.ireturn, 1) := by decide +kernel
theorem dX10_block_0 : decode cX10_block 0 = .ok (.aload_n 0, 1) := by decide +kernel
theorem dX10_block_1 : decode cX10_block 1 = .ok (.aload_n 0, 1) := by decide +kernel
theorem dX10_block_2 : decode cX10_block 2 = .ok (.iload_n 1, 1) := by decide +kernel
theorem dX10_block_3 : decode cX10_block 3 = .ok (.invokevirtual 153, 3) := by decide +kernel
theorem dX10_block_6 : decode cX10_block 6 = .ok (.ifCond .eq 21, 3) := by decide +kernel
theorem dX10_block_9 : decode cX10_block 9 = .ok (.iload_n 2, 1) := by decide +kernel
theorem dX10_block_10 : decode cX10_block 10 = .ok (.iconst 0, 1) := by decide +kernel
theorem dX10_block_11 : decode cX10_block 11 = .ok (.bipush 7, 2) := by decide +kernel
theorem dX10_block_13 : decode cX10_block 13 = .ok (.invokestatic 61, 3) := by decide +kernel
theorem dX10_block_16 : decode cX10_block 16 = .ok (.ifCond .eq 7, 3) := by decide +kernel
theorem dX10_block_19 : decode cX10_block 19 = .ok (.iconst 0, 1) := by decide +kernel
theorem dX10_block_20 : decode cX10_block 20 = .ok (.goto 8, 3) := by decide +kernel
theorem dX10_block_23 : decode cX10_block 23 = .ok (.iconst 2, 1) := by decide +kernel
theorem dX10_block_24 : decode cX10_block 24 = .ok (.goto 4, 3) := by decide +kernel
theorem dX10_block_27 : decode cX10_block 27 = .ok (.iconst 1, 1) := by decide +kernel
theorem dX10_block_28 : decode cX10_block 28 = .ok (.putfield 51, 3) := by decide +kernel
theorem dX10_block_31 : decode cX10_block 31 = .ok (.aload_n 0, 1) := by decide +kernel
theorem dX10_block_32 : decode cX10_block 32 = .ok (.getfield 51, 3) := by decide +kernel
theorem dX10_block_35 : decode cX10_block 35 = .ok (.ifCond .le 5, 3) := by decide +kernel
theorem dX10_block_38 : decode cX10_block 38 = .ok (.iconst 0, 1) := by decide +kernel
theorem dX10_block_39 : decode cX10_block 39 = .ok (.ireturn, 1) := by decide +kernel
theorem dX10_block_40 : decode cX10_block 40 = .ok (.iload_n 2, 1) := by decide +kernel
theorem dX10_block_41 : decode cX10_block 41 = .ok (.tableswitch 99 0 7 #[47, 47, 58, 99, 99, 99, 99, 87], 47) := by decide +kernel
theorem dX10_block_88 : decode cX10_block 88 = .ok (.aload_n 0, 1) := by decide +kernel
theorem dX10_block_89 : decode cX10_block 89 = .ok (.getfield 7, 3) := by decide +kernel
theorem dX10_block_92 : decode cX10_block 92 = .ok (.iload_n 1, 1) := by decide +kernel
theorem dX10_block_93 : decode cX10_block 93 = .ok (.iload_n 2, 1) := by decide +kernel
theorem dX10_block_94 : decode cX10_block 94 = .ok (.invokestatic 65, 3) := by decide +kernel
theorem dX10_block_97 : decode cX10_block 97 = .ok (.iaload, 1) := by decide +kernel
theorem dX10_block_98 : decode cX10_block 98 = .ok (.ireturn, 1) := by decide +kernel
theorem dX10_block_99 : decode cX10_block 99 = .ok (.aload_n 0, 1) := by decide +kernel
theorem dX10_block_100 : decode cX10_block 100 = .ok (.iload_n 1, 1) := by decide +kernel
theorem dX10_block_101 : decode cX10_block 101 = .ok (.invokevirtual 86, 3) := by decide +kernel
theorem dX10_block_104 : decode cX10_block 104 = .ok (.ifCond .eq 22, 3) := by decide +kernel
theorem dX10_block_107 : decode cX10_block 107 = .ok (.aload_n 0, 1) := by decide +kernel
theorem dX10_block_108 : decode cX10_block 108 = .ok (.getfield 7, 3) := by decide +kernel
theorem dX10_block_111 : decode cX10_block 111 = .ok (.bipush 60, 2) := by decide +kernel
theorem dX10_block_113 : decode cX10_block 113 = .ok (.aload_n 0, 1) := by decide +kernel
theorem dX10_block_114 : decode cX10_block 114 = .ok (.getfield 7, 3) := by decide +kernel
theorem dX10_block_117 : decode cX10_block 117 = .ok (.iconst 3, 1) := by decide +kernel
theorem dX10_block_118 : decode cX10_block 118 = .ok (.iaload, 1) := by decide +kernel
theorem dX10_block_119 : decode cX10_block 119 = .ok (.iload_n 1, 1) := by decide +kernel
theorem dX10_block_120 : decode cX10_block 120 = .ok (.invokestatic 217, 3) := by decide +kernel
theorem dX10_block_123 : decode cX10_block 123 = .ok (.goto 4, 3) := by decide +kernel
theorem dX10_block_126 : decode cX10_block 126 = .ok (.iconst 0, 1) := by decide +kernel
theorem dX10_block_127 : decode cX10_block 127 = .ok (.ireturn, 1) := by decide +kernel
theorem dX10_block_128 : decode cX10_block 128 = .ok (.aload_n 0, 1) := by decide +kernel
theorem dX10_block_129 : decode cX10_block 129 = .ok (.getfield 7, 3) := by decide +kernel
theorem dX10_block_132 : decode cX10_block 132 = .ok (.iload_n 1, 1) := by decide +kernel
theorem dX10_block_133 : decode cX10_block 133 = .ok (.bipush 11, 2) := by decide +kernel
theorem dX10_block_135 : decode cX10_block 135 = .ok (.invokestatic 65, 3) := by decide +kernel
theorem dX10_block_138 : decode cX10_block 138 = .ok (.iaload, 1) := by decide +kernel
theorem dX10_block_139 : decode cX10_block 139 = .ok (.ireturn, 1) := by decide +kernel
theorem dX10_block_140 : decode cX10_block 140 = .ok (.aload_n 0, 1) := by decide +kernel
theorem dX10_block_141 : decode cX10_block 141 = .ok (.getfield 7, 3) := by decide +kernel
theorem dX10_block_144 : decode cX10_block 144 = .ok (.iload_n 1, 1) := by decide +kernel
theorem dX10_block_145 : decode cX10_block 145 = .ok (.iload_n 2, 1) := by decide +kernel
theorem dX10_block_146 : decode cX10_block 146 = .ok (.iconst 1, 1) := by decide +kernel
theorem dX10_block_147 : decode cX10_block 147 = .ok (.isub, 1) := by decide +kernel
theorem dX10_block_148 : decode cX10_block 148 = .ok (.invokestatic 65, 3) := by decide +kernel
theorem dX10_block_151 : decode cX10_block 151 = .ok (.iaload, 1) := by decide +kernel
theorem dX10_block_152 : decode cX10_block 152 = .ok (.ireturn, 1) := by decide +kernel
theorem dX10_part_0 : decode cX10_part 0 = .ok (.aload_n 0, 1) := by decide +kernel
theorem dX10_part_1 : decode cX10_part 1 = .ok (.aload_n 0, 1) := by decide +kernel
theorem dX10_part_2 : decode cX10_part 2 = .ok (.iload_n 1, 1) := by decide +kernel
theorem dX10_part_3 : decode cX10_part 3 = .ok (.invokevirtual 153, 3) := by decide +kernel
theorem dX10_part_6 : decode cX10_part 6 = .ok (.ifCond .eq 7, 3) := by decide +kernel
theorem dX10_part_9 : decode cX10_part 9 = .ok (.iconst 2, 1) := by decide +kernel
theorem dX10_part_10 : decode cX10_part 10 = .ok (.goto 4, 3) := by decide +kernel
theorem dX10_part_13 : decode cX10_part 13 = .ok (.iconst 1, 1) := by decide +kernel
theorem dX10_part_14 : decode cX10_part 14 = .ok (.putfield 51, 3) := by decide +kernel
theorem dX10_part_17 : decode cX10_part 17 = .ok (.aload_n 0, 1) := by decide +kernel
theorem dX10_part_18 : decode cX10_part 18 = .ok (.getfield 51, 3) := by decide +kernel
theorem dX10_part_21 : decode cX10_part 21 = .ok (.iconst 1, 1) := by decide +kernel
theorem dX10_part_22 : decode cX10_part 22 = .ok (.if_icmp .eq 7, 3) := by decide +kernel
theorem dX10_part_25 : decode cX10_part 25 = .ok (.iload_n 2, 1) := by decide +kernel
theorem dX10_part_26 : decode cX10_part 26 = .ok (.ifCond .ge 5, 3) := by decide +kernel
theorem dX10_part_29 : decode cX10_part 29 = .ok (.iconst 0, 1) := by decide +kernel
theorem dX10_part_30 : decode cX10_part 30 = .ok (.ireturn, 1) := by decide +kernel
theorem dX10_part_31 : decode cX10_part 31 = .ok (.iload_n 2, 1) := by decide +kernel
theorem dX10_part_32 : decode cX10_part 32 = .ok (.istore_n 3, 1) := by decide +kernel
theorem dX10_part_33 : decode cX10_part 33 = .ok (.iconst 0, 1) := by decide +kernel
theorem dX10_part_34 : decode cX10_part 34 = .ok (.istore 4, 2) := by decide +kernel
theorem dX10_part_36 : decode cX10_part 36 = .ok (.iload 4, 2) := by decide +kernel
theorem dX10_part_38 : decode cX10_part 38 = .ok (.aload_n 0, 1) := by decide +kernel
theorem dX10_part_39 : decode cX10_part 39 = .ok (.getfield 7, 3) := by decide +kernel
theorem dX10_part_42 : decode cX10_part 42 = .ok (.iconst 3, 1) := by decide +kernel
theorem dX10_part_43 : decode cX10_part 43 = .ok (.iaload, 1) := by decide +kernel
theorem dX10_part_44 : decode cX10_part 44 = .ok (.if_icmp .ge 39, 3) := by decide +kernel
theorem dX10_part_47 : decode cX10_part 47 = .ok (.aload_n 0, 1) := by decide +kernel
theorem dX10_part_48 : decode cX10_part 48 = .ok (.getfield 7, 3) := by decide +kernel
theorem dX10_part_51 : decode cX10_part 51 = .ok (.iload 4, 2) := by decide +kernel
theorem dX10_part_53 : decode cX10_part 53 = .ok (.iconst 1, 1) := by decide +kernel
theorem dX10_part_54 : decode cX10_part 54 = .ok (.invokestatic 65, 3) := by decide +kernel
theorem dX10_part_57 : decode cX10_part 57 = .ok (.iaload, 1) := by decide +kernel
theorem dX10_part_58 : decode cX10_part 58 = .ok (.iload_n 1, 1) := by decide +kernel
theorem dX10_part_59 : decode cX10_part 59 = .ok (.if_icmp .ne 18, 3) := by decide +kernel
theorem dX10_part_62 : decode cX10_part 62 = .ok (.iload_n 3, 1) := by decide +kernel
theorem dX10_part_63 : decode cX10_part 63 = .ok (.ifCond .ne 11, 3) := by decide +kernel
theorem dX10_part_66 : decode cX10_part 66 = .ok (.aload_n 0, 1) := by decide +kernel
theorem dX10_part_67 : decode cX10_part 67 = .ok (.iconst 0, 1) := by decide +kernel
theorem dX10_part_68 : decode cX10_part 68 = .ok (.putfield 51, 3) := by decide +kernel
theorem dX10_part_71 : decode cX10_part 71 = .ok (.iload 4, 2) := by decide +kernel
theorem dX10_part_73 : decode cX10_part 73 = .ok (.ireturn, 1) := by decide +kernel
theorem dX10_part_74 : decode cX10_part 74 = .ok (.iinc 3 (-1), 3) := by decide +kernel
theorem dX10_part_77 : decode cX10_part 77 = .ok (.iinc 4 1, 3) := by decide +kernel
theorem dX10_part_80 : decode cX10_part 80 = .ok (.goto (-44), 3) := by decide +kernel
theorem dX10_part_83 : decode cX10_part 83 = .ok (.iconst 0, 1) := by decide +kernel
theorem dX10_part_84 : decode cX10_part 84 = .ok (.ireturn, 1) := by decide +kernel
theorem dX10_letter_0 : decode cX10_letter 0 = .ok (.aload_n 0, 1) := by decide +kernel
theorem dX10_letter_1 : decode cX10_letter 1 = .ok (.aload_n 0, 1) := by decide +kernel
theorem dX10_letter_2 : decode cX10_letter 2 = .ok (.iload_n 1, 1) := by decide +kernel
theorem dX10_letter_3 : decode cX10_letter 3 = .ok (.invokevirtual 153, 3) := by decide +kernel
theorem dX10_letter_6 : decode cX10_letter 6 = .ok (.ifCond .eq 31, 3) := by decide +kernel
theorem dX10_letter_9 : decode cX10_letter 9 = .ok (.iload_n 2, 1) := by decide +kernel
theorem dX10_letter_10 : decode cX10_letter 10 = .ok (.iconst 0, 1) := by decide +kernel
theorem dX10_letter_11 : decode cX10_letter 11 = .ok (.aload_n 0, 1) := by decide +kernel
theorem dX10_letter_12 : decode cX10_letter 12 = .ok (.getfield 7, 3) := by decide +kernel
theorem dX10_letter_15 : decode cX10_letter 15 = .ok (.iload_n 1, 1) := by decide +kernel
theorem dX10_letter_16 : decode cX10_letter 16 = .ok (.iconst 5, 1) := by decide +kernel
theorem dX10_letter_17 : decode cX10_letter 17 = .ok (.invokestatic 65, 3) := by decide +kernel
theorem dX10_letter_20 : decode cX10_letter 20 = .ok (.iaload, 1) := by decide +kernel
theorem dX10_letter_21 : decode cX10_letter 21 = .ok (.iconst 1, 1) := by decide +kernel
theorem dX10_letter_22 : decode cX10_letter 22 = .ok (.isub, 1) := by decide +kernel
theorem dX10_letter_23 : decode cX10_letter 23 = .ok (.invokestatic 61, 3) := by decide +kernel
theorem dX10_letter_26 : decode cX10_letter 26 = .ok (.ifCond .eq 7, 3) := by decide +kernel
theorem dX10_letter_29 : decode cX10_letter 29 = .ok (.iconst 0, 1) := by decide +kernel
theorem dX10_letter_30 : decode cX10_letter 30 = .ok (.goto 8, 3) := by decide +kernel
theorem dX10_letter_33 : decode cX10_letter 33 = .ok (.iconst 2, 1) := by decide +kernel
theorem dX10_letter_34 : decode cX10_letter 34 = .ok (.goto 4, 3) := by decide +kernel
theorem dX10_letter_37 : decode cX10_letter 37 = .ok (.iconst 1, 1) := by decide +kernel
theorem dX10_letter_38 : decode cX10_letter 38 = .ok (.putfield 51, 3) := by decide +kernel
theorem dX10_letter_41 : decode cX10_letter 41 = .ok (.aload_n 0, 1) := by decide +kernel
theorem dX10_letter_42 : decode cX10_letter 42 = .ok (.getfield 51, 3) := by decide +kernel
theorem dX10_letter_45 : decode cX10_letter 45 = .ok (.ifCond .le 8, 3) := by decide +kernel
theorem dX10_letter_48 : decode cX10_letter 48 = .ok (.bipush 97, 2) := by decide +kernel
theorem dX10_letter_50 : decode cX10_letter 50 = .ok (.goto 16, 3) := by decide +kernel
theorem dX10_letter_53 : decode cX10_letter 53 = .ok (.aload_n 0, 1) := by decide +kernel
theorem dX10_letter_54 : decode cX10_letter 54 = .ok (.getfield 7, 3) := by decide +kernel
theorem dX10_letter_57 : decode cX10_letter 57 = .ok (.iload_n 1, 1) := by decide +kernel
theorem dX10_letter_58 : decode cX10_letter 58 = .ok (.bipush 6, 2) := by decide +kernel
theorem dX10_letter_60 : decode cX10_letter 60 = .ok (.iload_n 2, 1) := by decide +kernel
theorem dX10_letter_61 : decode cX10_letter 61 = .ok (.iadd, 1) := by decide +kernel
theorem dX10_letter_62 : decode cX10_letter 62 = .ok (.invokestatic 65, 3) := by decide +kernel
theorem dX10_letter_65 : decode cX10_letter 65 = .ok (.iaload, 1) := by decide +kernel
theorem dX10_letter_66 : decode cX10_letter 66 = .ok (.i2c, 1) := by decide +kernel
theorem dX10_letter_67 : decode cX10_letter 67 = .ok (.ireturn, 1) := by decide +kernel
theorem dX10_accepts_0 : decode cX10_accepts 0 = .ok (.aload_n 0, 1) := by decide +kernel
theorem dX10_accepts_1 : decode cX10_accepts 1 = .ok (.aload_n 0, 1) := by decide +kernel
theorem dX10_accepts_2 : decode cX10_accepts 2 = .ok (.iload_n 1, 1) := by decide +kernel
theorem dX10_accepts_3 : decode cX10_accepts 3 = .ok (.invokevirtual 153, 3) := by decide +kernel
theorem dX10_accepts_6 : decode cX10_accepts 6 = .ok (.ifCond .eq 15, 3) := by decide +kernel
theorem dX10_accepts_9 : decode cX10_accepts 9 = .ok (.aload_n 0, 1) := by decide +kernel
theorem dX10_accepts_10 : decode cX10_accepts 10 = .ok (.iload_n 2, 1) := by decide +kernel
theorem dX10_accepts_11 : decode cX10_accepts 11 = .ok (.invokevirtual 143, 3) := by decide +kernel
theorem dX10_accepts_14 : decode cX10_accepts 14 = .ok (.ifCond .eq 7, 3) := by decide +kernel
theorem dX10_accepts_17 : decode cX10_accepts 17 = .ok (.iconst 0, 1) := by decide +kernel
theorem dX10_accepts_18 : decode cX10_accepts 18 = .ok (.goto 4, 3) := by decide +kernel
theorem dX10_accepts_21 : decode cX10_accepts 21 = .ok (.iconst 1, 1) := by decide +kernel
theorem dX10_accepts_22 : decode cX10_accepts 22 = .ok (.putfield 51, 3) := by decide +kernel
theorem dX10_accepts_25 : decode cX10_accepts 25 = .ok (.aload_n 0, 1) := by decide +kernel
theorem dX10_accepts_26 : decode cX10_accepts 26 = .ok (.getfield 51, 3) := by decide +kernel
theorem dX10_accepts_29 : decode cX10_accepts 29 = .ok (.ifCond .ne 16, 3) := by decide +kernel
theorem dX10_accepts_32 : decode cX10_accepts 32 = .ok (.aload_n 0, 1) := by decide +kernel
theorem dX10_accepts_33 : decode cX10_accepts 33 = .ok (.iload_n 1, 1) := by decide +kernel
theorem dX10_accepts_34 : decode cX10_accepts 34 = .ok (.iload_n 2, 1) := by decide +kernel
theorem dX10_accepts_35 : decode cX10_accepts 35 = .ok (.invokevirtual 106, 3) := by decide +kernel
theorem dX10_accepts_38 : decode cX10_accepts 38 = .ok (.ifCond .eq 7, 3) := by decide +kernel
theorem dX10_accepts_41 : decode cX10_accepts 41 = .ok (.iconst 1, 1) := by decide +kernel
theorem dX10_accepts_42 : decode cX10_accepts 42 = .ok (.goto 4, 3) := by decide +kernel
theorem dX10_accepts_45 : decode cX10_accepts 45 = .ok (.iconst 0, 1) := by decide +kernel
theorem dX10_accepts_46 : decode cX10_accepts 46 = .ok (.ireturn, 1) := by decide +kernel
theorem dX10_isMet_0 : decode cX10_isMet 0 = .ok (.aload_n 0, 1) := by decide +kernel
theorem dX10_isMet_1 : decode cX10_isMet 1 = .ok (.invokevirtual 150, 3) := by decide +kernel
theorem dX10_isMet_4 : decode cX10_isMet 4 = .ok (.aload_n 0, 1) := by decide +kernel
theorem dX10_isMet_5 : decode cX10_isMet 5 = .ok (.aload_n 0, 1) := by decide +kernel
theorem dX10_isMet_6 : decode cX10_isMet 6 = .ok (.iload_n 1, 1) := by decide +kernel
theorem dX10_isMet_7 : decode cX10_isMet 7 = .ok (.invokevirtual 153, 3) := by decide +kernel
theorem dX10_isMet_10 : decode cX10_isMet 10 = .ok (.ifCond .eq 7, 3) := by decide +kernel
theorem dX10_isMet_13 : decode cX10_isMet 13 = .ok (.iconst 0, 1) := by decide +kernel
theorem dX10_isMet_14 : decode cX10_isMet 14 = .ok (.goto 4, 3) := by decide +kernel
theorem dX10_isMet_17 : decode cX10_isMet 17 = .ok (.iconst 1, 1) := by decide +kernel
theorem dX10_isMet_18 : decode cX10_isMet 18 = .ok (.putfield 51, 3) := by decide +kernel
theorem dX10_isMet_21 : decode cX10_isMet 21 = .ok (.aload_n 0, 1) := by decide +kernel
theorem dX10_isMet_22 : decode cX10_isMet 22 = .ok (.getfield 51, 3) := by decide +kernel
theorem dX10_isMet_25 : decode cX10_isMet 25 = .ok (.ifCond .ne 16, 3) := by decide +kernel
theorem dX10_isMet_28 : decode cX10_isMet 28 = .ok (.aload_n 0, 1) := by decide +kernel
theorem dX10_isMet_29 : decode cX10_isMet 29 = .ok (.getfield 31, 3) := by decide +kernel
theorem dX10_isMet_32 : decode cX10_isMet 32 = .ok (.iload_n 1, 1) := by decide +kernel
theorem dX10_isMet_33 : decode cX10_isMet 33 = .ok (.baload, 1) := by decide +kernel
theorem dX10_isMet_34 : decode cX10_isMet 34 = .ok (.ifCond .eq 7, 3) := by decide +kernel
theorem dX10_isMet_37 : decode cX10_isMet 37 = .ok (.iconst 1, 1) := by decide +kernel
theorem dX10_isMet_38 : decode cX10_isMet 38 = .ok (.goto 4, 3) := by decide +kernel
theorem dX10_isMet_41 : decode cX10_isMet 41 = .ok (.iconst 0, 1) := by decide +kernel
theorem dX10_isMet_42 : decode cX10_isMet 42 = .ok (.ireturn, 1) := by decide +kernel
