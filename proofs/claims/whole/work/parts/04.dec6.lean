theorem dX12_setOf_132 : decode cX12_setOf 132 = .ok (.iinc 8 1, 3) := by decide +kernel
theorem dX12_setOf_135 : decode cX12_setOf 135 = .ok (.goto (-68), 3) := by decide +kernel
theorem dX12_setOf_138 : decode cX12_setOf 138 = .ok (.iinc 7 1, 3) := by decide +kernel
theorem dX12_setOf_141 : decode cX12_setOf 141 = .ok (.goto (-83), 3) := by decide +kernel
theorem dX12_setOf_144 : decode cX12_setOf 144 = .ok (.lload 5, 2) := by decide +kernel
theorem dX12_setOf_146 : decode cX12_setOf 146 = .ok (.lreturn, 1) := by decide +kernel
theorem dX12_set_0 : decode cX12_set 0 = .ok (.aload_n 0, 1) := by decide +kernel
theorem dX12_set_1 : decode cX12_set 1 = .ok (.aload_n 0, 1) := by decide +kernel
theorem dX12_set_2 : decode cX12_set 2 = .ok (.iload_n 1, 1) := by decide +kernel
theorem dX12_set_3 : decode cX12_set 3 = .ok (.iload_n 2, 1) := by decide +kernel
theorem dX12_set_4 : decode cX12_set 4 = .ok (.invokevirtual 260, 3) := by decide +kernel
theorem dX12_set_7 : decode cX12_set 7 = .ok (.putfield 67, 3) := by decide +kernel
theorem dX12_set_10 : decode cX12_set 10 = .ok (.aload_n 0, 1) := by decide +kernel
theorem dX12_set_11 : decode cX12_set 11 = .ok (.getfield 67, 3) := by decide +kernel
theorem dX12_set_14 : decode cX12_set 14 = .ok (.ifCond .le 5, 3) := by decide +kernel
theorem dX12_set_17 : decode cX12_set 17 = .ok (.iconst 0, 1) := by decide +kernel
theorem dX12_set_18 : decode cX12_set 18 = .ok (.ireturn, 1) := by decide +kernel
theorem dX12_set_19 : decode cX12_set 19 = .ok (.aload_n 0, 1) := by decide +kernel
theorem dX12_set_20 : decode cX12_set 20 = .ok (.invokevirtual 263, 3) := by decide +kernel
theorem dX12_set_23 : decode cX12_set 23 = .ok (.iconst 0, 1) := by decide +kernel
theorem dX12_set_24 : decode cX12_set 24 = .ok (.istore_n 3, 1) := by decide +kernel
theorem dX12_set_25 : decode cX12_set 25 = .ok (.iload_n 3, 1) := by decide +kernel
theorem dX12_set_26 : decode cX12_set 26 = .ok (.iconst 2, 1) := by decide +kernel
theorem dX12_set_27 : decode cX12_set 27 = .ok (.if_icmp .ge 104, 3) := by decide +kernel
theorem dX12_set_30 : decode cX12_set 30 = .ok (.iconst 0, 1) := by decide +kernel
theorem dX12_set_31 : decode cX12_set 31 = .ok (.istore 4, 2) := by decide +kernel
theorem dX12_set_33 : decode cX12_set 33 = .ok (.iload 4, 2) := by decide +kernel
theorem dX12_set_35 : decode cX12_set 35 = .ok (.iconst 2, 1) := by decide +kernel
theorem dX12_set_36 : decode cX12_set 36 = .ok (.if_icmp .ge 89, 3) := by decide +kernel
theorem dX12_set_39 : decode cX12_set 39 = .ok (.aload_n 0, 1) := by decide +kernel
theorem dX12_set_40 : decode cX12_set 40 = .ok (.iload_n 3, 1) := by decide +kernel
theorem dX12_set_41 : decode cX12_set 41 = .ok (.iload 4, 2) := by decide +kernel
theorem dX12_set_43 : decode cX12_set 43 = .ok (.iload_n 2, 1) := by decide +kernel
theorem dX12_set_44 : decode cX12_set 44 = .ok (.aload_n 0, 1) := by decide +kernel
theorem dX12_set_45 : decode cX12_set 45 = .ok (.getfield 35, 3) := by decide +kernel
theorem dX12_set_48 : decode cX12_set 48 = .ok (.aload_n 0, 1) := by decide +kernel
theorem dX12_set_49 : decode cX12_set 49 = .ok (.getfield 38, 3) := by decide +kernel
theorem dX12_set_52 : decode cX12_set 52 = .ok (.invokevirtual 266, 3) := by decide +kernel
theorem dX12_set_55 : decode cX12_set 55 = .ok (.aload_n 0, 1) := by decide +kernel
theorem dX12_set_56 : decode cX12_set 56 = .ok (.getfield 51, 3) := by decide +kernel
theorem dX12_set_59 : decode cX12_set 59 = .ok (.iconst 2, 1) := by decide +kernel
theorem dX12_set_60 : decode cX12_set 60 = .ok (.iload_n 3, 1) := by decide +kernel
theorem dX12_set_61 : decode cX12_set 61 = .ok (.imul, 1) := by decide +kernel
theorem dX12_set_62 : decode cX12_set 62 = .ok (.iload 4, 2) := by decide +kernel
theorem dX12_set_64 : decode cX12_set 64 = .ok (.iadd, 1) := by decide +kernel
theorem dX12_set_65 : decode cX12_set 65 = .ok (.aload_n 0, 1) := by decide +kernel
theorem dX12_set_66 : decode cX12_set 66 = .ok (.getfield 35, 3) := by decide +kernel
theorem dX12_set_69 : decode cX12_set 69 = .ok (.aload_n 0, 1) := by decide +kernel
theorem dX12_set_70 : decode cX12_set 70 = .ok (.invokevirtual 270, 3) := by decide +kernel
theorem dX12_set_73 : decode cX12_set 73 = .ok (.iaload, 1) := by decide +kernel
theorem dX12_set_74 : decode cX12_set 74 = .ok (.i2l, 1) := by decide +kernel
theorem dX12_set_75 : decode cX12_set 75 = .ok (.lastore, 1) := by decide +kernel
theorem dX12_set_76 : decode cX12_set 76 = .ok (.iconst 0, 1) := by decide +kernel
theorem dX12_set_77 : decode cX12_set 77 = .ok (.istore 5, 2) := by decide +kernel
theorem dX12_set_79 : decode cX12_set 79 = .ok (.iload 5, 2) := by decide +kernel
theorem dX12_set_81 : decode cX12_set 81 = .ok (.iconst 2, 1) := by decide +kernel
theorem dX12_set_82 : decode cX12_set 82 = .ok (.if_icmp .ge 37, 3) := by decide +kernel
theorem dX12_set_85 : decode cX12_set 85 = .ok (.aload_n 0, 1) := by decide +kernel
theorem dX12_set_86 : decode cX12_set 86 = .ok (.getfield 47, 3) := by decide +kernel
theorem dX12_set_89 : decode cX12_set 89 = .ok (.iconst 4, 1) := by decide +kernel
theorem dX12_set_90 : decode cX12_set 90 = .ok (.iload 5, 2) := by decide +kernel
theorem dX12_set_92 : decode cX12_set 92 = .ok (.imul, 1) := by decide +kernel
theorem dX12_set_93 : decode cX12_set 93 = .ok (.iconst 2, 1) := by decide +kernel
theorem dX12_set_94 : decode cX12_set 94 = .ok (.iload_n 3, 1) := by decide +kernel
theorem dX12_set_95 : decode cX12_set 95 = .ok (.imul, 1) := by decide +kernel
theorem dX12_set_96 : decode cX12_set 96 = .ok (.iadd, 1) := by decide +kernel
theorem dX12_set_97 : decode cX12_set 97 = .ok (.iload 4, 2) := by decide +kernel
theorem dX12_set_99 : decode cX12_set 99 = .ok (.iadd, 1) := by decide +kernel
theorem dX12_set_100 : decode cX12_set 100 = .ok (.aload_n 0, 1) := by decide +kernel
theorem dX12_set_101 : decode cX12_set 101 = .ok (.getfield 35, 3) := by decide +kernel
theorem dX12_set_104 : decode cX12_set 104 = .ok (.aload_n 0, 1) := by decide +kernel
theorem dX12_set_105 : decode cX12_set 105 = .ok (.iload 5, 2) := by decide +kernel
theorem dX12_set_107 : decode cX12_set 107 = .ok (.invokevirtual 279, 3) := by decide +kernel
theorem dX12_set_110 : decode cX12_set 110 = .ok (.iaload, 1) := by decide +kernel
theorem dX12_set_111 : decode cX12_set 111 = .ok (.i2l, 1) := by decide +kernel
theorem dX12_set_112 : decode cX12_set 112 = .ok (.lastore, 1) := by decide +kernel
theorem dX12_set_113 : decode cX12_set 113 = .ok (.iinc 5 1, 3) := by decide +kernel
theorem dX12_set_116 : decode cX12_set 116 = .ok (.goto (-37), 3) := by decide +kernel
theorem dX12_set_119 : decode cX12_set 119 = .ok (.iinc 4 1, 3) := by decide +kernel
theorem dX12_set_122 : decode cX12_set 122 = .ok (.goto (-89), 3) := by decide +kernel
theorem dX12_set_125 : decode cX12_set 125 = .ok (.iinc 3 1, 3) := by decide +kernel
theorem dX12_set_128 : decode cX12_set 128 = .ok (.goto (-103), 3) := by decide +kernel
theorem dX12_set_131 : decode cX12_set 131 = .ok (.aload_n 0, 1) := by decide +kernel
theorem dX12_set_132 : decode cX12_set 132 = .ok (.getfield 7, 3) := by decide +kernel
theorem dX12_set_135 : decode cX12_set 135 = .ok (.sipush 208, 3) := by decide +kernel
theorem dX12_set_138 : decode cX12_set 138 = .ok (.iaload, 1) := by decide +kernel
theorem dX12_set_139 : decode cX12_set 139 = .ok (.istore_n 3, 1) := by decide +kernel
theorem dX12_set_140 : decode cX12_set 140 = .ok (.aload_n 0, 1) := by decide +kernel
theorem dX12_set_141 : decode cX12_set 141 = .ok (.getfield 7, 3) := by decide +kernel
theorem dX12_set_144 : decode cX12_set 144 = .ok (.sipush 209, 3) := by decide +kernel
theorem dX12_set_147 : decode cX12_set 147 = .ok (.iaload, 1) := by decide +kernel
theorem dX12_set_148 : decode cX12_set 148 = .ok (.istore 4, 2) := by decide +kernel
theorem dX12_set_150 : decode cX12_set 150 = .ok (.lconst 0, 1) := by decide +kernel
theorem dX12_set_151 : decode cX12_set 151 = .ok (.lstore 5, 2) := by decide +kernel
theorem dX12_set_153 : decode cX12_set 153 = .ok (.iconst 0, 1) := by decide +kernel
theorem dX12_set_154 : decode cX12_set 154 = .ok (.istore 7, 2) := by decide +kernel
theorem dX12_set_156 : decode cX12_set 156 = .ok (.iload 7, 2) := by decide +kernel
theorem dX12_set_158 : decode cX12_set 158 = .ok (.iconst 2, 1) := by decide +kernel
theorem dX12_set_159 : decode cX12_set 159 = .ok (.if_icmp .ge 80, 3) := by decide +kernel
theorem dX12_set_162 : decode cX12_set 162 = .ok (.iconst 0, 1) := by decide +kernel
theorem dX12_set_163 : decode cX12_set 163 = .ok (.istore 8, 2) := by decide +kernel
theorem dX12_set_165 : decode cX12_set 165 = .ok (.iload 8, 2) := by decide +kernel
theorem dX12_set_167 : decode cX12_set 167 = .ok (.iconst 2, 1) := by decide +kernel
theorem dX12_set_168 : decode cX12_set 168 = .ok (.if_icmp .ge 65, 3) := by decide +kernel
theorem dX12_set_171 : decode cX12_set 171 = .ok (.lload 5, 2) := by decide +kernel
theorem dX12_set_173 : decode cX12_set 173 = .ok (.aload_n 0, 1) := by decide +kernel
theorem dX12_set_174 : decode cX12_set 174 = .ok (.getfield 51, 3) := by decide +kernel
theorem dX12_set_177 : decode cX12_set 177 = .ok (.iconst 2, 1) := by decide +kernel
theorem dX12_set_178 : decode cX12_set 178 = .ok (.iload 7, 2) := by decide +kernel
theorem dX12_set_180 : decode cX12_set 180 = .ok (.imul, 1) := by decide +kernel
theorem dX12_set_181 : decode cX12_set 181 = .ok (.iload 8, 2) := by decide +kernel
theorem dX12_set_183 : decode cX12_set 183 = .ok (.iadd, 1) := by decide +kernel
theorem dX12_set_184 : decode cX12_set 184 = .ok (.laload, 1) := by decide +kernel
theorem dX12_set_185 : decode cX12_set 185 = .ok (.aload_n 0, 1) := by decide +kernel
theorem dX12_set_186 : decode cX12_set 186 = .ok (.iload_n 1, 1) := by decide +kernel
theorem dX12_set_187 : decode cX12_set 187 = .ok (.iload 7, 2) := by decide +kernel
theorem dX12_set_189 : decode cX12_set 189 = .ok (.ifCond .ne 9, 3) := by decide +kernel
theorem dX12_set_192 : decode cX12_set 192 = .ok (.iload_n 3, 1) := by decide +kernel
theorem dX12_set_193 : decode cX12_set 193 = .ok (.iconst 1, 1) := by decide +kernel
theorem dX12_set_194 : decode cX12_set 194 = .ok (.iadd, 1) := by decide +kernel
theorem dX12_set_195 : decode cX12_set 195 = .ok (.goto 4, 3) := by decide +kernel
theorem dX12_set_198 : decode cX12_set 198 = .ok (.iload_n 3, 1) := by decide +kernel
theorem dX12_set_199 : decode cX12_set 199 = .ok (.iload 7, 2) := by decide +kernel
theorem dX12_set_201 : decode cX12_set 201 = .ok (.iconst 1, 1) := by decide +kernel
theorem dX12_set_202 : decode cX12_set 202 = .ok (.if_icmp .ne 10, 3) := by decide +kernel
theorem dX12_set_205 : decode cX12_set 205 = .ok (.iload 4, 2) := by decide +kernel
theorem dX12_set_207 : decode cX12_set 207 = .ok (.iconst 1, 1) := by decide +kernel
theorem dX12_set_208 : decode cX12_set 208 = .ok (.iadd, 1) := by decide +kernel
theorem dX12_set_209 : decode cX12_set 209 = .ok (.goto 5, 3) := by decide +kernel
theorem dX12_set_212 : decode cX12_set 212 = .ok (.iload 4, 2) := by decide +kernel
theorem dX12_set_214 : decode cX12_set 214 = .ok (.iload 8, 2) := by decide +kernel
theorem dX12_set_216 : decode cX12_set 216 = .ok (.invokevirtual 275, 3) := by decide +kernel
theorem dX12_set_219 : decode cX12_set 219 = .ok (.lmul, 1) := by decide +kernel
theorem dX12_set_220 : decode cX12_set 220 = .ok (.ldc2_w 245, 3) := by decide +kernel
theorem dX12_set_223 : decode cX12_set 223 = .ok (.ldiv, 1) := by decide +kernel
theorem dX12_set_224 : decode cX12_set 224 = .ok (.ladd, 1) := by decide +kernel
theorem dX12_set_225 : decode cX12_set 225 = .ok (.lstore 5, 2) := by decide +kernel
theorem dX12_set_227 : decode cX12_set 227 = .ok (.iinc 8 1, 3) := by decide +kernel
theorem dX12_set_230 : decode cX12_set 230 = .ok (.goto (-65), 3) := by decide +kernel
theorem dX12_set_233 : decode cX12_set 233 = .ok (.iinc 7 1, 3) := by decide +kernel
theorem dX12_set_236 : decode cX12_set 236 = .ok (.goto (-80), 3) := by decide +kernel
theorem dX12_set_239 : decode cX12_set 239 = .ok (.lload 5, 2) := by decide +kernel
theorem dX12_set_241 : decode cX12_set 241 = .ok (.l2i, 1) := by decide +kernel
theorem dX12_set_242 : decode cX12_set 242 = .ok (.ireturn, 1) := by decide +kernel
theorem dX12_ways_0 : decode cX12_ways 0 = .ok (.aload_n 0, 1) := by decide +kernel
theorem dX12_ways_1 : decode cX12_ways 1 = .ok (.iload_n 1, 1) := by decide +kernel
theorem dX12_ways_2 : decode cX12_ways 2 = .ok (.invokestatic 197, 3) := by decide +kernel
theorem dX12_ways_5 : decode cX12_ways 5 = .ok (.ifCond .eq 17, 3) := by decide +kernel
theorem dX12_ways_8 : decode cX12_ways 8 = .ok (.iload_n 2, 1) := by decide +kernel
theorem dX12_ways_9 : decode cX12_ways 9 = .ok (.invokestatic 197, 3) := by decide +kernel
theorem dX12_ways_12 : decode cX12_ways 12 = .ok (.ifCond .eq 10, 3) := by decide +kernel
theorem dX12_ways_15 : decode cX12_ways 15 = .ok (.iload_n 3, 1) := by decide +kernel
theorem dX12_ways_16 : decode cX12_ways 16 = .ok (.invokestatic 197, 3) := by decide +kernel
theorem dX12_ways_19 : decode cX12_ways 19 = .ok (.ifCond .ne 7, 3) := by decide +kernel
theorem dX12_ways_22 : decode cX12_ways 22 = .ok (.iconst 1, 1) := by decide +kernel
theorem dX12_ways_23 : decode cX12_ways 23 = .ok (.goto 19, 3) := by decide +kernel
theorem dX12_ways_26 : decode cX12_ways 26 = .ok (.iload 4, 2) := by decide +kernel
theorem dX12_ways_28 : decode cX12_ways 28 = .ok (.iconst 0, 1) := by decide +kernel
theorem dX12_ways_29 : decode cX12_ways 29 = .ok (.bipush 30, 2) := by decide +kernel
theorem dX12_ways_31 : decode cX12_ways 31 = .ok (.invokestatic 70, 3) := by decide +kernel
theorem dX12_ways_34 : decode cX12_ways 34 = .ok (.ifCond .ne 7, 3) := by decide +kernel
theorem dX12_ways_37 : decode cX12_ways 37 = .ok (.iconst 2, 1) := by decide +kernel
theorem dX12_ways_38 : decode cX12_ways 38 = .ok (.goto 4, 3) := by decide +kernel
theorem dX12_ways_41 : decode cX12_ways 41 = .ok (.iconst 0, 1) := by decide +kernel
theorem dX12_ways_42 : decode cX12_ways 42 = .ok (.putfield 67, 3) := by decide +kernel
theorem dX12_ways_45 : decode cX12_ways 45 = .ok (.aload_n 0, 1) := by decide +kernel
theorem dX12_ways_46 : decode cX12_ways 46 = .ok (.getfield 67, 3) := by decide +kernel
theorem dX12_ways_49 : decode cX12_ways 49 = .ok (.ifCond .le 5, 3) := by decide +kernel
theorem dX12_ways_52 : decode cX12_ways 52 = .ok (.iconst 0, 1) := by decide +kernel
theorem dX12_ways_53 : decode cX12_ways 53 = .ok (.ireturn, 1) := by decide +kernel
theorem dX12_ways_54 : decode cX12_ways 54 = .ok (.aload_n 0, 1) := by decide +kernel
theorem dX12_ways_55 : decode cX12_ways 55 = .ok (.invokevirtual 263, 3) := by decide +kernel
theorem dX12_ways_58 : decode cX12_ways 58 = .ok (.aload_n 0, 1) := by decide +kernel
theorem dX12_ways_59 : decode cX12_ways 59 = .ok (.iload_n 2, 1) := by decide +kernel
theorem dX12_ways_60 : decode cX12_ways 60 = .ok (.iload_n 3, 1) := by decide +kernel
theorem dX12_ways_61 : decode cX12_ways 61 = .ok (.iload 4, 2) := by decide +kernel
theorem dX12_ways_63 : decode cX12_ways 63 = .ok (.aload_n 0, 1) := by decide +kernel
theorem dX12_ways_64 : decode cX12_ways 64 = .ok (.getfield 35, 3) := by decide +kernel
theorem dX12_ways_67 : decode cX12_ways 67 = .ok (.aload_n 0, 1) := by decide +kernel
theorem dX12_ways_68 : decode cX12_ways 68 = .ok (.getfield 38, 3) := by decide +kernel
theorem dX12_ways_71 : decode cX12_ways 71 = .ok (.invokevirtual 266, 3) := by decide +kernel
theorem dX12_ways_74 : decode cX12_ways 74 = .ok (.aload_n 0, 1) := by decide +kernel
theorem dX12_ways_75 : decode cX12_ways 75 = .ok (.getfield 35, 3) := by decide +kernel
theorem dX12_ways_78 : decode cX12_ways 78 = .ok (.aload_n 0, 1) := by decide +kernel
theorem dX12_ways_79 : decode cX12_ways 79 = .ok (.iload_n 1, 1) := by decide +kernel
theorem dX12_ways_80 : decode cX12_ways 80 = .ok (.invokevirtual 279, 3) := by decide +kernel
theorem dX12_ways_83 : decode cX12_ways 83 = .ok (.iaload, 1) := by decide +kernel
theorem dX12_ways_84 : decode cX12_ways 84 = .ok (.ireturn, 1) := by decide +kernel
theorem dX12_even_0 : decode cX12_even 0 = .ok (.aload_n 0, 1) := by decide +kernel
theorem dX12_even_1 : decode cX12_even 1 = .ok (.iload_n 1, 1) := by decide +kernel
theorem dX12_even_2 : decode cX12_even 2 = .ok (.iconst 0, 1) := by decide +kernel
theorem dX12_even_3 : decode cX12_even 3 = .ok (.bipush 30, 2) := by decide +kernel
theorem dX12_even_5 : decode cX12_even 5 = .ok (.invokestatic 70, 3) := by decide +kernel
theorem dX12_even_8 : decode cX12_even 8 = .ok (.ifCond .eq 14, 3) := by decide +kernel
theorem dX12_even_11 : decode cX12_even 11 = .ok (.iload_n 2, 1) := by decide +kernel
theorem dX12_even_12 : decode cX12_even 12 = .ok (.iconst 0, 1) := by decide +kernel
theorem dX12_even_13 : decode cX12_even 13 = .ok (.ldc_w 282, 3) := by decide +kernel
theorem dX12_even_16 : decode cX12_even 16 = .ok (.invokestatic 70, 3) := by decide +kernel
theorem dX12_even_19 : decode cX12_even 19 = .ok (.ifCond .ne 7, 3) := by decide +kernel
theorem dX12_even_22 : decode cX12_even 22 = .ok (.iconst 1, 1) := by decide +kernel
theorem dX12_even_23 : decode cX12_even 23 = .ok (.goto 4, 3) := by decide +kernel
theorem dX12_even_26 : decode cX12_even 26 = .ok (.iconst 0, 1) := by decide +kernel
theorem dX12_even_27 : decode cX12_even 27 = .ok (.putfield 67, 3) := by decide +kernel
theorem dX12_even_30 : decode cX12_even 30 = .ok (.aload_n 0, 1) := by decide +kernel
theorem dX12_even_31 : decode cX12_even 31 = .ok (.getfield 67, 3) := by decide +kernel
theorem dX12_even_34 : decode cX12_even 34 = .ok (.ifCond .le 5, 3) := by decide +kernel
theorem dX12_even_37 : decode cX12_even 37 = .ok (.iconst 0, 1) := by decide +kernel
theorem dX12_even_38 : decode cX12_even 38 = .ok (.ireturn, 1) := by decide +kernel
theorem dX12_even_39 : decode cX12_even 39 = .ok (.aload_n 0, 1) := by decide +kernel
theorem dX12_even_40 : decode cX12_even 40 = .ok (.invokevirtual 263, 3) := by decide +kernel
theorem dX12_even_43 : decode cX12_even 43 = .ok (.aload_n 0, 1) := by decide +kernel
theorem dX12_even_44 : decode cX12_even 44 = .ok (.iconst 0, 1) := by decide +kernel
theorem dX12_even_45 : decode cX12_even 45 = .ok (.iconst (-1), 1) := by decide +kernel
theorem dX12_even_46 : decode cX12_even 46 = .ok (.iload_n 1, 1) := by decide +kernel
theorem dX12_even_47 : decode cX12_even 47 = .ok (.aload_n 0, 1) := by decide +kernel
theorem dX12_even_48 : decode cX12_even 48 = .ok (.getfield 35, 3) := by decide +kernel
theorem dX12_even_51 : decode cX12_even 51 = .ok (.aload_n 0, 1) := by decide +kernel
theorem dX12_even_52 : decode cX12_even 52 = .ok (.getfield 38, 3) := by decide +kernel
theorem dX12_even_55 : decode cX12_even 55 = .ok (.invokevirtual 266, 3) := by decide +kernel
theorem dX12_even_58 : decode cX12_even 58 = .ok (.iconst 0, 1) := by decide +kernel
theorem dX12_even_59 : decode cX12_even 59 = .ok (.istore_n 3, 1) := by decide +kernel
theorem dX12_even_60 : decode cX12_even 60 = .ok (.iload_n 3, 1) := by decide +kernel
theorem dX12_even_61 : decode cX12_even 61 = .ok (.bipush 6, 2) := by decide +kernel
theorem dX12_even_63 : decode cX12_even 63 = .ok (.if_icmp .gt 124, 3) := by decide +kernel
theorem dX12_even_66 : decode cX12_even 66 = .ok (.iconst 0, 1) := by decide +kernel
theorem dX12_even_67 : decode cX12_even 67 = .ok (.istore 4, 2) := by decide +kernel
theorem dX12_even_69 : decode cX12_even 69 = .ok (.iload 4, 2) := by decide +kernel
theorem dX12_even_71 : decode cX12_even 71 = .ok (.iconst 3, 1) := by decide +kernel
theorem dX12_even_72 : decode cX12_even 72 = .ok (.if_icmp .gt 109, 3) := by decide +kernel
theorem dX12_even_75 : decode cX12_even 75 = .ok (.iload_n 3, 1) := by decide +kernel
theorem dX12_even_76 : decode cX12_even 76 = .ok (.iload 4, 2) := by decide +kernel
theorem dX12_even_78 : decode cX12_even 78 = .ok (.isub, 1) := by decide +kernel
theorem dX12_even_79 : decode cX12_even 79 = .ok (.istore 5, 2) := by decide +kernel
theorem dX12_even_81 : decode cX12_even 81 = .ok (.iload 5, 2) := by decide +kernel
theorem dX12_even_83 : decode cX12_even 83 = .ok (.iconst 0, 1) := by decide +kernel
theorem dX12_even_84 : decode cX12_even 84 = .ok (.iconst 3, 1) := by decide +kernel
theorem dX12_even_85 : decode cX12_even 85 = .ok (.invokestatic 70, 3) := by decide +kernel
theorem dX12_even_88 : decode cX12_even 88 = .ok (.ifCond .ne 6, 3) := by decide +kernel
theorem dX12_even_91 : decode cX12_even 91 = .ok (.goto 84, 3) := by decide +kernel
theorem dX12_even_94 : decode cX12_even 94 = .ok (.aload_n 0, 1) := by decide +kernel
theorem dX12_even_95 : decode cX12_even 95 = .ok (.invokevirtual 200, 3) := by decide +kernel
theorem dX12_even_98 : decode cX12_even 98 = .ok (.aload_n 0, 1) := by decide +kernel
theorem dX12_even_99 : decode cX12_even 99 = .ok (.getfield 29, 3) := by decide +kernel
theorem dX12_even_102 : decode cX12_even 102 = .ok (.iconst 0, 1) := by decide +kernel
theorem dX12_even_103 : decode cX12_even 103 = .ok (.iload 5, 2) := by decide +kernel
theorem dX12_even_105 : decode cX12_even 105 = .ok (.ineg, 1) := by decide +kernel
theorem dX12_even_106 : decode cX12_even 106 = .ok (.iastore, 1) := by decide +kernel
theorem dX12_even_107 : decode cX12_even 107 = .ok (.aload_n 0, 1) := by decide +kernel
theorem dX12_even_108 : decode cX12_even 108 = .ok (.getfield 29, 3) := by decide +kernel
theorem dX12_even_111 : decode cX12_even 111 = .ok (.iconst 1, 1) := by decide +kernel
theorem dX12_even_112 : decode cX12_even 112 = .ok (.iload 4, 2) := by decide +kernel
theorem dX12_even_114 : decode cX12_even 114 = .ok (.iastore, 1) := by decide +kernel
theorem dX12_even_115 : decode cX12_even 115 = .ok (.aload_n 0, 1) := by decide +kernel
theorem dX12_even_116 : decode cX12_even 116 = .ok (.getfield 29, 3) := by decide +kernel
theorem dX12_even_119 : decode cX12_even 119 = .ok (.iconst 3, 1) := by decide +kernel
theorem dX12_even_120 : decode cX12_even 120 = .ok (.iconst 0, 1) := by decide +kernel
theorem dX12_even_121 : decode cX12_even 121 = .ok (.iastore, 1) := by decide +kernel
theorem dX12_even_122 : decode cX12_even 122 = .ok (.aload_n 0, 1) := by decide +kernel
theorem dX12_even_123 : decode cX12_even 123 = .ok (.getfield 29, 3) := by decide +kernel
theorem dX12_even_126 : decode cX12_even 126 = .ok (.bipush 6, 2) := by decide +kernel
theorem dX12_even_128 : decode cX12_even 128 = .ok (.iconst 0, 1) := by decide +kernel
theorem dX12_even_129 : decode cX12_even 129 = .ok (.iastore, 1) := by decide +kernel
theorem dX12_even_130 : decode cX12_even 130 = .ok (.aload_n 0, 1) := by decide +kernel
theorem dX12_even_131 : decode cX12_even 131 = .ok (.getfield 35, 3) := by decide +kernel
theorem dX12_even_134 : decode cX12_even 134 = .ok (.aload_n 0, 1) := by decide +kernel
theorem dX12_even_135 : decode cX12_even 135 = .ok (.invokevirtual 242, 3) := by decide +kernel
theorem dX12_even_138 : decode cX12_even 138 = .ok (.iaload, 1) := by decide +kernel
theorem dX12_even_139 : decode cX12_even 139 = .ok (.ldc_w 283, 3) := by decide +kernel
theorem dX12_even_142 : decode cX12_even 142 = .ok (.isub, 1) := by decide +kernel
theorem dX12_even_143 : decode cX12_even 143 = .ok (.istore 6, 2) := by decide +kernel
theorem dX12_even_145 : decode cX12_even 145 = .ok (.iload 6, 2) := by decide +kernel
theorem dX12_even_147 : decode cX12_even 147 = .ok (.ifCond .ge 9, 3) := by decide +kernel
theorem dX12_even_150 : decode cX12_even 150 = .ok (.iload 6, 2) := by decide +kernel
theorem dX12_even_152 : decode cX12_even 152 = .ok (.ineg, 1) := by decide +kernel
theorem dX12_even_153 : decode cX12_even 153 = .ok (.goto 5, 3) := by decide +kernel
theorem dX12_even_156 : decode cX12_even 156 = .ok (.iload 6, 2) := by decide +kernel
theorem dX12_even_158 : decode cX12_even 158 = .ok (.sipush 1000, 3) := by decide +kernel
theorem dX12_even_161 : decode cX12_even 161 = .ok (.iload_n 2, 1) := by decide +kernel
theorem dX12_even_162 : decode cX12_even 162 = .ok (.imul, 1) := by decide +kernel
theorem dX12_even_163 : decode cX12_even 163 = .ok (.if_icmp .gt 12, 3) := by decide +kernel
theorem dX12_even_166 : decode cX12_even 166 = .ok (.bipush 10, 2) := by decide +kernel
theorem dX12_even_168 : decode cX12_even 168 = .ok (.iload 5, 2) := by decide +kernel
theorem dX12_even_170 : decode cX12_even 170 = .ok (.imul, 1) := by decide +kernel
theorem dX12_even_171 : decode cX12_even 171 = .ok (.iload 4, 2) := by decide +kernel
theorem dX12_even_173 : decode cX12_even 173 = .ok (.iadd, 1) := by decide +kernel
theorem dX12_even_174 : decode cX12_even 174 = .ok (.ireturn, 1) := by decide +kernel
theorem dX12_even_175 : decode cX12_even 175 = .ok (.iinc 4 1, 3) := by decide +kernel
theorem dX12_even_178 : decode cX12_even 178 = .ok (.goto (-109), 3) := by decide +kernel
theorem dX12_even_181 : decode cX12_even 181 = .ok (.iinc 3 1, 3) := by decide +kernel
theorem dX12_even_184 : decode cX12_even 184 = .ok (.goto (-124), 3) := by decide +kernel
theorem dX12_even_187 : decode cX12_even 187 = .ok (.iconst (-1), 1) := by decide +kernel
theorem dX12_even_188 : decode cX12_even 188 = .ok (.ireturn, 1) := by decide +kernel
theorem dX12_isLog_0 : decode cX12_isLog 0 = .ok (.iload_n 1, 1) := by decide +kernel
theorem dX12_isLog_1 : decode cX12_isLog 1 = .ok (.iconst 2, 1) := by decide +kernel
theorem dX12_isLog_2 : decode cX12_isLog 2 = .ok (.irem, 1) := by decide +kernel
theorem dX12_isLog_3 : decode cX12_isLog 3 = .ok (.iconst 1, 1) := by decide +kernel
theorem dX12_isLog_4 : decode cX12_isLog 4 = .ok (.if_icmp .eq 9, 3) := by decide +kernel
theorem dX12_isLog_7 : decode cX12_isLog 7 = .ok (.iload_n 1, 1) := by decide +kernel
theorem dX12_isLog_8 : decode cX12_isLog 8 = .ok (.bipush 60, 2) := by decide +kernel
theorem dX12_isLog_10 : decode cX12_isLog 10 = .ok (.if_icmp .le 5, 3) := by decide +kernel
theorem dX12_isLog_13 : decode cX12_isLog 13 = .ok (.iconst 0, 1) := by decide +kernel
theorem dX12_isLog_14 : decode cX12_isLog 14 = .ok (.ireturn, 1) := by decide +kernel
theorem dX12_isLog_15 : decode cX12_isLog 15 = .ok (.iconst 0, 1) := by decide +kernel
theorem dX12_isLog_16 : decode cX12_isLog 16 = .ok (.istore_n 2, 1) := by decide +kernel
theorem dX12_isLog_17 : decode cX12_isLog 17 = .ok (.iload_n 2, 1) := by decide +kernel
theorem dX12_isLog_18 : decode cX12_isLog 18 = .ok (.iload_n 1, 1) := by decide +kernel
theorem dX12_isLog_19 : decode cX12_isLog 19 = .ok (.if_icmp .ge 83, 3) := by decide +kernel
theorem dX12_isLog_22 : decode cX12_isLog 22 = .ok (.aload_n 0, 1) := by decide +kernel
theorem dX12_isLog_23 : decode cX12_isLog 23 = .ok (.getfield 19, 3) := by decide +kernel
theorem dX12_isLog_26 : decode cX12_isLog 26 = .ok (.iload_n 2, 1) := by decide +kernel
theorem dX12_isLog_27 : decode cX12_isLog 27 = .ok (.iaload, 1) := by decide +kernel
theorem dX12_isLog_28 : decode cX12_isLog 28 = .ok (.bipush 100, 2) := by decide +kernel
theorem dX12_isLog_30 : decode cX12_isLog 30 = .ok (.if_icmp .ne 7, 3) := by decide +kernel
theorem dX12_isLog_33 : decode cX12_isLog 33 = .ok (.iconst 1, 1) := by decide +kernel
theorem dX12_isLog_34 : decode cX12_isLog 34 = .ok (.goto 4, 3) := by decide +kernel
theorem dX12_isLog_37 : decode cX12_isLog 37 = .ok (.iconst 0, 1) := by decide +kernel
theorem dX12_isLog_38 : decode cX12_isLog 38 = .ok (.istore_n 3, 1) := by decide +kernel
theorem dX12_isLog_39 : decode cX12_isLog 39 = .ok (.iload_n 3, 1) := by decide +kernel
theorem dX12_isLog_40 : decode cX12_isLog 40 = .ok (.ifCond .ne 27, 3) := by decide +kernel
theorem dX12_isLog_43 : decode cX12_isLog 43 = .ok (.aload_n 0, 1) := by decide +kernel
theorem dX12_isLog_44 : decode cX12_isLog 44 = .ok (.getfield 19, 3) := by decide +kernel
theorem dX12_isLog_47 : decode cX12_isLog 47 = .ok (.iload_n 2, 1) := by decide +kernel
theorem dX12_isLog_48 : decode cX12_isLog 48 = .ok (.iaload, 1) := by decide +kernel
theorem dX12_isLog_49 : decode cX12_isLog 49 = .ok (.bipush 119, 2) := by decide +kernel
theorem dX12_isLog_51 : decode cX12_isLog 51 = .ok (.if_icmp .eq 16, 3) := by decide +kernel
theorem dX12_isLog_54 : decode cX12_isLog 54 = .ok (.aload_n 0, 1) := by decide +kernel
theorem dX12_isLog_55 : decode cX12_isLog 55 = .ok (.getfield 19, 3) := by decide +kernel
theorem dX12_isLog_58 : decode cX12_isLog 58 = .ok (.iload_n 2, 1) := by decide +kernel
theorem dX12_isLog_59 : decode cX12_isLog 59 = .ok (.iaload, 1) := by decide +kernel
theorem dX12_isLog_60 : decode cX12_isLog 60 = .ok (.bipush 108, 2) := by decide +kernel
theorem dX12_isLog_62 : decode cX12_isLog 62 = .ok (.if_icmp .eq 5, 3) := by decide +kernel
theorem dX12_isLog_65 : decode cX12_isLog 65 = .ok (.iconst 0, 1) := by decide +kernel
theorem dX12_isLog_66 : decode cX12_isLog 66 = .ok (.ireturn, 1) := by decide +kernel
theorem dX12_isLog_67 : decode cX12_isLog 67 = .ok (.aload_n 0, 1) := by decide +kernel
theorem dX12_isLog_68 : decode cX12_isLog 68 = .ok (.getfield 19, 3) := by decide +kernel
theorem dX12_isLog_71 : decode cX12_isLog 71 = .ok (.iload_n 2, 1) := by decide +kernel
theorem dX12_isLog_72 : decode cX12_isLog 72 = .ok (.iconst 1, 1) := by decide +kernel
theorem dX12_isLog_73 : decode cX12_isLog 73 = .ok (.iadd, 1) := by decide +kernel
theorem dX12_isLog_74 : decode cX12_isLog 74 = .ok (.iaload, 1) := by decide +kernel
theorem dX12_isLog_75 : decode cX12_isLog 75 = .ok (.bipush 48, 2) := by decide +kernel
theorem dX12_isLog_77 : decode cX12_isLog 77 = .ok (.iload_n 3, 1) := by decide +kernel
theorem dX12_isLog_78 : decode cX12_isLog 78 = .ok (.ifCond .eq 8, 3) := by decide +kernel
theorem dX12_isLog_81 : decode cX12_isLog 81 = .ok (.bipush 57, 2) := by decide +kernel
theorem dX12_isLog_83 : decode cX12_isLog 83 = .ok (.goto 5, 3) := by decide +kernel
theorem dX12_isLog_86 : decode cX12_isLog 86 = .ok (.bipush 48, 2) := by decide +kernel
theorem dX12_isLog_88 : decode cX12_isLog 88 = .ok (.invokestatic 70, 3) := by decide +kernel
theorem dX12_isLog_91 : decode cX12_isLog 91 = .ok (.ifCond .ne 5, 3) := by decide +kernel
theorem dX12_isLog_94 : decode cX12_isLog 94 = .ok (.iconst 0, 1) := by decide +kernel
theorem dX12_isLog_95 : decode cX12_isLog 95 = .ok (.ireturn, 1) := by decide +kernel
theorem dX12_isLog_96 : decode cX12_isLog 96 = .ok (.iinc 2 2, 3) := by decide +kernel
theorem dX12_isLog_99 : decode cX12_isLog 99 = .ok (.goto (-82), 3) := by decide +kernel
theorem dX12_isLog_102 : decode cX12_isLog 102 = .ok (.iconst 1, 1) := by decide +kernel
theorem dX12_isLog_103 : decode cX12_isLog 103 = .ok (.ireturn, 1) := by decide +kernel
theorem dX12_howOf_0 : decode cX12_howOf 0 = .ok (.aload_n 0, 1) := by decide +kernel
theorem dX12_howOf_1 : decode cX12_howOf 1 = .ok (.getfield 19, 3) := by decide +kernel
theorem dX12_howOf_4 : decode cX12_howOf 4 = .ok (.iload_n 1, 1) := by decide +kernel
theorem dX12_howOf_5 : decode cX12_howOf 5 = .ok (.iaload, 1) := by decide +kernel
theorem dX12_howOf_6 : decode cX12_howOf 6 = .ok (.bipush 119, 2) := by decide +kernel
theorem dX12_howOf_8 : decode cX12_howOf 8 = .ok (.if_icmp .ne 7, 3) := by decide +kernel
theorem dX12_howOf_11 : decode cX12_howOf 11 = .ok (.iconst 0, 1) := by decide +kernel
theorem dX12_howOf_12 : decode cX12_howOf 12 = .ok (.goto 31, 3) := by decide +kernel
theorem dX12_howOf_15 : decode cX12_howOf 15 = .ok (.aload_n 0, 1) := by decide +kernel
theorem dX12_howOf_16 : decode cX12_howOf 16 = .ok (.getfield 19, 3) := by decide +kernel
theorem dX12_howOf_19 : decode cX12_howOf 19 = .ok (.iload_n 1, 1) := by decide +kernel
theorem dX12_howOf_20 : decode cX12_howOf 20 = .ok (.iaload, 1) := by decide +kernel
theorem dX12_howOf_21 : decode cX12_howOf 21 = .ok (.bipush 108, 2) := by decide +kernel
theorem dX12_howOf_23 : decode cX12_howOf 23 = .ok (.if_icmp .ne 7, 3) := by decide +kernel
theorem dX12_howOf_26 : decode cX12_howOf 26 = .ok (.iconst 1, 1) := by decide +kernel
theorem dX12_howOf_27 : decode cX12_howOf 27 = .ok (.goto 16, 3) := by decide +kernel
theorem dX12_howOf_30 : decode cX12_howOf 30 = .ok (.iconst 2, 1) := by decide +kernel
theorem dX12_howOf_31 : decode cX12_howOf 31 = .ok (.aload_n 0, 1) := by decide +kernel
theorem dX12_howOf_32 : decode cX12_howOf 32 = .ok (.getfield 19, 3) := by decide +kernel
theorem dX12_howOf_35 : decode cX12_howOf 35 = .ok (.iload_n 1, 1) := by decide +kernel
theorem dX12_howOf_36 : decode cX12_howOf 36 = .ok (.iconst 1, 1) := by decide +kernel
theorem dX12_howOf_37 : decode cX12_howOf 37 = .ok (.iadd, 1) := by decide +kernel
theorem dX12_howOf_38 : decode cX12_howOf 38 = .ok (.iaload, 1) := by decide +kernel
theorem dX12_howOf_39 : decode cX12_howOf 39 = .ok (.iadd, 1) := by decide +kernel
theorem dX12_howOf_40 : decode cX12_howOf 40 = .ok (.bipush 48, 2) := by decide +kernel
theorem dX12_howOf_42 : decode cX12_howOf 42 = .ok (.isub, 1) := by decide +kernel
theorem dX12_howOf_43 : decode cX12_howOf 43 = .ok (.ireturn, 1) := by decide +kernel
theorem dX12_log_0 : decode cX12_log 0 = .ok (.aload_n 0, 1) := by decide +kernel
theorem dX12_log_1 : decode cX12_log 1 = .ok (.getfield 74, 3) := by decide +kernel
theorem dX12_log_4 : decode cX12_log 4 = .ok (.istore_n 2, 1) := by decide +kernel
theorem dX12_log_5 : decode cX12_log 5 = .ok (.aload_n 0, 1) := by decide +kernel
theorem dX12_log_6 : decode cX12_log 6 = .ok (.iconst 0, 1) := by decide +kernel
theorem dX12_log_7 : decode cX12_log 7 = .ok (.putfield 74, 3) := by decide +kernel
theorem dX12_log_10 : decode cX12_log 10 = .ok (.aload_n 0, 1) := by decide +kernel
theorem dX12_log_11 : decode cX12_log 11 = .ok (.aload_n 0, 1) := by decide +kernel
theorem dX12_log_12 : decode cX12_log 12 = .ok (.iload_n 2, 1) := by decide +kernel
theorem dX12_log_13 : decode cX12_log 13 = .ok (.invokevirtual 284, 3) := by decide +kernel
theorem dX12_log_16 : decode cX12_log 16 = .ok (.ifCond .ne 7, 3) := by decide +kernel
theorem dX12_log_19 : decode cX12_log 19 = .ok (.iconst 1, 1) := by decide +kernel
theorem dX12_log_20 : decode cX12_log 20 = .ok (.goto 4, 3) := by decide +kernel
theorem dX12_log_23 : decode cX12_log 23 = .ok (.iconst 0, 1) := by decide +kernel
theorem dX12_log_24 : decode cX12_log 24 = .ok (.putfield 67, 3) := by decide +kernel
theorem dX12_log_27 : decode cX12_log 27 = .ok (.aload_n 0, 1) := by decide +kernel
theorem dX12_log_28 : decode cX12_log 28 = .ok (.getfield 67, 3) := by decide +kernel
theorem dX12_log_31 : decode cX12_log 31 = .ok (.ifCond .le 5, 3) := by decide +kernel
theorem dX12_log_34 : decode cX12_log 34 = .ok (.iconst 0, 1) := by decide +kernel
theorem dX12_log_35 : decode cX12_log 35 = .ok (.ireturn, 1) := by decide +kernel
theorem dX12_log_36 : decode cX12_log 36 = .ok (.aload_n 0, 1) := by decide +kernel
theorem dX12_log_37 : decode cX12_log 37 = .ok (.invokevirtual 200, 3) := by decide +kernel
theorem dX12_log_40 : decode cX12_log 40 = .ok (.iconst 0, 1) := by decide +kernel
theorem dX12_log_41 : decode cX12_log 41 = .ok (.istore_n 3, 1) := by decide +kernel
theorem dX12_log_42 : decode cX12_log 42 = .ok (.iload_n 3, 1) := by decide +kernel
theorem dX12_log_43 : decode cX12_log 43 = .ok (.iload_n 2, 1) := by decide +kernel
theorem dX12_log_44 : decode cX12_log 44 = .ok (.if_icmp .ge 40, 3) := by decide +kernel
theorem dX12_log_47 : decode cX12_log 47 = .ok (.aload_n 0, 1) := by decide +kernel
theorem dX12_log_48 : decode cX12_log 48 = .ok (.getfield 67, 3) := by decide +kernel
theorem dX12_log_51 : decode cX12_log 51 = .ok (.ifCond .ne 33, 3) := by decide +kernel
theorem dX12_log_54 : decode cX12_log 54 = .ok (.aload_n 0, 1) := by decide +kernel
theorem dX12_log_55 : decode cX12_log 55 = .ok (.invokevirtual 227, 3) := by decide +kernel
theorem dX12_log_58 : decode cX12_log 58 = .ok (.ifCond .eq 11, 3) := by decide +kernel
theorem dX12_log_61 : decode cX12_log 61 = .ok (.aload_n 0, 1) := by decide +kernel
theorem dX12_log_62 : decode cX12_log 62 = .ok (.iconst 2, 1) := by decide +kernel
theorem dX12_log_63 : decode cX12_log 63 = .ok (.putfield 67, 3) := by decide +kernel
theorem dX12_log_66 : decode cX12_log 66 = .ok (.goto 12, 3) := by decide +kernel
theorem dX12_log_69 : decode cX12_log 69 = .ok (.aload_n 0, 1) := by decide +kernel
theorem dX12_log_70 : decode cX12_log 70 = .ok (.aload_n 0, 1) := by decide +kernel
theorem dX12_log_71 : decode cX12_log 71 = .ok (.iload_n 3, 1) := by decide +kernel
theorem dX12_log_72 : decode cX12_log 72 = .ok (.invokevirtual 287, 3) := by decide +kernel
theorem dX12_log_75 : decode cX12_log 75 = .ok (.invokevirtual 230, 3) := by decide +kernel
theorem dX12_log_78 : decode cX12_log 78 = .ok (.iinc 3 2, 3) := by decide +kernel
theorem dX12_log_81 : decode cX12_log 81 = .ok (.goto (-39), 3) := by decide +kernel
theorem dX12_log_84 : decode cX12_log 84 = .ok (.aload_n 0, 1) := by decide +kernel
theorem dX12_log_85 : decode cX12_log 85 = .ok (.getfield 67, 3) := by decide +kernel
theorem dX12_log_88 : decode cX12_log 88 = .ok (.ifCond .ne 18, 3) := by decide +kernel
theorem dX12_log_91 : decode cX12_log 91 = .ok (.iload_n 1, 1) := by decide +kernel
theorem dX12_log_92 : decode cX12_log 92 = .ok (.iconst 0, 1) := by decide +kernel
theorem dX12_log_93 : decode cX12_log 93 = .ok (.bipush 9, 2) := by decide +kernel
theorem dX12_log_95 : decode cX12_log 95 = .ok (.invokestatic 70, 3) := by decide +kernel
theorem dX12_log_98 : decode cX12_log 98 = .ok (.ifCond .ne 8, 3) := by decide +kernel
theorem dX12_log_101 : decode cX12_log 101 = .ok (.aload_n 0, 1) := by decide +kernel
theorem dX12_log_102 : decode cX12_log 102 = .ok (.iconst 3, 1) := by decide +kernel
theorem dX12_log_103 : decode cX12_log 103 = .ok (.putfield 67, 3) := by decide +kernel
theorem dX12_log_106 : decode cX12_log 106 = .ok (.aload_n 0, 1) := by decide +kernel
theorem dX12_log_107 : decode cX12_log 107 = .ok (.getfield 67, 3) := by decide +kernel
theorem dX12_log_110 : decode cX12_log 110 = .ok (.ifCond .le 7, 3) := by decide +kernel
theorem dX12_log_113 : decode cX12_log 113 = .ok (.iconst 0, 1) := by decide +kernel
theorem dX12_log_114 : decode cX12_log 114 = .ok (.goto 8, 3) := by decide +kernel
theorem dX12_log_117 : decode cX12_log 117 = .ok (.aload_n 0, 1) := by decide +kernel
theorem dX12_log_118 : decode cX12_log 118 = .ok (.iload_n 1, 1) := by decide +kernel
theorem dX12_log_119 : decode cX12_log 119 = .ok (.invokevirtual 209, 3) := by decide +kernel
theorem dX12_log_122 : decode cX12_log 122 = .ok (.ireturn, 1) := by decide +kernel
theorem dX12_whole_0 : decode cX12_whole 0 = .ok (.aload_n 0, 1) := by decide +kernel
theorem dX12_whole_1 : decode cX12_whole 1 = .ok (.invokevirtual 242, 3) := by decide +kernel
theorem dX12_whole_4 : decode cX12_whole 4 = .ok (.bipush 8, 2) := by decide +kernel
theorem dX12_whole_6 : decode cX12_whole 6 = .ok (.imul, 1) := by decide +kernel
theorem dX12_whole_7 : decode cX12_whole 7 = .ok (.aload_n 0, 1) := by decide +kernel
theorem dX12_whole_8 : decode cX12_whole 8 = .ok (.getfield 29, 3) := by decide +kernel
theorem dX12_whole_11 : decode cX12_whole 11 = .ok (.bipush 7, 2) := by decide +kernel
theorem dX12_whole_13 : decode cX12_whole 13 = .ok (.iaload, 1) := by decide +kernel
theorem dX12_whole_14 : decode cX12_whole 14 = .ok (.iadd, 1) := by decide +kernel
theorem dX12_whole_15 : decode cX12_whole 15 = .ok (.bipush 8, 2) := by decide +kernel
theorem dX12_whole_17 : decode cX12_whole 17 = .ok (.imul, 1) := by decide +kernel
theorem dX12_whole_18 : decode cX12_whole 18 = .ok (.aload_n 0, 1) := by decide +kernel
theorem dX12_whole_19 : decode cX12_whole 19 = .ok (.getfield 29, 3) := by decide +kernel
theorem dX12_whole_22 : decode cX12_whole 22 = .ok (.bipush 8, 2) := by decide +kernel
theorem dX12_whole_24 : decode cX12_whole 24 = .ok (.iaload, 1) := by decide +kernel
theorem dX12_whole_25 : decode cX12_whole 25 = .ok (.iadd, 1) := by decide +kernel
theorem dX12_whole_26 : decode cX12_whole 26 = .ok (.ireturn, 1) := by decide +kernel
theorem dX12_unwhole_0 : decode cX12_unwhole 0 = .ok (.aload_n 0, 1) := by decide +kernel
theorem dX12_unwhole_1 : decode cX12_unwhole 1 = .ok (.iload_n 1, 1) := by decide +kernel
theorem dX12_unwhole_2 : decode cX12_unwhole 2 = .ok (.bipush 64, 2) := by decide +kernel
theorem dX12_unwhole_4 : decode cX12_unwhole 4 = .ok (.idiv, 1) := by decide +kernel
theorem dX12_unwhole_5 : decode cX12_unwhole 5 = .ok (.invokevirtual 239, 3) := by decide +kernel
theorem dX12_unwhole_8 : decode cX12_unwhole 8 = .ok (.aload_n 0, 1) := by decide +kernel
theorem dX12_unwhole_9 : decode cX12_unwhole 9 = .ok (.getfield 29, 3) := by decide +kernel
theorem dX12_unwhole_12 : decode cX12_unwhole 12 = .ok (.bipush 7, 2) := by decide +kernel
theorem dX12_unwhole_14 : decode cX12_unwhole 14 = .ok (.iload_n 1, 1) := by decide +kernel
theorem dX12_unwhole_15 : decode cX12_unwhole 15 = .ok (.bipush 8, 2) := by decide +kernel
theorem dX12_unwhole_17 : decode cX12_unwhole 17 = .ok (.idiv, 1) := by decide +kernel
theorem dX12_unwhole_18 : decode cX12_unwhole 18 = .ok (.bipush 8, 2) := by decide +kernel
theorem dX12_unwhole_20 : decode cX12_unwhole 20 = .ok (.irem, 1) := by decide +kernel
theorem dX12_unwhole_21 : decode cX12_unwhole 21 = .ok (.iastore, 1) := by decide +kernel
theorem dX12_unwhole_22 : decode cX12_unwhole 22 = .ok (.aload_n 0, 1) := by decide +kernel
theorem dX12_unwhole_23 : decode cX12_unwhole 23 = .ok (.getfield 29, 3) := by decide +kernel
theorem dX12_unwhole_26 : decode cX12_unwhole 26 = .ok (.bipush 8, 2) := by decide +kernel
theorem dX12_unwhole_28 : decode cX12_unwhole 28 = .ok (.iload_n 1, 1) := by decide +kernel
theorem dX12_unwhole_29 : decode cX12_unwhole 29 = .ok (.bipush 8, 2) := by decide +kernel
theorem dX12_unwhole_31 : decode cX12_unwhole 31 = .ok (.irem, 1) := by decide +kernel
theorem dX12_unwhole_32 : decode cX12_unwhole 32 = .ok (.iastore, 1) := by decide +kernel
theorem dX12_unwhole_33 : decode cX12_unwhole 33 = .ok (.return_, 1) := by decide +kernel
theorem dX12_joins_0 : decode cX12_joins 0 = .ok (.aload_n 0, 1) := by decide +kernel
theorem dX12_joins_1 : decode cX12_joins 1 = .ok (.invokevirtual 290, 3) := by decide +kernel
theorem dX12_joins_4 : decode cX12_joins 4 = .ok (.istore_n 3, 1) := by decide +kernel
theorem dX12_joins_5 : decode cX12_joins 5 = .ok (.iconst 0, 1) := by decide +kernel
theorem dX12_joins_6 : decode cX12_joins 6 = .ok (.istore 4, 2) := by decide +kernel
theorem dX12_joins_8 : decode cX12_joins 8 = .ok (.iload 4, 2) := by decide +kernel
theorem dX12_joins_10 : decode cX12_joins 10 = .ok (.aload_n 0, 1) := by decide +kernel
theorem dX12_joins_11 : decode cX12_joins 11 = .ok (.getfield 293, 3) := by decide +kernel
theorem dX12_joins_14 : decode cX12_joins 14 = .ok (.if_icmp .ge 20, 3) := by decide +kernel
theorem dX12_joins_17 : decode cX12_joins 17 = .ok (.aload_n 0, 1) := by decide +kernel
theorem dX12_joins_18 : decode cX12_joins 18 = .ok (.getfield 57, 3) := by decide +kernel
theorem dX12_joins_21 : decode cX12_joins 21 = .ok (.iload 4, 2) := by decide +kernel
theorem dX12_joins_23 : decode cX12_joins 23 = .ok (.iaload, 1) := by decide +kernel
theorem dX12_joins_24 : decode cX12_joins 24 = .ok (.iload_n 3, 1) := by decide +kernel
theorem dX12_joins_25 : decode cX12_joins 25 = .ok (.if_icmp .eq 9, 3) := by decide +kernel
theorem dX12_joins_28 : decode cX12_joins 28 = .ok (.iinc 4 1, 3) := by decide +kernel
theorem dX12_joins_31 : decode cX12_joins 31 = .ok (.goto (-23), 3) := by decide +kernel
theorem dX12_joins_34 : decode cX12_joins 34 = .ok (.iload 4, 2) := by decide +kernel
theorem dX12_joins_36 : decode cX12_joins 36 = .ok (.aload_n 0, 1) := by decide +kernel
theorem dX12_joins_37 : decode cX12_joins 37 = .ok (.getfield 293, 3) := by decide +kernel
theorem dX12_joins_40 : decode cX12_joins 40 = .ok (.if_icmp .ne 51, 3) := by decide +kernel
theorem dX12_joins_43 : decode cX12_joins 43 = .ok (.aload_n 0, 1) := by decide +kernel
theorem dX12_joins_44 : decode cX12_joins 44 = .ok (.getfield 57, 3) := by decide +kernel
theorem dX12_joins_47 : decode cX12_joins 47 = .ok (.iload 4, 2) := by decide +kernel
theorem dX12_joins_49 : decode cX12_joins 49 = .ok (.iload_n 3, 1) := by decide +kernel
theorem dX12_joins_50 : decode cX12_joins 50 = .ok (.iastore, 1) := by decide +kernel
theorem dX12_joins_51 : decode cX12_joins 51 = .ok (.iconst 0, 1) := by decide +kernel
theorem dX12_joins_52 : decode cX12_joins 52 = .ok (.istore 5, 2) := by decide +kernel
theorem dX12_joins_54 : decode cX12_joins 54 = .ok (.iload 5, 2) := by decide +kernel
theorem dX12_joins_56 : decode cX12_joins 56 = .ok (.bipush 31, 2) := by decide +kernel
theorem dX12_joins_58 : decode cX12_joins 58 = .ok (.if_icmp .ge 23, 3) := by decide +kernel
theorem dX12_joins_61 : decode cX12_joins 61 = .ok (.aload_n 0, 1) := by decide +kernel
theorem dX12_joins_62 : decode cX12_joins 62 = .ok (.getfield 64, 3) := by decide +kernel
theorem dX12_joins_65 : decode cX12_joins 65 = .ok (.bipush 31, 2) := by decide +kernel
theorem dX12_joins_67 : decode cX12_joins 67 = .ok (.iload 4, 2) := by decide +kernel
theorem dX12_joins_69 : decode cX12_joins 69 = .ok (.imul, 1) := by decide +kernel
theorem dX12_joins_70 : decode cX12_joins 70 = .ok (.iload 5, 2) := by decide +kernel
theorem dX12_joins_72 : decode cX12_joins 72 = .ok (.iadd, 1) := by decide +kernel
theorem dX12_joins_73 : decode cX12_joins 73 = .ok (.lconst 0, 1) := by decide +kernel
theorem dX12_joins_74 : decode cX12_joins 74 = .ok (.lastore, 1) := by decide +kernel
theorem dX12_joins_75 : decode cX12_joins 75 = .ok (.iinc 5 1, 3) := by decide +kernel
theorem dX12_joins_78 : decode cX12_joins 78 = .ok (.goto (-24), 3) := by decide +kernel
theorem dX12_joins_81 : decode cX12_joins 81 = .ok (.aload_n 0, 1) := by decide +kernel
theorem dX12_joins_82 : decode cX12_joins 82 = .ok (.dup, 1) := by decide +kernel
theorem dX12_joins_83 : decode cX12_joins 83 = .ok (.getfield 293, 3) := by decide +kernel
theorem dX12_joins_86 : decode cX12_joins 86 = .ok (.iconst 1, 1) := by decide +kernel
theorem dX12_joins_87 : decode cX12_joins 87 = .ok (.iadd, 1) := by decide +kernel
theorem dX12_joins_88 : decode cX12_joins 88 = .ok (.putfield 293, 3) := by decide +kernel
theorem dX12_joins_91 : decode cX12_joins 91 = .ok (.iconst 0, 1) := by decide +kernel
theorem dX12_joins_92 : decode cX12_joins 92 = .ok (.istore 5, 2) := by decide +kernel
theorem dX12_joins_94 : decode cX12_joins 94 = .ok (.iload 5, 2) := by decide +kernel
theorem dX12_joins_96 : decode cX12_joins 96 = .ok (.iload_n 2, 1) := by decide +kernel
theorem dX12_joins_97 : decode cX12_joins 97 = .ok (.iadd, 1) := by decide +kernel
theorem dX12_joins_98 : decode cX12_joins 98 = .ok (.bipush 31, 2) := by decide +kernel
theorem dX12_joins_100 : decode cX12_joins 100 = .ok (.if_icmp .ge 39, 3) := by decide +kernel
theorem dX12_joins_103 : decode cX12_joins 103 = .ok (.aload_n 0, 1) := by decide +kernel
theorem dX12_joins_104 : decode cX12_joins 104 = .ok (.getfield 64, 3) := by decide +kernel
theorem dX12_joins_107 : decode cX12_joins 107 = .ok (.bipush 31, 2) := by decide +kernel
theorem dX12_joins_109 : decode cX12_joins 109 = .ok (.iload 4, 2) := by decide +kernel
theorem dX12_joins_111 : decode cX12_joins 111 = .ok (.imul, 1) := by decide +kernel
theorem dX12_joins_112 : decode cX12_joins 112 = .ok (.iload 5, 2) := by decide +kernel
theorem dX12_joins_114 : decode cX12_joins 114 = .ok (.iadd, 1) := by decide +kernel
theorem dX12_joins_115 : decode cX12_joins 115 = .ok (.iload_n 2, 1) := by decide +kernel
theorem dX12_joins_116 : decode cX12_joins 116 = .ok (.iadd, 1) := by decide +kernel
theorem dX12_joins_117 : decode cX12_joins 117 = .ok (.dup2, 1) := by decide +kernel
theorem dX12_joins_118 : decode cX12_joins 118 = .ok (.laload, 1) := by decide +kernel
theorem dX12_joins_119 : decode cX12_joins 119 = .ok (.aload_n 0, 1) := by decide +kernel
theorem dX12_joins_120 : decode cX12_joins 120 = .ok (.getfield 61, 3) := by decide +kernel
theorem dX12_joins_123 : decode cX12_joins 123 = .ok (.bipush 31, 2) := by decide +kernel
theorem dX12_joins_125 : decode cX12_joins 125 = .ok (.iload_n 1, 1) := by decide +kernel
theorem dX12_joins_126 : decode cX12_joins 126 = .ok (.imul, 1) := by decide +kernel
theorem dX12_joins_127 : decode cX12_joins 127 = .ok (.iload 5, 2) := by decide +kernel
theorem dX12_joins_129 : decode cX12_joins 129 = .ok (.iadd, 1) := by decide +kernel
theorem dX12_joins_130 : decode cX12_joins 130 = .ok (.laload, 1) := by decide +kernel
theorem dX12_joins_131 : decode cX12_joins 131 = .ok (.ladd, 1) := by decide +kernel
theorem dX12_joins_132 : decode cX12_joins 132 = .ok (.lastore, 1) := by decide +kernel
theorem dX12_joins_133 : decode cX12_joins 133 = .ok (.iinc 5 1, 3) := by decide +kernel
theorem dX12_joins_136 : decode cX12_joins 136 = .ok (.goto (-42), 3) := by decide +kernel
theorem dX12_joins_139 : decode cX12_joins 139 = .ok (.return_, 1) := by decide +kernel
theorem dX12_mends_0 : decode cX12_mends 0 = .ok (.aload_n 0, 1) := by decide +kernel
theorem dX12_mends_1 : decode cX12_mends 1 = .ok (.getfield 74, 3) := by decide +kernel
theorem dX12_mends_4 : decode cX12_mends 4 = .ok (.istore 6, 2) := by decide +kernel
theorem dX12_mends_6 : decode cX12_mends 6 = .ok (.aload_n 0, 1) := by decide +kernel
theorem dX12_mends_7 : decode cX12_mends 7 = .ok (.iconst 0, 1) := by decide +kernel
theorem dX12_mends_8 : decode cX12_mends 8 = .ok (.putfield 74, 3) := by decide +kernel
theorem dX12_mends_11 : decode cX12_mends 11 = .ok (.aload_n 0, 1) := by decide +kernel
theorem dX12_mends_12 : decode cX12_mends 12 = .ok (.aload_n 0, 1) := by decide +kernel
theorem dX12_mends_13 : decode cX12_mends 13 = .ok (.iload 6, 2) := by decide +kernel
theorem dX12_mends_15 : decode cX12_mends 15 = .ok (.invokevirtual 284, 3) := by decide +kernel
theorem dX12_mends_18 : decode cX12_mends 18 = .ok (.ifCond .ne 7, 3) := by decide +kernel
theorem dX12_mends_21 : decode cX12_mends 21 = .ok (.iconst 1, 1) := by decide +kernel
theorem dX12_mends_22 : decode cX12_mends 22 = .ok (.goto 4, 3) := by decide +kernel
theorem dX12_mends_25 : decode cX12_mends 25 = .ok (.iconst 0, 1) := by decide +kernel
theorem dX12_mends_26 : decode cX12_mends 26 = .ok (.putfield 67, 3) := by decide +kernel
theorem dX12_mends_29 : decode cX12_mends 29 = .ok (.aload_n 0, 1) := by decide +kernel
theorem dX12_mends_30 : decode cX12_mends 30 = .ok (.getfield 67, 3) := by decide +kernel
theorem dX12_mends_33 : decode cX12_mends 33 = .ok (.ifCond .le 5, 3) := by decide +kernel
theorem dX12_mends_36 : decode cX12_mends 36 = .ok (.lconst 0, 1) := by decide +kernel
theorem dX12_mends_37 : decode cX12_mends 37 = .ok (.lreturn, 1) := by decide +kernel
theorem dX12_mends_38 : decode cX12_mends 38 = .ok (.aload_n 0, 1) := by decide +kernel
theorem dX12_mends_39 : decode cX12_mends 39 = .ok (.invokevirtual 200, 3) := by decide +kernel
theorem dX12_mends_42 : decode cX12_mends 42 = .ok (.aload_n 0, 1) := by decide +kernel
theorem dX12_mends_43 : decode cX12_mends 43 = .ok (.getfield 54, 3) := by decide +kernel
theorem dX12_mends_46 : decode cX12_mends 46 = .ok (.iconst 0, 1) := by decide +kernel
theorem dX12_mends_47 : decode cX12_mends 47 = .ok (.aload_n 0, 1) := by decide +kernel
theorem dX12_mends_48 : decode cX12_mends 48 = .ok (.invokevirtual 290, 3) := by decide +kernel
theorem dX12_mends_51 : decode cX12_mends 51 = .ok (.iastore, 1) := by decide +kernel
theorem dX12_mends_52 : decode cX12_mends 52 = .ok (.aload_n 0, 1) := by decide +kernel
theorem dX12_mends_53 : decode cX12_mends 53 = .ok (.iconst 1, 1) := by decide +kernel
theorem dX12_mends_54 : decode cX12_mends 54 = .ok (.putfield 296, 3) := by decide +kernel
theorem dX12_mends_57 : decode cX12_mends 57 = .ok (.iconst 0, 1) := by decide +kernel
theorem dX12_mends_58 : decode cX12_mends 58 = .ok (.istore 7, 2) := by decide +kernel
theorem dX12_mends_60 : decode cX12_mends 60 = .ok (.iload 7, 2) := by decide +kernel
theorem dX12_mends_62 : decode cX12_mends 62 = .ok (.bipush 31, 2) := by decide +kernel
theorem dX12_mends_64 : decode cX12_mends 64 = .ok (.if_icmp .ge 26, 3) := by decide +kernel
theorem dX12_mends_67 : decode cX12_mends 67 = .ok (.aload_n 0, 1) := by decide +kernel
theorem dX12_mends_68 : decode cX12_mends 68 = .ok (.getfield 61, 3) := by decide +kernel
theorem dX12_mends_71 : decode cX12_mends 71 = .ok (.iload 7, 2) := by decide +kernel
theorem dX12_mends_73 : decode cX12_mends 73 = .ok (.iload 7, 2) := by decide +kernel
theorem dX12_mends_75 : decode cX12_mends 75 = .ok (.ifCond .ne 7, 3) := by decide +kernel
theorem dX12_mends_78 : decode cX12_mends 78 = .ok (.lconst 1, 1) := by decide +kernel
theorem dX12_mends_79 : decode cX12_mends 79 = .ok (.goto 4, 3) := by decide +kernel
theorem dX12_mends_82 : decode cX12_mends 82 = .ok (.lconst 0, 1) := by decide +kernel
theorem dX12_mends_83 : decode cX12_mends 83 = .ok (.lastore, 1) := by decide +kernel
theorem dX12_mends_84 : decode cX12_mends 84 = .ok (.iinc 7 1, 3) := by decide +kernel
theorem dX12_mends_87 : decode cX12_mends 87 = .ok (.goto (-27), 3) := by decide +kernel
theorem dX12_mends_90 : decode cX12_mends 90 = .ok (.iconst 0, 1) := by decide +kernel
theorem dX12_mends_91 : decode cX12_mends 91 = .ok (.istore 7, 2) := by decide +kernel
theorem dX12_mends_93 : decode cX12_mends 93 = .ok (.iload 7, 2) := by decide +kernel
theorem dX12_mends_95 : decode cX12_mends 95 = .ok (.iload 6, 2) := by decide +kernel
theorem dX12_mends_97 : decode cX12_mends 97 = .ok (.if_icmp .ge 276, 3) := by decide +kernel
theorem dX12_mends_100 : decode cX12_mends 100 = .ok (.aload_n 0, 1) := by decide +kernel
theorem dX12_mends_101 : decode cX12_mends 101 = .ok (.iload 7, 2) := by decide +kernel
theorem dX12_mends_103 : decode cX12_mends 103 = .ok (.invokevirtual 287, 3) := by decide +kernel
theorem dX12_mends_106 : decode cX12_mends 106 = .ok (.istore 8, 2) := by decide +kernel
theorem dX12_mends_108 : decode cX12_mends 108 = .ok (.aload_n 0, 1) := by decide +kernel
theorem dX12_mends_109 : decode cX12_mends 109 = .ok (.iconst 0, 1) := by decide +kernel
theorem dX12_mends_110 : decode cX12_mends 110 = .ok (.putfield 293, 3) := by decide +kernel
theorem dX12_mends_113 : decode cX12_mends 113 = .ok (.iconst 0, 1) := by decide +kernel
theorem dX12_mends_114 : decode cX12_mends 114 = .ok (.istore 9, 2) := by decide +kernel
theorem dX12_mends_116 : decode cX12_mends 116 = .ok (.iload 9, 2) := by decide +kernel
theorem dX12_mends_118 : decode cX12_mends 118 = .ok (.aload_n 0, 1) := by decide +kernel
theorem dX12_mends_119 : decode cX12_mends 119 = .ok (.getfield 296, 3) := by decide +kernel
theorem dX12_mends_122 : decode cX12_mends 122 = .ok (.if_icmp .ge 163, 3) := by decide +kernel
theorem dX12_mends_125 : decode cX12_mends 125 = .ok (.aload_n 0, 1) := by decide +kernel
theorem dX12_mends_126 : decode cX12_mends 126 = .ok (.aload_n 0, 1) := by decide +kernel
theorem dX12_mends_127 : decode cX12_mends 127 = .ok (.getfield 54, 3) := by decide +kernel
theorem dX12_mends_130 : decode cX12_mends 130 = .ok (.iload 9, 2) := by decide +kernel
theorem dX12_mends_132 : decode cX12_mends 132 = .ok (.iaload, 1) := by decide +kernel
theorem dX12_mends_133 : decode cX12_mends 133 = .ok (.invokevirtual 299, 3) := by decide +kernel
theorem dX12_mends_136 : decode cX12_mends 136 = .ok (.aload_n 0, 1) := by decide +kernel
theorem dX12_mends_137 : decode cX12_mends 137 = .ok (.invokevirtual 227, 3) := by decide +kernel
theorem dX12_mends_140 : decode cX12_mends 140 = .ok (.ifCond .eq 6, 3) := by decide +kernel
theorem dX12_mends_143 : decode cX12_mends 143 = .ok (.goto 136, 3) := by decide +kernel
theorem dX12_mends_146 : decode cX12_mends 146 = .ok (.iload 8, 2) := by decide +kernel
theorem dX12_mends_148 : decode cX12_mends 148 = .ok (.iconst 2, 1) := by decide +kernel
theorem dX12_mends_149 : decode cX12_mends 149 = .ok (.if_icmp .lt 18, 3) := by decide +kernel
theorem dX12_mends_152 : decode cX12_mends 152 = .ok (.aload_n 0, 1) := by decide +kernel
theorem dX12_mends_153 : decode cX12_mends 153 = .ok (.getfield 29, 3) := by decide +kernel
theorem dX12_mends_156 : decode cX12_mends 156 = .ok (.bipush 6, 2) := by decide +kernel
theorem dX12_mends_158 : decode cX12_mends 158 = .ok (.iaload, 1) := by decide +kernel
theorem dX12_mends_159 : decode cX12_mends 159 = .ok (.iconst 1, 1) := by decide +kernel
theorem dX12_mends_160 : decode cX12_mends 160 = .ok (.if_icmp .ne 7, 3) := by decide +kernel
theorem dX12_mends_163 : decode cX12_mends 163 = .ok (.iconst 1, 1) := by decide +kernel
theorem dX12_mends_164 : decode cX12_mends 164 = .ok (.goto 4, 3) := by decide +kernel
theorem dX12_mends_167 : decode cX12_mends 167 = .ok (.iconst 0, 1) := by decide +kernel
theorem dX12_mends_168 : decode cX12_mends 168 = .ok (.istore 10, 2) := by decide +kernel
theorem dX12_mends_170 : decode cX12_mends 170 = .ok (.iload 8, 2) := by decide +kernel
theorem dX12_mends_172 : decode cX12_mends 172 = .ok (.iconst 2, 1) := by decide +kernel
theorem dX12_mends_173 : decode cX12_mends 173 = .ok (.isub, 1) := by decide +kernel
theorem dX12_mends_174 : decode cX12_mends 174 = .ok (.aload_n 0, 1) := by decide +kernel
theorem dX12_mends_175 : decode cX12_mends 175 = .ok (.getfield 29, 3) := by decide +kernel
theorem dX12_mends_178 : decode cX12_mends 178 = .ok (.iconst 4, 1) := by decide +kernel
theorem dX12_mends_179 : decode cX12_mends 179 = .ok (.iaload, 1) := by decide +kernel
theorem dX12_mends_180 : decode cX12_mends 180 = .ok (.if_icmp .ge 8, 3) := by decide +kernel
theorem dX12_mends_183 : decode cX12_mends 183 = .ok (.bipush 12, 2) := by decide +kernel
theorem dX12_mends_185 : decode cX12_mends 185 = .ok (.goto 23, 3) := by decide +kernel
theorem dX12_mends_188 : decode cX12_mends 188 = .ok (.iload 8, 2) := by decide +kernel
theorem dX12_mends_190 : decode cX12_mends 190 = .ok (.iconst 2, 1) := by decide +kernel
theorem dX12_mends_191 : decode cX12_mends 191 = .ok (.isub, 1) := by decide +kernel
theorem dX12_mends_192 : decode cX12_mends 192 = .ok (.aload_n 0, 1) := by decide +kernel
theorem dX12_mends_193 : decode cX12_mends 193 = .ok (.getfield 29, 3) := by decide +kernel
theorem dX12_mends_196 : decode cX12_mends 196 = .ok (.iconst 4, 1) := by decide +kernel
theorem dX12_mends_197 : decode cX12_mends 197 = .ok (.iaload, 1) := by decide +kernel
theorem dX12_mends_198 : decode cX12_mends 198 = .ok (.if_icmp .le 8, 3) := by decide +kernel
theorem dX12_mends_201 : decode cX12_mends 201 = .ok (.bipush 13, 2) := by decide +kernel
theorem dX12_mends_203 : decode cX12_mends 203 = .ok (.goto 5, 3) := by decide +kernel
theorem dX12_mends_206 : decode cX12_mends 206 = .ok (.bipush 14, 2) := by decide +kernel
theorem dX12_mends_208 : decode cX12_mends 208 = .ok (.istore 11, 2) := by decide +kernel
theorem dX12_mends_210 : decode cX12_mends 210 = .ok (.aload_n 0, 1) := by decide +kernel
theorem dX12_mends_211 : decode cX12_mends 211 = .ok (.iload 8, 2) := by decide +kernel
theorem dX12_mends_213 : decode cX12_mends 213 = .ok (.invokevirtual 230, 3) := by decide +kernel
theorem dX12_mends_216 : decode cX12_mends 216 = .ok (.aload_n 0, 1) := by decide +kernel
theorem dX12_mends_217 : decode cX12_mends 217 = .ok (.iload 9, 2) := by decide +kernel
theorem dX12_mends_219 : decode cX12_mends 219 = .ok (.iconst 0, 1) := by decide +kernel
theorem dX12_mends_220 : decode cX12_mends 220 = .ok (.invokevirtual 302, 3) := by decide +kernel
theorem dX12_mends_223 : decode cX12_mends 223 = .ok (.bipush 12, 2) := by decide +kernel
theorem dX12_mends_225 : decode cX12_mends 225 = .ok (.istore 12, 2) := by decide +kernel
theorem dX12_mends_227 : decode cX12_mends 227 = .ok (.iload 12, 2) := by decide +kernel
theorem dX12_mends_229 : decode cX12_mends 229 = .ok (.bipush 15, 2) := by decide +kernel
theorem dX12_mends_231 : decode cX12_mends 231 = .ok (.if_icmp .ge 48, 3) := by decide +kernel
theorem dX12_mends_234 : decode cX12_mends 234 = .ok (.iload 10, 2) := by decide +kernel
theorem dX12_mends_236 : decode cX12_mends 236 = .ok (.ifCond .eq 43, 3) := by decide +kernel
theorem dX12_mends_239 : decode cX12_mends 239 = .ok (.iload 12, 2) := by decide +kernel
theorem dX12_mends_241 : decode cX12_mends 241 = .ok (.iload 11, 2) := by decide +kernel
theorem dX12_mends_243 : decode cX12_mends 243 = .ok (.if_icmp .ne 6, 3) := by decide +kernel
theorem dX12_mends_246 : decode cX12_mends 246 = .ok (.goto 27, 3) := by decide +kernel
theorem dX12_mends_249 : decode cX12_mends 249 = .ok (.aload_n 0, 1) := by decide +kernel
theorem dX12_mends_250 : decode cX12_mends 250 = .ok (.aload_n 0, 1) := by decide +kernel
theorem dX12_mends_251 : decode cX12_mends 251 = .ok (.getfield 54, 3) := by decide +kernel
theorem dX12_mends_254 : decode cX12_mends 254 = .ok (.iload 9, 2) := by decide +kernel
theorem dX12_mends_256 : decode cX12_mends 256 = .ok (.iaload, 1) := by decide +kernel
theorem dX12_mends_257 : decode cX12_mends 257 = .ok (.invokevirtual 299, 3) := by decide +kernel
theorem dX12_mends_260 : decode cX12_mends 260 = .ok (.aload_n 0, 1) := by decide +kernel
theorem dX12_mends_261 : decode cX12_mends 261 = .ok (.iload 12, 2) := by decide +kernel
theorem dX12_mends_263 : decode cX12_mends 263 = .ok (.invokevirtual 230, 3) := by decide +kernel
theorem dX12_mends_266 : decode cX12_mends 266 = .ok (.aload_n 0, 1) := by decide +kernel
theorem dX12_mends_267 : decode cX12_mends 267 = .ok (.iload 9, 2) := by decide +kernel
theorem dX12_mends_269 : decode cX12_mends 269 = .ok (.iconst 1, 1) := by decide +kernel
theorem dX12_mends_270 : decode cX12_mends 270 = .ok (.invokevirtual 302, 3) := by decide +kernel
theorem dX12_mends_273 : decode cX12_mends 273 = .ok (.iinc 12 1, 3) := by decide +kernel
theorem dX12_mends_276 : decode cX12_mends 276 = .ok (.goto (-49), 3) := by decide +kernel
theorem dX12_mends_279 : decode cX12_mends 279 = .ok (.iinc 9 1, 3) := by decide +kernel
theorem dX12_mends_282 : decode cX12_mends 282 = .ok (.goto (-166), 3) := by decide +kernel
theorem dX12_mends_285 : decode cX12_mends 285 = .ok (.aload_n 0, 1) := by decide +kernel
theorem dX12_mends_286 : decode cX12_mends 286 = .ok (.aload_n 0, 1) := by decide +kernel
theorem dX12_mends_287 : decode cX12_mends 287 = .ok (.getfield 293, 3) := by decide +kernel
theorem dX12_mends_290 : decode cX12_mends 290 = .ok (.putfield 296, 3) := by decide +kernel
theorem dX12_mends_293 : decode cX12_mends 293 = .ok (.iconst 0, 1) := by decide +kernel
theorem dX12_mends_294 : decode cX12_mends 294 = .ok (.istore 9, 2) := by decide +kernel
theorem dX12_mends_296 : decode cX12_mends 296 = .ok (.iload 9, 2) := by decide +kernel
theorem dX12_mends_298 : decode cX12_mends 298 = .ok (.aload_n 0, 1) := by decide +kernel
theorem dX12_mends_299 : decode cX12_mends 299 = .ok (.getfield 296, 3) := by decide +kernel
theorem dX12_mends_302 : decode cX12_mends 302 = .ok (.if_icmp .ge 65, 3) := by decide +kernel
theorem dX12_mends_305 : decode cX12_mends 305 = .ok (.aload_n 0, 1) := by decide +kernel
theorem dX12_mends_306 : decode cX12_mends 306 = .ok (.getfield 54, 3) := by decide +kernel
theorem dX12_mends_309 : decode cX12_mends 309 = .ok (.iload 9, 2) := by decide +kernel
theorem dX12_mends_311 : decode cX12_mends 311 = .ok (.aload_n 0, 1) := by decide +kernel
theorem dX12_mends_312 : decode cX12_mends 312 = .ok (.getfield 57, 3) := by decide +kernel
theorem dX12_mends_315 : decode cX12_mends 315 = .ok (.iload 9, 2) := by decide +kernel
theorem dX12_mends_317 : decode cX12_mends 317 = .ok (.iaload, 1) := by decide +kernel
theorem dX12_mends_318 : decode cX12_mends 318 = .ok (.iastore, 1) := by decide +kernel
theorem dX12_mends_319 : decode cX12_mends 319 = .ok (.iconst 0, 1) := by decide +kernel
theorem dX12_mends_320 : decode cX12_mends 320 = .ok (.istore 10, 2) := by decide +kernel
theorem dX12_mends_322 : decode cX12_mends 322 = .ok (.iload 10, 2) := by decide +kernel
theorem dX12_mends_324 : decode cX12_mends 324 = .ok (.bipush 31, 2) := by decide +kernel
theorem dX12_mends_326 : decode cX12_mends 326 = .ok (.if_icmp .ge 35, 3) := by decide +kernel
theorem dX12_mends_329 : decode cX12_mends 329 = .ok (.aload_n 0, 1) := by decide +kernel
theorem dX12_mends_330 : decode cX12_mends 330 = .ok (.getfield 61, 3) := by decide +kernel
theorem dX12_mends_333 : decode cX12_mends 333 = .ok (.bipush 31, 2) := by decide +kernel
theorem dX12_mends_335 : decode cX12_mends 335 = .ok (.iload 9, 2) := by decide +kernel
theorem dX12_mends_337 : decode cX12_mends 337 = .ok (.imul, 1) := by decide +kernel
theorem dX12_mends_338 : decode cX12_mends 338 = .ok (.iload 10, 2) := by decide +kernel
theorem dX12_mends_340 : decode cX12_mends 340 = .ok (.iadd, 1) := by decide +kernel
theorem dX12_mends_341 : decode cX12_mends 341 = .ok (.aload_n 0, 1) := by decide +kernel
theorem dX12_mends_342 : decode cX12_mends 342 = .ok (.getfield 64, 3) := by decide +kernel
theorem dX12_mends_345 : decode cX12_mends 345 = .ok (.bipush 31, 2) := by decide +kernel
theorem dX12_mends_347 : decode cX12_mends 347 = .ok (.iload 9, 2) := by decide +kernel
theorem dX12_mends_349 : decode cX12_mends 349 = .ok (.imul, 1) := by decide +kernel
theorem dX12_mends_350 : decode cX12_mends 350 = .ok (.iload 10, 2) := by decide +kernel
theorem dX12_mends_352 : decode cX12_mends 352 = .ok (.iadd, 1) := by decide +kernel
theorem dX12_mends_353 : decode cX12_mends 353 = .ok (.laload, 1) := by decide +kernel
theorem dX12_mends_354 : decode cX12_mends 354 = .ok (.lastore, 1) := by decide +kernel
theorem dX12_mends_355 : decode cX12_mends 355 = .ok (.iinc 10 1, 3) := by decide +kernel
theorem dX12_mends_358 : decode cX12_mends 358 = .ok (.goto (-36), 3) := by decide +kernel
theorem dX12_mends_361 : decode cX12_mends 361 = .ok (.iinc 9 1, 3) := by decide +kernel
theorem dX12_mends_364 : decode cX12_mends 364 = .ok (.goto (-68), 3) := by decide +kernel
theorem dX12_mends_367 : decode cX12_mends 367 = .ok (.iinc 7 2, 3) := by decide +kernel
theorem dX12_mends_370 : decode cX12_mends 370 = .ok (.goto (-277), 3) := by decide +kernel
theorem dX12_mends_373 : decode cX12_mends 373 = .ok (.iconst 0, 1) := by decide +kernel
theorem dX12_mends_374 : decode cX12_mends 374 = .ok (.istore 7, 2) := by decide +kernel
theorem dX12_mends_376 : decode cX12_mends 376 = .ok (.iload 7, 2) := by decide +kernel
theorem dX12_mends_378 : decode cX12_mends 378 = .ok (.bipush 31, 2) := by decide +kernel
theorem dX12_mends_380 : decode cX12_mends 380 = .ok (.if_icmp .ge 123, 3) := by decide +kernel
theorem dX12_mends_383 : decode cX12_mends 383 = .ok (.lconst 0, 1) := by decide +kernel
theorem dX12_mends_384 : decode cX12_mends 384 = .ok (.lstore 8, 2) := by decide +kernel
theorem dX12_mends_386 : decode cX12_mends 386 = .ok (.iconst 0, 1) := by decide +kernel
theorem dX12_mends_387 : decode cX12_mends 387 = .ok (.istore 10, 2) := by decide +kernel
theorem dX12_mends_389 : decode cX12_mends 389 = .ok (.iload 10, 2) := by decide +kernel
theorem dX12_mends_391 : decode cX12_mends 391 = .ok (.aload_n 0, 1) := by decide +kernel
theorem dX12_mends_392 : decode cX12_mends 392 = .ok (.getfield 296, 3) := by decide +kernel
theorem dX12_mends_395 : decode cX12_mends 395 = .ok (.if_icmp .ge 81, 3) := by decide +kernel
theorem dX12_mends_398 : decode cX12_mends 398 = .ok (.aload_n 0, 1) := by decide +kernel
theorem dX12_mends_399 : decode cX12_mends 399 = .ok (.aload_n 0, 1) := by decide +kernel
theorem dX12_mends_400 : decode cX12_mends 400 = .ok (.getfield 54, 3) := by decide +kernel
theorem dX12_mends_403 : decode cX12_mends 403 = .ok (.iload 10, 2) := by decide +kernel
theorem dX12_mends_405 : decode cX12_mends 405 = .ok (.iaload, 1) := by decide +kernel
theorem dX12_mends_406 : decode cX12_mends 406 = .ok (.invokevirtual 299, 3) := by decide +kernel
theorem dX12_mends_409 : decode cX12_mends 409 = .ok (.aload_n 0, 1) := by decide +kernel
theorem dX12_mends_410 : decode cX12_mends 410 = .ok (.getfield 29, 3) := by decide +kernel
theorem dX12_mends_413 : decode cX12_mends 413 = .ok (.iconst 0, 1) := by decide +kernel
theorem dX12_mends_414 : decode cX12_mends 414 = .ok (.iaload, 1) := by decide +kernel
theorem dX12_mends_415 : decode cX12_mends 415 = .ok (.iload_n 1, 1) := by decide +kernel
theorem dX12_mends_416 : decode cX12_mends 416 = .ok (.if_icmp .ne 54, 3) := by decide +kernel
theorem dX12_mends_419 : decode cX12_mends 419 = .ok (.aload_n 0, 1) := by decide +kernel
theorem dX12_mends_420 : decode cX12_mends 420 = .ok (.getfield 29, 3) := by decide +kernel
theorem dX12_mends_423 : decode cX12_mends 423 = .ok (.iconst 1, 1) := by decide +kernel
theorem dX12_mends_424 : decode cX12_mends 424 = .ok (.iaload, 1) := by decide +kernel
theorem dX12_mends_425 : decode cX12_mends 425 = .ok (.iload_n 2, 1) := by decide +kernel
theorem dX12_mends_426 : decode cX12_mends 426 = .ok (.if_icmp .ne 44, 3) := by decide +kernel
theorem dX12_mends_429 : decode cX12_mends 429 = .ok (.aload_n 0, 1) := by decide +kernel
theorem dX12_mends_430 : decode cX12_mends 430 = .ok (.getfield 29, 3) := by decide +kernel
theorem dX12_mends_433 : decode cX12_mends 433 = .ok (.bipush 7, 2) := by decide +kernel
theorem dX12_mends_435 : decode cX12_mends 435 = .ok (.iaload, 1) := by decide +kernel
theorem dX12_mends_436 : decode cX12_mends 436 = .ok (.iload_n 3, 1) := by decide +kernel
theorem dX12_mends_437 : decode cX12_mends 437 = .ok (.if_icmp .ne 33, 3) := by decide +kernel
theorem dX12_mends_440 : decode cX12_mends 440 = .ok (.aload_n 0, 1) := by decide +kernel
theorem dX12_mends_441 : decode cX12_mends 441 = .ok (.getfield 29, 3) := by decide +kernel
theorem dX12_mends_444 : decode cX12_mends 444 = .ok (.bipush 8, 2) := by decide +kernel
theorem dX12_mends_446 : decode cX12_mends 446 = .ok (.iaload, 1) := by decide +kernel
theorem dX12_mends_447 : decode cX12_mends 447 = .ok (.iload 4, 2) := by decide +kernel
theorem dX12_mends_449 : decode cX12_mends 449 = .ok (.if_icmp .ne 21, 3) := by decide +kernel
theorem dX12_mends_452 : decode cX12_mends 452 = .ok (.lload 8, 2) := by decide +kernel
theorem dX12_mends_454 : decode cX12_mends 454 = .ok (.aload_n 0, 1) := by decide +kernel
theorem dX12_mends_455 : decode cX12_mends 455 = .ok (.getfield 61, 3) := by decide +kernel
theorem dX12_mends_458 : decode cX12_mends 458 = .ok (.bipush 31, 2) := by decide +kernel
theorem dX12_mends_460 : decode cX12_mends 460 = .ok (.iload 10, 2) := by decide +kernel
theorem dX12_mends_462 : decode cX12_mends 462 = .ok (.imul, 1) := by decide +kernel
theorem dX12_mends_463 : decode cX12_mends 463 = .ok (.iload 7, 2) := by decide +kernel
theorem dX12_mends_465 : decode cX12_mends 465 = .ok (.iadd, 1) := by decide +kernel
theorem dX12_mends_466 : decode cX12_mends 466 = .ok (.laload, 1) := by decide +kernel
theorem dX12_mends_467 : decode cX12_mends 467 = .ok (.ladd, 1) := by decide +kernel
theorem dX12_mends_468 : decode cX12_mends 468 = .ok (.lstore 8, 2) := by decide +kernel
theorem dX12_mends_470 : decode cX12_mends 470 = .ok (.iinc 10 1, 3) := by decide +kernel
theorem dX12_mends_473 : decode cX12_mends 473 = .ok (.goto (-84), 3) := by decide +kernel
theorem dX12_mends_476 : decode cX12_mends 476 = .ok (.lload 8, 2) := by decide +kernel
theorem dX12_mends_478 : decode cX12_mends 478 = .ok (.lconst 0, 1) := by decide +kernel
theorem dX12_mends_479 : decode cX12_mends 479 = .ok (.lcmp, 1) := by decide +kernel
theorem dX12_mends_480 : decode cX12_mends 480 = .ok (.ifCond .le 17, 3) := by decide +kernel
theorem dX12_mends_483 : decode cX12_mends 483 = .ok (.iload 5, 2) := by decide +kernel
theorem dX12_mends_485 : decode cX12_mends 485 = .ok (.ifCond .eq 8, 3) := by decide +kernel
theorem dX12_mends_488 : decode cX12_mends 488 = .ok (.lload 8, 2) := by decide +kernel
theorem dX12_mends_490 : decode cX12_mends 490 = .ok (.goto 6, 3) := by decide +kernel
theorem dX12_mends_493 : decode cX12_mends 493 = .ok (.iload 7, 2) := by decide +kernel
theorem dX12_mends_495 : decode cX12_mends 495 = .ok (.i2l, 1) := by decide +kernel
theorem dX12_mends_496 : decode cX12_mends 496 = .ok (.lreturn, 1) := by decide +kernel
theorem dX12_mends_497 : decode cX12_mends 497 = .ok (.iinc 7 1, 3) := by decide +kernel
theorem dX12_mends_500 : decode cX12_mends 500 = .ok (.goto (-124), 3) := by decide +kernel
theorem dX12_mends_503 : decode cX12_mends 503 = .ok (.iload 5, 2) := by decide +kernel
theorem dX12_mends_505 : decode cX12_mends 505 = .ok (.ifCond .eq 7, 3) := by decide +kernel
theorem dX12_mends_508 : decode cX12_mends 508 = .ok (.lconst 0, 1) := by decide +kernel
theorem dX12_mends_509 : decode cX12_mends 509 = .ok (.goto 6, 3) := by decide +kernel
theorem dX12_mends_512 : decode cX12_mends 512 = .ok (.ldc2_w 306, 3) := by decide +kernel
theorem dX12_mends_515 : decode cX12_mends 515 = .ok (.lreturn, 1) := by decide +kernel
theorem dX12_play_0 : decode cX12_play 0 = .ok (.aload_n 0, 1) := by decide +kernel
theorem dX12_play_1 : decode cX12_play 1 = .ok (.iload_n 2, 1) := by decide +kernel
theorem dX12_play_2 : decode cX12_play 2 = .ok (.iconst 0, 1) := by decide +kernel
theorem dX12_play_3 : decode cX12_play 3 = .ok (.sipush 200, 3) := by decide +kernel
theorem dX12_play_6 : decode cX12_play 6 = .ok (.invokestatic 70, 3) := by decide +kernel
theorem dX12_play_9 : decode cX12_play 9 = .ok (.ifCond .ne 7, 3) := by decide +kernel
theorem dX12_play_12 : decode cX12_play 12 = .ok (.iconst 1, 1) := by decide +kernel
theorem dX12_play_13 : decode cX12_play 13 = .ok (.goto 18, 3) := by decide +kernel
theorem dX12_play_16 : decode cX12_play 16 = .ok (.iload_n 3, 1) := by decide +kernel
theorem dX12_play_17 : decode cX12_play 17 = .ok (.iconst 0, 1) := by decide +kernel
theorem dX12_play_18 : decode cX12_play 18 = .ok (.bipush 10, 2) := by decide +kernel
theorem dX12_play_20 : decode cX12_play 20 = .ok (.invokestatic 70, 3) := by decide +kernel
theorem dX12_play_23 : decode cX12_play 23 = .ok (.ifCond .ne 7, 3) := by decide +kernel
theorem dX12_play_26 : decode cX12_play 26 = .ok (.iconst 2, 1) := by decide +kernel
theorem dX12_play_27 : decode cX12_play 27 = .ok (.goto 4, 3) := by decide +kernel
theorem dX12_play_30 : decode cX12_play 30 = .ok (.iconst 0, 1) := by decide +kernel
theorem dX12_play_31 : decode cX12_play 31 = .ok (.putfield 67, 3) := by decide +kernel
theorem dX12_play_34 : decode cX12_play 34 = .ok (.aload_n 0, 1) := by decide +kernel
theorem dX12_play_35 : decode cX12_play 35 = .ok (.getfield 67, 3) := by decide +kernel
theorem dX12_play_38 : decode cX12_play 38 = .ok (.ifCond .le 5, 3) := by decide +kernel
theorem dX12_play_41 : decode cX12_play 41 = .ok (.iconst 0, 1) := by decide +kernel
theorem dX12_play_42 : decode cX12_play 42 = .ok (.ireturn, 1) := by decide +kernel
theorem dX12_play_43 : decode cX12_play 43 = .ok (.aload_n 0, 1) := by decide +kernel
theorem dX12_play_44 : decode cX12_play 44 = .ok (.invokevirtual 200, 3) := by decide +kernel
theorem dX12_play_47 : decode cX12_play 47 = .ok (.iload_n 1, 1) := by decide +kernel
theorem dX12_play_48 : decode cX12_play 48 = .ok (.istore 4, 2) := by decide +kernel
theorem dX12_play_50 : decode cX12_play 50 = .ok (.iconst 0, 1) := by decide +kernel
theorem dX12_play_51 : decode cX12_play 51 = .ok (.istore 5, 2) := by decide +kernel
theorem dX12_play_53 : decode cX12_play 53 = .ok (.iload 5, 2) := by decide +kernel
theorem dX12_play_55 : decode cX12_play 55 = .ok (.iload_n 2, 1) := by decide +kernel
theorem dX12_play_56 : decode cX12_play 56 = .ok (.if_icmp .ge 134, 3) := by decide +kernel
theorem dX12_play_59 : decode cX12_play 59 = .ok (.aload_n 0, 1) := by decide +kernel
theorem dX12_play_60 : decode cX12_play 60 = .ok (.invokevirtual 227, 3) := by decide +kernel
theorem dX12_play_63 : decode cX12_play 63 = .ok (.ifCond .ne 127, 3) := by decide +kernel
theorem dX12_play_66 : decode cX12_play 66 = .ok (.aload_n 0, 1) := by decide +kernel
theorem dX12_play_67 : decode cX12_play 67 = .ok (.aload_n 0, 1) := by decide +kernel
theorem dX12_play_68 : decode cX12_play 68 = .ok (.getfield 29, 3) := by decide +kernel
theorem dX12_play_71 : decode cX12_play 71 = .ok (.iconst 2, 1) := by decide +kernel
theorem dX12_play_72 : decode cX12_play 72 = .ok (.iaload, 1) := by decide +kernel
theorem dX12_play_73 : decode cX12_play 73 = .ok (.invokevirtual 203, 3) := by decide +kernel
theorem dX12_play_76 : decode cX12_play 76 = .ok (.istore 6, 2) := by decide +kernel
theorem dX12_play_78 : decode cX12_play 78 = .ok (.aload_n 0, 1) := by decide +kernel
theorem dX12_play_79 : decode cX12_play 79 = .ok (.iconst 1, 1) := by decide +kernel
theorem dX12_play_80 : decode cX12_play 80 = .ok (.aload_n 0, 1) := by decide +kernel
theorem dX12_play_81 : decode cX12_play 81 = .ok (.getfield 29, 3) := by decide +kernel
theorem dX12_play_84 : decode cX12_play 84 = .ok (.iconst 2, 1) := by decide +kernel
theorem dX12_play_85 : decode cX12_play 85 = .ok (.iaload, 1) := by decide +kernel
theorem dX12_play_86 : decode cX12_play 86 = .ok (.isub, 1) := by decide +kernel
theorem dX12_play_87 : decode cX12_play 87 = .ok (.invokevirtual 203, 3) := by decide +kernel
theorem dX12_play_90 : decode cX12_play 90 = .ok (.istore 7, 2) := by decide +kernel
theorem dX12_play_92 : decode cX12_play 92 = .ok (.ldc_w 308, 3) := by decide +kernel
theorem dX12_play_95 : decode cX12_play 95 = .ok (.iload 4, 2) := by decide +kernel
theorem dX12_play_97 : decode cX12_play 97 = .ok (.imul, 1) := by decide +kernel
theorem dX12_play_98 : decode cX12_play 98 = .ok (.sipush 12345, 3) := by decide +kernel
theorem dX12_play_101 : decode cX12_play 101 = .ok (.iadd, 1) := by decide +kernel
theorem dX12_play_102 : decode cX12_play 102 = .ok (.istore 4, 2) := by decide +kernel
theorem dX12_play_104 : decode cX12_play 104 = .ok (.iload 4, 2) := by decide +kernel
theorem dX12_play_106 : decode cX12_play 106 = .ok (.bipush 16, 2) := by decide +kernel
theorem dX12_play_108 : decode cX12_play 108 = .ok (.iushr, 1) := by decide +kernel
theorem dX12_play_109 : decode cX12_play 109 = .ok (.sipush 32767, 3) := by decide +kernel
theorem dX12_play_112 : decode cX12_play 112 = .ok (.iand, 1) := by decide +kernel
theorem dX12_play_113 : decode cX12_play 113 = .ok (.bipush 100, 2) := by decide +kernel
theorem dX12_play_115 : decode cX12_play 115 = .ok (.irem, 1) := by decide +kernel
theorem dX12_play_116 : decode cX12_play 116 = .ok (.istore 8, 2) := by decide +kernel
theorem dX12_play_118 : decode cX12_play 118 = .ok (.iconst 0, 1) := by decide +kernel
theorem dX12_play_119 : decode cX12_play 119 = .ok (.istore 9, 2) := by decide +kernel
theorem dX12_play_121 : decode cX12_play 121 = .ok (.aload_n 0, 1) := by decide +kernel
theorem dX12_play_122 : decode cX12_play 122 = .ok (.getfield 7, 3) := by decide +kernel
theorem dX12_play_125 : decode cX12_play 125 = .ok (.iconst 0, 1) := by decide +kernel
theorem dX12_play_126 : decode cX12_play 126 = .ok (.bipush 12, 2) := by decide +kernel
theorem dX12_play_128 : decode cX12_play 128 = .ok (.iconst 4, 1) := by decide +kernel
theorem dX12_play_129 : decode cX12_play 129 = .ok (.iload 6, 2) := by decide +kernel
theorem dX12_play_131 : decode cX12_play 131 = .ok (.imul, 1) := by decide +kernel
theorem dX12_play_132 : decode cX12_play 132 = .ok (.iload 7, 2) := by decide +kernel
theorem dX12_play_134 : decode cX12_play 134 = .ok (.iadd, 1) := by decide +kernel
theorem dX12_play_135 : decode cX12_play 135 = .ok (.imul, 1) := by decide +kernel
theorem dX12_play_136 : decode cX12_play 136 = .ok (.iadd, 1) := by decide +kernel
theorem dX12_play_137 : decode cX12_play 137 = .ok (.iaload, 1) := by decide +kernel
theorem dX12_play_138 : decode cX12_play 138 = .ok (.istore 10, 2) := by decide +kernel
theorem dX12_play_140 : decode cX12_play 140 = .ok (.iload 8, 2) := by decide +kernel
theorem dX12_play_142 : decode cX12_play 142 = .ok (.iload 10, 2) := by decide +kernel
theorem dX12_play_144 : decode cX12_play 144 = .ok (.if_icmp .lt 34, 3) := by decide +kernel
theorem dX12_play_147 : decode cX12_play 147 = .ok (.iinc 9 1, 3) := by decide +kernel
theorem dX12_play_150 : decode cX12_play 150 = .ok (.iload 10, 2) := by decide +kernel
theorem dX12_play_152 : decode cX12_play 152 = .ok (.aload_n 0, 1) := by decide +kernel
theorem dX12_play_153 : decode cX12_play 153 = .ok (.getfield 7, 3) := by decide +kernel
theorem dX12_play_156 : decode cX12_play 156 = .ok (.iconst 0, 1) := by decide +kernel
theorem dX12_play_157 : decode cX12_play 157 = .ok (.bipush 12, 2) := by decide +kernel
theorem dX12_play_159 : decode cX12_play 159 = .ok (.iconst 4, 1) := by decide +kernel
theorem dX12_play_160 : decode cX12_play 160 = .ok (.iload 6, 2) := by decide +kernel
theorem dX12_play_162 : decode cX12_play 162 = .ok (.imul, 1) := by decide +kernel
theorem dX12_play_163 : decode cX12_play 163 = .ok (.iload 7, 2) := by decide +kernel
theorem dX12_play_165 : decode cX12_play 165 = .ok (.iadd, 1) := by decide +kernel
theorem dX12_play_166 : decode cX12_play 166 = .ok (.imul, 1) := by decide +kernel
theorem dX12_play_167 : decode cX12_play 167 = .ok (.iadd, 1) := by decide +kernel
theorem dX12_play_168 : decode cX12_play 168 = .ok (.iload 9, 2) := by decide +kernel
theorem dX12_play_170 : decode cX12_play 170 = .ok (.iadd, 1) := by decide +kernel
theorem dX12_play_171 : decode cX12_play 171 = .ok (.iaload, 1) := by decide +kernel
theorem dX12_play_172 : decode cX12_play 172 = .ok (.iadd, 1) := by decide +kernel
theorem dX12_play_173 : decode cX12_play 173 = .ok (.istore 10, 2) := by decide +kernel
theorem dX12_play_175 : decode cX12_play 175 = .ok (.goto (-35), 3) := by decide +kernel
theorem dX12_play_178 : decode cX12_play 178 = .ok (.aload_n 0, 1) := by decide +kernel
theorem dX12_play_179 : decode cX12_play 179 = .ok (.iload 9, 2) := by decide +kernel
theorem dX12_play_181 : decode cX12_play 181 = .ok (.invokevirtual 230, 3) := by decide +kernel
theorem dX12_play_184 : decode cX12_play 184 = .ok (.iinc 5 1, 3) := by decide +kernel
theorem dX12_play_187 : decode cX12_play 187 = .ok (.goto (-134), 3) := by decide +kernel
theorem dX12_play_190 : decode cX12_play 190 = .ok (.iload_n 3, 1) := by decide +kernel
theorem dX12_play_191 : decode cX12_play 191 = .ok (.bipush 10, 2) := by decide +kernel
theorem dX12_play_193 : decode cX12_play 193 = .ok (.if_icmp .ne 8, 3) := by decide +kernel
theorem dX12_play_196 : decode cX12_play 196 = .ok (.iload 5, 2) := by decide +kernel
theorem dX12_play_198 : decode cX12_play 198 = .ok (.goto 8, 3) := by decide +kernel
theorem dX12_play_201 : decode cX12_play 201 = .ok (.aload_n 0, 1) := by decide +kernel
theorem dX12_play_202 : decode cX12_play 202 = .ok (.iload_n 3, 1) := by decide +kernel
theorem dX12_play_203 : decode cX12_play 203 = .ok (.invokevirtual 209, 3) := by decide +kernel
theorem dX12_play_206 : decode cX12_play 206 = .ok (.ireturn, 1) := by decide +kernel
theorem dX12_image_0 : decode cX12_image 0 = .ok (.aload_n 0, 1) := by decide +kernel
theorem dX12_image_1 : decode cX12_image 1 = .ok (.iconst 0, 1) := by decide +kernel
theorem dX12_image_2 : decode cX12_image 2 = .ok (.putfield 67, 3) := by decide +kernel
theorem dX12_image_5 : decode cX12_image 5 = .ok (.iconst 0, 1) := by decide +kernel
theorem dX12_image_6 : decode cX12_image 6 = .ok (.istore_n 1, 1) := by decide +kernel
theorem dX12_image_7 : decode cX12_image 7 = .ok (.iload_n 1, 1) := by decide +kernel
theorem dX12_image_8 : decode cX12_image 8 = .ok (.sipush 2616, 3) := by decide +kernel
theorem dX12_image_11 : decode cX12_image 11 = .ok (.if_icmp .ge 21, 3) := by decide +kernel
theorem dX12_image_14 : decode cX12_image 14 = .ok (.aload_n 0, 1) := by decide +kernel
theorem dX12_image_15 : decode cX12_image 15 = .ok (.getfield 13, 3) := by decide +kernel
theorem dX12_image_18 : decode cX12_image 18 = .ok (.iload_n 1, 1) := by decide +kernel
theorem dX12_image_19 : decode cX12_image 19 = .ok (.aload_n 0, 1) := by decide +kernel
theorem dX12_image_20 : decode cX12_image 20 = .ok (.getfield 7, 3) := by decide +kernel
theorem dX12_image_23 : decode cX12_image 23 = .ok (.iload_n 1, 1) := by decide +kernel
theorem dX12_image_24 : decode cX12_image 24 = .ok (.iaload, 1) := by decide +kernel
theorem dX12_image_25 : decode cX12_image 25 = .ok (.iastore, 1) := by decide +kernel
theorem dX12_image_26 : decode cX12_image 26 = .ok (.iinc 1 1, 3) := by decide +kernel
theorem dX12_image_29 : decode cX12_image 29 = .ok (.goto (-22), 3) := by decide +kernel
theorem dX12_image_32 : decode cX12_image 32 = .ok (.aload_n 0, 1) := by decide +kernel
theorem dX12_image_33 : decode cX12_image 33 = .ok (.iconst 1, 1) := by decide +kernel
theorem dX12_image_34 : decode cX12_image 34 = .ok (.putfield 309, 3) := by decide +kernel
theorem dX12_image_37 : decode cX12_image 37 = .ok (.return_, 1) := by decide +kernel
theorem dX12_back_0 : decode cX12_back 0 = .ok (.aload_n 0, 1) := by decide +kernel
theorem dX12_back_1 : decode cX12_back 1 = .ok (.iconst 0, 1) := by decide +kernel
theorem dX12_back_2 : decode cX12_back 2 = .ok (.putfield 67, 3) := by decide +kernel
theorem dX12_back_5 : decode cX12_back 5 = .ok (.aload_n 0, 1) := by decide +kernel
theorem dX12_back_6 : decode cX12_back 6 = .ok (.getfield 309, 3) := by decide +kernel
theorem dX12_back_9 : decode cX12_back 9 = .ok (.ifCond .ne 5, 3) := by decide +kernel
theorem dX12_back_12 : decode cX12_back 12 = .ok (.iconst 0, 1) := by decide +kernel
theorem dX12_back_13 : decode cX12_back 13 = .ok (.ireturn, 1) := by decide +kernel
theorem dX12_back_14 : decode cX12_back 14 = .ok (.iconst 0, 1) := by decide +kernel
theorem dX12_back_15 : decode cX12_back 15 = .ok (.istore_n 1, 1) := by decide +kernel
theorem dX12_back_16 : decode cX12_back 16 = .ok (.iload_n 1, 1) := by decide +kernel
theorem dX12_back_17 : decode cX12_back 17 = .ok (.sipush 2616, 3) := by decide +kernel
theorem dX12_back_20 : decode cX12_back 20 = .ok (.if_icmp .ge 21, 3) := by decide +kernel
theorem dX12_back_23 : decode cX12_back 23 = .ok (.aload_n 0, 1) := by decide +kernel
theorem dX12_back_24 : decode cX12_back 24 = .ok (.getfield 7, 3) := by decide +kernel
theorem dX12_back_27 : decode cX12_back 27 = .ok (.iload_n 1, 1) := by decide +kernel
theorem dX12_back_28 : decode cX12_back 28 = .ok (.aload_n 0, 1) := by decide +kernel
theorem dX12_back_29 : decode cX12_back 29 = .ok (.getfield 13, 3) := by decide +kernel
theorem dX12_back_32 : decode cX12_back 32 = .ok (.iload_n 1, 1) := by decide +kernel
theorem dX12_back_33 : decode cX12_back 33 = .ok (.iaload, 1) := by decide +kernel
theorem dX12_back_34 : decode cX12_back 34 = .ok (.iastore, 1) := by decide +kernel
theorem dX12_back_35 : decode cX12_back 35 = .ok (.iinc 1 1, 3) := by decide +kernel
theorem dX12_back_38 : decode cX12_back 38 = .ok (.goto (-22), 3) := by decide +kernel
theorem dX12_back_41 : decode cX12_back 41 = .ok (.iconst 1, 1) := by decide +kernel
theorem dX12_back_42 : decode cX12_back 42 = .ok (.ireturn, 1) := by decide +kernel
theorem dX12_count_0 : decode cX12_count 0 = .ok (.aload_n 0, 1) := by decide +kernel
theorem dX12_count_1 : decode cX12_count 1 = .ok (.iconst 0, 1) := by decide +kernel
theorem dX12_count_2 : decode cX12_count 2 = .ok (.putfield 67, 3) := by decide +kernel
theorem dX12_count_5 : decode cX12_count 5 = .ok (.iload_n 1, 1) := by decide +kernel
theorem dX12_count_6 : decode cX12_count 6 = .ok (.ifCond .ne 14, 3) := by decide +kernel
theorem dX12_count_9 : decode cX12_count 9 = .ok (.aload_n 0, 1) := by decide +kernel
theorem dX12_count_10 : decode cX12_count 10 = .ok (.getfield 7, 3) := by decide +kernel
theorem dX12_count_13 : decode cX12_count 13 = .ok (.sipush 192, 3) := by decide +kernel
theorem dX12_count_16 : decode cX12_count 16 = .ok (.iaload, 1) := by decide +kernel
theorem dX12_count_17 : decode cX12_count 17 = .ok (.goto 101, 3) := by decide +kernel
theorem dX12_count_20 : decode cX12_count 20 = .ok (.iload_n 1, 1) := by decide +kernel
theorem dX12_count_21 : decode cX12_count 21 = .ok (.iconst 1, 1) := by decide +kernel
theorem dX12_count_22 : decode cX12_count 22 = .ok (.if_icmp .ne 14, 3) := by decide +kernel
theorem dX12_count_25 : decode cX12_count 25 = .ok (.aload_n 0, 1) := by decide +kernel
theorem dX12_count_26 : decode cX12_count 26 = .ok (.getfield 7, 3) := by decide +kernel
theorem dX12_count_29 : decode cX12_count 29 = .ok (.sipush 193, 3) := by decide +kernel
theorem dX12_count_32 : decode cX12_count 32 = .ok (.iaload, 1) := by decide +kernel
theorem dX12_count_33 : decode cX12_count 33 = .ok (.goto 85, 3) := by decide +kernel
theorem dX12_count_36 : decode cX12_count 36 = .ok (.iload_n 1, 1) := by decide +kernel
theorem dX12_count_37 : decode cX12_count 37 = .ok (.iconst 2, 1) := by decide +kernel
theorem dX12_count_38 : decode cX12_count 38 = .ok (.if_icmp .ne 14, 3) := by decide +kernel
theorem dX12_count_41 : decode cX12_count 41 = .ok (.aload_n 0, 1) := by decide +kernel
theorem dX12_count_42 : decode cX12_count 42 = .ok (.getfield 7, 3) := by decide +kernel
theorem dX12_count_45 : decode cX12_count 45 = .ok (.sipush 194, 3) := by decide +kernel
theorem dX12_count_48 : decode cX12_count 48 = .ok (.iaload, 1) := by decide +kernel
theorem dX12_count_49 : decode cX12_count 49 = .ok (.goto 69, 3) := by decide +kernel
theorem dX12_count_52 : decode cX12_count 52 = .ok (.iload_n 1, 1) := by decide +kernel
theorem dX12_count_53 : decode cX12_count 53 = .ok (.iconst 3, 1) := by decide +kernel
theorem dX12_count_54 : decode cX12_count 54 = .ok (.if_icmp .ne 14, 3) := by decide +kernel
theorem dX12_count_57 : decode cX12_count 57 = .ok (.aload_n 0, 1) := by decide +kernel
theorem dX12_count_58 : decode cX12_count 58 = .ok (.getfield 7, 3) := by decide +kernel
theorem dX12_count_61 : decode cX12_count 61 = .ok (.sipush 195, 3) := by decide +kernel
theorem dX12_count_64 : decode cX12_count 64 = .ok (.iaload, 1) := by decide +kernel
theorem dX12_count_65 : decode cX12_count 65 = .ok (.goto 53, 3) := by decide +kernel
theorem dX12_count_68 : decode cX12_count 68 = .ok (.iload_n 1, 1) := by decide +kernel
theorem dX12_count_69 : decode cX12_count 69 = .ok (.iconst 4, 1) := by decide +kernel
theorem dX12_count_70 : decode cX12_count 70 = .ok (.if_icmp .ne 14, 3) := by decide +kernel
theorem dX12_count_73 : decode cX12_count 73 = .ok (.aload_n 0, 1) := by decide +kernel
theorem dX12_count_74 : decode cX12_count 74 = .ok (.getfield 7, 3) := by decide +kernel
theorem dX12_count_77 : decode cX12_count 77 = .ok (.sipush 196, 3) := by decide +kernel
theorem dX12_count_80 : decode cX12_count 80 = .ok (.iaload, 1) := by decide +kernel
theorem dX12_count_81 : decode cX12_count 81 = .ok (.goto 37, 3) := by decide +kernel
theorem dX12_count_84 : decode cX12_count 84 = .ok (.iload_n 1, 1) := by decide +kernel
theorem dX12_count_85 : decode cX12_count 85 = .ok (.iconst 5, 1) := by decide +kernel
theorem dX12_count_86 : decode cX12_count 86 = .ok (.if_icmp .ne 14, 3) := by decide +kernel
theorem dX12_count_89 : decode cX12_count 89 = .ok (.aload_n 0, 1) := by decide +kernel
theorem dX12_count_90 : decode cX12_count 90 = .ok (.getfield 7, 3) := by decide +kernel
theorem dX12_count_93 : decode cX12_count 93 = .ok (.sipush 197, 3) := by decide +kernel
theorem dX12_count_96 : decode cX12_count 96 = .ok (.iaload, 1) := by decide +kernel
theorem dX12_count_97 : decode cX12_count 97 = .ok (.goto 21, 3) := by decide +kernel
theorem dX12_count_100 : decode cX12_count 100 = .ok (.iload_n 1, 1) := by decide +kernel
theorem dX12_count_101 : decode cX12_count 101 = .ok (.bipush 6, 2) := by decide +kernel
theorem dX12_count_103 : decode cX12_count 103 = .ok (.if_icmp .ne 14, 3) := by decide +kernel
theorem dX12_count_106 : decode cX12_count 106 = .ok (.aload_n 0, 1) := by decide +kernel
theorem dX12_count_107 : decode cX12_count 107 = .ok (.getfield 7, 3) := by decide +kernel
theorem dX12_count_110 : decode cX12_count 110 = .ok (.sipush 198, 3) := by decide +kernel
theorem dX12_count_113 : decode cX12_count 113 = .ok (.iaload, 1) := by decide +kernel
theorem dX12_count_114 : decode cX12_count 114 = .ok (.goto 4, 3) := by decide +kernel
theorem dX12_count_117 : decode cX12_count 117 = .ok (.iconst (-1), 1) := by decide +kernel
theorem dX12_count_118 : decode cX12_count 118 = .ok (.ireturn, 1) := by decide +kernel
theorem dJ6_compare_7cf53_0 : decode cJ6_compare_7cf53 0 = .ok (.iload_n 0, 1) := by decide +kernel
theorem dJ6_compare_7cf53_1 : decode cJ6_compare_7cf53 1 = .ok (.iload_n 1, 1) := by decide +kernel
theorem dJ6_compare_7cf53_2 : decode cJ6_compare_7cf53 2 = .ok (.if_icmp .ge 7, 3) := by decide +kernel
theorem dJ6_compare_7cf53_5 : decode cJ6_compare_7cf53 5 = .ok (.iconst (-1), 1) := by decide +kernel
theorem dJ6_compare_7cf53_6 : decode cJ6_compare_7cf53 6 = .ok (.goto 13, 3) := by decide +kernel
theorem dJ6_compare_7cf53_9 : decode cJ6_compare_7cf53 9 = .ok (.iload_n 0, 1) := by decide +kernel
theorem dJ6_compare_7cf53_10 : decode cJ6_compare_7cf53 10 = .ok (.iload_n 1, 1) := by decide +kernel
theorem dJ6_compare_7cf53_11 : decode cJ6_compare_7cf53 11 = .ok (.if_icmp .ne 7, 3) := by decide +kernel
theorem dJ6_compare_7cf53_14 : decode cJ6_compare_7cf53 14 = .ok (.iconst 0, 1) := by decide +kernel
theorem dJ6_compare_7cf53_15 : decode cJ6_compare_7cf53 15 = .ok (.goto 4, 3) := by decide +kernel
theorem dJ6_compare_7cf53_18 : decode cJ6_compare_7cf53 18 = .ok (.iconst 1, 1) := by decide +kernel
theorem dJ6_compare_7cf53_19 : decode cJ6_compare_7cf53 19 = .ok (.ireturn, 1) := by decide +kernel
theorem dJ9_abs_0f7a4_0 : decode cJ9_abs_0f7a4 0 = .ok (.iload_n 0, 1) := by decide +kernel
theorem dJ9_abs_0f7a4_1 : decode cJ9_abs_0f7a4 1 = .ok (.ifCond .ge 8, 3) := by decide +kernel
theorem dJ9_abs_0f7a4_4 : decode cJ9_abs_0f7a4 4 = .ok (.iload_n 0, 1) := by decide +kernel
theorem dJ9_abs_0f7a4_5 : decode cJ9_abs_0f7a4 5 = .ok (.ineg, 1) := by decide +kernel
theorem dJ9_abs_0f7a4_6 : decode cJ9_abs_0f7a4 6 = .ok (.goto 4, 3) := by decide +kernel
theorem dJ9_abs_0f7a4_9 : decode cJ9_abs_0f7a4 9 = .ok (.iload_n 0, 1) := by decide +kernel
theorem dJ9_abs_0f7a4_10 : decode cJ9_abs_0f7a4 10 = .ok (.ireturn, 1) := by decide +kernel
theorem dJ9_max_7cf53_0 : decode cJ9_max_7cf53 0 = .ok (.iload_n 0, 1) := by decide +kernel
theorem dJ9_max_7cf53_1 : decode cJ9_max_7cf53 1 = .ok (.iload_n 1, 1) := by decide +kernel
theorem dJ9_max_7cf53_2 : decode cJ9_max_7cf53 2 = .ok (.if_icmp .lt 7, 3) := by decide +kernel
theorem dJ9_max_7cf53_5 : decode cJ9_max_7cf53 5 = .ok (.iload_n 0, 1) := by decide +kernel
theorem dJ9_max_7cf53_6 : decode cJ9_max_7cf53 6 = .ok (.goto 4, 3) := by decide +kernel
theorem dJ9_max_7cf53_9 : decode cJ9_max_7cf53 9 = .ok (.iload_n 1, 1) := by decide +kernel
theorem dJ9_max_7cf53_10 : decode cJ9_max_7cf53 10 = .ok (.ireturn, 1) := by decide +kernel
theorem dJ9_min_7cf53_0 : decode cJ9_min_7cf53 0 = .ok (.iload_n 0, 1) := by decide +kernel
theorem dJ9_min_7cf53_1 : decode cJ9_min_7cf53 1 = .ok (.iload_n 1, 1) := by decide +kernel
theorem dJ9_min_7cf53_2 : decode cJ9_min_7cf53 2 = .ok (.if_icmp .gt 7, 3) := by decide +kernel
theorem dJ9_min_7cf53_5 : decode cJ9_min_7cf53 5 = .ok (.iload_n 0, 1) := by decide +kernel
theorem dJ9_min_7cf53_6 : decode cJ9_min_7cf53 6 = .ok (.goto 4, 3) := by decide +kernel
theorem dJ9_min_7cf53_9 : decode cJ9_min_7cf53 9 = .ok (.iload_n 1, 1) := by decide +kernel
theorem dJ9_min_7cf53_10 : decode cJ9_min_7cf53 10 = .ok (.ireturn, 1) := by decide +kernel
theorem dJ0_length_8abf5_0 : decode cJ0_length_8abf5 0 = .ok (.aload_n 0, 1) := by decide +kernel
theorem dJ0_length_8abf5_1 : decode cJ0_length_8abf5 1 = .ok (.getfield 9, 3) := by decide +kernel
theorem dJ0_length_8abf5_4 : decode cJ0_length_8abf5 4 = .ok (.arraylength, 1) := by decide +kernel
theorem dJ0_length_8abf5_5 : decode cJ0_length_8abf5 5 = .ok (.aload_n 0, 1) := by decide +kernel
theorem dJ0_length_8abf5_6 : decode cJ0_length_8abf5 6 = .ok (.invokevirtual 335, 3) := by decide +kernel
theorem dJ0_length_8abf5_9 : decode cJ0_length_8abf5 9 = .ok (.ishr, 1) := by decide +kernel
theorem dJ0_length_8abf5_10 : decode cJ0_length_8abf5 10 = .ok (.ireturn, 1) := by decide +kernel
theorem dJ0_charAt_5068e_0 : decode cJ0_charAt_5068e 0 = .ok (.aload_n 0, 1) := by decide +kernel
theorem dJ0_charAt_5068e_1 : decode cJ0_charAt_5068e 1 = .ok (.invokevirtual 492, 3) := by decide +kernel
theorem dJ0_charAt_5068e_4 : decode cJ0_charAt_5068e 4 = .ok (.ifCond .eq 12, 3) := by decide +kernel
theorem dJ0_charAt_5068e_7 : decode cJ0_charAt_5068e 7 = .ok (.aload_n 0, 1) := by decide +kernel
theorem dJ0_charAt_5068e_8 : decode cJ0_charAt_5068e 8 = .ok (.getfield 9, 3) := by decide +kernel
theorem dJ0_charAt_5068e_11 : decode cJ0_charAt_5068e 11 = .ok (.iload_n 1, 1) := by decide +kernel
theorem dJ0_charAt_5068e_12 : decode cJ0_charAt_5068e 12 = .ok (.invokestatic 495, 3) := by decide +kernel
theorem dJ0_charAt_5068e_15 : decode cJ0_charAt_5068e 15 = .ok (.ireturn, 1) := by decide +kernel
theorem dJ0_charAt_5068e_16 : decode cJ0_charAt_5068e 16 = .ok (.aload_n 0, 1) := by decide +kernel
theorem dJ0_charAt_5068e_17 : decode cJ0_charAt_5068e 17 = .ok (.getfield 9, 3) := by decide +kernel
theorem dJ0_charAt_5068e_20 : decode cJ0_charAt_5068e 20 = .ok (.iload_n 1, 1) := by decide +kernel
theorem dJ0_charAt_5068e_21 : decode cJ0_charAt_5068e 21 = .ok (.invokestatic 498, 3) := by decide +kernel
theorem dJ0_charAt_5068e_24 : decode cJ0_charAt_5068e 24 = .ok (.ireturn, 1) := by decide +kernel
theorem dJ0_coder_7d493_0 : decode cJ0_coder_7d493 0 = .ok (.getstatic 38, 3) := by decide +kernel
theorem dJ0_coder_7d493_3 : decode cJ0_coder_7d493 3 = .ok (.ifCond .eq 10, 3) := by decide +kernel
theorem dJ0_coder_7d493_6 : decode cJ0_coder_7d493 6 = .ok (.aload_n 0, 1) := by decide +kernel
theorem dJ0_coder_7d493_7 : decode cJ0_coder_7d493 7 = .ok (.getfield 15, 3) := by decide +kernel
theorem dJ0_coder_7d493_10 : decode cJ0_coder_7d493 10 = .ok (.goto 4, 3) := by decide +kernel
theorem dJ0_coder_7d493_13 : decode cJ0_coder_7d493 13 = .ok (.iconst 1, 1) := by decide +kernel
theorem dJ0_coder_7d493_14 : decode cJ0_coder_7d493 14 = .ok (.ireturn, 1) := by decide +kernel
theorem dJ0_isLatin1_aae02_0 : decode cJ0_isLatin1_aae02 0 = .ok (.getstatic 38, 3) := by decide +kernel
theorem dJ0_isLatin1_aae02_3 : decode cJ0_isLatin1_aae02 3 = .ok (.ifCond .eq 14, 3) := by decide +kernel
theorem dJ0_isLatin1_aae02_6 : decode cJ0_isLatin1_aae02 6 = .ok (.aload_n 0, 1) := by decide +kernel
theorem dJ0_isLatin1_aae02_7 : decode cJ0_isLatin1_aae02 7 = .ok (.getfield 15, 3) := by decide +kernel
theorem dJ0_isLatin1_aae02_10 : decode cJ0_isLatin1_aae02 10 = .ok (.ifCond .ne 7, 3) := by decide +kernel
theorem dJ0_isLatin1_aae02_13 : decode cJ0_isLatin1_aae02 13 = .ok (.iconst 1, 1) := by decide +kernel
theorem dJ0_isLatin1_aae02_14 : decode cJ0_isLatin1_aae02 14 = .ok (.goto 4, 3) := by decide +kernel
theorem dJ0_isLatin1_aae02_17 : decode cJ0_isLatin1_aae02 17 = .ok (.iconst 0, 1) := by decide +kernel
theorem dJ0_isLatin1_aae02_18 : decode cJ0_isLatin1_aae02 18 = .ok (.ireturn, 1) := by decide +kernel
theorem dJ0_checkIndex_df160_0 : decode cJ0_checkIndex_df160 0 = .ok (.iload_n 0, 1) := by decide +kernel
theorem dJ0_checkIndex_df160_1 : decode cJ0_checkIndex_df160 1 = .ok (.iload_n 1, 1) := by decide +kernel
theorem dJ0_checkIndex_df160_2 : decode cJ0_checkIndex_df160 2 = .ok (.getstatic 1053, 3) := by decide +kernel
theorem dJ0_checkIndex_df160_5 : decode cJ0_checkIndex_df160 5 = .ok (.invokestatic 1059, 3) := by decide +kernel
theorem dJ0_checkIndex_df160_8 : decode cJ0_checkIndex_df160 8 = .ok (.pop, 1) := by decide +kernel
theorem dJ0_checkIndex_df160_9 : decode cJ0_checkIndex_df160 9 = .ok (.return_, 1) := by decide +kernel
theorem dJ1_charAt_3b067_0 : decode cJ1_charAt_3b067 0 = .ok (.iload_n 1, 1) := by decide +kernel
theorem dJ1_charAt_3b067_1 : decode cJ1_charAt_3b067 1 = .ok (.aload_n 0, 1) := by decide +kernel
theorem dJ1_charAt_3b067_2 : decode cJ1_charAt_3b067 2 = .ok (.arraylength, 1) := by decide +kernel
theorem dJ1_charAt_3b067_3 : decode cJ1_charAt_3b067 3 = .ok (.invokestatic 9, 3) := by decide +kernel
theorem dJ1_charAt_3b067_6 : decode cJ1_charAt_3b067 6 = .ok (.aload_n 0, 1) := by decide +kernel
theorem dJ1_charAt_3b067_7 : decode cJ1_charAt_3b067 7 = .ok (.iload_n 1, 1) := by decide +kernel
theorem dJ1_charAt_3b067_8 : decode cJ1_charAt_3b067 8 = .ok (.baload, 1) := by decide +kernel
theorem dJ1_charAt_3b067_9 : decode cJ1_charAt_3b067 9 = .ok (.sipush 255, 3) := by decide +kernel
theorem dJ1_charAt_3b067_12 : decode cJ1_charAt_3b067 12 = .ok (.iand, 1) := by decide +kernel
theorem dJ1_charAt_3b067_13 : decode cJ1_charAt_3b067 13 = .ok (.i2c, 1) := by decide +kernel
theorem dJ1_charAt_3b067_14 : decode cJ1_charAt_3b067 14 = .ok (.ireturn, 1) := by decide +kernel
theorem dJ2_getChar_3b067_0 : decode cJ2_getChar_3b067 0 = .ok (.getstatic 44, 3) := by decide +kernel
theorem dJ2_getChar_3b067_3 : decode cJ2_getChar_3b067 3 = .ok (.ifCond .ne 25, 3) := by decide +kernel
theorem dJ2_getChar_3b067_6 : decode cJ2_getChar_3b067 6 = .ok (.iload_n 1, 1) := by decide +kernel
theorem dJ2_getChar_3b067_7 : decode cJ2_getChar_3b067 7 = .ok (.ifCond .lt 11, 3) := by decide +kernel
theorem dJ2_getChar_3b067_10 : decode cJ2_getChar_3b067 10 = .ok (.iload_n 1, 1) := by decide +kernel
theorem dJ2_getChar_3b067_11 : decode cJ2_getChar_3b067 11 = .ok (.aload_n 0, 1) := by decide +kernel
theorem dJ2_getChar_3b067_12 : decode cJ2_getChar_3b067 12 = .ok (.invokestatic 48, 3) := by decide +kernel
theorem dJ2_getChar_3b067_15 : decode cJ2_getChar_3b067 15 = .ok (.if_icmp .lt 13, 3) := by decide +kernel
theorem dJ2_getChar_3b067_18 : decode cJ2_getChar_3b067 18 = .ok (.new 52, 3) := by decide +kernel
theorem dJ2_getChar_3b067_21 : decode cJ2_getChar_3b067 21 = .ok (.dup, 1) := by decide +kernel
theorem dJ2_getChar_3b067_22 : decode cJ2_getChar_3b067 22 = .ok (.ldc 54, 2) := by decide +kernel
theorem dJ2_getChar_3b067_24 : decode cJ2_getChar_3b067 24 = .ok (.invokespecial 56, 3) := by decide +kernel
theorem dJ2_getChar_3b067_27 : decode cJ2_getChar_3b067 27 = .ok (.athrow, 1) := by decide +kernel
theorem dJ2_getChar_3b067_28 : decode cJ2_getChar_3b067 28 = .ok (.iload_n 1, 1) := by decide +kernel
theorem dJ2_getChar_3b067_29 : decode cJ2_getChar_3b067 29 = .ok (.iconst 1, 1) := by decide +kernel
theorem dJ2_getChar_3b067_30 : decode cJ2_getChar_3b067 30 = .ok (.ishl, 1) := by decide +kernel
theorem dJ2_getChar_3b067_31 : decode cJ2_getChar_3b067 31 = .ok (.istore_n 1, 1) := by decide +kernel
theorem dJ2_getChar_3b067_32 : decode cJ2_getChar_3b067 32 = .ok (.aload_n 0, 1) := by decide +kernel
theorem dJ2_getChar_3b067_33 : decode cJ2_getChar_3b067 33 = .ok (.iload_n 1, 1) := by decide +kernel
theorem dJ2_getChar_3b067_34 : decode cJ2_getChar_3b067 34 = .ok (.iinc 1 1, 3) := by decide +kernel
theorem dJ2_getChar_3b067_37 : decode cJ2_getChar_3b067 37 = .ok (.baload, 1) := by decide +kernel
theorem dJ2_getChar_3b067_38 : decode cJ2_getChar_3b067 38 = .ok (.sipush 255, 3) := by decide +kernel
theorem dJ2_getChar_3b067_41 : decode cJ2_getChar_3b067 41 = .ok (.iand, 1) := by decide +kernel
theorem dJ2_getChar_3b067_42 : decode cJ2_getChar_3b067 42 = .ok (.getstatic 59, 3) := by decide +kernel
theorem dJ2_getChar_3b067_45 : decode cJ2_getChar_3b067 45 = .ok (.ishl, 1) := by decide +kernel
theorem dJ2_getChar_3b067_46 : decode cJ2_getChar_3b067 46 = .ok (.aload_n 0, 1) := by decide +kernel
theorem dJ2_getChar_3b067_47 : decode cJ2_getChar_3b067 47 = .ok (.iload_n 1, 1) := by decide +kernel
theorem dJ2_getChar_3b067_48 : decode cJ2_getChar_3b067 48 = .ok (.baload, 1) := by decide +kernel
theorem dJ2_getChar_3b067_49 : decode cJ2_getChar_3b067 49 = .ok (.sipush 255, 3) := by decide +kernel
theorem dJ2_getChar_3b067_52 : decode cJ2_getChar_3b067 52 = .ok (.iand, 1) := by decide +kernel
theorem dJ2_getChar_3b067_53 : decode cJ2_getChar_3b067 53 = .ok (.getstatic 63, 3) := by decide +kernel
theorem dJ2_getChar_3b067_56 : decode cJ2_getChar_3b067 56 = .ok (.ishl, 1) := by decide +kernel
theorem dJ2_getChar_3b067_57 : decode cJ2_getChar_3b067 57 = .ok (.ior, 1) := by decide +kernel
theorem dJ2_getChar_3b067_58 : decode cJ2_getChar_3b067 58 = .ok (.i2c, 1) := by decide +kernel
theorem dJ2_getChar_3b067_59 : decode cJ2_getChar_3b067 59 = .ok (.ireturn, 1) := by decide +kernel
theorem dJ2_length_9d52b_0 : decode cJ2_length_9d52b 0 = .ok (.aload_n 0, 1) := by decide +kernel
theorem dJ2_length_9d52b_1 : decode cJ2_length_9d52b 1 = .ok (.arraylength, 1) := by decide +kernel
theorem dJ2_length_9d52b_2 : decode cJ2_length_9d52b 2 = .ok (.iconst 1, 1) := by decide +kernel
theorem dJ2_length_9d52b_3 : decode cJ2_length_9d52b 3 = .ok (.ishr, 1) := by decide +kernel
theorem dJ2_length_9d52b_4 : decode cJ2_length_9d52b 4 = .ok (.ireturn, 1) := by decide +kernel
theorem dJ2_charAt_3b067_0 : decode cJ2_charAt_3b067 0 = .ok (.iload_n 1, 1) := by decide +kernel
theorem dJ2_charAt_3b067_1 : decode cJ2_charAt_3b067 1 = .ok (.aload_n 0, 1) := by decide +kernel
theorem dJ2_charAt_3b067_2 : decode cJ2_charAt_3b067 2 = .ok (.invokestatic 67, 3) := by decide +kernel
theorem dJ2_charAt_3b067_5 : decode cJ2_charAt_3b067 5 = .ok (.aload_n 0, 1) := by decide +kernel
theorem dJ2_charAt_3b067_6 : decode cJ2_charAt_3b067 6 = .ok (.iload_n 1, 1) := by decide +kernel
theorem dJ2_charAt_3b067_7 : decode cJ2_charAt_3b067 7 = .ok (.invokestatic 71, 3) := by decide +kernel
theorem dJ2_charAt_3b067_10 : decode cJ2_charAt_3b067 10 = .ok (.ireturn, 1) := by decide +kernel
theorem dJ2_checkIndex_2214a_0 : decode cJ2_checkIndex_2214a 0 = .ok (.iload_n 0, 1) := by decide +kernel
theorem dJ2_checkIndex_2214a_1 : decode cJ2_checkIndex_2214a 1 = .ok (.aload_n 1, 1) := by decide +kernel
theorem dJ2_checkIndex_2214a_2 : decode cJ2_checkIndex_2214a 2 = .ok (.invokestatic 48, 3) := by decide +kernel
theorem dJ2_checkIndex_2214a_5 : decode cJ2_checkIndex_2214a 5 = .ok (.invokestatic 414, 3) := by decide +kernel
theorem dJ2_checkIndex_2214a_8 : decode cJ2_checkIndex_2214a 8 = .ok (.return_, 1) := by decide +kernel
theorem dJ7_fill_53178_0 : decode cJ7_fill_53178 0 = .ok (.iconst 0, 1) := by decide +kernel
theorem dJ7_fill_53178_1 : decode cJ7_fill_53178 1 = .ok (.istore_n 2, 1) := by decide +kernel
theorem dJ7_fill_53178_2 : decode cJ7_fill_53178 2 = .ok (.aload_n 0, 1) := by decide +kernel
theorem dJ7_fill_53178_3 : decode cJ7_fill_53178 3 = .ok (.arraylength, 1) := by decide +kernel
theorem dJ7_fill_53178_4 : decode cJ7_fill_53178 4 = .ok (.istore_n 3, 1) := by decide +kernel
theorem dJ7_fill_53178_5 : decode cJ7_fill_53178 5 = .ok (.iload_n 2, 1) := by decide +kernel
theorem dJ7_fill_53178_6 : decode cJ7_fill_53178 6 = .ok (.iload_n 3, 1) := by decide +kernel
theorem dJ7_fill_53178_7 : decode cJ7_fill_53178 7 = .ok (.if_icmp .ge 13, 3) := by decide +kernel
theorem dJ7_fill_53178_10 : decode cJ7_fill_53178 10 = .ok (.aload_n 0, 1) := by decide +kernel
theorem dJ7_fill_53178_11 : decode cJ7_fill_53178 11 = .ok (.iload_n 2, 1) := by decide +kernel
theorem dJ7_fill_53178_12 : decode cJ7_fill_53178 12 = .ok (.iload_n 1, 1) := by decide +kernel
theorem dJ7_fill_53178_13 : decode cJ7_fill_53178 13 = .ok (.iastore, 1) := by decide +kernel
theorem dJ7_fill_53178_14 : decode cJ7_fill_53178 14 = .ok (.iinc 2 1, 3) := by decide +kernel
theorem dJ7_fill_53178_17 : decode cJ7_fill_53178 17 = .ok (.goto (-12), 3) := by decide +kernel
theorem dJ7_fill_53178_20 : decode cJ7_fill_53178 20 = .ok (.return_, 1) := by decide +kernel
theorem dJ7_copyOf_59c91_0 : decode cJ7_copyOf_59c91 0 = .ok (.iload_n 1, 1) := by decide +kernel
theorem dJ7_copyOf_59c91_1 : decode cJ7_copyOf_59c91 1 = .ok (.aload_n 0, 1) := by decide +kernel
theorem dJ7_copyOf_59c91_2 : decode cJ7_copyOf_59c91 2 = .ok (.arraylength, 1) := by decide +kernel
theorem dJ7_copyOf_59c91_3 : decode cJ7_copyOf_59c91 3 = .ok (.if_icmp .ne 11, 3) := by decide +kernel
theorem dJ7_copyOf_59c91_6 : decode cJ7_copyOf_59c91 6 = .ok (.aload_n 0, 1) := by decide +kernel
theorem dJ7_copyOf_59c91_7 : decode cJ7_copyOf_59c91 7 = .ok (.invokevirtual 316, 3) := by decide +kernel
theorem dJ7_copyOf_59c91_10 : decode cJ7_copyOf_59c91 10 = .ok (.checkcast 317, 3) := by decide +kernel
theorem dJ7_copyOf_59c91_13 : decode cJ7_copyOf_59c91 13 = .ok (.areturn, 1) := by decide +kernel
theorem dJ7_copyOf_59c91_14 : decode cJ7_copyOf_59c91 14 = .ok (.iload_n 1, 1) := by decide +kernel
theorem dJ7_copyOf_59c91_15 : decode cJ7_copyOf_59c91 15 = .ok (.newarray .int, 2) := by decide +kernel
theorem dJ7_copyOf_59c91_17 : decode cJ7_copyOf_59c91 17 = .ok (.astore_n 2, 1) := by decide +kernel
theorem dJ7_copyOf_59c91_18 : decode cJ7_copyOf_59c91 18 = .ok (.aload_n 0, 1) := by decide +kernel
theorem dJ7_copyOf_59c91_19 : decode cJ7_copyOf_59c91 19 = .ok (.iconst 0, 1) := by decide +kernel
theorem dJ7_copyOf_59c91_20 : decode cJ7_copyOf_59c91 20 = .ok (.aload_n 2, 1) := by decide +kernel
theorem dJ7_copyOf_59c91_21 : decode cJ7_copyOf_59c91 21 = .ok (.iconst 0, 1) := by decide +kernel
theorem dJ7_copyOf_59c91_22 : decode cJ7_copyOf_59c91 22 = .ok (.aload_n 0, 1) := by decide +kernel
theorem dJ7_copyOf_59c91_23 : decode cJ7_copyOf_59c91 23 = .ok (.arraylength, 1) := by decide +kernel
theorem dJ7_copyOf_59c91_24 : decode cJ7_copyOf_59c91 24 = .ok (.iload_n 1, 1) := by decide +kernel
theorem dJ7_copyOf_59c91_25 : decode cJ7_copyOf_59c91 25 = .ok (.invokestatic 304, 3) := by decide +kernel
theorem dJ7_copyOf_59c91_28 : decode cJ7_copyOf_59c91 28 = .ok (.invokestatic 150, 3) := by decide +kernel
theorem dJ7_copyOf_59c91_31 : decode cJ7_copyOf_59c91 31 = .ok (.aload_n 2, 1) := by decide +kernel
theorem dJ7_copyOf_59c91_32 : decode cJ7_copyOf_59c91 32 = .ok (.areturn, 1) := by decide +kernel
theorem dJ7_copyOf_c38d5_0 : decode cJ7_copyOf_c38d5 0 = .ok (.iload_n 1, 1) := by decide +kernel
theorem dJ7_copyOf_c38d5_1 : decode cJ7_copyOf_c38d5 1 = .ok (.aload_n 0, 1) := by decide +kernel
theorem dJ7_copyOf_c38d5_2 : decode cJ7_copyOf_c38d5 2 = .ok (.arraylength, 1) := by decide +kernel
theorem dJ7_copyOf_c38d5_3 : decode cJ7_copyOf_c38d5 3 = .ok (.if_icmp .ne 11, 3) := by decide +kernel
theorem dJ7_copyOf_c38d5_6 : decode cJ7_copyOf_c38d5 6 = .ok (.aload_n 0, 1) := by decide +kernel
theorem dJ7_copyOf_c38d5_7 : decode cJ7_copyOf_c38d5 7 = .ok (.invokevirtual 319, 3) := by decide +kernel
theorem dJ7_copyOf_c38d5_10 : decode cJ7_copyOf_c38d5 10 = .ok (.checkcast 320, 3) := by decide +kernel
theorem dJ7_copyOf_c38d5_13 : decode cJ7_copyOf_c38d5 13 = .ok (.areturn, 1) := by decide +kernel
theorem dJ7_copyOf_c38d5_14 : decode cJ7_copyOf_c38d5 14 = .ok (.iload_n 1, 1) := by decide +kernel
theorem dJ7_copyOf_c38d5_15 : decode cJ7_copyOf_c38d5 15 = .ok (.newarray .long, 2) := by decide +kernel
theorem dJ7_copyOf_c38d5_17 : decode cJ7_copyOf_c38d5 17 = .ok (.astore_n 2, 1) := by decide +kernel
theorem dJ7_copyOf_c38d5_18 : decode cJ7_copyOf_c38d5 18 = .ok (.aload_n 0, 1) := by decide +kernel
theorem dJ7_copyOf_c38d5_19 : decode cJ7_copyOf_c38d5 19 = .ok (.iconst 0, 1) := by decide +kernel
theorem dJ7_copyOf_c38d5_20 : decode cJ7_copyOf_c38d5 20 = .ok (.aload_n 2, 1) := by decide +kernel
theorem dJ7_copyOf_c38d5_21 : decode cJ7_copyOf_c38d5 21 = .ok (.iconst 0, 1) := by decide +kernel
theorem dJ7_copyOf_c38d5_22 : decode cJ7_copyOf_c38d5 22 = .ok (.aload_n 0, 1) := by decide +kernel
theorem dJ7_copyOf_c38d5_23 : decode cJ7_copyOf_c38d5 23 = .ok (.arraylength, 1) := by decide +kernel
theorem dJ7_copyOf_c38d5_24 : decode cJ7_copyOf_c38d5 24 = .ok (.iload_n 1, 1) := by decide +kernel
theorem dJ7_copyOf_c38d5_25 : decode cJ7_copyOf_c38d5 25 = .ok (.invokestatic 304, 3) := by decide +kernel
theorem dJ7_copyOf_c38d5_28 : decode cJ7_copyOf_c38d5 28 = .ok (.invokestatic 150, 3) := by decide +kernel
theorem dJ7_copyOf_c38d5_31 : decode cJ7_copyOf_c38d5 31 = .ok (.aload_n 2, 1) := by decide +kernel
theorem dJ7_copyOf_c38d5_32 : decode cJ7_copyOf_c38d5 32 = .ok (.areturn, 1) := by decide +kernel
theorem dJ3_checkIndex_8e157_0 : decode cJ3_checkIndex_8e157 0 = .ok (.iload_n 0, 1) := by decide +kernel
theorem dJ3_checkIndex_8e157_1 : decode cJ3_checkIndex_8e157 1 = .ok (.ifCond .lt 8, 3) := by decide +kernel
theorem dJ3_checkIndex_8e157_4 : decode cJ3_checkIndex_8e157 4 = .ok (.iload_n 0, 1) := by decide +kernel
theorem dJ3_checkIndex_8e157_5 : decode cJ3_checkIndex_8e157 5 = .ok (.iload_n 1, 1) := by decide +kernel
theorem dJ3_checkIndex_8e157_6 : decode cJ3_checkIndex_8e157 6 = .ok (.if_icmp .lt 10, 3) := by decide +kernel
theorem dJ3_checkIndex_8e157_9 : decode cJ3_checkIndex_8e157 9 = .ok (.aload_n 2, 1) := by decide +kernel
theorem dJ3_checkIndex_8e157_10 : decode cJ3_checkIndex_8e157 10 = .ok (.iload_n 0, 1) := by decide +kernel
theorem dJ3_checkIndex_8e157_11 : decode cJ3_checkIndex_8e157 11 = .ok (.iload_n 1, 1) := by decide +kernel
theorem dJ3_checkIndex_8e157_12 : decode cJ3_checkIndex_8e157 12 = .ok (.invokestatic 95, 3) := by decide +kernel
theorem dJ3_checkIndex_8e157_15 : decode cJ3_checkIndex_8e157 15 = .ok (.athrow, 1) := by decide +kernel
theorem dJ3_checkIndex_8e157_16 : decode cJ3_checkIndex_8e157 16 = .ok (.iload_n 0, 1) := by decide +kernel
theorem dJ3_checkIndex_8e157_17 : decode cJ3_checkIndex_8e157 17 = .ok (.ireturn, 1) := by decide +kernel
theorem dL_court_0 : decode cL_court 0 = .ok (.aload_n 1, 1) := by decide +kernel
theorem dL_court_1 : decode cL_court 1 = .ok (.iconst 0, 1) := by decide +kernel
theorem dL_court_2 : decode cL_court 2 = .ok (.aload_n 0, 1) := by decide +kernel
theorem dL_court_3 : decode cL_court 3 = .ok (.invokevirtual 7, 3) := by decide +kernel
theorem dL_court_6 : decode cL_court 6 = .ok (.i2l, 1) := by decide +kernel
theorem dL_court_7 : decode cL_court 7 = .ok (.lastore, 1) := by decide +kernel
theorem dL_court_8 : decode cL_court 8 = .ok (.goto 9, 3) := by decide +kernel
theorem dL_court_11 : decode cL_court 11 = .ok (.astore_n 2, 1) := by decide +kernel
theorem dL_court_12 : decode cL_court 12 = .ok (.iconst 1, 1) := by decide +kernel
theorem dL_court_13 : decode cL_court 13 = .ok (.ireturn, 1) := by decide +kernel
theorem dL_court_14 : decode cL_court 14 = .ok (.astore_n 2, 1) := by decide +kernel
theorem dL_court_15 : decode cL_court 15 = .ok (.iconst 2, 1) := by decide +kernel
theorem dL_court_16 : decode cL_court 16 = .ok (.ireturn, 1) := by decide +kernel
theorem dL_court_17 : decode cL_court 17 = .ok (.iconst 0, 1) := by decide +kernel
theorem dL_court_18 : decode cL_court 18 = .ok (.ireturn, 1) := by decide +kernel
theorem dL_rule_0 : decode cL_rule 0 = .ok (.aload_n 1, 1) := by decide +kernel
theorem dL_rule_1 : decode cL_rule 1 = .ok (.iconst 0, 1) := by decide +kernel
theorem dL_rule_2 : decode cL_rule 2 = .ok (.aload_n 0, 1) := by decide +kernel
theorem dL_rule_3 : decode cL_rule 3 = .ok (.invokevirtual 17, 3) := by decide +kernel
theorem dL_rule_6 : decode cL_rule 6 = .ok (.i2l, 1) := by decide +kernel
theorem dL_rule_7 : decode cL_rule 7 = .ok (.lastore, 1) := by decide +kernel
theorem dL_rule_8 : decode cL_rule 8 = .ok (.goto 9, 3) := by decide +kernel
theorem dL_rule_11 : decode cL_rule 11 = .ok (.astore_n 2, 1) := by decide +kernel
theorem dL_rule_12 : decode cL_rule 12 = .ok (.iconst 1, 1) := by decide +kernel
theorem dL_rule_13 : decode cL_rule 13 = .ok (.ireturn, 1) := by decide +kernel
theorem dL_rule_14 : decode cL_rule 14 = .ok (.astore_n 2, 1) := by decide +kernel
theorem dL_rule_15 : decode cL_rule 15 = .ok (.iconst 2, 1) := by decide +kernel
theorem dL_rule_16 : decode cL_rule 16 = .ok (.ireturn, 1) := by decide +kernel
theorem dL_rule_17 : decode cL_rule 17 = .ok (.iconst 0, 1) := by decide +kernel
theorem dL_rule_18 : decode cL_rule 18 = .ok (.ireturn, 1) := by decide +kernel
theorem dL_look_0 : decode cL_look 0 = .ok (.aload 4, 2) := by decide +kernel
theorem dL_look_2 : decode cL_look 2 = .ok (.iconst 0, 1) := by decide +kernel
theorem dL_look_3 : decode cL_look 3 = .ok (.aload_n 0, 1) := by decide +kernel
theorem dL_look_4 : decode cL_look 4 = .ok (.iload_n 1, 1) := by decide +kernel
theorem dL_look_5 : decode cL_look 5 = .ok (.iload_n 2, 1) := by decide +kernel
theorem dL_look_6 : decode cL_look 6 = .ok (.iload_n 3, 1) := by decide +kernel
theorem dL_look_7 : decode cL_look 7 = .ok (.invokevirtual 20, 3) := by decide +kernel
theorem dL_look_10 : decode cL_look 10 = .ok (.i2l, 1) := by decide +kernel
theorem dL_look_11 : decode cL_look 11 = .ok (.lastore, 1) := by decide +kernel
theorem dL_look_12 : decode cL_look 12 = .ok (.goto 11, 3) := by decide +kernel
theorem dL_look_15 : decode cL_look 15 = .ok (.astore 5, 2) := by decide +kernel
theorem dL_look_17 : decode cL_look 17 = .ok (.iconst 1, 1) := by decide +kernel
theorem dL_look_18 : decode cL_look 18 = .ok (.ireturn, 1) := by decide +kernel
theorem dL_look_19 : decode cL_look 19 = .ok (.astore 5, 2) := by decide +kernel
theorem dL_look_21 : decode cL_look 21 = .ok (.iconst 2, 1) := by decide +kernel
theorem dL_look_22 : decode cL_look 22 = .ok (.ireturn, 1) := by decide +kernel
theorem dL_look_23 : decode cL_look 23 = .ok (.iconst 0, 1) := by decide +kernel
theorem dL_look_24 : decode cL_look 24 = .ok (.ireturn, 1) := by decide +kernel
theorem dL_plays_0 : decode cL_plays 0 = .ok (.aload_n 3, 1) := by decide +kernel
theorem dL_plays_1 : decode cL_plays 1 = .ok (.iconst 0, 1) := by decide +kernel
theorem dL_plays_2 : decode cL_plays 2 = .ok (.aload_n 0, 1) := by decide +kernel
theorem dL_plays_3 : decode cL_plays 3 = .ok (.iload_n 1, 1) := by decide +kernel
theorem dL_plays_4 : decode cL_plays 4 = .ok (.iload_n 2, 1) := by decide +kernel
theorem dL_plays_5 : decode cL_plays 5 = .ok (.invokevirtual 28, 3) := by decide +kernel
theorem dL_plays_8 : decode cL_plays 8 = .ok (.i2l, 1) := by decide +kernel
theorem dL_plays_9 : decode cL_plays 9 = .ok (.lastore, 1) := by decide +kernel
theorem dL_plays_10 : decode cL_plays 10 = .ok (.goto 7, 3) := by decide +kernel
theorem dL_plays_13 : decode cL_plays 13 = .ok (.astore 4, 2) := by decide +kernel
theorem dL_plays_15 : decode cL_plays 15 = .ok (.iconst 1, 1) := by decide +kernel
theorem dL_plays_16 : decode cL_plays 16 = .ok (.ireturn, 1) := by decide +kernel
theorem dL_plays_17 : decode cL_plays 17 = .ok (.iconst 0, 1) := by decide +kernel
theorem dL_plays_18 : decode cL_plays 18 = .ok (.ireturn, 1) := by decide +kernel
theorem dL_style_0 : decode cL_style 0 = .ok (.aload_n 2, 1) := by decide +kernel
theorem dL_style_1 : decode cL_style 1 = .ok (.iconst 0, 1) := by decide +kernel
theorem dL_style_2 : decode cL_style 2 = .ok (.aload_n 0, 1) := by decide +kernel
theorem dL_style_3 : decode cL_style 3 = .ok (.iload_n 1, 1) := by decide +kernel
theorem dL_style_4 : decode cL_style 4 = .ok (.invokevirtual 32, 3) := by decide +kernel
theorem dL_style_7 : decode cL_style 7 = .ok (.i2l, 1) := by decide +kernel
theorem dL_style_8 : decode cL_style 8 = .ok (.lastore, 1) := by decide +kernel
theorem dL_style_9 : decode cL_style 9 = .ok (.goto 6, 3) := by decide +kernel
theorem dL_style_12 : decode cL_style 12 = .ok (.astore_n 3, 1) := by decide +kernel
theorem dL_style_13 : decode cL_style 13 = .ok (.iconst 1, 1) := by decide +kernel
theorem dL_style_14 : decode cL_style 14 = .ok (.ireturn, 1) := by decide +kernel
theorem dL_style_15 : decode cL_style 15 = .ok (.iconst 0, 1) := by decide +kernel
theorem dL_style_16 : decode cL_style 16 = .ok (.ireturn, 1) := by decide +kernel
theorem dL_score_0 : decode cL_score 0 = .ok (.aload_n 0, 1) := by decide +kernel
theorem dL_score_1 : decode cL_score 1 = .ok (.iload_n 1, 1) := by decide +kernel
theorem dL_score_2 : decode cL_score 2 = .ok (.iload_n 2, 1) := by decide +kernel
theorem dL_score_3 : decode cL_score 3 = .ok (.iload_n 3, 1) := by decide +kernel
theorem dL_score_4 : decode cL_score 4 = .ok (.invokevirtual 36, 3) := by decide +kernel
theorem dL_score_7 : decode cL_score 7 = .ok (.goto 11, 3) := by decide +kernel
theorem dL_score_10 : decode cL_score 10 = .ok (.astore 4, 2) := by decide +kernel
theorem dL_score_12 : decode cL_score 12 = .ok (.iconst 1, 1) := by decide +kernel
theorem dL_score_13 : decode cL_score 13 = .ok (.ireturn, 1) := by decide +kernel
theorem dL_score_14 : decode cL_score 14 = .ok (.astore 4, 2) := by decide +kernel
theorem dL_score_16 : decode cL_score 16 = .ok (.iconst 2, 1) := by decide +kernel
theorem dL_score_17 : decode cL_score 17 = .ok (.ireturn, 1) := by decide +kernel
theorem dL_score_18 : decode cL_score 18 = .ok (.iconst 0, 1) := by decide +kernel
theorem dL_score_19 : decode cL_score 19 = .ok (.ireturn, 1) := by decide +kernel
theorem dL_games_0 : decode cL_games 0 = .ok (.aload_n 0, 1) := by decide +kernel
theorem dL_games_1 : decode cL_games 1 = .ok (.iload_n 1, 1) := by decide +kernel
theorem dL_games_2 : decode cL_games 2 = .ok (.iload_n 2, 1) := by decide +kernel
theorem dL_games_3 : decode cL_games 3 = .ok (.invokevirtual 40, 3) := by decide +kernel
theorem dL_games_6 : decode cL_games 6 = .ok (.goto 6, 3) := by decide +kernel
theorem dL_games_9 : decode cL_games 9 = .ok (.astore_n 3, 1) := by decide +kernel
theorem dL_games_10 : decode cL_games 10 = .ok (.iconst 1, 1) := by decide +kernel
theorem dL_games_11 : decode cL_games 11 = .ok (.ireturn, 1) := by decide +kernel
theorem dL_games_12 : decode cL_games 12 = .ok (.iconst 0, 1) := by decide +kernel
theorem dL_games_13 : decode cL_games 13 = .ok (.ireturn, 1) := by decide +kernel
theorem dL_begin_0 : decode cL_begin 0 = .ok (.aload_n 0, 1) := by decide +kernel
theorem dL_begin_1 : decode cL_begin 1 = .ok (.iload_n 1, 1) := by decide +kernel
theorem dL_begin_2 : decode cL_begin 2 = .ok (.iload_n 2, 1) := by decide +kernel
theorem dL_begin_3 : decode cL_begin 3 = .ok (.invokevirtual 44, 3) := by decide +kernel
theorem dL_begin_6 : decode cL_begin 6 = .ok (.goto 6, 3) := by decide +kernel
theorem dL_begin_9 : decode cL_begin 9 = .ok (.astore_n 3, 1) := by decide +kernel
theorem dL_begin_10 : decode cL_begin 10 = .ok (.iconst 1, 1) := by decide +kernel
theorem dL_begin_11 : decode cL_begin 11 = .ok (.ireturn, 1) := by decide +kernel
theorem dL_begin_12 : decode cL_begin 12 = .ok (.iconst 0, 1) := by decide +kernel
theorem dL_begin_13 : decode cL_begin 13 = .ok (.ireturn, 1) := by decide +kernel
theorem dL_stands_0 : decode cL_stands 0 = .ok (.aload_n 2, 1) := by decide +kernel
theorem dL_stands_1 : decode cL_stands 1 = .ok (.iconst 0, 1) := by decide +kernel
theorem dL_stands_2 : decode cL_stands 2 = .ok (.aload_n 0, 1) := by decide +kernel
theorem dL_stands_3 : decode cL_stands 3 = .ok (.iload_n 1, 1) := by decide +kernel
theorem dL_stands_4 : decode cL_stands 4 = .ok (.invokevirtual 47, 3) := by decide +kernel
theorem dL_stands_7 : decode cL_stands 7 = .ok (.i2l, 1) := by decide +kernel
theorem dL_stands_8 : decode cL_stands 8 = .ok (.lastore, 1) := by decide +kernel
theorem dL_stands_9 : decode cL_stands 9 = .ok (.goto 6, 3) := by decide +kernel
theorem dL_stands_12 : decode cL_stands 12 = .ok (.astore_n 3, 1) := by decide +kernel
theorem dL_stands_13 : decode cL_stands 13 = .ok (.iconst 1, 1) := by decide +kernel
theorem dL_stands_14 : decode cL_stands 14 = .ok (.ireturn, 1) := by decide +kernel
theorem dL_stands_15 : decode cL_stands 15 = .ok (.iconst 0, 1) := by decide +kernel
theorem dL_stands_16 : decode cL_stands 16 = .ok (.ireturn, 1) := by decide +kernel
theorem dL_rally_0 : decode cL_rally 0 = .ok (.aload_n 3, 1) := by decide +kernel
theorem dL_rally_1 : decode cL_rally 1 = .ok (.iconst 0, 1) := by decide +kernel
theorem dL_rally_2 : decode cL_rally 2 = .ok (.aload_n 0, 1) := by decide +kernel
theorem dL_rally_3 : decode cL_rally 3 = .ok (.iload_n 1, 1) := by decide +kernel
theorem dL_rally_4 : decode cL_rally 4 = .ok (.iload_n 2, 1) := by decide +kernel
theorem dL_rally_5 : decode cL_rally 5 = .ok (.invokevirtual 50, 3) := by decide +kernel
theorem dL_rally_8 : decode cL_rally 8 = .ok (.i2l, 1) := by decide +kernel
theorem dL_rally_9 : decode cL_rally 9 = .ok (.lastore, 1) := by decide +kernel
theorem dL_rally_10 : decode cL_rally 10 = .ok (.goto 15, 3) := by decide +kernel
theorem dL_rally_13 : decode cL_rally 13 = .ok (.astore 4, 2) := by decide +kernel
theorem dL_rally_15 : decode cL_rally 15 = .ok (.iconst 1, 1) := by decide +kernel
theorem dL_rally_16 : decode cL_rally 16 = .ok (.ireturn, 1) := by decide +kernel
theorem dL_rally_17 : decode cL_rally 17 = .ok (.astore 4, 2) := by decide +kernel
theorem dL_rally_19 : decode cL_rally 19 = .ok (.iconst 2, 1) := by decide +kernel
theorem dL_rally_20 : decode cL_rally 20 = .ok (.ireturn, 1) := by decide +kernel
theorem dL_rally_21 : decode cL_rally 21 = .ok (.astore 4, 2) := by decide +kernel
theorem dL_rally_23 : decode cL_rally 23 = .ok (.iconst 3, 1) := by decide +kernel
theorem dL_rally_24 : decode cL_rally 24 = .ok (.ireturn, 1) := by decide +kernel
theorem dL_rally_25 : decode cL_rally 25 = .ok (.iconst 0, 1) := by decide +kernel
theorem dL_rally_26 : decode cL_rally 26 = .ok (.ireturn, 1) := by decide +kernel
theorem dL_bisque_0 : decode cL_bisque 0 = .ok (.aload_n 2, 1) := by decide +kernel
theorem dL_bisque_1 : decode cL_bisque 1 = .ok (.iconst 0, 1) := by decide +kernel
theorem dL_bisque_2 : decode cL_bisque 2 = .ok (.aload_n 0, 1) := by decide +kernel
theorem dL_bisque_3 : decode cL_bisque 3 = .ok (.iload_n 1, 1) := by decide +kernel
theorem dL_bisque_4 : decode cL_bisque 4 = .ok (.invokevirtual 55, 3) := by decide +kernel
theorem dL_bisque_7 : decode cL_bisque 7 = .ok (.ifCond .eq 7, 3) := by decide +kernel
theorem dL_bisque_10 : decode cL_bisque 10 = .ok (.lconst 1, 1) := by decide +kernel
theorem dL_bisque_11 : decode cL_bisque 11 = .ok (.goto 4, 3) := by decide +kernel
theorem dL_bisque_14 : decode cL_bisque 14 = .ok (.lconst 0, 1) := by decide +kernel
theorem dL_bisque_15 : decode cL_bisque 15 = .ok (.lastore, 1) := by decide +kernel
theorem dL_bisque_16 : decode cL_bisque 16 = .ok (.goto 9, 3) := by decide +kernel
theorem dL_bisque_19 : decode cL_bisque 19 = .ok (.astore_n 3, 1) := by decide +kernel
theorem dL_bisque_20 : decode cL_bisque 20 = .ok (.iconst 1, 1) := by decide +kernel
theorem dL_bisque_21 : decode cL_bisque 21 = .ok (.ireturn, 1) := by decide +kernel
theorem dL_bisque_22 : decode cL_bisque 22 = .ok (.astore_n 3, 1) := by decide +kernel
theorem dL_bisque_23 : decode cL_bisque 23 = .ok (.iconst 2, 1) := by decide +kernel
theorem dL_bisque_24 : decode cL_bisque 24 = .ok (.ireturn, 1) := by decide +kernel
theorem dL_bisque_25 : decode cL_bisque 25 = .ok (.iconst 0, 1) := by decide +kernel
theorem dL_bisque_26 : decode cL_bisque 26 = .ok (.ireturn, 1) := by decide +kernel
theorem dL_chance_0 : decode cL_chance 0 = .ok (.aload_n 3, 1) := by decide +kernel
theorem dL_chance_1 : decode cL_chance 1 = .ok (.iconst 0, 1) := by decide +kernel
theorem dL_chance_2 : decode cL_chance 2 = .ok (.aload_n 0, 1) := by decide +kernel
theorem dL_chance_3 : decode cL_chance 3 = .ok (.iload_n 1, 1) := by decide +kernel
theorem dL_chance_4 : decode cL_chance 4 = .ok (.iload_n 2, 1) := by decide +kernel
theorem dL_chance_5 : decode cL_chance 5 = .ok (.invokevirtual 59, 3) := by decide +kernel
theorem dL_chance_8 : decode cL_chance 8 = .ok (.i2l, 1) := by decide +kernel
theorem dL_chance_9 : decode cL_chance 9 = .ok (.lastore, 1) := by decide +kernel
theorem dL_chance_10 : decode cL_chance 10 = .ok (.goto 15, 3) := by decide +kernel
theorem dL_chance_13 : decode cL_chance 13 = .ok (.astore 4, 2) := by decide +kernel
theorem dL_chance_15 : decode cL_chance 15 = .ok (.iconst 1, 1) := by decide +kernel
theorem dL_chance_16 : decode cL_chance 16 = .ok (.ireturn, 1) := by decide +kernel
theorem dL_chance_17 : decode cL_chance 17 = .ok (.astore 4, 2) := by decide +kernel
theorem dL_chance_19 : decode cL_chance 19 = .ok (.iconst 2, 1) := by decide +kernel
theorem dL_chance_20 : decode cL_chance 20 = .ok (.ireturn, 1) := by decide +kernel
theorem dL_chance_21 : decode cL_chance 21 = .ok (.astore 4, 2) := by decide +kernel
theorem dL_chance_23 : decode cL_chance 23 = .ok (.iconst 3, 1) := by decide +kernel
theorem dL_chance_24 : decode cL_chance 24 = .ok (.ireturn, 1) := by decide +kernel
theorem dL_chance_25 : decode cL_chance 25 = .ok (.iconst 0, 1) := by decide +kernel
theorem dL_chance_26 : decode cL_chance 26 = .ok (.ireturn, 1) := by decide +kernel
theorem dL_best_0 : decode cL_best 0 = .ok (.aload 4, 2) := by decide +kernel
theorem dL_best_2 : decode cL_best 2 = .ok (.iconst 0, 1) := by decide +kernel
theorem dL_best_3 : decode cL_best 3 = .ok (.aload_n 0, 1) := by decide +kernel
theorem dL_best_4 : decode cL_best 4 = .ok (.iload_n 1, 1) := by decide +kernel
theorem dL_best_5 : decode cL_best 5 = .ok (.iload_n 2, 1) := by decide +kernel
theorem dL_best_6 : decode cL_best 6 = .ok (.iload_n 3, 1) := by decide +kernel
theorem dL_best_7 : decode cL_best 7 = .ok (.invokevirtual 62, 3) := by decide +kernel
theorem dL_best_10 : decode cL_best 10 = .ok (.i2l, 1) := by decide +kernel
theorem dL_best_11 : decode cL_best 11 = .ok (.lastore, 1) := by decide +kernel
theorem dL_best_12 : decode cL_best 12 = .ok (.goto 15, 3) := by decide +kernel
theorem dL_best_15 : decode cL_best 15 = .ok (.astore 5, 2) := by decide +kernel
theorem dL_best_17 : decode cL_best 17 = .ok (.iconst 1, 1) := by decide +kernel
theorem dL_best_18 : decode cL_best 18 = .ok (.ireturn, 1) := by decide +kernel
theorem dL_best_19 : decode cL_best 19 = .ok (.astore 5, 2) := by decide +kernel
theorem dL_best_21 : decode cL_best 21 = .ok (.iconst 2, 1) := by decide +kernel
theorem dL_best_22 : decode cL_best 22 = .ok (.ireturn, 1) := by decide +kernel
theorem dL_best_23 : decode cL_best 23 = .ok (.astore 5, 2) := by decide +kernel
theorem dL_best_25 : decode cL_best 25 = .ok (.iconst 3, 1) := by decide +kernel
theorem dL_best_26 : decode cL_best 26 = .ok (.ireturn, 1) := by decide +kernel
theorem dL_best_27 : decode cL_best 27 = .ok (.iconst 0, 1) := by decide +kernel
theorem dL_best_28 : decode cL_best 28 = .ok (.ireturn, 1) := by decide +kernel
theorem dL_saves_0 : decode cL_saves 0 = .ok (.aload 4, 2) := by decide +kernel
theorem dL_saves_2 : decode cL_saves 2 = .ok (.iconst 0, 1) := by decide +kernel
theorem dL_saves_3 : decode cL_saves 3 = .ok (.aload_n 0, 1) := by decide +kernel
theorem dL_saves_4 : decode cL_saves 4 = .ok (.iload_n 1, 1) := by decide +kernel
theorem dL_saves_5 : decode cL_saves 5 = .ok (.iload_n 2, 1) := by decide +kernel
theorem dL_saves_6 : decode cL_saves 6 = .ok (.iload_n 3, 1) := by decide +kernel
theorem dL_saves_7 : decode cL_saves 7 = .ok (.invokevirtual 66, 3) := by decide +kernel
theorem dL_saves_10 : decode cL_saves 10 = .ok (.i2l, 1) := by decide +kernel
theorem dL_saves_11 : decode cL_saves 11 = .ok (.lastore, 1) := by decide +kernel
theorem dL_saves_12 : decode cL_saves 12 = .ok (.goto 19, 3) := by decide +kernel
theorem dL_saves_15 : decode cL_saves 15 = .ok (.astore 5, 2) := by decide +kernel
theorem dL_saves_17 : decode cL_saves 17 = .ok (.iconst 1, 1) := by decide +kernel
theorem dL_saves_18 : decode cL_saves 18 = .ok (.ireturn, 1) := by decide +kernel
theorem dL_saves_19 : decode cL_saves 19 = .ok (.astore 5, 2) := by decide +kernel
theorem dL_saves_21 : decode cL_saves 21 = .ok (.iconst 2, 1) := by decide +kernel
theorem dL_saves_22 : decode cL_saves 22 = .ok (.ireturn, 1) := by decide +kernel
theorem dL_saves_23 : decode cL_saves 23 = .ok (.astore 5, 2) := by decide +kernel
theorem dL_saves_25 : decode cL_saves 25 = .ok (.iconst 3, 1) := by decide +kernel
theorem dL_saves_26 : decode cL_saves 26 = .ok (.ireturn, 1) := by decide +kernel
theorem dL_saves_27 : decode cL_saves 27 = .ok (.astore 5, 2) := by decide +kernel
theorem dL_saves_29 : decode cL_saves 29 = .ok (.iconst 4, 1) := by decide +kernel
theorem dL_saves_30 : decode cL_saves 30 = .ok (.ireturn, 1) := by decide +kernel
theorem dL_saves_31 : decode cL_saves 31 = .ok (.iconst 0, 1) := by decide +kernel
theorem dL_saves_32 : decode cL_saves 32 = .ok (.ireturn, 1) := by decide +kernel
theorem dL_worth_0 : decode cL_worth 0 = .ok (.aload 4, 2) := by decide +kernel
theorem dL_worth_2 : decode cL_worth 2 = .ok (.iconst 0, 1) := by decide +kernel
theorem dL_worth_3 : decode cL_worth 3 = .ok (.aload_n 0, 1) := by decide +kernel
theorem dL_worth_4 : decode cL_worth 4 = .ok (.iload_n 1, 1) := by decide +kernel
theorem dL_worth_5 : decode cL_worth 5 = .ok (.iload_n 2, 1) := by decide +kernel
theorem dL_worth_6 : decode cL_worth 6 = .ok (.iload_n 3, 1) := by decide +kernel
theorem dL_worth_7 : decode cL_worth 7 = .ok (.invokevirtual 69, 3) := by decide +kernel
theorem dL_worth_10 : decode cL_worth 10 = .ok (.i2l, 1) := by decide +kernel
theorem dL_worth_11 : decode cL_worth 11 = .ok (.lastore, 1) := by decide +kernel
theorem dL_worth_12 : decode cL_worth 12 = .ok (.goto 15, 3) := by decide +kernel
theorem dL_worth_15 : decode cL_worth 15 = .ok (.astore 5, 2) := by decide +kernel
theorem dL_worth_17 : decode cL_worth 17 = .ok (.iconst 1, 1) := by decide +kernel
theorem dL_worth_18 : decode cL_worth 18 = .ok (.ireturn, 1) := by decide +kernel
theorem dL_worth_19 : decode cL_worth 19 = .ok (.astore 5, 2) := by decide +kernel
theorem dL_worth_21 : decode cL_worth 21 = .ok (.iconst 2, 1) := by decide +kernel
theorem dL_worth_22 : decode cL_worth 22 = .ok (.ireturn, 1) := by decide +kernel
theorem dL_worth_23 : decode cL_worth 23 = .ok (.astore 5, 2) := by decide +kernel
theorem dL_worth_25 : decode cL_worth 25 = .ok (.iconst 3, 1) := by decide +kernel
theorem dL_worth_26 : decode cL_worth 26 = .ok (.ireturn, 1) := by decide +kernel
theorem dL_worth_27 : decode cL_worth 27 = .ok (.iconst 0, 1) := by decide +kernel
theorem dL_worth_28 : decode cL_worth 28 = .ok (.ireturn, 1) := by decide +kernel
theorem dL_set_0 : decode cL_set 0 = .ok (.aload_n 3, 1) := by decide +kernel
theorem dL_set_1 : decode cL_set 1 = .ok (.iconst 0, 1) := by decide +kernel
theorem dL_set_2 : decode cL_set 2 = .ok (.aload_n 0, 1) := by decide +kernel
theorem dL_set_3 : decode cL_set 3 = .ok (.iload_n 1, 1) := by decide +kernel
theorem dL_set_4 : decode cL_set 4 = .ok (.iload_n 2, 1) := by decide +kernel
theorem dL_set_5 : decode cL_set 5 = .ok (.invokevirtual 72, 3) := by decide +kernel
theorem dL_set_8 : decode cL_set 8 = .ok (.i2l, 1) := by decide +kernel
theorem dL_set_9 : decode cL_set 9 = .ok (.lastore, 1) := by decide +kernel
theorem dL_set_10 : decode cL_set 10 = .ok (.goto 15, 3) := by decide +kernel
theorem dL_set_13 : decode cL_set 13 = .ok (.astore 4, 2) := by decide +kernel
theorem dL_set_15 : decode cL_set 15 = .ok (.iconst 1, 1) := by decide +kernel
theorem dL_set_16 : decode cL_set 16 = .ok (.ireturn, 1) := by decide +kernel
theorem dL_set_17 : decode cL_set 17 = .ok (.astore 4, 2) := by decide +kernel
theorem dL_set_19 : decode cL_set 19 = .ok (.iconst 2, 1) := by decide +kernel
theorem dL_set_20 : decode cL_set 20 = .ok (.ireturn, 1) := by decide +kernel
theorem dL_set_21 : decode cL_set 21 = .ok (.astore 4, 2) := by decide +kernel
theorem dL_set_23 : decode cL_set 23 = .ok (.iconst 3, 1) := by decide +kernel
theorem dL_set_24 : decode cL_set 24 = .ok (.ireturn, 1) := by decide +kernel
theorem dL_set_25 : decode cL_set 25 = .ok (.iconst 0, 1) := by decide +kernel
theorem dL_set_26 : decode cL_set 26 = .ok (.ireturn, 1) := by decide +kernel
theorem dL_ways_0 : decode cL_ways 0 = .ok (.aload 5, 2) := by decide +kernel
theorem dL_ways_2 : decode cL_ways 2 = .ok (.iconst 0, 1) := by decide +kernel
theorem dL_ways_3 : decode cL_ways 3 = .ok (.aload_n 0, 1) := by decide +kernel
theorem dL_ways_4 : decode cL_ways 4 = .ok (.iload_n 1, 1) := by decide +kernel
theorem dL_ways_5 : decode cL_ways 5 = .ok (.iload_n 2, 1) := by decide +kernel
theorem dL_ways_6 : decode cL_ways 6 = .ok (.iload_n 3, 1) := by decide +kernel
theorem dL_ways_7 : decode cL_ways 7 = .ok (.iload 4, 2) := by decide +kernel
theorem dL_ways_9 : decode cL_ways 9 = .ok (.invokevirtual 75, 3) := by decide +kernel
theorem dL_ways_12 : decode cL_ways 12 = .ok (.i2l, 1) := by decide +kernel
theorem dL_ways_13 : decode cL_ways 13 = .ok (.lastore, 1) := by decide +kernel
theorem dL_ways_14 : decode cL_ways 14 = .ok (.goto 11, 3) := by decide +kernel
theorem dL_ways_17 : decode cL_ways 17 = .ok (.astore 6, 2) := by decide +kernel
theorem dL_ways_19 : decode cL_ways 19 = .ok (.iconst 1, 1) := by decide +kernel
theorem dL_ways_20 : decode cL_ways 20 = .ok (.ireturn, 1) := by decide +kernel
theorem dL_ways_21 : decode cL_ways 21 = .ok (.astore 6, 2) := by decide +kernel
theorem dL_ways_23 : decode cL_ways 23 = .ok (.iconst 2, 1) := by decide +kernel
theorem dL_ways_24 : decode cL_ways 24 = .ok (.ireturn, 1) := by decide +kernel
theorem dL_ways_25 : decode cL_ways 25 = .ok (.iconst 0, 1) := by decide +kernel
theorem dL_ways_26 : decode cL_ways 26 = .ok (.ireturn, 1) := by decide +kernel
theorem dL_even_0 : decode cL_even 0 = .ok (.aload_n 3, 1) := by decide +kernel
theorem dL_even_1 : decode cL_even 1 = .ok (.iconst 0, 1) := by decide +kernel
theorem dL_even_2 : decode cL_even 2 = .ok (.aload_n 0, 1) := by decide +kernel
theorem dL_even_3 : decode cL_even 3 = .ok (.iload_n 1, 1) := by decide +kernel
theorem dL_even_4 : decode cL_even 4 = .ok (.iload_n 2, 1) := by decide +kernel
theorem dL_even_5 : decode cL_even 5 = .ok (.invokevirtual 79, 3) := by decide +kernel
theorem dL_even_8 : decode cL_even 8 = .ok (.i2l, 1) := by decide +kernel
theorem dL_even_9 : decode cL_even 9 = .ok (.lastore, 1) := by decide +kernel
theorem dL_even_10 : decode cL_even 10 = .ok (.goto 7, 3) := by decide +kernel
theorem dL_even_13 : decode cL_even 13 = .ok (.astore 4, 2) := by decide +kernel
theorem dL_even_15 : decode cL_even 15 = .ok (.iconst 1, 1) := by decide +kernel
theorem dL_even_16 : decode cL_even 16 = .ok (.ireturn, 1) := by decide +kernel
theorem dL_even_17 : decode cL_even 17 = .ok (.iconst 0, 1) := by decide +kernel
theorem dL_even_18 : decode cL_even 18 = .ok (.ireturn, 1) := by decide +kernel
theorem dL_log_0 : decode cL_log 0 = .ok (.aload_n 2, 1) := by decide +kernel
theorem dL_log_1 : decode cL_log 1 = .ok (.iconst 0, 1) := by decide +kernel
theorem dL_log_2 : decode cL_log 2 = .ok (.aload_n 0, 1) := by decide +kernel
theorem dL_log_3 : decode cL_log 3 = .ok (.iload_n 1, 1) := by decide +kernel
theorem dL_log_4 : decode cL_log 4 = .ok (.invokevirtual 82, 3) := by decide +kernel
theorem dL_log_7 : decode cL_log 7 = .ok (.i2l, 1) := by decide +kernel
theorem dL_log_8 : decode cL_log 8 = .ok (.lastore, 1) := by decide +kernel
theorem dL_log_9 : decode cL_log 9 = .ok (.goto 12, 3) := by decide +kernel
theorem dL_log_12 : decode cL_log 12 = .ok (.astore_n 3, 1) := by decide +kernel
theorem dL_log_13 : decode cL_log 13 = .ok (.iconst 1, 1) := by decide +kernel
theorem dL_log_14 : decode cL_log 14 = .ok (.ireturn, 1) := by decide +kernel
theorem dL_log_15 : decode cL_log 15 = .ok (.astore_n 3, 1) := by decide +kernel
theorem dL_log_16 : decode cL_log 16 = .ok (.iconst 2, 1) := by decide +kernel
theorem dL_log_17 : decode cL_log 17 = .ok (.ireturn, 1) := by decide +kernel
theorem dL_log_18 : decode cL_log 18 = .ok (.astore_n 3, 1) := by decide +kernel
theorem dL_log_19 : decode cL_log 19 = .ok (.iconst 3, 1) := by decide +kernel
theorem dL_log_20 : decode cL_log 20 = .ok (.ireturn, 1) := by decide +kernel
theorem dL_log_21 : decode cL_log 21 = .ok (.iconst 0, 1) := by decide +kernel
theorem dL_log_22 : decode cL_log 22 = .ok (.ireturn, 1) := by decide +kernel
theorem dL_mends_0 : decode cL_mends 0 = .ok (.aload 6, 2) := by decide +kernel
theorem dL_mends_2 : decode cL_mends 2 = .ok (.iconst 0, 1) := by decide +kernel
theorem dL_mends_3 : decode cL_mends 3 = .ok (.aload_n 0, 1) := by decide +kernel
theorem dL_mends_4 : decode cL_mends 4 = .ok (.iload_n 1, 1) := by decide +kernel
theorem dL_mends_5 : decode cL_mends 5 = .ok (.iload_n 2, 1) := by decide +kernel
theorem dL_mends_6 : decode cL_mends 6 = .ok (.iload_n 3, 1) := by decide +kernel
theorem dL_mends_7 : decode cL_mends 7 = .ok (.iload 4, 2) := by decide +kernel
theorem dL_mends_9 : decode cL_mends 9 = .ok (.iload 5, 2) := by decide +kernel
theorem dL_mends_11 : decode cL_mends 11 = .ok (.invokevirtual 85, 3) := by decide +kernel
theorem dL_mends_14 : decode cL_mends 14 = .ok (.lastore, 1) := by decide +kernel
theorem dL_mends_15 : decode cL_mends 15 = .ok (.goto 7, 3) := by decide +kernel
theorem dL_mends_18 : decode cL_mends 18 = .ok (.astore 7, 2) := by decide +kernel
theorem dL_mends_20 : decode cL_mends 20 = .ok (.iconst 1, 1) := by decide +kernel
theorem dL_mends_21 : decode cL_mends 21 = .ok (.ireturn, 1) := by decide +kernel
theorem dL_mends_22 : decode cL_mends 22 = .ok (.iconst 0, 1) := by decide +kernel
theorem dL_mends_23 : decode cL_mends 23 = .ok (.ireturn, 1) := by decide +kernel
theorem dL_play_0 : decode cL_play 0 = .ok (.aload 4, 2) := by decide +kernel
theorem dL_play_2 : decode cL_play 2 = .ok (.iconst 0, 1) := by decide +kernel
theorem dL_play_3 : decode cL_play 3 = .ok (.aload_n 0, 1) := by decide +kernel
theorem dL_play_4 : decode cL_play 4 = .ok (.iload_n 1, 1) := by decide +kernel
theorem dL_play_5 : decode cL_play 5 = .ok (.iload_n 2, 1) := by decide +kernel
theorem dL_play_6 : decode cL_play 6 = .ok (.iload_n 3, 1) := by decide +kernel
theorem dL_play_7 : decode cL_play 7 = .ok (.invokevirtual 89, 3) := by decide +kernel
theorem dL_play_10 : decode cL_play 10 = .ok (.i2l, 1) := by decide +kernel
theorem dL_play_11 : decode cL_play 11 = .ok (.lastore, 1) := by decide +kernel
theorem dL_play_12 : decode cL_play 12 = .ok (.goto 11, 3) := by decide +kernel
theorem dL_play_15 : decode cL_play 15 = .ok (.astore 5, 2) := by decide +kernel
theorem dL_play_17 : decode cL_play 17 = .ok (.iconst 1, 1) := by decide +kernel
theorem dL_play_18 : decode cL_play 18 = .ok (.ireturn, 1) := by decide +kernel
theorem dL_play_19 : decode cL_play 19 = .ok (.astore 5, 2) := by decide +kernel
theorem dL_play_21 : decode cL_play 21 = .ok (.iconst 2, 1) := by decide +kernel
theorem dL_play_22 : decode cL_play 22 = .ok (.ireturn, 1) := by decide +kernel
theorem dL_play_23 : decode cL_play 23 = .ok (.iconst 0, 1) := by decide +kernel
theorem dL_play_24 : decode cL_play 24 = .ok (.ireturn, 1) := by decide +kernel
