theorem d_Mod_init_0 : decode b_Mod_init 0 = .ok (.aload_n 0, 1) := by decide +kernel
theorem d_Mod_init_1 : decode b_Mod_init 1 = .ok (.invokespecial 1, 3) := by decide +kernel
theorem d_Mod_init_4 : decode b_Mod_init 4 = .ok (.aload_n 0, 1) := by decide +kernel
theorem d_Mod_init_5 : decode b_Mod_init 5 = .ok (.sipush 768, 3) := by decide +kernel
theorem d_Mod_init_8 : decode b_Mod_init 8 = .ok (.newarray .long, 2) := by decide +kernel
theorem d_Mod_init_10 : decode b_Mod_init 10 = .ok (.putfield 7, 3) := by decide +kernel
theorem d_Mod_init_13 : decode b_Mod_init 13 = .ok (.aload_n 0, 1) := by decide +kernel
theorem d_Mod_init_14 : decode b_Mod_init 14 = .ok (.iconst (-1), 1) := by decide +kernel
theorem d_Mod_init_15 : decode b_Mod_init 15 = .ok (.putfield 13, 3) := by decide +kernel
theorem d_Mod_init_18 : decode b_Mod_init 18 = .ok (.aload_n 0, 1) := by decide +kernel
theorem d_Mod_init_19 : decode b_Mod_init 19 = .ok (.iconst (-1), 1) := by decide +kernel
theorem d_Mod_init_20 : decode b_Mod_init 20 = .ok (.putfield 17, 3) := by decide +kernel
theorem d_Mod_init_23 : decode b_Mod_init 23 = .ok (.aload_n 0, 1) := by decide +kernel
theorem d_Mod_init_24 : decode b_Mod_init 24 = .ok (.iconst 4, 1) := by decide +kernel
theorem d_Mod_init_25 : decode b_Mod_init 25 = .ok (.newarray .boolean, 2) := by decide +kernel
theorem d_Mod_init_27 : decode b_Mod_init 27 = .ok (.putfield 20, 3) := by decide +kernel
theorem d_Mod_init_30 : decode b_Mod_init 30 = .ok (.aload_n 0, 1) := by decide +kernel
theorem d_Mod_init_31 : decode b_Mod_init 31 = .ok (.iconst 4, 1) := by decide +kernel
theorem d_Mod_init_32 : decode b_Mod_init 32 = .ok (.newarray .boolean, 2) := by decide +kernel
theorem d_Mod_init_34 : decode b_Mod_init 34 = .ok (.putfield 24, 3) := by decide +kernel
theorem d_Mod_init_37 : decode b_Mod_init 37 = .ok (.aload_n 0, 1) := by decide +kernel
theorem d_Mod_init_38 : decode b_Mod_init 38 = .ok (.iconst 4, 1) := by decide +kernel
theorem d_Mod_init_39 : decode b_Mod_init 39 = .ok (.newarray .int, 2) := by decide +kernel
theorem d_Mod_init_41 : decode b_Mod_init 41 = .ok (.putfield 27, 3) := by decide +kernel
theorem d_Mod_init_44 : decode b_Mod_init 44 = .ok (.aload_n 0, 1) := by decide +kernel
theorem d_Mod_init_45 : decode b_Mod_init 45 = .ok (.iconst 4, 1) := by decide +kernel
theorem d_Mod_init_46 : decode b_Mod_init 46 = .ok (.newarray .int, 2) := by decide +kernel
theorem d_Mod_init_48 : decode b_Mod_init 48 = .ok (.putfield 31, 3) := by decide +kernel
theorem d_Mod_init_51 : decode b_Mod_init 51 = .ok (.aload_n 0, 1) := by decide +kernel
theorem d_Mod_init_52 : decode b_Mod_init 52 = .ok (.iconst 4, 1) := by decide +kernel
theorem d_Mod_init_53 : decode b_Mod_init 53 = .ok (.newarray .int, 2) := by decide +kernel
theorem d_Mod_init_55 : decode b_Mod_init 55 = .ok (.putfield 34, 3) := by decide +kernel
theorem d_Mod_init_58 : decode b_Mod_init 58 = .ok (.aload_n 0, 1) := by decide +kernel
theorem d_Mod_init_59 : decode b_Mod_init 59 = .ok (.iconst 4, 1) := by decide +kernel
theorem d_Mod_init_60 : decode b_Mod_init 60 = .ok (.newarray .int, 2) := by decide +kernel
theorem d_Mod_init_62 : decode b_Mod_init 62 = .ok (.putfield 37, 3) := by decide +kernel
theorem d_Mod_init_65 : decode b_Mod_init 65 = .ok (.aload_n 0, 1) := by decide +kernel
theorem d_Mod_init_66 : decode b_Mod_init 66 = .ok (.iconst 4, 1) := by decide +kernel
theorem d_Mod_init_67 : decode b_Mod_init 67 = .ok (.newarray .int, 2) := by decide +kernel
theorem d_Mod_init_69 : decode b_Mod_init 69 = .ok (.putfield 40, 3) := by decide +kernel
theorem d_Mod_init_72 : decode b_Mod_init 72 = .ok (.aload_n 0, 1) := by decide +kernel
theorem d_Mod_init_73 : decode b_Mod_init 73 = .ok (.sipush 160, 3) := by decide +kernel
theorem d_Mod_init_76 : decode b_Mod_init 76 = .ok (.newarray .int, 2) := by decide +kernel
theorem d_Mod_init_78 : decode b_Mod_init 78 = .ok (.putfield 43, 3) := by decide +kernel
theorem d_Mod_init_81 : decode b_Mod_init 81 = .ok (.aload_n 0, 1) := by decide +kernel
theorem d_Mod_init_82 : decode b_Mod_init 82 = .ok (.bipush 40, 2) := by decide +kernel
theorem d_Mod_init_84 : decode b_Mod_init 84 = .ok (.newarray .boolean, 2) := by decide +kernel
theorem d_Mod_init_86 : decode b_Mod_init 86 = .ok (.putfield 46, 3) := by decide +kernel
theorem d_Mod_init_89 : decode b_Mod_init 89 = .ok (.aload_n 0, 1) := by decide +kernel
theorem d_Mod_init_90 : decode b_Mod_init 90 = .ok (.sipush 280, 3) := by decide +kernel
theorem d_Mod_init_93 : decode b_Mod_init 93 = .ok (.newarray .int, 2) := by decide +kernel
theorem d_Mod_init_95 : decode b_Mod_init 95 = .ok (.putfield 49, 3) := by decide +kernel
theorem d_Mod_init_98 : decode b_Mod_init 98 = .ok (.aload_n 0, 1) := by decide +kernel
theorem d_Mod_init_99 : decode b_Mod_init 99 = .ok (.sipush 280, 3) := by decide +kernel
theorem d_Mod_init_102 : decode b_Mod_init 102 = .ok (.newarray .int, 2) := by decide +kernel
theorem d_Mod_init_104 : decode b_Mod_init 104 = .ok (.putfield 52, 3) := by decide +kernel
theorem d_Mod_init_107 : decode b_Mod_init 107 = .ok (.aload_n 0, 1) := by decide +kernel
theorem d_Mod_init_108 : decode b_Mod_init 108 = .ok (.sipush 280, 3) := by decide +kernel
theorem d_Mod_init_111 : decode b_Mod_init 111 = .ok (.newarray .int, 2) := by decide +kernel
theorem d_Mod_init_113 : decode b_Mod_init 113 = .ok (.putfield 55, 3) := by decide +kernel
theorem d_Mod_init_116 : decode b_Mod_init 116 = .ok (.aload_n 0, 1) := by decide +kernel
theorem d_Mod_init_117 : decode b_Mod_init 117 = .ok (.sipush 280, 3) := by decide +kernel
theorem d_Mod_init_120 : decode b_Mod_init 120 = .ok (.newarray .int, 2) := by decide +kernel
theorem d_Mod_init_122 : decode b_Mod_init 122 = .ok (.putfield 58, 3) := by decide +kernel
theorem d_Mod_init_125 : decode b_Mod_init 125 = .ok (.aload_n 0, 1) := by decide +kernel
theorem d_Mod_init_126 : decode b_Mod_init 126 = .ok (.sipush 280, 3) := by decide +kernel
theorem d_Mod_init_129 : decode b_Mod_init 129 = .ok (.newarray .int, 2) := by decide +kernel
theorem d_Mod_init_131 : decode b_Mod_init 131 = .ok (.putfield 61, 3) := by decide +kernel
theorem d_Mod_init_134 : decode b_Mod_init 134 = .ok (.aload_n 0, 1) := by decide +kernel
theorem d_Mod_init_135 : decode b_Mod_init 135 = .ok (.sipush 280, 3) := by decide +kernel
theorem d_Mod_init_138 : decode b_Mod_init 138 = .ok (.newarray .int, 2) := by decide +kernel
theorem d_Mod_init_140 : decode b_Mod_init 140 = .ok (.putfield 64, 3) := by decide +kernel
theorem d_Mod_init_143 : decode b_Mod_init 143 = .ok (.aload_n 0, 1) := by decide +kernel
theorem d_Mod_init_144 : decode b_Mod_init 144 = .ok (.sipush 280, 3) := by decide +kernel
theorem d_Mod_init_147 : decode b_Mod_init 147 = .ok (.newarray .boolean, 2) := by decide +kernel
theorem d_Mod_init_149 : decode b_Mod_init 149 = .ok (.putfield 67, 3) := by decide +kernel
theorem d_Mod_init_152 : decode b_Mod_init 152 = .ok (.aload_n 0, 1) := by decide +kernel
theorem d_Mod_init_153 : decode b_Mod_init 153 = .ok (.sipush 280, 3) := by decide +kernel
theorem d_Mod_init_156 : decode b_Mod_init 156 = .ok (.newarray .boolean, 2) := by decide +kernel
theorem d_Mod_init_158 : decode b_Mod_init 158 = .ok (.putfield 70, 3) := by decide +kernel
theorem d_Mod_init_161 : decode b_Mod_init 161 = .ok (.aload_n 0, 1) := by decide +kernel
theorem d_Mod_init_162 : decode b_Mod_init 162 = .ok (.sipush 280, 3) := by decide +kernel
theorem d_Mod_init_165 : decode b_Mod_init 165 = .ok (.newarray .int, 2) := by decide +kernel
theorem d_Mod_init_167 : decode b_Mod_init 167 = .ok (.putfield 73, 3) := by decide +kernel
theorem d_Mod_init_170 : decode b_Mod_init 170 = .ok (.aload_n 0, 1) := by decide +kernel
theorem d_Mod_init_171 : decode b_Mod_init 171 = .ok (.sipush 2240, 3) := by decide +kernel
theorem d_Mod_init_174 : decode b_Mod_init 174 = .ok (.newarray .long, 2) := by decide +kernel
theorem d_Mod_init_176 : decode b_Mod_init 176 = .ok (.putfield 76, 3) := by decide +kernel
theorem d_Mod_init_179 : decode b_Mod_init 179 = .ok (.aload_n 0, 1) := by decide +kernel
theorem d_Mod_init_180 : decode b_Mod_init 180 = .ok (.iconst 4, 1) := by decide +kernel
theorem d_Mod_init_181 : decode b_Mod_init 181 = .ok (.newarray .int, 2) := by decide +kernel
theorem d_Mod_init_183 : decode b_Mod_init 183 = .ok (.putfield 79, 3) := by decide +kernel
theorem d_Mod_init_186 : decode b_Mod_init 186 = .ok (.aload_n 0, 1) := by decide +kernel
theorem d_Mod_init_187 : decode b_Mod_init 187 = .ok (.iconst 4, 1) := by decide +kernel
theorem d_Mod_init_188 : decode b_Mod_init 188 = .ok (.newarray .int, 2) := by decide +kernel
theorem d_Mod_init_190 : decode b_Mod_init 190 = .ok (.putfield 82, 3) := by decide +kernel
theorem d_Mod_init_193 : decode b_Mod_init 193 = .ok (.aload_n 0, 1) := by decide +kernel
theorem d_Mod_init_194 : decode b_Mod_init 194 = .ok (.iconst 4, 1) := by decide +kernel
theorem d_Mod_init_195 : decode b_Mod_init 195 = .ok (.newarray .int, 2) := by decide +kernel
theorem d_Mod_init_197 : decode b_Mod_init 197 = .ok (.putfield 85, 3) := by decide +kernel
theorem d_Mod_init_200 : decode b_Mod_init 200 = .ok (.aload_n 0, 1) := by decide +kernel
theorem d_Mod_init_201 : decode b_Mod_init 201 = .ok (.iconst 4, 1) := by decide +kernel
theorem d_Mod_init_202 : decode b_Mod_init 202 = .ok (.newarray .int, 2) := by decide +kernel
theorem d_Mod_init_204 : decode b_Mod_init 204 = .ok (.putfield 88, 3) := by decide +kernel
theorem d_Mod_init_207 : decode b_Mod_init 207 = .ok (.aload_n 0, 1) := by decide +kernel
theorem d_Mod_init_208 : decode b_Mod_init 208 = .ok (.iconst 4, 1) := by decide +kernel
theorem d_Mod_init_209 : decode b_Mod_init 209 = .ok (.newarray .int, 2) := by decide +kernel
theorem d_Mod_init_211 : decode b_Mod_init 211 = .ok (.putfield 91, 3) := by decide +kernel
theorem d_Mod_init_214 : decode b_Mod_init 214 = .ok (.aload_n 0, 1) := by decide +kernel
theorem d_Mod_init_215 : decode b_Mod_init 215 = .ok (.iconst 4, 1) := by decide +kernel
theorem d_Mod_init_216 : decode b_Mod_init 216 = .ok (.newarray .int, 2) := by decide +kernel
theorem d_Mod_init_218 : decode b_Mod_init 218 = .ok (.putfield 94, 3) := by decide +kernel
theorem d_Mod_init_221 : decode b_Mod_init 221 = .ok (.aload_n 0, 1) := by decide +kernel
theorem d_Mod_init_222 : decode b_Mod_init 222 = .ok (.bipush 64, 2) := by decide +kernel
theorem d_Mod_init_224 : decode b_Mod_init 224 = .ok (.newarray .int, 2) := by decide +kernel
theorem d_Mod_init_226 : decode b_Mod_init 226 = .ok (.putfield 97, 3) := by decide +kernel
theorem d_Mod_init_229 : decode b_Mod_init 229 = .ok (.aload_n 0, 1) := by decide +kernel
theorem d_Mod_init_230 : decode b_Mod_init 230 = .ok (.iconst (-1), 1) := by decide +kernel
theorem d_Mod_init_231 : decode b_Mod_init 231 = .ok (.putfield 100, 3) := by decide +kernel
theorem d_Mod_init_234 : decode b_Mod_init 234 = .ok (.aload_n 0, 1) := by decide +kernel
theorem d_Mod_init_235 : decode b_Mod_init 235 = .ok (.bipush 80, 2) := by decide +kernel
theorem d_Mod_init_237 : decode b_Mod_init 237 = .ok (.newarray .int, 2) := by decide +kernel
theorem d_Mod_init_239 : decode b_Mod_init 239 = .ok (.putfield 103, 3) := by decide +kernel
theorem d_Mod_init_242 : decode b_Mod_init 242 = .ok (.iconst 0, 1) := by decide +kernel
theorem d_Mod_init_243 : decode b_Mod_init 243 = .ok (.istore_n 1, 1) := by decide +kernel
theorem d_Mod_init_244 : decode b_Mod_init 244 = .ok (.iload_n 1, 1) := by decide +kernel
theorem d_Mod_init_245 : decode b_Mod_init 245 = .ok (.sipush 280, 3) := by decide +kernel
theorem d_Mod_init_248 : decode b_Mod_init 248 = .ok (.if_icmp .ge 16, 3) := by decide +kernel
theorem d_Mod_init_251 : decode b_Mod_init 251 = .ok (.aload_n 0, 1) := by decide +kernel
theorem d_Mod_init_252 : decode b_Mod_init 252 = .ok (.getfield 49, 3) := by decide +kernel
theorem d_Mod_init_255 : decode b_Mod_init 255 = .ok (.iload_n 1, 1) := by decide +kernel
theorem d_Mod_init_256 : decode b_Mod_init 256 = .ok (.iconst (-1), 1) := by decide +kernel
theorem d_Mod_init_257 : decode b_Mod_init 257 = .ok (.iastore, 1) := by decide +kernel
theorem d_Mod_init_258 : decode b_Mod_init 258 = .ok (.iinc 1 1, 3) := by decide +kernel
theorem d_Mod_init_261 : decode b_Mod_init 261 = .ok (.goto (-17), 3) := by decide +kernel
theorem d_Mod_init_264 : decode b_Mod_init 264 = .ok (.iconst 0, 1) := by decide +kernel
theorem d_Mod_init_265 : decode b_Mod_init 265 = .ok (.istore_n 1, 1) := by decide +kernel
theorem d_Mod_init_266 : decode b_Mod_init 266 = .ok (.iload_n 1, 1) := by decide +kernel
theorem d_Mod_init_267 : decode b_Mod_init 267 = .ok (.iconst 4, 1) := by decide +kernel
theorem d_Mod_init_268 : decode b_Mod_init 268 = .ok (.if_icmp .ge 16, 3) := by decide +kernel
theorem d_Mod_init_271 : decode b_Mod_init 271 = .ok (.aload_n 0, 1) := by decide +kernel
theorem d_Mod_init_272 : decode b_Mod_init 272 = .ok (.getfield 79, 3) := by decide +kernel
theorem d_Mod_init_275 : decode b_Mod_init 275 = .ok (.iload_n 1, 1) := by decide +kernel
theorem d_Mod_init_276 : decode b_Mod_init 276 = .ok (.iconst (-1), 1) := by decide +kernel
theorem d_Mod_init_277 : decode b_Mod_init 277 = .ok (.iastore, 1) := by decide +kernel
theorem d_Mod_init_278 : decode b_Mod_init 278 = .ok (.iinc 1 1, 3) := by decide +kernel
theorem d_Mod_init_281 : decode b_Mod_init 281 = .ok (.goto (-15), 3) := by decide +kernel
theorem d_Mod_init_284 : decode b_Mod_init 284 = .ok (.return_, 1) := by decide +kernel
theorem d_Mod_flip_0 : decode b_Mod_flip 0 = .ok (.iload_n 1, 1) := by decide +kernel
theorem d_Mod_flip_1 : decode b_Mod_flip 1 = .ok (.ifCond .lt 37, 3) := by decide +kernel
theorem d_Mod_flip_4 : decode b_Mod_flip 4 = .ok (.iload_n 1, 1) := by decide +kernel
theorem d_Mod_flip_5 : decode b_Mod_flip 5 = .ok (.iconst 5, 1) := by decide +kernel
theorem d_Mod_flip_6 : decode b_Mod_flip 6 = .ok (.if_icmp .gt 32, 3) := by decide +kernel
theorem d_Mod_flip_9 : decode b_Mod_flip 9 = .ok (.iload_n 2, 1) := by decide +kernel
theorem d_Mod_flip_10 : decode b_Mod_flip 10 = .ok (.ifCond .lt 28, 3) := by decide +kernel
theorem d_Mod_flip_13 : decode b_Mod_flip 13 = .ok (.iload_n 2, 1) := by decide +kernel
theorem d_Mod_flip_14 : decode b_Mod_flip 14 = .ok (.bipush 127, 2) := by decide +kernel
theorem d_Mod_flip_16 : decode b_Mod_flip 16 = .ok (.if_icmp .gt 22, 3) := by decide +kernel
theorem d_Mod_flip_19 : decode b_Mod_flip 19 = .ok (.iload_n 3, 1) := by decide +kernel
theorem d_Mod_flip_20 : decode b_Mod_flip 20 = .ok (.ifCond .lt 18, 3) := by decide +kernel
theorem d_Mod_flip_23 : decode b_Mod_flip 23 = .ok (.iload_n 3, 1) := by decide +kernel
theorem d_Mod_flip_24 : decode b_Mod_flip 24 = .ok (.bipush 38, 2) := by decide +kernel
theorem d_Mod_flip_26 : decode b_Mod_flip 26 = .ok (.if_icmp .gt 12, 3) := by decide +kernel
theorem d_Mod_flip_29 : decode b_Mod_flip 29 = .ok (.aload_n 0, 1) := by decide +kernel
theorem d_Mod_flip_30 : decode b_Mod_flip 30 = .ok (.iload_n 1, 1) := by decide +kernel
theorem d_Mod_flip_31 : decode b_Mod_flip 31 = .ok (.iload_n 2, 1) := by decide +kernel
theorem d_Mod_flip_32 : decode b_Mod_flip 32 = .ok (.invokevirtual 113, 3) := by decide +kernel
theorem d_Mod_flip_35 : decode b_Mod_flip 35 = .ok (.ifCond .eq 5, 3) := by decide +kernel
theorem d_Mod_flip_38 : decode b_Mod_flip 38 = .ok (.iconst 0, 1) := by decide +kernel
theorem d_Mod_flip_39 : decode b_Mod_flip 39 = .ok (.ireturn, 1) := by decide +kernel
theorem d_Mod_flip_40 : decode b_Mod_flip 40 = .ok (.aload_n 0, 1) := by decide +kernel
theorem d_Mod_flip_41 : decode b_Mod_flip 41 = .ok (.getfield 7, 3) := by decide +kernel
theorem d_Mod_flip_44 : decode b_Mod_flip 44 = .ok (.sipush 128, 3) := by decide +kernel
theorem d_Mod_flip_47 : decode b_Mod_flip 47 = .ok (.iload_n 1, 1) := by decide +kernel
theorem d_Mod_flip_48 : decode b_Mod_flip 48 = .ok (.imul, 1) := by decide +kernel
theorem d_Mod_flip_49 : decode b_Mod_flip 49 = .ok (.iload_n 2, 1) := by decide +kernel
theorem d_Mod_flip_50 : decode b_Mod_flip 50 = .ok (.iadd, 1) := by decide +kernel
theorem d_Mod_flip_51 : decode b_Mod_flip 51 = .ok (.laload, 1) := by decide +kernel
theorem d_Mod_flip_52 : decode b_Mod_flip 52 = .ok (.lconst 1, 1) := by decide +kernel
theorem d_Mod_flip_53 : decode b_Mod_flip 53 = .ok (.iload_n 3, 1) := by decide +kernel
theorem d_Mod_flip_54 : decode b_Mod_flip 54 = .ok (.lshl, 1) := by decide +kernel
theorem d_Mod_flip_55 : decode b_Mod_flip 55 = .ok (.lxor, 1) := by decide +kernel
theorem d_Mod_flip_56 : decode b_Mod_flip 56 = .ok (.lstore 4, 2) := by decide +kernel
theorem d_Mod_flip_58 : decode b_Mod_flip 58 = .ok (.lload 4, 2) := by decide +kernel
theorem d_Mod_flip_60 : decode b_Mod_flip 60 = .ok (.invokestatic 117, 3) := by decide +kernel
theorem d_Mod_flip_63 : decode b_Mod_flip 63 = .ok (.istore 6, 2) := by decide +kernel
theorem d_Mod_flip_65 : decode b_Mod_flip 65 = .ok (.iload 6, 2) := by decide +kernel
theorem d_Mod_flip_67 : decode b_Mod_flip 67 = .ok (.iconst 2, 1) := by decide +kernel
theorem d_Mod_flip_68 : decode b_Mod_flip 68 = .ok (.if_icmp .gt 7, 3) := by decide +kernel
theorem d_Mod_flip_71 : decode b_Mod_flip 71 = .ok (.iconst 1, 1) := by decide +kernel
theorem d_Mod_flip_72 : decode b_Mod_flip 72 = .ok (.goto 4, 3) := by decide +kernel
theorem d_Mod_flip_75 : decode b_Mod_flip 75 = .ok (.iconst 0, 1) := by decide +kernel
theorem d_Mod_flip_76 : decode b_Mod_flip 76 = .ok (.istore 7, 2) := by decide +kernel
theorem d_Mod_flip_78 : decode b_Mod_flip 78 = .ok (.iconst 0, 1) := by decide +kernel
theorem d_Mod_flip_79 : decode b_Mod_flip 79 = .ok (.istore 8, 2) := by decide +kernel
theorem d_Mod_flip_81 : decode b_Mod_flip 81 = .ok (.iload 8, 2) := by decide +kernel
theorem d_Mod_flip_83 : decode b_Mod_flip 83 = .ok (.bipush 6, 2) := by decide +kernel
theorem d_Mod_flip_85 : decode b_Mod_flip 85 = .ok (.if_icmp .ge 63, 3) := by decide +kernel
theorem d_Mod_flip_88 : decode b_Mod_flip 88 = .ok (.iload 6, 2) := by decide +kernel
theorem d_Mod_flip_90 : decode b_Mod_flip 90 = .ok (.iconst 2, 1) := by decide +kernel
theorem d_Mod_flip_91 : decode b_Mod_flip 91 = .ok (.if_icmp .ne 57, 3) := by decide +kernel
theorem d_Mod_flip_94 : decode b_Mod_flip 94 = .ok (.iload 7, 2) := by decide +kernel
theorem d_Mod_flip_96 : decode b_Mod_flip 96 = .ok (.ifCond .eq 43, 3) := by decide +kernel
theorem d_Mod_flip_99 : decode b_Mod_flip 99 = .ok (.iload 8, 2) := by decide +kernel
theorem d_Mod_flip_101 : decode b_Mod_flip 101 = .ok (.iload_n 1, 1) := by decide +kernel
theorem d_Mod_flip_102 : decode b_Mod_flip 102 = .ok (.if_icmp .eq 33, 3) := by decide +kernel
theorem d_Mod_flip_105 : decode b_Mod_flip 105 = .ok (.aload_n 0, 1) := by decide +kernel
theorem d_Mod_flip_106 : decode b_Mod_flip 106 = .ok (.iload 8, 2) := by decide +kernel
theorem d_Mod_flip_108 : decode b_Mod_flip 108 = .ok (.iload_n 2, 1) := by decide +kernel
theorem d_Mod_flip_109 : decode b_Mod_flip 109 = .ok (.invokevirtual 113, 3) := by decide +kernel
theorem d_Mod_flip_112 : decode b_Mod_flip 112 = .ok (.ifCond .ne 27, 3) := by decide +kernel
theorem d_Mod_flip_115 : decode b_Mod_flip 115 = .ok (.aload_n 0, 1) := by decide +kernel
theorem d_Mod_flip_116 : decode b_Mod_flip 116 = .ok (.getfield 7, 3) := by decide +kernel
theorem d_Mod_flip_119 : decode b_Mod_flip 119 = .ok (.sipush 128, 3) := by decide +kernel
theorem d_Mod_flip_122 : decode b_Mod_flip 122 = .ok (.iload 8, 2) := by decide +kernel
theorem d_Mod_flip_124 : decode b_Mod_flip 124 = .ok (.imul, 1) := by decide +kernel
theorem d_Mod_flip_125 : decode b_Mod_flip 125 = .ok (.iload_n 2, 1) := by decide +kernel
theorem d_Mod_flip_126 : decode b_Mod_flip 126 = .ok (.iadd, 1) := by decide +kernel
theorem d_Mod_flip_127 : decode b_Mod_flip 127 = .ok (.laload, 1) := by decide +kernel
theorem d_Mod_flip_128 : decode b_Mod_flip 128 = .ok (.invokestatic 117, 3) := by decide +kernel
theorem d_Mod_flip_131 : decode b_Mod_flip 131 = .ok (.iconst 2, 1) := by decide +kernel
theorem d_Mod_flip_132 : decode b_Mod_flip 132 = .ok (.if_icmp .ge 7, 3) := by decide +kernel
theorem d_Mod_flip_135 : decode b_Mod_flip 135 = .ok (.iconst 1, 1) := by decide +kernel
theorem d_Mod_flip_136 : decode b_Mod_flip 136 = .ok (.goto 4, 3) := by decide +kernel
theorem d_Mod_flip_139 : decode b_Mod_flip 139 = .ok (.iconst 0, 1) := by decide +kernel
theorem d_Mod_flip_140 : decode b_Mod_flip 140 = .ok (.istore 7, 2) := by decide +kernel
theorem d_Mod_flip_142 : decode b_Mod_flip 142 = .ok (.iinc 8 1, 3) := by decide +kernel
theorem d_Mod_flip_145 : decode b_Mod_flip 145 = .ok (.goto (-64), 3) := by decide +kernel
theorem d_Mod_flip_148 : decode b_Mod_flip 148 = .ok (.iload 7, 2) := by decide +kernel
theorem d_Mod_flip_150 : decode b_Mod_flip 150 = .ok (.ifCond .ne 5, 3) := by decide +kernel
theorem d_Mod_flip_153 : decode b_Mod_flip 153 = .ok (.iconst 0, 1) := by decide +kernel
theorem d_Mod_flip_154 : decode b_Mod_flip 154 = .ok (.ireturn, 1) := by decide +kernel
theorem d_Mod_flip_155 : decode b_Mod_flip 155 = .ok (.aload_n 0, 1) := by decide +kernel
theorem d_Mod_flip_156 : decode b_Mod_flip 156 = .ok (.getfield 7, 3) := by decide +kernel
theorem d_Mod_flip_159 : decode b_Mod_flip 159 = .ok (.sipush 128, 3) := by decide +kernel
theorem d_Mod_flip_162 : decode b_Mod_flip 162 = .ok (.iload_n 1, 1) := by decide +kernel
theorem d_Mod_flip_163 : decode b_Mod_flip 163 = .ok (.imul, 1) := by decide +kernel
theorem d_Mod_flip_164 : decode b_Mod_flip 164 = .ok (.iload_n 2, 1) := by decide +kernel
theorem d_Mod_flip_165 : decode b_Mod_flip 165 = .ok (.iadd, 1) := by decide +kernel
theorem d_Mod_flip_166 : decode b_Mod_flip 166 = .ok (.lload 4, 2) := by decide +kernel
theorem d_Mod_flip_168 : decode b_Mod_flip 168 = .ok (.lastore, 1) := by decide +kernel
theorem d_Mod_flip_169 : decode b_Mod_flip 169 = .ok (.iconst 1, 1) := by decide +kernel
theorem d_Mod_flip_170 : decode b_Mod_flip 170 = .ok (.ireturn, 1) := by decide +kernel
theorem d_Mod_isMissing_0 : decode b_Mod_isMissing 0 = .ok (.aload_n 0, 1) := by decide +kernel
theorem d_Mod_isMissing_1 : decode b_Mod_isMissing 1 = .ok (.getfield 13, 3) := by decide +kernel
theorem d_Mod_isMissing_4 : decode b_Mod_isMissing 4 = .ok (.iload_n 1, 1) := by decide +kernel
theorem d_Mod_isMissing_5 : decode b_Mod_isMissing 5 = .ok (.if_icmp .eq 26, 3) := by decide +kernel
theorem d_Mod_isMissing_8 : decode b_Mod_isMissing 8 = .ok (.aload_n 0, 1) := by decide +kernel
theorem d_Mod_isMissing_9 : decode b_Mod_isMissing 9 = .ok (.getfield 17, 3) := by decide +kernel
theorem d_Mod_isMissing_12 : decode b_Mod_isMissing 12 = .ok (.iload_n 1, 1) := by decide +kernel
theorem d_Mod_isMissing_13 : decode b_Mod_isMissing 13 = .ok (.if_icmp .ne 22, 3) := by decide +kernel
theorem d_Mod_isMissing_16 : decode b_Mod_isMissing 16 = .ok (.aload_n 0, 1) := by decide +kernel
theorem d_Mod_isMissing_17 : decode b_Mod_isMissing 17 = .ok (.getfield 110, 3) := by decide +kernel
theorem d_Mod_isMissing_20 : decode b_Mod_isMissing 20 = .ok (.iload_n 2, 1) := by decide +kernel
theorem d_Mod_isMissing_21 : decode b_Mod_isMissing 21 = .ok (.bipush 16, 2) := by decide +kernel
theorem d_Mod_isMissing_23 : decode b_Mod_isMissing 23 = .ok (.idiv, 1) := by decide +kernel
theorem d_Mod_isMissing_24 : decode b_Mod_isMissing 24 = .ok (.ishr, 1) := by decide +kernel
theorem d_Mod_isMissing_25 : decode b_Mod_isMissing 25 = .ok (.iconst 1, 1) := by decide +kernel
theorem d_Mod_isMissing_26 : decode b_Mod_isMissing 26 = .ok (.iand, 1) := by decide +kernel
theorem d_Mod_isMissing_27 : decode b_Mod_isMissing 27 = .ok (.iconst 1, 1) := by decide +kernel
theorem d_Mod_isMissing_28 : decode b_Mod_isMissing 28 = .ok (.if_icmp .ne 7, 3) := by decide +kernel
theorem d_Mod_isMissing_31 : decode b_Mod_isMissing 31 = .ok (.iconst 1, 1) := by decide +kernel
theorem d_Mod_isMissing_32 : decode b_Mod_isMissing 32 = .ok (.goto 4, 3) := by decide +kernel
theorem d_Mod_isMissing_35 : decode b_Mod_isMissing 35 = .ok (.iconst 0, 1) := by decide +kernel
theorem d_Mod_isMissing_36 : decode b_Mod_isMissing 36 = .ok (.ireturn, 1) := by decide +kernel
theorem d_Mod_bitsIn_0 : decode b_Mod_bitsIn 0 = .ok (.iconst 0, 1) := by decide +kernel
theorem d_Mod_bitsIn_1 : decode b_Mod_bitsIn 1 = .ok (.istore_n 2, 1) := by decide +kernel
theorem d_Mod_bitsIn_2 : decode b_Mod_bitsIn 2 = .ok (.iconst 0, 1) := by decide +kernel
theorem d_Mod_bitsIn_3 : decode b_Mod_bitsIn 3 = .ok (.istore_n 3, 1) := by decide +kernel
theorem d_Mod_bitsIn_4 : decode b_Mod_bitsIn 4 = .ok (.iload_n 3, 1) := by decide +kernel
theorem d_Mod_bitsIn_5 : decode b_Mod_bitsIn 5 = .ok (.bipush 39, 2) := by decide +kernel
theorem d_Mod_bitsIn_7 : decode b_Mod_bitsIn 7 = .ok (.if_icmp .ge 27, 3) := by decide +kernel
theorem d_Mod_bitsIn_10 : decode b_Mod_bitsIn 10 = .ok (.iload_n 2, 1) := by decide +kernel
theorem d_Mod_bitsIn_11 : decode b_Mod_bitsIn 11 = .ok (.lload_n 0, 1) := by decide +kernel
theorem d_Mod_bitsIn_12 : decode b_Mod_bitsIn 12 = .ok (.iload_n 3, 1) := by decide +kernel
theorem d_Mod_bitsIn_13 : decode b_Mod_bitsIn 13 = .ok (.lshr, 1) := by decide +kernel
theorem d_Mod_bitsIn_14 : decode b_Mod_bitsIn 14 = .ok (.lconst 1, 1) := by decide +kernel
theorem d_Mod_bitsIn_15 : decode b_Mod_bitsIn 15 = .ok (.land, 1) := by decide +kernel
theorem d_Mod_bitsIn_16 : decode b_Mod_bitsIn 16 = .ok (.lconst 1, 1) := by decide +kernel
theorem d_Mod_bitsIn_17 : decode b_Mod_bitsIn 17 = .ok (.lcmp, 1) := by decide +kernel
theorem d_Mod_bitsIn_18 : decode b_Mod_bitsIn 18 = .ok (.ifCond .ne 7, 3) := by decide +kernel
theorem d_Mod_bitsIn_21 : decode b_Mod_bitsIn 21 = .ok (.iconst 1, 1) := by decide +kernel
theorem d_Mod_bitsIn_22 : decode b_Mod_bitsIn 22 = .ok (.goto 4, 3) := by decide +kernel
theorem d_Mod_bitsIn_25 : decode b_Mod_bitsIn 25 = .ok (.iconst 0, 1) := by decide +kernel
theorem d_Mod_bitsIn_26 : decode b_Mod_bitsIn 26 = .ok (.iadd, 1) := by decide +kernel
theorem d_Mod_bitsIn_27 : decode b_Mod_bitsIn 27 = .ok (.istore_n 2, 1) := by decide +kernel
theorem d_Mod_bitsIn_28 : decode b_Mod_bitsIn 28 = .ok (.iinc 3 1, 3) := by decide +kernel
theorem d_Mod_bitsIn_31 : decode b_Mod_bitsIn 31 = .ok (.goto (-27), 3) := by decide +kernel
theorem d_Mod_bitsIn_34 : decode b_Mod_bitsIn 34 = .ok (.iload_n 2, 1) := by decide +kernel
theorem d_Mod_bitsIn_35 : decode b_Mod_bitsIn 35 = .ok (.ireturn, 1) := by decide +kernel
theorem d_Mod_latch_0 : decode b_Mod_latch 0 = .ok (.iload_n 1, 1) := by decide +kernel
theorem d_Mod_latch_1 : decode b_Mod_latch 1 = .ok (.ifCond .lt 26, 3) := by decide +kernel
theorem d_Mod_latch_4 : decode b_Mod_latch 4 = .ok (.iload_n 1, 1) := by decide +kernel
theorem d_Mod_latch_5 : decode b_Mod_latch 5 = .ok (.iconst 5, 1) := by decide +kernel
theorem d_Mod_latch_6 : decode b_Mod_latch 6 = .ok (.if_icmp .gt 21, 3) := by decide +kernel
theorem d_Mod_latch_9 : decode b_Mod_latch 9 = .ok (.aload_n 0, 1) := by decide +kernel
theorem d_Mod_latch_10 : decode b_Mod_latch 10 = .ok (.getfield 13, 3) := by decide +kernel
theorem d_Mod_latch_13 : decode b_Mod_latch 13 = .ok (.ifCond .ge 14, 3) := by decide +kernel
theorem d_Mod_latch_16 : decode b_Mod_latch 16 = .ok (.aload_n 0, 1) := by decide +kernel
theorem d_Mod_latch_17 : decode b_Mod_latch 17 = .ok (.getfield 110, 3) := by decide +kernel
theorem d_Mod_latch_20 : decode b_Mod_latch 20 = .ok (.ifCond .ne 7, 3) := by decide +kernel
theorem d_Mod_latch_23 : decode b_Mod_latch 23 = .ok (.iconst 1, 1) := by decide +kernel
theorem d_Mod_latch_24 : decode b_Mod_latch 24 = .ok (.goto 4, 3) := by decide +kernel
theorem d_Mod_latch_27 : decode b_Mod_latch 27 = .ok (.iconst 0, 1) := by decide +kernel
theorem d_Mod_latch_28 : decode b_Mod_latch 28 = .ok (.istore_n 2, 1) := by decide +kernel
theorem d_Mod_latch_29 : decode b_Mod_latch 29 = .ok (.iconst 0, 1) := by decide +kernel
theorem d_Mod_latch_30 : decode b_Mod_latch 30 = .ok (.istore_n 3, 1) := by decide +kernel
theorem d_Mod_latch_31 : decode b_Mod_latch 31 = .ok (.iload_n 3, 1) := by decide +kernel
theorem d_Mod_latch_32 : decode b_Mod_latch 32 = .ok (.sipush 768, 3) := by decide +kernel
theorem d_Mod_latch_35 : decode b_Mod_latch 35 = .ok (.if_icmp .ge 41, 3) := by decide +kernel
theorem d_Mod_latch_38 : decode b_Mod_latch 38 = .ok (.iload_n 2, 1) := by decide +kernel
theorem d_Mod_latch_39 : decode b_Mod_latch 39 = .ok (.ifCond .eq 37, 3) := by decide +kernel
theorem d_Mod_latch_42 : decode b_Mod_latch 42 = .ok (.iload_n 3, 1) := by decide +kernel
theorem d_Mod_latch_43 : decode b_Mod_latch 43 = .ok (.sipush 128, 3) := by decide +kernel
theorem d_Mod_latch_46 : decode b_Mod_latch 46 = .ok (.idiv, 1) := by decide +kernel
theorem d_Mod_latch_47 : decode b_Mod_latch 47 = .ok (.iload_n 1, 1) := by decide +kernel
theorem d_Mod_latch_48 : decode b_Mod_latch 48 = .ok (.if_icmp .eq 16, 3) := by decide +kernel
theorem d_Mod_latch_51 : decode b_Mod_latch 51 = .ok (.aload_n 0, 1) := by decide +kernel
theorem d_Mod_latch_52 : decode b_Mod_latch 52 = .ok (.getfield 7, 3) := by decide +kernel
theorem d_Mod_latch_55 : decode b_Mod_latch 55 = .ok (.iload_n 3, 1) := by decide +kernel
theorem d_Mod_latch_56 : decode b_Mod_latch 56 = .ok (.laload, 1) := by decide +kernel
theorem d_Mod_latch_57 : decode b_Mod_latch 57 = .ok (.invokestatic 117, 3) := by decide +kernel
theorem d_Mod_latch_60 : decode b_Mod_latch 60 = .ok (.iconst 2, 1) := by decide +kernel
theorem d_Mod_latch_61 : decode b_Mod_latch 61 = .ok (.if_icmp .ge 7, 3) := by decide +kernel
theorem d_Mod_latch_64 : decode b_Mod_latch 64 = .ok (.iconst 1, 1) := by decide +kernel
theorem d_Mod_latch_65 : decode b_Mod_latch 65 = .ok (.goto 4, 3) := by decide +kernel
theorem d_Mod_latch_68 : decode b_Mod_latch 68 = .ok (.iconst 0, 1) := by decide +kernel
theorem d_Mod_latch_69 : decode b_Mod_latch 69 = .ok (.istore_n 2, 1) := by decide +kernel
theorem d_Mod_latch_70 : decode b_Mod_latch 70 = .ok (.iinc 3 1, 3) := by decide +kernel
theorem d_Mod_latch_73 : decode b_Mod_latch 73 = .ok (.goto (-42), 3) := by decide +kernel
theorem d_Mod_latch_76 : decode b_Mod_latch 76 = .ok (.iload_n 2, 1) := by decide +kernel
theorem d_Mod_latch_77 : decode b_Mod_latch 77 = .ok (.ifCond .ne 5, 3) := by decide +kernel
theorem d_Mod_latch_80 : decode b_Mod_latch 80 = .ok (.iconst 0, 1) := by decide +kernel
theorem d_Mod_latch_81 : decode b_Mod_latch 81 = .ok (.ireturn, 1) := by decide +kernel
theorem d_Mod_latch_82 : decode b_Mod_latch 82 = .ok (.aload_n 0, 1) := by decide +kernel
theorem d_Mod_latch_83 : decode b_Mod_latch 83 = .ok (.iload_n 1, 1) := by decide +kernel
theorem d_Mod_latch_84 : decode b_Mod_latch 84 = .ok (.putfield 13, 3) := by decide +kernel
theorem d_Mod_latch_87 : decode b_Mod_latch 87 = .ok (.iconst 0, 1) := by decide +kernel
theorem d_Mod_latch_88 : decode b_Mod_latch 88 = .ok (.istore_n 3, 1) := by decide +kernel
theorem d_Mod_latch_89 : decode b_Mod_latch 89 = .ok (.iload_n 3, 1) := by decide +kernel
theorem d_Mod_latch_90 : decode b_Mod_latch 90 = .ok (.sipush 128, 3) := by decide +kernel
theorem d_Mod_latch_93 : decode b_Mod_latch 93 = .ok (.if_icmp .ge 22, 3) := by decide +kernel
theorem d_Mod_latch_96 : decode b_Mod_latch 96 = .ok (.aload_n 0, 1) := by decide +kernel
theorem d_Mod_latch_97 : decode b_Mod_latch 97 = .ok (.getfield 7, 3) := by decide +kernel
theorem d_Mod_latch_100 : decode b_Mod_latch 100 = .ok (.sipush 128, 3) := by decide +kernel
theorem d_Mod_latch_103 : decode b_Mod_latch 103 = .ok (.iload_n 1, 1) := by decide +kernel
theorem d_Mod_latch_104 : decode b_Mod_latch 104 = .ok (.imul, 1) := by decide +kernel
theorem d_Mod_latch_105 : decode b_Mod_latch 105 = .ok (.iload_n 3, 1) := by decide +kernel
theorem d_Mod_latch_106 : decode b_Mod_latch 106 = .ok (.iadd, 1) := by decide +kernel
theorem d_Mod_latch_107 : decode b_Mod_latch 107 = .ok (.lconst 0, 1) := by decide +kernel
theorem d_Mod_latch_108 : decode b_Mod_latch 108 = .ok (.lastore, 1) := by decide +kernel
theorem d_Mod_latch_109 : decode b_Mod_latch 109 = .ok (.iinc 3 1, 3) := by decide +kernel
theorem d_Mod_latch_112 : decode b_Mod_latch 112 = .ok (.goto (-23), 3) := by decide +kernel
theorem d_Mod_latch_115 : decode b_Mod_latch 115 = .ok (.iconst 1, 1) := by decide +kernel
theorem d_Mod_latch_116 : decode b_Mod_latch 116 = .ok (.ireturn, 1) := by decide +kernel
theorem d_Mod_power_0 : decode b_Mod_power 0 = .ok (.iload_n 1, 1) := by decide +kernel
theorem d_Mod_power_1 : decode b_Mod_power 1 = .ok (.ifCond .lt 16, 3) := by decide +kernel
theorem d_Mod_power_4 : decode b_Mod_power 4 = .ok (.iload_n 1, 1) := by decide +kernel
theorem d_Mod_power_5 : decode b_Mod_power 5 = .ok (.iconst 5, 1) := by decide +kernel
theorem d_Mod_power_6 : decode b_Mod_power 6 = .ok (.if_icmp .gt 11, 3) := by decide +kernel
theorem d_Mod_power_9 : decode b_Mod_power 9 = .ok (.aload_n 0, 1) := by decide +kernel
theorem d_Mod_power_10 : decode b_Mod_power 10 = .ok (.getfield 13, 3) := by decide +kernel
theorem d_Mod_power_13 : decode b_Mod_power 13 = .ok (.iload_n 1, 1) := by decide +kernel
theorem d_Mod_power_14 : decode b_Mod_power 14 = .ok (.if_icmp .eq 5, 3) := by decide +kernel
theorem d_Mod_power_17 : decode b_Mod_power 17 = .ok (.iconst 0, 1) := by decide +kernel
theorem d_Mod_power_18 : decode b_Mod_power 18 = .ok (.ireturn, 1) := by decide +kernel
theorem d_Mod_power_19 : decode b_Mod_power 19 = .ok (.aload_n 0, 1) := by decide +kernel
theorem d_Mod_power_20 : decode b_Mod_power 20 = .ok (.iconst (-1), 1) := by decide +kernel
theorem d_Mod_power_21 : decode b_Mod_power 21 = .ok (.putfield 13, 3) := by decide +kernel
theorem d_Mod_power_24 : decode b_Mod_power 24 = .ok (.aload_n 0, 1) := by decide +kernel
theorem d_Mod_power_25 : decode b_Mod_power 25 = .ok (.iload_n 1, 1) := by decide +kernel
theorem d_Mod_power_26 : decode b_Mod_power 26 = .ok (.putfield 17, 3) := by decide +kernel
theorem d_Mod_power_29 : decode b_Mod_power 29 = .ok (.aload_n 0, 1) := by decide +kernel
theorem d_Mod_power_30 : decode b_Mod_power 30 = .ok (.sipush 255, 3) := by decide +kernel
theorem d_Mod_power_33 : decode b_Mod_power 33 = .ok (.putfield 110, 3) := by decide +kernel
theorem d_Mod_power_36 : decode b_Mod_power 36 = .ok (.iconst 1, 1) := by decide +kernel
theorem d_Mod_power_37 : decode b_Mod_power 37 = .ok (.ireturn, 1) := by decide +kernel
theorem d_Mod_tick_0 : decode b_Mod_tick 0 = .ok (.iload_n 1, 1) := by decide +kernel
theorem d_Mod_tick_1 : decode b_Mod_tick 1 = .ok (.ifCond .lt 10, 3) := by decide +kernel
theorem d_Mod_tick_4 : decode b_Mod_tick 4 = .ok (.iload_n 1, 1) := by decide +kernel
theorem d_Mod_tick_5 : decode b_Mod_tick 5 = .ok (.sipush 1000, 3) := by decide +kernel
theorem d_Mod_tick_8 : decode b_Mod_tick 8 = .ok (.if_icmp .le 6, 3) := by decide +kernel
theorem d_Mod_tick_11 : decode b_Mod_tick 11 = .ok (.bipush (-2), 2) := by decide +kernel
theorem d_Mod_tick_13 : decode b_Mod_tick 13 = .ok (.ireturn, 1) := by decide +kernel
theorem d_Mod_tick_14 : decode b_Mod_tick 14 = .ok (.aload_n 0, 1) := by decide +kernel
theorem d_Mod_tick_15 : decode b_Mod_tick 15 = .ok (.aload_n 0, 1) := by decide +kernel
theorem d_Mod_tick_16 : decode b_Mod_tick 16 = .ok (.getfield 110, 3) := by decide +kernel
theorem d_Mod_tick_19 : decode b_Mod_tick 19 = .ok (.aload_n 0, 1) := by decide +kernel
theorem d_Mod_tick_20 : decode b_Mod_tick 20 = .ok (.getfield 110, 3) := by decide +kernel
theorem d_Mod_tick_23 : decode b_Mod_tick 23 = .ok (.iconst 1, 1) := by decide +kernel
theorem d_Mod_tick_24 : decode b_Mod_tick 24 = .ok (.isub, 1) := by decide +kernel
theorem d_Mod_tick_25 : decode b_Mod_tick 25 = .ok (.iand, 1) := by decide +kernel
theorem d_Mod_tick_26 : decode b_Mod_tick 26 = .ok (.putfield 110, 3) := by decide +kernel
theorem d_Mod_tick_29 : decode b_Mod_tick 29 = .ok (.iconst 0, 1) := by decide +kernel
theorem d_Mod_tick_30 : decode b_Mod_tick 30 = .ok (.istore_n 2, 1) := by decide +kernel
theorem d_Mod_tick_31 : decode b_Mod_tick 31 = .ok (.iconst 0, 1) := by decide +kernel
theorem d_Mod_tick_32 : decode b_Mod_tick 32 = .ok (.istore_n 3, 1) := by decide +kernel
theorem d_Mod_tick_33 : decode b_Mod_tick 33 = .ok (.iload_n 3, 1) := by decide +kernel
theorem d_Mod_tick_34 : decode b_Mod_tick 34 = .ok (.iload_n 1, 1) := by decide +kernel
theorem d_Mod_tick_35 : decode b_Mod_tick 35 = .ok (.if_icmp .ge 16, 3) := by decide +kernel
theorem d_Mod_tick_38 : decode b_Mod_tick 38 = .ok (.iload_n 2, 1) := by decide +kernel
theorem d_Mod_tick_39 : decode b_Mod_tick 39 = .ok (.aload_n 0, 1) := by decide +kernel
theorem d_Mod_tick_40 : decode b_Mod_tick 40 = .ok (.invokevirtual 130, 3) := by decide +kernel
theorem d_Mod_tick_43 : decode b_Mod_tick 43 = .ok (.iadd, 1) := by decide +kernel
theorem d_Mod_tick_44 : decode b_Mod_tick 44 = .ok (.istore_n 2, 1) := by decide +kernel
theorem d_Mod_tick_45 : decode b_Mod_tick 45 = .ok (.iinc 3 1, 3) := by decide +kernel
theorem d_Mod_tick_48 : decode b_Mod_tick 48 = .ok (.goto (-15), 3) := by decide +kernel
theorem d_Mod_tick_51 : decode b_Mod_tick 51 = .ok (.iload_n 2, 1) := by decide +kernel
theorem d_Mod_tick_52 : decode b_Mod_tick 52 = .ok (.ireturn, 1) := by decide +kernel
theorem d_Mod_scrub_0 : decode b_Mod_scrub 0 = .ok (.aload_n 0, 1) := by decide +kernel
theorem d_Mod_scrub_1 : decode b_Mod_scrub 1 = .ok (.getfield 7, 3) := by decide +kernel
theorem d_Mod_scrub_4 : decode b_Mod_scrub 4 = .ok (.aload_n 0, 1) := by decide +kernel
theorem d_Mod_scrub_5 : decode b_Mod_scrub 5 = .ok (.getfield 121, 3) := by decide +kernel
theorem d_Mod_scrub_8 : decode b_Mod_scrub 8 = .ok (.laload, 1) := by decide +kernel
theorem d_Mod_scrub_9 : decode b_Mod_scrub 9 = .ok (.invokestatic 117, 3) := by decide +kernel
theorem d_Mod_scrub_12 : decode b_Mod_scrub 12 = .ok (.istore_n 1, 1) := by decide +kernel
theorem d_Mod_scrub_13 : decode b_Mod_scrub 13 = .ok (.aload_n 0, 1) := by decide +kernel
theorem d_Mod_scrub_14 : decode b_Mod_scrub 14 = .ok (.dup, 1) := by decide +kernel
theorem d_Mod_scrub_15 : decode b_Mod_scrub 15 = .ok (.getfield 124, 3) := by decide +kernel
theorem d_Mod_scrub_18 : decode b_Mod_scrub 18 = .ok (.iload_n 1, 1) := by decide +kernel
theorem d_Mod_scrub_19 : decode b_Mod_scrub 19 = .ok (.iconst 1, 1) := by decide +kernel
theorem d_Mod_scrub_20 : decode b_Mod_scrub 20 = .ok (.if_icmp .ne 7, 3) := by decide +kernel
theorem d_Mod_scrub_23 : decode b_Mod_scrub 23 = .ok (.iconst 1, 1) := by decide +kernel
theorem d_Mod_scrub_24 : decode b_Mod_scrub 24 = .ok (.goto 4, 3) := by decide +kernel
theorem d_Mod_scrub_27 : decode b_Mod_scrub 27 = .ok (.iconst 0, 1) := by decide +kernel
theorem d_Mod_scrub_28 : decode b_Mod_scrub 28 = .ok (.iadd, 1) := by decide +kernel
theorem d_Mod_scrub_29 : decode b_Mod_scrub 29 = .ok (.putfield 124, 3) := by decide +kernel
theorem d_Mod_scrub_32 : decode b_Mod_scrub 32 = .ok (.aload_n 0, 1) := by decide +kernel
theorem d_Mod_scrub_33 : decode b_Mod_scrub 33 = .ok (.dup, 1) := by decide +kernel
theorem d_Mod_scrub_34 : decode b_Mod_scrub 34 = .ok (.getfield 127, 3) := by decide +kernel
theorem d_Mod_scrub_37 : decode b_Mod_scrub 37 = .ok (.iload_n 1, 1) := by decide +kernel
theorem d_Mod_scrub_38 : decode b_Mod_scrub 38 = .ok (.iconst 2, 1) := by decide +kernel
theorem d_Mod_scrub_39 : decode b_Mod_scrub 39 = .ok (.if_icmp .ne 7, 3) := by decide +kernel
theorem d_Mod_scrub_42 : decode b_Mod_scrub 42 = .ok (.iconst 1, 1) := by decide +kernel
theorem d_Mod_scrub_43 : decode b_Mod_scrub 43 = .ok (.goto 4, 3) := by decide +kernel
theorem d_Mod_scrub_46 : decode b_Mod_scrub 46 = .ok (.iconst 0, 1) := by decide +kernel
theorem d_Mod_scrub_47 : decode b_Mod_scrub 47 = .ok (.iadd, 1) := by decide +kernel
theorem d_Mod_scrub_48 : decode b_Mod_scrub 48 = .ok (.putfield 127, 3) := by decide +kernel
theorem d_Mod_scrub_51 : decode b_Mod_scrub 51 = .ok (.aload_n 0, 1) := by decide +kernel
theorem d_Mod_scrub_52 : decode b_Mod_scrub 52 = .ok (.getfield 7, 3) := by decide +kernel
theorem d_Mod_scrub_55 : decode b_Mod_scrub 55 = .ok (.aload_n 0, 1) := by decide +kernel
theorem d_Mod_scrub_56 : decode b_Mod_scrub 56 = .ok (.getfield 121, 3) := by decide +kernel
theorem d_Mod_scrub_59 : decode b_Mod_scrub 59 = .ok (.lconst 0, 1) := by decide +kernel
theorem d_Mod_scrub_60 : decode b_Mod_scrub 60 = .ok (.lastore, 1) := by decide +kernel
theorem d_Mod_scrub_61 : decode b_Mod_scrub 61 = .ok (.aload_n 0, 1) := by decide +kernel
theorem d_Mod_scrub_62 : decode b_Mod_scrub 62 = .ok (.aload_n 0, 1) := by decide +kernel
theorem d_Mod_scrub_63 : decode b_Mod_scrub 63 = .ok (.getfield 121, 3) := by decide +kernel
theorem d_Mod_scrub_66 : decode b_Mod_scrub 66 = .ok (.sipush 767, 3) := by decide +kernel
theorem d_Mod_scrub_69 : decode b_Mod_scrub 69 = .ok (.if_icmp .ne 7, 3) := by decide +kernel
theorem d_Mod_scrub_72 : decode b_Mod_scrub 72 = .ok (.iconst 0, 1) := by decide +kernel
theorem d_Mod_scrub_73 : decode b_Mod_scrub 73 = .ok (.goto 9, 3) := by decide +kernel
theorem d_Mod_scrub_76 : decode b_Mod_scrub 76 = .ok (.aload_n 0, 1) := by decide +kernel
theorem d_Mod_scrub_77 : decode b_Mod_scrub 77 = .ok (.getfield 121, 3) := by decide +kernel
theorem d_Mod_scrub_80 : decode b_Mod_scrub 80 = .ok (.iconst 1, 1) := by decide +kernel
theorem d_Mod_scrub_81 : decode b_Mod_scrub 81 = .ok (.iadd, 1) := by decide +kernel
theorem d_Mod_scrub_82 : decode b_Mod_scrub 82 = .ok (.putfield 121, 3) := by decide +kernel
theorem d_Mod_scrub_85 : decode b_Mod_scrub 85 = .ok (.iload_n 1, 1) := by decide +kernel
theorem d_Mod_scrub_86 : decode b_Mod_scrub 86 = .ok (.ifCond .le 7, 3) := by decide +kernel
theorem d_Mod_scrub_89 : decode b_Mod_scrub 89 = .ok (.iconst 1, 1) := by decide +kernel
theorem d_Mod_scrub_90 : decode b_Mod_scrub 90 = .ok (.goto 4, 3) := by decide +kernel
theorem d_Mod_scrub_93 : decode b_Mod_scrub 93 = .ok (.iconst 0, 1) := by decide +kernel
theorem d_Mod_scrub_94 : decode b_Mod_scrub 94 = .ok (.ireturn, 1) := by decide +kernel
theorem d_Mod_makeStore_0 : decode b_Mod_makeStore 0 = .ok (.iload_n 1, 1) := by decide +kernel
theorem d_Mod_makeStore_1 : decode b_Mod_makeStore 1 = .ok (.ifCond .lt 19, 3) := by decide +kernel
theorem d_Mod_makeStore_4 : decode b_Mod_makeStore 4 = .ok (.iload_n 1, 1) := by decide +kernel
theorem d_Mod_makeStore_5 : decode b_Mod_makeStore 5 = .ok (.iconst 3, 1) := by decide +kernel
theorem d_Mod_makeStore_6 : decode b_Mod_makeStore 6 = .ok (.if_icmp .gt 14, 3) := by decide +kernel
theorem d_Mod_makeStore_9 : decode b_Mod_makeStore 9 = .ok (.iload_n 3, 1) := by decide +kernel
theorem d_Mod_makeStore_10 : decode b_Mod_makeStore 10 = .ok (.iconst 3, 1) := by decide +kernel
theorem d_Mod_makeStore_11 : decode b_Mod_makeStore 11 = .ok (.if_icmp .lt 9, 3) := by decide +kernel
theorem d_Mod_makeStore_14 : decode b_Mod_makeStore 14 = .ok (.iload_n 3, 1) := by decide +kernel
theorem d_Mod_makeStore_15 : decode b_Mod_makeStore 15 = .ok (.bipush 40, 2) := by decide +kernel
theorem d_Mod_makeStore_17 : decode b_Mod_makeStore 17 = .ok (.if_icmp .le 6, 3) := by decide +kernel
theorem d_Mod_makeStore_20 : decode b_Mod_makeStore 20 = .ok (.bipush (-2), 2) := by decide +kernel
theorem d_Mod_makeStore_22 : decode b_Mod_makeStore 22 = .ok (.ireturn, 1) := by decide +kernel
theorem d_Mod_makeStore_23 : decode b_Mod_makeStore 23 = .ok (.aload_n 0, 1) := by decide +kernel
theorem d_Mod_makeStore_24 : decode b_Mod_makeStore 24 = .ok (.getfield 20, 3) := by decide +kernel
theorem d_Mod_makeStore_27 : decode b_Mod_makeStore 27 = .ok (.iload_n 1, 1) := by decide +kernel
theorem d_Mod_makeStore_28 : decode b_Mod_makeStore 28 = .ok (.baload, 1) := by decide +kernel
theorem d_Mod_makeStore_29 : decode b_Mod_makeStore 29 = .ok (.ifCond .eq 6, 3) := by decide +kernel
theorem d_Mod_makeStore_32 : decode b_Mod_makeStore 32 = .ok (.bipush (-3), 2) := by decide +kernel
theorem d_Mod_makeStore_34 : decode b_Mod_makeStore 34 = .ok (.ireturn, 1) := by decide +kernel
theorem d_Mod_makeStore_35 : decode b_Mod_makeStore 35 = .ok (.iload_n 3, 1) := by decide +kernel
theorem d_Mod_makeStore_36 : decode b_Mod_makeStore 36 = .ok (.aload_n 0, 1) := by decide +kernel
theorem d_Mod_makeStore_37 : decode b_Mod_makeStore 37 = .ok (.invokevirtual 134, 3) := by decide +kernel
theorem d_Mod_makeStore_40 : decode b_Mod_makeStore 40 = .ok (.if_icmp .le 6, 3) := by decide +kernel
theorem d_Mod_makeStore_43 : decode b_Mod_makeStore 43 = .ok (.bipush (-4), 2) := by decide +kernel
theorem d_Mod_makeStore_45 : decode b_Mod_makeStore 45 = .ok (.ireturn, 1) := by decide +kernel
theorem d_Mod_makeStore_46 : decode b_Mod_makeStore 46 = .ok (.aload_n 0, 1) := by decide +kernel
theorem d_Mod_makeStore_47 : decode b_Mod_makeStore 47 = .ok (.getfield 20, 3) := by decide +kernel
theorem d_Mod_makeStore_50 : decode b_Mod_makeStore 50 = .ok (.iload_n 1, 1) := by decide +kernel
theorem d_Mod_makeStore_51 : decode b_Mod_makeStore 51 = .ok (.iconst 1, 1) := by decide +kernel
theorem d_Mod_makeStore_52 : decode b_Mod_makeStore 52 = .ok (.bastore, 1) := by decide +kernel
theorem d_Mod_makeStore_53 : decode b_Mod_makeStore 53 = .ok (.aload_n 0, 1) := by decide +kernel
theorem d_Mod_makeStore_54 : decode b_Mod_makeStore 54 = .ok (.getfield 24, 3) := by decide +kernel
theorem d_Mod_makeStore_57 : decode b_Mod_makeStore 57 = .ok (.iload_n 1, 1) := by decide +kernel
theorem d_Mod_makeStore_58 : decode b_Mod_makeStore 58 = .ok (.iload_n 2, 1) := by decide +kernel
theorem d_Mod_makeStore_59 : decode b_Mod_makeStore 59 = .ok (.bastore, 1) := by decide +kernel
theorem d_Mod_makeStore_60 : decode b_Mod_makeStore 60 = .ok (.aload_n 0, 1) := by decide +kernel
theorem d_Mod_makeStore_61 : decode b_Mod_makeStore 61 = .ok (.getfield 27, 3) := by decide +kernel
theorem d_Mod_makeStore_64 : decode b_Mod_makeStore 64 = .ok (.iload_n 1, 1) := by decide +kernel
theorem d_Mod_makeStore_65 : decode b_Mod_makeStore 65 = .ok (.iload_n 3, 1) := by decide +kernel
theorem d_Mod_makeStore_66 : decode b_Mod_makeStore 66 = .ok (.iastore, 1) := by decide +kernel
theorem d_Mod_makeStore_67 : decode b_Mod_makeStore 67 = .ok (.aload_n 0, 1) := by decide +kernel
theorem d_Mod_makeStore_68 : decode b_Mod_makeStore 68 = .ok (.getfield 31, 3) := by decide +kernel
theorem d_Mod_makeStore_71 : decode b_Mod_makeStore 71 = .ok (.iload_n 1, 1) := by decide +kernel
theorem d_Mod_makeStore_72 : decode b_Mod_makeStore 72 = .ok (.iconst 0, 1) := by decide +kernel
theorem d_Mod_makeStore_73 : decode b_Mod_makeStore 73 = .ok (.iastore, 1) := by decide +kernel
theorem d_Mod_makeStore_74 : decode b_Mod_makeStore 74 = .ok (.aload_n 0, 1) := by decide +kernel
theorem d_Mod_makeStore_75 : decode b_Mod_makeStore 75 = .ok (.getfield 34, 3) := by decide +kernel
theorem d_Mod_makeStore_78 : decode b_Mod_makeStore 78 = .ok (.iload_n 1, 1) := by decide +kernel
theorem d_Mod_makeStore_79 : decode b_Mod_makeStore 79 = .ok (.iconst 0, 1) := by decide +kernel
theorem d_Mod_makeStore_80 : decode b_Mod_makeStore 80 = .ok (.iastore, 1) := by decide +kernel
theorem d_Mod_makeStore_81 : decode b_Mod_makeStore 81 = .ok (.aload_n 0, 1) := by decide +kernel
theorem d_Mod_makeStore_82 : decode b_Mod_makeStore 82 = .ok (.getfield 37, 3) := by decide +kernel
theorem d_Mod_makeStore_85 : decode b_Mod_makeStore 85 = .ok (.iload_n 1, 1) := by decide +kernel
theorem d_Mod_makeStore_86 : decode b_Mod_makeStore 86 = .ok (.iconst 0, 1) := by decide +kernel
theorem d_Mod_makeStore_87 : decode b_Mod_makeStore 87 = .ok (.iastore, 1) := by decide +kernel
theorem d_Mod_makeStore_88 : decode b_Mod_makeStore 88 = .ok (.aload_n 0, 1) := by decide +kernel
theorem d_Mod_makeStore_89 : decode b_Mod_makeStore 89 = .ok (.getfield 40, 3) := by decide +kernel
theorem d_Mod_makeStore_92 : decode b_Mod_makeStore 92 = .ok (.iload_n 1, 1) := by decide +kernel
theorem d_Mod_makeStore_93 : decode b_Mod_makeStore 93 = .ok (.bipush 16, 2) := by decide +kernel
theorem d_Mod_makeStore_95 : decode b_Mod_makeStore 95 = .ok (.iastore, 1) := by decide +kernel
theorem d_Mod_makeStore_96 : decode b_Mod_makeStore 96 = .ok (.aload_n 0, 1) := by decide +kernel
theorem d_Mod_makeStore_97 : decode b_Mod_makeStore 97 = .ok (.invokevirtual 137, 3) := by decide +kernel
theorem d_Mod_makeStore_100 : decode b_Mod_makeStore 100 = .ok (.aload_n 0, 1) := by decide +kernel
theorem d_Mod_makeStore_101 : decode b_Mod_makeStore 101 = .ok (.invokevirtual 134, 3) := by decide +kernel
theorem d_Mod_makeStore_104 : decode b_Mod_makeStore 104 = .ok (.ireturn, 1) := by decide +kernel
theorem d_Mod_unpromised_0 : decode b_Mod_unpromised 0 = .ok (.bipush 40, 2) := by decide +kernel
theorem d_Mod_unpromised_2 : decode b_Mod_unpromised 2 = .ok (.istore_n 1, 1) := by decide +kernel
theorem d_Mod_unpromised_3 : decode b_Mod_unpromised 3 = .ok (.iconst 0, 1) := by decide +kernel
theorem d_Mod_unpromised_4 : decode b_Mod_unpromised 4 = .ok (.istore_n 2, 1) := by decide +kernel
theorem d_Mod_unpromised_5 : decode b_Mod_unpromised 5 = .ok (.iload_n 2, 1) := by decide +kernel
theorem d_Mod_unpromised_6 : decode b_Mod_unpromised 6 = .ok (.iconst 4, 1) := by decide +kernel
theorem d_Mod_unpromised_7 : decode b_Mod_unpromised 7 = .ok (.if_icmp .ge 31, 3) := by decide +kernel
theorem d_Mod_unpromised_10 : decode b_Mod_unpromised 10 = .ok (.iload_n 1, 1) := by decide +kernel
theorem d_Mod_unpromised_11 : decode b_Mod_unpromised 11 = .ok (.aload_n 0, 1) := by decide +kernel
theorem d_Mod_unpromised_12 : decode b_Mod_unpromised 12 = .ok (.getfield 20, 3) := by decide +kernel
theorem d_Mod_unpromised_15 : decode b_Mod_unpromised 15 = .ok (.iload_n 2, 1) := by decide +kernel
theorem d_Mod_unpromised_16 : decode b_Mod_unpromised 16 = .ok (.baload, 1) := by decide +kernel
theorem d_Mod_unpromised_17 : decode b_Mod_unpromised 17 = .ok (.ifCond .eq 12, 3) := by decide +kernel
theorem d_Mod_unpromised_20 : decode b_Mod_unpromised 20 = .ok (.aload_n 0, 1) := by decide +kernel
theorem d_Mod_unpromised_21 : decode b_Mod_unpromised 21 = .ok (.getfield 27, 3) := by decide +kernel
theorem d_Mod_unpromised_24 : decode b_Mod_unpromised 24 = .ok (.iload_n 2, 1) := by decide +kernel
theorem d_Mod_unpromised_25 : decode b_Mod_unpromised 25 = .ok (.iaload, 1) := by decide +kernel
theorem d_Mod_unpromised_26 : decode b_Mod_unpromised 26 = .ok (.goto 4, 3) := by decide +kernel
theorem d_Mod_unpromised_29 : decode b_Mod_unpromised 29 = .ok (.iconst 0, 1) := by decide +kernel
theorem d_Mod_unpromised_30 : decode b_Mod_unpromised 30 = .ok (.isub, 1) := by decide +kernel
theorem d_Mod_unpromised_31 : decode b_Mod_unpromised 31 = .ok (.istore_n 1, 1) := by decide +kernel
theorem d_Mod_unpromised_32 : decode b_Mod_unpromised 32 = .ok (.iinc 2 1, 3) := by decide +kernel
theorem d_Mod_unpromised_35 : decode b_Mod_unpromised 35 = .ok (.goto (-30), 3) := by decide +kernel
theorem d_Mod_unpromised_38 : decode b_Mod_unpromised 38 = .ok (.iload_n 1, 1) := by decide +kernel
theorem d_Mod_unpromised_39 : decode b_Mod_unpromised 39 = .ok (.ireturn, 1) := by decide +kernel
theorem d_Mod_save_0 : decode b_Mod_save 0 = .ok (.iconst 0, 1) := by decide +kernel
theorem d_Mod_save_1 : decode b_Mod_save 1 = .ok (.istore_n 1, 1) := by decide +kernel
theorem d_Mod_save_2 : decode b_Mod_save 2 = .ok (.iload_n 1, 1) := by decide +kernel
theorem d_Mod_save_3 : decode b_Mod_save 3 = .ok (.sipush 280, 3) := by decide +kernel
theorem d_Mod_save_6 : decode b_Mod_save 6 = .ok (.if_icmp .ge 38, 3) := by decide +kernel
theorem d_Mod_save_9 : decode b_Mod_save 9 = .ok (.aload_n 0, 1) := by decide +kernel
theorem d_Mod_save_10 : decode b_Mod_save 10 = .ok (.getfield 70, 3) := by decide +kernel
theorem d_Mod_save_13 : decode b_Mod_save 13 = .ok (.iload_n 1, 1) := by decide +kernel
theorem d_Mod_save_14 : decode b_Mod_save 14 = .ok (.aload_n 0, 1) := by decide +kernel
theorem d_Mod_save_15 : decode b_Mod_save 15 = .ok (.getfield 49, 3) := by decide +kernel
theorem d_Mod_save_18 : decode b_Mod_save 18 = .ok (.iload_n 1, 1) := by decide +kernel
theorem d_Mod_save_19 : decode b_Mod_save 19 = .ok (.iaload, 1) := by decide +kernel
theorem d_Mod_save_20 : decode b_Mod_save 20 = .ok (.ifCond .lt 16, 3) := by decide +kernel
theorem d_Mod_save_23 : decode b_Mod_save 23 = .ok (.aload_n 0, 1) := by decide +kernel
theorem d_Mod_save_24 : decode b_Mod_save 24 = .ok (.getfield 67, 3) := by decide +kernel
theorem d_Mod_save_27 : decode b_Mod_save 27 = .ok (.iload_n 1, 1) := by decide +kernel
theorem d_Mod_save_28 : decode b_Mod_save 28 = .ok (.baload, 1) := by decide +kernel
theorem d_Mod_save_29 : decode b_Mod_save 29 = .ok (.ifCond .eq 7, 3) := by decide +kernel
theorem d_Mod_save_32 : decode b_Mod_save 32 = .ok (.iconst 1, 1) := by decide +kernel
theorem d_Mod_save_33 : decode b_Mod_save 33 = .ok (.goto 4, 3) := by decide +kernel
theorem d_Mod_save_36 : decode b_Mod_save 36 = .ok (.iconst 0, 1) := by decide +kernel
theorem d_Mod_save_37 : decode b_Mod_save 37 = .ok (.bastore, 1) := by decide +kernel
theorem d_Mod_save_38 : decode b_Mod_save 38 = .ok (.iinc 1 1, 3) := by decide +kernel
theorem d_Mod_save_41 : decode b_Mod_save 41 = .ok (.goto (-39), 3) := by decide +kernel
theorem d_Mod_save_44 : decode b_Mod_save 44 = .ok (.return_, 1) := by decide +kernel
theorem d_Mod_dropStore_0 : decode b_Mod_dropStore 0 = .ok (.aload_n 0, 1) := by decide +kernel
theorem d_Mod_dropStore_1 : decode b_Mod_dropStore 1 = .ok (.iload_n 1, 1) := by decide +kernel
theorem d_Mod_dropStore_2 : decode b_Mod_dropStore 2 = .ok (.invokevirtual 144, 3) := by decide +kernel
theorem d_Mod_dropStore_5 : decode b_Mod_dropStore 5 = .ok (.ifCond .ne 5, 3) := by decide +kernel
theorem d_Mod_dropStore_8 : decode b_Mod_dropStore 8 = .ok (.iconst 0, 1) := by decide +kernel
theorem d_Mod_dropStore_9 : decode b_Mod_dropStore 9 = .ok (.ireturn, 1) := by decide +kernel
theorem d_Mod_dropStore_10 : decode b_Mod_dropStore 10 = .ok (.aload_n 0, 1) := by decide +kernel
theorem d_Mod_dropStore_11 : decode b_Mod_dropStore 11 = .ok (.getfield 37, 3) := by decide +kernel
theorem d_Mod_dropStore_14 : decode b_Mod_dropStore 14 = .ok (.iload_n 1, 1) := by decide +kernel
theorem d_Mod_dropStore_15 : decode b_Mod_dropStore 15 = .ok (.iaload, 1) := by decide +kernel
theorem d_Mod_dropStore_16 : decode b_Mod_dropStore 16 = .ok (.ifCond .le 11, 3) := by decide +kernel
theorem d_Mod_dropStore_19 : decode b_Mod_dropStore 19 = .ok (.aload_n 0, 1) := by decide +kernel
theorem d_Mod_dropStore_20 : decode b_Mod_dropStore 20 = .ok (.iload_n 1, 1) := by decide +kernel
theorem d_Mod_dropStore_21 : decode b_Mod_dropStore 21 = .ok (.invokevirtual 148, 3) := by decide +kernel
theorem d_Mod_dropStore_24 : decode b_Mod_dropStore 24 = .ok (.goto (-14), 3) := by decide +kernel
theorem d_Mod_dropStore_27 : decode b_Mod_dropStore 27 = .ok (.aload_n 0, 1) := by decide +kernel
theorem d_Mod_dropStore_28 : decode b_Mod_dropStore 28 = .ok (.getfield 20, 3) := by decide +kernel
theorem d_Mod_dropStore_31 : decode b_Mod_dropStore 31 = .ok (.iload_n 1, 1) := by decide +kernel
theorem d_Mod_dropStore_32 : decode b_Mod_dropStore 32 = .ok (.iconst 0, 1) := by decide +kernel
theorem d_Mod_dropStore_33 : decode b_Mod_dropStore 33 = .ok (.bastore, 1) := by decide +kernel
theorem d_Mod_dropStore_34 : decode b_Mod_dropStore 34 = .ok (.iconst 0, 1) := by decide +kernel
theorem d_Mod_dropStore_35 : decode b_Mod_dropStore 35 = .ok (.istore_n 2, 1) := by decide +kernel
theorem d_Mod_dropStore_36 : decode b_Mod_dropStore 36 = .ok (.iload_n 2, 1) := by decide +kernel
theorem d_Mod_dropStore_37 : decode b_Mod_dropStore 37 = .ok (.iconst 4, 1) := by decide +kernel
theorem d_Mod_dropStore_38 : decode b_Mod_dropStore 38 = .ok (.if_icmp .ge 35, 3) := by decide +kernel
theorem d_Mod_dropStore_41 : decode b_Mod_dropStore 41 = .ok (.aload_n 0, 1) := by decide +kernel
theorem d_Mod_dropStore_42 : decode b_Mod_dropStore 42 = .ok (.getfield 79, 3) := by decide +kernel
theorem d_Mod_dropStore_45 : decode b_Mod_dropStore 45 = .ok (.iload_n 2, 1) := by decide +kernel
theorem d_Mod_dropStore_46 : decode b_Mod_dropStore 46 = .ok (.aload_n 0, 1) := by decide +kernel
theorem d_Mod_dropStore_47 : decode b_Mod_dropStore 47 = .ok (.getfield 79, 3) := by decide +kernel
theorem d_Mod_dropStore_50 : decode b_Mod_dropStore 50 = .ok (.iload_n 2, 1) := by decide +kernel
theorem d_Mod_dropStore_51 : decode b_Mod_dropStore 51 = .ok (.iaload, 1) := by decide +kernel
theorem d_Mod_dropStore_52 : decode b_Mod_dropStore 52 = .ok (.iload_n 1, 1) := by decide +kernel
theorem d_Mod_dropStore_53 : decode b_Mod_dropStore 53 = .ok (.if_icmp .ne 7, 3) := by decide +kernel
theorem d_Mod_dropStore_56 : decode b_Mod_dropStore 56 = .ok (.iconst (-1), 1) := by decide +kernel
theorem d_Mod_dropStore_57 : decode b_Mod_dropStore 57 = .ok (.goto 9, 3) := by decide +kernel
theorem d_Mod_dropStore_60 : decode b_Mod_dropStore 60 = .ok (.aload_n 0, 1) := by decide +kernel
theorem d_Mod_dropStore_61 : decode b_Mod_dropStore 61 = .ok (.getfield 79, 3) := by decide +kernel
theorem d_Mod_dropStore_64 : decode b_Mod_dropStore 64 = .ok (.iload_n 2, 1) := by decide +kernel
theorem d_Mod_dropStore_65 : decode b_Mod_dropStore 65 = .ok (.iaload, 1) := by decide +kernel
theorem d_Mod_dropStore_66 : decode b_Mod_dropStore 66 = .ok (.iastore, 1) := by decide +kernel
theorem d_Mod_dropStore_67 : decode b_Mod_dropStore 67 = .ok (.iinc 2 1, 3) := by decide +kernel
theorem d_Mod_dropStore_70 : decode b_Mod_dropStore 70 = .ok (.goto (-34), 3) := by decide +kernel
theorem d_Mod_dropStore_73 : decode b_Mod_dropStore 73 = .ok (.aload_n 0, 1) := by decide +kernel
theorem d_Mod_dropStore_74 : decode b_Mod_dropStore 74 = .ok (.invokevirtual 137, 3) := by decide +kernel
theorem d_Mod_dropStore_77 : decode b_Mod_dropStore 77 = .ok (.iconst 1, 1) := by decide +kernel
theorem d_Mod_dropStore_78 : decode b_Mod_dropStore 78 = .ok (.ireturn, 1) := by decide +kernel
theorem d_Mod_isMade_0 : decode b_Mod_isMade 0 = .ok (.iload_n 1, 1) := by decide +kernel
theorem d_Mod_isMade_1 : decode b_Mod_isMade 1 = .ok (.ifCond .lt 21, 3) := by decide +kernel
theorem d_Mod_isMade_4 : decode b_Mod_isMade 4 = .ok (.iload_n 1, 1) := by decide +kernel
theorem d_Mod_isMade_5 : decode b_Mod_isMade 5 = .ok (.iconst 3, 1) := by decide +kernel
theorem d_Mod_isMade_6 : decode b_Mod_isMade 6 = .ok (.if_icmp .gt 16, 3) := by decide +kernel
theorem d_Mod_isMade_9 : decode b_Mod_isMade 9 = .ok (.aload_n 0, 1) := by decide +kernel
theorem d_Mod_isMade_10 : decode b_Mod_isMade 10 = .ok (.getfield 20, 3) := by decide +kernel
theorem d_Mod_isMade_13 : decode b_Mod_isMade 13 = .ok (.iload_n 1, 1) := by decide +kernel
theorem d_Mod_isMade_14 : decode b_Mod_isMade 14 = .ok (.baload, 1) := by decide +kernel
theorem d_Mod_isMade_15 : decode b_Mod_isMade 15 = .ok (.ifCond .eq 7, 3) := by decide +kernel
theorem d_Mod_isMade_18 : decode b_Mod_isMade 18 = .ok (.iconst 1, 1) := by decide +kernel
theorem d_Mod_isMade_19 : decode b_Mod_isMade 19 = .ok (.goto 4, 3) := by decide +kernel
theorem d_Mod_isMade_22 : decode b_Mod_isMade 22 = .ok (.iconst 0, 1) := by decide +kernel
theorem d_Mod_isMade_23 : decode b_Mod_isMade 23 = .ok (.ireturn, 1) := by decide +kernel
theorem d_Mod_free_0 : decode b_Mod_free 0 = .ok (.aload_n 0, 1) := by decide +kernel
theorem d_Mod_free_1 : decode b_Mod_free 1 = .ok (.getfield 43, 3) := by decide +kernel
theorem d_Mod_free_4 : decode b_Mod_free 4 = .ok (.bipush 40, 2) := by decide +kernel
theorem d_Mod_free_6 : decode b_Mod_free 6 = .ok (.iload_n 1, 1) := by decide +kernel
theorem d_Mod_free_7 : decode b_Mod_free 7 = .ok (.imul, 1) := by decide +kernel
theorem d_Mod_free_8 : decode b_Mod_free 8 = .ok (.iaload, 1) := by decide +kernel
theorem d_Mod_free_9 : decode b_Mod_free 9 = .ok (.istore_n 2, 1) := by decide +kernel
theorem d_Mod_free_10 : decode b_Mod_free 10 = .ok (.aload_n 0, 1) := by decide +kernel
theorem d_Mod_free_11 : decode b_Mod_free 11 = .ok (.getfield 37, 3) := by decide +kernel
theorem d_Mod_free_14 : decode b_Mod_free 14 = .ok (.iload_n 1, 1) := by decide +kernel
theorem d_Mod_free_15 : decode b_Mod_free 15 = .ok (.dup2, 1) := by decide +kernel
theorem d_Mod_free_16 : decode b_Mod_free 16 = .ok (.iaload, 1) := by decide +kernel
theorem d_Mod_free_17 : decode b_Mod_free 17 = .ok (.iconst 1, 1) := by decide +kernel
theorem d_Mod_free_18 : decode b_Mod_free 18 = .ok (.isub, 1) := by decide +kernel
theorem d_Mod_free_19 : decode b_Mod_free 19 = .ok (.iastore, 1) := by decide +kernel
theorem d_Mod_free_20 : decode b_Mod_free 20 = .ok (.iconst 0, 1) := by decide +kernel
theorem d_Mod_free_21 : decode b_Mod_free 21 = .ok (.istore_n 3, 1) := by decide +kernel
theorem d_Mod_free_22 : decode b_Mod_free 22 = .ok (.iload_n 3, 1) := by decide +kernel
theorem d_Mod_free_23 : decode b_Mod_free 23 = .ok (.aload_n 0, 1) := by decide +kernel
theorem d_Mod_free_24 : decode b_Mod_free 24 = .ok (.getfield 37, 3) := by decide +kernel
theorem d_Mod_free_27 : decode b_Mod_free 27 = .ok (.iload_n 1, 1) := by decide +kernel
theorem d_Mod_free_28 : decode b_Mod_free 28 = .ok (.iaload, 1) := by decide +kernel
theorem d_Mod_free_29 : decode b_Mod_free 29 = .ok (.if_icmp .ge 33, 3) := by decide +kernel
theorem d_Mod_free_32 : decode b_Mod_free 32 = .ok (.aload_n 0, 1) := by decide +kernel
theorem d_Mod_free_33 : decode b_Mod_free 33 = .ok (.getfield 43, 3) := by decide +kernel
theorem d_Mod_free_36 : decode b_Mod_free 36 = .ok (.bipush 40, 2) := by decide +kernel
theorem d_Mod_free_38 : decode b_Mod_free 38 = .ok (.iload_n 1, 1) := by decide +kernel
theorem d_Mod_free_39 : decode b_Mod_free 39 = .ok (.imul, 1) := by decide +kernel
theorem d_Mod_free_40 : decode b_Mod_free 40 = .ok (.iload_n 3, 1) := by decide +kernel
theorem d_Mod_free_41 : decode b_Mod_free 41 = .ok (.iadd, 1) := by decide +kernel
theorem d_Mod_free_42 : decode b_Mod_free 42 = .ok (.aload_n 0, 1) := by decide +kernel
theorem d_Mod_free_43 : decode b_Mod_free 43 = .ok (.getfield 43, 3) := by decide +kernel
theorem d_Mod_free_46 : decode b_Mod_free 46 = .ok (.bipush 40, 2) := by decide +kernel
theorem d_Mod_free_48 : decode b_Mod_free 48 = .ok (.iload_n 1, 1) := by decide +kernel
theorem d_Mod_free_49 : decode b_Mod_free 49 = .ok (.imul, 1) := by decide +kernel
theorem d_Mod_free_50 : decode b_Mod_free 50 = .ok (.iload_n 3, 1) := by decide +kernel
theorem d_Mod_free_51 : decode b_Mod_free 51 = .ok (.iadd, 1) := by decide +kernel
theorem d_Mod_free_52 : decode b_Mod_free 52 = .ok (.iconst 1, 1) := by decide +kernel
theorem d_Mod_free_53 : decode b_Mod_free 53 = .ok (.iadd, 1) := by decide +kernel
theorem d_Mod_free_54 : decode b_Mod_free 54 = .ok (.iaload, 1) := by decide +kernel
theorem d_Mod_free_55 : decode b_Mod_free 55 = .ok (.iastore, 1) := by decide +kernel
theorem d_Mod_free_56 : decode b_Mod_free 56 = .ok (.iinc 3 1, 3) := by decide +kernel
theorem d_Mod_free_59 : decode b_Mod_free 59 = .ok (.goto (-37), 3) := by decide +kernel
theorem d_Mod_free_62 : decode b_Mod_free 62 = .ok (.aload_n 0, 1) := by decide +kernel
theorem d_Mod_free_63 : decode b_Mod_free 63 = .ok (.getfield 46, 3) := by decide +kernel
theorem d_Mod_free_66 : decode b_Mod_free 66 = .ok (.iload_n 2, 1) := by decide +kernel
theorem d_Mod_free_67 : decode b_Mod_free 67 = .ok (.iconst 0, 1) := by decide +kernel
theorem d_Mod_free_68 : decode b_Mod_free 68 = .ok (.bastore, 1) := by decide +kernel
theorem d_Mod_free_69 : decode b_Mod_free 69 = .ok (.aload_n 0, 1) := by decide +kernel
theorem d_Mod_free_70 : decode b_Mod_free 70 = .ok (.iload_n 2, 1) := by decide +kernel
theorem d_Mod_free_71 : decode b_Mod_free 71 = .ok (.iconst 0, 1) := by decide +kernel
theorem d_Mod_free_72 : decode b_Mod_free 72 = .ok (.invokevirtual 140, 3) := by decide +kernel
theorem d_Mod_free_75 : decode b_Mod_free 75 = .ok (.iconst 0, 1) := by decide +kernel
theorem d_Mod_free_76 : decode b_Mod_free 76 = .ok (.istore_n 3, 1) := by decide +kernel
theorem d_Mod_free_77 : decode b_Mod_free 77 = .ok (.iload_n 3, 1) := by decide +kernel
theorem d_Mod_free_78 : decode b_Mod_free 78 = .ok (.sipush 280, 3) := by decide +kernel
theorem d_Mod_free_81 : decode b_Mod_free 81 = .ok (.if_icmp .ge 45, 3) := by decide +kernel
theorem d_Mod_free_84 : decode b_Mod_free 84 = .ok (.aload_n 0, 1) := by decide +kernel
theorem d_Mod_free_85 : decode b_Mod_free 85 = .ok (.getfield 49, 3) := by decide +kernel
theorem d_Mod_free_88 : decode b_Mod_free 88 = .ok (.iload_n 3, 1) := by decide +kernel
theorem d_Mod_free_89 : decode b_Mod_free 89 = .ok (.aload_n 0, 1) := by decide +kernel
