theorem dX2_performBehind_240 : decode cX2_performBehind 240 = .ok (.getfield 43, 3) := by decide +kernel
theorem dX2_performBehind_243 : decode cX2_performBehind 243 = .ok (.getfield 248, 3) := by decide +kernel
theorem dX2_performBehind_246 : decode cX2_performBehind 246 = .ok (.aload_n 0, 1) := by decide +kernel
theorem dX2_performBehind_247 : decode cX2_performBehind 247 = .ok (.getfield 21, 3) := by decide +kernel
theorem dX2_performBehind_250 : decode cX2_performBehind 250 = .ok (.getfield 249, 3) := by decide +kernel
theorem dX2_performBehind_253 : decode cX2_performBehind 253 = .ok (.aload_n 0, 1) := by decide +kernel
theorem dX2_performBehind_254 : decode cX2_performBehind 254 = .ok (.getfield 91, 3) := by decide +kernel
theorem dX2_performBehind_257 : decode cX2_performBehind 257 = .ok (.invokevirtual 119, 3) := by decide +kernel
theorem dX2_performBehind_260 : decode cX2_performBehind 260 = .ok (.invokevirtual 119, 3) := by decide +kernel
theorem dX2_performBehind_263 : decode cX2_performBehind 263 = .ok (.invokevirtual 252, 3) := by decide +kernel
theorem dX2_performBehind_266 : decode cX2_performBehind 266 = .ok (.goto 32, 3) := by decide +kernel
theorem dX2_performBehind_269 : decode cX2_performBehind 269 = .ok (.aload_n 0, 1) := by decide +kernel
theorem dX2_performBehind_270 : decode cX2_performBehind 270 = .ok (.aload_n 0, 1) := by decide +kernel
theorem dX2_performBehind_271 : decode cX2_performBehind 271 = .ok (.getfield 21, 3) := by decide +kernel
theorem dX2_performBehind_274 : decode cX2_performBehind 274 = .ok (.getfield 218, 3) := by decide +kernel
theorem dX2_performBehind_277 : decode cX2_performBehind 277 = .ok (.aload_n 0, 1) := by decide +kernel
theorem dX2_performBehind_278 : decode cX2_performBehind 278 = .ok (.getfield 91, 3) := by decide +kernel
theorem dX2_performBehind_281 : decode cX2_performBehind 281 = .ok (.invokevirtual 119, 3) := by decide +kernel
theorem dX2_performBehind_284 : decode cX2_performBehind 284 = .ok (.putfield 78, 3) := by decide +kernel
theorem dX2_performBehind_287 : decode cX2_performBehind 287 = .ok (.goto 11, 3) := by decide +kernel
theorem dX2_performBehind_290 : decode cX2_performBehind 290 = .ok (.aload_n 0, 1) := by decide +kernel
theorem dX2_performBehind_291 : decode cX2_performBehind 291 = .ok (.iconst 0, 1) := by decide +kernel
theorem dX2_performBehind_292 : decode cX2_performBehind 292 = .ok (.putfield 71, 3) := by decide +kernel
theorem dX2_performBehind_295 : decode cX2_performBehind 295 = .ok (.goto 3, 3) := by decide +kernel
theorem dX2_performBehind_298 : decode cX2_performBehind 298 = .ok (.return_, 1) := by decide +kernel
theorem dX2_performReckoning_0 : decode cX2_performReckoning 0 = .ok (.aload_n 0, 1) := by decide +kernel
theorem dX2_performReckoning_1 : decode cX2_performReckoning 1 = .ok (.getfield 21, 3) := by decide +kernel
theorem dX2_performReckoning_4 : decode cX2_performReckoning 4 = .ok (.getfield 170, 3) := by decide +kernel
theorem dX2_performReckoning_7 : decode cX2_performReckoning 7 = .ok (.aload_n 0, 1) := by decide +kernel
theorem dX2_performReckoning_8 : decode cX2_performReckoning 8 = .ok (.getfield 91, 3) := by decide +kernel
theorem dX2_performReckoning_11 : decode cX2_performReckoning 11 = .ok (.invokevirtual 119, 3) := by decide +kernel
theorem dX2_performReckoning_14 : decode cX2_performReckoning 14 = .ok (.istore_n 3, 1) := by decide +kernel
theorem dX2_performReckoning_15 : decode cX2_performReckoning 15 = .ok (.iload_n 1, 1) := by decide +kernel
theorem dX2_performReckoning_16 : decode cX2_performReckoning 16 = .ok (.tableswitch 160 0 9 #[56, 64, 94, 110, 160, 160, 160, 160, 160, 127], 56) := by decide +kernel
theorem dX2_performReckoning_72 : decode cX2_performReckoning 72 = .ok (.aload_n 0, 1) := by decide +kernel
theorem dX2_performReckoning_73 : decode cX2_performReckoning 73 = .ok (.iload_n 2, 1) := by decide +kernel
theorem dX2_performReckoning_74 : decode cX2_performReckoning 74 = .ok (.putfield 78, 3) := by decide +kernel
theorem dX2_performReckoning_77 : decode cX2_performReckoning 77 = .ok (.goto 122, 3) := by decide +kernel
theorem dX2_performReckoning_80 : decode cX2_performReckoning 80 = .ok (.aload_n 0, 1) := by decide +kernel
theorem dX2_performReckoning_81 : decode cX2_performReckoning 81 = .ok (.aload_n 0, 1) := by decide +kernel
theorem dX2_performReckoning_82 : decode cX2_performReckoning 82 = .ok (.getfield 28, 3) := by decide +kernel
theorem dX2_performReckoning_85 : decode cX2_performReckoning 85 = .ok (.iload_n 3, 1) := by decide +kernel
theorem dX2_performReckoning_86 : decode cX2_performReckoning 86 = .ok (.iload_n 2, 1) := by decide +kernel
theorem dX2_performReckoning_87 : decode cX2_performReckoning 87 = .ok (.invokevirtual 172, 3) := by decide +kernel
theorem dX2_performReckoning_90 : decode cX2_performReckoning 90 = .ok (.putfield 78, 3) := by decide +kernel
theorem dX2_performReckoning_93 : decode cX2_performReckoning 93 = .ok (.aload_n 0, 1) := by decide +kernel
theorem dX2_performReckoning_94 : decode cX2_performReckoning 94 = .ok (.getfield 78, 3) := by decide +kernel
theorem dX2_performReckoning_97 : decode cX2_performReckoning 97 = .ok (.ldc 255, 2) := by decide +kernel
theorem dX2_performReckoning_99 : decode cX2_performReckoning 99 = .ok (.if_icmp .ne 100, 3) := by decide +kernel
theorem dX2_performReckoning_102 : decode cX2_performReckoning 102 = .ok (.aload_n 0, 1) := by decide +kernel
theorem dX2_performReckoning_103 : decode cX2_performReckoning 103 = .ok (.iconst (-1), 1) := by decide +kernel
theorem dX2_performReckoning_104 : decode cX2_performReckoning 104 = .ok (.invokevirtual 176, 3) := by decide +kernel
theorem dX2_performReckoning_107 : decode cX2_performReckoning 107 = .ok (.goto 92, 3) := by decide +kernel
theorem dX2_performReckoning_110 : decode cX2_performReckoning 110 = .ok (.aload_n 0, 1) := by decide +kernel
theorem dX2_performReckoning_111 : decode cX2_performReckoning 111 = .ok (.getfield 28, 3) := by decide +kernel
theorem dX2_performReckoning_114 : decode cX2_performReckoning 114 = .ok (.iload_n 3, 1) := by decide +kernel
theorem dX2_performReckoning_115 : decode cX2_performReckoning 115 = .ok (.iload_n 2, 1) := by decide +kernel
theorem dX2_performReckoning_116 : decode cX2_performReckoning 116 = .ok (.aload_n 0, 1) := by decide +kernel
theorem dX2_performReckoning_117 : decode cX2_performReckoning 117 = .ok (.getfield 78, 3) := by decide +kernel
theorem dX2_performReckoning_120 : decode cX2_performReckoning 120 = .ok (.invokevirtual 245, 3) := by decide +kernel
theorem dX2_performReckoning_123 : decode cX2_performReckoning 123 = .ok (.goto 76, 3) := by decide +kernel
theorem dX2_performReckoning_126 : decode cX2_performReckoning 126 = .ok (.aload_n 0, 1) := by decide +kernel
theorem dX2_performReckoning_127 : decode cX2_performReckoning 127 = .ok (.aload_n 0, 1) := by decide +kernel
theorem dX2_performReckoning_128 : decode cX2_performReckoning 128 = .ok (.getfield 28, 3) := by decide +kernel
theorem dX2_performReckoning_131 : decode cX2_performReckoning 131 = .ok (.iload_n 3, 1) := by decide +kernel
theorem dX2_performReckoning_132 : decode cX2_performReckoning 132 = .ok (.iload_n 2, 1) := by decide +kernel
theorem dX2_performReckoning_133 : decode cX2_performReckoning 133 = .ok (.invokevirtual 256, 3) := by decide +kernel
theorem dX2_performReckoning_136 : decode cX2_performReckoning 136 = .ok (.iload_n 2, 1) := by decide +kernel
theorem dX2_performReckoning_137 : decode cX2_performReckoning 137 = .ok (.invokevirtual 259, 3) := by decide +kernel
theorem dX2_performReckoning_140 : decode cX2_performReckoning 140 = .ok (.goto 59, 3) := by decide +kernel
theorem dX2_performReckoning_143 : decode cX2_performReckoning 143 = .ok (.aload_n 0, 1) := by decide +kernel
theorem dX2_performReckoning_144 : decode cX2_performReckoning 144 = .ok (.aload_n 0, 1) := by decide +kernel
theorem dX2_performReckoning_145 : decode cX2_performReckoning 145 = .ok (.getfield 21, 3) := by decide +kernel
theorem dX2_performReckoning_148 : decode cX2_performReckoning 148 = .ok (.getfield 218, 3) := by decide +kernel
theorem dX2_performReckoning_151 : decode cX2_performReckoning 151 = .ok (.aload_n 0, 1) := by decide +kernel
theorem dX2_performReckoning_152 : decode cX2_performReckoning 152 = .ok (.getfield 91, 3) := by decide +kernel
theorem dX2_performReckoning_155 : decode cX2_performReckoning 155 = .ok (.invokevirtual 119, 3) := by decide +kernel
theorem dX2_performReckoning_158 : decode cX2_performReckoning 158 = .ok (.aload_n 0, 1) := by decide +kernel
theorem dX2_performReckoning_159 : decode cX2_performReckoning 159 = .ok (.getfield 78, 3) := by decide +kernel
theorem dX2_performReckoning_162 : decode cX2_performReckoning 162 = .ok (.if_icmp .ne 7, 3) := by decide +kernel
theorem dX2_performReckoning_165 : decode cX2_performReckoning 165 = .ok (.iconst 1, 1) := by decide +kernel
theorem dX2_performReckoning_166 : decode cX2_performReckoning 166 = .ok (.goto 4, 3) := by decide +kernel
theorem dX2_performReckoning_169 : decode cX2_performReckoning 169 = .ok (.iconst 0, 1) := by decide +kernel
theorem dX2_performReckoning_170 : decode cX2_performReckoning 170 = .ok (.putfield 78, 3) := by decide +kernel
theorem dX2_performReckoning_173 : decode cX2_performReckoning 173 = .ok (.goto 26, 3) := by decide +kernel
theorem dX2_performReckoning_176 : decode cX2_performReckoning 176 = .ok (.aload_n 0, 1) := by decide +kernel
theorem dX2_performReckoning_177 : decode cX2_performReckoning 177 = .ok (.iload_n 1, 1) := by decide +kernel
theorem dX2_performReckoning_178 : decode cX2_performReckoning 178 = .ok (.aload_n 0, 1) := by decide +kernel
theorem dX2_performReckoning_179 : decode cX2_performReckoning 179 = .ok (.getfield 21, 3) := by decide +kernel
theorem dX2_performReckoning_182 : decode cX2_performReckoning 182 = .ok (.getfield 218, 3) := by decide +kernel
theorem dX2_performReckoning_185 : decode cX2_performReckoning 185 = .ok (.aload_n 0, 1) := by decide +kernel
theorem dX2_performReckoning_186 : decode cX2_performReckoning 186 = .ok (.getfield 91, 3) := by decide +kernel
theorem dX2_performReckoning_189 : decode cX2_performReckoning 189 = .ok (.invokevirtual 119, 3) := by decide +kernel
theorem dX2_performReckoning_192 : decode cX2_performReckoning 192 = .ok (.aload_n 0, 1) := by decide +kernel
theorem dX2_performReckoning_193 : decode cX2_performReckoning 193 = .ok (.getfield 78, 3) := by decide +kernel
theorem dX2_performReckoning_196 : decode cX2_performReckoning 196 = .ok (.invokevirtual 262, 3) := by decide +kernel
theorem dX2_performReckoning_199 : decode cX2_performReckoning 199 = .ok (.return_, 1) := by decide +kernel
theorem dX2_putInto_0 : decode cX2_putInto 0 = .ok (.iload_n 1, 1) := by decide +kernel
theorem dX2_putInto_1 : decode cX2_putInto 1 = .ok (.iconst (-1), 1) := by decide +kernel
theorem dX2_putInto_2 : decode cX2_putInto 2 = .ok (.if_icmp .ne 11, 3) := by decide +kernel
theorem dX2_putInto_5 : decode cX2_putInto 5 = .ok (.aload_n 0, 1) := by decide +kernel
theorem dX2_putInto_6 : decode cX2_putInto 6 = .ok (.iconst (-1), 1) := by decide +kernel
theorem dX2_putInto_7 : decode cX2_putInto 7 = .ok (.invokevirtual 176, 3) := by decide +kernel
theorem dX2_putInto_10 : decode cX2_putInto 10 = .ok (.goto 16, 3) := by decide +kernel
theorem dX2_putInto_13 : decode cX2_putInto 13 = .ok (.aload_n 0, 1) := by decide +kernel
theorem dX2_putInto_14 : decode cX2_putInto 14 = .ok (.getfield 28, 3) := by decide +kernel
theorem dX2_putInto_17 : decode cX2_putInto 17 = .ok (.iload_n 1, 1) := by decide +kernel
theorem dX2_putInto_18 : decode cX2_putInto 18 = .ok (.iload_n 2, 1) := by decide +kernel
theorem dX2_putInto_19 : decode cX2_putInto 19 = .ok (.aload_n 0, 1) := by decide +kernel
theorem dX2_putInto_20 : decode cX2_putInto 20 = .ok (.getfield 78, 3) := by decide +kernel
theorem dX2_putInto_23 : decode cX2_putInto 23 = .ok (.invokevirtual 245, 3) := by decide +kernel
theorem dX2_putInto_26 : decode cX2_putInto 26 = .ok (.return_, 1) := by decide +kernel
theorem dX2_reckon_0 : decode cX2_reckon 0 = .ok (.iload_n 2, 1) := by decide +kernel
theorem dX2_reckon_1 : decode cX2_reckon 1 = .ok (.invokestatic 265, 3) := by decide +kernel
theorem dX2_reckon_4 : decode cX2_reckon 4 = .ok (.ifCond .eq 10, 3) := by decide +kernel
theorem dX2_reckon_7 : decode cX2_reckon 7 = .ok (.iload_n 3, 1) := by decide +kernel
theorem dX2_reckon_8 : decode cX2_reckon 8 = .ok (.invokestatic 265, 3) := by decide +kernel
theorem dX2_reckon_11 : decode cX2_reckon 11 = .ok (.ifCond .ne 10, 3) := by decide +kernel
theorem dX2_reckon_14 : decode cX2_reckon 14 = .ok (.aload_n 0, 1) := by decide +kernel
theorem dX2_reckon_15 : decode cX2_reckon 15 = .ok (.bipush (-3), 2) := by decide +kernel
theorem dX2_reckon_17 : decode cX2_reckon 17 = .ok (.invokevirtual 176, 3) := by decide +kernel
theorem dX2_reckon_20 : decode cX2_reckon 20 = .ok (.return_, 1) := by decide +kernel
theorem dX2_reckon_21 : decode cX2_reckon 21 = .ok (.iload_n 1, 1) := by decide +kernel
theorem dX2_reckon_22 : decode cX2_reckon 22 = .ok (.bipush 7, 2) := by decide +kernel
theorem dX2_reckon_24 : decode cX2_reckon 24 = .ok (.if_icmp .ne 14, 3) := by decide +kernel
theorem dX2_reckon_27 : decode cX2_reckon 27 = .ok (.iload_n 3, 1) := by decide +kernel
theorem dX2_reckon_28 : decode cX2_reckon 28 = .ok (.ifCond .ne 10, 3) := by decide +kernel
theorem dX2_reckon_31 : decode cX2_reckon 31 = .ok (.aload_n 0, 1) := by decide +kernel
theorem dX2_reckon_32 : decode cX2_reckon 32 = .ok (.bipush (-2), 2) := by decide +kernel
theorem dX2_reckon_34 : decode cX2_reckon 34 = .ok (.invokevirtual 176, 3) := by decide +kernel
theorem dX2_reckon_37 : decode cX2_reckon 37 = .ok (.return_, 1) := by decide +kernel
theorem dX2_reckon_38 : decode cX2_reckon 38 = .ok (.iconst 0, 1) := by decide +kernel
theorem dX2_reckon_39 : decode cX2_reckon 39 = .ok (.istore 4, 2) := by decide +kernel
theorem dX2_reckon_41 : decode cX2_reckon 41 = .ok (.iload_n 1, 1) := by decide +kernel
theorem dX2_reckon_42 : decode cX2_reckon 42 = .ok (.iconst 4, 1) := by decide +kernel
theorem dX2_reckon_43 : decode cX2_reckon 43 = .ok (.if_icmp .ne 11, 3) := by decide +kernel
theorem dX2_reckon_46 : decode cX2_reckon 46 = .ok (.iload_n 2, 1) := by decide +kernel
theorem dX2_reckon_47 : decode cX2_reckon 47 = .ok (.iload_n 3, 1) := by decide +kernel
theorem dX2_reckon_48 : decode cX2_reckon 48 = .ok (.iadd, 1) := by decide +kernel
theorem dX2_reckon_49 : decode cX2_reckon 49 = .ok (.istore 4, 2) := by decide +kernel
theorem dX2_reckon_51 : decode cX2_reckon 51 = .ok (.goto 66, 3) := by decide +kernel
theorem dX2_reckon_54 : decode cX2_reckon 54 = .ok (.iload_n 1, 1) := by decide +kernel
theorem dX2_reckon_55 : decode cX2_reckon 55 = .ok (.iconst 5, 1) := by decide +kernel
theorem dX2_reckon_56 : decode cX2_reckon 56 = .ok (.if_icmp .ne 11, 3) := by decide +kernel
theorem dX2_reckon_59 : decode cX2_reckon 59 = .ok (.iload_n 2, 1) := by decide +kernel
theorem dX2_reckon_60 : decode cX2_reckon 60 = .ok (.iload_n 3, 1) := by decide +kernel
theorem dX2_reckon_61 : decode cX2_reckon 61 = .ok (.isub, 1) := by decide +kernel
theorem dX2_reckon_62 : decode cX2_reckon 62 = .ok (.istore 4, 2) := by decide +kernel
theorem dX2_reckon_64 : decode cX2_reckon 64 = .ok (.goto 53, 3) := by decide +kernel
theorem dX2_reckon_67 : decode cX2_reckon 67 = .ok (.iload_n 1, 1) := by decide +kernel
theorem dX2_reckon_68 : decode cX2_reckon 68 = .ok (.bipush 6, 2) := by decide +kernel
theorem dX2_reckon_70 : decode cX2_reckon 70 = .ok (.if_icmp .ne 11, 3) := by decide +kernel
theorem dX2_reckon_73 : decode cX2_reckon 73 = .ok (.iload_n 2, 1) := by decide +kernel
theorem dX2_reckon_74 : decode cX2_reckon 74 = .ok (.iload_n 3, 1) := by decide +kernel
theorem dX2_reckon_75 : decode cX2_reckon 75 = .ok (.imul, 1) := by decide +kernel
theorem dX2_reckon_76 : decode cX2_reckon 76 = .ok (.istore 4, 2) := by decide +kernel
theorem dX2_reckon_78 : decode cX2_reckon 78 = .ok (.goto 39, 3) := by decide +kernel
theorem dX2_reckon_81 : decode cX2_reckon 81 = .ok (.iload_n 1, 1) := by decide +kernel
theorem dX2_reckon_82 : decode cX2_reckon 82 = .ok (.bipush 7, 2) := by decide +kernel
theorem dX2_reckon_84 : decode cX2_reckon 84 = .ok (.if_icmp .ne 15, 3) := by decide +kernel
theorem dX2_reckon_87 : decode cX2_reckon 87 = .ok (.iload_n 3, 1) := by decide +kernel
theorem dX2_reckon_88 : decode cX2_reckon 88 = .ok (.ifCond .eq 11, 3) := by decide +kernel
theorem dX2_reckon_91 : decode cX2_reckon 91 = .ok (.iload_n 2, 1) := by decide +kernel
theorem dX2_reckon_92 : decode cX2_reckon 92 = .ok (.iload_n 3, 1) := by decide +kernel
theorem dX2_reckon_93 : decode cX2_reckon 93 = .ok (.idiv, 1) := by decide +kernel
theorem dX2_reckon_94 : decode cX2_reckon 94 = .ok (.istore 4, 2) := by decide +kernel
theorem dX2_reckon_96 : decode cX2_reckon 96 = .ok (.goto 21, 3) := by decide +kernel
theorem dX2_reckon_99 : decode cX2_reckon 99 = .ok (.iload_n 1, 1) := by decide +kernel
theorem dX2_reckon_100 : decode cX2_reckon 100 = .ok (.bipush 8, 2) := by decide +kernel
theorem dX2_reckon_102 : decode cX2_reckon 102 = .ok (.if_icmp .ne 15, 3) := by decide +kernel
theorem dX2_reckon_105 : decode cX2_reckon 105 = .ok (.iload_n 2, 1) := by decide +kernel
theorem dX2_reckon_106 : decode cX2_reckon 106 = .ok (.iload_n 3, 1) := by decide +kernel
theorem dX2_reckon_107 : decode cX2_reckon 107 = .ok (.if_icmp .ge 7, 3) := by decide +kernel
theorem dX2_reckon_110 : decode cX2_reckon 110 = .ok (.iconst 1, 1) := by decide +kernel
theorem dX2_reckon_111 : decode cX2_reckon 111 = .ok (.goto 4, 3) := by decide +kernel
theorem dX2_reckon_114 : decode cX2_reckon 114 = .ok (.iconst 0, 1) := by decide +kernel
theorem dX2_reckon_115 : decode cX2_reckon 115 = .ok (.istore 4, 2) := by decide +kernel
theorem dX2_reckon_117 : decode cX2_reckon 117 = .ok (.aload_n 0, 1) := by decide +kernel
theorem dX2_reckon_118 : decode cX2_reckon 118 = .ok (.sipush (-9999), 3) := by decide +kernel
theorem dX2_reckon_121 : decode cX2_reckon 121 = .ok (.sipush 9999, 3) := by decide +kernel
theorem dX2_reckon_124 : decode cX2_reckon 124 = .ok (.iload 4, 2) := by decide +kernel
theorem dX2_reckon_126 : decode cX2_reckon 126 = .ok (.invokestatic 269, 3) := by decide +kernel
theorem dX2_reckon_129 : decode cX2_reckon 129 = .ok (.invokestatic 274, 3) := by decide +kernel
theorem dX2_reckon_132 : decode cX2_reckon 132 = .ok (.putfield 78, 3) := by decide +kernel
theorem dX2_reckon_135 : decode cX2_reckon 135 = .ok (.return_, 1) := by decide +kernel
theorem dX2_performControl_0 : decode cX2_performControl 0 = .ok (.iload_n 1, 1) := by decide +kernel
theorem dX2_performControl_1 : decode cX2_performControl 1 = .ok (.tableswitch 295 14 28 #[75, 88, 113, 131, 138, 101, 295, 295, 153, 179, 197, 204, 211, 269, 287], 75) := by decide +kernel
theorem dX2_performControl_76 : decode cX2_performControl 76 = .ok (.aload_n 0, 1) := by decide +kernel
theorem dX2_performControl_77 : decode cX2_performControl 77 = .ok (.aload_n 0, 1) := by decide +kernel
theorem dX2_performControl_78 : decode cX2_performControl 78 = .ok (.iload_n 2, 1) := by decide +kernel
theorem dX2_performControl_79 : decode cX2_performControl 79 = .ok (.invokevirtual 277, 3) := by decide +kernel
theorem dX2_performControl_82 : decode cX2_performControl 82 = .ok (.iconst 2, 1) := by decide +kernel
theorem dX2_performControl_83 : decode cX2_performControl 83 = .ok (.invokevirtual 280, 3) := by decide +kernel
theorem dX2_performControl_86 : decode cX2_performControl 86 = .ok (.goto 210, 3) := by decide +kernel
theorem dX2_performControl_89 : decode cX2_performControl 89 = .ok (.aload_n 0, 1) := by decide +kernel
theorem dX2_performControl_90 : decode cX2_performControl 90 = .ok (.aload_n 0, 1) := by decide +kernel
theorem dX2_performControl_91 : decode cX2_performControl 91 = .ok (.iload_n 2, 1) := by decide +kernel
theorem dX2_performControl_92 : decode cX2_performControl 92 = .ok (.invokevirtual 277, 3) := by decide +kernel
theorem dX2_performControl_95 : decode cX2_performControl 95 = .ok (.iconst 3, 1) := by decide +kernel
theorem dX2_performControl_96 : decode cX2_performControl 96 = .ok (.invokevirtual 280, 3) := by decide +kernel
theorem dX2_performControl_99 : decode cX2_performControl 99 = .ok (.goto 197, 3) := by decide +kernel
theorem dX2_performControl_102 : decode cX2_performControl 102 = .ok (.aload_n 0, 1) := by decide +kernel
theorem dX2_performControl_103 : decode cX2_performControl 103 = .ok (.aload_n 0, 1) := by decide +kernel
theorem dX2_performControl_104 : decode cX2_performControl 104 = .ok (.invokevirtual 283, 3) := by decide +kernel
theorem dX2_performControl_107 : decode cX2_performControl 107 = .ok (.iconst 4, 1) := by decide +kernel
theorem dX2_performControl_108 : decode cX2_performControl 108 = .ok (.invokevirtual 280, 3) := by decide +kernel
theorem dX2_performControl_111 : decode cX2_performControl 111 = .ok (.goto 185, 3) := by decide +kernel
theorem dX2_performControl_114 : decode cX2_performControl 114 = .ok (.aload_n 0, 1) := by decide +kernel
theorem dX2_performControl_115 : decode cX2_performControl 115 = .ok (.aload_n 0, 1) := by decide +kernel
theorem dX2_performControl_116 : decode cX2_performControl 116 = .ok (.getfield 35, 3) := by decide +kernel
theorem dX2_performControl_119 : decode cX2_performControl 119 = .ok (.aload_n 0, 1) := by decide +kernel
theorem dX2_performControl_120 : decode cX2_performControl 120 = .ok (.getfield 91, 3) := by decide +kernel
theorem dX2_performControl_123 : decode cX2_performControl 123 = .ok (.invokevirtual 286, 3) := by decide +kernel
theorem dX2_performControl_126 : decode cX2_performControl 126 = .ok (.putfield 78, 3) := by decide +kernel
theorem dX2_performControl_129 : decode cX2_performControl 129 = .ok (.goto 167, 3) := by decide +kernel
theorem dX2_performControl_132 : decode cX2_performControl 132 = .ok (.aload_n 0, 1) := by decide +kernel
theorem dX2_performControl_133 : decode cX2_performControl 133 = .ok (.invokevirtual 289, 3) := by decide +kernel
theorem dX2_performControl_136 : decode cX2_performControl 136 = .ok (.goto 160, 3) := by decide +kernel
theorem dX2_performControl_139 : decode cX2_performControl 139 = .ok (.aload_n 0, 1) := by decide +kernel
theorem dX2_performControl_140 : decode cX2_performControl 140 = .ok (.iload_n 2, 1) := by decide +kernel
theorem dX2_performControl_141 : decode cX2_performControl 141 = .ok (.bipush 6, 2) := by decide +kernel
theorem dX2_performControl_143 : decode cX2_performControl 143 = .ok (.irem, 1) := by decide +kernel
theorem dX2_performControl_144 : decode cX2_performControl 144 = .ok (.iload_n 2, 1) := by decide +kernel
theorem dX2_performControl_145 : decode cX2_performControl 145 = .ok (.bipush 6, 2) := by decide +kernel
theorem dX2_performControl_147 : decode cX2_performControl 147 = .ok (.idiv, 1) := by decide +kernel
theorem dX2_performControl_148 : decode cX2_performControl 148 = .ok (.invokevirtual 292, 3) := by decide +kernel
theorem dX2_performControl_151 : decode cX2_performControl 151 = .ok (.goto 145, 3) := by decide +kernel
theorem dX2_performControl_154 : decode cX2_performControl 154 = .ok (.aload_n 0, 1) := by decide +kernel
theorem dX2_performControl_155 : decode cX2_performControl 155 = .ok (.aload_n 0, 1) := by decide +kernel
theorem dX2_performControl_156 : decode cX2_performControl 156 = .ok (.getfield 78, 3) := by decide +kernel
theorem dX2_performControl_159 : decode cX2_performControl 159 = .ok (.invokestatic 265, 3) := by decide +kernel
theorem dX2_performControl_162 : decode cX2_performControl 162 = .ok (.ifCond .eq 10, 3) := by decide +kernel
theorem dX2_performControl_165 : decode cX2_performControl 165 = .ok (.aload_n 0, 1) := by decide +kernel
theorem dX2_performControl_166 : decode cX2_performControl 166 = .ok (.getfield 78, 3) := by decide +kernel
theorem dX2_performControl_169 : decode cX2_performControl 169 = .ok (.goto 5, 3) := by decide +kernel
theorem dX2_performControl_172 : decode cX2_performControl 172 = .ok (.bipush (-3), 2) := by decide +kernel
theorem dX2_performControl_174 : decode cX2_performControl 174 = .ok (.invokevirtual 176, 3) := by decide +kernel
theorem dX2_performControl_177 : decode cX2_performControl 177 = .ok (.goto 119, 3) := by decide +kernel
theorem dX2_performControl_180 : decode cX2_performControl 180 = .ok (.aload_n 0, 1) := by decide +kernel
theorem dX2_performControl_181 : decode cX2_performControl 181 = .ok (.aload_n 0, 1) := by decide +kernel
theorem dX2_performControl_182 : decode cX2_performControl 182 = .ok (.getfield 35, 3) := by decide +kernel
theorem dX2_performControl_185 : decode cX2_performControl 185 = .ok (.aload_n 0, 1) := by decide +kernel
theorem dX2_performControl_186 : decode cX2_performControl 186 = .ok (.getfield 91, 3) := by decide +kernel
theorem dX2_performControl_189 : decode cX2_performControl 189 = .ok (.invokevirtual 295, 3) := by decide +kernel
theorem dX2_performControl_192 : decode cX2_performControl 192 = .ok (.putfield 78, 3) := by decide +kernel
theorem dX2_performControl_195 : decode cX2_performControl 195 = .ok (.goto 101, 3) := by decide +kernel
theorem dX2_performControl_198 : decode cX2_performControl 198 = .ok (.aload_n 0, 1) := by decide +kernel
theorem dX2_performControl_199 : decode cX2_performControl 199 = .ok (.invokevirtual 298, 3) := by decide +kernel
theorem dX2_performControl_202 : decode cX2_performControl 202 = .ok (.goto 94, 3) := by decide +kernel
theorem dX2_performControl_205 : decode cX2_performControl 205 = .ok (.aload_n 0, 1) := by decide +kernel
theorem dX2_performControl_206 : decode cX2_performControl 206 = .ok (.invokevirtual 301, 3) := by decide +kernel
theorem dX2_performControl_209 : decode cX2_performControl 209 = .ok (.goto 87, 3) := by decide +kernel
theorem dX2_performControl_212 : decode cX2_performControl 212 = .ok (.aload_n 0, 1) := by decide +kernel
theorem dX2_performControl_213 : decode cX2_performControl 213 = .ok (.getfield 21, 3) := by decide +kernel
theorem dX2_performControl_216 : decode cX2_performControl 216 = .ok (.getfield 218, 3) := by decide +kernel
theorem dX2_performControl_219 : decode cX2_performControl 219 = .ok (.aload_n 0, 1) := by decide +kernel
theorem dX2_performControl_220 : decode cX2_performControl 220 = .ok (.getfield 91, 3) := by decide +kernel
theorem dX2_performControl_223 : decode cX2_performControl 223 = .ok (.aload_n 0, 1) := by decide +kernel
theorem dX2_performControl_224 : decode cX2_performControl 224 = .ok (.getfield 43, 3) := by decide +kernel
theorem dX2_performControl_227 : decode cX2_performControl 227 = .ok (.getfield 236, 3) := by decide +kernel
theorem dX2_performControl_230 : decode cX2_performControl 230 = .ok (.iload_n 2, 1) := by decide +kernel
theorem dX2_performControl_231 : decode cX2_performControl 231 = .ok (.invokevirtual 119, 3) := by decide +kernel
theorem dX2_performControl_234 : decode cX2_performControl 234 = .ok (.invokevirtual 142, 3) := by decide +kernel
theorem dX2_performControl_237 : decode cX2_performControl 237 = .ok (.aload_n 0, 1) := by decide +kernel
theorem dX2_performControl_238 : decode cX2_performControl 238 = .ok (.getfield 21, 3) := by decide +kernel
theorem dX2_performControl_241 : decode cX2_performControl 241 = .ok (.getfield 212, 3) := by decide +kernel
theorem dX2_performControl_244 : decode cX2_performControl 244 = .ok (.aload_n 0, 1) := by decide +kernel
theorem dX2_performControl_245 : decode cX2_performControl 245 = .ok (.getfield 91, 3) := by decide +kernel
theorem dX2_performControl_248 : decode cX2_performControl 248 = .ok (.iconst 1, 1) := by decide +kernel
theorem dX2_performControl_249 : decode cX2_performControl 249 = .ok (.invokevirtual 142, 3) := by decide +kernel
theorem dX2_performControl_252 : decode cX2_performControl 252 = .ok (.aload_n 0, 1) := by decide +kernel
theorem dX2_performControl_253 : decode cX2_performControl 253 = .ok (.getfield 43, 3) := by decide +kernel
theorem dX2_performControl_256 : decode cX2_performControl 256 = .ok (.getfield 236, 3) := by decide +kernel
theorem dX2_performControl_259 : decode cX2_performControl 259 = .ok (.iload_n 2, 1) := by decide +kernel
theorem dX2_performControl_260 : decode cX2_performControl 260 = .ok (.aload_n 0, 1) := by decide +kernel
theorem dX2_performControl_261 : decode cX2_performControl 261 = .ok (.getfield 78, 3) := by decide +kernel
theorem dX2_performControl_264 : decode cX2_performControl 264 = .ok (.invokevirtual 142, 3) := by decide +kernel
theorem dX2_performControl_267 : decode cX2_performControl 267 = .ok (.goto 29, 3) := by decide +kernel
theorem dX2_performControl_270 : decode cX2_performControl 270 = .ok (.aload_n 0, 1) := by decide +kernel
theorem dX2_performControl_271 : decode cX2_performControl 271 = .ok (.aload_n 0, 1) := by decide +kernel
theorem dX2_performControl_272 : decode cX2_performControl 272 = .ok (.getfield 43, 3) := by decide +kernel
theorem dX2_performControl_275 : decode cX2_performControl 275 = .ok (.getfield 236, 3) := by decide +kernel
theorem dX2_performControl_278 : decode cX2_performControl 278 = .ok (.iload_n 2, 1) := by decide +kernel
theorem dX2_performControl_279 : decode cX2_performControl 279 = .ok (.invokevirtual 119, 3) := by decide +kernel
theorem dX2_performControl_282 : decode cX2_performControl 282 = .ok (.putfield 78, 3) := by decide +kernel
theorem dX2_performControl_285 : decode cX2_performControl 285 = .ok (.goto 11, 3) := by decide +kernel
theorem dX2_performControl_288 : decode cX2_performControl 288 = .ok (.aload_n 0, 1) := by decide +kernel
theorem dX2_performControl_289 : decode cX2_performControl 289 = .ok (.iload_n 2, 1) := by decide +kernel
theorem dX2_performControl_290 : decode cX2_performControl 290 = .ok (.invokevirtual 304, 3) := by decide +kernel
theorem dX2_performControl_293 : decode cX2_performControl 293 = .ok (.goto 3, 3) := by decide +kernel
theorem dX2_performControl_296 : decode cX2_performControl 296 = .ok (.return_, 1) := by decide +kernel
theorem dX2_performEditing_0 : decode cX2_performEditing 0 = .ok (.aload_n 0, 1) := by decide +kernel
theorem dX2_performEditing_1 : decode cX2_performEditing 1 = .ok (.getfield 43, 3) := by decide +kernel
theorem dX2_performEditing_4 : decode cX2_performEditing 4 = .ok (.aload_n 0, 1) := by decide +kernel
theorem dX2_performEditing_5 : decode cX2_performEditing 5 = .ok (.getfield 43, 3) := by decide +kernel
theorem dX2_performEditing_8 : decode cX2_performEditing 8 = .ok (.getfield 307, 3) := by decide +kernel
theorem dX2_performEditing_11 : decode cX2_performEditing 11 = .ok (.invokevirtual 308, 3) := by decide +kernel
theorem dX2_performEditing_14 : decode cX2_performEditing 14 = .ok (.astore_n 3, 1) := by decide +kernel
theorem dX2_performEditing_15 : decode cX2_performEditing 15 = .ok (.iload_n 1, 1) := by decide +kernel
theorem dX2_performEditing_16 : decode cX2_performEditing 16 = .ok (.tableswitch 248 29 39 #[60, 69, 97, 105, 116, 149, 160, 168, 217, 224, 232], 60) := by decide +kernel
theorem dX2_performEditing_76 : decode cX2_performEditing 76 = .ok (.aload_n 0, 1) := by decide +kernel
theorem dX2_performEditing_77 : decode cX2_performEditing 77 = .ok (.aload_n 3, 1) := by decide +kernel
theorem dX2_performEditing_78 : decode cX2_performEditing 78 = .ok (.iload_n 2, 1) := by decide +kernel
theorem dX2_performEditing_79 : decode cX2_performEditing 79 = .ok (.invokevirtual 312, 3) := by decide +kernel
theorem dX2_performEditing_82 : decode cX2_performEditing 82 = .ok (.goto 182, 3) := by decide +kernel
theorem dX2_performEditing_85 : decode cX2_performEditing 85 = .ok (.aload_n 3, 1) := by decide +kernel
theorem dX2_performEditing_86 : decode cX2_performEditing 86 = .ok (.invokevirtual 316, 3) := by decide +kernel
theorem dX2_performEditing_89 : decode cX2_performEditing 89 = .ok (.iconst 1, 1) := by decide +kernel
theorem dX2_performEditing_90 : decode cX2_performEditing 90 = .ok (.if_icmp .ge 12, 3) := by decide +kernel
theorem dX2_performEditing_93 : decode cX2_performEditing 93 = .ok (.aload_n 0, 1) := by decide +kernel
theorem dX2_performEditing_94 : decode cX2_performEditing 94 = .ok (.bipush (-4), 2) := by decide +kernel
theorem dX2_performEditing_96 : decode cX2_performEditing 96 = .ok (.invokevirtual 176, 3) := by decide +kernel
theorem dX2_performEditing_99 : decode cX2_performEditing 99 = .ok (.goto 165, 3) := by decide +kernel
theorem dX2_performEditing_102 : decode cX2_performEditing 102 = .ok (.aload_n 0, 1) := by decide +kernel
theorem dX2_performEditing_103 : decode cX2_performEditing 103 = .ok (.aload_n 3, 1) := by decide +kernel
theorem dX2_performEditing_104 : decode cX2_performEditing 104 = .ok (.invokevirtual 321, 3) := by decide +kernel
theorem dX2_performEditing_107 : decode cX2_performEditing 107 = .ok (.putfield 78, 3) := by decide +kernel
theorem dX2_performEditing_110 : decode cX2_performEditing 110 = .ok (.goto 154, 3) := by decide +kernel
theorem dX2_performEditing_113 : decode cX2_performEditing 113 = .ok (.aload_n 0, 1) := by decide +kernel
theorem dX2_performEditing_114 : decode cX2_performEditing 114 = .ok (.aload_n 3, 1) := by decide +kernel
theorem dX2_performEditing_115 : decode cX2_performEditing 115 = .ok (.invokevirtual 324, 3) := by decide +kernel
theorem dX2_performEditing_118 : decode cX2_performEditing 118 = .ok (.goto 146, 3) := by decide +kernel
theorem dX2_performEditing_121 : decode cX2_performEditing 121 = .ok (.aload_n 0, 1) := by decide +kernel
theorem dX2_performEditing_122 : decode cX2_performEditing 122 = .ok (.aload_n 3, 1) := by decide +kernel
theorem dX2_performEditing_123 : decode cX2_performEditing 123 = .ok (.invokevirtual 316, 3) := by decide +kernel
theorem dX2_performEditing_126 : decode cX2_performEditing 126 = .ok (.putfield 78, 3) := by decide +kernel
theorem dX2_performEditing_129 : decode cX2_performEditing 129 = .ok (.goto 135, 3) := by decide +kernel
theorem dX2_performEditing_132 : decode cX2_performEditing 132 = .ok (.aload_n 0, 1) := by decide +kernel
theorem dX2_performEditing_133 : decode cX2_performEditing 133 = .ok (.aload_n 3, 1) := by decide +kernel
theorem dX2_performEditing_134 : decode cX2_performEditing 134 = .ok (.invokevirtual 316, 3) := by decide +kernel
theorem dX2_performEditing_137 : decode cX2_performEditing 137 = .ok (.aload_n 3, 1) := by decide +kernel
theorem dX2_performEditing_138 : decode cX2_performEditing 138 = .ok (.getfield 328, 3) := by decide +kernel
theorem dX2_performEditing_141 : decode cX2_performEditing 141 = .ok (.if_icmp .ge 17, 3) := by decide +kernel
theorem dX2_performEditing_144 : decode cX2_performEditing 144 = .ok (.aload_n 3, 1) := by decide +kernel
theorem dX2_performEditing_145 : decode cX2_performEditing 145 = .ok (.getfield 329, 3) := by decide +kernel
theorem dX2_performEditing_148 : decode cX2_performEditing 148 = .ok (.aload_n 3, 1) := by decide +kernel
theorem dX2_performEditing_149 : decode cX2_performEditing 149 = .ok (.invokevirtual 316, 3) := by decide +kernel
theorem dX2_performEditing_152 : decode cX2_performEditing 152 = .ok (.invokevirtual 119, 3) := by decide +kernel
theorem dX2_performEditing_155 : decode cX2_performEditing 155 = .ok (.goto 4, 3) := by decide +kernel
theorem dX2_performEditing_158 : decode cX2_performEditing 158 = .ok (.iconst (-1), 1) := by decide +kernel
theorem dX2_performEditing_159 : decode cX2_performEditing 159 = .ok (.putfield 78, 3) := by decide +kernel
theorem dX2_performEditing_162 : decode cX2_performEditing 162 = .ok (.goto 102, 3) := by decide +kernel
theorem dX2_performEditing_165 : decode cX2_performEditing 165 = .ok (.aload_n 0, 1) := by decide +kernel
theorem dX2_performEditing_166 : decode cX2_performEditing 166 = .ok (.aload_n 3, 1) := by decide +kernel
theorem dX2_performEditing_167 : decode cX2_performEditing 167 = .ok (.getfield 328, 3) := by decide +kernel
theorem dX2_performEditing_170 : decode cX2_performEditing 170 = .ok (.putfield 78, 3) := by decide +kernel
theorem dX2_performEditing_173 : decode cX2_performEditing 173 = .ok (.goto 91, 3) := by decide +kernel
theorem dX2_performEditing_176 : decode cX2_performEditing 176 = .ok (.aload_n 0, 1) := by decide +kernel
theorem dX2_performEditing_177 : decode cX2_performEditing 177 = .ok (.aload_n 3, 1) := by decide +kernel
theorem dX2_performEditing_178 : decode cX2_performEditing 178 = .ok (.invokevirtual 332, 3) := by decide +kernel
theorem dX2_performEditing_181 : decode cX2_performEditing 181 = .ok (.goto 83, 3) := by decide +kernel
theorem dX2_performEditing_184 : decode cX2_performEditing 184 = .ok (.aload_n 0, 1) := by decide +kernel
theorem dX2_performEditing_185 : decode cX2_performEditing 185 = .ok (.getfield 21, 3) := by decide +kernel
theorem dX2_performEditing_188 : decode cX2_performEditing 188 = .ok (.getfield 218, 3) := by decide +kernel
theorem dX2_performEditing_191 : decode cX2_performEditing 191 = .ok (.aload_n 0, 1) := by decide +kernel
theorem dX2_performEditing_192 : decode cX2_performEditing 192 = .ok (.getfield 91, 3) := by decide +kernel
theorem dX2_performEditing_195 : decode cX2_performEditing 195 = .ok (.aload_n 3, 1) := by decide +kernel
theorem dX2_performEditing_196 : decode cX2_performEditing 196 = .ok (.invokevirtual 335, 3) := by decide +kernel
theorem dX2_performEditing_199 : decode cX2_performEditing 199 = .ok (.invokevirtual 142, 3) := by decide +kernel
theorem dX2_performEditing_202 : decode cX2_performEditing 202 = .ok (.aload_n 0, 1) := by decide +kernel
theorem dX2_performEditing_203 : decode cX2_performEditing 203 = .ok (.getfield 21, 3) := by decide +kernel
theorem dX2_performEditing_206 : decode cX2_performEditing 206 = .ok (.getfield 249, 3) := by decide +kernel
theorem dX2_performEditing_209 : decode cX2_performEditing 209 = .ok (.aload_n 0, 1) := by decide +kernel
theorem dX2_performEditing_210 : decode cX2_performEditing 210 = .ok (.getfield 91, 3) := by decide +kernel
theorem dX2_performEditing_213 : decode cX2_performEditing 213 = .ok (.aload_n 3, 1) := by decide +kernel
theorem dX2_performEditing_214 : decode cX2_performEditing 214 = .ok (.getfield 338, 3) := by decide +kernel
theorem dX2_performEditing_217 : decode cX2_performEditing 217 = .ok (.iconst 2, 1) := by decide +kernel
theorem dX2_performEditing_218 : decode cX2_performEditing 218 = .ok (.imul, 1) := by decide +kernel
theorem dX2_performEditing_219 : decode cX2_performEditing 219 = .ok (.aload_n 0, 1) := by decide +kernel
theorem dX2_performEditing_220 : decode cX2_performEditing 220 = .ok (.getfield 43, 3) := by decide +kernel
theorem dX2_performEditing_223 : decode cX2_performEditing 223 = .ok (.getfield 307, 3) := by decide +kernel
theorem dX2_performEditing_226 : decode cX2_performEditing 226 = .ok (.iadd, 1) := by decide +kernel
theorem dX2_performEditing_227 : decode cX2_performEditing 227 = .ok (.invokevirtual 142, 3) := by decide +kernel
theorem dX2_performEditing_230 : decode cX2_performEditing 230 = .ok (.goto 34, 3) := by decide +kernel
theorem dX2_performEditing_233 : decode cX2_performEditing 233 = .ok (.aload_n 0, 1) := by decide +kernel
theorem dX2_performEditing_234 : decode cX2_performEditing 234 = .ok (.invokevirtual 341, 3) := by decide +kernel
theorem dX2_performEditing_237 : decode cX2_performEditing 237 = .ok (.goto 27, 3) := by decide +kernel
theorem dX2_performEditing_240 : decode cX2_performEditing 240 = .ok (.aload_n 0, 1) := by decide +kernel
theorem dX2_performEditing_241 : decode cX2_performEditing 241 = .ok (.iload_n 2, 1) := by decide +kernel
theorem dX2_performEditing_242 : decode cX2_performEditing 242 = .ok (.invokevirtual 344, 3) := by decide +kernel
theorem dX2_performEditing_245 : decode cX2_performEditing 245 = .ok (.goto 19, 3) := by decide +kernel
theorem dX2_performEditing_248 : decode cX2_performEditing 248 = .ok (.aload_n 0, 1) := by decide +kernel
theorem dX2_performEditing_249 : decode cX2_performEditing 249 = .ok (.getfield 43, 3) := by decide +kernel
theorem dX2_performEditing_252 : decode cX2_performEditing 252 = .ok (.iload_n 2, 1) := by decide +kernel
theorem dX2_performEditing_253 : decode cX2_performEditing 253 = .ok (.putfield 347, 3) := by decide +kernel
theorem dX2_performEditing_256 : decode cX2_performEditing 256 = .ok (.aload_n 0, 1) := by decide +kernel
theorem dX2_performEditing_257 : decode cX2_performEditing 257 = .ok (.iconst 0, 1) := by decide +kernel
theorem dX2_performEditing_258 : decode cX2_performEditing 258 = .ok (.putfield 78, 3) := by decide +kernel
theorem dX2_performEditing_261 : decode cX2_performEditing 261 = .ok (.goto 3, 3) := by decide +kernel
theorem dX2_performEditing_264 : decode cX2_performEditing 264 = .ok (.return_, 1) := by decide +kernel
theorem dX2_leave_0 : decode cX2_leave 0 = .ok (.aload_n 0, 1) := by decide +kernel
theorem dX2_leave_1 : decode cX2_leave 1 = .ok (.getfield 21, 3) := by decide +kernel
theorem dX2_leave_4 : decode cX2_leave 4 = .ok (.getfield 200, 3) := by decide +kernel
theorem dX2_leave_7 : decode cX2_leave 7 = .ok (.aload_n 0, 1) := by decide +kernel
theorem dX2_leave_8 : decode cX2_leave 8 = .ok (.getfield 91, 3) := by decide +kernel
theorem dX2_leave_11 : decode cX2_leave 11 = .ok (.invokevirtual 119, 3) := by decide +kernel
theorem dX2_leave_14 : decode cX2_leave 14 = .ok (.istore_n 1, 1) := by decide +kernel
theorem dX2_leave_15 : decode cX2_leave 15 = .ok (.aload_n 0, 1) := by decide +kernel
theorem dX2_leave_16 : decode cX2_leave 16 = .ok (.getfield 21, 3) := by decide +kernel
theorem dX2_leave_19 : decode cX2_leave 19 = .ok (.getfield 203, 3) := by decide +kernel
theorem dX2_leave_22 : decode cX2_leave 22 = .ok (.aload_n 0, 1) := by decide +kernel
theorem dX2_leave_23 : decode cX2_leave 23 = .ok (.getfield 91, 3) := by decide +kernel
theorem dX2_leave_26 : decode cX2_leave 26 = .ok (.invokevirtual 119, 3) := by decide +kernel
theorem dX2_leave_29 : decode cX2_leave 29 = .ok (.istore_n 2, 1) := by decide +kernel
theorem dX2_leave_30 : decode cX2_leave 30 = .ok (.iload_n 2, 1) := by decide +kernel
theorem dX2_leave_31 : decode cX2_leave 31 = .ok (.iconst 3, 1) := by decide +kernel
theorem dX2_leave_32 : decode cX2_leave 32 = .ok (.if_icmp .ne 31, 3) := by decide +kernel
theorem dX2_leave_35 : decode cX2_leave 35 = .ok (.aload_n 0, 1) := by decide +kernel
theorem dX2_leave_36 : decode cX2_leave 36 = .ok (.iload_n 1, 1) := by decide +kernel
theorem dX2_leave_37 : decode cX2_leave 37 = .ok (.invokevirtual 350, 3) := by decide +kernel
theorem dX2_leave_40 : decode cX2_leave 40 = .ok (.aload_n 0, 1) := by decide +kernel
theorem dX2_leave_41 : decode cX2_leave 41 = .ok (.aload_n 0, 1) := by decide +kernel
theorem dX2_leave_42 : decode cX2_leave 42 = .ok (.getfield 75, 3) := by decide +kernel
theorem dX2_leave_45 : decode cX2_leave 45 = .ok (.iconst 4, 1) := by decide +kernel
theorem dX2_leave_46 : decode cX2_leave 46 = .ok (.if_icmp .ne 7, 3) := by decide +kernel
theorem dX2_leave_49 : decode cX2_leave 49 = .ok (.iconst 0, 1) := by decide +kernel
theorem dX2_leave_50 : decode cX2_leave 50 = .ok (.goto 7, 3) := by decide +kernel
theorem dX2_leave_53 : decode cX2_leave 53 = .ok (.aload_n 0, 1) := by decide +kernel
theorem dX2_leave_54 : decode cX2_leave 54 = .ok (.getfield 75, 3) := by decide +kernel
theorem dX2_leave_57 : decode cX2_leave 57 = .ok (.putfield 75, 3) := by decide +kernel
theorem dX2_leave_60 : decode cX2_leave 60 = .ok (.goto 32, 3) := by decide +kernel
theorem dX2_leave_63 : decode cX2_leave 63 = .ok (.iload_n 2, 1) := by decide +kernel
theorem dX2_leave_64 : decode cX2_leave 64 = .ok (.iconst 4, 1) := by decide +kernel
theorem dX2_leave_65 : decode cX2_leave 65 = .ok (.if_icmp .lt 14, 3) := by decide +kernel
theorem dX2_leave_68 : decode cX2_leave 68 = .ok (.aload_n 0, 1) := by decide +kernel
theorem dX2_leave_69 : decode cX2_leave 69 = .ok (.iload_n 2, 1) := by decide +kernel
theorem dX2_leave_70 : decode cX2_leave 70 = .ok (.iconst 4, 1) := by decide +kernel
theorem dX2_leave_71 : decode cX2_leave 71 = .ok (.isub, 1) := by decide +kernel
theorem dX2_leave_72 : decode cX2_leave 72 = .ok (.iload_n 1, 1) := by decide +kernel
theorem dX2_leave_73 : decode cX2_leave 73 = .ok (.invokevirtual 353, 3) := by decide +kernel
theorem dX2_leave_76 : decode cX2_leave 76 = .ok (.goto 16, 3) := by decide +kernel
theorem dX2_leave_79 : decode cX2_leave 79 = .ok (.iload_n 2, 1) := by decide +kernel
theorem dX2_leave_80 : decode cX2_leave 80 = .ok (.iconst 1, 1) := by decide +kernel
theorem dX2_leave_81 : decode cX2_leave 81 = .ok (.if_icmp .ne 11, 3) := by decide +kernel
theorem dX2_leave_84 : decode cX2_leave 84 = .ok (.aload_n 0, 1) := by decide +kernel
theorem dX2_leave_85 : decode cX2_leave 85 = .ok (.aload_n 0, 1) := by decide +kernel
theorem dX2_leave_86 : decode cX2_leave 86 = .ok (.getfield 78, 3) := by decide +kernel
theorem dX2_leave_89 : decode cX2_leave 89 = .ok (.putfield 88, 3) := by decide +kernel
theorem dX2_leave_92 : decode cX2_leave 92 = .ok (.aload_n 0, 1) := by decide +kernel
theorem dX2_leave_93 : decode cX2_leave 93 = .ok (.iload_n 1, 1) := by decide +kernel
theorem dX2_leave_94 : decode cX2_leave 94 = .ok (.putfield 91, 3) := by decide +kernel
theorem dX2_leave_97 : decode cX2_leave 97 = .ok (.iload_n 1, 1) := by decide +kernel
theorem dX2_leave_98 : decode cX2_leave 98 = .ok (.iconst (-1), 1) := by decide +kernel
theorem dX2_leave_99 : decode cX2_leave 99 = .ok (.if_icmp .ne 10, 3) := by decide +kernel
theorem dX2_leave_102 : decode cX2_leave 102 = .ok (.aload_n 0, 1) := by decide +kernel
theorem dX2_leave_103 : decode cX2_leave 103 = .ok (.invokevirtual 356, 3) := by decide +kernel
theorem dX2_leave_106 : decode cX2_leave 106 = .ok (.goto 18, 3) := by decide +kernel
theorem dX2_leave_109 : decode cX2_leave 109 = .ok (.aload_n 0, 1) := by decide +kernel
theorem dX2_leave_110 : decode cX2_leave 110 = .ok (.getfield 75, 3) := by decide +kernel
theorem dX2_leave_113 : decode cX2_leave 113 = .ok (.ifCond .eq 11, 3) := by decide +kernel
theorem dX2_leave_116 : decode cX2_leave 116 = .ok (.aload_n 0, 1) := by decide +kernel
theorem dX2_leave_117 : decode cX2_leave 117 = .ok (.getfield 21, 3) := by decide +kernel
theorem dX2_leave_120 : decode cX2_leave 120 = .ok (.iload_n 1, 1) := by decide +kernel
theorem dX2_leave_121 : decode cX2_leave 121 = .ok (.invokevirtual 359, 3) := by decide +kernel
theorem dX2_leave_124 : decode cX2_leave 124 = .ok (.return_, 1) := by decide +kernel
theorem dX2_endCall_0 : decode cX2_endCall 0 = .ok (.aload_n 0, 1) := by decide +kernel
theorem dX2_endCall_1 : decode cX2_endCall 1 = .ok (.aload_n 0, 1) := by decide +kernel
theorem dX2_endCall_2 : decode cX2_endCall 2 = .ok (.getfield 21, 3) := by decide +kernel
theorem dX2_endCall_5 : decode cX2_endCall 5 = .ok (.getfield 197, 3) := by decide +kernel
theorem dX2_endCall_8 : decode cX2_endCall 8 = .ok (.iload_n 1, 1) := by decide +kernel
theorem dX2_endCall_9 : decode cX2_endCall 9 = .ok (.invokevirtual 119, 3) := by decide +kernel
theorem dX2_endCall_12 : decode cX2_endCall 12 = .ok (.putfield 68, 3) := by decide +kernel
theorem dX2_endCall_15 : decode cX2_endCall 15 = .ok (.aload_n 0, 1) := by decide +kernel
theorem dX2_endCall_16 : decode cX2_endCall 16 = .ok (.dup, 1) := by decide +kernel
theorem dX2_endCall_17 : decode cX2_endCall 17 = .ok (.getfield 65, 3) := by decide +kernel
theorem dX2_endCall_20 : decode cX2_endCall 20 = .ok (.iconst 1, 1) := by decide +kernel
theorem dX2_endCall_21 : decode cX2_endCall 21 = .ok (.isub, 1) := by decide +kernel
theorem dX2_endCall_22 : decode cX2_endCall 22 = .ok (.putfield 65, 3) := by decide +kernel
theorem dX2_endCall_25 : decode cX2_endCall 25 = .ok (.return_, 1) := by decide +kernel
theorem dX2_endGenerator_0 : decode cX2_endGenerator 0 = .ok (.aload_n 0, 1) := by decide +kernel
theorem dX2_endGenerator_1 : decode cX2_endGenerator 1 = .ok (.getfield 35, 3) := by decide +kernel
theorem dX2_endGenerator_4 : decode cX2_endGenerator 4 = .ok (.getfield 362, 3) := by decide +kernel
theorem dX2_endGenerator_7 : decode cX2_endGenerator 7 = .ok (.iload_n 1, 1) := by decide +kernel
theorem dX2_endGenerator_8 : decode cX2_endGenerator 8 = .ok (.iconst 4, 1) := by decide +kernel
theorem dX2_endGenerator_9 : decode cX2_endGenerator 9 = .ok (.invokevirtual 142, 3) := by decide +kernel
theorem dX2_endGenerator_12 : decode cX2_endGenerator 12 = .ok (.iload_n 2, 1) := by decide +kernel
theorem dX2_endGenerator_13 : decode cX2_endGenerator 13 = .ok (.iconst (-1), 1) := by decide +kernel
theorem dX2_endGenerator_14 : decode cX2_endGenerator 14 = .ok (.if_icmp .eq 8, 3) := by decide +kernel
theorem dX2_endGenerator_17 : decode cX2_endGenerator 17 = .ok (.aload_n 0, 1) := by decide +kernel
theorem dX2_endGenerator_18 : decode cX2_endGenerator 18 = .ok (.iload_n 2, 1) := by decide +kernel
theorem dX2_endGenerator_19 : decode cX2_endGenerator 19 = .ok (.invokevirtual 350, 3) := by decide +kernel
theorem dX2_endGenerator_22 : decode cX2_endGenerator 22 = .ok (.aload_n 0, 1) := by decide +kernel
theorem dX2_endGenerator_23 : decode cX2_endGenerator 23 = .ok (.getfield 75, 3) := by decide +kernel
theorem dX2_endGenerator_26 : decode cX2_endGenerator 26 = .ok (.iconst 1, 1) := by decide +kernel
theorem dX2_endGenerator_27 : decode cX2_endGenerator 27 = .ok (.if_icmp .eq 13, 3) := by decide +kernel
theorem dX2_endGenerator_30 : decode cX2_endGenerator 30 = .ok (.aload_n 0, 1) := by decide +kernel
theorem dX2_endGenerator_31 : decode cX2_endGenerator 31 = .ok (.iconst 0, 1) := by decide +kernel
theorem dX2_endGenerator_32 : decode cX2_endGenerator 32 = .ok (.putfield 75, 3) := by decide +kernel
theorem dX2_endGenerator_35 : decode cX2_endGenerator 35 = .ok (.aload_n 0, 1) := by decide +kernel
theorem dX2_endGenerator_36 : decode cX2_endGenerator 36 = .ok (.iconst (-1), 1) := by decide +kernel
theorem dX2_endGenerator_37 : decode cX2_endGenerator 37 = .ok (.putfield 78, 3) := by decide +kernel
theorem dX2_endGenerator_40 : decode cX2_endGenerator 40 = .ok (.return_, 1) := by decide +kernel
theorem dX2_closeNext_0 : decode cX2_closeNext 0 = .ok (.aload_n 0, 1) := by decide +kernel
theorem dX2_closeNext_1 : decode cX2_closeNext 1 = .ok (.getfield 75, 3) := by decide +kernel
theorem dX2_closeNext_4 : decode cX2_closeNext 4 = .ok (.iconst 1, 1) := by decide +kernel
theorem dX2_closeNext_5 : decode cX2_closeNext 5 = .ok (.if_icmp .ne 7, 3) := by decide +kernel
theorem dX2_closeNext_8 : decode cX2_closeNext 8 = .ok (.iconst (-1), 1) := by decide +kernel
theorem dX2_closeNext_9 : decode cX2_closeNext 9 = .ok (.goto 10, 3) := by decide +kernel
theorem dX2_closeNext_12 : decode cX2_closeNext 12 = .ok (.aload_n 0, 1) := by decide +kernel
theorem dX2_closeNext_13 : decode cX2_closeNext 13 = .ok (.getfield 35, 3) := by decide +kernel
theorem dX2_closeNext_16 : decode cX2_closeNext 16 = .ok (.invokevirtual 365, 3) := by decide +kernel
theorem dX2_closeNext_19 : decode cX2_closeNext 19 = .ok (.istore_n 1, 1) := by decide +kernel
theorem dX2_closeNext_20 : decode cX2_closeNext 20 = .ok (.iload_n 1, 1) := by decide +kernel
theorem dX2_closeNext_21 : decode cX2_closeNext 21 = .ok (.iconst (-1), 1) := by decide +kernel
theorem dX2_closeNext_22 : decode cX2_closeNext 22 = .ok (.if_icmp .ne 9, 3) := by decide +kernel
theorem dX2_closeNext_25 : decode cX2_closeNext 25 = .ok (.aload_n 0, 1) := by decide +kernel
theorem dX2_closeNext_26 : decode cX2_closeNext 26 = .ok (.iconst 0, 1) := by decide +kernel
theorem dX2_closeNext_27 : decode cX2_closeNext 27 = .ok (.putfield 94, 3) := by decide +kernel
theorem dX2_closeNext_30 : decode cX2_closeNext 30 = .ok (.return_, 1) := by decide +kernel
theorem dX2_closeNext_31 : decode cX2_closeNext 31 = .ok (.aload_n 0, 1) := by decide +kernel
theorem dX2_closeNext_32 : decode cX2_closeNext 32 = .ok (.getfield 35, 3) := by decide +kernel
theorem dX2_closeNext_35 : decode cX2_closeNext 35 = .ok (.getfield 362, 3) := by decide +kernel
theorem dX2_closeNext_38 : decode cX2_closeNext 38 = .ok (.iload_n 1, 1) := by decide +kernel
theorem dX2_closeNext_39 : decode cX2_closeNext 39 = .ok (.iconst 3, 1) := by decide +kernel
theorem dX2_closeNext_40 : decode cX2_closeNext 40 = .ok (.invokevirtual 142, 3) := by decide +kernel
theorem dX2_closeNext_43 : decode cX2_closeNext 43 = .ok (.aload_n 0, 1) := by decide +kernel
theorem dX2_closeNext_44 : decode cX2_closeNext 44 = .ok (.getfield 21, 3) := by decide +kernel
theorem dX2_closeNext_47 : decode cX2_closeNext 47 = .ok (.getfield 200, 3) := by decide +kernel
theorem dX2_closeNext_50 : decode cX2_closeNext 50 = .ok (.aload_n 0, 1) := by decide +kernel
theorem dX2_closeNext_51 : decode cX2_closeNext 51 = .ok (.getfield 35, 3) := by decide +kernel
theorem dX2_closeNext_54 : decode cX2_closeNext 54 = .ok (.getfield 368, 3) := by decide +kernel
theorem dX2_closeNext_57 : decode cX2_closeNext 57 = .ok (.iload_n 1, 1) := by decide +kernel
theorem dX2_closeNext_58 : decode cX2_closeNext 58 = .ok (.invokevirtual 119, 3) := by decide +kernel
theorem dX2_closeNext_61 : decode cX2_closeNext 61 = .ok (.iconst (-1), 1) := by decide +kernel
theorem dX2_closeNext_62 : decode cX2_closeNext 62 = .ok (.invokevirtual 142, 3) := by decide +kernel
theorem dX2_closeNext_65 : decode cX2_closeNext 65 = .ok (.aload_n 0, 1) := by decide +kernel
theorem dX2_closeNext_66 : decode cX2_closeNext 66 = .ok (.aload_n 0, 1) := by decide +kernel
theorem dX2_closeNext_67 : decode cX2_closeNext 67 = .ok (.getfield 35, 3) := by decide +kernel
theorem dX2_closeNext_70 : decode cX2_closeNext 70 = .ok (.getfield 371, 3) := by decide +kernel
theorem dX2_closeNext_73 : decode cX2_closeNext 73 = .ok (.iload_n 1, 1) := by decide +kernel
theorem dX2_closeNext_74 : decode cX2_closeNext 74 = .ok (.invokevirtual 119, 3) := by decide +kernel
theorem dX2_closeNext_77 : decode cX2_closeNext 77 = .ok (.putfield 91, 3) := by decide +kernel
theorem dX2_closeNext_80 : decode cX2_closeNext 80 = .ok (.aload_n 0, 1) := by decide +kernel
theorem dX2_closeNext_81 : decode cX2_closeNext 81 = .ok (.iconst 4, 1) := by decide +kernel
theorem dX2_closeNext_82 : decode cX2_closeNext 82 = .ok (.putfield 75, 3) := by decide +kernel
theorem dX2_closeNext_85 : decode cX2_closeNext 85 = .ok (.aload_n 0, 1) := by decide +kernel
theorem dX2_closeNext_86 : decode cX2_closeNext 86 = .ok (.getfield 21, 3) := by decide +kernel
theorem dX2_closeNext_89 : decode cX2_closeNext 89 = .ok (.aload_n 0, 1) := by decide +kernel
theorem dX2_closeNext_90 : decode cX2_closeNext 90 = .ok (.getfield 91, 3) := by decide +kernel
theorem dX2_closeNext_93 : decode cX2_closeNext 93 = .ok (.invokevirtual 359, 3) := by decide +kernel
theorem dX2_closeNext_96 : decode cX2_closeNext 96 = .ok (.return_, 1) := by decide +kernel
theorem dX2_catchError_0 : decode cX2_catchError 0 = .ok (.aload_n 0, 1) := by decide +kernel
theorem dX2_catchError_1 : decode cX2_catchError 1 = .ok (.getfield 75, 3) := by decide +kernel
theorem dX2_catchError_4 : decode cX2_catchError 4 = .ok (.iconst 1, 1) := by decide +kernel
theorem dX2_catchError_5 : decode cX2_catchError 5 = .ok (.if_icmp .eq 9, 3) := by decide +kernel
theorem dX2_catchError_8 : decode cX2_catchError 8 = .ok (.aload_n 0, 1) := by decide +kernel
theorem dX2_catchError_9 : decode cX2_catchError 9 = .ok (.iconst 0, 1) := by decide +kernel
theorem dX2_catchError_10 : decode cX2_catchError 10 = .ok (.invokevirtual 221, 3) := by decide +kernel
theorem dX2_catchError_13 : decode cX2_catchError 13 = .ok (.return_, 1) := by decide +kernel
theorem dX2_catchError_14 : decode cX2_catchError 14 = .ok (.aload_n 0, 1) := by decide +kernel
theorem dX2_catchError_15 : decode cX2_catchError 15 = .ok (.getfield 28, 3) := by decide +kernel
theorem dX2_catchError_18 : decode cX2_catchError 18 = .ok (.aload_n 0, 1) := by decide +kernel
theorem dX2_catchError_19 : decode cX2_catchError 19 = .ok (.getfield 21, 3) := by decide +kernel
theorem dX2_catchError_22 : decode cX2_catchError 22 = .ok (.getfield 170, 3) := by decide +kernel
theorem dX2_catchError_25 : decode cX2_catchError 25 = .ok (.aload_n 0, 1) := by decide +kernel
theorem dX2_catchError_26 : decode cX2_catchError 26 = .ok (.getfield 91, 3) := by decide +kernel
theorem dX2_catchError_29 : decode cX2_catchError 29 = .ok (.invokevirtual 119, 3) := by decide +kernel
theorem dX2_catchError_32 : decode cX2_catchError 32 = .ok (.invokevirtual 97, 3) := by decide +kernel
theorem dX2_catchError_35 : decode cX2_catchError 35 = .ok (.istore_n 2, 1) := by decide +kernel
theorem dX2_catchError_36 : decode cX2_catchError 36 = .ok (.aload_n 0, 1) := by decide +kernel
theorem dX2_catchError_37 : decode cX2_catchError 37 = .ok (.getfield 28, 3) := by decide +kernel
theorem dX2_catchError_40 : decode cX2_catchError 40 = .ok (.iload_n 2, 1) := by decide +kernel
theorem dX2_catchError_41 : decode cX2_catchError 41 = .ok (.iload_n 1, 1) := by decide +kernel
theorem dX2_catchError_42 : decode cX2_catchError 42 = .ok (.aload_n 0, 1) := by decide +kernel
theorem dX2_catchError_43 : decode cX2_catchError 43 = .ok (.getfield 78, 3) := by decide +kernel
theorem dX2_catchError_46 : decode cX2_catchError 46 = .ok (.invokevirtual 245, 3) := by decide +kernel
theorem dX2_catchError_49 : decode cX2_catchError 49 = .ok (.aload_n 0, 1) := by decide +kernel
theorem dX2_catchError_50 : decode cX2_catchError 50 = .ok (.getfield 21, 3) := by decide +kernel
theorem dX2_catchError_53 : decode cX2_catchError 53 = .ok (.getfield 212, 3) := by decide +kernel
theorem dX2_catchError_56 : decode cX2_catchError 56 = .ok (.aload_n 0, 1) := by decide +kernel
theorem dX2_catchError_57 : decode cX2_catchError 57 = .ok (.getfield 91, 3) := by decide +kernel
theorem dX2_catchError_60 : decode cX2_catchError 60 = .ok (.iload_n 2, 1) := by decide +kernel
theorem dX2_catchError_61 : decode cX2_catchError 61 = .ok (.invokevirtual 142, 3) := by decide +kernel
theorem dX2_catchError_64 : decode cX2_catchError 64 = .ok (.aload_n 0, 1) := by decide +kernel
theorem dX2_catchError_65 : decode cX2_catchError 65 = .ok (.iconst 0, 1) := by decide +kernel
theorem dX2_catchError_66 : decode cX2_catchError 66 = .ok (.putfield 75, 3) := by decide +kernel
theorem dX2_catchError_69 : decode cX2_catchError 69 = .ok (.return_, 1) := by decide +kernel
theorem dX2_catchLeaving_0 : decode cX2_catchLeaving 0 = .ok (.aload_n 0, 1) := by decide +kernel
theorem dX2_catchLeaving_1 : decode cX2_catchLeaving 1 = .ok (.getfield 85, 3) := by decide +kernel
theorem dX2_catchLeaving_4 : decode cX2_catchLeaving 4 = .ok (.aload_n 0, 1) := by decide +kernel
theorem dX2_catchLeaving_5 : decode cX2_catchLeaving 5 = .ok (.getfield 91, 3) := by decide +kernel
theorem dX2_catchLeaving_8 : decode cX2_catchLeaving 8 = .ok (.if_icmp .ne 7, 3) := by decide +kernel
theorem dX2_catchLeaving_11 : decode cX2_catchLeaving 11 = .ok (.iconst 1, 1) := by decide +kernel
theorem dX2_catchLeaving_12 : decode cX2_catchLeaving 12 = .ok (.goto 4, 3) := by decide +kernel
theorem dX2_catchLeaving_15 : decode cX2_catchLeaving 15 = .ok (.iconst 0, 1) := by decide +kernel
theorem dX2_catchLeaving_16 : decode cX2_catchLeaving 16 = .ok (.istore_n 2, 1) := by decide +kernel
theorem dX2_catchLeaving_17 : decode cX2_catchLeaving 17 = .ok (.iload_n 2, 1) := by decide +kernel
theorem dX2_catchLeaving_18 : decode cX2_catchLeaving 18 = .ok (.ifCond .eq 19, 3) := by decide +kernel
theorem dX2_catchLeaving_21 : decode cX2_catchLeaving 21 = .ok (.aload_n 0, 1) := by decide +kernel
theorem dX2_catchLeaving_22 : decode cX2_catchLeaving 22 = .ok (.getfield 75, 3) := by decide +kernel
theorem dX2_catchLeaving_25 : decode cX2_catchLeaving 25 = .ok (.iconst 2, 1) := by decide +kernel
theorem dX2_catchLeaving_26 : decode cX2_catchLeaving 26 = .ok (.if_icmp .ne 11, 3) := by decide +kernel
theorem dX2_catchLeaving_29 : decode cX2_catchLeaving 29 = .ok (.aload_n 0, 1) := by decide +kernel
theorem dX2_catchLeaving_30 : decode cX2_catchLeaving 30 = .ok (.iconst 0, 1) := by decide +kernel
theorem dX2_catchLeaving_31 : decode cX2_catchLeaving 31 = .ok (.putfield 75, 3) := by decide +kernel
theorem dX2_catchLeaving_34 : decode cX2_catchLeaving 34 = .ok (.goto 25, 3) := by decide +kernel
theorem dX2_catchLeaving_37 : decode cX2_catchLeaving 37 = .ok (.iload_n 2, 1) := by decide +kernel
theorem dX2_catchLeaving_38 : decode cX2_catchLeaving 38 = .ok (.ifCond .eq 21, 3) := by decide +kernel
theorem dX2_catchLeaving_41 : decode cX2_catchLeaving 41 = .ok (.aload_n 0, 1) := by decide +kernel
theorem dX2_catchLeaving_42 : decode cX2_catchLeaving 42 = .ok (.getfield 75, 3) := by decide +kernel
theorem dX2_catchLeaving_45 : decode cX2_catchLeaving 45 = .ok (.iconst 3, 1) := by decide +kernel
theorem dX2_catchLeaving_46 : decode cX2_catchLeaving 46 = .ok (.if_icmp .ne 13, 3) := by decide +kernel
theorem dX2_catchLeaving_49 : decode cX2_catchLeaving 49 = .ok (.aload_n 0, 1) := by decide +kernel
theorem dX2_catchLeaving_50 : decode cX2_catchLeaving 50 = .ok (.iconst 0, 1) := by decide +kernel
theorem dX2_catchLeaving_51 : decode cX2_catchLeaving 51 = .ok (.putfield 75, 3) := by decide +kernel
theorem dX2_catchLeaving_54 : decode cX2_catchLeaving 54 = .ok (.aload_n 0, 1) := by decide +kernel
theorem dX2_catchLeaving_55 : decode cX2_catchLeaving 55 = .ok (.iload_n 1, 1) := by decide +kernel
theorem dX2_catchLeaving_56 : decode cX2_catchLeaving 56 = .ok (.invokevirtual 221, 3) := by decide +kernel
theorem dX2_catchLeaving_59 : decode cX2_catchLeaving 59 = .ok (.return_, 1) := by decide +kernel
theorem dX2_hold_0 : decode cX2_hold 0 = .ok (.aload_n 0, 1) := by decide +kernel
theorem dX2_hold_1 : decode cX2_hold 1 = .ok (.getfield 21, 3) := by decide +kernel
theorem dX2_hold_4 : decode cX2_hold 4 = .ok (.getfield 212, 3) := by decide +kernel
theorem dX2_hold_7 : decode cX2_hold 7 = .ok (.aload_n 0, 1) := by decide +kernel
theorem dX2_hold_8 : decode cX2_hold 8 = .ok (.getfield 91, 3) := by decide +kernel
theorem dX2_hold_11 : decode cX2_hold 11 = .ok (.aload_n 0, 1) := by decide +kernel
theorem dX2_hold_12 : decode cX2_hold 12 = .ok (.getfield 75, 3) := by decide +kernel
theorem dX2_hold_15 : decode cX2_hold 15 = .ok (.invokevirtual 142, 3) := by decide +kernel
theorem dX2_hold_18 : decode cX2_hold 18 = .ok (.aload_n 0, 1) := by decide +kernel
theorem dX2_hold_19 : decode cX2_hold 19 = .ok (.getfield 21, 3) := by decide +kernel
theorem dX2_hold_22 : decode cX2_hold 22 = .ok (.getfield 218, 3) := by decide +kernel
theorem dX2_hold_25 : decode cX2_hold 25 = .ok (.aload_n 0, 1) := by decide +kernel
theorem dX2_hold_26 : decode cX2_hold 26 = .ok (.getfield 91, 3) := by decide +kernel
theorem dX2_hold_29 : decode cX2_hold 29 = .ok (.aload_n 0, 1) := by decide +kernel
theorem dX2_hold_30 : decode cX2_hold 30 = .ok (.getfield 78, 3) := by decide +kernel
theorem dX2_hold_33 : decode cX2_hold 33 = .ok (.invokevirtual 142, 3) := by decide +kernel
theorem dX2_hold_36 : decode cX2_hold 36 = .ok (.aload_n 0, 1) := by decide +kernel
theorem dX2_hold_37 : decode cX2_hold 37 = .ok (.getfield 21, 3) := by decide +kernel
theorem dX2_hold_40 : decode cX2_hold 40 = .ok (.getfield 249, 3) := by decide +kernel
theorem dX2_hold_43 : decode cX2_hold 43 = .ok (.aload_n 0, 1) := by decide +kernel
theorem dX2_hold_44 : decode cX2_hold 44 = .ok (.getfield 91, 3) := by decide +kernel
theorem dX2_hold_47 : decode cX2_hold 47 = .ok (.aload_n 0, 1) := by decide +kernel
theorem dX2_hold_48 : decode cX2_hold 48 = .ok (.getfield 85, 3) := by decide +kernel
theorem dX2_hold_51 : decode cX2_hold 51 = .ok (.invokevirtual 142, 3) := by decide +kernel
theorem dX2_hold_54 : decode cX2_hold 54 = .ok (.aload_n 0, 1) := by decide +kernel
theorem dX2_hold_55 : decode cX2_hold 55 = .ok (.getfield 21, 3) := by decide +kernel
theorem dX2_hold_58 : decode cX2_hold 58 = .ok (.getfield 374, 3) := by decide +kernel
theorem dX2_hold_61 : decode cX2_hold 61 = .ok (.aload_n 0, 1) := by decide +kernel
theorem dX2_hold_62 : decode cX2_hold 62 = .ok (.getfield 91, 3) := by decide +kernel
theorem dX2_hold_65 : decode cX2_hold 65 = .ok (.aload_n 0, 1) := by decide +kernel
theorem dX2_hold_66 : decode cX2_hold 66 = .ok (.getfield 82, 3) := by decide +kernel
theorem dX2_hold_69 : decode cX2_hold 69 = .ok (.invokevirtual 142, 3) := by decide +kernel
theorem dX2_hold_72 : decode cX2_hold 72 = .ok (.aload_n 0, 1) := by decide +kernel
theorem dX2_hold_73 : decode cX2_hold 73 = .ok (.iconst 0, 1) := by decide +kernel
theorem dX2_hold_74 : decode cX2_hold 74 = .ok (.putfield 75, 3) := by decide +kernel
theorem dX2_hold_77 : decode cX2_hold 77 = .ok (.return_, 1) := by decide +kernel
theorem dX2_revive_0 : decode cX2_revive 0 = .ok (.aload_n 0, 1) := by decide +kernel
theorem dX2_revive_1 : decode cX2_revive 1 = .ok (.aload_n 0, 1) := by decide +kernel
theorem dX2_revive_2 : decode cX2_revive 2 = .ok (.getfield 21, 3) := by decide +kernel
theorem dX2_revive_5 : decode cX2_revive 5 = .ok (.getfield 212, 3) := by decide +kernel
theorem dX2_revive_8 : decode cX2_revive 8 = .ok (.aload_n 0, 1) := by decide +kernel
theorem dX2_revive_9 : decode cX2_revive 9 = .ok (.getfield 91, 3) := by decide +kernel
theorem dX2_revive_12 : decode cX2_revive 12 = .ok (.invokevirtual 119, 3) := by decide +kernel
theorem dX2_revive_15 : decode cX2_revive 15 = .ok (.putfield 75, 3) := by decide +kernel
theorem dX2_revive_18 : decode cX2_revive 18 = .ok (.aload_n 0, 1) := by decide +kernel
theorem dX2_revive_19 : decode cX2_revive 19 = .ok (.aload_n 0, 1) := by decide +kernel
theorem dX2_revive_20 : decode cX2_revive 20 = .ok (.getfield 21, 3) := by decide +kernel
theorem dX2_revive_23 : decode cX2_revive 23 = .ok (.getfield 218, 3) := by decide +kernel
theorem dX2_revive_26 : decode cX2_revive 26 = .ok (.aload_n 0, 1) := by decide +kernel
theorem dX2_revive_27 : decode cX2_revive 27 = .ok (.getfield 91, 3) := by decide +kernel
theorem dX2_revive_30 : decode cX2_revive 30 = .ok (.invokevirtual 119, 3) := by decide +kernel
theorem dX2_revive_33 : decode cX2_revive 33 = .ok (.putfield 78, 3) := by decide +kernel
theorem dX2_revive_36 : decode cX2_revive 36 = .ok (.aload_n 0, 1) := by decide +kernel
theorem dX2_revive_37 : decode cX2_revive 37 = .ok (.aload_n 0, 1) := by decide +kernel
theorem dX2_revive_38 : decode cX2_revive 38 = .ok (.getfield 21, 3) := by decide +kernel
theorem dX2_revive_41 : decode cX2_revive 41 = .ok (.getfield 249, 3) := by decide +kernel
theorem dX2_revive_44 : decode cX2_revive 44 = .ok (.aload_n 0, 1) := by decide +kernel
theorem dX2_revive_45 : decode cX2_revive 45 = .ok (.getfield 91, 3) := by decide +kernel
theorem dX2_revive_48 : decode cX2_revive 48 = .ok (.invokevirtual 119, 3) := by decide +kernel
theorem dX2_revive_51 : decode cX2_revive 51 = .ok (.putfield 85, 3) := by decide +kernel
theorem dX2_revive_54 : decode cX2_revive 54 = .ok (.aload_n 0, 1) := by decide +kernel
theorem dX2_revive_55 : decode cX2_revive 55 = .ok (.aload_n 0, 1) := by decide +kernel
theorem dX2_revive_56 : decode cX2_revive 56 = .ok (.getfield 21, 3) := by decide +kernel
theorem dX2_revive_59 : decode cX2_revive 59 = .ok (.getfield 374, 3) := by decide +kernel
theorem dX2_revive_62 : decode cX2_revive 62 = .ok (.aload_n 0, 1) := by decide +kernel
theorem dX2_revive_63 : decode cX2_revive 63 = .ok (.getfield 91, 3) := by decide +kernel
theorem dX2_revive_66 : decode cX2_revive 66 = .ok (.invokevirtual 119, 3) := by decide +kernel
theorem dX2_revive_69 : decode cX2_revive 69 = .ok (.putfield 82, 3) := by decide +kernel
theorem dX2_revive_72 : decode cX2_revive 72 = .ok (.return_, 1) := by decide +kernel
theorem dX2_loopWith_0 : decode cX2_loopWith 0 = .ok (.aload_n 0, 1) := by decide +kernel
theorem dX2_loopWith_1 : decode cX2_loopWith 1 = .ok (.getfield 91, 3) := by decide +kernel
theorem dX2_loopWith_4 : decode cX2_loopWith 4 = .ok (.istore_n 2, 1) := by decide +kernel
theorem dX2_loopWith_5 : decode cX2_loopWith 5 = .ok (.iconst 0, 1) := by decide +kernel
theorem dX2_loopWith_6 : decode cX2_loopWith 6 = .ok (.istore_n 3, 1) := by decide +kernel
theorem dX2_loopWith_7 : decode cX2_loopWith 7 = .ok (.iload_n 3, 1) := by decide +kernel
theorem dX2_loopWith_8 : decode cX2_loopWith 8 = .ok (.sipush 601, 3) := by decide +kernel
theorem dX2_loopWith_11 : decode cX2_loopWith 11 = .ok (.if_icmp .ge 92, 3) := by decide +kernel
theorem dX2_loopWith_14 : decode cX2_loopWith 14 = .ok (.iload_n 2, 1) := by decide +kernel
theorem dX2_loopWith_15 : decode cX2_loopWith 15 = .ok (.iconst (-1), 1) := by decide +kernel
theorem dX2_loopWith_16 : decode cX2_loopWith 16 = .ok (.if_icmp .eq 87, 3) := by decide +kernel
theorem dX2_loopWith_19 : decode cX2_loopWith 19 = .ok (.aload_n 0, 1) := by decide +kernel
theorem dX2_loopWith_20 : decode cX2_loopWith 20 = .ok (.getfield 21, 3) := by decide +kernel
theorem dX2_loopWith_23 : decode cX2_loopWith 23 = .ok (.getfield 167, 3) := by decide +kernel
theorem dX2_loopWith_26 : decode cX2_loopWith 26 = .ok (.iload_n 2, 1) := by decide +kernel
theorem dX2_loopWith_27 : decode cX2_loopWith 27 = .ok (.invokevirtual 119, 3) := by decide +kernel
theorem dX2_loopWith_30 : decode cX2_loopWith 30 = .ok (.istore 4, 2) := by decide +kernel
theorem dX2_loopWith_32 : decode cX2_loopWith 32 = .ok (.aload_n 0, 1) := by decide +kernel
theorem dX2_loopWith_33 : decode cX2_loopWith 33 = .ok (.getfield 39, 3) := by decide +kernel
theorem dX2_loopWith_36 : decode cX2_loopWith 36 = .ok (.getfield 377, 3) := by decide +kernel
theorem dX2_loopWith_39 : decode cX2_loopWith 39 = .ok (.iload 4, 2) := by decide +kernel
theorem dX2_loopWith_41 : decode cX2_loopWith 41 = .ok (.invokevirtual 119, 3) := by decide +kernel
theorem dX2_loopWith_44 : decode cX2_loopWith 44 = .ok (.bipush 13, 2) := by decide +kernel
theorem dX2_loopWith_46 : decode cX2_loopWith 46 = .ok (.if_icmp .ne 21, 3) := by decide +kernel
theorem dX2_loopWith_49 : decode cX2_loopWith 49 = .ok (.aload_n 0, 1) := by decide +kernel
theorem dX2_loopWith_50 : decode cX2_loopWith 50 = .ok (.getfield 39, 3) := by decide +kernel
theorem dX2_loopWith_53 : decode cX2_loopWith 53 = .ok (.getfield 380, 3) := by decide +kernel
theorem dX2_loopWith_56 : decode cX2_loopWith 56 = .ok (.iload 4, 2) := by decide +kernel
theorem dX2_loopWith_58 : decode cX2_loopWith 58 = .ok (.invokevirtual 119, 3) := by decide +kernel
theorem dX2_loopWith_61 : decode cX2_loopWith 61 = .ok (.iload_n 1, 1) := by decide +kernel
theorem dX2_loopWith_62 : decode cX2_loopWith 62 = .ok (.if_icmp .ne 5, 3) := by decide +kernel
theorem dX2_loopWith_65 : decode cX2_loopWith 65 = .ok (.iload_n 2, 1) := by decide +kernel
theorem dX2_loopWith_66 : decode cX2_loopWith 66 = .ok (.ireturn, 1) := by decide +kernel
theorem dX2_loopWith_67 : decode cX2_loopWith 67 = .ok (.aload_n 0, 1) := by decide +kernel
theorem dX2_loopWith_68 : decode cX2_loopWith 68 = .ok (.getfield 21, 3) := by decide +kernel
theorem dX2_loopWith_71 : decode cX2_loopWith 71 = .ok (.getfield 203, 3) := by decide +kernel
theorem dX2_loopWith_74 : decode cX2_loopWith 74 = .ok (.iload_n 2, 1) := by decide +kernel
theorem dX2_loopWith_75 : decode cX2_loopWith 75 = .ok (.invokevirtual 119, 3) := by decide +kernel
theorem dX2_loopWith_78 : decode cX2_loopWith 78 = .ok (.ifCond .ne 17, 3) := by decide +kernel
theorem dX2_loopWith_81 : decode cX2_loopWith 81 = .ok (.aload_n 0, 1) := by decide +kernel
theorem dX2_loopWith_82 : decode cX2_loopWith 82 = .ok (.getfield 21, 3) := by decide +kernel
theorem dX2_loopWith_85 : decode cX2_loopWith 85 = .ok (.getfield 200, 3) := by decide +kernel
theorem dX2_loopWith_88 : decode cX2_loopWith 88 = .ok (.iload_n 2, 1) := by decide +kernel
theorem dX2_loopWith_89 : decode cX2_loopWith 89 = .ok (.invokevirtual 119, 3) := by decide +kernel
theorem dX2_loopWith_92 : decode cX2_loopWith 92 = .ok (.goto 4, 3) := by decide +kernel
theorem dX2_loopWith_95 : decode cX2_loopWith 95 = .ok (.iconst (-1), 1) := by decide +kernel
theorem dX2_loopWith_96 : decode cX2_loopWith 96 = .ok (.istore_n 2, 1) := by decide +kernel
theorem dX2_loopWith_97 : decode cX2_loopWith 97 = .ok (.iinc 3 1, 3) := by decide +kernel
theorem dX2_loopWith_100 : decode cX2_loopWith 100 = .ok (.goto (-93), 3) := by decide +kernel
theorem dX2_loopWith_103 : decode cX2_loopWith 103 = .ok (.iconst (-1), 1) := by decide +kernel
theorem dX2_loopWith_104 : decode cX2_loopWith 104 = .ok (.ireturn, 1) := by decide +kernel
theorem dX2_bodyToReturn_0 : decode cX2_bodyToReturn 0 = .ok (.aload_n 0, 1) := by decide +kernel
theorem dX2_bodyToReturn_1 : decode cX2_bodyToReturn 1 = .ok (.getfield 21, 3) := by decide +kernel
theorem dX2_bodyToReturn_4 : decode cX2_bodyToReturn 4 = .ok (.aload_n 0, 1) := by decide +kernel
theorem dX2_bodyToReturn_5 : decode cX2_bodyToReturn 5 = .ok (.getfield 91, 3) := by decide +kernel
theorem dX2_bodyToReturn_8 : decode cX2_bodyToReturn 8 = .ok (.invokevirtual 383, 3) := by decide +kernel
theorem dX2_bodyToReturn_11 : decode cX2_bodyToReturn 11 = .ok (.istore_n 1, 1) := by decide +kernel
theorem dX2_bodyToReturn_12 : decode cX2_bodyToReturn 12 = .ok (.aload_n 0, 1) := by decide +kernel
theorem dX2_bodyToReturn_13 : decode cX2_bodyToReturn 13 = .ok (.getfield 21, 3) := by decide +kernel
theorem dX2_bodyToReturn_16 : decode cX2_bodyToReturn 16 = .ok (.getfield 203, 3) := by decide +kernel
theorem dX2_bodyToReturn_19 : decode cX2_bodyToReturn 19 = .ok (.iload_n 1, 1) := by decide +kernel
theorem dX2_bodyToReturn_20 : decode cX2_bodyToReturn 20 = .ok (.invokevirtual 119, 3) := by decide +kernel
theorem dX2_bodyToReturn_23 : decode cX2_bodyToReturn 23 = .ok (.iconst 3, 1) := by decide +kernel
theorem dX2_bodyToReturn_24 : decode cX2_bodyToReturn 24 = .ok (.if_icmp .lt 7, 3) := by decide +kernel
theorem dX2_bodyToReturn_27 : decode cX2_bodyToReturn 27 = .ok (.iload_n 1, 1) := by decide +kernel
theorem dX2_bodyToReturn_28 : decode cX2_bodyToReturn 28 = .ok (.goto 4, 3) := by decide +kernel
theorem dX2_bodyToReturn_31 : decode cX2_bodyToReturn 31 = .ok (.iconst (-1), 1) := by decide +kernel
theorem dX2_bodyToReturn_32 : decode cX2_bodyToReturn 32 = .ok (.ireturn, 1) := by decide +kernel
theorem dX2_leaveFor_0 : decode cX2_leaveFor 0 = .ok (.iload_n 1, 1) := by decide +kernel
theorem dX2_leaveFor_1 : decode cX2_leaveFor 1 = .ok (.iconst (-1), 1) := by decide +kernel
theorem dX2_leaveFor_2 : decode cX2_leaveFor 2 = .ok (.if_icmp .ne 10, 3) := by decide +kernel
theorem dX2_leaveFor_5 : decode cX2_leaveFor 5 = .ok (.aload_n 0, 1) := by decide +kernel
theorem dX2_leaveFor_6 : decode cX2_leaveFor 6 = .ok (.bipush (-6), 2) := by decide +kernel
theorem dX2_leaveFor_8 : decode cX2_leaveFor 8 = .ok (.invokevirtual 176, 3) := by decide +kernel
theorem dX2_leaveFor_11 : decode cX2_leaveFor 11 = .ok (.return_, 1) := by decide +kernel
theorem dX2_leaveFor_12 : decode cX2_leaveFor 12 = .ok (.aload_n 0, 1) := by decide +kernel
theorem dX2_leaveFor_13 : decode cX2_leaveFor 13 = .ok (.iload_n 2, 1) := by decide +kernel
theorem dX2_leaveFor_14 : decode cX2_leaveFor 14 = .ok (.putfield 75, 3) := by decide +kernel
theorem dX2_leaveFor_17 : decode cX2_leaveFor 17 = .ok (.aload_n 0, 1) := by decide +kernel
theorem dX2_leaveFor_18 : decode cX2_leaveFor 18 = .ok (.iload_n 1, 1) := by decide +kernel
theorem dX2_leaveFor_19 : decode cX2_leaveFor 19 = .ok (.putfield 85, 3) := by decide +kernel
theorem dX2_leaveFor_22 : decode cX2_leaveFor 22 = .ok (.return_, 1) := by decide +kernel
theorem dX2_apply_0 : decode cX2_apply 0 = .ok (.aload_n 0, 1) := by decide +kernel
theorem dX2_apply_1 : decode cX2_apply 1 = .ok (.getfield 21, 3) := by decide +kernel
theorem dX2_apply_4 : decode cX2_apply 4 = .ok (.getfield 218, 3) := by decide +kernel
theorem dX2_apply_7 : decode cX2_apply 7 = .ok (.aload_n 0, 1) := by decide +kernel
theorem dX2_apply_8 : decode cX2_apply 8 = .ok (.getfield 91, 3) := by decide +kernel
theorem dX2_apply_11 : decode cX2_apply 11 = .ok (.invokevirtual 119, 3) := by decide +kernel
theorem dX2_apply_14 : decode cX2_apply 14 = .ok (.istore_n 1, 1) := by decide +kernel
theorem dX2_apply_15 : decode cX2_apply 15 = .ok (.aload_n 0, 1) := by decide +kernel
theorem dX2_apply_16 : decode cX2_apply 16 = .ok (.getfield 35, 3) := by decide +kernel
theorem dX2_apply_19 : decode cX2_apply 19 = .ok (.iload_n 1, 1) := by decide +kernel
theorem dX2_apply_20 : decode cX2_apply 20 = .ok (.invokevirtual 386, 3) := by decide +kernel
theorem dX2_apply_23 : decode cX2_apply 23 = .ok (.ifCond .ne 10, 3) := by decide +kernel
theorem dX2_apply_26 : decode cX2_apply 26 = .ok (.aload_n 0, 1) := by decide +kernel
theorem dX2_apply_27 : decode cX2_apply 27 = .ok (.bipush (-3), 2) := by decide +kernel
theorem dX2_apply_29 : decode cX2_apply 29 = .ok (.invokevirtual 176, 3) := by decide +kernel
theorem dX2_apply_32 : decode cX2_apply 32 = .ok (.return_, 1) := by decide +kernel
theorem dX2_apply_33 : decode cX2_apply 33 = .ok (.aload_n 0, 1) := by decide +kernel
theorem dX2_apply_34 : decode cX2_apply 34 = .ok (.getfield 35, 3) := by decide +kernel
theorem dX2_apply_37 : decode cX2_apply 37 = .ok (.iload_n 1, 1) := by decide +kernel
theorem dX2_apply_38 : decode cX2_apply 38 = .ok (.invokevirtual 389, 3) := by decide +kernel
theorem dX2_apply_41 : decode cX2_apply 41 = .ok (.istore_n 2, 1) := by decide +kernel
theorem dX2_apply_42 : decode cX2_apply 42 = .ok (.aload_n 0, 1) := by decide +kernel
theorem dX2_apply_43 : decode cX2_apply 43 = .ok (.getfield 21, 3) := by decide +kernel
theorem dX2_apply_46 : decode cX2_apply 46 = .ok (.getfield 167, 3) := by decide +kernel
theorem dX2_apply_49 : decode cX2_apply 49 = .ok (.iload_n 2, 1) := by decide +kernel
theorem dX2_apply_50 : decode cX2_apply 50 = .ok (.invokevirtual 119, 3) := by decide +kernel
theorem dX2_apply_53 : decode cX2_apply 53 = .ok (.istore_n 3, 1) := by decide +kernel
theorem dX2_apply_54 : decode cX2_apply 54 = .ok (.aload_n 0, 1) := by decide +kernel
theorem dX2_apply_55 : decode cX2_apply 55 = .ok (.getfield 28, 3) := by decide +kernel
theorem dX2_apply_58 : decode cX2_apply 58 = .ok (.aload_n 0, 1) := by decide +kernel
theorem dX2_apply_59 : decode cX2_apply 59 = .ok (.getfield 21, 3) := by decide +kernel
theorem dX2_apply_62 : decode cX2_apply 62 = .ok (.getfield 170, 3) := by decide +kernel
theorem dX2_apply_65 : decode cX2_apply 65 = .ok (.iload_n 2, 1) := by decide +kernel
theorem dX2_apply_66 : decode cX2_apply 66 = .ok (.invokevirtual 119, 3) := by decide +kernel
theorem dX2_apply_69 : decode cX2_apply 69 = .ok (.invokevirtual 97, 3) := by decide +kernel
theorem dX2_apply_72 : decode cX2_apply 72 = .ok (.istore 4, 2) := by decide +kernel
theorem dX2_apply_74 : decode cX2_apply 74 = .ok (.aload_n 0, 1) := by decide +kernel
theorem dX2_apply_75 : decode cX2_apply 75 = .ok (.getfield 28, 3) := by decide +kernel
theorem dX2_apply_78 : decode cX2_apply 78 = .ok (.iload 4, 2) := by decide +kernel
theorem dX2_apply_80 : decode cX2_apply 80 = .ok (.aload_n 0, 1) := by decide +kernel
theorem dX2_apply_81 : decode cX2_apply 81 = .ok (.getfield 39, 3) := by decide +kernel
theorem dX2_apply_84 : decode cX2_apply 84 = .ok (.getfield 380, 3) := by decide +kernel
theorem dX2_apply_87 : decode cX2_apply 87 = .ok (.iload_n 3, 1) := by decide +kernel
theorem dX2_apply_88 : decode cX2_apply 88 = .ok (.invokevirtual 119, 3) := by decide +kernel
theorem dX2_apply_91 : decode cX2_apply 91 = .ok (.aload_n 0, 1) := by decide +kernel
theorem dX2_apply_92 : decode cX2_apply 92 = .ok (.getfield 78, 3) := by decide +kernel
theorem dX2_apply_95 : decode cX2_apply 95 = .ok (.invokevirtual 245, 3) := by decide +kernel
theorem dX2_apply_98 : decode cX2_apply 98 = .ok (.aload_n 0, 1) := by decide +kernel
theorem dX2_apply_99 : decode cX2_apply 99 = .ok (.getfield 21, 3) := by decide +kernel
theorem dX2_apply_102 : decode cX2_apply 102 = .ok (.getfield 212, 3) := by decide +kernel
theorem dX2_apply_105 : decode cX2_apply 105 = .ok (.aload_n 0, 1) := by decide +kernel
theorem dX2_apply_106 : decode cX2_apply 106 = .ok (.getfield 91, 3) := by decide +kernel
theorem dX2_apply_109 : decode cX2_apply 109 = .ok (.iload 4, 2) := by decide +kernel
theorem dX2_apply_111 : decode cX2_apply 111 = .ok (.invokevirtual 142, 3) := by decide +kernel
theorem dX2_apply_114 : decode cX2_apply 114 = .ok (.aload_n 0, 1) := by decide +kernel
theorem dX2_apply_115 : decode cX2_apply 115 = .ok (.aload_n 0, 1) := by decide +kernel
theorem dX2_apply_116 : decode cX2_apply 116 = .ok (.getfield 39, 3) := by decide +kernel
theorem dX2_apply_119 : decode cX2_apply 119 = .ok (.getfield 392, 3) := by decide +kernel
theorem dX2_apply_122 : decode cX2_apply 122 = .ok (.iload_n 3, 1) := by decide +kernel
theorem dX2_apply_123 : decode cX2_apply 123 = .ok (.invokevirtual 119, 3) := by decide +kernel
theorem dX2_apply_126 : decode cX2_apply 126 = .ok (.invokevirtual 252, 3) := by decide +kernel
theorem dX2_apply_129 : decode cX2_apply 129 = .ok (.return_, 1) := by decide +kernel
theorem dX2_invoke_0 : decode cX2_invoke 0 = .ok (.aload_n 0, 1) := by decide +kernel
theorem dX2_invoke_1 : decode cX2_invoke 1 = .ok (.getfield 43, 3) := by decide +kernel
theorem dX2_invoke_4 : decode cX2_invoke 4 = .ok (.getfield 395, 3) := by decide +kernel
theorem dX2_invoke_7 : decode cX2_invoke 7 = .ok (.iload_n 1, 1) := by decide +kernel
theorem dX2_invoke_8 : decode cX2_invoke 8 = .ok (.invokevirtual 119, 3) := by decide +kernel
theorem dX2_invoke_11 : decode cX2_invoke 11 = .ok (.istore_n 3, 1) := by decide +kernel
theorem dX2_invoke_12 : decode cX2_invoke 12 = .ok (.aload_n 0, 1) := by decide +kernel
theorem dX2_invoke_13 : decode cX2_invoke 13 = .ok (.getfield 43, 3) := by decide +kernel
theorem dX2_invoke_16 : decode cX2_invoke 16 = .ok (.getfield 248, 3) := by decide +kernel
theorem dX2_invoke_19 : decode cX2_invoke 19 = .ok (.iload_n 1, 1) := by decide +kernel
theorem dX2_invoke_20 : decode cX2_invoke 20 = .ok (.invokevirtual 119, 3) := by decide +kernel
theorem dX2_invoke_23 : decode cX2_invoke 23 = .ok (.iconst (-1), 1) := by decide +kernel
theorem dX2_invoke_24 : decode cX2_invoke 24 = .ok (.if_icmp .ne 9, 3) := by decide +kernel
theorem dX2_invoke_27 : decode cX2_invoke 27 = .ok (.aload_n 0, 1) := by decide +kernel
theorem dX2_invoke_28 : decode cX2_invoke 28 = .ok (.iconst (-1), 1) := by decide +kernel
theorem dX2_invoke_29 : decode cX2_invoke 29 = .ok (.invokevirtual 176, 3) := by decide +kernel
theorem dX2_invoke_32 : decode cX2_invoke 32 = .ok (.return_, 1) := by decide +kernel
theorem dX2_invoke_33 : decode cX2_invoke 33 = .ok (.iload_n 2, 1) := by decide +kernel
theorem dX2_invoke_34 : decode cX2_invoke 34 = .ok (.iload_n 3, 1) := by decide +kernel
theorem dX2_invoke_35 : decode cX2_invoke 35 = .ok (.if_icmp .le 10, 3) := by decide +kernel
theorem dX2_invoke_38 : decode cX2_invoke 38 = .ok (.aload_n 0, 1) := by decide +kernel
theorem dX2_invoke_39 : decode cX2_invoke 39 = .ok (.bipush (-3), 2) := by decide +kernel
theorem dX2_invoke_41 : decode cX2_invoke 41 = .ok (.invokevirtual 176, 3) := by decide +kernel
theorem dX2_invoke_44 : decode cX2_invoke 44 = .ok (.return_, 1) := by decide +kernel
theorem dX2_invoke_45 : decode cX2_invoke 45 = .ok (.aload_n 0, 1) := by decide +kernel
theorem dX2_invoke_46 : decode cX2_invoke 46 = .ok (.getfield 28, 3) := by decide +kernel
theorem dX2_invoke_49 : decode cX2_invoke 49 = .ok (.iconst (-1), 1) := by decide +kernel
theorem dX2_invoke_50 : decode cX2_invoke 50 = .ok (.invokevirtual 97, 3) := by decide +kernel
theorem dX2_invoke_53 : decode cX2_invoke 53 = .ok (.istore 4, 2) := by decide +kernel
theorem dX2_invoke_55 : decode cX2_invoke 55 = .ok (.aload_n 0, 1) := by decide +kernel
theorem dX2_invoke_56 : decode cX2_invoke 56 = .ok (.getfield 21, 3) := by decide +kernel
theorem dX2_invoke_59 : decode cX2_invoke 59 = .ok (.getfield 212, 3) := by decide +kernel
theorem dX2_invoke_62 : decode cX2_invoke 62 = .ok (.aload_n 0, 1) := by decide +kernel
theorem dX2_invoke_63 : decode cX2_invoke 63 = .ok (.getfield 91, 3) := by decide +kernel
theorem dX2_invoke_66 : decode cX2_invoke 66 = .ok (.iload 4, 2) := by decide +kernel
theorem dX2_invoke_68 : decode cX2_invoke 68 = .ok (.invokevirtual 142, 3) := by decide +kernel
theorem dX2_invoke_71 : decode cX2_invoke 71 = .ok (.aload_n 0, 1) := by decide +kernel
theorem dX2_invoke_72 : decode cX2_invoke 72 = .ok (.getfield 21, 3) := by decide +kernel
theorem dX2_invoke_75 : decode cX2_invoke 75 = .ok (.getfield 249, 3) := by decide +kernel
theorem dX2_invoke_78 : decode cX2_invoke 78 = .ok (.aload_n 0, 1) := by decide +kernel
theorem dX2_invoke_79 : decode cX2_invoke 79 = .ok (.getfield 91, 3) := by decide +kernel
theorem dX2_invoke_82 : decode cX2_invoke 82 = .ok (.iload_n 1, 1) := by decide +kernel
theorem dX2_invoke_83 : decode cX2_invoke 83 = .ok (.invokevirtual 142, 3) := by decide +kernel
theorem dX2_invoke_86 : decode cX2_invoke 86 = .ok (.iload_n 3, 1) := by decide +kernel
theorem dX2_invoke_87 : decode cX2_invoke 87 = .ok (.ifCond .le 52, 3) := by decide +kernel
theorem dX2_invoke_90 : decode cX2_invoke 90 = .ok (.iload_n 2, 1) := by decide +kernel
theorem dX2_invoke_91 : decode cX2_invoke 91 = .ok (.iconst 1, 1) := by decide +kernel
theorem dX2_invoke_92 : decode cX2_invoke 92 = .ok (.if_icmp .ne 10, 3) := by decide +kernel
theorem dX2_invoke_95 : decode cX2_invoke 95 = .ok (.aload_n 0, 1) := by decide +kernel
theorem dX2_invoke_96 : decode cX2_invoke 96 = .ok (.getfield 78, 3) := by decide +kernel
theorem dX2_invoke_99 : decode cX2_invoke 99 = .ok (.goto 4, 3) := by decide +kernel
theorem dX2_invoke_102 : decode cX2_invoke 102 = .ok (.iconst 0, 1) := by decide +kernel
theorem dX2_invoke_103 : decode cX2_invoke 103 = .ok (.istore 5, 2) := by decide +kernel
theorem dX2_invoke_105 : decode cX2_invoke 105 = .ok (.aload_n 0, 1) := by decide +kernel
theorem dX2_invoke_106 : decode cX2_invoke 106 = .ok (.getfield 28, 3) := by decide +kernel
theorem dX2_invoke_109 : decode cX2_invoke 109 = .ok (.iload 4, 2) := by decide +kernel
theorem dX2_invoke_111 : decode cX2_invoke 111 = .ok (.iconst 0, 1) := by decide +kernel
theorem dX2_invoke_112 : decode cX2_invoke 112 = .ok (.iload_n 2, 1) := by decide +kernel
theorem dX2_invoke_113 : decode cX2_invoke 113 = .ok (.iconst 2, 1) := by decide +kernel
theorem dX2_invoke_114 : decode cX2_invoke 114 = .ok (.if_icmp .ne 20, 3) := by decide +kernel
theorem dX2_invoke_117 : decode cX2_invoke 117 = .ok (.aload_n 0, 1) := by decide +kernel
theorem dX2_invoke_118 : decode cX2_invoke 118 = .ok (.getfield 21, 3) := by decide +kernel
theorem dX2_invoke_121 : decode cX2_invoke 121 = .ok (.getfield 218, 3) := by decide +kernel
theorem dX2_invoke_124 : decode cX2_invoke 124 = .ok (.aload_n 0, 1) := by decide +kernel
theorem dX2_invoke_125 : decode cX2_invoke 125 = .ok (.getfield 91, 3) := by decide +kernel
theorem dX2_invoke_128 : decode cX2_invoke 128 = .ok (.invokevirtual 119, 3) := by decide +kernel
theorem dX2_invoke_131 : decode cX2_invoke 131 = .ok (.goto 5, 3) := by decide +kernel
theorem dX2_invoke_134 : decode cX2_invoke 134 = .ok (.iload 5, 2) := by decide +kernel
theorem dX2_invoke_136 : decode cX2_invoke 136 = .ok (.invokevirtual 245, 3) := by decide +kernel
theorem dX2_invoke_139 : decode cX2_invoke 139 = .ok (.aload_n 0, 1) := by decide +kernel
theorem dX2_invoke_140 : decode cX2_invoke 140 = .ok (.getfield 43, 3) := by decide +kernel
theorem dX2_invoke_143 : decode cX2_invoke 143 = .ok (.getfield 398, 3) := by decide +kernel
theorem dX2_invoke_146 : decode cX2_invoke 146 = .ok (.iload_n 1, 1) := by decide +kernel
theorem dX2_invoke_147 : decode cX2_invoke 147 = .ok (.invokevirtual 119, 3) := by decide +kernel
theorem dX2_invoke_150 : decode cX2_invoke 150 = .ok (.istore 5, 2) := by decide +kernel
theorem dX2_invoke_152 : decode cX2_invoke 152 = .ok (.iload_n 3, 1) := by decide +kernel
theorem dX2_invoke_153 : decode cX2_invoke 153 = .ok (.iconst 2, 1) := by decide +kernel
theorem dX2_invoke_154 : decode cX2_invoke 154 = .ok (.if_icmp .ne 24, 3) := by decide +kernel
theorem dX2_invoke_157 : decode cX2_invoke 157 = .ok (.iload_n 2, 1) := by decide +kernel
theorem dX2_invoke_158 : decode cX2_invoke 158 = .ok (.iconst 2, 1) := by decide +kernel
theorem dX2_invoke_159 : decode cX2_invoke 159 = .ok (.if_icmp .ge 19, 3) := by decide +kernel
theorem dX2_invoke_162 : decode cX2_invoke 162 = .ok (.iload 5, 2) := by decide +kernel
theorem dX2_invoke_164 : decode cX2_invoke 164 = .ok (.iconst (-1), 1) := by decide +kernel
theorem dX2_invoke_165 : decode cX2_invoke 165 = .ok (.if_icmp .eq 13, 3) := by decide +kernel
theorem dX2_invoke_168 : decode cX2_invoke 168 = .ok (.aload_n 0, 1) := by decide +kernel
theorem dX2_invoke_169 : decode cX2_invoke 169 = .ok (.iload 5, 2) := by decide +kernel
theorem dX2_invoke_171 : decode cX2_invoke 171 = .ok (.iload 4, 2) := by decide +kernel
theorem dX2_invoke_173 : decode cX2_invoke 173 = .ok (.iconst 2, 1) := by decide +kernel
theorem dX2_invoke_174 : decode cX2_invoke 174 = .ok (.invokevirtual 101, 3) := by decide +kernel
theorem dX2_invoke_177 : decode cX2_invoke 177 = .ok (.return_, 1) := by decide +kernel
theorem dX2_invoke_178 : decode cX2_invoke 178 = .ok (.aload_n 0, 1) := by decide +kernel
theorem dX2_invoke_179 : decode cX2_invoke 179 = .ok (.iload_n 2, 1) := by decide +kernel
theorem dX2_invoke_180 : decode cX2_invoke 180 = .ok (.iconst 2, 1) := by decide +kernel
theorem dX2_invoke_181 : decode cX2_invoke 181 = .ok (.if_icmp .ne 10, 3) := by decide +kernel
theorem dX2_invoke_184 : decode cX2_invoke 184 = .ok (.aload_n 0, 1) := by decide +kernel
theorem dX2_invoke_185 : decode cX2_invoke 185 = .ok (.getfield 78, 3) := by decide +kernel
theorem dX2_invoke_188 : decode cX2_invoke 188 = .ok (.goto 4, 3) := by decide +kernel
theorem dX2_invoke_191 : decode cX2_invoke 191 = .ok (.iconst 0, 1) := by decide +kernel
theorem dX2_invoke_192 : decode cX2_invoke 192 = .ok (.putfield 78, 3) := by decide +kernel
theorem dX2_invoke_195 : decode cX2_invoke 195 = .ok (.iload_n 3, 1) := by decide +kernel
theorem dX2_invoke_196 : decode cX2_invoke 196 = .ok (.iconst 2, 1) := by decide +kernel
theorem dX2_invoke_197 : decode cX2_invoke 197 = .ok (.if_icmp .ge 23, 3) := by decide +kernel
theorem dX2_invoke_200 : decode cX2_invoke 200 = .ok (.aload_n 0, 1) := by decide +kernel
theorem dX2_invoke_201 : decode cX2_invoke 201 = .ok (.aload_n 0, 1) := by decide +kernel
theorem dX2_invoke_202 : decode cX2_invoke 202 = .ok (.getfield 21, 3) := by decide +kernel
theorem dX2_invoke_205 : decode cX2_invoke 205 = .ok (.getfield 127, 3) := by decide +kernel
theorem dX2_invoke_208 : decode cX2_invoke 208 = .ok (.aload_n 0, 1) := by decide +kernel
theorem dX2_invoke_209 : decode cX2_invoke 209 = .ok (.getfield 91, 3) := by decide +kernel
theorem dX2_invoke_212 : decode cX2_invoke 212 = .ok (.invokevirtual 119, 3) := by decide +kernel
theorem dX2_invoke_215 : decode cX2_invoke 215 = .ok (.iconst 1, 1) := by decide +kernel
theorem dX2_invoke_216 : decode cX2_invoke 216 = .ok (.iadd, 1) := by decide +kernel
theorem dX2_invoke_217 : decode cX2_invoke 217 = .ok (.invokevirtual 221, 3) := by decide +kernel
theorem dX2_invoke_220 : decode cX2_invoke 220 = .ok (.return_, 1) := by decide +kernel
theorem dX2_enter_0 : decode cX2_enter 0 = .ok (.aload_n 0, 1) := by decide +kernel
theorem dX2_enter_1 : decode cX2_enter 1 = .ok (.getfield 65, 3) := by decide +kernel
theorem dX2_enter_4 : decode cX2_enter 4 = .ok (.bipush 12, 2) := by decide +kernel
theorem dX2_enter_6 : decode cX2_enter 6 = .ok (.if_icmp .lt 10, 3) := by decide +kernel
theorem dX2_enter_9 : decode cX2_enter 9 = .ok (.aload_n 0, 1) := by decide +kernel
theorem dX2_enter_10 : decode cX2_enter 10 = .ok (.bipush (-5), 2) := by decide +kernel
theorem dX2_enter_12 : decode cX2_enter 12 = .ok (.invokevirtual 176, 3) := by decide +kernel
theorem dX2_enter_15 : decode cX2_enter 15 = .ok (.return_, 1) := by decide +kernel
theorem dX2_enter_16 : decode cX2_enter 16 = .ok (.aload_n 0, 1) := by decide +kernel
theorem dX2_enter_17 : decode cX2_enter 17 = .ok (.invokevirtual 401, 3) := by decide +kernel
theorem dX2_enter_20 : decode cX2_enter 20 = .ok (.aload_n 0, 1) := by decide +kernel
theorem dX2_enter_21 : decode cX2_enter 21 = .ok (.iload_n 1, 1) := by decide +kernel
theorem dX2_enter_22 : decode cX2_enter 22 = .ok (.aload_n 0, 1) := by decide +kernel
theorem dX2_enter_23 : decode cX2_enter 23 = .ok (.getfield 21, 3) := by decide +kernel
theorem dX2_enter_26 : decode cX2_enter 26 = .ok (.getfield 212, 3) := by decide +kernel
theorem dX2_enter_29 : decode cX2_enter 29 = .ok (.aload_n 0, 1) := by decide +kernel
theorem dX2_enter_30 : decode cX2_enter 30 = .ok (.getfield 91, 3) := by decide +kernel
theorem dX2_enter_33 : decode cX2_enter 33 = .ok (.invokevirtual 119, 3) := by decide +kernel
theorem dX2_enter_36 : decode cX2_enter 36 = .ok (.iconst 3, 1) := by decide +kernel
theorem dX2_enter_37 : decode cX2_enter 37 = .ok (.invokevirtual 101, 3) := by decide +kernel
theorem dX2_enter_40 : decode cX2_enter 40 = .ok (.return_, 1) := by decide +kernel
theorem dX2_noteCall_0 : decode cX2_noteCall 0 = .ok (.aload_n 0, 1) := by decide +kernel
theorem dX2_noteCall_1 : decode cX2_noteCall 1 = .ok (.getfield 21, 3) := by decide +kernel
theorem dX2_noteCall_4 : decode cX2_noteCall 4 = .ok (.getfield 197, 3) := by decide +kernel
theorem dX2_noteCall_7 : decode cX2_noteCall 7 = .ok (.aload_n 0, 1) := by decide +kernel
theorem dX2_noteCall_8 : decode cX2_noteCall 8 = .ok (.getfield 91, 3) := by decide +kernel
theorem dX2_noteCall_11 : decode cX2_noteCall 11 = .ok (.aload_n 0, 1) := by decide +kernel
theorem dX2_noteCall_12 : decode cX2_noteCall 12 = .ok (.getfield 68, 3) := by decide +kernel
theorem dX2_noteCall_15 : decode cX2_noteCall 15 = .ok (.invokevirtual 142, 3) := by decide +kernel
theorem dX2_noteCall_18 : decode cX2_noteCall 18 = .ok (.aload_n 0, 1) := by decide +kernel
theorem dX2_noteCall_19 : decode cX2_noteCall 19 = .ok (.aload_n 0, 1) := by decide +kernel
theorem dX2_noteCall_20 : decode cX2_noteCall 20 = .ok (.getfield 91, 3) := by decide +kernel
theorem dX2_noteCall_23 : decode cX2_noteCall 23 = .ok (.putfield 68, 3) := by decide +kernel
theorem dX2_noteCall_26 : decode cX2_noteCall 26 = .ok (.aload_n 0, 1) := by decide +kernel
theorem dX2_noteCall_27 : decode cX2_noteCall 27 = .ok (.dup, 1) := by decide +kernel
theorem dX2_noteCall_28 : decode cX2_noteCall 28 = .ok (.getfield 65, 3) := by decide +kernel
theorem dX2_noteCall_31 : decode cX2_noteCall 31 = .ok (.iconst 1, 1) := by decide +kernel
theorem dX2_noteCall_32 : decode cX2_noteCall 32 = .ok (.iadd, 1) := by decide +kernel
theorem dX2_noteCall_33 : decode cX2_noteCall 33 = .ok (.putfield 65, 3) := by decide +kernel
theorem dX2_noteCall_36 : decode cX2_noteCall 36 = .ok (.return_, 1) := by decide +kernel
theorem dX2_ask_0 : decode cX2_ask 0 = .ok (.aload_n 0, 1) := by decide +kernel
theorem dX2_ask_1 : decode cX2_ask 1 = .ok (.getfield 78, 3) := by decide +kernel
theorem dX2_ask_4 : decode cX2_ask 4 = .ok (.sipush 30000, 3) := by decide +kernel
theorem dX2_ask_7 : decode cX2_ask 7 = .ok (.isub, 1) := by decide +kernel
theorem dX2_ask_8 : decode cX2_ask 8 = .ok (.istore_n 1, 1) := by decide +kernel
theorem dX2_ask_9 : decode cX2_ask 9 = .ok (.aload_n 0, 1) := by decide +kernel
theorem dX2_ask_10 : decode cX2_ask 10 = .ok (.getfield 35, 3) := by decide +kernel
theorem dX2_ask_13 : decode cX2_ask 13 = .ok (.aload_n 0, 1) := by decide +kernel
theorem dX2_ask_14 : decode cX2_ask 14 = .ok (.getfield 78, 3) := by decide +kernel
theorem dX2_ask_17 : decode cX2_ask 17 = .ok (.invokevirtual 404, 3) := by decide +kernel
theorem dX2_ask_20 : decode cX2_ask 20 = .ok (.ifCond .eq 17, 3) := by decide +kernel
theorem dX2_ask_23 : decode cX2_ask 23 = .ok (.aload_n 0, 1) := by decide +kernel
theorem dX2_ask_24 : decode cX2_ask 24 = .ok (.getfield 35, 3) := by decide +kernel
theorem dX2_ask_27 : decode cX2_ask 27 = .ok (.getfield 362, 3) := by decide +kernel
theorem dX2_ask_30 : decode cX2_ask 30 = .ok (.iload_n 1, 1) := by decide +kernel
theorem dX2_ask_31 : decode cX2_ask 31 = .ok (.invokevirtual 119, 3) := by decide +kernel
theorem dX2_ask_34 : decode cX2_ask 34 = .ok (.goto 4, 3) := by decide +kernel
theorem dX2_ask_37 : decode cX2_ask 37 = .ok (.iconst 2, 1) := by decide +kernel
theorem dX2_ask_38 : decode cX2_ask 38 = .ok (.istore_n 2, 1) := by decide +kernel
theorem dX2_ask_39 : decode cX2_ask 39 = .ok (.iload_n 2, 1) := by decide +kernel
theorem dX2_ask_40 : decode cX2_ask 40 = .ok (.iconst 2, 1) := by decide +kernel
theorem dX2_ask_41 : decode cX2_ask 41 = .ok (.if_icmp .eq 8, 3) := by decide +kernel
theorem dX2_ask_44 : decode cX2_ask 44 = .ok (.iload_n 2, 1) := by decide +kernel
theorem dX2_ask_45 : decode cX2_ask 45 = .ok (.iconst 3, 1) := by decide +kernel
theorem dX2_ask_46 : decode cX2_ask 46 = .ok (.if_icmp .ne 12, 3) := by decide +kernel
theorem dX2_ask_49 : decode cX2_ask 49 = .ok (.aload_n 0, 1) := by decide +kernel
theorem dX2_ask_50 : decode cX2_ask 50 = .ok (.bipush (-3), 2) := by decide +kernel
theorem dX2_ask_52 : decode cX2_ask 52 = .ok (.invokevirtual 176, 3) := by decide +kernel
theorem dX2_ask_55 : decode cX2_ask 55 = .ok (.goto 64, 3) := by decide +kernel
theorem dX2_ask_58 : decode cX2_ask 58 = .ok (.iload_n 2, 1) := by decide +kernel
theorem dX2_ask_59 : decode cX2_ask 59 = .ok (.iconst 4, 1) := by decide +kernel
theorem dX2_ask_60 : decode cX2_ask 60 = .ok (.if_icmp .ne 11, 3) := by decide +kernel
theorem dX2_ask_63 : decode cX2_ask 63 = .ok (.aload_n 0, 1) := by decide +kernel
theorem dX2_ask_64 : decode cX2_ask 64 = .ok (.iconst (-1), 1) := by decide +kernel
theorem dX2_ask_65 : decode cX2_ask 65 = .ok (.putfield 78, 3) := by decide +kernel
theorem dX2_ask_68 : decode cX2_ask 68 = .ok (.goto 51, 3) := by decide +kernel
theorem dX2_ask_71 : decode cX2_ask 71 = .ok (.aload_n 0, 1) := by decide +kernel
theorem dX2_ask_72 : decode cX2_ask 72 = .ok (.getfield 65, 3) := by decide +kernel
theorem dX2_ask_75 : decode cX2_ask 75 = .ok (.bipush 12, 2) := by decide +kernel
theorem dX2_ask_77 : decode cX2_ask 77 = .ok (.if_icmp .lt 12, 3) := by decide +kernel
theorem dX2_ask_80 : decode cX2_ask 80 = .ok (.aload_n 0, 1) := by decide +kernel
theorem dX2_ask_81 : decode cX2_ask 81 = .ok (.bipush (-5), 2) := by decide +kernel
theorem dX2_ask_83 : decode cX2_ask 83 = .ok (.invokevirtual 176, 3) := by decide +kernel
theorem dX2_ask_86 : decode cX2_ask 86 = .ok (.goto 33, 3) := by decide +kernel
theorem dX2_ask_89 : decode cX2_ask 89 = .ok (.aload_n 0, 1) := by decide +kernel
theorem dX2_ask_90 : decode cX2_ask 90 = .ok (.getfield 35, 3) := by decide +kernel
theorem dX2_ask_93 : decode cX2_ask 93 = .ok (.getfield 362, 3) := by decide +kernel
theorem dX2_ask_96 : decode cX2_ask 96 = .ok (.iload_n 1, 1) := by decide +kernel
theorem dX2_ask_97 : decode cX2_ask 97 = .ok (.iconst 2, 1) := by decide +kernel
theorem dX2_ask_98 : decode cX2_ask 98 = .ok (.invokevirtual 142, 3) := by decide +kernel
theorem dX2_ask_101 : decode cX2_ask 101 = .ok (.iload_n 2, 1) := by decide +kernel
theorem dX2_ask_102 : decode cX2_ask 102 = .ok (.iconst 1, 1) := by decide +kernel
theorem dX2_ask_103 : decode cX2_ask 103 = .ok (.if_icmp .ne 11, 3) := by decide +kernel
theorem dX2_ask_106 : decode cX2_ask 106 = .ok (.aload_n 0, 1) := by decide +kernel
theorem dX2_ask_107 : decode cX2_ask 107 = .ok (.iload_n 1, 1) := by decide +kernel
theorem dX2_ask_108 : decode cX2_ask 108 = .ok (.invokevirtual 407, 3) := by decide +kernel
theorem dX2_ask_111 : decode cX2_ask 111 = .ok (.goto 8, 3) := by decide +kernel
theorem dX2_ask_114 : decode cX2_ask 114 = .ok (.aload_n 0, 1) := by decide +kernel
theorem dX2_ask_115 : decode cX2_ask 115 = .ok (.iload_n 1, 1) := by decide +kernel
theorem dX2_ask_116 : decode cX2_ask 116 = .ok (.invokevirtual 410, 3) := by decide +kernel
theorem dX2_ask_119 : decode cX2_ask 119 = .ok (.return_, 1) := by decide +kernel
theorem dX2_askFirst_0 : decode cX2_askFirst 0 = .ok (.aload_n 0, 1) := by decide +kernel
theorem dX2_askFirst_1 : decode cX2_askFirst 1 = .ok (.getfield 35, 3) := by decide +kernel
theorem dX2_askFirst_4 : decode cX2_askFirst 4 = .ok (.iload_n 1, 1) := by decide +kernel
theorem dX2_askFirst_5 : decode cX2_askFirst 5 = .ok (.invokevirtual 413, 3) := by decide +kernel
theorem dX2_askFirst_8 : decode cX2_askFirst 8 = .ok (.istore_n 2, 1) := by decide +kernel
theorem dX2_askFirst_9 : decode cX2_askFirst 9 = .ok (.aload_n 0, 1) := by decide +kernel
theorem dX2_askFirst_10 : decode cX2_askFirst 10 = .ok (.invokevirtual 401, 3) := by decide +kernel
theorem dX2_askFirst_13 : decode cX2_askFirst 13 = .ok (.aload_n 0, 1) := by decide +kernel
theorem dX2_askFirst_14 : decode cX2_askFirst 14 = .ok (.aload_n 0, 1) := by decide +kernel
theorem dX2_askFirst_15 : decode cX2_askFirst 15 = .ok (.getfield 39, 3) := by decide +kernel
theorem dX2_askFirst_18 : decode cX2_askFirst 18 = .ok (.getfield 380, 3) := by decide +kernel
theorem dX2_askFirst_21 : decode cX2_askFirst 21 = .ok (.aload_n 0, 1) := by decide +kernel
theorem dX2_askFirst_22 : decode cX2_askFirst 22 = .ok (.getfield 21, 3) := by decide +kernel
theorem dX2_askFirst_25 : decode cX2_askFirst 25 = .ok (.getfield 167, 3) := by decide +kernel
theorem dX2_askFirst_28 : decode cX2_askFirst 28 = .ok (.iload_n 2, 1) := by decide +kernel
theorem dX2_askFirst_29 : decode cX2_askFirst 29 = .ok (.invokevirtual 119, 3) := by decide +kernel
theorem dX2_askFirst_32 : decode cX2_askFirst 32 = .ok (.invokevirtual 119, 3) := by decide +kernel
theorem dX2_askFirst_35 : decode cX2_askFirst 35 = .ok (.aload_n 0, 1) := by decide +kernel
theorem dX2_askFirst_36 : decode cX2_askFirst 36 = .ok (.getfield 28, 3) := by decide +kernel
theorem dX2_askFirst_39 : decode cX2_askFirst 39 = .ok (.aload_n 0, 1) := by decide +kernel
theorem dX2_askFirst_40 : decode cX2_askFirst 40 = .ok (.getfield 21, 3) := by decide +kernel
theorem dX2_askFirst_43 : decode cX2_askFirst 43 = .ok (.getfield 170, 3) := by decide +kernel
theorem dX2_askFirst_46 : decode cX2_askFirst 46 = .ok (.iload_n 2, 1) := by decide +kernel
theorem dX2_askFirst_47 : decode cX2_askFirst 47 = .ok (.invokevirtual 119, 3) := by decide +kernel
theorem dX2_askFirst_50 : decode cX2_askFirst 50 = .ok (.invokevirtual 97, 3) := by decide +kernel
theorem dX2_askFirst_53 : decode cX2_askFirst 53 = .ok (.iconst 4, 1) := by decide +kernel
theorem dX2_askFirst_54 : decode cX2_askFirst 54 = .ok (.iload_n 1, 1) := by decide +kernel
theorem dX2_askFirst_55 : decode cX2_askFirst 55 = .ok (.iadd, 1) := by decide +kernel
theorem dX2_askFirst_56 : decode cX2_askFirst 56 = .ok (.invokevirtual 101, 3) := by decide +kernel
theorem dX2_askFirst_59 : decode cX2_askFirst 59 = .ok (.aload_n 0, 1) := by decide +kernel
theorem dX2_askFirst_60 : decode cX2_askFirst 60 = .ok (.getfield 35, 3) := by decide +kernel
theorem dX2_askFirst_63 : decode cX2_askFirst 63 = .ok (.getfield 368, 3) := by decide +kernel
theorem dX2_askFirst_66 : decode cX2_askFirst 66 = .ok (.iload_n 1, 1) := by decide +kernel
theorem dX2_askFirst_67 : decode cX2_askFirst 67 = .ok (.aload_n 0, 1) := by decide +kernel
theorem dX2_askFirst_68 : decode cX2_askFirst 68 = .ok (.getfield 91, 3) := by decide +kernel
theorem dX2_askFirst_71 : decode cX2_askFirst 71 = .ok (.invokevirtual 142, 3) := by decide +kernel
theorem dX2_askFirst_74 : decode cX2_askFirst 74 = .ok (.return_, 1) := by decide +kernel
theorem dX2_goOn_0 : decode cX2_goOn 0 = .ok (.aload_n 0, 1) := by decide +kernel
theorem dX2_goOn_1 : decode cX2_goOn 1 = .ok (.invokevirtual 401, 3) := by decide +kernel
theorem dX2_goOn_4 : decode cX2_goOn 4 = .ok (.aload_n 0, 1) := by decide +kernel
theorem dX2_goOn_5 : decode cX2_goOn 5 = .ok (.getfield 21, 3) := by decide +kernel
theorem dX2_goOn_8 : decode cX2_goOn 8 = .ok (.getfield 200, 3) := by decide +kernel
theorem dX2_goOn_11 : decode cX2_goOn 11 = .ok (.aload_n 0, 1) := by decide +kernel
theorem dX2_goOn_12 : decode cX2_goOn 12 = .ok (.getfield 35, 3) := by decide +kernel
theorem dX2_goOn_15 : decode cX2_goOn 15 = .ok (.getfield 368, 3) := by decide +kernel
theorem dX2_goOn_18 : decode cX2_goOn 18 = .ok (.iload_n 1, 1) := by decide +kernel
theorem dX2_goOn_19 : decode cX2_goOn 19 = .ok (.invokevirtual 119, 3) := by decide +kernel
theorem dX2_goOn_22 : decode cX2_goOn 22 = .ok (.aload_n 0, 1) := by decide +kernel
theorem dX2_goOn_23 : decode cX2_goOn 23 = .ok (.getfield 91, 3) := by decide +kernel
theorem dX2_goOn_26 : decode cX2_goOn 26 = .ok (.invokevirtual 142, 3) := by decide +kernel
theorem dX2_goOn_29 : decode cX2_goOn 29 = .ok (.aload_n 0, 1) := by decide +kernel
theorem dX2_goOn_30 : decode cX2_goOn 30 = .ok (.aload_n 0, 1) := by decide +kernel
theorem dX2_goOn_31 : decode cX2_goOn 31 = .ok (.getfield 35, 3) := by decide +kernel
theorem dX2_goOn_34 : decode cX2_goOn 34 = .ok (.getfield 371, 3) := by decide +kernel
theorem dX2_goOn_37 : decode cX2_goOn 37 = .ok (.iload_n 1, 1) := by decide +kernel
theorem dX2_goOn_38 : decode cX2_goOn 38 = .ok (.invokevirtual 119, 3) := by decide +kernel
theorem dX2_goOn_41 : decode cX2_goOn 41 = .ok (.putfield 91, 3) := by decide +kernel
theorem dX2_goOn_44 : decode cX2_goOn 44 = .ok (.return_, 1) := by decide +kernel
theorem dX2_rest_0 : decode cX2_rest 0 = .ok (.aload_n 0, 1) := by decide +kernel
theorem dX2_rest_1 : decode cX2_rest 1 = .ok (.getfield 21, 3) := by decide +kernel
theorem dX2_rest_4 : decode cX2_rest 4 = .ok (.aload_n 0, 1) := by decide +kernel
theorem dX2_rest_5 : decode cX2_rest 5 = .ok (.getfield 91, 3) := by decide +kernel
theorem dX2_rest_8 : decode cX2_rest 8 = .ok (.invokevirtual 383, 3) := by decide +kernel
theorem dX2_rest_11 : decode cX2_rest 11 = .ok (.istore_n 1, 1) := by decide +kernel
theorem dX2_rest_12 : decode cX2_rest 12 = .ok (.aload_n 0, 1) := by decide +kernel
theorem dX2_rest_13 : decode cX2_rest 13 = .ok (.getfield 21, 3) := by decide +kernel
theorem dX2_rest_16 : decode cX2_rest 16 = .ok (.getfield 203, 3) := by decide +kernel
theorem dX2_rest_19 : decode cX2_rest 19 = .ok (.iload_n 1, 1) := by decide +kernel
theorem dX2_rest_20 : decode cX2_rest 20 = .ok (.invokevirtual 119, 3) := by decide +kernel
theorem dX2_rest_23 : decode cX2_rest 23 = .ok (.iconst 4, 1) := by decide +kernel
theorem dX2_rest_24 : decode cX2_rest 24 = .ok (.isub, 1) := by decide +kernel
theorem dX2_rest_25 : decode cX2_rest 25 = .ok (.istore_n 2, 1) := by decide +kernel
theorem dX2_rest_26 : decode cX2_rest 26 = .ok (.iload_n 2, 1) := by decide +kernel
theorem dX2_rest_27 : decode cX2_rest 27 = .ok (.ifCond .lt 25, 3) := by decide +kernel
theorem dX2_rest_30 : decode cX2_rest 30 = .ok (.aload_n 0, 1) := by decide +kernel
theorem dX2_rest_31 : decode cX2_rest 31 = .ok (.getfield 35, 3) := by decide +kernel
theorem dX2_rest_34 : decode cX2_rest 34 = .ok (.getfield 362, 3) := by decide +kernel
theorem dX2_rest_37 : decode cX2_rest 37 = .ok (.iload_n 2, 1) := by decide +kernel
theorem dX2_rest_38 : decode cX2_rest 38 = .ok (.invokevirtual 119, 3) := by decide +kernel
theorem dX2_rest_41 : decode cX2_rest 41 = .ok (.iconst 2, 1) := by decide +kernel
theorem dX2_rest_42 : decode cX2_rest 42 = .ok (.if_icmp .ne 10, 3) := by decide +kernel
theorem dX2_rest_45 : decode cX2_rest 45 = .ok (.aload_n 0, 1) := by decide +kernel
theorem dX2_rest_46 : decode cX2_rest 46 = .ok (.invokevirtual 416, 3) := by decide +kernel
theorem dX2_rest_49 : decode cX2_rest 49 = .ok (.ifCond .eq 10, 3) := by decide +kernel
theorem dX2_rest_52 : decode cX2_rest 52 = .ok (.aload_n 0, 1) := by decide +kernel
theorem dX2_rest_53 : decode cX2_rest 53 = .ok (.bipush (-6), 2) := by decide +kernel
theorem dX2_rest_55 : decode cX2_rest 55 = .ok (.invokevirtual 176, 3) := by decide +kernel
theorem dX2_rest_58 : decode cX2_rest 58 = .ok (.return_, 1) := by decide +kernel
theorem dX2_rest_59 : decode cX2_rest 59 = .ok (.aload_n 0, 1) := by decide +kernel
theorem dX2_rest_60 : decode cX2_rest 60 = .ok (.getfield 21, 3) := by decide +kernel
theorem dX2_rest_63 : decode cX2_rest 63 = .ok (.getfield 200, 3) := by decide +kernel
theorem dX2_rest_66 : decode cX2_rest 66 = .ok (.iload_n 1, 1) := by decide +kernel
theorem dX2_rest_67 : decode cX2_rest 67 = .ok (.invokevirtual 119, 3) := by decide +kernel
theorem dX2_rest_70 : decode cX2_rest 70 = .ok (.istore_n 3, 1) := by decide +kernel
theorem dX2_rest_71 : decode cX2_rest 71 = .ok (.aload_n 0, 1) := by decide +kernel
theorem dX2_rest_72 : decode cX2_rest 72 = .ok (.getfield 35, 3) := by decide +kernel
theorem dX2_rest_75 : decode cX2_rest 75 = .ok (.getfield 362, 3) := by decide +kernel
theorem dX2_rest_78 : decode cX2_rest 78 = .ok (.iload_n 2, 1) := by decide +kernel
theorem dX2_rest_79 : decode cX2_rest 79 = .ok (.iconst 1, 1) := by decide +kernel
theorem dX2_rest_80 : decode cX2_rest 80 = .ok (.invokevirtual 142, 3) := by decide +kernel
theorem dX2_rest_83 : decode cX2_rest 83 = .ok (.aload_n 0, 1) := by decide +kernel
theorem dX2_rest_84 : decode cX2_rest 84 = .ok (.getfield 35, 3) := by decide +kernel
theorem dX2_rest_87 : decode cX2_rest 87 = .ok (.getfield 371, 3) := by decide +kernel
theorem dX2_rest_90 : decode cX2_rest 90 = .ok (.iload_n 2, 1) := by decide +kernel
theorem dX2_rest_91 : decode cX2_rest 91 = .ok (.aload_n 0, 1) := by decide +kernel
theorem dX2_rest_92 : decode cX2_rest 92 = .ok (.getfield 91, 3) := by decide +kernel
theorem dX2_rest_95 : decode cX2_rest 95 = .ok (.invokevirtual 142, 3) := by decide +kernel
theorem dX2_rest_98 : decode cX2_rest 98 = .ok (.aload_n 0, 1) := by decide +kernel
theorem dX2_rest_99 : decode cX2_rest 99 = .ok (.iload_n 3, 1) := by decide +kernel
theorem dX2_rest_100 : decode cX2_rest 100 = .ok (.invokevirtual 350, 3) := by decide +kernel
theorem dX2_rest_103 : decode cX2_rest 103 = .ok (.aload_n 0, 1) := by decide +kernel
theorem dX2_rest_104 : decode cX2_rest 104 = .ok (.iload_n 3, 1) := by decide +kernel
theorem dX2_rest_105 : decode cX2_rest 105 = .ok (.putfield 91, 3) := by decide +kernel
theorem dX2_rest_108 : decode cX2_rest 108 = .ok (.return_, 1) := by decide +kernel
theorem dX2_isBarred_0 : decode cX2_isBarred 0 = .ok (.aload_n 0, 1) := by decide +kernel
theorem dX2_isBarred_1 : decode cX2_isBarred 1 = .ok (.getfield 91, 3) := by decide +kernel
theorem dX2_isBarred_4 : decode cX2_isBarred 4 = .ok (.istore_n 1, 1) := by decide +kernel
theorem dX2_isBarred_5 : decode cX2_isBarred 5 = .ok (.iconst 0, 1) := by decide +kernel
theorem dX2_isBarred_6 : decode cX2_isBarred 6 = .ok (.istore_n 2, 1) := by decide +kernel
theorem dX2_isBarred_7 : decode cX2_isBarred 7 = .ok (.iload_n 2, 1) := by decide +kernel
theorem dX2_isBarred_8 : decode cX2_isBarred 8 = .ok (.sipush 601, 3) := by decide +kernel
theorem dX2_isBarred_11 : decode cX2_isBarred 11 = .ok (.if_icmp .ge 95, 3) := by decide +kernel
theorem dX2_isBarred_14 : decode cX2_isBarred 14 = .ok (.iload_n 1, 1) := by decide +kernel
theorem dX2_isBarred_15 : decode cX2_isBarred 15 = .ok (.iconst (-1), 1) := by decide +kernel
theorem dX2_isBarred_16 : decode cX2_isBarred 16 = .ok (.if_icmp .eq 90, 3) := by decide +kernel
theorem dX2_isBarred_19 : decode cX2_isBarred 19 = .ok (.aload_n 0, 1) := by decide +kernel
theorem dX2_isBarred_20 : decode cX2_isBarred 20 = .ok (.getfield 39, 3) := by decide +kernel
theorem dX2_isBarred_23 : decode cX2_isBarred 23 = .ok (.getfield 377, 3) := by decide +kernel
theorem dX2_isBarred_26 : decode cX2_isBarred 26 = .ok (.aload_n 0, 1) := by decide +kernel
theorem dX2_isBarred_27 : decode cX2_isBarred 27 = .ok (.getfield 21, 3) := by decide +kernel
theorem dX2_isBarred_30 : decode cX2_isBarred 30 = .ok (.getfield 167, 3) := by decide +kernel
theorem dX2_isBarred_33 : decode cX2_isBarred 33 = .ok (.iload_n 1, 1) := by decide +kernel
theorem dX2_isBarred_34 : decode cX2_isBarred 34 = .ok (.invokevirtual 119, 3) := by decide +kernel
theorem dX2_isBarred_37 : decode cX2_isBarred 37 = .ok (.invokevirtual 119, 3) := by decide +kernel
theorem dX2_isBarred_40 : decode cX2_isBarred 40 = .ok (.istore_n 3, 1) := by decide +kernel
theorem dX2_isBarred_41 : decode cX2_isBarred 41 = .ok (.iload_n 3, 1) := by decide +kernel
theorem dX2_isBarred_42 : decode cX2_isBarred 42 = .ok (.bipush 36, 2) := by decide +kernel
theorem dX2_isBarred_44 : decode cX2_isBarred 44 = .ok (.if_icmp .eq 24, 3) := by decide +kernel
theorem dX2_isBarred_47 : decode cX2_isBarred 47 = .ok (.iload_n 3, 1) := by decide +kernel
theorem dX2_isBarred_48 : decode cX2_isBarred 48 = .ok (.bipush 26, 2) := by decide +kernel
theorem dX2_isBarred_50 : decode cX2_isBarred 50 = .ok (.if_icmp .ne 20, 3) := by decide +kernel
theorem dX2_isBarred_53 : decode cX2_isBarred 53 = .ok (.aload_n 0, 1) := by decide +kernel
theorem dX2_isBarred_54 : decode cX2_isBarred 54 = .ok (.getfield 21, 3) := by decide +kernel
theorem dX2_isBarred_57 : decode cX2_isBarred 57 = .ok (.getfield 212, 3) := by decide +kernel
theorem dX2_isBarred_60 : decode cX2_isBarred 60 = .ok (.iload_n 1, 1) := by decide +kernel
theorem dX2_isBarred_61 : decode cX2_isBarred 61 = .ok (.invokevirtual 119, 3) := by decide +kernel
theorem dX2_isBarred_64 : decode cX2_isBarred 64 = .ok (.iconst 1, 1) := by decide +kernel
theorem dX2_isBarred_65 : decode cX2_isBarred 65 = .ok (.if_icmp .ne 5, 3) := by decide +kernel
theorem dX2_isBarred_68 : decode cX2_isBarred 68 = .ok (.iconst 1, 1) := by decide +kernel
theorem dX2_isBarred_69 : decode cX2_isBarred 69 = .ok (.ireturn, 1) := by decide +kernel
theorem dX2_isBarred_70 : decode cX2_isBarred 70 = .ok (.aload_n 0, 1) := by decide +kernel
theorem dX2_isBarred_71 : decode cX2_isBarred 71 = .ok (.getfield 21, 3) := by decide +kernel
theorem dX2_isBarred_74 : decode cX2_isBarred 74 = .ok (.getfield 203, 3) := by decide +kernel
theorem dX2_isBarred_77 : decode cX2_isBarred 77 = .ok (.iload_n 1, 1) := by decide +kernel
theorem dX2_isBarred_78 : decode cX2_isBarred 78 = .ok (.invokevirtual 119, 3) := by decide +kernel
theorem dX2_isBarred_81 : decode cX2_isBarred 81 = .ok (.ifCond .ne 17, 3) := by decide +kernel
theorem dX2_isBarred_84 : decode cX2_isBarred 84 = .ok (.aload_n 0, 1) := by decide +kernel
theorem dX2_isBarred_85 : decode cX2_isBarred 85 = .ok (.getfield 21, 3) := by decide +kernel
theorem dX2_isBarred_88 : decode cX2_isBarred 88 = .ok (.getfield 200, 3) := by decide +kernel
theorem dX2_isBarred_91 : decode cX2_isBarred 91 = .ok (.iload_n 1, 1) := by decide +kernel
theorem dX2_isBarred_92 : decode cX2_isBarred 92 = .ok (.invokevirtual 119, 3) := by decide +kernel
theorem dX2_isBarred_95 : decode cX2_isBarred 95 = .ok (.goto 4, 3) := by decide +kernel
theorem dX2_isBarred_98 : decode cX2_isBarred 98 = .ok (.iconst (-1), 1) := by decide +kernel
theorem dX2_isBarred_99 : decode cX2_isBarred 99 = .ok (.istore_n 1, 1) := by decide +kernel
theorem dX2_isBarred_100 : decode cX2_isBarred 100 = .ok (.iinc 2 1, 3) := by decide +kernel
theorem dX2_isBarred_103 : decode cX2_isBarred 103 = .ok (.goto (-96), 3) := by decide +kernel
theorem dX2_isBarred_106 : decode cX2_isBarred 106 = .ok (.iconst 0, 1) := by decide +kernel
theorem dX2_isBarred_107 : decode cX2_isBarred 107 = .ok (.ireturn, 1) := by decide +kernel
theorem dX2_stay_0 : decode cX2_stay 0 = .ok (.aload_n 0, 1) := by decide +kernel
theorem dX2_stay_1 : decode cX2_stay 1 = .ok (.getfield 78, 3) := by decide +kernel
theorem dX2_stay_4 : decode cX2_stay 4 = .ok (.invokestatic 265, 3) := by decide +kernel
theorem dX2_stay_7 : decode cX2_stay 7 = .ok (.ifCond .eq 21, 3) := by decide +kernel
theorem dX2_stay_10 : decode cX2_stay 10 = .ok (.aload_n 0, 1) := by decide +kernel
theorem dX2_stay_11 : decode cX2_stay 11 = .ok (.getfield 43, 3) := by decide +kernel
theorem dX2_stay_14 : decode cX2_stay 14 = .ok (.getfield 420, 3) := by decide +kernel
theorem dX2_stay_17 : decode cX2_stay 17 = .ok (.iload_n 1, 1) := by decide +kernel
theorem dX2_stay_18 : decode cX2_stay 18 = .ok (.aload_n 0, 1) := by decide +kernel
theorem dX2_stay_19 : decode cX2_stay 19 = .ok (.getfield 78, 3) := by decide +kernel
theorem dX2_stay_22 : decode cX2_stay 22 = .ok (.invokevirtual 142, 3) := by decide +kernel
theorem dX2_stay_25 : decode cX2_stay 25 = .ok (.goto 9, 3) := by decide +kernel
theorem dX2_stay_28 : decode cX2_stay 28 = .ok (.aload_n 0, 1) := by decide +kernel
theorem dX2_stay_29 : decode cX2_stay 29 = .ok (.bipush (-3), 2) := by decide +kernel
theorem dX2_stay_31 : decode cX2_stay 31 = .ok (.invokevirtual 176, 3) := by decide +kernel
theorem dX2_stay_34 : decode cX2_stay 34 = .ok (.return_, 1) := by decide +kernel
theorem dX2_insert_0 : decode cX2_insert 0 = .ok (.aload_n 0, 1) := by decide +kernel
theorem dX2_insert_1 : decode cX2_insert 1 = .ok (.getfield 78, 3) := by decide +kernel
theorem dX2_insert_4 : decode cX2_insert 4 = .ok (.invokestatic 265, 3) := by decide +kernel
theorem dX2_insert_7 : decode cX2_insert 7 = .ok (.ifCond .ne 10, 3) := by decide +kernel
theorem dX2_insert_10 : decode cX2_insert 10 = .ok (.aload_n 0, 1) := by decide +kernel
theorem dX2_insert_11 : decode cX2_insert 11 = .ok (.bipush (-3), 2) := by decide +kernel
theorem dX2_insert_13 : decode cX2_insert 13 = .ok (.invokevirtual 176, 3) := by decide +kernel
theorem dX2_insert_16 : decode cX2_insert 16 = .ok (.return_, 1) := by decide +kernel
theorem dX2_insert_17 : decode cX2_insert 17 = .ok (.aload_n 0, 1) := by decide +kernel
theorem dX2_insert_18 : decode cX2_insert 18 = .ok (.getfield 78, 3) := by decide +kernel
theorem dX2_insert_21 : decode cX2_insert 21 = .ok (.bipush 26, 2) := by decide +kernel
theorem dX2_insert_23 : decode cX2_insert 23 = .ok (.invokestatic 423, 3) := by decide +kernel
theorem dX2_insert_26 : decode cX2_insert 26 = .ok (.ifCond .eq 12, 3) := by decide +kernel
theorem dX2_insert_29 : decode cX2_insert 29 = .ok (.aload_n 1, 1) := by decide +kernel
theorem dX2_insert_30 : decode cX2_insert 30 = .ok (.getfield 328, 3) := by decide +kernel
theorem dX2_insert_33 : decode cX2_insert 33 = .ok (.bipush 40, 2) := by decide +kernel
theorem dX2_insert_35 : decode cX2_insert 35 = .ok (.if_icmp .lt 10, 3) := by decide +kernel
theorem dX2_insert_38 : decode cX2_insert 38 = .ok (.aload_n 0, 1) := by decide +kernel
theorem dX2_insert_39 : decode cX2_insert 39 = .ok (.bipush (-4), 2) := by decide +kernel
theorem dX2_insert_41 : decode cX2_insert 41 = .ok (.invokevirtual 176, 3) := by decide +kernel
theorem dX2_insert_44 : decode cX2_insert 44 = .ok (.return_, 1) := by decide +kernel
theorem dX2_insert_45 : decode cX2_insert 45 = .ok (.aload_n 1, 1) := by decide +kernel
theorem dX2_insert_46 : decode cX2_insert 46 = .ok (.aload_n 0, 1) := by decide +kernel
theorem dX2_insert_47 : decode cX2_insert 47 = .ok (.getfield 78, 3) := by decide +kernel
theorem dX2_insert_50 : decode cX2_insert 50 = .ok (.invokevirtual 427, 3) := by decide +kernel
theorem dX2_insert_53 : decode cX2_insert 53 = .ok (.aload_n 0, 1) := by decide +kernel
theorem dX2_insert_54 : decode cX2_insert 54 = .ok (.getfield 43, 3) := by decide +kernel
theorem dX2_insert_57 : decode cX2_insert 57 = .ok (.getfield 347, 3) := by decide +kernel
theorem dX2_insert_60 : decode cX2_insert 60 = .ok (.iconst (-1), 1) := by decide +kernel
theorem dX2_insert_61 : decode cX2_insert 61 = .ok (.if_icmp .eq 10, 3) := by decide +kernel
theorem dX2_insert_64 : decode cX2_insert 64 = .ok (.aload_n 0, 1) := by decide +kernel
theorem dX2_insert_65 : decode cX2_insert 65 = .ok (.getfield 71, 3) := by decide +kernel
theorem dX2_insert_68 : decode cX2_insert 68 = .ok (.ifCond .eq 9, 3) := by decide +kernel
theorem dX2_insert_71 : decode cX2_insert 71 = .ok (.aload_n 0, 1) := by decide +kernel
theorem dX2_insert_72 : decode cX2_insert 72 = .ok (.iconst 0, 1) := by decide +kernel
theorem dX2_insert_73 : decode cX2_insert 73 = .ok (.invokevirtual 221, 3) := by decide +kernel
theorem dX2_insert_76 : decode cX2_insert 76 = .ok (.return_, 1) := by decide +kernel
theorem dX2_insert_77 : decode cX2_insert 77 = .ok (.aload_n 0, 1) := by decide +kernel
theorem dX2_insert_78 : decode cX2_insert 78 = .ok (.iconst 1, 1) := by decide +kernel
theorem dX2_insert_79 : decode cX2_insert 79 = .ok (.putfield 71, 3) := by decide +kernel
theorem dX2_insert_82 : decode cX2_insert 82 = .ok (.aload_n 0, 1) := by decide +kernel
theorem dX2_insert_83 : decode cX2_insert 83 = .ok (.getfield 21, 3) := by decide +kernel
theorem dX2_insert_86 : decode cX2_insert 86 = .ok (.getfield 218, 3) := by decide +kernel
theorem dX2_insert_89 : decode cX2_insert 89 = .ok (.aload_n 0, 1) := by decide +kernel
theorem dX2_insert_90 : decode cX2_insert 90 = .ok (.getfield 91, 3) := by decide +kernel
theorem dX2_insert_93 : decode cX2_insert 93 = .ok (.aload_n 0, 1) := by decide +kernel
theorem dX2_insert_94 : decode cX2_insert 94 = .ok (.getfield 78, 3) := by decide +kernel
theorem dX2_insert_97 : decode cX2_insert 97 = .ok (.invokevirtual 142, 3) := by decide +kernel
theorem dX2_insert_100 : decode cX2_insert 100 = .ok (.aload_n 0, 1) := by decide +kernel
theorem dX2_insert_101 : decode cX2_insert 101 = .ok (.getfield 21, 3) := by decide +kernel
theorem dX2_insert_104 : decode cX2_insert 104 = .ok (.getfield 209, 3) := by decide +kernel
theorem dX2_insert_107 : decode cX2_insert 107 = .ok (.aload_n 0, 1) := by decide +kernel
theorem dX2_insert_108 : decode cX2_insert 108 = .ok (.getfield 91, 3) := by decide +kernel
theorem dX2_insert_111 : decode cX2_insert 111 = .ok (.iload_n 2, 1) := by decide +kernel
theorem dX2_insert_112 : decode cX2_insert 112 = .ok (.invokevirtual 142, 3) := by decide +kernel
theorem dX2_insert_115 : decode cX2_insert 115 = .ok (.aload_n 0, 1) := by decide +kernel
theorem dX2_insert_116 : decode cX2_insert 116 = .ok (.aload_n 0, 1) := by decide +kernel
theorem dX2_insert_117 : decode cX2_insert 117 = .ok (.getfield 43, 3) := by decide +kernel
theorem dX2_insert_120 : decode cX2_insert 120 = .ok (.getfield 347, 3) := by decide +kernel
theorem dX2_insert_123 : decode cX2_insert 123 = .ok (.iconst 1, 1) := by decide +kernel
theorem dX2_insert_124 : decode cX2_insert 124 = .ok (.invokevirtual 292, 3) := by decide +kernel
theorem dX2_insert_127 : decode cX2_insert 127 = .ok (.return_, 1) := by decide +kernel
theorem dX2_move_0 : decode cX2_move 0 = .ok (.aload_n 0, 1) := by decide +kernel
theorem dX2_move_1 : decode cX2_move 1 = .ok (.getfield 78, 3) := by decide +kernel
theorem dX2_move_4 : decode cX2_move 4 = .ok (.invokestatic 265, 3) := by decide +kernel
theorem dX2_move_7 : decode cX2_move 7 = .ok (.ifCond .ne 12, 3) := by decide +kernel
theorem dX2_move_10 : decode cX2_move 10 = .ok (.aload_n 0, 1) := by decide +kernel
theorem dX2_move_11 : decode cX2_move 11 = .ok (.bipush (-3), 2) := by decide +kernel
theorem dX2_move_13 : decode cX2_move 13 = .ok (.invokevirtual 176, 3) := by decide +kernel
theorem dX2_move_16 : decode cX2_move 16 = .ok (.goto 38, 3) := by decide +kernel
theorem dX2_move_19 : decode cX2_move 19 = .ok (.aload_n 1, 1) := by decide +kernel
theorem dX2_move_20 : decode cX2_move 20 = .ok (.aload_n 0, 1) := by decide +kernel
theorem dX2_move_21 : decode cX2_move 21 = .ok (.getfield 78, 3) := by decide +kernel
theorem dX2_move_24 : decode cX2_move 24 = .ok (.invokevirtual 430, 3) := by decide +kernel
theorem dX2_move_27 : decode cX2_move 27 = .ok (.ifCond .ne 12, 3) := by decide +kernel
theorem dX2_move_30 : decode cX2_move 30 = .ok (.aload_n 0, 1) := by decide +kernel
theorem dX2_move_31 : decode cX2_move 31 = .ok (.bipush (-4), 2) := by decide +kernel
theorem dX2_move_33 : decode cX2_move 33 = .ok (.invokevirtual 176, 3) := by decide +kernel
theorem dX2_move_36 : decode cX2_move 36 = .ok (.goto 18, 3) := by decide +kernel
theorem dX2_move_39 : decode cX2_move 39 = .ok (.aload_n 1, 1) := by decide +kernel
theorem dX2_move_40 : decode cX2_move 40 = .ok (.getfield 433, 3) := by decide +kernel
theorem dX2_move_43 : decode cX2_move 43 = .ok (.aload_n 1, 1) := by decide +kernel
theorem dX2_move_44 : decode cX2_move 44 = .ok (.getfield 338, 3) := by decide +kernel
theorem dX2_move_47 : decode cX2_move 47 = .ok (.aload_n 0, 1) := by decide +kernel
theorem dX2_move_48 : decode cX2_move 48 = .ok (.getfield 78, 3) := by decide +kernel
theorem dX2_move_51 : decode cX2_move 51 = .ok (.invokevirtual 142, 3) := by decide +kernel
theorem dX2_move_54 : decode cX2_move 54 = .ok (.return_, 1) := by decide +kernel
theorem dX2_addCursor_0 : decode cX2_addCursor 0 = .ok (.aload_n 1, 1) := by decide +kernel
theorem dX2_addCursor_1 : decode cX2_addCursor 1 = .ok (.invokevirtual 434, 3) := by decide +kernel
theorem dX2_addCursor_4 : decode cX2_addCursor 4 = .ok (.istore_n 2, 1) := by decide +kernel
theorem dX2_addCursor_5 : decode cX2_addCursor 5 = .ok (.aload_n 0, 1) := by decide +kernel
theorem dX2_addCursor_6 : decode cX2_addCursor 6 = .ok (.getfield 78, 3) := by decide +kernel
theorem dX2_addCursor_9 : decode cX2_addCursor 9 = .ok (.invokestatic 265, 3) := by decide +kernel
theorem dX2_addCursor_12 : decode cX2_addCursor 12 = .ok (.ifCond .ne 12, 3) := by decide +kernel
theorem dX2_addCursor_15 : decode cX2_addCursor 15 = .ok (.aload_n 0, 1) := by decide +kernel
theorem dX2_addCursor_16 : decode cX2_addCursor 16 = .ok (.bipush (-3), 2) := by decide +kernel
theorem dX2_addCursor_18 : decode cX2_addCursor 18 = .ok (.invokevirtual 176, 3) := by decide +kernel
theorem dX2_addCursor_21 : decode cX2_addCursor 21 = .ok (.goto 45, 3) := by decide +kernel
theorem dX2_addCursor_24 : decode cX2_addCursor 24 = .ok (.aload_n 1, 1) := by decide +kernel
theorem dX2_addCursor_25 : decode cX2_addCursor 25 = .ok (.aload_n 0, 1) := by decide +kernel
theorem dX2_addCursor_26 : decode cX2_addCursor 26 = .ok (.getfield 78, 3) := by decide +kernel
theorem dX2_addCursor_29 : decode cX2_addCursor 29 = .ok (.invokevirtual 430, 3) := by decide +kernel
theorem dX2_addCursor_32 : decode cX2_addCursor 32 = .ok (.ifCond .eq 8, 3) := by decide +kernel
theorem dX2_addCursor_35 : decode cX2_addCursor 35 = .ok (.iload_n 2, 1) := by decide +kernel
theorem dX2_addCursor_36 : decode cX2_addCursor 36 = .ok (.iconst (-1), 1) := by decide +kernel
theorem dX2_addCursor_37 : decode cX2_addCursor 37 = .ok (.if_icmp .ne 12, 3) := by decide +kernel
theorem dX2_addCursor_40 : decode cX2_addCursor 40 = .ok (.aload_n 0, 1) := by decide +kernel
theorem dX2_addCursor_41 : decode cX2_addCursor 41 = .ok (.bipush (-4), 2) := by decide +kernel
theorem dX2_addCursor_43 : decode cX2_addCursor 43 = .ok (.invokevirtual 176, 3) := by decide +kernel
theorem dX2_addCursor_46 : decode cX2_addCursor 46 = .ok (.goto 20, 3) := by decide +kernel
theorem dX2_addCursor_49 : decode cX2_addCursor 49 = .ok (.aload_n 1, 1) := by decide +kernel
theorem dX2_addCursor_50 : decode cX2_addCursor 50 = .ok (.getfield 433, 3) := by decide +kernel
theorem dX2_addCursor_53 : decode cX2_addCursor 53 = .ok (.iload_n 2, 1) := by decide +kernel
theorem dX2_addCursor_54 : decode cX2_addCursor 54 = .ok (.aload_n 0, 1) := by decide +kernel
theorem dX2_addCursor_55 : decode cX2_addCursor 55 = .ok (.getfield 78, 3) := by decide +kernel
theorem dX2_addCursor_58 : decode cX2_addCursor 58 = .ok (.invokevirtual 142, 3) := by decide +kernel
theorem dX2_addCursor_61 : decode cX2_addCursor 61 = .ok (.aload_n 0, 1) := by decide +kernel
theorem dX2_addCursor_62 : decode cX2_addCursor 62 = .ok (.iload_n 2, 1) := by decide +kernel
theorem dX2_addCursor_63 : decode cX2_addCursor 63 = .ok (.putfield 78, 3) := by decide +kernel
theorem dX2_addCursor_66 : decode cX2_addCursor 66 = .ok (.return_, 1) := by decide +kernel
theorem dX2_choose_0 : decode cX2_choose 0 = .ok (.aload_n 0, 1) := by decide +kernel
theorem dX2_choose_1 : decode cX2_choose 1 = .ok (.getfield 78, 3) := by decide +kernel
theorem dX2_choose_4 : decode cX2_choose 4 = .ok (.invokestatic 265, 3) := by decide +kernel
theorem dX2_choose_7 : decode cX2_choose 7 = .ok (.ifCond .ne 12, 3) := by decide +kernel
theorem dX2_choose_10 : decode cX2_choose 10 = .ok (.aload_n 0, 1) := by decide +kernel
theorem dX2_choose_11 : decode cX2_choose 11 = .ok (.bipush (-3), 2) := by decide +kernel
theorem dX2_choose_13 : decode cX2_choose 13 = .ok (.invokevirtual 176, 3) := by decide +kernel
theorem dX2_choose_16 : decode cX2_choose 16 = .ok (.goto 34, 3) := by decide +kernel
theorem dX2_choose_19 : decode cX2_choose 19 = .ok (.aload_n 0, 1) := by decide +kernel
theorem dX2_choose_20 : decode cX2_choose 20 = .ok (.getfield 78, 3) := by decide +kernel
theorem dX2_choose_23 : decode cX2_choose 23 = .ok (.iconst 2, 1) := by decide +kernel
theorem dX2_choose_24 : decode cX2_choose 24 = .ok (.invokestatic 423, 3) := by decide +kernel
theorem dX2_choose_27 : decode cX2_choose 27 = .ok (.ifCond .ne 12, 3) := by decide +kernel
theorem dX2_choose_30 : decode cX2_choose 30 = .ok (.aload_n 0, 1) := by decide +kernel
theorem dX2_choose_31 : decode cX2_choose 31 = .ok (.bipush (-4), 2) := by decide +kernel
theorem dX2_choose_33 : decode cX2_choose 33 = .ok (.invokevirtual 176, 3) := by decide +kernel
theorem dX2_choose_36 : decode cX2_choose 36 = .ok (.goto 14, 3) := by decide +kernel
theorem dX2_choose_39 : decode cX2_choose 39 = .ok (.aload_n 0, 1) := by decide +kernel
theorem dX2_choose_40 : decode cX2_choose 40 = .ok (.getfield 43, 3) := by decide +kernel
theorem dX2_choose_43 : decode cX2_choose 43 = .ok (.aload_n 0, 1) := by decide +kernel
theorem dX2_choose_44 : decode cX2_choose 44 = .ok (.getfield 78, 3) := by decide +kernel
theorem dX2_choose_47 : decode cX2_choose 47 = .ok (.putfield 307, 3) := by decide +kernel
theorem dX2_choose_50 : decode cX2_choose 50 = .ok (.return_, 1) := by decide +kernel
theorem dX2_reload_0 : decode cX2_reload 0 = .ok (.aload_n 0, 1) := by decide +kernel
theorem dX2_reload_1 : decode cX2_reload 1 = .ok (.getfield 43, 3) := by decide +kernel
theorem dX2_reload_4 : decode cX2_reload 4 = .ok (.getfield 248, 3) := by decide +kernel
theorem dX2_reload_7 : decode cX2_reload 7 = .ok (.iload_n 1, 1) := by decide +kernel
theorem dX2_reload_8 : decode cX2_reload 8 = .ok (.invokevirtual 119, 3) := by decide +kernel
theorem dX2_reload_11 : decode cX2_reload 11 = .ok (.iconst (-1), 1) := by decide +kernel
theorem dX2_reload_12 : decode cX2_reload 12 = .ok (.if_icmp .ne 9, 3) := by decide +kernel
theorem dX2_reload_15 : decode cX2_reload 15 = .ok (.aload_n 0, 1) := by decide +kernel
theorem dX2_reload_16 : decode cX2_reload 16 = .ok (.iconst (-1), 1) := by decide +kernel
theorem dX2_reload_17 : decode cX2_reload 17 = .ok (.invokevirtual 176, 3) := by decide +kernel
theorem dX2_reload_20 : decode cX2_reload 20 = .ok (.return_, 1) := by decide +kernel
theorem dX2_reload_21 : decode cX2_reload 21 = .ok (.aload_n 0, 1) := by decide +kernel
theorem dX2_reload_22 : decode cX2_reload 22 = .ok (.getfield 43, 3) := by decide +kernel
theorem dX2_reload_25 : decode cX2_reload 25 = .ok (.getfield 248, 3) := by decide +kernel
theorem dX2_reload_28 : decode cX2_reload 28 = .ok (.iload_n 1, 1) := by decide +kernel
theorem dX2_reload_29 : decode cX2_reload 29 = .ok (.aload_n 0, 1) := by decide +kernel
theorem dX2_reload_30 : decode cX2_reload 30 = .ok (.getfield 78, 3) := by decide +kernel
theorem dX2_reload_33 : decode cX2_reload 33 = .ok (.invokevirtual 142, 3) := by decide +kernel
theorem dX2_reload_36 : decode cX2_reload 36 = .ok (.aload_n 0, 1) := by decide +kernel
theorem dX2_reload_37 : decode cX2_reload 37 = .ok (.iconst 0, 1) := by decide +kernel
theorem dX2_reload_38 : decode cX2_reload 38 = .ok (.putfield 78, 3) := by decide +kernel
theorem dX2_reload_41 : decode cX2_reload 41 = .ok (.return_, 1) := by decide +kernel
theorem dX2_chooseNextCursor_0 : decode cX2_chooseNextCursor 0 = .ok (.aload_n 0, 1) := by decide +kernel
theorem dX2_chooseNextCursor_1 : decode cX2_chooseNextCursor 1 = .ok (.getfield 21, 3) := by decide +kernel
theorem dX2_chooseNextCursor_4 : decode cX2_chooseNextCursor 4 = .ok (.getfield 249, 3) := by decide +kernel
theorem dX2_chooseNextCursor_7 : decode cX2_chooseNextCursor 7 = .ok (.aload_n 0, 1) := by decide +kernel
theorem dX2_chooseNextCursor_8 : decode cX2_chooseNextCursor 8 = .ok (.getfield 91, 3) := by decide +kernel
theorem dX2_chooseNextCursor_11 : decode cX2_chooseNextCursor 11 = .ok (.invokevirtual 119, 3) := by decide +kernel
theorem dX2_chooseNextCursor_14 : decode cX2_chooseNextCursor 14 = .ok (.istore_n 2, 1) := by decide +kernel
theorem dX2_chooseNextCursor_15 : decode cX2_chooseNextCursor 15 = .ok (.aload_n 0, 1) := by decide +kernel
theorem dX2_chooseNextCursor_16 : decode cX2_chooseNextCursor 16 = .ok (.getfield 43, 3) := by decide +kernel
theorem dX2_chooseNextCursor_19 : decode cX2_chooseNextCursor 19 = .ok (.iload_n 2, 1) := by decide +kernel
theorem dX2_chooseNextCursor_20 : decode cX2_chooseNextCursor 20 = .ok (.iconst 2, 1) := by decide +kernel
theorem dX2_chooseNextCursor_21 : decode cX2_chooseNextCursor 21 = .ok (.irem, 1) := by decide +kernel
theorem dX2_chooseNextCursor_22 : decode cX2_chooseNextCursor 22 = .ok (.invokevirtual 308, 3) := by decide +kernel
theorem dX2_chooseNextCursor_25 : decode cX2_chooseNextCursor 25 = .ok (.astore_n 3, 1) := by decide +kernel
theorem dX2_chooseNextCursor_26 : decode cX2_chooseNextCursor 26 = .ok (.aload_n 0, 1) := by decide +kernel
theorem dX2_chooseNextCursor_27 : decode cX2_chooseNextCursor 27 = .ok (.getfield 21, 3) := by decide +kernel
theorem dX2_chooseNextCursor_30 : decode cX2_chooseNextCursor 30 = .ok (.getfield 218, 3) := by decide +kernel
theorem dX2_chooseNextCursor_33 : decode cX2_chooseNextCursor 33 = .ok (.aload_n 0, 1) := by decide +kernel
theorem dX2_chooseNextCursor_34 : decode cX2_chooseNextCursor 34 = .ok (.getfield 91, 3) := by decide +kernel
theorem dX2_chooseNextCursor_37 : decode cX2_chooseNextCursor 37 = .ok (.invokevirtual 119, 3) := by decide +kernel
theorem dX2_chooseNextCursor_40 : decode cX2_chooseNextCursor 40 = .ok (.istore 4, 2) := by decide +kernel
theorem dX2_chooseNextCursor_42 : decode cX2_chooseNextCursor 42 = .ok (.iconst 0, 1) := by decide +kernel
theorem dX2_chooseNextCursor_43 : decode cX2_chooseNextCursor 43 = .ok (.istore 5, 2) := by decide +kernel
theorem dX2_chooseNextCursor_45 : decode cX2_chooseNextCursor 45 = .ok (.iload 5, 2) := by decide +kernel
theorem dX2_chooseNextCursor_47 : decode cX2_chooseNextCursor 47 = .ok (.iconst 4, 1) := by decide +kernel
theorem dX2_chooseNextCursor_48 : decode cX2_chooseNextCursor 48 = .ok (.if_icmp .ge 95, 3) := by decide +kernel
theorem dX2_chooseNextCursor_51 : decode cX2_chooseNextCursor 51 = .ok (.iload 4, 2) := by decide +kernel
theorem dX2_chooseNextCursor_53 : decode cX2_chooseNextCursor 53 = .ok (.ifCond .le 90, 3) := by decide +kernel
theorem dX2_chooseNextCursor_56 : decode cX2_chooseNextCursor 56 = .ok (.iload 4, 2) := by decide +kernel
theorem dX2_chooseNextCursor_58 : decode cX2_chooseNextCursor 58 = .ok (.bipush 7, 2) := by decide +kernel
theorem dX2_chooseNextCursor_60 : decode cX2_chooseNextCursor 60 = .ok (.iand, 1) := by decide +kernel
theorem dX2_chooseNextCursor_61 : decode cX2_chooseNextCursor 61 = .ok (.iconst 1, 1) := by decide +kernel
theorem dX2_chooseNextCursor_62 : decode cX2_chooseNextCursor 62 = .ok (.isub, 1) := by decide +kernel
theorem dX2_chooseNextCursor_63 : decode cX2_chooseNextCursor 63 = .ok (.istore 6, 2) := by decide +kernel
theorem dX2_chooseNextCursor_65 : decode cX2_chooseNextCursor 65 = .ok (.iload 4, 2) := by decide +kernel
theorem dX2_chooseNextCursor_67 : decode cX2_chooseNextCursor 67 = .ok (.iconst 3, 1) := by decide +kernel
theorem dX2_chooseNextCursor_68 : decode cX2_chooseNextCursor 68 = .ok (.ishr, 1) := by decide +kernel
theorem dX2_chooseNextCursor_69 : decode cX2_chooseNextCursor 69 = .ok (.istore 4, 2) := by decide +kernel
theorem dX2_chooseNextCursor_71 : decode cX2_chooseNextCursor 71 = .ok (.aload_n 3, 1) := by decide +kernel
theorem dX2_chooseNextCursor_72 : decode cX2_chooseNextCursor 72 = .ok (.getfield 433, 3) := by decide +kernel
theorem dX2_chooseNextCursor_75 : decode cX2_chooseNextCursor 75 = .ok (.iload 6, 2) := by decide +kernel
theorem dX2_chooseNextCursor_77 : decode cX2_chooseNextCursor 77 = .ok (.invokevirtual 119, 3) := by decide +kernel
theorem dX2_chooseNextCursor_80 : decode cX2_chooseNextCursor 80 = .ok (.iconst (-1), 1) := by decide +kernel
theorem dX2_chooseNextCursor_81 : decode cX2_chooseNextCursor 81 = .ok (.if_icmp .eq 56, 3) := by decide +kernel
theorem dX2_chooseNextCursor_84 : decode cX2_chooseNextCursor 84 = .ok (.aload_n 0, 1) := by decide +kernel
theorem dX2_chooseNextCursor_85 : decode cX2_chooseNextCursor 85 = .ok (.getfield 21, 3) := by decide +kernel
theorem dX2_chooseNextCursor_88 : decode cX2_chooseNextCursor 88 = .ok (.getfield 218, 3) := by decide +kernel
theorem dX2_chooseNextCursor_91 : decode cX2_chooseNextCursor 91 = .ok (.aload_n 0, 1) := by decide +kernel
theorem dX2_chooseNextCursor_92 : decode cX2_chooseNextCursor 92 = .ok (.getfield 91, 3) := by decide +kernel
theorem dX2_chooseNextCursor_95 : decode cX2_chooseNextCursor 95 = .ok (.iload 4, 2) := by decide +kernel
theorem dX2_chooseNextCursor_97 : decode cX2_chooseNextCursor 97 = .ok (.invokevirtual 142, 3) := by decide +kernel
theorem dX2_chooseNextCursor_100 : decode cX2_chooseNextCursor 100 = .ok (.aload_n 0, 1) := by decide +kernel
theorem dX2_chooseNextCursor_101 : decode cX2_chooseNextCursor 101 = .ok (.getfield 21, 3) := by decide +kernel
theorem dX2_chooseNextCursor_104 : decode cX2_chooseNextCursor 104 = .ok (.getfield 212, 3) := by decide +kernel
theorem dX2_chooseNextCursor_107 : decode cX2_chooseNextCursor 107 = .ok (.aload_n 0, 1) := by decide +kernel
theorem dX2_chooseNextCursor_108 : decode cX2_chooseNextCursor 108 = .ok (.getfield 91, 3) := by decide +kernel
theorem dX2_chooseNextCursor_111 : decode cX2_chooseNextCursor 111 = .ok (.aload_n 0, 1) := by decide +kernel
theorem dX2_chooseNextCursor_112 : decode cX2_chooseNextCursor 112 = .ok (.getfield 21, 3) := by decide +kernel
theorem dX2_chooseNextCursor_115 : decode cX2_chooseNextCursor 115 = .ok (.getfield 212, 3) := by decide +kernel
theorem dX2_chooseNextCursor_118 : decode cX2_chooseNextCursor 118 = .ok (.aload_n 0, 1) := by decide +kernel
theorem dX2_chooseNextCursor_119 : decode cX2_chooseNextCursor 119 = .ok (.getfield 91, 3) := by decide +kernel
theorem dX2_chooseNextCursor_122 : decode cX2_chooseNextCursor 122 = .ok (.invokevirtual 119, 3) := by decide +kernel
theorem dX2_chooseNextCursor_125 : decode cX2_chooseNextCursor 125 = .ok (.iconst 1, 1) := by decide +kernel
theorem dX2_chooseNextCursor_126 : decode cX2_chooseNextCursor 126 = .ok (.iadd, 1) := by decide +kernel
theorem dX2_chooseNextCursor_127 : decode cX2_chooseNextCursor 127 = .ok (.invokevirtual 142, 3) := by decide +kernel
theorem dX2_chooseNextCursor_130 : decode cX2_chooseNextCursor 130 = .ok (.aload_n 3, 1) := by decide +kernel
theorem dX2_chooseNextCursor_131 : decode cX2_chooseNextCursor 131 = .ok (.iload 6, 2) := by decide +kernel
theorem dX2_chooseNextCursor_133 : decode cX2_chooseNextCursor 133 = .ok (.putfield 338, 3) := by decide +kernel
theorem dX2_chooseNextCursor_136 : decode cX2_chooseNextCursor 136 = .ok (.return_, 1) := by decide +kernel
theorem dX2_chooseNextCursor_137 : decode cX2_chooseNextCursor 137 = .ok (.iinc 5 1, 3) := by decide +kernel
theorem dX2_chooseNextCursor_140 : decode cX2_chooseNextCursor 140 = .ok (.goto (-95), 3) := by decide +kernel
theorem dX2_chooseNextCursor_143 : decode cX2_chooseNextCursor 143 = .ok (.aload_n 0, 1) := by decide +kernel
theorem dX2_chooseNextCursor_144 : decode cX2_chooseNextCursor 144 = .ok (.iload_n 1, 1) := by decide +kernel
theorem dX2_chooseNextCursor_145 : decode cX2_chooseNextCursor 145 = .ok (.invokevirtual 221, 3) := by decide +kernel
theorem dX2_chooseNextCursor_148 : decode cX2_chooseNextCursor 148 = .ok (.return_, 1) := by decide +kernel
theorem dX2_leaveEach_0 : decode cX2_leaveEach 0 = .ok (.aload_n 0, 1) := by decide +kernel
theorem dX2_leaveEach_1 : decode cX2_leaveEach 1 = .ok (.getfield 21, 3) := by decide +kernel
theorem dX2_leaveEach_4 : decode cX2_leaveEach 4 = .ok (.getfield 249, 3) := by decide +kernel
theorem dX2_leaveEach_7 : decode cX2_leaveEach 7 = .ok (.aload_n 0, 1) := by decide +kernel
theorem dX2_leaveEach_8 : decode cX2_leaveEach 8 = .ok (.getfield 91, 3) := by decide +kernel
theorem dX2_leaveEach_11 : decode cX2_leaveEach 11 = .ok (.invokevirtual 119, 3) := by decide +kernel
theorem dX2_leaveEach_14 : decode cX2_leaveEach 14 = .ok (.istore_n 1, 1) := by decide +kernel
theorem dX2_leaveEach_15 : decode cX2_leaveEach 15 = .ok (.aload_n 0, 1) := by decide +kernel
theorem dX2_leaveEach_16 : decode cX2_leaveEach 16 = .ok (.getfield 43, 3) := by decide +kernel
theorem dX2_leaveEach_19 : decode cX2_leaveEach 19 = .ok (.iload_n 1, 1) := by decide +kernel
theorem dX2_leaveEach_20 : decode cX2_leaveEach 20 = .ok (.iconst 2, 1) := by decide +kernel
theorem dX2_leaveEach_21 : decode cX2_leaveEach 21 = .ok (.irem, 1) := by decide +kernel
theorem dX2_leaveEach_22 : decode cX2_leaveEach 22 = .ok (.invokevirtual 308, 3) := by decide +kernel
theorem dX2_leaveEach_25 : decode cX2_leaveEach 25 = .ok (.iload_n 1, 1) := by decide +kernel
theorem dX2_leaveEach_26 : decode cX2_leaveEach 26 = .ok (.iconst 2, 1) := by decide +kernel
theorem dX2_leaveEach_27 : decode cX2_leaveEach 27 = .ok (.idiv, 1) := by decide +kernel
theorem dX2_leaveEach_28 : decode cX2_leaveEach 28 = .ok (.invokevirtual 437, 3) := by decide +kernel
theorem dX2_leaveEach_31 : decode cX2_leaveEach 31 = .ok (.return_, 1) := by decide +kernel
theorem dX10_init_0 : decode cX10_init 0 = .ok (.aload_n 0, 1) := by decide +kernel
theorem dX10_init_1 : decode cX10_init 1 = .ok (.invokespecial 3, 3) := by decide +kernel
theorem dX10_init_4 : decode cX10_init 4 = .ok (.aload_n 0, 1) := by decide +kernel
theorem dX10_init_5 : decode cX10_init 5 = .ok (.new 9, 3) := by decide +kernel
theorem dX10_init_8 : decode cX10_init 8 = .ok (.dup, 1) := by decide +kernel
theorem dX10_init_9 : decode cX10_init 9 = .ok (.invokespecial 11, 3) := by decide +kernel
theorem dX10_init_12 : decode cX10_init 12 = .ok (.putfield 12, 3) := by decide +kernel
theorem dX10_init_15 : decode cX10_init 15 = .ok (.aload_n 0, 1) := by decide +kernel
theorem dX10_init_16 : decode cX10_init 16 = .ok (.new 16, 3) := by decide +kernel
theorem dX10_init_19 : decode cX10_init 19 = .ok (.dup, 1) := by decide +kernel
theorem dX10_init_20 : decode cX10_init 20 = .ok (.invokespecial 18, 3) := by decide +kernel
theorem dX10_init_23 : decode cX10_init 23 = .ok (.putfield 19, 3) := by decide +kernel
theorem dX10_init_26 : decode cX10_init 26 = .ok (.aload_n 0, 1) := by decide +kernel
theorem dX10_init_27 : decode cX10_init 27 = .ok (.new 23, 3) := by decide +kernel
theorem dX10_init_30 : decode cX10_init 30 = .ok (.dup, 1) := by decide +kernel
theorem dX10_init_31 : decode cX10_init 31 = .ok (.invokespecial 25, 3) := by decide +kernel
theorem dX10_init_34 : decode cX10_init 34 = .ok (.putfield 26, 3) := by decide +kernel
theorem dX10_init_37 : decode cX10_init 37 = .ok (.aload_n 0, 1) := by decide +kernel
theorem dX10_init_38 : decode cX10_init 38 = .ok (.new 23, 3) := by decide +kernel
theorem dX10_init_41 : decode cX10_init 41 = .ok (.dup, 1) := by decide +kernel
theorem dX10_init_42 : decode cX10_init 42 = .ok (.invokespecial 25, 3) := by decide +kernel
theorem dX10_init_45 : decode cX10_init 45 = .ok (.putfield 30, 3) := by decide +kernel
theorem dX10_init_48 : decode cX10_init 48 = .ok (.aload_n 0, 1) := by decide +kernel
theorem dX10_init_49 : decode cX10_init 49 = .ok (.sipush 300, 3) := by decide +kernel
theorem dX10_init_52 : decode cX10_init 52 = .ok (.putfield 33, 3) := by decide +kernel
theorem dX10_init_55 : decode cX10_init 55 = .ok (.return_, 1) := by decide +kernel
theorem dX10_node_0 : decode cX10_node 0 = .ok (.aload_n 0, 1) := by decide +kernel
theorem dX10_node_1 : decode cX10_node 1 = .ok (.getfield 12, 3) := by decide +kernel
theorem dX10_node_4 : decode cX10_node 4 = .ok (.iload_n 1, 1) := by decide +kernel
theorem dX10_node_5 : decode cX10_node 5 = .ok (.iload_n 2, 1) := by decide +kernel
theorem dX10_node_6 : decode cX10_node 6 = .ok (.iload_n 3, 1) := by decide +kernel
theorem dX10_node_7 : decode cX10_node 7 = .ok (.iload 4, 2) := by decide +kernel
theorem dX10_node_9 : decode cX10_node 9 = .ok (.invokevirtual 37, 3) := by decide +kernel
theorem dX10_node_12 : decode cX10_node 12 = .ok (.ifCond .eq 13, 3) := by decide +kernel
theorem dX10_node_15 : decode cX10_node 15 = .ok (.new 41, 3) := by decide +kernel
theorem dX10_node_18 : decode cX10_node 18 = .ok (.dup, 1) := by decide +kernel
theorem dX10_node_19 : decode cX10_node 19 = .ok (.ldc 43, 2) := by decide +kernel
theorem dX10_node_21 : decode cX10_node 21 = .ok (.invokespecial 45, 3) := by decide +kernel
theorem dX10_node_24 : decode cX10_node 24 = .ok (.athrow, 1) := by decide +kernel
theorem dX10_node_25 : decode cX10_node 25 = .ok (.aload_n 0, 1) := by decide +kernel
theorem dX10_node_26 : decode cX10_node 26 = .ok (.getfield 12, 3) := by decide +kernel
theorem dX10_node_29 : decode cX10_node 29 = .ok (.iload_n 1, 1) := by decide +kernel
theorem dX10_node_30 : decode cX10_node 30 = .ok (.iload_n 2, 1) := by decide +kernel
theorem dX10_node_31 : decode cX10_node 31 = .ok (.iload_n 3, 1) := by decide +kernel
theorem dX10_node_32 : decode cX10_node 32 = .ok (.iload 4, 2) := by decide +kernel
theorem dX10_node_34 : decode cX10_node 34 = .ok (.invokevirtual 48, 3) := by decide +kernel
theorem dX10_node_37 : decode cX10_node 37 = .ok (.ifCond .ne 13, 3) := by decide +kernel
theorem dX10_node_40 : decode cX10_node 40 = .ok (.new 51, 3) := by decide +kernel
theorem dX10_node_43 : decode cX10_node 43 = .ok (.dup, 1) := by decide +kernel
theorem dX10_node_44 : decode cX10_node 44 = .ok (.ldc 53, 2) := by decide +kernel
theorem dX10_node_46 : decode cX10_node 46 = .ok (.invokespecial 55, 3) := by decide +kernel
theorem dX10_node_49 : decode cX10_node 49 = .ok (.athrow, 1) := by decide +kernel
theorem dX10_node_50 : decode cX10_node 50 = .ok (.aload_n 0, 1) := by decide +kernel
theorem dX10_node_51 : decode cX10_node 51 = .ok (.getfield 12, 3) := by decide +kernel
theorem dX10_node_54 : decode cX10_node 54 = .ok (.iload_n 1, 1) := by decide +kernel
theorem dX10_node_55 : decode cX10_node 55 = .ok (.iload_n 2, 1) := by decide +kernel
theorem dX10_node_56 : decode cX10_node 56 = .ok (.iload_n 3, 1) := by decide +kernel
theorem dX10_node_57 : decode cX10_node 57 = .ok (.iload 4, 2) := by decide +kernel
theorem dX10_node_59 : decode cX10_node 59 = .ok (.invokevirtual 56, 3) := by decide +kernel
theorem dX10_node_62 : decode cX10_node 62 = .ok (.ifCond .ne 13, 3) := by decide +kernel
theorem dX10_node_65 : decode cX10_node 65 = .ok (.new 59, 3) := by decide +kernel
theorem dX10_node_68 : decode cX10_node 68 = .ok (.dup, 1) := by decide +kernel
theorem dX10_node_69 : decode cX10_node 69 = .ok (.ldc 61, 2) := by decide +kernel
theorem dX10_node_71 : decode cX10_node 71 = .ok (.invokespecial 63, 3) := by decide +kernel
theorem dX10_node_74 : decode cX10_node 74 = .ok (.athrow, 1) := by decide +kernel
theorem dX10_node_75 : decode cX10_node 75 = .ok (.aload_n 0, 1) := by decide +kernel
theorem dX10_node_76 : decode cX10_node 76 = .ok (.getfield 12, 3) := by decide +kernel
theorem dX10_node_79 : decode cX10_node 79 = .ok (.iload_n 1, 1) := by decide +kernel
theorem dX10_node_80 : decode cX10_node 80 = .ok (.iload_n 2, 1) := by decide +kernel
theorem dX10_node_81 : decode cX10_node 81 = .ok (.iload_n 3, 1) := by decide +kernel
theorem dX10_node_82 : decode cX10_node 82 = .ok (.iload 4, 2) := by decide +kernel
theorem dX10_node_84 : decode cX10_node 84 = .ok (.invokevirtual 64, 3) := by decide +kernel
theorem dX10_node_87 : decode cX10_node 87 = .ok (.ireturn, 1) := by decide +kernel
theorem dX10_define_0 : decode cX10_define 0 = .ok (.iload_n 1, 1) := by decide +kernel
theorem dX10_define_1 : decode cX10_define 1 = .ok (.bipush 6, 2) := by decide +kernel
theorem dX10_define_3 : decode cX10_define 3 = .ok (.invokestatic 68, 3) := by decide +kernel
theorem dX10_define_6 : decode cX10_define 6 = .ok (.ifCond .eq 32, 3) := by decide +kernel
theorem dX10_define_9 : decode cX10_define 9 = .ok (.aload_n 0, 1) := by decide +kernel
theorem dX10_define_10 : decode cX10_define 10 = .ok (.getfield 12, 3) := by decide +kernel
theorem dX10_define_13 : decode cX10_define 13 = .ok (.iload_n 3, 1) := by decide +kernel
theorem dX10_define_14 : decode cX10_define 14 = .ok (.invokevirtual 72, 3) := by decide +kernel
theorem dX10_define_17 : decode cX10_define 17 = .ok (.ifCond .eq 21, 3) := by decide +kernel
theorem dX10_define_20 : decode cX10_define 20 = .ok (.iload 4, 2) := by decide +kernel
theorem dX10_define_22 : decode cX10_define 22 = .ok (.iconst (-1), 1) := by decide +kernel
theorem dX10_define_23 : decode cX10_define 23 = .ok (.if_icmp .eq 25, 3) := by decide +kernel
theorem dX10_define_26 : decode cX10_define 26 = .ok (.aload_n 0, 1) := by decide +kernel
theorem dX10_define_27 : decode cX10_define 27 = .ok (.getfield 12, 3) := by decide +kernel
theorem dX10_define_30 : decode cX10_define 30 = .ok (.iload 4, 2) := by decide +kernel
theorem dX10_define_32 : decode cX10_define 32 = .ok (.invokevirtual 72, 3) := by decide +kernel
theorem dX10_define_35 : decode cX10_define 35 = .ok (.ifCond .ne 13, 3) := by decide +kernel
theorem dX10_define_38 : decode cX10_define 38 = .ok (.new 41, 3) := by decide +kernel
theorem dX10_define_41 : decode cX10_define 41 = .ok (.dup, 1) := by decide +kernel
theorem dX10_define_42 : decode cX10_define 42 = .ok (.ldc 76, 2) := by decide +kernel
theorem dX10_define_44 : decode cX10_define 44 = .ok (.invokespecial 45, 3) := by decide +kernel
theorem dX10_define_47 : decode cX10_define 47 = .ok (.athrow, 1) := by decide +kernel
theorem dX10_define_48 : decode cX10_define 48 = .ok (.iload_n 2, 1) := by decide +kernel
theorem dX10_define_49 : decode cX10_define 49 = .ok (.iconst 3, 1) := by decide +kernel
theorem dX10_define_50 : decode cX10_define 50 = .ok (.invokestatic 68, 3) := by decide +kernel
theorem dX10_define_53 : decode cX10_define 53 = .ok (.ifCond .eq 14, 3) := by decide +kernel
theorem dX10_define_56 : decode cX10_define 56 = .ok (.iload 4, 2) := by decide +kernel
theorem dX10_define_58 : decode cX10_define 58 = .ok (.iconst (-1), 1) := by decide +kernel
theorem dX10_define_59 : decode cX10_define 59 = .ok (.if_icmp .eq 18, 3) := by decide +kernel
theorem dX10_define_62 : decode cX10_define 62 = .ok (.iload_n 2, 1) := by decide +kernel
theorem dX10_define_63 : decode cX10_define 63 = .ok (.iconst 2, 1) := by decide +kernel
theorem dX10_define_64 : decode cX10_define 64 = .ok (.if_icmp .eq 13, 3) := by decide +kernel
theorem dX10_define_67 : decode cX10_define 67 = .ok (.new 51, 3) := by decide +kernel
theorem dX10_define_70 : decode cX10_define 70 = .ok (.dup, 1) := by decide +kernel
theorem dX10_define_71 : decode cX10_define 71 = .ok (.ldc 78, 2) := by decide +kernel
theorem dX10_define_73 : decode cX10_define 73 = .ok (.invokespecial 55, 3) := by decide +kernel
theorem dX10_define_76 : decode cX10_define 76 = .ok (.athrow, 1) := by decide +kernel
theorem dX10_define_77 : decode cX10_define 77 = .ok (.aload_n 0, 1) := by decide +kernel
theorem dX10_define_78 : decode cX10_define 78 = .ok (.invokevirtual 80, 3) := by decide +kernel
theorem dX10_define_81 : decode cX10_define 81 = .ok (.ifCond .eq 13, 3) := by decide +kernel
theorem dX10_define_84 : decode cX10_define 84 = .ok (.new 59, 3) := by decide +kernel
theorem dX10_define_87 : decode cX10_define 87 = .ok (.dup, 1) := by decide +kernel
theorem dX10_define_88 : decode cX10_define 88 = .ok (.ldc 84, 2) := by decide +kernel
theorem dX10_define_90 : decode cX10_define 90 = .ok (.invokespecial 63, 3) := by decide +kernel
theorem dX10_define_93 : decode cX10_define 93 = .ok (.athrow, 1) := by decide +kernel
theorem dX10_define_94 : decode cX10_define 94 = .ok (.aload_n 0, 1) := by decide +kernel
theorem dX10_define_95 : decode cX10_define 95 = .ok (.getfield 19, 3) := by decide +kernel
theorem dX10_define_98 : decode cX10_define 98 = .ok (.getfield 86, 3) := by decide +kernel
theorem dX10_define_101 : decode cX10_define 101 = .ok (.iload_n 1, 1) := by decide +kernel
theorem dX10_define_102 : decode cX10_define 102 = .ok (.invokevirtual 90, 3) := by decide +kernel
theorem dX10_define_105 : decode cX10_define 105 = .ok (.istore 5, 2) := by decide +kernel
theorem dX10_define_107 : decode cX10_define 107 = .ok (.aload_n 0, 1) := by decide +kernel
theorem dX10_define_108 : decode cX10_define 108 = .ok (.getfield 19, 3) := by decide +kernel
theorem dX10_define_111 : decode cX10_define 111 = .ok (.getfield 86, 3) := by decide +kernel
theorem dX10_define_114 : decode cX10_define 114 = .ok (.iload_n 1, 1) := by decide +kernel
theorem dX10_define_115 : decode cX10_define 115 = .ok (.iload_n 3, 1) := by decide +kernel
theorem dX10_define_116 : decode cX10_define 116 = .ok (.invokevirtual 96, 3) := by decide +kernel
theorem dX10_define_119 : decode cX10_define 119 = .ok (.aload_n 0, 1) := by decide +kernel
theorem dX10_define_120 : decode cX10_define 120 = .ok (.getfield 19, 3) := by decide +kernel
theorem dX10_define_123 : decode cX10_define 123 = .ok (.getfield 100, 3) := by decide +kernel
theorem dX10_define_126 : decode cX10_define 126 = .ok (.iload_n 1, 1) := by decide +kernel
theorem dX10_define_127 : decode cX10_define 127 = .ok (.iload_n 2, 1) := by decide +kernel
theorem dX10_define_128 : decode cX10_define 128 = .ok (.invokevirtual 96, 3) := by decide +kernel
theorem dX10_define_131 : decode cX10_define 131 = .ok (.aload_n 0, 1) := by decide +kernel
theorem dX10_define_132 : decode cX10_define 132 = .ok (.getfield 19, 3) := by decide +kernel
theorem dX10_define_135 : decode cX10_define 135 = .ok (.getfield 103, 3) := by decide +kernel
theorem dX10_define_138 : decode cX10_define 138 = .ok (.iload_n 1, 1) := by decide +kernel
theorem dX10_define_139 : decode cX10_define 139 = .ok (.iload 4, 2) := by decide +kernel
theorem dX10_define_141 : decode cX10_define 141 = .ok (.invokevirtual 96, 3) := by decide +kernel
theorem dX10_define_144 : decode cX10_define 144 = .ok (.iload 5, 2) := by decide +kernel
theorem dX10_define_146 : decode cX10_define 146 = .ok (.ireturn, 1) := by decide +kernel
theorem dX10_size_0 : decode cX10_size 0 = .ok (.aload_n 0, 1) := by decide +kernel
theorem dX10_size_1 : decode cX10_size 1 = .ok (.getfield 12, 3) := by decide +kernel
theorem dX10_size_4 : decode cX10_size 4 = .ok (.iload_n 1, 1) := by decide +kernel
theorem dX10_size_5 : decode cX10_size 5 = .ok (.invokevirtual 72, 3) := by decide +kernel
theorem dX10_size_8 : decode cX10_size 8 = .ok (.ifCond .ne 13, 3) := by decide +kernel
theorem dX10_size_11 : decode cX10_size 11 = .ok (.new 41, 3) := by decide +kernel
theorem dX10_size_14 : decode cX10_size 14 = .ok (.dup, 1) := by decide +kernel
theorem dX10_size_15 : decode cX10_size 15 = .ok (.ldc 43, 2) := by decide +kernel
theorem dX10_size_17 : decode cX10_size 17 = .ok (.invokespecial 45, 3) := by decide +kernel
theorem dX10_size_20 : decode cX10_size 20 = .ok (.athrow, 1) := by decide +kernel
theorem dX10_size_21 : decode cX10_size 21 = .ok (.aload_n 0, 1) := by decide +kernel
theorem dX10_size_22 : decode cX10_size 22 = .ok (.getfield 12, 3) := by decide +kernel
theorem dX10_size_25 : decode cX10_size 25 = .ok (.getfield 106, 3) := by decide +kernel
theorem dX10_size_28 : decode cX10_size 28 = .ok (.iload_n 1, 1) := by decide +kernel
theorem dX10_size_29 : decode cX10_size 29 = .ok (.invokevirtual 90, 3) := by decide +kernel
theorem dX10_size_32 : decode cX10_size 32 = .ok (.ireturn, 1) := by decide +kernel
theorem dX10_setOption_0 : decode cX10_setOption 0 = .ok (.iload_n 1, 1) := by decide +kernel
theorem dX10_setOption_1 : decode cX10_setOption 1 = .ok (.iconst 4, 1) := by decide +kernel
theorem dX10_setOption_2 : decode cX10_setOption 2 = .ok (.invokestatic 68, 3) := by decide +kernel
theorem dX10_setOption_5 : decode cX10_setOption 5 = .ok (.ifCond .ne 13, 3) := by decide +kernel
theorem dX10_setOption_8 : decode cX10_setOption 8 = .ok (.new 41, 3) := by decide +kernel
theorem dX10_setOption_11 : decode cX10_setOption 11 = .ok (.dup, 1) := by decide +kernel
theorem dX10_setOption_12 : decode cX10_setOption 12 = .ok (.ldc 109, 2) := by decide +kernel
theorem dX10_setOption_14 : decode cX10_setOption 14 = .ok (.invokespecial 45, 3) := by decide +kernel
theorem dX10_setOption_17 : decode cX10_setOption 17 = .ok (.athrow, 1) := by decide +kernel
theorem dX10_setOption_18 : decode cX10_setOption 18 = .ok (.iload_n 2, 1) := by decide +kernel
theorem dX10_setOption_19 : decode cX10_setOption 19 = .ok (.invokestatic 111, 3) := by decide +kernel
theorem dX10_setOption_22 : decode cX10_setOption 22 = .ok (.ifCond .ne 13, 3) := by decide +kernel
theorem dX10_setOption_25 : decode cX10_setOption 25 = .ok (.new 51, 3) := by decide +kernel
theorem dX10_setOption_28 : decode cX10_setOption 28 = .ok (.dup, 1) := by decide +kernel
theorem dX10_setOption_29 : decode cX10_setOption 29 = .ok (.ldc 114, 2) := by decide +kernel
theorem dX10_setOption_31 : decode cX10_setOption 31 = .ok (.invokespecial 55, 3) := by decide +kernel
theorem dX10_setOption_34 : decode cX10_setOption 34 = .ok (.athrow, 1) := by decide +kernel
theorem dX10_setOption_35 : decode cX10_setOption 35 = .ok (.aload_n 0, 1) := by decide +kernel
theorem dX10_setOption_36 : decode cX10_setOption 36 = .ok (.invokevirtual 80, 3) := by decide +kernel
theorem dX10_setOption_39 : decode cX10_setOption 39 = .ok (.ifCond .eq 13, 3) := by decide +kernel
theorem dX10_setOption_42 : decode cX10_setOption 42 = .ok (.new 59, 3) := by decide +kernel
theorem dX10_setOption_45 : decode cX10_setOption 45 = .ok (.dup, 1) := by decide +kernel
theorem dX10_setOption_46 : decode cX10_setOption 46 = .ok (.ldc 84, 2) := by decide +kernel
theorem dX10_setOption_48 : decode cX10_setOption 48 = .ok (.invokespecial 63, 3) := by decide +kernel
theorem dX10_setOption_51 : decode cX10_setOption 51 = .ok (.athrow, 1) := by decide +kernel
theorem dX10_setOption_52 : decode cX10_setOption 52 = .ok (.aload_n 0, 1) := by decide +kernel
theorem dX10_setOption_53 : decode cX10_setOption 53 = .ok (.getfield 19, 3) := by decide +kernel
theorem dX10_setOption_56 : decode cX10_setOption 56 = .ok (.getfield 116, 3) := by decide +kernel
theorem dX10_setOption_59 : decode cX10_setOption 59 = .ok (.iload_n 1, 1) := by decide +kernel
theorem dX10_setOption_60 : decode cX10_setOption 60 = .ok (.invokevirtual 90, 3) := by decide +kernel
theorem dX10_setOption_63 : decode cX10_setOption 63 = .ok (.istore_n 3, 1) := by decide +kernel
theorem dX10_setOption_64 : decode cX10_setOption 64 = .ok (.aload_n 0, 1) := by decide +kernel
theorem dX10_setOption_65 : decode cX10_setOption 65 = .ok (.getfield 19, 3) := by decide +kernel
theorem dX10_setOption_68 : decode cX10_setOption 68 = .ok (.getfield 116, 3) := by decide +kernel
theorem dX10_setOption_71 : decode cX10_setOption 71 = .ok (.iload_n 1, 1) := by decide +kernel
theorem dX10_setOption_72 : decode cX10_setOption 72 = .ok (.iload_n 2, 1) := by decide +kernel
theorem dX10_setOption_73 : decode cX10_setOption 73 = .ok (.invokevirtual 96, 3) := by decide +kernel
theorem dX10_setOption_76 : decode cX10_setOption 76 = .ok (.iload_n 3, 1) := by decide +kernel
theorem dX10_setOption_77 : decode cX10_setOption 77 = .ok (.ireturn, 1) := by decide +kernel
theorem dX10_setBudget_0 : decode cX10_setBudget 0 = .ok (.iload_n 1, 1) := by decide +kernel
theorem dX10_setBudget_1 : decode cX10_setBudget 1 = .ok (.invokestatic 119, 3) := by decide +kernel
theorem dX10_setBudget_4 : decode cX10_setBudget 4 = .ok (.ifCond .ne 13, 3) := by decide +kernel
theorem dX10_setBudget_7 : decode cX10_setBudget 7 = .ok (.new 51, 3) := by decide +kernel
theorem dX10_setBudget_10 : decode cX10_setBudget 10 = .ok (.dup, 1) := by decide +kernel
theorem dX10_setBudget_11 : decode cX10_setBudget 11 = .ok (.ldc 122, 2) := by decide +kernel
theorem dX10_setBudget_13 : decode cX10_setBudget 13 = .ok (.invokespecial 55, 3) := by decide +kernel
theorem dX10_setBudget_16 : decode cX10_setBudget 16 = .ok (.athrow, 1) := by decide +kernel
theorem dX10_setBudget_17 : decode cX10_setBudget 17 = .ok (.aload_n 0, 1) := by decide +kernel
theorem dX10_setBudget_18 : decode cX10_setBudget 18 = .ok (.getfield 33, 3) := by decide +kernel
theorem dX10_setBudget_21 : decode cX10_setBudget 21 = .ok (.istore_n 2, 1) := by decide +kernel
theorem dX10_setBudget_22 : decode cX10_setBudget 22 = .ok (.aload_n 0, 1) := by decide +kernel
theorem dX10_setBudget_23 : decode cX10_setBudget 23 = .ok (.iload_n 1, 1) := by decide +kernel
theorem dX10_setBudget_24 : decode cX10_setBudget 24 = .ok (.putfield 33, 3) := by decide +kernel
theorem dX10_setBudget_27 : decode cX10_setBudget 27 = .ok (.iload_n 2, 1) := by decide +kernel
theorem dX10_setBudget_28 : decode cX10_setBudget 28 = .ok (.ireturn, 1) := by decide +kernel
theorem dX10_write_0 : decode cX10_write 0 = .ok (.iload_n 1, 1) := by decide +kernel
theorem dX10_write_1 : decode cX10_write 1 = .ok (.iconst 2, 1) := by decide +kernel
theorem dX10_write_2 : decode cX10_write 2 = .ok (.invokestatic 68, 3) := by decide +kernel
theorem dX10_write_5 : decode cX10_write 5 = .ok (.ifCond .ne 13, 3) := by decide +kernel
theorem dX10_write_8 : decode cX10_write 8 = .ok (.new 41, 3) := by decide +kernel
theorem dX10_write_11 : decode cX10_write 11 = .ok (.dup, 1) := by decide +kernel
theorem dX10_write_12 : decode cX10_write 12 = .ok (.ldc 124, 2) := by decide +kernel
theorem dX10_write_14 : decode cX10_write 14 = .ok (.invokespecial 45, 3) := by decide +kernel
theorem dX10_write_17 : decode cX10_write 17 = .ok (.athrow, 1) := by decide +kernel
theorem dX10_write_18 : decode cX10_write 18 = .ok (.iload_n 2, 1) := by decide +kernel
theorem dX10_write_19 : decode cX10_write 19 = .ok (.bipush 26, 2) := by decide +kernel
theorem dX10_write_21 : decode cX10_write 21 = .ok (.invokestatic 68, 3) := by decide +kernel
theorem dX10_write_24 : decode cX10_write 24 = .ok (.ifCond .ne 13, 3) := by decide +kernel
theorem dX10_write_27 : decode cX10_write 27 = .ok (.new 51, 3) := by decide +kernel
theorem dX10_write_30 : decode cX10_write 30 = .ok (.dup, 1) := by decide +kernel
theorem dX10_write_31 : decode cX10_write 31 = .ok (.ldc 126, 2) := by decide +kernel
theorem dX10_write_33 : decode cX10_write 33 = .ok (.invokespecial 55, 3) := by decide +kernel
theorem dX10_write_36 : decode cX10_write 36 = .ok (.athrow, 1) := by decide +kernel
theorem dX10_write_37 : decode cX10_write 37 = .ok (.aload_n 0, 1) := by decide +kernel
theorem dX10_write_38 : decode cX10_write 38 = .ok (.getfield 19, 3) := by decide +kernel
theorem dX10_write_41 : decode cX10_write 41 = .ok (.iload_n 1, 1) := by decide +kernel
theorem dX10_write_42 : decode cX10_write 42 = .ok (.invokevirtual 128, 3) := by decide +kernel
theorem dX10_write_45 : decode cX10_write 45 = .ok (.astore_n 3, 1) := by decide +kernel
theorem dX10_write_46 : decode cX10_write 46 = .ok (.aload_n 3, 1) := by decide +kernel
theorem dX10_write_47 : decode cX10_write 47 = .ok (.getfield 132, 3) := by decide +kernel
theorem dX10_write_50 : decode cX10_write 50 = .ok (.bipush 40, 2) := by decide +kernel
theorem dX10_write_52 : decode cX10_write 52 = .ok (.if_icmp .ge 10, 3) := by decide +kernel
theorem dX10_write_55 : decode cX10_write 55 = .ok (.aload_n 0, 1) := by decide +kernel
theorem dX10_write_56 : decode cX10_write 56 = .ok (.invokevirtual 80, 3) := by decide +kernel
theorem dX10_write_59 : decode cX10_write 59 = .ok (.ifCond .eq 13, 3) := by decide +kernel
theorem dX10_write_62 : decode cX10_write 62 = .ok (.new 59, 3) := by decide +kernel
theorem dX10_write_65 : decode cX10_write 65 = .ok (.dup, 1) := by decide +kernel
theorem dX10_write_66 : decode cX10_write 66 = .ok (.ldc 137, 2) := by decide +kernel
theorem dX10_write_68 : decode cX10_write 68 = .ok (.invokespecial 63, 3) := by decide +kernel
theorem dX10_write_71 : decode cX10_write 71 = .ok (.athrow, 1) := by decide +kernel
theorem dX10_write_72 : decode cX10_write 72 = .ok (.aload_n 3, 1) := by decide +kernel
theorem dX10_write_73 : decode cX10_write 73 = .ok (.iload_n 2, 1) := by decide +kernel
theorem dX10_write_74 : decode cX10_write 74 = .ok (.invokevirtual 139, 3) := by decide +kernel
theorem dX10_write_77 : decode cX10_write 77 = .ok (.aload_n 3, 1) := by decide +kernel
theorem dX10_write_78 : decode cX10_write 78 = .ok (.getfield 132, 3) := by decide +kernel
theorem dX10_write_81 : decode cX10_write 81 = .ok (.ireturn, 1) := by decide +kernel
theorem dX10_run_0 : decode cX10_run 0 = .ok (.aload_n 0, 1) := by decide +kernel
theorem dX10_run_1 : decode cX10_run 1 = .ok (.getfield 12, 3) := by decide +kernel
theorem dX10_run_4 : decode cX10_run 4 = .ok (.iload_n 1, 1) := by decide +kernel
theorem dX10_run_5 : decode cX10_run 5 = .ok (.invokevirtual 72, 3) := by decide +kernel
theorem dX10_run_8 : decode cX10_run 8 = .ok (.ifCond .ne 13, 3) := by decide +kernel
theorem dX10_run_11 : decode cX10_run 11 = .ok (.new 41, 3) := by decide +kernel
theorem dX10_run_14 : decode cX10_run 14 = .ok (.dup, 1) := by decide +kernel
theorem dX10_run_15 : decode cX10_run 15 = .ok (.ldc 43, 2) := by decide +kernel
theorem dX10_run_17 : decode cX10_run 17 = .ok (.invokespecial 45, 3) := by decide +kernel
theorem dX10_run_20 : decode cX10_run 20 = .ok (.athrow, 1) := by decide +kernel
theorem dX10_run_21 : decode cX10_run 21 = .ok (.aload_n 0, 1) := by decide +kernel
theorem dX10_run_22 : decode cX10_run 22 = .ok (.invokevirtual 80, 3) := by decide +kernel
theorem dX10_run_25 : decode cX10_run 25 = .ok (.ifCond .eq 13, 3) := by decide +kernel
theorem dX10_run_28 : decode cX10_run 28 = .ok (.new 59, 3) := by decide +kernel
theorem dX10_run_31 : decode cX10_run 31 = .ok (.dup, 1) := by decide +kernel
theorem dX10_run_32 : decode cX10_run 32 = .ok (.ldc 84, 2) := by decide +kernel
theorem dX10_run_34 : decode cX10_run 34 = .ok (.invokespecial 63, 3) := by decide +kernel
theorem dX10_run_37 : decode cX10_run 37 = .ok (.athrow, 1) := by decide +kernel
theorem dX10_run_38 : decode cX10_run 38 = .ok (.aload_n 0, 1) := by decide +kernel
theorem dX10_run_39 : decode cX10_run 39 = .ok (.invokevirtual 143, 3) := by decide +kernel
theorem dX10_run_42 : decode cX10_run 42 = .ok (.astore_n 2, 1) := by decide +kernel
theorem dX10_run_43 : decode cX10_run 43 = .ok (.aload_n 2, 1) := by decide +kernel
theorem dX10_run_44 : decode cX10_run 44 = .ok (.iload_n 1, 1) := by decide +kernel
theorem dX10_run_45 : decode cX10_run 45 = .ok (.aload_n 0, 1) := by decide +kernel
theorem dX10_run_46 : decode cX10_run 46 = .ok (.getfield 33, 3) := by decide +kernel
theorem dX10_run_49 : decode cX10_run 49 = .ok (.aload_n 0, 1) := by decide +kernel
theorem dX10_run_50 : decode cX10_run 50 = .ok (.getfield 26, 3) := by decide +kernel
theorem dX10_run_53 : decode cX10_run 53 = .ok (.invokevirtual 147, 3) := by decide +kernel
theorem dX10_run_56 : decode cX10_run 56 = .ok (.aload_n 2, 1) := by decide +kernel
theorem dX10_run_57 : decode cX10_run 57 = .ok (.sipush 601, 3) := by decide +kernel
theorem dX10_run_60 : decode cX10_run 60 = .ok (.iconst 0, 1) := by decide +kernel
theorem dX10_run_61 : decode cX10_run 61 = .ok (.invokevirtual 153, 3) := by decide +kernel
theorem dX10_run_64 : decode cX10_run 64 = .ok (.pop, 1) := by decide +kernel
theorem dX10_run_65 : decode cX10_run 65 = .ok (.aload_n 0, 1) := by decide +kernel
theorem dX10_run_66 : decode cX10_run 66 = .ok (.getfield 26, 3) := by decide +kernel
theorem dX10_run_69 : decode cX10_run 69 = .ok (.getfield 157, 3) := by decide +kernel
theorem dX10_run_72 : decode cX10_run 72 = .ok (.ireturn, 1) := by decide +kernel
theorem dX10_tried_0 : decode cX10_tried 0 = .ok (.aload_n 0, 1) := by decide +kernel
theorem dX10_tried_1 : decode cX10_tried 1 = .ok (.getfield 12, 3) := by decide +kernel
theorem dX10_tried_4 : decode cX10_tried 4 = .ok (.iload_n 1, 1) := by decide +kernel
theorem dX10_tried_5 : decode cX10_tried 5 = .ok (.invokevirtual 72, 3) := by decide +kernel
theorem dX10_tried_8 : decode cX10_tried 8 = .ok (.ifCond .ne 13, 3) := by decide +kernel
theorem dX10_tried_11 : decode cX10_tried 11 = .ok (.new 41, 3) := by decide +kernel
theorem dX10_tried_14 : decode cX10_tried 14 = .ok (.dup, 1) := by decide +kernel
theorem dX10_tried_15 : decode cX10_tried 15 = .ok (.ldc 43, 2) := by decide +kernel
theorem dX10_tried_17 : decode cX10_tried 17 = .ok (.invokespecial 45, 3) := by decide +kernel
theorem dX10_tried_20 : decode cX10_tried 20 = .ok (.athrow, 1) := by decide +kernel
theorem dX10_tried_21 : decode cX10_tried 21 = .ok (.aload_n 0, 1) := by decide +kernel
theorem dX10_tried_22 : decode cX10_tried 22 = .ok (.invokevirtual 80, 3) := by decide +kernel
theorem dX10_tried_25 : decode cX10_tried 25 = .ok (.ifCond .eq 13, 3) := by decide +kernel
theorem dX10_tried_28 : decode cX10_tried 28 = .ok (.new 59, 3) := by decide +kernel
theorem dX10_tried_31 : decode cX10_tried 31 = .ok (.dup, 1) := by decide +kernel
theorem dX10_tried_32 : decode cX10_tried 32 = .ok (.ldc 84, 2) := by decide +kernel
theorem dX10_tried_34 : decode cX10_tried 34 = .ok (.invokespecial 63, 3) := by decide +kernel
theorem dX10_tried_37 : decode cX10_tried 37 = .ok (.athrow, 1) := by decide +kernel
theorem dX10_tried_38 : decode cX10_tried 38 = .ok (.aload_n 0, 1) := by decide +kernel
theorem dX10_tried_39 : decode cX10_tried 39 = .ok (.iload_n 1, 1) := by decide +kernel
theorem dX10_tried_40 : decode cX10_tried 40 = .ok (.invokevirtual 160, 3) := by decide +kernel
theorem dX10_tried_43 : decode cX10_tried 43 = .ok (.getfield 157, 3) := by decide +kernel
theorem dX10_tried_46 : decode cX10_tried 46 = .ok (.ireturn, 1) := by decide +kernel
theorem dX10_triedSteps_0 : decode cX10_triedSteps 0 = .ok (.aload_n 0, 1) := by decide +kernel
theorem dX10_triedSteps_1 : decode cX10_triedSteps 1 = .ok (.getfield 12, 3) := by decide +kernel
theorem dX10_triedSteps_4 : decode cX10_triedSteps 4 = .ok (.iload_n 1, 1) := by decide +kernel
theorem dX10_triedSteps_5 : decode cX10_triedSteps 5 = .ok (.invokevirtual 72, 3) := by decide +kernel
theorem dX10_triedSteps_8 : decode cX10_triedSteps 8 = .ok (.ifCond .ne 13, 3) := by decide +kernel
theorem dX10_triedSteps_11 : decode cX10_triedSteps 11 = .ok (.new 41, 3) := by decide +kernel
theorem dX10_triedSteps_14 : decode cX10_triedSteps 14 = .ok (.dup, 1) := by decide +kernel
theorem dX10_triedSteps_15 : decode cX10_triedSteps 15 = .ok (.ldc 43, 2) := by decide +kernel
theorem dX10_triedSteps_17 : decode cX10_triedSteps 17 = .ok (.invokespecial 45, 3) := by decide +kernel
theorem dX10_triedSteps_20 : decode cX10_triedSteps 20 = .ok (.athrow, 1) := by decide +kernel
theorem dX10_triedSteps_21 : decode cX10_triedSteps 21 = .ok (.aload_n 0, 1) := by decide +kernel
theorem dX10_triedSteps_22 : decode cX10_triedSteps 22 = .ok (.invokevirtual 80, 3) := by decide +kernel
theorem dX10_triedSteps_25 : decode cX10_triedSteps 25 = .ok (.ifCond .eq 13, 3) := by decide +kernel
theorem dX10_triedSteps_28 : decode cX10_triedSteps 28 = .ok (.new 59, 3) := by decide +kernel
theorem dX10_triedSteps_31 : decode cX10_triedSteps 31 = .ok (.dup, 1) := by decide +kernel
theorem dX10_triedSteps_32 : decode cX10_triedSteps 32 = .ok (.ldc 84, 2) := by decide +kernel
theorem dX10_triedSteps_34 : decode cX10_triedSteps 34 = .ok (.invokespecial 63, 3) := by decide +kernel
theorem dX10_triedSteps_37 : decode cX10_triedSteps 37 = .ok (.athrow, 1) := by decide +kernel
theorem dX10_triedSteps_38 : decode cX10_triedSteps 38 = .ok (.aload_n 0, 1) := by decide +kernel
theorem dX10_triedSteps_39 : decode cX10_triedSteps 39 = .ok (.iload_n 1, 1) := by decide +kernel
theorem dX10_triedSteps_40 : decode cX10_triedSteps 40 = .ok (.invokevirtual 160, 3) := by decide +kernel
theorem dX10_triedSteps_43 : decode cX10_triedSteps 43 = .ok (.getfield 164, 3) := by decide +kernel
theorem dX10_triedSteps_46 : decode cX10_triedSteps 46 = .ok (.ireturn, 1) := by decide +kernel
theorem dX10_start_0 : decode cX10_start 0 = .ok (.aload_n 0, 1) := by decide +kernel
theorem dX10_start_1 : decode cX10_start 1 = .ok (.getfield 12, 3) := by decide +kernel
theorem dX10_start_4 : decode cX10_start 4 = .ok (.iload_n 1, 1) := by decide +kernel
theorem dX10_start_5 : decode cX10_start 5 = .ok (.invokevirtual 72, 3) := by decide +kernel
theorem dX10_start_8 : decode cX10_start 8 = .ok (.ifCond .ne 13, 3) := by decide +kernel
theorem dX10_start_11 : decode cX10_start 11 = .ok (.new 41, 3) := by decide +kernel
theorem dX10_start_14 : decode cX10_start 14 = .ok (.dup, 1) := by decide +kernel
theorem dX10_start_15 : decode cX10_start 15 = .ok (.ldc 43, 2) := by decide +kernel
theorem dX10_start_17 : decode cX10_start 17 = .ok (.invokespecial 45, 3) := by decide +kernel
theorem dX10_start_20 : decode cX10_start 20 = .ok (.athrow, 1) := by decide +kernel
theorem dX10_start_21 : decode cX10_start 21 = .ok (.aload_n 0, 1) := by decide +kernel
theorem dX10_start_22 : decode cX10_start 22 = .ok (.invokevirtual 80, 3) := by decide +kernel
theorem dX10_start_25 : decode cX10_start 25 = .ok (.ifCond .eq 13, 3) := by decide +kernel
theorem dX10_start_28 : decode cX10_start 28 = .ok (.new 59, 3) := by decide +kernel
theorem dX10_start_31 : decode cX10_start 31 = .ok (.dup, 1) := by decide +kernel
theorem dX10_start_32 : decode cX10_start 32 = .ok (.ldc 84, 2) := by decide +kernel
theorem dX10_start_34 : decode cX10_start 34 = .ok (.invokespecial 63, 3) := by decide +kernel
theorem dX10_start_37 : decode cX10_start 37 = .ok (.athrow, 1) := by decide +kernel
theorem dX10_start_38 : decode cX10_start 38 = .ok (.aload_n 0, 1) := by decide +kernel
theorem dX10_start_39 : decode cX10_start 39 = .ok (.invokevirtual 143, 3) := by decide +kernel
theorem dX10_start_42 : decode cX10_start 42 = .ok (.iload_n 1, 1) := by decide +kernel
theorem dX10_start_43 : decode cX10_start 43 = .ok (.aload_n 0, 1) := by decide +kernel
theorem dX10_start_44 : decode cX10_start 44 = .ok (.getfield 33, 3) := by decide +kernel
theorem dX10_start_47 : decode cX10_start 47 = .ok (.aload_n 0, 1) := by decide +kernel
theorem dX10_start_48 : decode cX10_start 48 = .ok (.getfield 26, 3) := by decide +kernel
theorem dX10_start_51 : decode cX10_start 51 = .ok (.invokevirtual 147, 3) := by decide +kernel
theorem dX10_start_54 : decode cX10_start 54 = .ok (.return_, 1) := by decide +kernel
theorem dX10_step_0 : decode cX10_step 0 = .ok (.iload_n 1, 1) := by decide +kernel
theorem dX10_step_1 : decode cX10_step 1 = .ok (.invokestatic 119, 3) := by decide +kernel
theorem dX10_step_4 : decode cX10_step 4 = .ok (.ifCond .ne 13, 3) := by decide +kernel
theorem dX10_step_7 : decode cX10_step 7 = .ok (.new 51, 3) := by decide +kernel
theorem dX10_step_10 : decode cX10_step 10 = .ok (.dup, 1) := by decide +kernel
theorem dX10_step_11 : decode cX10_step 11 = .ok (.ldc 122, 2) := by decide +kernel
theorem dX10_step_13 : decode cX10_step 13 = .ok (.invokespecial 55, 3) := by decide +kernel
theorem dX10_step_16 : decode cX10_step 16 = .ok (.athrow, 1) := by decide +kernel
theorem dX10_step_17 : decode cX10_step 17 = .ok (.aload_n 0, 1) := by decide +kernel
theorem dX10_step_18 : decode cX10_step 18 = .ok (.invokevirtual 167, 3) := by decide +kernel
theorem dX10_step_21 : decode cX10_step 21 = .ok (.astore_n 2, 1) := by decide +kernel
theorem dX10_step_22 : decode cX10_step 22 = .ok (.aload_n 2, 1) := by decide +kernel
theorem dX10_step_23 : decode cX10_step 23 = .ok (.ifnonnull 13, 3) := by decide +kernel
theorem dX10_step_26 : decode cX10_step 26 = .ok (.new 59, 3) := by decide +kernel
theorem dX10_step_29 : decode cX10_step 29 = .ok (.dup, 1) := by decide +kernel
theorem dX10_step_30 : decode cX10_step 30 = .ok (.ldc 170, 2) := by decide +kernel
theorem dX10_step_32 : decode cX10_step 32 = .ok (.invokespecial 63, 3) := by decide +kernel
theorem dX10_step_35 : decode cX10_step 35 = .ok (.athrow, 1) := by decide +kernel
theorem dX10_step_36 : decode cX10_step 36 = .ok (.aload_n 2, 1) := by decide +kernel
theorem dX10_step_37 : decode cX10_step 37 = .ok (.iload_n 1, 1) := by decide +kernel
theorem dX10_step_38 : decode cX10_step 38 = .ok (.iconst 1, 1) := by decide +kernel
theorem dX10_step_39 : decode cX10_step 39 = .ok (.invokevirtual 153, 3) := by decide +kernel
theorem dX10_step_42 : decode cX10_step 42 = .ok (.ireturn, 1) := by decide +kernel
theorem dX10_giveUp_0 : decode cX10_giveUp 0 = .ok (.aload_n 0, 1) := by decide +kernel
theorem dX10_giveUp_1 : decode cX10_giveUp 1 = .ok (.invokevirtual 167, 3) := by decide +kernel
theorem dX10_giveUp_4 : decode cX10_giveUp 4 = .ok (.astore_n 1, 1) := by decide +kernel
theorem dX10_giveUp_5 : decode cX10_giveUp 5 = .ok (.aload_n 1, 1) := by decide +kernel
theorem dX10_giveUp_6 : decode cX10_giveUp 6 = .ok (.ifnonnull 13, 3) := by decide +kernel
theorem dX10_giveUp_9 : decode cX10_giveUp 9 = .ok (.new 59, 3) := by decide +kernel
theorem dX10_giveUp_12 : decode cX10_giveUp 12 = .ok (.dup, 1) := by decide +kernel
theorem dX10_giveUp_13 : decode cX10_giveUp 13 = .ok (.ldc 170, 2) := by decide +kernel
theorem dX10_giveUp_15 : decode cX10_giveUp 15 = .ok (.invokespecial 63, 3) := by decide +kernel
theorem dX10_giveUp_18 : decode cX10_giveUp 18 = .ok (.athrow, 1) := by decide +kernel
theorem dX10_giveUp_19 : decode cX10_giveUp 19 = .ok (.aload_n 1, 1) := by decide +kernel
theorem dX10_giveUp_20 : decode cX10_giveUp 20 = .ok (.invokevirtual 172, 3) := by decide +kernel
theorem dX10_giveUp_23 : decode cX10_giveUp 23 = .ok (.ireturn, 1) := by decide +kernel
theorem dX10_breakAt_0 : decode cX10_breakAt 0 = .ok (.aload_n 0, 1) := by decide +kernel
theorem dX10_breakAt_1 : decode cX10_breakAt 1 = .ok (.getfield 12, 3) := by decide +kernel
theorem dX10_breakAt_4 : decode cX10_breakAt 4 = .ok (.iload_n 1, 1) := by decide +kernel
theorem dX10_breakAt_5 : decode cX10_breakAt 5 = .ok (.invokevirtual 72, 3) := by decide +kernel
theorem dX10_breakAt_8 : decode cX10_breakAt 8 = .ok (.ifCond .ne 13, 3) := by decide +kernel
theorem dX10_breakAt_11 : decode cX10_breakAt 11 = .ok (.new 41, 3) := by decide +kernel
theorem dX10_breakAt_14 : decode cX10_breakAt 14 = .ok (.dup, 1) := by decide +kernel
theorem dX10_breakAt_15 : decode cX10_breakAt 15 = .ok (.ldc 43, 2) := by decide +kernel
theorem dX10_breakAt_17 : decode cX10_breakAt 17 = .ok (.invokespecial 45, 3) := by decide +kernel
theorem dX10_breakAt_20 : decode cX10_breakAt 20 = .ok (.athrow, 1) := by decide +kernel
theorem dX10_breakAt_21 : decode cX10_breakAt 21 = .ok (.aload_n 0, 1) := by decide +kernel
theorem dX10_breakAt_22 : decode cX10_breakAt 22 = .ok (.getfield 12, 3) := by decide +kernel
theorem dX10_breakAt_25 : decode cX10_breakAt 25 = .ok (.getfield 176, 3) := by decide +kernel
theorem dX10_breakAt_28 : decode cX10_breakAt 28 = .ok (.iload_n 1, 1) := by decide +kernel
theorem dX10_breakAt_29 : decode cX10_breakAt 29 = .ok (.invokevirtual 90, 3) := by decide +kernel
theorem dX10_breakAt_32 : decode cX10_breakAt 32 = .ok (.iconst 1, 1) := by decide +kernel
theorem dX10_breakAt_33 : decode cX10_breakAt 33 = .ok (.if_icmp .ne 7, 3) := by decide +kernel
theorem dX10_breakAt_36 : decode cX10_breakAt 36 = .ok (.iconst 1, 1) := by decide +kernel
theorem dX10_breakAt_37 : decode cX10_breakAt 37 = .ok (.goto 4, 3) := by decide +kernel
theorem dX10_breakAt_40 : decode cX10_breakAt 40 = .ok (.iconst 0, 1) := by decide +kernel
theorem dX10_breakAt_41 : decode cX10_breakAt 41 = .ok (.istore_n 3, 1) := by decide +kernel
theorem dX10_breakAt_42 : decode cX10_breakAt 42 = .ok (.aload_n 0, 1) := by decide +kernel
theorem dX10_breakAt_43 : decode cX10_breakAt 43 = .ok (.getfield 12, 3) := by decide +kernel
theorem dX10_breakAt_46 : decode cX10_breakAt 46 = .ok (.getfield 176, 3) := by decide +kernel
theorem dX10_breakAt_49 : decode cX10_breakAt 49 = .ok (.iload_n 1, 1) := by decide +kernel
theorem dX10_breakAt_50 : decode cX10_breakAt 50 = .ok (.iload_n 2, 1) := by decide +kernel
theorem dX10_breakAt_51 : decode cX10_breakAt 51 = .ok (.ifCond .eq 7, 3) := by decide +kernel
theorem dX10_breakAt_54 : decode cX10_breakAt 54 = .ok (.iconst 1, 1) := by decide +kernel
theorem dX10_breakAt_55 : decode cX10_breakAt 55 = .ok (.goto 4, 3) := by decide +kernel
theorem dX10_breakAt_58 : decode cX10_breakAt 58 = .ok (.iconst 0, 1) := by decide +kernel
theorem dX10_breakAt_59 : decode cX10_breakAt 59 = .ok (.invokevirtual 96, 3) := by decide +kernel
theorem dX10_breakAt_62 : decode cX10_breakAt 62 = .ok (.iload_n 3, 1) := by decide +kernel
theorem dX10_breakAt_63 : decode cX10_breakAt 63 = .ok (.ireturn, 1) := by decide +kernel
theorem dX10_next_0 : decode cX10_next 0 = .ok (.aload_n 0, 1) := by decide +kernel
theorem dX10_next_1 : decode cX10_next 1 = .ok (.invokevirtual 167, 3) := by decide +kernel
theorem dX10_next_4 : decode cX10_next 4 = .ok (.astore_n 1, 1) := by decide +kernel
theorem dX10_next_5 : decode cX10_next 5 = .ok (.aload_n 1, 1) := by decide +kernel
theorem dX10_next_6 : decode cX10_next 6 = .ok (.ifnonnull 7, 3) := by decide +kernel
theorem dX10_next_9 : decode cX10_next 9 = .ok (.iconst (-1), 1) := by decide +kernel
theorem dX10_next_10 : decode cX10_next 10 = .ok (.goto 7, 3) := by decide +kernel
theorem dX10_next_13 : decode cX10_next 13 = .ok (.aload_n 1, 1) := by decide +kernel
theorem dX10_next_14 : decode cX10_next 14 = .ok (.invokevirtual 179, 3) := by decide +kernel
theorem dX10_next_17 : decode cX10_next 17 = .ok (.ireturn, 1) := by decide +kernel
theorem dX10_look_0 : decode cX10_look 0 = .ok (.iload_n 1, 1) := by decide +kernel
theorem dX10_look_1 : decode cX10_look 1 = .ok (.bipush 8, 2) := by decide +kernel
theorem dX10_look_3 : decode cX10_look 3 = .ok (.invokestatic 68, 3) := by decide +kernel
theorem dX10_look_6 : decode cX10_look 6 = .ok (.ifCond .ne 13, 3) := by decide +kernel
theorem dX10_look_9 : decode cX10_look 9 = .ok (.new 41, 3) := by decide +kernel
theorem dX10_look_12 : decode cX10_look 12 = .ok (.dup, 1) := by decide +kernel
theorem dX10_look_13 : decode cX10_look 13 = .ok (.ldc 182, 2) := by decide +kernel
theorem dX10_look_15 : decode cX10_look 15 = .ok (.invokespecial 45, 3) := by decide +kernel
theorem dX10_look_18 : decode cX10_look 18 = .ok (.athrow, 1) := by decide +kernel
theorem dX10_look_19 : decode cX10_look 19 = .ok (.aload_n 0, 1) := by decide +kernel
theorem dX10_look_20 : decode cX10_look 20 = .ok (.invokevirtual 167, 3) := by decide +kernel
theorem dX10_look_23 : decode cX10_look 23 = .ok (.astore_n 2, 1) := by decide +kernel
theorem dX10_look_24 : decode cX10_look 24 = .ok (.aload_n 2, 1) := by decide +kernel
theorem dX10_look_25 : decode cX10_look 25 = .ok (.ifnonnull 13, 3) := by decide +kernel
theorem dX10_look_28 : decode cX10_look 28 = .ok (.new 59, 3) := by decide +kernel
theorem dX10_look_31 : decode cX10_look 31 = .ok (.dup, 1) := by decide +kernel
theorem dX10_look_32 : decode cX10_look 32 = .ok (.ldc 170, 2) := by decide +kernel
theorem dX10_look_34 : decode cX10_look 34 = .ok (.invokespecial 63, 3) := by decide +kernel
theorem dX10_look_37 : decode cX10_look 37 = .ok (.athrow, 1) := by decide +kernel
theorem dX10_look_38 : decode cX10_look 38 = .ok (.aload_n 2, 1) := by decide +kernel
theorem dX10_look_39 : decode cX10_look 39 = .ok (.iload_n 1, 1) := by decide +kernel
theorem dX10_look_40 : decode cX10_look 40 = .ok (.invokevirtual 184, 3) := by decide +kernel
theorem dX10_look_43 : decode cX10_look 43 = .ok (.ireturn, 1) := by decide +kernel
theorem dX10_active_0 : decode cX10_active 0 = .ok (.aload_n 0, 1) := by decide +kernel
theorem dX10_active_1 : decode cX10_active 1 = .ok (.invokevirtual 167, 3) := by decide +kernel
theorem dX10_active_4 : decode cX10_active 4 = .ok (.astore_n 1, 1) := by decide +kernel
theorem dX10_active_5 : decode cX10_active 5 = .ok (.aload_n 1, 1) := by decide +kernel
theorem dX10_active_6 : decode cX10_active 6 = .ok (.ifnonnull 7, 3) := by decide +kernel
theorem dX10_active_9 : decode cX10_active 9 = .ok (.iconst 0, 1) := by decide +kernel
theorem dX10_active_10 : decode cX10_active 10 = .ok (.goto 7, 3) := by decide +kernel
theorem dX10_active_13 : decode cX10_active 13 = .ok (.aload_n 1, 1) := by decide +kernel
theorem dX10_active_14 : decode cX10_active 14 = .ok (.getfield 187, 3) := by decide +kernel
theorem dX10_active_17 : decode cX10_active 17 = .ok (.ireturn, 1) := by decide +kernel
theorem dX10_outcome_0 : decode cX10_outcome 0 = .ok (.aload_n 0, 1) := by decide +kernel
theorem dX10_outcome_1 : decode cX10_outcome 1 = .ok (.getfield 26, 3) := by decide +kernel
theorem dX10_outcome_4 : decode cX10_outcome 4 = .ok (.getfield 157, 3) := by decide +kernel
theorem dX10_outcome_7 : decode cX10_outcome 7 = .ok (.ireturn, 1) := by decide +kernel
theorem dX10_steps_0 : decode cX10_steps 0 = .ok (.aload_n 0, 1) := by decide +kernel
theorem dX10_steps_1 : decode cX10_steps 1 = .ok (.getfield 26, 3) := by decide +kernel
theorem dX10_steps_4 : decode cX10_steps 4 = .ok (.getfield 164, 3) := by decide +kernel
theorem dX10_steps_7 : decode cX10_steps 7 = .ok (.ireturn, 1) := by decide +kernel
theorem dX10_cause_0 : decode cX10_cause 0 = .ok (.aload_n 0, 1) := by decide +kernel
theorem dX10_cause_1 : decode cX10_cause 1 = .ok (.getfield 26, 3) := by decide +kernel
theorem dX10_cause_4 : decode cX10_cause 4 = .ok (.getfield 190, 3) := by decide +kernel
theorem dX10_cause_7 : decode cX10_cause 7 = .ok (.ireturn, 1) := by decide +kernel
theorem dX10_traced_0 : decode cX10_traced 0 = .ok (.aload_n 0, 1) := by decide +kernel
theorem dX10_traced_1 : decode cX10_traced 1 = .ok (.getfield 26, 3) := by decide +kernel
theorem dX10_traced_4 : decode cX10_traced 4 = .ok (.getfield 193, 3) := by decide +kernel
theorem dX10_traced_7 : decode cX10_traced 7 = .ok (.ireturn, 1) := by decide +kernel
theorem dX10_traceAt_0 : decode cX10_traceAt 0 = .ok (.iload_n 1, 1) := by decide +kernel
theorem dX10_traceAt_1 : decode cX10_traceAt 1 = .ok (.aload_n 0, 1) := by decide +kernel
theorem dX10_traceAt_2 : decode cX10_traceAt 2 = .ok (.getfield 26, 3) := by decide +kernel
theorem dX10_traceAt_5 : decode cX10_traceAt 5 = .ok (.getfield 193, 3) := by decide +kernel
theorem dX10_traceAt_8 : decode cX10_traceAt 8 = .ok (.invokestatic 68, 3) := by decide +kernel
theorem dX10_traceAt_11 : decode cX10_traceAt 11 = .ok (.ifCond .ne 13, 3) := by decide +kernel
theorem dX10_traceAt_14 : decode cX10_traceAt 14 = .ok (.new 41, 3) := by decide +kernel
theorem dX10_traceAt_17 : decode cX10_traceAt 17 = .ok (.dup, 1) := by decide +kernel
theorem dX10_traceAt_18 : decode cX10_traceAt 18 = .ok (.ldc 194, 2) := by decide +kernel
theorem dX10_traceAt_20 : decode cX10_traceAt 20 = .ok (.invokespecial 45, 3) := by decide +kernel
theorem dX10_traceAt_23 : decode cX10_traceAt 23 = .ok (.athrow, 1) := by decide +kernel
theorem dX10_traceAt_24 : decode cX10_traceAt 24 = .ok (.aload_n 0, 1) := by decide +kernel
theorem dX10_traceAt_25 : decode cX10_traceAt 25 = .ok (.getfield 26, 3) := by decide +kernel
theorem dX10_traceAt_28 : decode cX10_traceAt 28 = .ok (.getfield 196, 3) := by decide +kernel
theorem dX10_traceAt_31 : decode cX10_traceAt 31 = .ok (.iload_n 1, 1) := by decide +kernel
theorem dX10_traceAt_32 : decode cX10_traceAt 32 = .ok (.invokevirtual 90, 3) := by decide +kernel
theorem dX10_traceAt_35 : decode cX10_traceAt 35 = .ok (.ireturn, 1) := by decide +kernel
theorem dX10_buffer_0 : decode cX10_buffer 0 = .ok (.aload_n 0, 1) := by decide +kernel
theorem dX10_buffer_1 : decode cX10_buffer 1 = .ok (.getfield 19, 3) := by decide +kernel
theorem dX10_buffer_4 : decode cX10_buffer 4 = .ok (.getfield 199, 3) := by decide +kernel
theorem dX10_buffer_7 : decode cX10_buffer 7 = .ok (.ireturn, 1) := by decide +kernel
theorem dX10_length_0 : decode cX10_length 0 = .ok (.iload_n 1, 1) := by decide +kernel
theorem dX10_length_1 : decode cX10_length 1 = .ok (.iconst 2, 1) := by decide +kernel
theorem dX10_length_2 : decode cX10_length 2 = .ok (.invokestatic 68, 3) := by decide +kernel
theorem dX10_length_5 : decode cX10_length 5 = .ok (.ifCond .ne 13, 3) := by decide +kernel
theorem dX10_length_8 : decode cX10_length 8 = .ok (.new 41, 3) := by decide +kernel
theorem dX10_length_11 : decode cX10_length 11 = .ok (.dup, 1) := by decide +kernel
theorem dX10_length_12 : decode cX10_length 12 = .ok (.ldc 124, 2) := by decide +kernel
theorem dX10_length_14 : decode cX10_length 14 = .ok (.invokespecial 45, 3) := by decide +kernel
theorem dX10_length_17 : decode cX10_length 17 = .ok (.athrow, 1) := by decide +kernel
theorem dX10_length_18 : decode cX10_length 18 = .ok (.aload_n 0, 1) := by decide +kernel
theorem dX10_length_19 : decode cX10_length 19 = .ok (.getfield 19, 3) := by decide +kernel
theorem dX10_length_22 : decode cX10_length 22 = .ok (.iload_n 1, 1) := by decide +kernel
theorem dX10_length_23 : decode cX10_length 23 = .ok (.invokevirtual 128, 3) := by decide +kernel
theorem dX10_length_26 : decode cX10_length 26 = .ok (.getfield 132, 3) := by decide +kernel
theorem dX10_length_29 : decode cX10_length 29 = .ok (.ireturn, 1) := by decide +kernel
theorem dX10_letter_0 : decode cX10_letter 0 = .ok (.iload_n 1, 1) := by decide +kernel
theorem dX10_letter_1 : decode cX10_letter 1 = .ok (.iconst 2, 1) := by decide +kernel
theorem dX10_letter_2 : decode cX10_letter 2 = .ok (.invokestatic 68, 3) := by decide +kernel
theorem dX10_letter_5 : decode cX10_letter 5 = .ok (.ifCond .eq 21, 3) := by decide +kernel
theorem dX10_letter_8 : decode cX10_letter 8 = .ok (.iload_n 2, 1) := by decide +kernel
theorem dX10_letter_9 : decode cX10_letter 9 = .ok (.aload_n 0, 1) := by decide +kernel
theorem dX10_letter_10 : decode cX10_letter 10 = .ok (.getfield 19, 3) := by decide +kernel
theorem dX10_letter_13 : decode cX10_letter 13 = .ok (.iload_n 1, 1) := by decide +kernel
theorem dX10_letter_14 : decode cX10_letter 14 = .ok (.invokevirtual 128, 3) := by decide +kernel
theorem dX10_letter_17 : decode cX10_letter 17 = .ok (.getfield 132, 3) := by decide +kernel
theorem dX10_letter_20 : decode cX10_letter 20 = .ok (.invokestatic 68, 3) := by decide +kernel
theorem dX10_letter_23 : decode cX10_letter 23 = .ok (.ifCond .ne 13, 3) := by decide +kernel
theorem dX10_letter_26 : decode cX10_letter 26 = .ok (.new 41, 3) := by decide +kernel
theorem dX10_letter_29 : decode cX10_letter 29 = .ok (.dup, 1) := by decide +kernel
theorem dX10_letter_30 : decode cX10_letter 30 = .ok (.ldc 202, 2) := by decide +kernel
theorem dX10_letter_32 : decode cX10_letter 32 = .ok (.invokespecial 45, 3) := by decide +kernel
theorem dX10_letter_35 : decode cX10_letter 35 = .ok (.athrow, 1) := by decide +kernel
theorem dX10_letter_36 : decode cX10_letter 36 = .ok (.aload_n 0, 1) := by decide +kernel
theorem dX10_letter_37 : decode cX10_letter 37 = .ok (.getfield 19, 3) := by decide +kernel
theorem dX10_letter_40 : decode cX10_letter 40 = .ok (.iload_n 1, 1) := by decide +kernel
theorem dX10_letter_41 : decode cX10_letter 41 = .ok (.invokevirtual 128, 3) := by decide +kernel
theorem dX10_letter_44 : decode cX10_letter 44 = .ok (.getfield 204, 3) := by decide +kernel
theorem dX10_letter_47 : decode cX10_letter 47 = .ok (.iload_n 2, 1) := by decide +kernel
theorem dX10_letter_48 : decode cX10_letter 48 = .ok (.invokevirtual 90, 3) := by decide +kernel
theorem dX10_letter_51 : decode cX10_letter 51 = .ok (.ireturn, 1) := by decide +kernel
theorem dX10_cursor_0 : decode cX10_cursor 0 = .ok (.iload_n 1, 1) := by decide +kernel
theorem dX10_cursor_1 : decode cX10_cursor 1 = .ok (.iconst 2, 1) := by decide +kernel
theorem dX10_cursor_2 : decode cX10_cursor 2 = .ok (.invokestatic 68, 3) := by decide +kernel
theorem dX10_cursor_5 : decode cX10_cursor 5 = .ok (.ifCond .eq 11, 3) := by decide +kernel
theorem dX10_cursor_8 : decode cX10_cursor 8 = .ok (.iload_n 2, 1) := by decide +kernel
theorem dX10_cursor_9 : decode cX10_cursor 9 = .ok (.iconst 4, 1) := by decide +kernel
theorem dX10_cursor_10 : decode cX10_cursor 10 = .ok (.invokestatic 68, 3) := by decide +kernel
theorem dX10_cursor_13 : decode cX10_cursor 13 = .ok (.ifCond .ne 13, 3) := by decide +kernel
theorem dX10_cursor_16 : decode cX10_cursor 16 = .ok (.new 41, 3) := by decide +kernel
theorem dX10_cursor_19 : decode cX10_cursor 19 = .ok (.dup, 1) := by decide +kernel
theorem dX10_cursor_20 : decode cX10_cursor 20 = .ok (.ldc 207, 2) := by decide +kernel
theorem dX10_cursor_22 : decode cX10_cursor 22 = .ok (.invokespecial 45, 3) := by decide +kernel
theorem dX10_cursor_25 : decode cX10_cursor 25 = .ok (.athrow, 1) := by decide +kernel
theorem dX10_cursor_26 : decode cX10_cursor 26 = .ok (.aload_n 0, 1) := by decide +kernel
theorem dX10_cursor_27 : decode cX10_cursor 27 = .ok (.getfield 19, 3) := by decide +kernel
theorem dX10_cursor_30 : decode cX10_cursor 30 = .ok (.iload_n 1, 1) := by decide +kernel
theorem dX10_cursor_31 : decode cX10_cursor 31 = .ok (.invokevirtual 128, 3) := by decide +kernel
theorem dX10_cursor_34 : decode cX10_cursor 34 = .ok (.getfield 209, 3) := by decide +kernel
theorem dX10_cursor_37 : decode cX10_cursor 37 = .ok (.iload_n 2, 1) := by decide +kernel
theorem dX10_cursor_38 : decode cX10_cursor 38 = .ok (.invokevirtual 90, 3) := by decide +kernel
theorem dX10_cursor_41 : decode cX10_cursor 41 = .ok (.ireturn, 1) := by decide +kernel
theorem dX10_activeCursor_0 : decode cX10_activeCursor 0 = .ok (.iload_n 1, 1) := by decide +kernel
theorem dX10_activeCursor_1 : decode cX10_activeCursor 1 = .ok (.iconst 2, 1) := by decide +kernel
theorem dX10_activeCursor_2 : decode cX10_activeCursor 2 = .ok (.invokestatic 68, 3) := by decide +kernel
theorem dX10_activeCursor_5 : decode cX10_activeCursor 5 = .ok (.ifCond .ne 13, 3) := by decide +kernel
theorem dX10_activeCursor_8 : decode cX10_activeCursor 8 = .ok (.new 41, 3) := by decide +kernel
theorem dX10_activeCursor_11 : decode cX10_activeCursor 11 = .ok (.dup, 1) := by decide +kernel
theorem dX10_activeCursor_12 : decode cX10_activeCursor 12 = .ok (.ldc 124, 2) := by decide +kernel
theorem dX10_activeCursor_14 : decode cX10_activeCursor 14 = .ok (.invokespecial 45, 3) := by decide +kernel
theorem dX10_activeCursor_17 : decode cX10_activeCursor 17 = .ok (.athrow, 1) := by decide +kernel
theorem dX10_activeCursor_18 : decode cX10_activeCursor 18 = .ok (.aload_n 0, 1) := by decide +kernel
theorem dX10_activeCursor_19 : decode cX10_activeCursor 19 = .ok (.getfield 19, 3) := by decide +kernel
theorem dX10_activeCursor_22 : decode cX10_activeCursor 22 = .ok (.iload_n 1, 1) := by decide +kernel
theorem dX10_activeCursor_23 : decode cX10_activeCursor 23 = .ok (.invokevirtual 128, 3) := by decide +kernel
theorem dX10_activeCursor_26 : decode cX10_activeCursor 26 = .ok (.getfield 212, 3) := by decide +kernel
theorem dX10_activeCursor_29 : decode cX10_activeCursor 29 = .ok (.ireturn, 1) := by decide +kernel
theorem dX10_option_0 : decode cX10_option 0 = .ok (.iload_n 1, 1) := by decide +kernel
theorem dX10_option_1 : decode cX10_option 1 = .ok (.iconst 4, 1) := by decide +kernel
theorem dX10_option_2 : decode cX10_option 2 = .ok (.invokestatic 68, 3) := by decide +kernel
theorem dX10_option_5 : decode cX10_option 5 = .ok (.ifCond .ne 13, 3) := by decide +kernel
theorem dX10_option_8 : decode cX10_option 8 = .ok (.new 41, 3) := by decide +kernel
theorem dX10_option_11 : decode cX10_option 11 = .ok (.dup, 1) := by decide +kernel
theorem dX10_option_12 : decode cX10_option 12 = .ok (.ldc 109, 2) := by decide +kernel
theorem dX10_option_14 : decode cX10_option 14 = .ok (.invokespecial 45, 3) := by decide +kernel
theorem dX10_option_17 : decode cX10_option 17 = .ok (.athrow, 1) := by decide +kernel
theorem dX10_option_18 : decode cX10_option 18 = .ok (.aload_n 0, 1) := by decide +kernel
theorem dX10_option_19 : decode cX10_option 19 = .ok (.getfield 19, 3) := by decide +kernel
theorem dX10_option_22 : decode cX10_option 22 = .ok (.getfield 116, 3) := by decide +kernel
theorem dX10_option_25 : decode cX10_option 25 = .ok (.iload_n 1, 1) := by decide +kernel
theorem dX10_option_26 : decode cX10_option 26 = .ok (.invokevirtual 90, 3) := by decide +kernel
theorem dX10_option_29 : decode cX10_option 29 = .ok (.ireturn, 1) := by decide +kernel
theorem dX10_register_0 : decode cX10_register 0 = .ok (.iload_n 1, 1) := by decide +kernel
theorem dX10_register_1 : decode cX10_register 1 = .ok (.iconst 4, 1) := by decide +kernel
theorem dX10_register_2 : decode cX10_register 2 = .ok (.invokestatic 68, 3) := by decide +kernel
theorem dX10_register_5 : decode cX10_register 5 = .ok (.ifCond .ne 13, 3) := by decide +kernel
theorem dX10_register_8 : decode cX10_register 8 = .ok (.new 41, 3) := by decide +kernel
theorem dX10_register_11 : decode cX10_register 11 = .ok (.dup, 1) := by decide +kernel
theorem dX10_register_12 : decode cX10_register 12 = .ok (.ldc 215, 2) := by decide +kernel
theorem dX10_register_14 : decode cX10_register 14 = .ok (.invokespecial 45, 3) := by decide +kernel
theorem dX10_register_17 : decode cX10_register 17 = .ok (.athrow, 1) := by decide +kernel
theorem dX10_register_18 : decode cX10_register 18 = .ok (.aload_n 0, 1) := by decide +kernel
theorem dX10_register_19 : decode cX10_register 19 = .ok (.getfield 19, 3) := by decide +kernel
theorem dX10_register_22 : decode cX10_register 22 = .ok (.getfield 217, 3) := by decide +kernel
theorem dX10_register_25 : decode cX10_register 25 = .ok (.iload_n 1, 1) := by decide +kernel
theorem dX10_register_26 : decode cX10_register 26 = .ok (.invokevirtual 90, 3) := by decide +kernel
theorem dX10_register_29 : decode cX10_register 29 = .ok (.ireturn, 1) := by decide +kernel
theorem dX10_body_0 : decode cX10_body 0 = .ok (.iload_n 1, 1) := by decide +kernel
theorem dX10_body_1 : decode cX10_body 1 = .ok (.bipush 6, 2) := by decide +kernel
theorem dX10_body_3 : decode cX10_body 3 = .ok (.invokestatic 68, 3) := by decide +kernel
theorem dX10_body_6 : decode cX10_body 6 = .ok (.ifCond .ne 13, 3) := by decide +kernel
theorem dX10_body_9 : decode cX10_body 9 = .ok (.new 41, 3) := by decide +kernel
theorem dX10_body_12 : decode cX10_body 12 = .ok (.dup, 1) := by decide +kernel
theorem dX10_body_13 : decode cX10_body 13 = .ok (.ldc 220, 2) := by decide +kernel
theorem dX10_body_15 : decode cX10_body 15 = .ok (.invokespecial 45, 3) := by decide +kernel
theorem dX10_body_18 : decode cX10_body 18 = .ok (.athrow, 1) := by decide +kernel
theorem dX10_body_19 : decode cX10_body 19 = .ok (.aload_n 0, 1) := by decide +kernel
theorem dX10_body_20 : decode cX10_body 20 = .ok (.getfield 19, 3) := by decide +kernel
theorem dX10_body_23 : decode cX10_body 23 = .ok (.getfield 86, 3) := by decide +kernel
theorem dX10_body_26 : decode cX10_body 26 = .ok (.iload_n 1, 1) := by decide +kernel
theorem dX10_body_27 : decode cX10_body 27 = .ok (.invokevirtual 90, 3) := by decide +kernel
theorem dX10_body_30 : decode cX10_body 30 = .ok (.ireturn, 1) := by decide +kernel
theorem dX10_hook_0 : decode cX10_hook 0 = .ok (.aload_n 0, 1) := by decide +kernel
theorem dX10_hook_1 : decode cX10_hook 1 = .ok (.getfield 19, 3) := by decide +kernel
theorem dX10_hook_4 : decode cX10_hook 4 = .ok (.getfield 222, 3) := by decide +kernel
theorem dX10_hook_7 : decode cX10_hook 7 = .ok (.ireturn, 1) := by decide +kernel
theorem dX10_isStepped_0 : decode cX10_isStepped 0 = .ok (.aload_n 0, 1) := by decide +kernel
theorem dX10_isStepped_1 : decode cX10_isStepped 1 = .ok (.invokevirtual 167, 3) := by decide +kernel
theorem dX10_isStepped_4 : decode cX10_isStepped 4 = .ok (.ifnull 7, 3) := by decide +kernel
theorem dX10_isStepped_7 : decode cX10_isStepped 7 = .ok (.iconst 1, 1) := by decide +kernel
theorem dX10_isStepped_8 : decode cX10_isStepped 8 = .ok (.goto 4, 3) := by decide +kernel
theorem dX10_isStepped_11 : decode cX10_isStepped 11 = .ok (.iconst 0, 1) := by decide +kernel
theorem dX10_isStepped_12 : decode cX10_isStepped 12 = .ok (.ireturn, 1) := by decide +kernel
theorem dX10_steppedMachine_0 : decode cX10_steppedMachine 0 = .ok (.aload_n 0, 1) := by decide +kernel
theorem dX10_steppedMachine_1 : decode cX10_steppedMachine 1 = .ok (.getfield 225, 3) := by decide +kernel
theorem dX10_steppedMachine_4 : decode cX10_steppedMachine 4 = .ok (.ifnull 20, 3) := by decide +kernel
theorem dX10_steppedMachine_7 : decode cX10_steppedMachine 7 = .ok (.aload_n 0, 1) := by decide +kernel
theorem dX10_steppedMachine_8 : decode cX10_steppedMachine 8 = .ok (.getfield 225, 3) := by decide +kernel
theorem dX10_steppedMachine_11 : decode cX10_steppedMachine 11 = .ok (.getfield 229, 3) := by decide +kernel
theorem dX10_steppedMachine_14 : decode cX10_steppedMachine 14 = .ok (.ifCond .eq 10, 3) := by decide +kernel
theorem dX10_steppedMachine_17 : decode cX10_steppedMachine 17 = .ok (.aload_n 0, 1) := by decide +kernel
theorem dX10_steppedMachine_18 : decode cX10_steppedMachine 18 = .ok (.getfield 225, 3) := by decide +kernel
theorem dX10_steppedMachine_21 : decode cX10_steppedMachine 21 = .ok (.goto 4, 3) := by decide +kernel
theorem dX10_steppedMachine_24 : decode cX10_steppedMachine 24 = .ok (.aconst_null, 1) := by decide +kernel
theorem dX10_steppedMachine_25 : decode cX10_steppedMachine 25 = .ok (.areturn, 1) := by decide +kernel
theorem dX10_readyMachine_0 : decode cX10_readyMachine 0 = .ok (.aload_n 0, 1) := by decide +kernel
theorem dX10_readyMachine_1 : decode cX10_readyMachine 1 = .ok (.getfield 225, 3) := by decide +kernel
theorem dX10_readyMachine_4 : decode cX10_readyMachine 4 = .ok (.ifnonnull 26, 3) := by decide +kernel
theorem dX10_readyMachine_7 : decode cX10_readyMachine 7 = .ok (.aload_n 0, 1) := by decide +kernel
theorem dX10_readyMachine_8 : decode cX10_readyMachine 8 = .ok (.new 148, 3) := by decide +kernel
theorem dX10_readyMachine_11 : decode cX10_readyMachine 11 = .ok (.dup, 1) := by decide +kernel
theorem dX10_readyMachine_12 : decode cX10_readyMachine 12 = .ok (.aload_n 0, 1) := by decide +kernel
theorem dX10_readyMachine_13 : decode cX10_readyMachine 13 = .ok (.getfield 12, 3) := by decide +kernel
theorem dX10_readyMachine_16 : decode cX10_readyMachine 16 = .ok (.aload_n 0, 1) := by decide +kernel
theorem dX10_readyMachine_17 : decode cX10_readyMachine 17 = .ok (.getfield 19, 3) := by decide +kernel
theorem dX10_readyMachine_20 : decode cX10_readyMachine 20 = .ok (.aload_n 0, 1) := by decide +kernel
theorem dX10_readyMachine_21 : decode cX10_readyMachine 21 = .ok (.getfield 30, 3) := by decide +kernel
theorem dX10_readyMachine_24 : decode cX10_readyMachine 24 = .ok (.invokespecial 233, 3) := by decide +kernel
theorem dX10_readyMachine_27 : decode cX10_readyMachine 27 = .ok (.putfield 225, 3) := by decide +kernel
theorem dX10_readyMachine_30 : decode cX10_readyMachine 30 = .ok (.aload_n 0, 1) := by decide +kernel
theorem dX10_readyMachine_31 : decode cX10_readyMachine 31 = .ok (.getfield 225, 3) := by decide +kernel
theorem dX10_readyMachine_34 : decode cX10_readyMachine 34 = .ok (.areturn, 1) := by decide +kernel
theorem dX10_tryOut_0 : decode cX10_tryOut 0 = .ok (.aload_n 0, 1) := by decide +kernel
theorem dX10_tryOut_1 : decode cX10_tryOut 1 = .ok (.invokevirtual 143, 3) := by decide +kernel
theorem dX10_tryOut_4 : decode cX10_tryOut 4 = .ok (.astore_n 2, 1) := by decide +kernel
theorem dX10_tryOut_5 : decode cX10_tryOut 5 = .ok (.aload_n 2, 1) := by decide +kernel
theorem dX10_tryOut_6 : decode cX10_tryOut 6 = .ok (.iload_n 1, 1) := by decide +kernel
theorem dX10_tryOut_7 : decode cX10_tryOut 7 = .ok (.aload_n 0, 1) := by decide +kernel
theorem dX10_tryOut_8 : decode cX10_tryOut 8 = .ok (.getfield 33, 3) := by decide +kernel
theorem dX10_tryOut_11 : decode cX10_tryOut 11 = .ok (.aload_n 0, 1) := by decide +kernel
theorem dX10_tryOut_12 : decode cX10_tryOut 12 = .ok (.getfield 30, 3) := by decide +kernel
theorem dX10_tryOut_15 : decode cX10_tryOut 15 = .ok (.invokevirtual 147, 3) := by decide +kernel
theorem dX10_tryOut_18 : decode cX10_tryOut 18 = .ok (.aload_n 2, 1) := by decide +kernel
theorem dX10_tryOut_19 : decode cX10_tryOut 19 = .ok (.sipush 601, 3) := by decide +kernel
theorem dX10_tryOut_22 : decode cX10_tryOut 22 = .ok (.iconst 0, 1) := by decide +kernel
theorem dX10_tryOut_23 : decode cX10_tryOut 23 = .ok (.invokevirtual 153, 3) := by decide +kernel
theorem dX10_tryOut_26 : decode cX10_tryOut 26 = .ok (.pop, 1) := by decide +kernel
theorem dX10_tryOut_27 : decode cX10_tryOut 27 = .ok (.aload_n 0, 1) := by decide +kernel
theorem dX10_tryOut_28 : decode cX10_tryOut 28 = .ok (.getfield 19, 3) := by decide +kernel
theorem dX10_tryOut_31 : decode cX10_tryOut 31 = .ok (.aload_n 2, 1) := by decide +kernel
theorem dX10_tryOut_32 : decode cX10_tryOut 32 = .ok (.getfield 236, 3) := by decide +kernel
theorem dX10_tryOut_35 : decode cX10_tryOut 35 = .ok (.invokevirtual 239, 3) := by decide +kernel
theorem dX10_tryOut_38 : decode cX10_tryOut 38 = .ok (.aload_n 0, 1) := by decide +kernel
theorem dX10_tryOut_39 : decode cX10_tryOut 39 = .ok (.getfield 30, 3) := by decide +kernel
theorem dX10_tryOut_42 : decode cX10_tryOut 42 = .ok (.areturn, 1) := by decide +kernel
theorem dX10_isBelow_0 : decode cX10_isBelow 0 = .ok (.iload_n 0, 1) := by decide +kernel
theorem dX10_isBelow_1 : decode cX10_isBelow 1 = .ok (.ifCond .lt 12, 3) := by decide +kernel
theorem dX10_isBelow_4 : decode cX10_isBelow 4 = .ok (.iload_n 0, 1) := by decide +kernel
theorem dX10_isBelow_5 : decode cX10_isBelow 5 = .ok (.iload_n 1, 1) := by decide +kernel
theorem dX10_isBelow_6 : decode cX10_isBelow 6 = .ok (.if_icmp .ge 7, 3) := by decide +kernel
theorem dX10_isBelow_9 : decode cX10_isBelow 9 = .ok (.iconst 1, 1) := by decide +kernel
theorem dX10_isBelow_10 : decode cX10_isBelow 10 = .ok (.goto 4, 3) := by decide +kernel
theorem dX10_isBelow_13 : decode cX10_isBelow 13 = .ok (.iconst 0, 1) := by decide +kernel
theorem dX10_isBelow_14 : decode cX10_isBelow 14 = .ok (.ireturn, 1) := by decide +kernel
theorem dX10_isNumber_0 : decode cX10_isNumber 0 = .ok (.iload_n 0, 1) := by decide +kernel
theorem dX10_isNumber_1 : decode cX10_isNumber 1 = .ok (.sipush (-9999), 3) := by decide +kernel
theorem dX10_isNumber_4 : decode cX10_isNumber 4 = .ok (.if_icmp .lt 14, 3) := by decide +kernel
theorem dX10_isNumber_7 : decode cX10_isNumber 7 = .ok (.iload_n 0, 1) := by decide +kernel
theorem dX10_isNumber_8 : decode cX10_isNumber 8 = .ok (.sipush 9999, 3) := by decide +kernel
theorem dX10_isNumber_11 : decode cX10_isNumber 11 = .ok (.if_icmp .gt 7, 3) := by decide +kernel
theorem dX10_isNumber_14 : decode cX10_isNumber 14 = .ok (.iconst 1, 1) := by decide +kernel
theorem dX10_isNumber_15 : decode cX10_isNumber 15 = .ok (.goto 4, 3) := by decide +kernel
theorem dX10_isNumber_18 : decode cX10_isNumber 18 = .ok (.iconst 0, 1) := by decide +kernel
theorem dX10_isNumber_19 : decode cX10_isNumber 19 = .ok (.ireturn, 1) := by decide +kernel
theorem dX10_isAmount_0 : decode cX10_isAmount 0 = .ok (.iload_n 0, 1) := by decide +kernel
theorem dX10_isAmount_1 : decode cX10_isAmount 1 = .ok (.iconst 1, 1) := by decide +kernel
theorem dX10_isAmount_2 : decode cX10_isAmount 2 = .ok (.if_icmp .lt 14, 3) := by decide +kernel
theorem dX10_isAmount_5 : decode cX10_isAmount 5 = .ok (.iload_n 0, 1) := by decide +kernel
