abbrev zb_MPainter_goOverPixel : ByteArray := prog_16_method_29_code
def zy_MPainter_goOverPixel : MethodName := ⟨"OrreryBoxModel$Painter", "goOverPixel", "(IIIIJII)V"⟩
theorem zc_MPainter_goOverPixel : Cond.code zy_MPainter_goOverPixel zb_MPainter_goOverPixel 36 none ∈ gw := gw_t 2121 (by decide +kernel) rfl
theorem zq_MPainter_goOverPixel : zy_MPainter_goOverPixel.cls ≠ "java/lang/invoke/MethodHandle" ∧ zy_MPainter_goOverPixel.cls ≠ "java/lang/invoke/VarHandle" ∧ (parseMethodDescriptor zy_MPainter_goOverPixel.desc).map (fun d => d.parameters.length) = some 7 := by decide +kernel
theorem zd_MPainter_goOverPixel_0 : decode zb_MPainter_goOverPixel 0 = .ok (.bipush 16, 2) := by decide +kernel
theorem zd_MPainter_goOverPixel_2 : decode zb_MPainter_goOverPixel 2 = .ok (.iload 7, 2) := by decide +kernel
theorem zd_MPainter_goOverPixel_4 : decode zb_MPainter_goOverPixel 4 = .ok (.imul, 1) := by decide +kernel
theorem zd_MPainter_goOverPixel_5 : decode zb_MPainter_goOverPixel 5 = .ok (.bipush 8, 2) := by decide +kernel
theorem zd_MPainter_goOverPixel_7 : decode zb_MPainter_goOverPixel 7 = .ok (.iadd, 1) := by decide +kernel
theorem zd_MPainter_goOverPixel_8 : decode zb_MPainter_goOverPixel 8 = .ok (.i2l, 1) := by decide +kernel
theorem zd_MPainter_goOverPixel_9 : decode zb_MPainter_goOverPixel 9 = .ok (.lstore 9, 2) := by decide +kernel
theorem zd_MPainter_goOverPixel_11 : decode zb_MPainter_goOverPixel 11 = .ok (.bipush 16, 2) := by decide +kernel
theorem zd_MPainter_goOverPixel_13 : decode zb_MPainter_goOverPixel 13 = .ok (.iload 8, 2) := by decide +kernel
theorem zd_MPainter_goOverPixel_15 : decode zb_MPainter_goOverPixel 15 = .ok (.imul, 1) := by decide +kernel
theorem zd_MPainter_goOverPixel_16 : decode zb_MPainter_goOverPixel 16 = .ok (.bipush 8, 2) := by decide +kernel
theorem zd_MPainter_goOverPixel_18 : decode zb_MPainter_goOverPixel 18 = .ok (.iadd, 1) := by decide +kernel
theorem zd_MPainter_goOverPixel_19 : decode zb_MPainter_goOverPixel 19 = .ok (.i2l, 1) := by decide +kernel
theorem zd_MPainter_goOverPixel_20 : decode zb_MPainter_goOverPixel 20 = .ok (.lstore 11, 2) := by decide +kernel
theorem zd_MPainter_goOverPixel_22 : decode zb_MPainter_goOverPixel 22 = .ok (.aload_n 0, 1) := by decide +kernel
theorem zd_MPainter_goOverPixel_23 : decode zb_MPainter_goOverPixel 23 = .ok (.iload_n 3, 1) := by decide +kernel
theorem zd_MPainter_goOverPixel_24 : decode zb_MPainter_goOverPixel 24 = .ok (.iload 4, 2) := by decide +kernel
theorem zd_MPainter_goOverPixel_26 : decode zb_MPainter_goOverPixel 26 = .ok (.lload 9, 2) := by decide +kernel
theorem zd_MPainter_goOverPixel_28 : decode zb_MPainter_goOverPixel 28 = .ok (.lload 11, 2) := by decide +kernel
theorem zd_MPainter_goOverPixel_30 : decode zb_MPainter_goOverPixel 30 = .ok (.invokevirtual 285, 3) := by decide +kernel
theorem zd_MPainter_goOverPixel_33 : decode zb_MPainter_goOverPixel 33 = .ok (.ifCond .eq 30, 3) := by decide +kernel
theorem zd_MPainter_goOverPixel_36 : decode zb_MPainter_goOverPixel 36 = .ok (.aload_n 0, 1) := by decide +kernel
theorem zd_MPainter_goOverPixel_37 : decode zb_MPainter_goOverPixel 37 = .ok (.iload 4, 2) := by decide +kernel
theorem zd_MPainter_goOverPixel_39 : decode zb_MPainter_goOverPixel 39 = .ok (.iconst 0, 1) := by decide +kernel
theorem zd_MPainter_goOverPixel_40 : decode zb_MPainter_goOverPixel 40 = .ok (.lload 9, 2) := by decide +kernel
theorem zd_MPainter_goOverPixel_42 : decode zb_MPainter_goOverPixel 42 = .ok (.lload 11, 2) := by decide +kernel
theorem zd_MPainter_goOverPixel_44 : decode zb_MPainter_goOverPixel 44 = .ok (.invokevirtual 285, 3) := by decide +kernel
theorem zd_MPainter_goOverPixel_47 : decode zb_MPainter_goOverPixel 47 = .ok (.ifCond .eq 16, 3) := by decide +kernel
theorem zd_MPainter_goOverPixel_50 : decode zb_MPainter_goOverPixel 50 = .ok (.aload_n 0, 1) := by decide +kernel
theorem zd_MPainter_goOverPixel_51 : decode zb_MPainter_goOverPixel 51 = .ok (.iconst 0, 1) := by decide +kernel
theorem zd_MPainter_goOverPixel_52 : decode zb_MPainter_goOverPixel 52 = .ok (.iload_n 3, 1) := by decide +kernel
theorem zd_MPainter_goOverPixel_53 : decode zb_MPainter_goOverPixel 53 = .ok (.lload 9, 2) := by decide +kernel
theorem zd_MPainter_goOverPixel_55 : decode zb_MPainter_goOverPixel 55 = .ok (.lload 11, 2) := by decide +kernel
theorem zd_MPainter_goOverPixel_57 : decode zb_MPainter_goOverPixel 57 = .ok (.invokevirtual 285, 3) := by decide +kernel
theorem zd_MPainter_goOverPixel_60 : decode zb_MPainter_goOverPixel 60 = .ok (.ifCond .ne 4, 3) := by decide +kernel
theorem zd_MPainter_goOverPixel_63 : decode zb_MPainter_goOverPixel 63 = .ok (.return_, 1) := by decide +kernel
theorem zd_MPainter_goOverPixel_64 : decode zb_MPainter_goOverPixel 64 = .ok (.aload_n 0, 1) := by decide +kernel
theorem zd_MPainter_goOverPixel_65 : decode zb_MPainter_goOverPixel 65 = .ok (.iload_n 3, 1) := by decide +kernel
theorem zd_MPainter_goOverPixel_66 : decode zb_MPainter_goOverPixel 66 = .ok (.iload 4, 2) := by decide +kernel
theorem zd_MPainter_goOverPixel_68 : decode zb_MPainter_goOverPixel 68 = .ok (.lload 9, 2) := by decide +kernel
theorem zd_MPainter_goOverPixel_70 : decode zb_MPainter_goOverPixel 70 = .ok (.lload 11, 2) := by decide +kernel
theorem zd_MPainter_goOverPixel_72 : decode zb_MPainter_goOverPixel 72 = .ok (.invokevirtual 281, 3) := by decide +kernel
theorem zd_MPainter_goOverPixel_75 : decode zb_MPainter_goOverPixel 75 = .ok (.aload_n 0, 1) := by decide +kernel
theorem zd_MPainter_goOverPixel_76 : decode zb_MPainter_goOverPixel 76 = .ok (.getfield 55, 3) := by decide +kernel
theorem zd_MPainter_goOverPixel_79 : decode zb_MPainter_goOverPixel 79 = .ok (.iconst 0, 1) := by decide +kernel
theorem zd_MPainter_goOverPixel_80 : decode zb_MPainter_goOverPixel 80 = .ok (.laload, 1) := by decide +kernel
theorem zd_MPainter_goOverPixel_81 : decode zb_MPainter_goOverPixel 81 = .ok (.lmul, 1) := by decide +kernel
theorem zd_MPainter_goOverPixel_82 : decode zb_MPainter_goOverPixel 82 = .ok (.lstore 13, 2) := by decide +kernel
theorem zd_MPainter_goOverPixel_84 : decode zb_MPainter_goOverPixel 84 = .ok (.aload_n 0, 1) := by decide +kernel
theorem zd_MPainter_goOverPixel_85 : decode zb_MPainter_goOverPixel 85 = .ok (.iload 4, 2) := by decide +kernel
theorem zd_MPainter_goOverPixel_87 : decode zb_MPainter_goOverPixel 87 = .ok (.iconst 0, 1) := by decide +kernel
theorem zd_MPainter_goOverPixel_88 : decode zb_MPainter_goOverPixel 88 = .ok (.lload 9, 2) := by decide +kernel
theorem zd_MPainter_goOverPixel_90 : decode zb_MPainter_goOverPixel 90 = .ok (.lload 11, 2) := by decide +kernel
theorem zd_MPainter_goOverPixel_92 : decode zb_MPainter_goOverPixel 92 = .ok (.invokevirtual 281, 3) := by decide +kernel
theorem zd_MPainter_goOverPixel_95 : decode zb_MPainter_goOverPixel 95 = .ok (.aload_n 0, 1) := by decide +kernel
theorem zd_MPainter_goOverPixel_96 : decode zb_MPainter_goOverPixel 96 = .ok (.getfield 55, 3) := by decide +kernel
theorem zd_MPainter_goOverPixel_99 : decode zb_MPainter_goOverPixel 99 = .ok (.iload_n 3, 1) := by decide +kernel
theorem zd_MPainter_goOverPixel_100 : decode zb_MPainter_goOverPixel 100 = .ok (.laload, 1) := by decide +kernel
theorem zd_MPainter_goOverPixel_101 : decode zb_MPainter_goOverPixel 101 = .ok (.lmul, 1) := by decide +kernel
theorem zd_MPainter_goOverPixel_102 : decode zb_MPainter_goOverPixel 102 = .ok (.lstore 15, 2) := by decide +kernel
theorem zd_MPainter_goOverPixel_104 : decode zb_MPainter_goOverPixel 104 = .ok (.aload_n 0, 1) := by decide +kernel
theorem zd_MPainter_goOverPixel_105 : decode zb_MPainter_goOverPixel 105 = .ok (.iconst 0, 1) := by decide +kernel
theorem zd_MPainter_goOverPixel_106 : decode zb_MPainter_goOverPixel 106 = .ok (.iload_n 3, 1) := by decide +kernel
theorem zd_MPainter_goOverPixel_107 : decode zb_MPainter_goOverPixel 107 = .ok (.lload 9, 2) := by decide +kernel
theorem zd_MPainter_goOverPixel_109 : decode zb_MPainter_goOverPixel 109 = .ok (.lload 11, 2) := by decide +kernel
theorem zd_MPainter_goOverPixel_111 : decode zb_MPainter_goOverPixel 111 = .ok (.invokevirtual 281, 3) := by decide +kernel
theorem zd_MPainter_goOverPixel_114 : decode zb_MPainter_goOverPixel 114 = .ok (.aload_n 0, 1) := by decide +kernel
theorem zd_MPainter_goOverPixel_115 : decode zb_MPainter_goOverPixel 115 = .ok (.getfield 55, 3) := by decide +kernel
theorem zd_MPainter_goOverPixel_118 : decode zb_MPainter_goOverPixel 118 = .ok (.iload 4, 2) := by decide +kernel
theorem zd_MPainter_goOverPixel_120 : decode zb_MPainter_goOverPixel 120 = .ok (.laload, 1) := by decide +kernel
theorem zd_MPainter_goOverPixel_121 : decode zb_MPainter_goOverPixel 121 = .ok (.lmul, 1) := by decide +kernel
theorem zd_MPainter_goOverPixel_122 : decode zb_MPainter_goOverPixel 122 = .ok (.lstore 17, 2) := by decide +kernel
theorem zd_MPainter_goOverPixel_124 : decode zb_MPainter_goOverPixel 124 = .ok (.lload 13, 2) := by decide +kernel
theorem zd_MPainter_goOverPixel_126 : decode zb_MPainter_goOverPixel 126 = .ok (.lload 15, 2) := by decide +kernel
theorem zd_MPainter_goOverPixel_128 : decode zb_MPainter_goOverPixel 128 = .ok (.ladd, 1) := by decide +kernel
theorem zd_MPainter_goOverPixel_129 : decode zb_MPainter_goOverPixel 129 = .ok (.lload 17, 2) := by decide +kernel
theorem zd_MPainter_goOverPixel_131 : decode zb_MPainter_goOverPixel 131 = .ok (.ladd, 1) := by decide +kernel
theorem zd_MPainter_goOverPixel_132 : decode zb_MPainter_goOverPixel 132 = .ok (.lstore 19, 2) := by decide +kernel
theorem zd_MPainter_goOverPixel_134 : decode zb_MPainter_goOverPixel 134 = .ok (.lload 19, 2) := by decide +kernel
theorem zd_MPainter_goOverPixel_136 : decode zb_MPainter_goOverPixel 136 = .ok (.lload 5, 2) := by decide +kernel
theorem zd_MPainter_goOverPixel_138 : decode zb_MPainter_goOverPixel 138 = .ok (.invokestatic 103, 3) := by decide +kernel
theorem zd_MPainter_goOverPixel_141 : decode zb_MPainter_goOverPixel 141 = .ok (.lstore 21, 2) := by decide +kernel
theorem zd_MPainter_goOverPixel_143 : decode zb_MPainter_goOverPixel 143 = .ok (.aload_n 0, 1) := by decide +kernel
theorem zd_MPainter_goOverPixel_144 : decode zb_MPainter_goOverPixel 144 = .ok (.getfield 289, 3) := by decide +kernel
theorem zd_MPainter_goOverPixel_147 : decode zb_MPainter_goOverPixel 147 = .ok (.ifCond .ne 38, 3) := by decide +kernel
theorem zd_MPainter_goOverPixel_150 : decode zb_MPainter_goOverPixel 150 = .ok (.aload_n 0, 1) := by decide +kernel
theorem zd_MPainter_goOverPixel_151 : decode zb_MPainter_goOverPixel 151 = .ok (.getfield 293, 3) := by decide +kernel
theorem zd_MPainter_goOverPixel_154 : decode zb_MPainter_goOverPixel 154 = .ok (.iconst (-1), 1) := by decide +kernel
theorem zd_MPainter_goOverPixel_155 : decode zb_MPainter_goOverPixel 155 = .ok (.if_icmp .eq 13, 3) := by decide +kernel
theorem zd_MPainter_goOverPixel_158 : decode zb_MPainter_goOverPixel 158 = .ok (.lload 21, 2) := by decide +kernel
theorem zd_MPainter_goOverPixel_160 : decode zb_MPainter_goOverPixel 160 = .ok (.aload_n 0, 1) := by decide +kernel
theorem zd_MPainter_goOverPixel_161 : decode zb_MPainter_goOverPixel 161 = .ok (.getfield 296, 3) := by decide +kernel
theorem zd_MPainter_goOverPixel_164 : decode zb_MPainter_goOverPixel 164 = .ok (.lcmp, 1) := by decide +kernel
theorem zd_MPainter_goOverPixel_165 : decode zb_MPainter_goOverPixel 165 = .ok (.ifCond .le 19, 3) := by decide +kernel
theorem zd_MPainter_goOverPixel_168 : decode zb_MPainter_goOverPixel 168 = .ok (.aload_n 0, 1) := by decide +kernel
theorem zd_MPainter_goOverPixel_169 : decode zb_MPainter_goOverPixel 169 = .ok (.iload_n 1, 1) := by decide +kernel
theorem zd_MPainter_goOverPixel_170 : decode zb_MPainter_goOverPixel 170 = .ok (.putfield 293, 3) := by decide +kernel
theorem zd_MPainter_goOverPixel_173 : decode zb_MPainter_goOverPixel 173 = .ok (.aload_n 0, 1) := by decide +kernel
theorem zd_MPainter_goOverPixel_174 : decode zb_MPainter_goOverPixel 174 = .ok (.iload_n 2, 1) := by decide +kernel
theorem zd_MPainter_goOverPixel_175 : decode zb_MPainter_goOverPixel 175 = .ok (.putfield 300, 3) := by decide +kernel
theorem zd_MPainter_goOverPixel_178 : decode zb_MPainter_goOverPixel 178 = .ok (.aload_n 0, 1) := by decide +kernel
theorem zd_MPainter_goOverPixel_179 : decode zb_MPainter_goOverPixel 179 = .ok (.lload 21, 2) := by decide +kernel
theorem zd_MPainter_goOverPixel_181 : decode zb_MPainter_goOverPixel 181 = .ok (.putfield 296, 3) := by decide +kernel
theorem zd_MPainter_goOverPixel_184 : decode zb_MPainter_goOverPixel 184 = .ok (.return_, 1) := by decide +kernel
theorem zd_MPainter_goOverPixel_185 : decode zb_MPainter_goOverPixel 185 = .ok (.aload_n 0, 1) := by decide +kernel
theorem zd_MPainter_goOverPixel_186 : decode zb_MPainter_goOverPixel 186 = .ok (.getfield 61, 3) := by decide +kernel
theorem zd_MPainter_goOverPixel_189 : decode zb_MPainter_goOverPixel 189 = .ok (.iload 8, 2) := by decide +kernel
theorem zd_MPainter_goOverPixel_191 : decode zb_MPainter_goOverPixel 191 = .ok (.imul, 1) := by decide +kernel
theorem zd_MPainter_goOverPixel_192 : decode zb_MPainter_goOverPixel 192 = .ok (.iload 7, 2) := by decide +kernel
theorem zd_MPainter_goOverPixel_194 : decode zb_MPainter_goOverPixel 194 = .ok (.iadd, 1) := by decide +kernel
theorem zd_MPainter_goOverPixel_195 : decode zb_MPainter_goOverPixel 195 = .ok (.istore 23, 2) := by decide +kernel
theorem zd_MPainter_goOverPixel_197 : decode zb_MPainter_goOverPixel 197 = .ok (.lload 21, 2) := by decide +kernel
theorem zd_MPainter_goOverPixel_199 : decode zb_MPainter_goOverPixel 199 = .ok (.aload_n 0, 1) := by decide +kernel
theorem zd_MPainter_goOverPixel_200 : decode zb_MPainter_goOverPixel 200 = .ok (.getfield 71, 3) := by decide +kernel
theorem zd_MPainter_goOverPixel_203 : decode zb_MPainter_goOverPixel 203 = .ok (.iload 23, 2) := by decide +kernel
theorem zd_MPainter_goOverPixel_205 : decode zb_MPainter_goOverPixel 205 = .ok (.laload, 1) := by decide +kernel
theorem zd_MPainter_goOverPixel_206 : decode zb_MPainter_goOverPixel 206 = .ok (.lcmp, 1) := by decide +kernel
theorem zd_MPainter_goOverPixel_207 : decode zb_MPainter_goOverPixel 207 = .ok (.ifCond .gt 4, 3) := by decide +kernel
theorem zd_MPainter_goOverPixel_210 : decode zb_MPainter_goOverPixel 210 = .ok (.return_, 1) := by decide +kernel
theorem zd_MPainter_goOverPixel_211 : decode zb_MPainter_goOverPixel 211 = .ok (.lload 13, 2) := by decide +kernel
theorem zd_MPainter_goOverPixel_213 : decode zb_MPainter_goOverPixel 213 = .ok (.aload_n 0, 1) := by decide +kernel
theorem zd_MPainter_goOverPixel_214 : decode zb_MPainter_goOverPixel 214 = .ok (.getfield 40, 3) := by decide +kernel
theorem zd_MPainter_goOverPixel_217 : decode zb_MPainter_goOverPixel 217 = .ok (.iconst 3, 1) := by decide +kernel
theorem zd_MPainter_goOverPixel_218 : decode zb_MPainter_goOverPixel 218 = .ok (.laload, 1) := by decide +kernel
theorem zd_MPainter_goOverPixel_219 : decode zb_MPainter_goOverPixel 219 = .ok (.lmul, 1) := by decide +kernel
theorem zd_MPainter_goOverPixel_220 : decode zb_MPainter_goOverPixel 220 = .ok (.lload 15, 2) := by decide +kernel
theorem zd_MPainter_goOverPixel_222 : decode zb_MPainter_goOverPixel 222 = .ok (.aload_n 0, 1) := by decide +kernel
theorem zd_MPainter_goOverPixel_223 : decode zb_MPainter_goOverPixel 223 = .ok (.getfield 40, 3) := by decide +kernel
theorem zd_MPainter_goOverPixel_226 : decode zb_MPainter_goOverPixel 226 = .ok (.bipush 6, 2) := by decide +kernel
theorem zd_MPainter_goOverPixel_228 : decode zb_MPainter_goOverPixel 228 = .ok (.iload_n 3, 1) := by decide +kernel
theorem zd_MPainter_goOverPixel_229 : decode zb_MPainter_goOverPixel 229 = .ok (.imul, 1) := by decide +kernel
theorem zd_MPainter_goOverPixel_230 : decode zb_MPainter_goOverPixel 230 = .ok (.iconst 3, 1) := by decide +kernel
theorem zd_MPainter_goOverPixel_231 : decode zb_MPainter_goOverPixel 231 = .ok (.iadd, 1) := by decide +kernel
theorem zd_MPainter_goOverPixel_232 : decode zb_MPainter_goOverPixel 232 = .ok (.laload, 1) := by decide +kernel
theorem zd_MPainter_goOverPixel_233 : decode zb_MPainter_goOverPixel 233 = .ok (.lmul, 1) := by decide +kernel
theorem zd_MPainter_goOverPixel_234 : decode zb_MPainter_goOverPixel 234 = .ok (.ladd, 1) := by decide +kernel
theorem zd_MPainter_goOverPixel_235 : decode zb_MPainter_goOverPixel 235 = .ok (.lload 17, 2) := by decide +kernel
theorem zd_MPainter_goOverPixel_237 : decode zb_MPainter_goOverPixel 237 = .ok (.aload_n 0, 1) := by decide +kernel
theorem zd_MPainter_goOverPixel_238 : decode zb_MPainter_goOverPixel 238 = .ok (.getfield 40, 3) := by decide +kernel
theorem zd_MPainter_goOverPixel_241 : decode zb_MPainter_goOverPixel 241 = .ok (.bipush 6, 2) := by decide +kernel
theorem zd_MPainter_goOverPixel_243 : decode zb_MPainter_goOverPixel 243 = .ok (.iload 4, 2) := by decide +kernel
theorem zd_MPainter_goOverPixel_245 : decode zb_MPainter_goOverPixel 245 = .ok (.imul, 1) := by decide +kernel
theorem zd_MPainter_goOverPixel_246 : decode zb_MPainter_goOverPixel 246 = .ok (.iconst 3, 1) := by decide +kernel
theorem zd_MPainter_goOverPixel_247 : decode zb_MPainter_goOverPixel 247 = .ok (.iadd, 1) := by decide +kernel
theorem zd_MPainter_goOverPixel_248 : decode zb_MPainter_goOverPixel 248 = .ok (.laload, 1) := by decide +kernel
theorem zd_MPainter_goOverPixel_249 : decode zb_MPainter_goOverPixel 249 = .ok (.lmul, 1) := by decide +kernel
theorem zd_MPainter_goOverPixel_250 : decode zb_MPainter_goOverPixel 250 = .ok (.ladd, 1) := by decide +kernel
theorem zd_MPainter_goOverPixel_251 : decode zb_MPainter_goOverPixel 251 = .ok (.lload 19, 2) := by decide +kernel
theorem zd_MPainter_goOverPixel_253 : decode zb_MPainter_goOverPixel 253 = .ok (.invokestatic 103, 3) := by decide +kernel
theorem zd_MPainter_goOverPixel_256 : decode zb_MPainter_goOverPixel 256 = .ok (.lstore 24, 2) := by decide +kernel
theorem zd_MPainter_goOverPixel_258 : decode zb_MPainter_goOverPixel 258 = .ok (.lload 13, 2) := by decide +kernel
theorem zd_MPainter_goOverPixel_260 : decode zb_MPainter_goOverPixel 260 = .ok (.aload_n 0, 1) := by decide +kernel
theorem zd_MPainter_goOverPixel_261 : decode zb_MPainter_goOverPixel 261 = .ok (.getfield 40, 3) := by decide +kernel
theorem zd_MPainter_goOverPixel_264 : decode zb_MPainter_goOverPixel 264 = .ok (.iconst 4, 1) := by decide +kernel
theorem zd_MPainter_goOverPixel_265 : decode zb_MPainter_goOverPixel 265 = .ok (.laload, 1) := by decide +kernel
theorem zd_MPainter_goOverPixel_266 : decode zb_MPainter_goOverPixel 266 = .ok (.lmul, 1) := by decide +kernel
theorem zd_MPainter_goOverPixel_267 : decode zb_MPainter_goOverPixel 267 = .ok (.lload 15, 2) := by decide +kernel
theorem zd_MPainter_goOverPixel_269 : decode zb_MPainter_goOverPixel 269 = .ok (.aload_n 0, 1) := by decide +kernel
theorem zd_MPainter_goOverPixel_270 : decode zb_MPainter_goOverPixel 270 = .ok (.getfield 40, 3) := by decide +kernel
theorem zd_MPainter_goOverPixel_273 : decode zb_MPainter_goOverPixel 273 = .ok (.bipush 6, 2) := by decide +kernel
theorem zd_MPainter_goOverPixel_275 : decode zb_MPainter_goOverPixel 275 = .ok (.iload_n 3, 1) := by decide +kernel
theorem zd_MPainter_goOverPixel_276 : decode zb_MPainter_goOverPixel 276 = .ok (.imul, 1) := by decide +kernel
theorem zd_MPainter_goOverPixel_277 : decode zb_MPainter_goOverPixel 277 = .ok (.iconst 4, 1) := by decide +kernel
theorem zd_MPainter_goOverPixel_278 : decode zb_MPainter_goOverPixel 278 = .ok (.iadd, 1) := by decide +kernel
theorem zd_MPainter_goOverPixel_279 : decode zb_MPainter_goOverPixel 279 = .ok (.laload, 1) := by decide +kernel
theorem zd_MPainter_goOverPixel_280 : decode zb_MPainter_goOverPixel 280 = .ok (.lmul, 1) := by decide +kernel
theorem zd_MPainter_goOverPixel_281 : decode zb_MPainter_goOverPixel 281 = .ok (.ladd, 1) := by decide +kernel
theorem zd_MPainter_goOverPixel_282 : decode zb_MPainter_goOverPixel 282 = .ok (.lload 17, 2) := by decide +kernel
theorem zd_MPainter_goOverPixel_284 : decode zb_MPainter_goOverPixel 284 = .ok (.aload_n 0, 1) := by decide +kernel
theorem zd_MPainter_goOverPixel_285 : decode zb_MPainter_goOverPixel 285 = .ok (.getfield 40, 3) := by decide +kernel
theorem zd_MPainter_goOverPixel_288 : decode zb_MPainter_goOverPixel 288 = .ok (.bipush 6, 2) := by decide +kernel
theorem zd_MPainter_goOverPixel_290 : decode zb_MPainter_goOverPixel 290 = .ok (.iload 4, 2) := by decide +kernel
theorem zd_MPainter_goOverPixel_292 : decode zb_MPainter_goOverPixel 292 = .ok (.imul, 1) := by decide +kernel
theorem zd_MPainter_goOverPixel_293 : decode zb_MPainter_goOverPixel 293 = .ok (.iconst 4, 1) := by decide +kernel
theorem zd_MPainter_goOverPixel_294 : decode zb_MPainter_goOverPixel 294 = .ok (.iadd, 1) := by decide +kernel
theorem zd_MPainter_goOverPixel_295 : decode zb_MPainter_goOverPixel 295 = .ok (.laload, 1) := by decide +kernel
theorem zd_MPainter_goOverPixel_296 : decode zb_MPainter_goOverPixel 296 = .ok (.lmul, 1) := by decide +kernel
theorem zd_MPainter_goOverPixel_297 : decode zb_MPainter_goOverPixel 297 = .ok (.ladd, 1) := by decide +kernel
theorem zd_MPainter_goOverPixel_298 : decode zb_MPainter_goOverPixel 298 = .ok (.lload 19, 2) := by decide +kernel
theorem zd_MPainter_goOverPixel_300 : decode zb_MPainter_goOverPixel 300 = .ok (.invokestatic 103, 3) := by decide +kernel
theorem zd_MPainter_goOverPixel_303 : decode zb_MPainter_goOverPixel 303 = .ok (.lstore 26, 2) := by decide +kernel
theorem zd_MPainter_goOverPixel_305 : decode zb_MPainter_goOverPixel 305 = .ok (.lload 13, 2) := by decide +kernel
theorem zd_MPainter_goOverPixel_307 : decode zb_MPainter_goOverPixel 307 = .ok (.aload_n 0, 1) := by decide +kernel
theorem zd_MPainter_goOverPixel_308 : decode zb_MPainter_goOverPixel 308 = .ok (.getfield 40, 3) := by decide +kernel
theorem zd_MPainter_goOverPixel_311 : decode zb_MPainter_goOverPixel 311 = .ok (.iconst 5, 1) := by decide +kernel
theorem zd_MPainter_goOverPixel_312 : decode zb_MPainter_goOverPixel 312 = .ok (.laload, 1) := by decide +kernel
theorem zd_MPainter_goOverPixel_313 : decode zb_MPainter_goOverPixel 313 = .ok (.lmul, 1) := by decide +kernel
theorem zd_MPainter_goOverPixel_314 : decode zb_MPainter_goOverPixel 314 = .ok (.lload 15, 2) := by decide +kernel
theorem zd_MPainter_goOverPixel_316 : decode zb_MPainter_goOverPixel 316 = .ok (.aload_n 0, 1) := by decide +kernel
theorem zd_MPainter_goOverPixel_317 : decode zb_MPainter_goOverPixel 317 = .ok (.getfield 40, 3) := by decide +kernel
theorem zd_MPainter_goOverPixel_320 : decode zb_MPainter_goOverPixel 320 = .ok (.bipush 6, 2) := by decide +kernel
theorem zd_MPainter_goOverPixel_322 : decode zb_MPainter_goOverPixel 322 = .ok (.iload_n 3, 1) := by decide +kernel
theorem zd_MPainter_goOverPixel_323 : decode zb_MPainter_goOverPixel 323 = .ok (.imul, 1) := by decide +kernel
theorem zd_MPainter_goOverPixel_324 : decode zb_MPainter_goOverPixel 324 = .ok (.iconst 5, 1) := by decide +kernel
theorem zd_MPainter_goOverPixel_325 : decode zb_MPainter_goOverPixel 325 = .ok (.iadd, 1) := by decide +kernel
theorem zd_MPainter_goOverPixel_326 : decode zb_MPainter_goOverPixel 326 = .ok (.laload, 1) := by decide +kernel
theorem zd_MPainter_goOverPixel_327 : decode zb_MPainter_goOverPixel 327 = .ok (.lmul, 1) := by decide +kernel
theorem zd_MPainter_goOverPixel_328 : decode zb_MPainter_goOverPixel 328 = .ok (.ladd, 1) := by decide +kernel
theorem zd_MPainter_goOverPixel_329 : decode zb_MPainter_goOverPixel 329 = .ok (.lload 17, 2) := by decide +kernel
theorem zd_MPainter_goOverPixel_331 : decode zb_MPainter_goOverPixel 331 = .ok (.aload_n 0, 1) := by decide +kernel
theorem zd_MPainter_goOverPixel_332 : decode zb_MPainter_goOverPixel 332 = .ok (.getfield 40, 3) := by decide +kernel
theorem zd_MPainter_goOverPixel_335 : decode zb_MPainter_goOverPixel 335 = .ok (.bipush 6, 2) := by decide +kernel
theorem zd_MPainter_goOverPixel_337 : decode zb_MPainter_goOverPixel 337 = .ok (.iload 4, 2) := by decide +kernel
theorem zd_MPainter_goOverPixel_339 : decode zb_MPainter_goOverPixel 339 = .ok (.imul, 1) := by decide +kernel
theorem zd_MPainter_goOverPixel_340 : decode zb_MPainter_goOverPixel 340 = .ok (.iconst 5, 1) := by decide +kernel
theorem zd_MPainter_goOverPixel_341 : decode zb_MPainter_goOverPixel 341 = .ok (.iadd, 1) := by decide +kernel
theorem zd_MPainter_goOverPixel_342 : decode zb_MPainter_goOverPixel 342 = .ok (.laload, 1) := by decide +kernel
theorem zd_MPainter_goOverPixel_343 : decode zb_MPainter_goOverPixel 343 = .ok (.lmul, 1) := by decide +kernel
theorem zd_MPainter_goOverPixel_344 : decode zb_MPainter_goOverPixel 344 = .ok (.ladd, 1) := by decide +kernel
theorem zd_MPainter_goOverPixel_345 : decode zb_MPainter_goOverPixel 345 = .ok (.lload 19, 2) := by decide +kernel
theorem zd_MPainter_goOverPixel_347 : decode zb_MPainter_goOverPixel 347 = .ok (.invokestatic 103, 3) := by decide +kernel
theorem zd_MPainter_goOverPixel_350 : decode zb_MPainter_goOverPixel 350 = .ok (.lstore 28, 2) := by decide +kernel
theorem zd_MPainter_goOverPixel_352 : decode zb_MPainter_goOverPixel 352 = .ok (.aload_n 0, 1) := by decide +kernel
theorem zd_MPainter_goOverPixel_353 : decode zb_MPainter_goOverPixel 353 = .ok (.iload_n 1, 1) := by decide +kernel
theorem zd_MPainter_goOverPixel_354 : decode zb_MPainter_goOverPixel 354 = .ok (.invokevirtual 180, 3) := by decide +kernel
theorem zd_MPainter_goOverPixel_357 : decode zb_MPainter_goOverPixel 357 = .ok (.istore 30, 2) := by decide +kernel
theorem zd_MPainter_goOverPixel_359 : decode zb_MPainter_goOverPixel 359 = .ok (.aload_n 0, 1) := by decide +kernel
theorem zd_MPainter_goOverPixel_360 : decode zb_MPainter_goOverPixel 360 = .ok (.iload 30, 2) := by decide +kernel
theorem zd_MPainter_goOverPixel_362 : decode zb_MPainter_goOverPixel 362 = .ok (.iload_n 3, 1) := by decide +kernel
theorem zd_MPainter_goOverPixel_363 : decode zb_MPainter_goOverPixel 363 = .ok (.iload 4, 2) := by decide +kernel
theorem zd_MPainter_goOverPixel_365 : decode zb_MPainter_goOverPixel 365 = .ok (.lload 5, 2) := by decide +kernel
theorem zd_MPainter_goOverPixel_367 : decode zb_MPainter_goOverPixel 367 = .ok (.lload 24, 2) := by decide +kernel
theorem zd_MPainter_goOverPixel_369 : decode zb_MPainter_goOverPixel 369 = .ok (.lload 26, 2) := by decide +kernel
theorem zd_MPainter_goOverPixel_371 : decode zb_MPainter_goOverPixel 371 = .ok (.lload 28, 2) := by decide +kernel
theorem zd_MPainter_goOverPixel_373 : decode zb_MPainter_goOverPixel 373 = .ok (.invokevirtual 303, 3) := by decide +kernel
theorem zd_MPainter_goOverPixel_376 : decode zb_MPainter_goOverPixel 376 = .ok (.aload_n 0, 1) := by decide +kernel
theorem zd_MPainter_goOverPixel_377 : decode zb_MPainter_goOverPixel 377 = .ok (.getfield 129, 3) := by decide +kernel
theorem zd_MPainter_goOverPixel_380 : decode zb_MPainter_goOverPixel 380 = .ok (.getfield 177, 3) := by decide +kernel
theorem zd_MPainter_goOverPixel_383 : decode zb_MPainter_goOverPixel 383 = .ok (.iconst 4, 1) := by decide +kernel
theorem zd_MPainter_goOverPixel_384 : decode zb_MPainter_goOverPixel 384 = .ok (.iload 30, 2) := by decide +kernel
theorem zd_MPainter_goOverPixel_386 : decode zb_MPainter_goOverPixel 386 = .ok (.imul, 1) := by decide +kernel
theorem zd_MPainter_goOverPixel_387 : decode zb_MPainter_goOverPixel 387 = .ok (.iconst 3, 1) := by decide +kernel
theorem zd_MPainter_goOverPixel_388 : decode zb_MPainter_goOverPixel 388 = .ok (.iadd, 1) := by decide +kernel
theorem zd_MPainter_goOverPixel_389 : decode zb_MPainter_goOverPixel 389 = .ok (.iaload, 1) := by decide +kernel
theorem zd_MPainter_goOverPixel_390 : decode zb_MPainter_goOverPixel 390 = .ok (.i2l, 1) := by decide +kernel
theorem zd_MPainter_goOverPixel_391 : decode zb_MPainter_goOverPixel 391 = .ok (.lstore 31, 2) := by decide +kernel
theorem zd_MPainter_goOverPixel_393 : decode zb_MPainter_goOverPixel 393 = .ok (.iconst 0, 1) := by decide +kernel
theorem zd_MPainter_goOverPixel_394 : decode zb_MPainter_goOverPixel 394 = .ok (.istore 33, 2) := by decide +kernel
theorem zd_MPainter_goOverPixel_396 : decode zb_MPainter_goOverPixel 396 = .ok (.iload 33, 2) := by decide +kernel
theorem zd_MPainter_goOverPixel_398 : decode zb_MPainter_goOverPixel 398 = .ok (.iconst 3, 1) := by decide +kernel
theorem zd_MPainter_goOverPixel_399 : decode zb_MPainter_goOverPixel 399 = .ok (.if_icmp .ge 82, 3) := by decide +kernel
theorem zd_MPainter_goOverPixel_402 : decode zb_MPainter_goOverPixel 402 = .ok (.aload_n 0, 1) := by decide +kernel
theorem zd_MPainter_goOverPixel_403 : decode zb_MPainter_goOverPixel 403 = .ok (.getfield 68, 3) := by decide +kernel
theorem zd_MPainter_goOverPixel_406 : decode zb_MPainter_goOverPixel 406 = .ok (.iconst 3, 1) := by decide +kernel
theorem zd_MPainter_goOverPixel_407 : decode zb_MPainter_goOverPixel 407 = .ok (.iload 23, 2) := by decide +kernel
theorem zd_MPainter_goOverPixel_409 : decode zb_MPainter_goOverPixel 409 = .ok (.imul, 1) := by decide +kernel
theorem zd_MPainter_goOverPixel_410 : decode zb_MPainter_goOverPixel 410 = .ok (.iload 33, 2) := by decide +kernel
theorem zd_MPainter_goOverPixel_412 : decode zb_MPainter_goOverPixel 412 = .ok (.iadd, 1) := by decide +kernel
theorem zd_MPainter_goOverPixel_413 : decode zb_MPainter_goOverPixel 413 = .ok (.iaload, 1) := by decide +kernel
theorem zd_MPainter_goOverPixel_414 : decode zb_MPainter_goOverPixel 414 = .ok (.i2l, 1) := by decide +kernel
theorem zd_MPainter_goOverPixel_415 : decode zb_MPainter_goOverPixel 415 = .ok (.lstore 34, 2) := by decide +kernel
theorem zd_MPainter_goOverPixel_417 : decode zb_MPainter_goOverPixel 417 = .ok (.aload_n 0, 1) := by decide +kernel
theorem zd_MPainter_goOverPixel_418 : decode zb_MPainter_goOverPixel 418 = .ok (.getfield 68, 3) := by decide +kernel
theorem zd_MPainter_goOverPixel_421 : decode zb_MPainter_goOverPixel 421 = .ok (.iconst 3, 1) := by decide +kernel
theorem zd_MPainter_goOverPixel_422 : decode zb_MPainter_goOverPixel 422 = .ok (.iload 23, 2) := by decide +kernel
theorem zd_MPainter_goOverPixel_424 : decode zb_MPainter_goOverPixel 424 = .ok (.imul, 1) := by decide +kernel
theorem zd_MPainter_goOverPixel_425 : decode zb_MPainter_goOverPixel 425 = .ok (.iload 33, 2) := by decide +kernel
theorem zd_MPainter_goOverPixel_427 : decode zb_MPainter_goOverPixel 427 = .ok (.iadd, 1) := by decide +kernel
theorem zd_MPainter_goOverPixel_428 : decode zb_MPainter_goOverPixel 428 = .ok (.lload 31, 2) := by decide +kernel
theorem zd_MPainter_goOverPixel_430 : decode zb_MPainter_goOverPixel 430 = .ok (.ldc2_w 306, 3) := by decide +kernel
theorem zd_MPainter_goOverPixel_433 : decode zb_MPainter_goOverPixel 433 = .ok (.lcmp, 1) := by decide +kernel
theorem zd_MPainter_goOverPixel_434 : decode zb_MPainter_goOverPixel 434 = .ok (.ifCond .ne 13, 3) := by decide +kernel
theorem zd_MPainter_goOverPixel_437 : decode zb_MPainter_goOverPixel 437 = .ok (.aload_n 0, 1) := by decide +kernel
theorem zd_MPainter_goOverPixel_438 : decode zb_MPainter_goOverPixel 438 = .ok (.getfield 58, 3) := by decide +kernel
theorem zd_MPainter_goOverPixel_441 : decode zb_MPainter_goOverPixel 441 = .ok (.iload 33, 2) := by decide +kernel
theorem zd_MPainter_goOverPixel_443 : decode zb_MPainter_goOverPixel 443 = .ok (.laload, 1) := by decide +kernel
theorem zd_MPainter_goOverPixel_444 : decode zb_MPainter_goOverPixel 444 = .ok (.goto 29, 3) := by decide +kernel
theorem zd_MPainter_goOverPixel_447 : decode zb_MPainter_goOverPixel 447 = .ok (.aload_n 0, 1) := by decide +kernel
theorem zd_MPainter_goOverPixel_448 : decode zb_MPainter_goOverPixel 448 = .ok (.getfield 58, 3) := by decide +kernel
theorem zd_MPainter_goOverPixel_451 : decode zb_MPainter_goOverPixel 451 = .ok (.iload 33, 2) := by decide +kernel
theorem zd_MPainter_goOverPixel_453 : decode zb_MPainter_goOverPixel 453 = .ok (.laload, 1) := by decide +kernel
theorem zd_MPainter_goOverPixel_454 : decode zb_MPainter_goOverPixel 454 = .ok (.lload 31, 2) := by decide +kernel
theorem zd_MPainter_goOverPixel_456 : decode zb_MPainter_goOverPixel 456 = .ok (.lmul, 1) := by decide +kernel
theorem zd_MPainter_goOverPixel_457 : decode zb_MPainter_goOverPixel 457 = .ok (.lload 34, 2) := by decide +kernel
theorem zd_MPainter_goOverPixel_459 : decode zb_MPainter_goOverPixel 459 = .ok (.ldc2_w 306, 3) := by decide +kernel
theorem zd_MPainter_goOverPixel_462 : decode zb_MPainter_goOverPixel 462 = .ok (.lload 31, 2) := by decide +kernel
theorem zd_MPainter_goOverPixel_464 : decode zb_MPainter_goOverPixel 464 = .ok (.lsub, 1) := by decide +kernel
theorem zd_MPainter_goOverPixel_465 : decode zb_MPainter_goOverPixel 465 = .ok (.lmul, 1) := by decide +kernel
theorem zd_MPainter_goOverPixel_466 : decode zb_MPainter_goOverPixel 466 = .ok (.ladd, 1) := by decide +kernel
theorem zd_MPainter_goOverPixel_467 : decode zb_MPainter_goOverPixel 467 = .ok (.ldc2_w 306, 3) := by decide +kernel
theorem zd_MPainter_goOverPixel_470 : decode zb_MPainter_goOverPixel 470 = .ok (.invokestatic 103, 3) := by decide +kernel
theorem zd_MPainter_goOverPixel_473 : decode zb_MPainter_goOverPixel 473 = .ok (.l2i, 1) := by decide +kernel
theorem zd_MPainter_goOverPixel_474 : decode zb_MPainter_goOverPixel 474 = .ok (.iastore, 1) := by decide +kernel
theorem zd_MPainter_goOverPixel_475 : decode zb_MPainter_goOverPixel 475 = .ok (.iinc 33 1, 3) := by decide +kernel
theorem zd_MPainter_goOverPixel_478 : decode zb_MPainter_goOverPixel 478 = .ok (.goto (-82), 3) := by decide +kernel
theorem zd_MPainter_goOverPixel_481 : decode zb_MPainter_goOverPixel 481 = .ok (.lload 31, 2) := by decide +kernel
theorem zd_MPainter_goOverPixel_483 : decode zb_MPainter_goOverPixel 483 = .ok (.ldc2_w 306, 3) := by decide +kernel
theorem zd_MPainter_goOverPixel_486 : decode zb_MPainter_goOverPixel 486 = .ok (.lcmp, 1) := by decide +kernel
theorem zd_MPainter_goOverPixel_487 : decode zb_MPainter_goOverPixel 487 = .ok (.ifCond .ne 12, 3) := by decide +kernel
theorem zd_MPainter_goOverPixel_490 : decode zb_MPainter_goOverPixel 490 = .ok (.aload_n 0, 1) := by decide +kernel
theorem zd_MPainter_goOverPixel_491 : decode zb_MPainter_goOverPixel 491 = .ok (.getfield 71, 3) := by decide +kernel
theorem zd_MPainter_goOverPixel_494 : decode zb_MPainter_goOverPixel 494 = .ok (.iload 23, 2) := by decide +kernel
theorem zd_MPainter_goOverPixel_496 : decode zb_MPainter_goOverPixel 496 = .ok (.lload 21, 2) := by decide +kernel
theorem zd_MPainter_goOverPixel_498 : decode zb_MPainter_goOverPixel 498 = .ok (.lastore, 1) := by decide +kernel
theorem zd_MPainter_goOverPixel_499 : decode zb_MPainter_goOverPixel 499 = .ok (.return_, 1) := by decide +kernel
theorem zw_2122 : (Jvm.Cond.methodLink "OrreryBoxModel$Painter" (285 : Nat) ({ cls := "OrreryBoxModel$Painter", name := "inside", desc := "(IIJJ)Z" } : Jvm.MethodName)) ∈ gw := gw_t 2122 (by decide +kernel) rfl
theorem zw_2124 : (Jvm.Cond.instanceMethod ({ cls := "OrreryBoxModel$Painter", name := "inside", desc := "(IIJJ)Z" } : Jvm.MethodName)) ∈ gw := gw_t 2124 (by decide +kernel) rfl
theorem zv_110 : (Jvm.Cond.selects "OrreryBoxModel$Painter" (⟨"OrreryBoxModel$Painter", "inside", "(IIJJ)Z"⟩ : MethodName) ⟨"OrreryBoxModel$Painter", "inside", "(IIJJ)Z"⟩) ∈ gw := gw_s 110 (by decide +kernel) rfl
theorem zs_MPainter_285 : zwV "OrreryBoxModel$Painter" 285 "OrreryBoxModel$Painter" zy_MPainter_inside zb_MPainter_inside 9 (some .boolean) := ⟨zw_2122, zw_2124, zv_110, zw_17, zc_MPainter_inside⟩
theorem zw_2130 : (Jvm.Cond.methodLink "OrreryBoxModel$Painter" (303 : Nat) ({ cls := "OrreryBoxModel$Painter", name := "colour", desc := "(IIIJJJJ)V" } : Jvm.MethodName)) ∈ gw := gw_t 2130 (by decide +kernel) rfl
theorem zw_2132 : (Jvm.Cond.instanceMethod ({ cls := "OrreryBoxModel$Painter", name := "colour", desc := "(IIIJJJJ)V" } : Jvm.MethodName)) ∈ gw := gw_t 2132 (by decide +kernel) rfl
theorem zv_112 : (Jvm.Cond.selects "OrreryBoxModel$Painter" (⟨"OrreryBoxModel$Painter", "colour", "(IIIJJJJ)V"⟩ : MethodName) ⟨"OrreryBoxModel$Painter", "colour", "(IIIJJJJ)V"⟩) ∈ gw := gw_s 112 (by decide +kernel) rfl
theorem zs_MPainter_303 : zwV "OrreryBoxModel$Painter" 303 "OrreryBoxModel$Painter" zy_MPainter_colour zb_MPainter_colour 17 none := ⟨zw_2130, zw_2132, zv_112, zw_17, zc_MPainter_colour⟩
def L_MPainter_goOverPixel_396 (sh : zSh) (fuel : Nat) (v0 : Nat) (v21 : Int64) (v23 : Int32) (v31 : Int64) (v33 : Int32) (mm : zMem) : Option (Nat × Int64 × Int32 × Int64 × Int32 × zMem) := match fuel with
  | 0 => none
  | fu + 1 => (if 3 ≤ v33 then some (v0, v21, v23, v31, v33, mm) else zoS (sh v0) 13 (fun le145 => Option.bind (mm.2.2 v0 3) (fun a146 => zoL ((3 * v23) + v33) (fun i147 => zoS (sh a146) 100 (fun le149 => if (i147 : Int32) < 0 ∨ le149 ≤ (i147 : Int32).toNatClampNeg then none else zoL (((mm.1 a146 (i147 : Int32).toNatClampNeg) : Int32).toInt64) (fun x151 => zoS (sh v0) 13 (fun le153 => Option.bind (mm.2.2 v0 3) (fun a154 => (if (lg_cmp v31 255) = 0 then zoS (sh v0) 13 (fun le171 => Option.bind (mm.2.2 v0 30) (fun a172 => zoS (sh a172) 102 (fun le174 => if (v33 : Int32) < 0 ∨ le174 ≤ (v33 : Int32).toNatClampNeg then none else zoL (((mm.2.1 a172 (v33 : Int32).toNatClampNeg) : Int64).toInt32) (fun x176 => zoL ((3 * v23) + v33) (fun i177 => zoS (sh a154) 100 (fun le179 => if (i177 : Int32) < 0 ∨ le179 ≤ (i177 : Int32).toNatClampNeg then none else zoL (mI mm a154 (i177 : Int32).toNatClampNeg x176) (fun mm181 => L_MPainter_goOverPixel_396 sh fu v0 v21 v23 v31 (v33 + 1) mm181))))))) else zoS (sh v0) 13 (fun le157 => Option.bind (mm.2.2 v0 30) (fun a158 => zoS (sh a158) 102 (fun le160 => if (v33 : Int32) < 0 ∨ le160 ≤ (v33 : Int32).toNatClampNeg then none else zoL (((mm.2.1 a158 (v33 : Int32).toNatClampNeg) * v31) + (x151 * (255 - v31))) (fun x162 => Option.bind (F_MPainter_div sh mm x162 255) (fun p163 => zoL ((p163.1 : Int64).toInt32) (fun x164 => zoL ((3 * v23) + v33) (fun i165 => zoS (sh a154) 100 (fun le167 => if (i165 : Int32) < 0 ∨ le167 ≤ (i165 : Int32).toNatClampNeg then none else zoL (mI (p163.2) a154 (i165 : Int32).toNatClampNeg x164) (fun mm169 => L_MPainter_goOverPixel_396 sh fu v0 v21 v23 v31 (v33 + 1) mm169))))))))))))))))))
set_option maxHeartbeats 4000000 in
set_option maxRecDepth 100000 in
theorem lp_MPainter_goOverPixel_396 {p : Program} {l : Launch} {e : Env} {s : State} {m : MethodId} {args : Array Value} {below : List Frame} {meth : Method} {c : Code} {D : va_G} {tA : Nat → ClassId} {b n : Nat} {post : Option Value → zV → Nat → Prop} {sh : zSh} (F : zF p s m args meth c zb_MPainter_goOverPixel 36 "OrreryBoxModel$Painter" D tA b) : ∀ (fuel : Nat) (v0 : Nat) (v21 : Int64) (v23 : Int32) (v31 : Int64) (v33 : Int32) (mm : zMem) (r : Nat × Int64 × Int32 × Int64 × Int32 × zMem), L_MPainter_goOverPixel_396 sh fuel v0 v21 v23 v31 v33 mm = some r → (Z p l e { frames := 5, cells := 0, slots := 0, locals := 158 } s m args below meth c D b 36 (MQ below (zQ D b post) args s 0 0 (fun q => b ≤ q)) (zW tA b sh r.2.2.2.2.2) n 0 0 481 [(0, .ref (b + (r.1))), (21, .long (r.2.1)), (23, .int (r.2.2.1)), (31, .long (r.2.2.2.1)), (33, .int (r.2.2.2.2.1))] []) → Z p l e { frames := 5, cells := 0, slots := 0, locals := 158 } s m args below meth c D b 36 (MQ below (zQ D b post) args s 0 0 (fun q => b ≤ q)) (zW tA b sh mm) n 0 0 396 [(0, .ref (b + v0)), (21, .long v21), (23, .int v23), (31, .long v31), (33, .int v33)] [] := by
  intro fuel
  induction fuel with
  | zero =>
    intro v0 v21 v23 v31 v33 mm r h
    cases h
  | succ fu ih =>
    intro v0 v21 v23 v31 v33 mm r h hx0
    rw [L_MPainter_goOverPixel_396] at h
    refine zr_iload F zd_MPainter_goOverPixel_396 rfl ?_
    refine zr_iconstv (v := 3) F zd_MPainter_goOverPixel_398 (by decide) ?_
    refine zr_icmp_ge F 481 zd_MPainter_goOverPixel_399 (by decide) (fun hb143 => ?_) (fun hb143 => ?_)
    ·
      rw [if_pos hb143] at h
      obtain rfl := Option.some.inj h
      refine zr_loc (L' := [(0, .ref (b + v0)), (21, .long v21), (23, .int v23), (31, .long v31), (33, .int v33)]) ⟨rfl, rfl, rfl, rfl, rfl, trivial⟩ ?_
      exact hx0 
    ·
      rw [if_neg hb143] at h
      refine zr_aload_n F zd_MPainter_goOverPixel_402 rfl ?_
      refine zr_pcn 403 rfl ?_
      obtain ⟨le145, hs144, h⟩ := zoS_s h
      obtain ⟨a146, ea146, h⟩ := zoB_s h
      refine zr_get F 13 3 zd_MPainter_goOverPixel_403 (zW_o hs144 (by decide)) rfl (by decide) zw_1579 rfl (by rfl) ?_
      refine zr_tor ea146 ?_
      refine zr_iconstv (v := 3) F zd_MPainter_goOverPixel_406 (by decide) ?_
      refine zr_iload F zd_MPainter_goOverPixel_407 rfl ?_
      refine zr_imul F zd_MPainter_goOverPixel_409 ?_
      refine zr_iload F zd_MPainter_goOverPixel_410 rfl ?_
      refine zr_iadd F zd_MPainter_goOverPixel_412 ?_
      obtain ⟨i147, ei147, h⟩ := zoL_s h
      rw [← ei147]
      obtain ⟨le149, hs148, h⟩ := zoS_s h
      obtain ⟨hi150, h⟩ := zoI_s h
      refine zr_iald F zd_MPainter_goOverPixel_413 (zW_a0 hs148) hi150 ?_
      refine zr_i2l F zd_MPainter_goOverPixel_414 ?_
      refine zr_pcn 415 rfl ?_
      obtain ⟨x151, ex151, h⟩ := zoL_s h
      rw [← ex151]
      refine zr_lstore F zd_MPainter_goOverPixel_415 (by decide) ?_
      refine zr_aload_n F zd_MPainter_goOverPixel_417 rfl ?_
      obtain ⟨le153, hs152, h⟩ := zoS_s h
      obtain ⟨a154, ea154, h⟩ := zoB_s h
      refine zr_get F 13 3 zd_MPainter_goOverPixel_418 (zW_o hs152 (by decide)) rfl (by decide) zw_1579 rfl (by rfl) ?_
      refine zr_tor ea154 ?_
      refine zr_iconstv (v := 3) F zd_MPainter_goOverPixel_421 (by decide) ?_
      refine zr_iload F zd_MPainter_goOverPixel_422 rfl ?_
      refine zr_imul F zd_MPainter_goOverPixel_424 ?_
      refine zr_iload F zd_MPainter_goOverPixel_425 rfl ?_
      refine zr_iadd F zd_MPainter_goOverPixel_427 ?_
      refine zr_pcn 428 rfl ?_
      refine zr_lload F zd_MPainter_goOverPixel_428 rfl ?_
      refine zr_ldc2 F zd_MPainter_goOverPixel_430 zw_2138 ?_
      refine zr_lcmp F zd_MPainter_goOverPixel_433 ?_
      refine zr_if_ne F 447 zd_MPainter_goOverPixel_434 (by decide) (fun hb155 => ?_) (fun hb155 => ?_)
      ·
        rw [if_neg hb155] at h
        refine zr_aload_n F zd_MPainter_goOverPixel_447 rfl ?_
        obtain ⟨le157, hs156, h⟩ := zoS_s h
        obtain ⟨a158, ea158, h⟩ := zoB_s h
        refine zr_get F 13 30 zd_MPainter_goOverPixel_448 (zW_o hs156 (by decide)) rfl (by decide) zw_1610 rfl (by rfl) ?_
        refine zr_tor ea158 ?_
        refine zr_iload F zd_MPainter_goOverPixel_451 rfl ?_
        obtain ⟨le160, hs159, h⟩ := zoS_s h
        obtain ⟨hi161, h⟩ := zoI_s h
        refine zr_lald F zd_MPainter_goOverPixel_453 (zW_a2 hs159) hi161 ?_
        refine zr_pcn 454 rfl ?_
        refine zr_lload F zd_MPainter_goOverPixel_454 rfl ?_
        refine zr_lmul F zd_MPainter_goOverPixel_456 ?_
        refine zr_lload F zd_MPainter_goOverPixel_457 rfl ?_
        refine zr_ldc2 F zd_MPainter_goOverPixel_459 zw_2138 ?_
        refine zr_lload F zd_MPainter_goOverPixel_462 rfl ?_
        refine zr_lsub F zd_MPainter_goOverPixel_464 ?_
        refine zr_lmul F zd_MPainter_goOverPixel_465 ?_
        refine zr_ladd F zd_MPainter_goOverPixel_466 ?_
        refine zr_pcn 467 rfl ?_
        refine zr_ldc2 F zd_MPainter_goOverPixel_467 zw_2138 ?_
        obtain ⟨x162, ex162, h⟩ := zoL_s h
        rw [← ex162]
        obtain ⟨p163, ep163, h⟩ := zoB_s h
        refine zr_callS1 F (k_MPainter_div l D tA b sh _ ep163) zd_MPainter_goOverPixel_470 zs_MPainter_103 zq_MPainter_div rfl rfl ⟨(Nat.le_of_ble_eq_true rfl), (Nat.le_of_ble_eq_true rfl)⟩ (Nat.le_of_ble_eq_true rfl) ⟨(Nat.le_of_ble_eq_true rfl), (Nat.le_of_ble_eq_true rfl)⟩ ?_
        refine zr_l2i F zd_MPainter_goOverPixel_473 ?_
        obtain ⟨x164, ex164, h⟩ := zoL_s h
        rw [← ex164]
        obtain ⟨i165, ei165, h⟩ := zoL_s h
        rw [← ei165]
        obtain ⟨le167, hs166, h⟩ := zoS_s h
        obtain ⟨hi168, h⟩ := zoI_s h
        refine zr_iast F zd_MPainter_goOverPixel_474 (zW_a0 hs166) hi168 ?_
        obtain ⟨mm169, emm169, h⟩ := zoL_s h
        refine zr_norm (zW tA b sh mm169) _ (by rw [emm169]; exact zW_s0 hs166) rfl ?_
        refine zr_iinc (v := (v33 + 1)) F zd_MPainter_goOverPixel_475 rfl rfl (by decide) ?_
        refine zr_goto F 396 zd_MPainter_goOverPixel_478 (by decide) ?_
        refine zr_loc (L' := [(0, .ref (b + v0)), (21, .long v21), (23, .int v23), (31, .long v31), (33, .int (v33 + 1))]) ⟨rfl, rfl, rfl, rfl, rfl, trivial⟩ ?_
        exact ih _ _ _ _ _ _ _ h hx0
      ·
        rw [if_pos hb155] at h
        refine zr_aload_n F zd_MPainter_goOverPixel_437 rfl ?_
        obtain ⟨le171, hs170, h⟩ := zoS_s h
        obtain ⟨a172, ea172, h⟩ := zoB_s h
        refine zr_get F 13 30 zd_MPainter_goOverPixel_438 (zW_o hs170 (by decide)) rfl (by decide) zw_1610 rfl (by rfl) ?_
        refine zr_tor ea172 ?_
        refine zr_pcn 441 rfl ?_
        refine zr_iload F zd_MPainter_goOverPixel_441 rfl ?_
        obtain ⟨le174, hs173, h⟩ := zoS_s h
        obtain ⟨hi175, h⟩ := zoI_s h
        refine zr_lald F zd_MPainter_goOverPixel_443 (zW_a2 hs173) hi175 ?_
        refine zr_goto F 473 zd_MPainter_goOverPixel_444 (by decide) ?_
        refine zr_l2i F zd_MPainter_goOverPixel_473 ?_
        obtain ⟨x176, ex176, h⟩ := zoL_s h
        rw [← ex176]
        obtain ⟨i177, ei177, h⟩ := zoL_s h
        rw [← ei177]
        obtain ⟨le179, hs178, h⟩ := zoS_s h
        obtain ⟨hi180, h⟩ := zoI_s h
        refine zr_iast F zd_MPainter_goOverPixel_474 (zW_a0 hs178) hi180 ?_
        obtain ⟨mm181, emm181, h⟩ := zoL_s h
        refine zr_norm (zW tA b sh mm181) _ (by rw [emm181]; exact zW_s0 hs178) rfl ?_
        refine zr_iinc (v := (v33 + 1)) F zd_MPainter_goOverPixel_475 rfl rfl (by decide) ?_
        refine zr_goto F 396 zd_MPainter_goOverPixel_478 (by decide) ?_
        refine zr_loc (L' := [(0, .ref (b + v0)), (21, .long v21), (23, .int v23), (31, .long v31), (33, .int (v33 + 1))]) ⟨rfl, rfl, rfl, rfl, rfl, trivial⟩ ?_
        exact ih _ _ _ _ _ _ _ h hx0
theorem zf_I_13_11 (b : Nat) (m : zMem) (k : Nat) (v : Int32) : (zfl b 13 m k).set 11 (.int v) = zfl b 13 (mI m k 11 v) k := by simp [zfl, mI, upd, vp_updL]
theorem zf_I_13_12 (b : Nat) (m : zMem) (k : Nat) (v : Int32) : (zfl b 13 m k).set 12 (.int v) = zfl b 13 (mI m k 12 v) k := by simp [zfl, mI, upd, vp_updL]
theorem zf_L_13_13 (b : Nat) (m : zMem) (k : Nat) (v : Int64) : (zfl b 13 m k).set 13 (.long v) = zfl b 13 (mL m k 13 v) k := by simp [zfl, mL, upd, vp_updL]
def F_MPainter_goOverPixel (sh : zSh) (mm : zMem) (o : Nat) (x0_ : Int32) (x1_ : Int32) (x2_ : Int32) (x3_ : Int32) (x4_ : Int64) (x5_ : Int32) (x6_ : Int32) : Option zMem := zoL ((((16 * x5_) + 8) : Int32).toInt64) (fun x1 => zoL ((((16 * x6_) + 8) : Int32).toInt64) (fun x2 => zoS (sh o) 13 (fun le4 => Option.bind (F_MPainter_inside sh mm o x2_ x3_ x1 x2) (fun p5 => (if p5.1 = 0 then some (p5.2) else zoS (sh o) 13 (fun le8 => Option.bind (F_MPainter_inside sh (p5.2) o x3_ 0 x1 x2) (fun p9 => (if p9.1 = 0 then some (p9.2) else zoS (sh o) 13 (fun le12 => Option.bind (F_MPainter_inside sh (p9.2) o 0 x2_ x1 x2) (fun p13 => (if p13.1 = 0 then some (p13.2) else zoS (sh o) 13 (fun le16 => Option.bind (F_MPainter_edge sh (p13.2) o x2_ x3_ x1 x2) (fun p17 => zoS (sh o) 13 (fun le19 => Option.bind ((p17.2).2.2 o 29) (fun a20 => zoS (sh a20) 102 (fun le22 => if (0 : Int32) < 0 ∨ le22 ≤ (0 : Int32).toNatClampNeg then none else zoL (p17.1 * ((p17.2).2.1 a20 (0 : Int32).toNatClampNeg)) (fun x24 => zoS (sh o) 13 (fun le26 => Option.bind (F_MPainter_edge sh (p17.2) o x3_ 0 x1 x2) (fun p27 => zoS (sh o) 13 (fun le29 => Option.bind ((p27.2).2.2 o 29) (fun a30 => zoS (sh a30) 102 (fun le32 => if (x2_ : Int32) < 0 ∨ le32 ≤ (x2_ : Int32).toNatClampNeg then none else zoL (p27.1 * ((p27.2).2.1 a30 (x2_ : Int32).toNatClampNeg)) (fun x34 => zoS (sh o) 13 (fun le36 => Option.bind (F_MPainter_edge sh (p27.2) o 0 x2_ x1 x2) (fun p37 => zoS (sh o) 13 (fun le39 => Option.bind ((p37.2).2.2 o 29) (fun a40 => zoS (sh a40) 102 (fun le42 => if (x3_ : Int32) < 0 ∨ le42 ≤ (x3_ : Int32).toNatClampNeg then none else zoL (p37.1 * ((p37.2).2.1 a40 (x3_ : Int32).toNatClampNeg)) (fun x44 => zoL ((x24 + x34) + x44) (fun x45 => Option.bind (F_MPainter_div sh (p37.2) x45 x4_) (fun p46 => zoS (sh o) 13 (fun le48 => (if ((p46.2).1 o 10) = 0 then zoS (sh o) 13 (fun le192 => (if ((p46.2).1 o 11) = (-1) then zoS (sh o) 13 (fun le195 => zoL (mI (p46.2) o 11 x0_) (fun mm196 => zoS (sh o) 13 (fun le198 => zoL (mI mm196 o 12 x1_) (fun mm199 => zoS (sh o) 13 (fun le201 => zoL (mL mm199 o 13 (p46.1)) (fun mm202 => some mm202)))))) else zoS (sh o) 13 (fun le204 => (if (lg_cmp p46.1 ((p46.2).2.1 o 13)) ≤ 0 then some (p46.2) else zoS (sh o) 13 (fun le207 => zoL (mI (p46.2) o 11 x0_) (fun mm208 => zoS (sh o) 13 (fun le210 => zoL (mI mm208 o 12 x1_) (fun mm211 => zoS (sh o) 13 (fun le213 => zoL (mL mm211 o 13 (p46.1)) (fun mm214 => some mm214)))))))))) else zoS (sh o) 13 (fun le51 => zoL ((((p46.2).1 o 1) * x6_) + x5_) (fun x52 => zoS (sh o) 13 (fun le54 => Option.bind ((p46.2).2.2 o 4) (fun a55 => zoS (sh a55) 102 (fun le57 => if (x52 : Int32) < 0 ∨ le57 ≤ (x52 : Int32).toNatClampNeg then none else (if 0 < (lg_cmp p46.1 ((p46.2).2.1 a55 (x52 : Int32).toNatClampNeg)) then zoS (sh o) 13 (fun le61 => Option.bind ((p46.2).2.2 o 23) (fun a62 => zoS (sh a62) 102 (fun le64 => if (3 : Int32) < 0 ∨ le64 ≤ (3 : Int32).toNatClampNeg then none else zoS (sh o) 13 (fun le67 => Option.bind ((p46.2).2.2 o 23) (fun a68 => zoL ((6 * x2_) + 3) (fun i69 => zoS (sh a68) 102 (fun le71 => if (i69 : Int32) < 0 ∨ le71 ≤ (i69 : Int32).toNatClampNeg then none else zoS (sh o) 13 (fun le74 => Option.bind ((p46.2).2.2 o 23) (fun a75 => zoL ((6 * x3_) + 3) (fun i76 => zoS (sh a75) 102 (fun le78 => if (i76 : Int32) < 0 ∨ le78 ≤ (i76 : Int32).toNatClampNeg then none else zoL (((x24 * ((p46.2).2.1 a62 (3 : Int32).toNatClampNeg)) + (x34 * ((p46.2).2.1 a68 (i69 : Int32).toNatClampNeg))) + (x44 * ((p46.2).2.1 a75 (i76 : Int32).toNatClampNeg))) (fun x80 => Option.bind (F_MPainter_div sh (p46.2) x80 x45) (fun p81 => zoS (sh o) 13 (fun le83 => Option.bind ((p81.2).2.2 o 23) (fun a84 => zoS (sh a84) 102 (fun le86 => if (4 : Int32) < 0 ∨ le86 ≤ (4 : Int32).toNatClampNeg then none else zoS (sh o) 13 (fun le89 => Option.bind ((p81.2).2.2 o 23) (fun a90 => zoL ((6 * x2_) + 4) (fun i91 => zoS (sh a90) 102 (fun le93 => if (i91 : Int32) < 0 ∨ le93 ≤ (i91 : Int32).toNatClampNeg then none else zoS (sh o) 13 (fun le96 => Option.bind ((p81.2).2.2 o 23) (fun a97 => zoL ((6 * x3_) + 4) (fun i98 => zoS (sh a97) 102 (fun le100 => if (i98 : Int32) < 0 ∨ le100 ≤ (i98 : Int32).toNatClampNeg then none else zoL (((x24 * ((p81.2).2.1 a84 (4 : Int32).toNatClampNeg)) + (x34 * ((p81.2).2.1 a90 (i91 : Int32).toNatClampNeg))) + (x44 * ((p81.2).2.1 a97 (i98 : Int32).toNatClampNeg))) (fun x102 => Option.bind (F_MPainter_div sh (p81.2) x102 x45) (fun p103 => zoS (sh o) 13 (fun le105 => Option.bind ((p103.2).2.2 o 23) (fun a106 => zoS (sh a106) 102 (fun le108 => if (5 : Int32) < 0 ∨ le108 ≤ (5 : Int32).toNatClampNeg then none else zoS (sh o) 13 (fun le111 => Option.bind ((p103.2).2.2 o 23) (fun a112 => zoL ((6 * x2_) + 5) (fun i113 => zoS (sh a112) 102 (fun le115 => if (i113 : Int32) < 0 ∨ le115 ≤ (i113 : Int32).toNatClampNeg then none else zoS (sh o) 13 (fun le118 => Option.bind ((p103.2).2.2 o 23) (fun a119 => zoL ((6 * x3_) + 5) (fun i120 => zoS (sh a119) 102 (fun le122 => if (i120 : Int32) < 0 ∨ le122 ≤ (i120 : Int32).toNatClampNeg then none else zoL (((x24 * ((p103.2).2.1 a106 (5 : Int32).toNatClampNeg)) + (x34 * ((p103.2).2.1 a112 (i113 : Int32).toNatClampNeg))) + (x44 * ((p103.2).2.1 a119 (i120 : Int32).toNatClampNeg))) (fun x124 => Option.bind (F_MPainter_div sh (p103.2) x124 x45) (fun p125 => zoS (sh o) 13 (fun le127 => Option.bind (F_MPainter_materialOf sh (p125.2) o x0_) (fun p128 => zoS (sh o) 13 (fun le130 => Option.bind (F_MPainter_colour sh (p128.2) o (p128.1) x2_ x3_ x4_ (p81.1) (p103.1) (p125.1)) (fun p131 => zoS (sh o) 13 (fun le133 => Option.bind (p131.2.2 o 5) (fun a134 => zoS (sh a134) 15 (fun le136 => Option.bind (p131.2.2 a134 9) (fun a137 => zoL ((4 * p128.1) + 3) (fun i138 => zoS (sh a137) 100 (fun le140 => if (i138 : Int32) < 0 ∨ le140 ≤ (i138 : Int32).toNatClampNeg then none else zoL (((p131.1 a137 (i138 : Int32).toNatClampNeg) : Int32).toInt64) (fun x142 => Option.bind (L_MPainter_goOverPixel_396 sh zfuel o (p46.1) x52 x142 0 p131) (fun q182 => (if (lg_cmp q182.2.2.2.1 255) = 0 then zoS (sh (q182.1)) 13 (fun le185 => Option.bind ((q182.2.2.2.2.2).2.2 (q182.1) 4) (fun a186 => zoS (sh a186) 102 (fun le188 => if (q182.2.2.1 : Int32) < 0 ∨ le188 ≤ (q182.2.2.1 : Int32).toNatClampNeg then none else zoL (mL (q182.2.2.2.2.2) a186 (q182.2.2.1 : Int32).toNatClampNeg (q182.2.1)) (fun mm190 => some mm190)))) else some (q182.2.2.2.2.2))))))))))))))))))))))))))))))))))))))))))))))))))))) else some (p46.2))))))))))))))))))))))))))))))))))))))))
set_option maxHeartbeats 4000000 in
set_option maxRecDepth 100000 in
theorem k_MPainter_goOverPixel (l : Launch) (D : va_G) (tA : Nat → ClassId) (b : Nat) (sh : zSh) (n : Nat) {mm : zMem} {o : Nat} {x0_ : Int32} {x1_ : Int32} {x2_ : Int32} {x3_ : Int32} {x4_ : Int64} {x5_ : Int32} {x6_ : Int32} {r : zMem} (h : F_MPainter_goOverPixel sh mm o x0_ x1_ x2_ x3_ x4_ x5_ x6_ = some r) : zM l D tA b zy_MPainter_goOverPixel zb_MPainter_goOverPixel 36 none 5 158 0 0 [.ref (b + o), .int x0_, .int x1_, .int x2_, .int x3_, .long x4_, .int x5_, .int x6_] (zW tA b sh mm) n (zE none (zW tA b sh r) n) := by
  unfold F_MPainter_goOverPixel at h
  refine zM_of (own := "OrreryBoxModel$Painter") (plainFor_of_name (by decide)) rfl (Nat.le_of_ble_eq_true rfl) (fun p e s m below meth c F hr hin hH => ?_)
  refine zr_bipushv (v := 16) F zd_MPainter_goOverPixel_0 (by decide) ?_
  refine zr_iload F zd_MPainter_goOverPixel_2 rfl ?_
  refine zr_imul F zd_MPainter_goOverPixel_4 ?_
  refine zr_bipushv (v := 8) F zd_MPainter_goOverPixel_5 (by decide) ?_
  refine zr_iadd F zd_MPainter_goOverPixel_7 ?_
  refine zr_i2l F zd_MPainter_goOverPixel_8 ?_
  obtain ⟨x1, ex1, h⟩ := zoL_s h
  rw [← ex1]
  refine zr_lstore F zd_MPainter_goOverPixel_9 (by decide) ?_
  refine zr_pcn 11 rfl ?_
  refine zr_bipushv (v := 16) F zd_MPainter_goOverPixel_11 (by decide) ?_
  refine zr_iload F zd_MPainter_goOverPixel_13 rfl ?_
  refine zr_imul F zd_MPainter_goOverPixel_15 ?_
  refine zr_bipushv (v := 8) F zd_MPainter_goOverPixel_16 (by decide) ?_
  refine zr_iadd F zd_MPainter_goOverPixel_18 ?_
  refine zr_i2l F zd_MPainter_goOverPixel_19 ?_
  obtain ⟨x2, ex2, h⟩ := zoL_s h
  rw [← ex2]
  refine zr_lstore F zd_MPainter_goOverPixel_20 (by decide) ?_
  refine zr_aload_n F zd_MPainter_goOverPixel_22 rfl ?_
  refine zr_pcn 23 rfl ?_
  refine zr_iload_n F zd_MPainter_goOverPixel_23 rfl ?_
  refine zr_iload F zd_MPainter_goOverPixel_24 rfl ?_
  refine zr_lload F zd_MPainter_goOverPixel_26 rfl ?_
  refine zr_lload F zd_MPainter_goOverPixel_28 rfl ?_
  obtain ⟨le4, hs3, h⟩ := zoS_s h
  obtain ⟨p5, ep5, h⟩ := zoB_s h
  refine zr_callV1 F (k_MPainter_inside l D tA b sh _ ep5) zd_MPainter_goOverPixel_30 (zW_o hs3 (by decide)) rfl zs_MPainter_285 rfl zq_MPainter_inside rfl rfl ⟨(Nat.le_of_ble_eq_true rfl), (Nat.le_of_ble_eq_true rfl)⟩ (Nat.le_of_ble_eq_true rfl) ⟨(Nat.le_of_ble_eq_true rfl), (Nat.le_of_ble_eq_true rfl)⟩ ?_
  refine zr_if_eq F 63 zd_MPainter_goOverPixel_33 (by decide) (fun hb6 => ?_) (fun hb6 => ?_)
  ·
    rw [if_pos hb6] at h
    obtain rfl := Option.some.inj h
    exact zr_vret F hr zd_MPainter_goOverPixel_63 (Nat.le_of_ble_eq_true rfl) (Nat.le_of_ble_eq_true rfl) ⟨rfl, rfl, rfl⟩
  ·
    rw [if_neg hb6] at h
    refine zr_aload_n F zd_MPainter_goOverPixel_36 rfl ?_
    refine zr_pcn 37 rfl ?_
    refine zr_iload F zd_MPainter_goOverPixel_37 rfl ?_
    refine zr_iconstv (v := 0) F zd_MPainter_goOverPixel_39 (by decide) ?_
    refine zr_lload F zd_MPainter_goOverPixel_40 rfl ?_
    refine zr_lload F zd_MPainter_goOverPixel_42 rfl ?_
    obtain ⟨le8, hs7, h⟩ := zoS_s h
    obtain ⟨p9, ep9, h⟩ := zoB_s h
    refine zr_callV1 F (k_MPainter_inside l D tA b sh _ ep9) zd_MPainter_goOverPixel_44 (zW_o hs7 (by decide)) rfl zs_MPainter_285 rfl zq_MPainter_inside rfl rfl ⟨(Nat.le_of_ble_eq_true rfl), (Nat.le_of_ble_eq_true rfl)⟩ (Nat.le_of_ble_eq_true rfl) ⟨(Nat.le_of_ble_eq_true rfl), (Nat.le_of_ble_eq_true rfl)⟩ ?_
    refine zr_if_eq F 63 zd_MPainter_goOverPixel_47 (by decide) (fun hb10 => ?_) (fun hb10 => ?_)
    ·
      rw [if_pos hb10] at h
      obtain rfl := Option.some.inj h
      exact zr_vret F hr zd_MPainter_goOverPixel_63 (Nat.le_of_ble_eq_true rfl) (Nat.le_of_ble_eq_true rfl) ⟨rfl, rfl, rfl⟩
    ·
      rw [if_neg hb10] at h
      refine zr_aload_n F zd_MPainter_goOverPixel_50 rfl ?_
      refine zr_pcn 51 rfl ?_
      refine zr_iconstv (v := 0) F zd_MPainter_goOverPixel_51 (by decide) ?_
      refine zr_iload_n F zd_MPainter_goOverPixel_52 rfl ?_
      refine zr_lload F zd_MPainter_goOverPixel_53 rfl ?_
      refine zr_lload F zd_MPainter_goOverPixel_55 rfl ?_
      obtain ⟨le12, hs11, h⟩ := zoS_s h
      obtain ⟨p13, ep13, h⟩ := zoB_s h
      refine zr_callV1 F (k_MPainter_inside l D tA b sh _ ep13) zd_MPainter_goOverPixel_57 (zW_o hs11 (by decide)) rfl zs_MPainter_285 rfl zq_MPainter_inside rfl rfl ⟨(Nat.le_of_ble_eq_true rfl), (Nat.le_of_ble_eq_true rfl)⟩ (Nat.le_of_ble_eq_true rfl) ⟨(Nat.le_of_ble_eq_true rfl), (Nat.le_of_ble_eq_true rfl)⟩ ?_
      refine zr_if_ne F 64 zd_MPainter_goOverPixel_60 (by decide) (fun hb14 => ?_) (fun hb14 => ?_)
      ·
        rw [if_neg hb14] at h
        refine zr_aload_n F zd_MPainter_goOverPixel_64 rfl ?_
        refine zr_iload_n F zd_MPainter_goOverPixel_65 rfl ?_
        refine zr_pcn 66 rfl ?_
        refine zr_iload F zd_MPainter_goOverPixel_66 rfl ?_
        refine zr_lload F zd_MPainter_goOverPixel_68 rfl ?_
        refine zr_lload F zd_MPainter_goOverPixel_70 rfl ?_
        obtain ⟨le16, hs15, h⟩ := zoS_s h
        obtain ⟨p17, ep17, h⟩ := zoB_s h
        refine zr_callV1 F (k_MPainter_edge l D tA b sh _ ep17) zd_MPainter_goOverPixel_72 (zW_o hs15 (by decide)) rfl zs_MPainter_281 rfl zq_MPainter_edge rfl rfl ⟨(Nat.le_of_ble_eq_true rfl), (Nat.le_of_ble_eq_true rfl)⟩ (Nat.le_of_ble_eq_true rfl) ⟨(Nat.le_of_ble_eq_true rfl), (Nat.le_of_ble_eq_true rfl)⟩ ?_
        refine zr_aload_n F zd_MPainter_goOverPixel_75 rfl ?_
        obtain ⟨le19, hs18, h⟩ := zoS_s h
        obtain ⟨a20, ea20, h⟩ := zoB_s h
        refine zr_get F 13 29 zd_MPainter_goOverPixel_76 (zW_o hs18 (by decide)) rfl (by decide) zw_1609 rfl (by rfl) ?_
        refine zr_tor ea20 ?_
        refine zr_iconstv (v := 0) F zd_MPainter_goOverPixel_79 (by decide) ?_
        obtain ⟨le22, hs21, h⟩ := zoS_s h
        obtain ⟨hi23, h⟩ := zoI_s h
        refine zr_lald F zd_MPainter_goOverPixel_80 (zW_a2 hs21) hi23 ?_
        refine zr_pcn 81 rfl ?_
        refine zr_lmul F zd_MPainter_goOverPixel_81 ?_
        obtain ⟨x24, ex24, h⟩ := zoL_s h
        rw [← ex24]
        refine zr_lstore F zd_MPainter_goOverPixel_82 (by decide) ?_
        refine zr_aload_n F zd_MPainter_goOverPixel_84 rfl ?_
        refine zr_iload F zd_MPainter_goOverPixel_85 rfl ?_
        refine zr_iconstv (v := 0) F zd_MPainter_goOverPixel_87 (by decide) ?_
        refine zr_lload F zd_MPainter_goOverPixel_88 rfl ?_
        refine zr_lload F zd_MPainter_goOverPixel_90 rfl ?_
        obtain ⟨le26, hs25, h⟩ := zoS_s h
        obtain ⟨p27, ep27, h⟩ := zoB_s h
        refine zr_callV1 F (k_MPainter_edge l D tA b sh _ ep27) zd_MPainter_goOverPixel_92 (zW_o hs25 (by decide)) rfl zs_MPainter_281 rfl zq_MPainter_edge rfl rfl ⟨(Nat.le_of_ble_eq_true rfl), (Nat.le_of_ble_eq_true rfl)⟩ (Nat.le_of_ble_eq_true rfl) ⟨(Nat.le_of_ble_eq_true rfl), (Nat.le_of_ble_eq_true rfl)⟩ ?_
        refine zr_pcn 95 rfl ?_
        refine zr_aload_n F zd_MPainter_goOverPixel_95 rfl ?_
        obtain ⟨le29, hs28, h⟩ := zoS_s h
        obtain ⟨a30, ea30, h⟩ := zoB_s h
        refine zr_get F 13 29 zd_MPainter_goOverPixel_96 (zW_o hs28 (by decide)) rfl (by decide) zw_1609 rfl (by rfl) ?_
        refine zr_tor ea30 ?_
        refine zr_iload_n F zd_MPainter_goOverPixel_99 rfl ?_
        obtain ⟨le32, hs31, h⟩ := zoS_s h
        obtain ⟨hi33, h⟩ := zoI_s h
        refine zr_lald F zd_MPainter_goOverPixel_100 (zW_a2 hs31) hi33 ?_
        refine zr_lmul F zd_MPainter_goOverPixel_101 ?_
        obtain ⟨x34, ex34, h⟩ := zoL_s h
        rw [← ex34]
        refine zr_lstore F zd_MPainter_goOverPixel_102 (by decide) ?_
        refine zr_aload_n F zd_MPainter_goOverPixel_104 rfl ?_
        refine zr_iconstv (v := 0) F zd_MPainter_goOverPixel_105 (by decide) ?_
        refine zr_pcn 106 rfl ?_
        refine zr_iload_n F zd_MPainter_goOverPixel_106 rfl ?_
        refine zr_lload F zd_MPainter_goOverPixel_107 rfl ?_
        refine zr_lload F zd_MPainter_goOverPixel_109 rfl ?_
        obtain ⟨le36, hs35, h⟩ := zoS_s h
        obtain ⟨p37, ep37, h⟩ := zoB_s h
        refine zr_callV1 F (k_MPainter_edge l D tA b sh _ ep37) zd_MPainter_goOverPixel_111 (zW_o hs35 (by decide)) rfl zs_MPainter_281 rfl zq_MPainter_edge rfl rfl ⟨(Nat.le_of_ble_eq_true rfl), (Nat.le_of_ble_eq_true rfl)⟩ (Nat.le_of_ble_eq_true rfl) ⟨(Nat.le_of_ble_eq_true rfl), (Nat.le_of_ble_eq_true rfl)⟩ ?_
        refine zr_aload_n F zd_MPainter_goOverPixel_114 rfl ?_
        obtain ⟨le39, hs38, h⟩ := zoS_s h
        obtain ⟨a40, ea40, h⟩ := zoB_s h
        refine zr_get F 13 29 zd_MPainter_goOverPixel_115 (zW_o hs38 (by decide)) rfl (by decide) zw_1609 rfl (by rfl) ?_
        refine zr_tor ea40 ?_
        refine zr_iload F zd_MPainter_goOverPixel_118 rfl ?_
        obtain ⟨le42, hs41, h⟩ := zoS_s h
        obtain ⟨hi43, h⟩ := zoI_s h
        refine zr_lald F zd_MPainter_goOverPixel_120 (zW_a2 hs41) hi43 ?_
        refine zr_pcn 121 rfl ?_
        refine zr_lmul F zd_MPainter_goOverPixel_121 ?_
        obtain ⟨x44, ex44, h⟩ := zoL_s h
        rw [← ex44]
        refine zr_lstore F zd_MPainter_goOverPixel_122 (by decide) ?_
        refine zr_lload F zd_MPainter_goOverPixel_124 rfl ?_
        refine zr_lload F zd_MPainter_goOverPixel_126 rfl ?_
        refine zr_ladd F zd_MPainter_goOverPixel_128 ?_
        refine zr_lload F zd_MPainter_goOverPixel_129 rfl ?_
        refine zr_ladd F zd_MPainter_goOverPixel_131 ?_
        obtain ⟨x45, ex45, h⟩ := zoL_s h
        rw [← ex45]
        refine zr_lstore F zd_MPainter_goOverPixel_132 (by decide) ?_
        refine zr_pcn 134 rfl ?_
        refine zr_lload F zd_MPainter_goOverPixel_134 rfl ?_
        refine zr_lload F zd_MPainter_goOverPixel_136 rfl ?_
        obtain ⟨p46, ep46, h⟩ := zoB_s h
        refine zr_callS1 F (k_MPainter_div l D tA b sh _ ep46) zd_MPainter_goOverPixel_138 zs_MPainter_103 zq_MPainter_div rfl rfl ⟨(Nat.le_of_ble_eq_true rfl), (Nat.le_of_ble_eq_true rfl)⟩ (Nat.le_of_ble_eq_true rfl) ⟨(Nat.le_of_ble_eq_true rfl), (Nat.le_of_ble_eq_true rfl)⟩ ?_
        refine zr_lstore F zd_MPainter_goOverPixel_141 (by decide) ?_
        refine zr_aload_n F zd_MPainter_goOverPixel_143 rfl ?_
        obtain ⟨le48, hs47, h⟩ := zoS_s h
        refine zr_get F 13 10 zd_MPainter_goOverPixel_144 (zW_o hs47 (by decide)) rfl (by decide) zw_1587 rfl (by rfl) ?_
        refine zr_if_ne F 185 zd_MPainter_goOverPixel_147 (by decide) (fun hb49 => ?_) (fun hb49 => ?_)
        ·
          rw [if_neg hb49] at h
          refine zr_aload_n F zd_MPainter_goOverPixel_185 rfl ?_
          refine zr_pcn 186 rfl ?_
          obtain ⟨le51, hs50, h⟩ := zoS_s h
          refine zr_get F 13 1 zd_MPainter_goOverPixel_186 (zW_o hs50 (by decide)) rfl (by decide) zw_1577 rfl (by rfl) ?_
          refine zr_iload F zd_MPainter_goOverPixel_189 rfl ?_
          refine zr_imul F zd_MPainter_goOverPixel_191 ?_
          refine zr_iload F zd_MPainter_goOverPixel_192 rfl ?_
          refine zr_iadd F zd_MPainter_goOverPixel_194 ?_
          obtain ⟨x52, ex52, h⟩ := zoL_s h
          rw [← ex52]
          refine zr_istore F zd_MPainter_goOverPixel_195 (by decide) ?_
          refine zr_lload F zd_MPainter_goOverPixel_197 rfl ?_
          refine zr_aload_n F zd_MPainter_goOverPixel_199 rfl ?_
          refine zr_pcn 200 rfl ?_
          obtain ⟨le54, hs53, h⟩ := zoS_s h
          obtain ⟨a55, ea55, h⟩ := zoB_s h
          refine zr_get F 13 4 zd_MPainter_goOverPixel_200 (zW_o hs53 (by decide)) rfl (by decide) zw_1580 rfl (by rfl) ?_
          refine zr_tor ea55 ?_
          refine zr_iload F zd_MPainter_goOverPixel_203 rfl ?_
          obtain ⟨le57, hs56, h⟩ := zoS_s h
          obtain ⟨hi58, h⟩ := zoI_s h
          refine zr_lald F zd_MPainter_goOverPixel_205 (zW_a2 hs56) hi58 ?_
          refine zr_lcmp F zd_MPainter_goOverPixel_206 ?_
          refine zr_if_gt F 211 zd_MPainter_goOverPixel_207 (by decide) (fun hb59 => ?_) (fun hb59 => ?_)
          ·
            rw [if_pos hb59] at h
            refine zr_lload F zd_MPainter_goOverPixel_211 rfl ?_
            refine zr_aload_n F zd_MPainter_goOverPixel_213 rfl ?_
            obtain ⟨le61, hs60, h⟩ := zoS_s h
            obtain ⟨a62, ea62, h⟩ := zoB_s h
            refine zr_get F 13 23 zd_MPainter_goOverPixel_214 (zW_o hs60 (by decide)) rfl (by decide) zw_1603 rfl (by rfl) ?_
            refine zr_tor ea62 ?_
            refine zr_pcn 217 rfl ?_
            refine zr_iconstv (v := 3) F zd_MPainter_goOverPixel_217 (by decide) ?_
            obtain ⟨le64, hs63, h⟩ := zoS_s h
            obtain ⟨hi65, h⟩ := zoI_s h
            refine zr_lald F zd_MPainter_goOverPixel_218 (zW_a2 hs63) hi65 ?_
            refine zr_lmul F zd_MPainter_goOverPixel_219 ?_
            refine zr_lload F zd_MPainter_goOverPixel_220 rfl ?_
            refine zr_aload_n F zd_MPainter_goOverPixel_222 rfl ?_
            obtain ⟨le67, hs66, h⟩ := zoS_s h
            obtain ⟨a68, ea68, h⟩ := zoB_s h
            refine zr_get F 13 23 zd_MPainter_goOverPixel_223 (zW_o hs66 (by decide)) rfl (by decide) zw_1603 rfl (by rfl) ?_
            refine zr_tor ea68 ?_
            refine zr_bipushv (v := 6) F zd_MPainter_goOverPixel_226 (by decide) ?_
            refine zr_iload_n F zd_MPainter_goOverPixel_228 rfl ?_
            refine zr_pcn 229 rfl ?_
            refine zr_imul F zd_MPainter_goOverPixel_229 ?_
            refine zr_iconstv (v := 3) F zd_MPainter_goOverPixel_230 (by decide) ?_
            refine zr_iadd F zd_MPainter_goOverPixel_231 ?_
            obtain ⟨i69, ei69, h⟩ := zoL_s h
            rw [← ei69]
            obtain ⟨le71, hs70, h⟩ := zoS_s h
            obtain ⟨hi72, h⟩ := zoI_s h
            refine zr_lald F zd_MPainter_goOverPixel_232 (zW_a2 hs70) hi72 ?_
            refine zr_lmul F zd_MPainter_goOverPixel_233 ?_
            refine zr_ladd F zd_MPainter_goOverPixel_234 ?_
            refine zr_lload F zd_MPainter_goOverPixel_235 rfl ?_
            refine zr_aload_n F zd_MPainter_goOverPixel_237 rfl ?_
            refine zr_pcn 238 rfl ?_
            obtain ⟨le74, hs73, h⟩ := zoS_s h
            obtain ⟨a75, ea75, h⟩ := zoB_s h
            refine zr_get F 13 23 zd_MPainter_goOverPixel_238 (zW_o hs73 (by decide)) rfl (by decide) zw_1603 rfl (by rfl) ?_
            refine zr_tor ea75 ?_
            refine zr_bipushv (v := 6) F zd_MPainter_goOverPixel_241 (by decide) ?_
            refine zr_iload F zd_MPainter_goOverPixel_243 rfl ?_
            refine zr_imul F zd_MPainter_goOverPixel_245 ?_
            refine zr_iconstv (v := 3) F zd_MPainter_goOverPixel_246 (by decide) ?_
            refine zr_iadd F zd_MPainter_goOverPixel_247 ?_
            obtain ⟨i76, ei76, h⟩ := zoL_s h
            rw [← ei76]
            obtain ⟨le78, hs77, h⟩ := zoS_s h
            obtain ⟨hi79, h⟩ := zoI_s h
            refine zr_lald F zd_MPainter_goOverPixel_248 (zW_a2 hs77) hi79 ?_
            refine zr_lmul F zd_MPainter_goOverPixel_249 ?_
            refine zr_pcn 250 rfl ?_
            refine zr_ladd F zd_MPainter_goOverPixel_250 ?_
            refine zr_lload F zd_MPainter_goOverPixel_251 rfl ?_
            obtain ⟨x80, ex80, h⟩ := zoL_s h
            rw [← ex80]
            obtain ⟨p81, ep81, h⟩ := zoB_s h
            refine zr_callS1 F (k_MPainter_div l D tA b sh _ ep81) zd_MPainter_goOverPixel_253 zs_MPainter_103 zq_MPainter_div rfl rfl ⟨(Nat.le_of_ble_eq_true rfl), (Nat.le_of_ble_eq_true rfl)⟩ (Nat.le_of_ble_eq_true rfl) ⟨(Nat.le_of_ble_eq_true rfl), (Nat.le_of_ble_eq_true rfl)⟩ ?_
            refine zr_lstore F zd_MPainter_goOverPixel_256 (by decide) ?_
            refine zr_lload F zd_MPainter_goOverPixel_258 rfl ?_
            refine zr_aload_n F zd_MPainter_goOverPixel_260 rfl ?_
            obtain ⟨le83, hs82, h⟩ := zoS_s h
            obtain ⟨a84, ea84, h⟩ := zoB_s h
            refine zr_get F 13 23 zd_MPainter_goOverPixel_261 (zW_o hs82 (by decide)) rfl (by decide) zw_1603 rfl (by rfl) ?_
            refine zr_tor ea84 ?_
            refine zr_iconstv (v := 4) F zd_MPainter_goOverPixel_264 (by decide) ?_
            refine zr_pcn 265 rfl ?_
            obtain ⟨le86, hs85, h⟩ := zoS_s h
            obtain ⟨hi87, h⟩ := zoI_s h
            refine zr_lald F zd_MPainter_goOverPixel_265 (zW_a2 hs85) hi87 ?_
            refine zr_lmul F zd_MPainter_goOverPixel_266 ?_
            refine zr_lload F zd_MPainter_goOverPixel_267 rfl ?_
            refine zr_aload_n F zd_MPainter_goOverPixel_269 rfl ?_
            obtain ⟨le89, hs88, h⟩ := zoS_s h
            obtain ⟨a90, ea90, h⟩ := zoB_s h
            refine zr_get F 13 23 zd_MPainter_goOverPixel_270 (zW_o hs88 (by decide)) rfl (by decide) zw_1603 rfl (by rfl) ?_
            refine zr_tor ea90 ?_
            refine zr_bipushv (v := 6) F zd_MPainter_goOverPixel_273 (by decide) ?_
            refine zr_iload_n F zd_MPainter_goOverPixel_275 rfl ?_
            refine zr_imul F zd_MPainter_goOverPixel_276 ?_
            refine zr_pcn 277 rfl ?_
            refine zr_iconstv (v := 4) F zd_MPainter_goOverPixel_277 (by decide) ?_
            refine zr_iadd F zd_MPainter_goOverPixel_278 ?_
            obtain ⟨i91, ei91, h⟩ := zoL_s h
            rw [← ei91]
            obtain ⟨le93, hs92, h⟩ := zoS_s h
            obtain ⟨hi94, h⟩ := zoI_s h
            refine zr_lald F zd_MPainter_goOverPixel_279 (zW_a2 hs92) hi94 ?_
            refine zr_lmul F zd_MPainter_goOverPixel_280 ?_
            refine zr_ladd F zd_MPainter_goOverPixel_281 ?_
            refine zr_lload F zd_MPainter_goOverPixel_282 rfl ?_
            refine zr_aload_n F zd_MPainter_goOverPixel_284 rfl ?_
            obtain ⟨le96, hs95, h⟩ := zoS_s h
            obtain ⟨a97, ea97, h⟩ := zoB_s h
            refine zr_get F 13 23 zd_MPainter_goOverPixel_285 (zW_o hs95 (by decide)) rfl (by decide) zw_1603 rfl (by rfl) ?_
            refine zr_tor ea97 ?_
            refine zr_pcn 288 rfl ?_
            refine zr_bipushv (v := 6) F zd_MPainter_goOverPixel_288 (by decide) ?_
            refine zr_iload F zd_MPainter_goOverPixel_290 rfl ?_
            refine zr_imul F zd_MPainter_goOverPixel_292 ?_
            refine zr_iconstv (v := 4) F zd_MPainter_goOverPixel_293 (by decide) ?_
            refine zr_iadd F zd_MPainter_goOverPixel_294 ?_
            obtain ⟨i98, ei98, h⟩ := zoL_s h
            rw [← ei98]
            obtain ⟨le100, hs99, h⟩ := zoS_s h
            obtain ⟨hi101, h⟩ := zoI_s h
            refine zr_lald F zd_MPainter_goOverPixel_295 (zW_a2 hs99) hi101 ?_
            refine zr_lmul F zd_MPainter_goOverPixel_296 ?_
            refine zr_ladd F zd_MPainter_goOverPixel_297 ?_
            refine zr_pcn 298 rfl ?_
            refine zr_lload F zd_MPainter_goOverPixel_298 rfl ?_
            obtain ⟨x102, ex102, h⟩ := zoL_s h
            rw [← ex102]
            obtain ⟨p103, ep103, h⟩ := zoB_s h
            refine zr_callS1 F (k_MPainter_div l D tA b sh _ ep103) zd_MPainter_goOverPixel_300 zs_MPainter_103 zq_MPainter_div rfl rfl ⟨(Nat.le_of_ble_eq_true rfl), (Nat.le_of_ble_eq_true rfl)⟩ (Nat.le_of_ble_eq_true rfl) ⟨(Nat.le_of_ble_eq_true rfl), (Nat.le_of_ble_eq_true rfl)⟩ ?_
            refine zr_lstore F zd_MPainter_goOverPixel_303 (by decide) ?_
            refine zr_lload F zd_MPainter_goOverPixel_305 rfl ?_
            refine zr_aload_n F zd_MPainter_goOverPixel_307 rfl ?_
            obtain ⟨le105, hs104, h⟩ := zoS_s h
            obtain ⟨a106, ea106, h⟩ := zoB_s h
            refine zr_get F 13 23 zd_MPainter_goOverPixel_308 (zW_o hs104 (by decide)) rfl (by decide) zw_1603 rfl (by rfl) ?_
            refine zr_tor ea106 ?_
            refine zr_iconstv (v := 5) F zd_MPainter_goOverPixel_311 (by decide) ?_
            obtain ⟨le108, hs107, h⟩ := zoS_s h
            obtain ⟨hi109, h⟩ := zoI_s h
            refine zr_lald F zd_MPainter_goOverPixel_312 (zW_a2 hs107) hi109 ?_
            refine zr_pcn 313 rfl ?_
            refine zr_lmul F zd_MPainter_goOverPixel_313 ?_
            refine zr_lload F zd_MPainter_goOverPixel_314 rfl ?_
            refine zr_aload_n F zd_MPainter_goOverPixel_316 rfl ?_
            obtain ⟨le111, hs110, h⟩ := zoS_s h
            obtain ⟨a112, ea112, h⟩ := zoB_s h
            refine zr_get F 13 23 zd_MPainter_goOverPixel_317 (zW_o hs110 (by decide)) rfl (by decide) zw_1603 rfl (by rfl) ?_
            refine zr_tor ea112 ?_
            refine zr_bipushv (v := 6) F zd_MPainter_goOverPixel_320 (by decide) ?_
            refine zr_iload_n F zd_MPainter_goOverPixel_322 rfl ?_
            refine zr_imul F zd_MPainter_goOverPixel_323 ?_
            refine zr_iconstv (v := 5) F zd_MPainter_goOverPixel_324 (by decide) ?_
            refine zr_pcn 325 rfl ?_
            refine zr_iadd F zd_MPainter_goOverPixel_325 ?_
            obtain ⟨i113, ei113, h⟩ := zoL_s h
            rw [← ei113]
            obtain ⟨le115, hs114, h⟩ := zoS_s h
            obtain ⟨hi116, h⟩ := zoI_s h
            refine zr_lald F zd_MPainter_goOverPixel_326 (zW_a2 hs114) hi116 ?_
            refine zr_lmul F zd_MPainter_goOverPixel_327 ?_
            refine zr_ladd F zd_MPainter_goOverPixel_328 ?_
            refine zr_lload F zd_MPainter_goOverPixel_329 rfl ?_
            refine zr_aload_n F zd_MPainter_goOverPixel_331 rfl ?_
            obtain ⟨le118, hs117, h⟩ := zoS_s h
            obtain ⟨a119, ea119, h⟩ := zoB_s h
            refine zr_get F 13 23 zd_MPainter_goOverPixel_332 (zW_o hs117 (by decide)) rfl (by decide) zw_1603 rfl (by rfl) ?_
            refine zr_tor ea119 ?_
            refine zr_bipushv (v := 6) F zd_MPainter_goOverPixel_335 (by decide) ?_
            refine zr_pcn 337 rfl ?_
            refine zr_iload F zd_MPainter_goOverPixel_337 rfl ?_
            refine zr_imul F zd_MPainter_goOverPixel_339 ?_
            refine zr_iconstv (v := 5) F zd_MPainter_goOverPixel_340 (by decide) ?_
            refine zr_iadd F zd_MPainter_goOverPixel_341 ?_
            obtain ⟨i120, ei120, h⟩ := zoL_s h
            rw [← ei120]
            obtain ⟨le122, hs121, h⟩ := zoS_s h
            obtain ⟨hi123, h⟩ := zoI_s h
            refine zr_lald F zd_MPainter_goOverPixel_342 (zW_a2 hs121) hi123 ?_
            refine zr_lmul F zd_MPainter_goOverPixel_343 ?_
            refine zr_ladd F zd_MPainter_goOverPixel_344 ?_
            refine zr_lload F zd_MPainter_goOverPixel_345 rfl ?_
            refine zr_pcn 347 rfl ?_
            obtain ⟨x124, ex124, h⟩ := zoL_s h
            rw [← ex124]
            obtain ⟨p125, ep125, h⟩ := zoB_s h
            refine zr_callS1 F (k_MPainter_div l D tA b sh _ ep125) zd_MPainter_goOverPixel_347 zs_MPainter_103 zq_MPainter_div rfl rfl ⟨(Nat.le_of_ble_eq_true rfl), (Nat.le_of_ble_eq_true rfl)⟩ (Nat.le_of_ble_eq_true rfl) ⟨(Nat.le_of_ble_eq_true rfl), (Nat.le_of_ble_eq_true rfl)⟩ ?_
            refine zr_lstore F zd_MPainter_goOverPixel_350 (by decide) ?_
            refine zr_aload_n F zd_MPainter_goOverPixel_352 rfl ?_
            refine zr_iload_n F zd_MPainter_goOverPixel_353 rfl ?_
            obtain ⟨le127, hs126, h⟩ := zoS_s h
            obtain ⟨p128, ep128, h⟩ := zoB_s h
            refine zr_callV1 F (k_MPainter_materialOf l D tA b sh _ ep128) zd_MPainter_goOverPixel_354 (zW_o hs126 (by decide)) rfl zs_MPainter_180 rfl zq_MPainter_materialOf rfl rfl ⟨(Nat.le_of_ble_eq_true rfl), (Nat.le_of_ble_eq_true rfl)⟩ (Nat.le_of_ble_eq_true rfl) ⟨(Nat.le_of_ble_eq_true rfl), (Nat.le_of_ble_eq_true rfl)⟩ ?_
            refine zr_istore F zd_MPainter_goOverPixel_357 (by decide) ?_
            refine zr_aload_n F zd_MPainter_goOverPixel_359 rfl ?_
            refine zr_iload F zd_MPainter_goOverPixel_360 rfl ?_
            refine zr_pcn 362 rfl ?_
            refine zr_iload_n F zd_MPainter_goOverPixel_362 rfl ?_
            refine zr_iload F zd_MPainter_goOverPixel_363 rfl ?_
            refine zr_lload F zd_MPainter_goOverPixel_365 rfl ?_
            refine zr_lload F zd_MPainter_goOverPixel_367 rfl ?_
            refine zr_lload F zd_MPainter_goOverPixel_369 rfl ?_
            refine zr_lload F zd_MPainter_goOverPixel_371 rfl ?_
            obtain ⟨le130, hs129, h⟩ := zoS_s h
            obtain ⟨p131, ep131, h⟩ := zoB_s h
            refine zr_callV0 F (k_MPainter_colour l D tA b sh _ ep131) zd_MPainter_goOverPixel_373 (zW_o hs129 (by decide)) rfl zs_MPainter_303 rfl zq_MPainter_colour rfl rfl ⟨(Nat.le_of_ble_eq_true rfl), (Nat.le_of_ble_eq_true rfl)⟩ (Nat.le_of_ble_eq_true rfl) ⟨(Nat.le_of_ble_eq_true rfl), (Nat.le_of_ble_eq_true rfl)⟩ ?_
            refine zr_aload_n F zd_MPainter_goOverPixel_376 rfl ?_
            refine zr_pcn 377 rfl ?_
            obtain ⟨le133, hs132, h⟩ := zoS_s h
            obtain ⟨a134, ea134, h⟩ := zoB_s h
            refine zr_get F 13 5 zd_MPainter_goOverPixel_377 (zW_o hs132 (by decide)) rfl (by decide) zw_1581 rfl (by rfl) ?_
            refine zr_tor ea134 ?_
            obtain ⟨le136, hs135, h⟩ := zoS_s h
            obtain ⟨a137, ea137, h⟩ := zoB_s h
            refine zr_get F 15 9 zd_MPainter_goOverPixel_380 (zW_o hs135 (by decide)) rfl (by decide) zw_1345 rfl (by rfl) ?_
            refine zr_tor ea137 ?_
            refine zr_iconstv (v := 4) F zd_MPainter_goOverPixel_383 (by decide) ?_
            refine zr_iload F zd_MPainter_goOverPixel_384 rfl ?_
            refine zr_imul F zd_MPainter_goOverPixel_386 ?_
            refine zr_iconstv (v := 3) F zd_MPainter_goOverPixel_387 (by decide) ?_
            refine zr_iadd F zd_MPainter_goOverPixel_388 ?_
            obtain ⟨i138, ei138, h⟩ := zoL_s h
            rw [← ei138]
            obtain ⟨le140, hs139, h⟩ := zoS_s h
            obtain ⟨hi141, h⟩ := zoI_s h
            refine zr_iald F zd_MPainter_goOverPixel_389 (zW_a0 hs139) hi141 ?_
            refine zr_pcn 390 rfl ?_
            refine zr_i2l F zd_MPainter_goOverPixel_390 ?_
            obtain ⟨x142, ex142, h⟩ := zoL_s h
            rw [← ex142]
            refine zr_lstore F zd_MPainter_goOverPixel_391 (by decide) ?_
            refine zr_iconstv (v := 0) F zd_MPainter_goOverPixel_393 (by decide) ?_
            refine zr_istore F zd_MPainter_goOverPixel_394 (by decide) ?_
            obtain ⟨q182, eq182, h⟩ := zoB_s h
            refine zr_loc (L' := [(0, .ref (b + o)), (21, .long (p46.1)), (23, .int x52), (31, .long x142), (33, .int 0)]) ⟨rfl, rfl, rfl, rfl, rfl, trivial⟩ ?_
            refine lp_MPainter_goOverPixel_396 F _ _ _ _ _ _ _ _ eq182 ?_
            ·
              refine zr_lload F zd_MPainter_goOverPixel_481 rfl ?_
              refine zr_pcn 483 rfl ?_
              refine zr_ldc2 F zd_MPainter_goOverPixel_483 zw_2138 ?_
              refine zr_lcmp F zd_MPainter_goOverPixel_486 ?_
              refine zr_if_ne F 499 zd_MPainter_goOverPixel_487 (by decide) (fun hb183 => ?_) (fun hb183 => ?_)
              ·
                rw [if_neg hb183] at h
                obtain rfl := Option.some.inj h
                exact zr_vret F hr zd_MPainter_goOverPixel_499 (Nat.le_of_ble_eq_true rfl) (Nat.le_of_ble_eq_true rfl) ⟨rfl, rfl, rfl⟩
              ·
                rw [if_pos hb183] at h
                refine zr_aload_n F zd_MPainter_goOverPixel_490 rfl ?_
                obtain ⟨le185, hs184, h⟩ := zoS_s h
                obtain ⟨a186, ea186, h⟩ := zoB_s h
                refine zr_get F 13 4 zd_MPainter_goOverPixel_491 (zW_o hs184 (by decide)) rfl (by decide) zw_1580 rfl (by rfl) ?_
                refine zr_tor ea186 ?_
                refine zr_iload F zd_MPainter_goOverPixel_494 rfl ?_
                refine zr_lload F zd_MPainter_goOverPixel_496 rfl ?_
                refine zr_pcn 498 rfl ?_
                obtain ⟨le188, hs187, h⟩ := zoS_s h
                obtain ⟨hi189, h⟩ := zoI_s h
                refine zr_last F zd_MPainter_goOverPixel_498 (zW_a2 hs187) hi189 ?_
                obtain ⟨mm190, emm190, h⟩ := zoL_s h
                refine zr_norm (zW tA b sh mm190) _ (by rw [emm190]; exact zW_s2 hs187) rfl ?_
                obtain rfl := Option.some.inj h
                exact zr_vret F hr zd_MPainter_goOverPixel_499 (Nat.le_of_ble_eq_true rfl) (Nat.le_of_ble_eq_true rfl) ⟨rfl, rfl, rfl⟩
          ·
            rw [if_neg hb59] at h
            obtain rfl := Option.some.inj h
            exact zr_vret F hr zd_MPainter_goOverPixel_210 (Nat.le_of_ble_eq_true rfl) (Nat.le_of_ble_eq_true rfl) ⟨rfl, rfl, rfl⟩
        ·
          rw [if_pos hb49] at h
          refine zr_aload_n F zd_MPainter_goOverPixel_150 rfl ?_
          obtain ⟨le192, hs191, h⟩ := zoS_s h
          refine zr_get F 13 11 zd_MPainter_goOverPixel_151 (zW_o hs191 (by decide)) rfl (by decide) zw_1589 rfl (by rfl) ?_
          refine zr_iconstv (v := (-1)) F zd_MPainter_goOverPixel_154 (by decide) ?_
          refine zr_icmp_eq F 168 zd_MPainter_goOverPixel_155 (by decide) (fun hb193 => ?_) (fun hb193 => ?_)
          ·
            rw [if_pos hb193] at h
            refine zr_aload_n F zd_MPainter_goOverPixel_168 rfl ?_
            refine zr_pcn 169 rfl ?_
            refine zr_iload_n F zd_MPainter_goOverPixel_169 rfl ?_
            obtain ⟨le195, hs194, h⟩ := zoS_s h
            refine zr_put F 13 11 zd_MPainter_goOverPixel_170 (zW_o hs194 (by decide)) rfl (by decide) zw_1589 rfl rfl rfl rfl (by exact (Nat.le_of_ble_eq_true rfl)) ?_
            obtain ⟨mm196, emm196, h⟩ := zoL_s h
            refine zr_norm (zW tA b sh mm196) _ (by rw [emm196]; exact zW_pI (v := x0_) hs194 (by decide) (zf_I_13_11 b _ _ _)) rfl ?_
            refine zr_aload_n F zd_MPainter_goOverPixel_173 rfl ?_
            refine zr_iload_n F zd_MPainter_goOverPixel_174 rfl ?_
            obtain ⟨le198, hs197, h⟩ := zoS_s h
            refine zr_put F 13 12 zd_MPainter_goOverPixel_175 (zW_o hs197 (by decide)) rfl (by decide) zw_1591 rfl rfl rfl rfl (by exact (Nat.le_of_ble_eq_true rfl)) ?_
            obtain ⟨mm199, emm199, h⟩ := zoL_s h
            refine zr_norm (zW tA b sh mm199) _ (by rw [emm199]; exact zW_pI (v := x1_) hs197 (by decide) (zf_I_13_12 b _ _ _)) rfl ?_
            refine zr_aload_n F zd_MPainter_goOverPixel_178 rfl ?_
            refine zr_lload F zd_MPainter_goOverPixel_179 rfl ?_
            obtain ⟨le201, hs200, h⟩ := zoS_s h
            refine zr_put F 13 13 zd_MPainter_goOverPixel_181 (zW_o hs200 (by decide)) rfl (by decide) zw_1592 rfl rfl rfl rfl (by exact (Nat.le_of_ble_eq_true rfl)) ?_
            obtain ⟨mm202, emm202, h⟩ := zoL_s h
            refine zr_norm (zW tA b sh mm202) _ (by rw [emm202]; exact zW_pL (v := (p46.1)) hs200 (by decide) (zf_L_13_13 b _ _ _)) rfl ?_
            refine zr_pcn 184 rfl ?_
            obtain rfl := Option.some.inj h
            exact zr_vret F hr zd_MPainter_goOverPixel_184 (Nat.le_of_ble_eq_true rfl) (Nat.le_of_ble_eq_true rfl) ⟨rfl, rfl, rfl⟩
          ·
            rw [if_neg hb193] at h
            refine zr_lload F zd_MPainter_goOverPixel_158 rfl ?_
            refine zr_aload_n F zd_MPainter_goOverPixel_160 rfl ?_
            obtain ⟨le204, hs203, h⟩ := zoS_s h
            refine zr_get F 13 13 zd_MPainter_goOverPixel_161 (zW_o hs203 (by decide)) rfl (by decide) zw_1592 rfl (by rfl) ?_
            refine zr_lcmp F zd_MPainter_goOverPixel_164 ?_
            refine zr_if_le F 184 zd_MPainter_goOverPixel_165 (by decide) (fun hb205 => ?_) (fun hb205 => ?_)
            ·
              rw [if_pos hb205] at h
              obtain rfl := Option.some.inj h
              exact zr_vret F hr zd_MPainter_goOverPixel_184 (Nat.le_of_ble_eq_true rfl) (Nat.le_of_ble_eq_true rfl) ⟨rfl, rfl, rfl⟩
            ·
              rw [if_neg hb205] at h
              refine zr_aload_n F zd_MPainter_goOverPixel_168 rfl ?_
              refine zr_pcn 169 rfl ?_
              refine zr_iload_n F zd_MPainter_goOverPixel_169 rfl ?_
              obtain ⟨le207, hs206, h⟩ := zoS_s h
              refine zr_put F 13 11 zd_MPainter_goOverPixel_170 (zW_o hs206 (by decide)) rfl (by decide) zw_1589 rfl rfl rfl rfl (by exact (Nat.le_of_ble_eq_true rfl)) ?_
              obtain ⟨mm208, emm208, h⟩ := zoL_s h
              refine zr_norm (zW tA b sh mm208) _ (by rw [emm208]; exact zW_pI (v := x0_) hs206 (by decide) (zf_I_13_11 b _ _ _)) rfl ?_
              refine zr_aload_n F zd_MPainter_goOverPixel_173 rfl ?_
              refine zr_iload_n F zd_MPainter_goOverPixel_174 rfl ?_
              obtain ⟨le210, hs209, h⟩ := zoS_s h
              refine zr_put F 13 12 zd_MPainter_goOverPixel_175 (zW_o hs209 (by decide)) rfl (by decide) zw_1591 rfl rfl rfl rfl (by exact (Nat.le_of_ble_eq_true rfl)) ?_
              obtain ⟨mm211, emm211, h⟩ := zoL_s h
              refine zr_norm (zW tA b sh mm211) _ (by rw [emm211]; exact zW_pI (v := x1_) hs209 (by decide) (zf_I_13_12 b _ _ _)) rfl ?_
              refine zr_aload_n F zd_MPainter_goOverPixel_178 rfl ?_
              refine zr_lload F zd_MPainter_goOverPixel_179 rfl ?_
              obtain ⟨le213, hs212, h⟩ := zoS_s h
              refine zr_put F 13 13 zd_MPainter_goOverPixel_181 (zW_o hs212 (by decide)) rfl (by decide) zw_1592 rfl rfl rfl rfl (by exact (Nat.le_of_ble_eq_true rfl)) ?_
              obtain ⟨mm214, emm214, h⟩ := zoL_s h
              refine zr_norm (zW tA b sh mm214) _ (by rw [emm214]; exact zW_pL (v := (p46.1)) hs212 (by decide) (zf_L_13_13 b _ _ _)) rfl ?_
              refine zr_pcn 184 rfl ?_
              obtain rfl := Option.some.inj h
              exact zr_vret F hr zd_MPainter_goOverPixel_184 (Nat.le_of_ble_eq_true rfl) (Nat.le_of_ble_eq_true rfl) ⟨rfl, rfl, rfl⟩
      ·
        rw [if_pos hb14] at h
        obtain rfl := Option.some.inj h
        exact zr_vret F hr zd_MPainter_goOverPixel_63 (Nat.le_of_ble_eq_true rfl) (Nat.le_of_ble_eq_true rfl) ⟨rfl, rfl, rfl⟩
def F_OB_time (sh : zSh) (mm : zMem) (o : Nat) (x0_ : Int32) : Option (Int32 × zMem) := (if (sp_OB_within x0_ 0 1000000) = 0 then some (0, mm) else zoS (sh o) 0 (fun le4 => Option.bind (mm.2.2 o 5) (fun a5 => zoS (sh a5) 8 (fun le7 => Option.bind (F_XScene_moveTo sh mm a5 x0_) (fun p8 => some (1, p8))))))
set_option maxHeartbeats 4000000 in
set_option maxRecDepth 100000 in
theorem k_OB_time (l : Launch) (D : va_G) (tA : Nat → ClassId) (b : Nat) (sh : zSh) (n : Nat) {mm : zMem} {o : Nat} {x0_ : Int32} {r : (Int32 × zMem)} (h : F_OB_time sh mm o x0_ = some r) : zM l D tA b zy_OB_time zb_OB_time 2 (some .boolean) 5 128 0 0 [.ref (b + o), .int x0_] (zW tA b sh mm) n (zE (some (.int (r.1))) (zW tA b sh r.2) n) := by
  unfold F_OB_time at h
  refine zM_of (own := "OrreryBox") (plainFor_of_name (by decide)) rfl (Nat.le_of_ble_eq_true rfl) (fun p e s m below meth c F hr hin hH => ?_)
  refine zr_iload_n F zd_OB_time_0 rfl ?_
  refine zr_iconstv (v := 0) F zd_OB_time_1 (by decide) ?_
  refine zr_ldc F zd_OB_time_2 zw_552 ?_
  refine zr_callS1 F (c_OB_within l D tA b _ _ x0_ 0 1000000) zd_OB_time_4 zs_OB_97 zq_OB_within rfl rfl ⟨(Nat.le_of_ble_eq_true rfl), (Nat.le_of_ble_eq_true rfl)⟩ (Nat.le_of_ble_eq_true rfl) ⟨(Nat.le_of_ble_eq_true rfl), (Nat.le_of_ble_eq_true rfl)⟩ ?_
  refine zr_if_ne F 12 zd_OB_time_7 (by decide) (fun hb2 => ?_) (fun hb2 => ?_)
  ·
    rw [if_neg hb2] at h
    refine zr_aload_n F zd_OB_time_12 rfl ?_
    obtain ⟨le4, hs3, h⟩ := zoS_s h
    obtain ⟨a5, ea5, h⟩ := zoB_s h
    refine zr_get F 0 5 zd_OB_time_13 (zW_o hs3 (by decide)) rfl (by decide) zw_493 rfl (by rfl) ?_
    refine zr_tor ea5 ?_
    refine zr_pcn 16 rfl ?_
    refine zr_iload_n F zd_OB_time_16 rfl ?_
    obtain ⟨le7, hs6, h⟩ := zoS_s h
    obtain ⟨p8, ep8, h⟩ := zoB_s h
    refine zr_callV0 F (k_XScene_moveTo l D tA b sh _ ep8) zd_OB_time_17 (zW_o hs6 (by decide)) rfl zs_OB_102 rfl zq_XScene_moveTo rfl rfl ⟨(Nat.le_of_ble_eq_true rfl), (Nat.le_of_ble_eq_true rfl)⟩ (Nat.le_of_ble_eq_true rfl) ⟨(Nat.le_of_ble_eq_true rfl), (Nat.le_of_ble_eq_true rfl)⟩ ?_
    refine zr_iconstv (v := 1) F zd_OB_time_20 (by decide) ?_
    obtain rfl := Option.some.inj h
    exact zr_zret F hr rfl zd_OB_time_21 (Nat.le_of_ble_eq_true rfl) (Nat.le_of_ble_eq_true rfl) ⟨rfl, rfl, rfl⟩
  ·
    rw [if_pos hb2] at h
    refine zr_iconstv (v := 0) F zd_OB_time_10 (by decide) ?_
    obtain rfl := Option.some.inj h
    exact zr_zret F hr rfl zd_OB_time_11 (Nat.le_of_ble_eq_true rfl) (Nat.le_of_ble_eq_true rfl) ⟨rfl, rfl, rfl⟩
abbrev zb_XPacker_packRows : ByteArray := prog_5_method_15_code
def zy_XPacker_packRows : MethodName := ⟨"OrreryBox$Packer", "packRows", "()V"⟩
theorem zc_XPacker_packRows : Cond.code zy_XPacker_packRows zb_XPacker_packRows 3 none ∈ gw := gw_t 1011 (by decide +kernel) rfl
theorem zq_XPacker_packRows : zy_XPacker_packRows.cls ≠ "java/lang/invoke/MethodHandle" ∧ zy_XPacker_packRows.cls ≠ "java/lang/invoke/VarHandle" ∧ (parseMethodDescriptor zy_XPacker_packRows.desc).map (fun d => d.parameters.length) = some 0 := by decide +kernel
theorem zd_XPacker_packRows_0 : decode zb_XPacker_packRows 0 = .ok (.aload_n 0, 1) := by decide +kernel
theorem zd_XPacker_packRows_1 : decode zb_XPacker_packRows 1 = .ok (.iconst 0, 1) := by decide +kernel
theorem zd_XPacker_packRows_2 : decode zb_XPacker_packRows 2 = .ok (.putfield 112, 3) := by decide +kernel
theorem zd_XPacker_packRows_5 : decode zb_XPacker_packRows 5 = .ok (.aload_n 0, 1) := by decide +kernel
theorem zd_XPacker_packRows_6 : decode zb_XPacker_packRows 6 = .ok (.iconst 0, 1) := by decide +kernel
theorem zd_XPacker_packRows_7 : decode zb_XPacker_packRows 7 = .ok (.putfield 115, 3) := by decide +kernel
theorem zd_XPacker_packRows_10 : decode zb_XPacker_packRows 10 = .ok (.iconst 0, 1) := by decide +kernel
theorem zd_XPacker_packRows_11 : decode zb_XPacker_packRows 11 = .ok (.istore_n 1, 1) := by decide +kernel
theorem zd_XPacker_packRows_12 : decode zb_XPacker_packRows 12 = .ok (.iload_n 1, 1) := by decide +kernel
theorem zd_XPacker_packRows_13 : decode zb_XPacker_packRows 13 = .ok (.sipush 4096, 3) := by decide +kernel
theorem zd_XPacker_packRows_16 : decode zb_XPacker_packRows 16 = .ok (.if_icmp .ge 16, 3) := by decide +kernel
theorem zd_XPacker_packRows_19 : decode zb_XPacker_packRows 19 = .ok (.aload_n 0, 1) := by decide +kernel
theorem zd_XPacker_packRows_20 : decode zb_XPacker_packRows 20 = .ok (.getfield 22, 3) := by decide +kernel
theorem zd_XPacker_packRows_23 : decode zb_XPacker_packRows 23 = .ok (.iload_n 1, 1) := by decide +kernel
theorem zd_XPacker_packRows_24 : decode zb_XPacker_packRows 24 = .ok (.iconst (-1), 1) := by decide +kernel
theorem zd_XPacker_packRows_25 : decode zb_XPacker_packRows 25 = .ok (.iastore, 1) := by decide +kernel
theorem zd_XPacker_packRows_26 : decode zb_XPacker_packRows 26 = .ok (.iinc 1 1, 3) := by decide +kernel
theorem zd_XPacker_packRows_29 : decode zb_XPacker_packRows 29 = .ok (.goto (-17), 3) := by decide +kernel
theorem zd_XPacker_packRows_32 : decode zb_XPacker_packRows 32 = .ok (.aload_n 0, 1) := by decide +kernel
theorem zd_XPacker_packRows_33 : decode zb_XPacker_packRows 33 = .ok (.iconst 3, 1) := by decide +kernel
theorem zd_XPacker_packRows_34 : decode zb_XPacker_packRows 34 = .ok (.iconst 3, 1) := by decide +kernel
theorem zd_XPacker_packRows_35 : decode zb_XPacker_packRows 35 = .ok (.invokevirtual 118, 3) := by decide +kernel
theorem zd_XPacker_packRows_38 : decode zb_XPacker_packRows 38 = .ok (.iconst 0, 1) := by decide +kernel
theorem zd_XPacker_packRows_39 : decode zb_XPacker_packRows 39 = .ok (.istore_n 1, 1) := by decide +kernel
theorem zd_XPacker_packRows_40 : decode zb_XPacker_packRows 40 = .ok (.iload_n 1, 1) := by decide +kernel
theorem zd_XPacker_packRows_41 : decode zb_XPacker_packRows 41 = .ok (.aload_n 0, 1) := by decide +kernel
theorem zd_XPacker_packRows_42 : decode zb_XPacker_packRows 42 = .ok (.getfield 70, 3) := by decide +kernel
theorem zd_XPacker_packRows_45 : decode zb_XPacker_packRows 45 = .ok (.if_icmp .ge 75, 3) := by decide +kernel
theorem zd_XPacker_packRows_48 : decode zb_XPacker_packRows 48 = .ok (.aload_n 0, 1) := by decide +kernel
theorem zd_XPacker_packRows_49 : decode zb_XPacker_packRows 49 = .ok (.iload_n 1, 1) := by decide +kernel
theorem zd_XPacker_packRows_50 : decode zb_XPacker_packRows 50 = .ok (.invokevirtual 121, 3) := by decide +kernel
theorem zd_XPacker_packRows_53 : decode zb_XPacker_packRows 53 = .ok (.iload_n 1, 1) := by decide +kernel
theorem zd_XPacker_packRows_54 : decode zb_XPacker_packRows 54 = .ok (.iconst 1, 1) := by decide +kernel
theorem zd_XPacker_packRows_55 : decode zb_XPacker_packRows 55 = .ok (.iadd, 1) := by decide +kernel
theorem zd_XPacker_packRows_56 : decode zb_XPacker_packRows 56 = .ok (.istore_n 2, 1) := by decide +kernel
theorem zd_XPacker_packRows_57 : decode zb_XPacker_packRows 57 = .ok (.aload_n 0, 1) := by decide +kernel
theorem zd_XPacker_packRows_58 : decode zb_XPacker_packRows 58 = .ok (.getfield 124, 3) := by decide +kernel
theorem zd_XPacker_packRows_61 : decode zb_XPacker_packRows 61 = .ok (.iconst 3, 1) := by decide +kernel
theorem zd_XPacker_packRows_62 : decode zb_XPacker_packRows 62 = .ok (.if_icmp .lt 29, 3) := by decide +kernel
theorem zd_XPacker_packRows_65 : decode zb_XPacker_packRows 65 = .ok (.aload_n 0, 1) := by decide +kernel
theorem zd_XPacker_packRows_66 : decode zb_XPacker_packRows 66 = .ok (.aload_n 0, 1) := by decide +kernel
theorem zd_XPacker_packRows_67 : decode zb_XPacker_packRows 67 = .ok (.getfield 124, 3) := by decide +kernel
theorem zd_XPacker_packRows_70 : decode zb_XPacker_packRows 70 = .ok (.invokevirtual 127, 3) := by decide +kernel
theorem zd_XPacker_packRows_73 : decode zb_XPacker_packRows 73 = .ok (.aload_n 0, 1) := by decide +kernel
theorem zd_XPacker_packRows_74 : decode zb_XPacker_packRows 74 = .ok (.aload_n 0, 1) := by decide +kernel
theorem zd_XPacker_packRows_75 : decode zb_XPacker_packRows 75 = .ok (.getfield 130, 3) := by decide +kernel
theorem zd_XPacker_packRows_78 : decode zb_XPacker_packRows 78 = .ok (.invokevirtual 133, 3) := by decide +kernel
theorem zd_XPacker_packRows_81 : decode zb_XPacker_packRows 81 = .ok (.iload_n 1, 1) := by decide +kernel
theorem zd_XPacker_packRows_82 : decode zb_XPacker_packRows 82 = .ok (.aload_n 0, 1) := by decide +kernel
theorem zd_XPacker_packRows_83 : decode zb_XPacker_packRows 83 = .ok (.getfield 124, 3) := by decide +kernel
theorem zd_XPacker_packRows_86 : decode zb_XPacker_packRows 86 = .ok (.iadd, 1) := by decide +kernel
theorem zd_XPacker_packRows_87 : decode zb_XPacker_packRows 87 = .ok (.istore_n 2, 1) := by decide +kernel
theorem zd_XPacker_packRows_88 : decode zb_XPacker_packRows 88 = .ok (.goto 13, 3) := by decide +kernel
theorem zd_XPacker_packRows_91 : decode zb_XPacker_packRows 91 = .ok (.aload_n 0, 1) := by decide +kernel
theorem zd_XPacker_packRows_92 : decode zb_XPacker_packRows 92 = .ok (.aload_n 0, 1) := by decide +kernel
theorem zd_XPacker_packRows_93 : decode zb_XPacker_packRows 93 = .ok (.getfield 19, 3) := by decide +kernel
theorem zd_XPacker_packRows_96 : decode zb_XPacker_packRows 96 = .ok (.iload_n 1, 1) := by decide +kernel
theorem zd_XPacker_packRows_97 : decode zb_XPacker_packRows 97 = .ok (.iaload, 1) := by decide +kernel
theorem zd_XPacker_packRows_98 : decode zb_XPacker_packRows 98 = .ok (.invokevirtual 136, 3) := by decide +kernel
theorem zd_XPacker_packRows_101 : decode zb_XPacker_packRows 101 = .ok (.iload_n 1, 1) := by decide +kernel
theorem zd_XPacker_packRows_102 : decode zb_XPacker_packRows 102 = .ok (.iload_n 2, 1) := by decide +kernel
theorem zd_XPacker_packRows_103 : decode zb_XPacker_packRows 103 = .ok (.if_icmp .ge 14, 3) := by decide +kernel
theorem zd_XPacker_packRows_106 : decode zb_XPacker_packRows 106 = .ok (.aload_n 0, 1) := by decide +kernel
theorem zd_XPacker_packRows_107 : decode zb_XPacker_packRows 107 = .ok (.iload_n 1, 1) := by decide +kernel
theorem zd_XPacker_packRows_108 : decode zb_XPacker_packRows 108 = .ok (.invokevirtual 139, 3) := by decide +kernel
theorem zd_XPacker_packRows_111 : decode zb_XPacker_packRows 111 = .ok (.iinc 1 1, 3) := by decide +kernel
theorem zd_XPacker_packRows_114 : decode zb_XPacker_packRows 114 = .ok (.goto (-13), 3) := by decide +kernel
theorem zd_XPacker_packRows_117 : decode zb_XPacker_packRows 117 = .ok (.goto (-77), 3) := by decide +kernel
theorem zd_XPacker_packRows_120 : decode zb_XPacker_packRows 120 = .ok (.aload_n 0, 1) := by decide +kernel
theorem zd_XPacker_packRows_121 : decode zb_XPacker_packRows 121 = .ok (.sipush 256, 3) := by decide +kernel
theorem zd_XPacker_packRows_124 : decode zb_XPacker_packRows 124 = .ok (.invokevirtual 136, 3) := by decide +kernel
theorem zd_XPacker_packRows_127 : decode zb_XPacker_packRows 127 = .ok (.aload_n 0, 1) := by decide +kernel
theorem zd_XPacker_packRows_128 : decode zb_XPacker_packRows 128 = .ok (.iconst 0, 1) := by decide +kernel
theorem zd_XPacker_packRows_129 : decode zb_XPacker_packRows 129 = .ok (.bipush 8, 2) := by decide +kernel
theorem zd_XPacker_packRows_131 : decode zb_XPacker_packRows 131 = .ok (.aload_n 0, 1) := by decide +kernel
theorem zd_XPacker_packRows_132 : decode zb_XPacker_packRows 132 = .ok (.getfield 115, 3) := by decide +kernel
theorem zd_XPacker_packRows_135 : decode zb_XPacker_packRows 135 = .ok (.isub, 1) := by decide +kernel
theorem zd_XPacker_packRows_136 : decode zb_XPacker_packRows 136 = .ok (.bipush 7, 2) := by decide +kernel
theorem zd_XPacker_packRows_138 : decode zb_XPacker_packRows 138 = .ok (.iand, 1) := by decide +kernel
theorem zd_XPacker_packRows_139 : decode zb_XPacker_packRows 139 = .ok (.invokevirtual 118, 3) := by decide +kernel
theorem zd_XPacker_packRows_142 : decode zb_XPacker_packRows 142 = .ok (.return_, 1) := by decide +kernel
def L_XPacker_packRows_12 (sh : zSh) (fuel : Nat) (v0 : Nat) (v1 : Int32) (mm : zMem) : Option (Nat × Int32 × zMem) := match fuel with
  | 0 => none
  | fu + 1 => (if 4096 ≤ v1 then some (v0, v1, mm) else zoS (sh v0) 4 (fun le9 => Option.bind (mm.2.2 v0 5) (fun a10 => zoS (sh a10) 100 (fun le12 => if (v1 : Int32) < 0 ∨ le12 ≤ (v1 : Int32).toNatClampNeg then none else zoL (mI mm a10 (v1 : Int32).toNatClampNeg (-1)) (fun mm14 => L_XPacker_packRows_12 sh fu v0 (v1 + 1) mm14)))))
set_option maxHeartbeats 4000000 in
set_option maxRecDepth 100000 in
theorem lp_XPacker_packRows_12 {p : Program} {l : Launch} {e : Env} {s : State} {m : MethodId} {args : Array Value} {below : List Frame} {meth : Method} {c : Code} {D : va_G} {tA : Nat → ClassId} {b n : Nat} {post : Option Value → zV → Nat → Prop} {sh : zSh} (F : zF p s m args meth c zb_XPacker_packRows 3 "OrreryBox$Packer" D tA b) : ∀ (fuel : Nat) (v0 : Nat) (v1 : Int32) (mm : zMem) (r : Nat × Int32 × zMem), L_XPacker_packRows_12 sh fuel v0 v1 mm = some r → (Z p l e { frames := 4, cells := 0, slots := 0, locals := 88 } s m args below meth c D b 3 (MQ below (zQ D b post) args s 0 0 (fun q => b ≤ q)) (zW tA b sh r.2.2) n 0 0 32 [(0, .ref (b + (r.1))), (1, .int (r.2.1))] []) → Z p l e { frames := 4, cells := 0, slots := 0, locals := 88 } s m args below meth c D b 3 (MQ below (zQ D b post) args s 0 0 (fun q => b ≤ q)) (zW tA b sh mm) n 0 0 12 [(0, .ref (b + v0)), (1, .int v1)] [] := by
  intro fuel
  induction fuel with
  | zero =>
    intro v0 v1 mm r h
    cases h
  | succ fu ih =>
    intro v0 v1 mm r h hx0
    rw [L_XPacker_packRows_12] at h
    refine zr_iload_n F zd_XPacker_packRows_12 rfl ?_
    refine zr_sipushv (v := 4096) F zd_XPacker_packRows_13 (by decide) ?_
    refine zr_icmp_ge F 32 zd_XPacker_packRows_16 (by decide) (fun hb7 => ?_) (fun hb7 => ?_)
    ·
      rw [if_pos hb7] at h
      obtain rfl := Option.some.inj h
      refine zr_loc (L' := [(0, .ref (b + v0)), (1, .int v1)]) ⟨rfl, rfl, trivial⟩ ?_
      exact hx0 
    ·
      rw [if_neg hb7] at h
      refine zr_aload_n F zd_XPacker_packRows_19 rfl ?_
      obtain ⟨le9, hs8, h⟩ := zoS_s h
      obtain ⟨a10, ea10, h⟩ := zoB_s h
      refine zr_get F 4 5 zd_XPacker_packRows_20 (zW_o hs8 (by decide)) rfl (by decide) zw_88 rfl (by rfl) ?_
      refine zr_tor ea10 ?_
      refine zr_iload_n F zd_XPacker_packRows_23 rfl ?_
      refine zr_iconstv (v := (-1)) F zd_XPacker_packRows_24 (by decide) ?_
      refine zr_pcn 25 rfl ?_
      obtain ⟨le12, hs11, h⟩ := zoS_s h
      obtain ⟨hi13, h⟩ := zoI_s h
      refine zr_iast F zd_XPacker_packRows_25 (zW_a0 hs11) hi13 ?_
      obtain ⟨mm14, emm14, h⟩ := zoL_s h
      refine zr_norm (zW tA b sh mm14) _ (by rw [emm14]; exact zW_s0 hs11) rfl ?_
      refine zr_iinc (v := (v1 + 1)) F zd_XPacker_packRows_26 rfl rfl (by decide) ?_
      refine zr_goto F 12 zd_XPacker_packRows_29 (by decide) ?_
      refine zr_loc (L' := [(0, .ref (b + v0)), (1, .int (v1 + 1))]) ⟨rfl, rfl, trivial⟩ ?_
      exact ih _ _ _ _ h hx0
theorem zw_1020 : (Jvm.Cond.methodLink "OrreryBox$Packer" (121 : Nat) ({ cls := "OrreryBox$Packer", name := "findRun", desc := "(I)V" } : Jvm.MethodName)) ∈ gw := gw_t 1020 (by decide +kernel) rfl
theorem zw_1022 : (Jvm.Cond.instanceMethod ({ cls := "OrreryBox$Packer", name := "findRun", desc := "(I)V" } : Jvm.MethodName)) ∈ gw := gw_t 1022 (by decide +kernel) rfl
theorem zv_37 : (Jvm.Cond.selects "OrreryBox$Packer" (⟨"OrreryBox$Packer", "findRun", "(I)V"⟩ : MethodName) ⟨"OrreryBox$Packer", "findRun", "(I)V"⟩) ∈ gw := gw_s 37 (by decide +kernel) rfl
theorem zs_XPacker_121 : zwV "OrreryBox$Packer" 121 "OrreryBox$Packer" zy_XPacker_findRun zb_XPacker_findRun 6 none := ⟨zw_1020, zw_1022, zv_37, zw_3, zc_XPacker_findRun⟩
theorem zw_1048 : (Jvm.Cond.methodLink "OrreryBox$Packer" (139 : Nat) ({ cls := "OrreryBox$Packer", name := "remember", desc := "(I)V" } : Jvm.MethodName)) ∈ gw := gw_t 1048 (by decide +kernel) rfl
theorem zw_1050 : (Jvm.Cond.instanceMethod ({ cls := "OrreryBox$Packer", name := "remember", desc := "(I)V" } : Jvm.MethodName)) ∈ gw := gw_t 1050 (by decide +kernel) rfl
theorem zv_44 : (Jvm.Cond.selects "OrreryBox$Packer" (⟨"OrreryBox$Packer", "remember", "(I)V"⟩ : MethodName) ⟨"OrreryBox$Packer", "remember", "(I)V"⟩) ∈ gw := gw_s 44 (by decide +kernel) rfl
theorem zs_XPacker_139 : zwV "OrreryBox$Packer" 139 "OrreryBox$Packer" zy_XPacker_remember zb_XPacker_remember 3 none := ⟨zw_1048, zw_1050, zv_44, zw_3, zc_XPacker_remember⟩
def L_XPacker_packRows_101 (sh : zSh) (fuel : Nat) (v0 : Nat) (v1 : Int32) (v2 : Int32) (mm : zMem) : Option (Nat × Int32 × Int32 × zMem) := match fuel with
  | 0 => none
  | fu + 1 => (if v2 ≤ v1 then some (v0, v1, v2, mm) else zoS (sh v0) 4 (fun le41 => Option.bind (F_XPacker_remember sh mm v0 v1) (fun p42 => L_XPacker_packRows_101 sh fu v0 (v1 + 1) v2 p42)))
set_option maxHeartbeats 4000000 in
set_option maxRecDepth 100000 in
theorem lp_XPacker_packRows_101 {p : Program} {l : Launch} {e : Env} {s : State} {m : MethodId} {args : Array Value} {below : List Frame} {meth : Method} {c : Code} {D : va_G} {tA : Nat → ClassId} {b n : Nat} {post : Option Value → zV → Nat → Prop} {sh : zSh} (F : zF p s m args meth c zb_XPacker_packRows 3 "OrreryBox$Packer" D tA b) : ∀ (fuel : Nat) (v0 : Nat) (v1 : Int32) (v2 : Int32) (mm : zMem) (r : Nat × Int32 × Int32 × zMem), L_XPacker_packRows_101 sh fuel v0 v1 v2 mm = some r → (Z p l e { frames := 4, cells := 0, slots := 0, locals := 88 } s m args below meth c D b 3 (MQ below (zQ D b post) args s 0 0 (fun q => b ≤ q)) (zW tA b sh r.2.2.2) n 0 0 117 [(0, .ref (b + (r.1))), (1, .int (r.2.1)), (2, .int (r.2.2.1))] []) → Z p l e { frames := 4, cells := 0, slots := 0, locals := 88 } s m args below meth c D b 3 (MQ below (zQ D b post) args s 0 0 (fun q => b ≤ q)) (zW tA b sh mm) n 0 0 101 [(0, .ref (b + v0)), (1, .int v1), (2, .int v2)] [] := by
  intro fuel
  induction fuel with
  | zero =>
    intro v0 v1 v2 mm r h
    cases h
  | succ fu ih =>
    intro v0 v1 v2 mm r h hx0
    rw [L_XPacker_packRows_101] at h
    refine zr_iload_n F zd_XPacker_packRows_101 rfl ?_
    refine zr_iload_n F zd_XPacker_packRows_102 rfl ?_
    refine zr_pcn 103 rfl ?_
    refine zr_icmp_ge F 117 zd_XPacker_packRows_103 (by decide) (fun hb39 => ?_) (fun hb39 => ?_)
    ·
      rw [if_pos hb39] at h
      obtain rfl := Option.some.inj h
      refine zr_loc (L' := [(0, .ref (b + v0)), (1, .int v1), (2, .int v2)]) ⟨rfl, rfl, rfl, trivial⟩ ?_
      exact hx0 
    ·
      rw [if_neg hb39] at h
      refine zr_aload_n F zd_XPacker_packRows_106 rfl ?_
      refine zr_iload_n F zd_XPacker_packRows_107 rfl ?_
      obtain ⟨le41, hs40, h⟩ := zoS_s h
      obtain ⟨p42, ep42, h⟩ := zoB_s h
      refine zr_callV0 F (k_XPacker_remember l D tA b sh _ ep42) zd_XPacker_packRows_108 (zW_o hs40 (by decide)) rfl zs_XPacker_139 rfl zq_XPacker_remember rfl rfl ⟨(Nat.le_of_ble_eq_true rfl), (Nat.le_of_ble_eq_true rfl)⟩ (Nat.le_of_ble_eq_true rfl) ⟨(Nat.le_of_ble_eq_true rfl), (Nat.le_of_ble_eq_true rfl)⟩ ?_
      refine zr_iinc (v := (v1 + 1)) F zd_XPacker_packRows_111 rfl rfl (by decide) ?_
      refine zr_goto F 101 zd_XPacker_packRows_114 (by decide) ?_
      refine zr_loc (L' := [(0, .ref (b + v0)), (1, .int (v1 + 1)), (2, .int v2)]) ⟨rfl, rfl, rfl, trivial⟩ ?_
      exact ih _ _ _ _ _ h hx0
theorem zw_1032 : (Jvm.Cond.methodLink "OrreryBox$Packer" (127 : Nat) ({ cls := "OrreryBox$Packer", name := "putLength", desc := "(I)V" } : Jvm.MethodName)) ∈ gw := gw_t 1032 (by decide +kernel) rfl
theorem zw_1034 : (Jvm.Cond.instanceMethod ({ cls := "OrreryBox$Packer", name := "putLength", desc := "(I)V" } : Jvm.MethodName)) ∈ gw := gw_t 1034 (by decide +kernel) rfl
theorem zv_40 : (Jvm.Cond.selects "OrreryBox$Packer" (⟨"OrreryBox$Packer", "putLength", "(I)V"⟩ : MethodName) ⟨"OrreryBox$Packer", "putLength", "(I)V"⟩) ∈ gw := gw_s 40 (by decide +kernel) rfl
theorem zs_XPacker_127 : zwV "OrreryBox$Packer" 127 "OrreryBox$Packer" zy_XPacker_putLength zb_XPacker_putLength 4 none := ⟨zw_1032, zw_1034, zv_40, zw_3, zc_XPacker_putLength⟩
theorem zw_1044 : (Jvm.Cond.methodLink "OrreryBox$Packer" (133 : Nat) ({ cls := "OrreryBox$Packer", name := "putDistance", desc := "(I)V" } : Jvm.MethodName)) ∈ gw := gw_t 1044 (by decide +kernel) rfl
theorem zw_1046 : (Jvm.Cond.instanceMethod ({ cls := "OrreryBox$Packer", name := "putDistance", desc := "(I)V" } : Jvm.MethodName)) ∈ gw := gw_t 1046 (by decide +kernel) rfl
theorem zv_43 : (Jvm.Cond.selects "OrreryBox$Packer" (⟨"OrreryBox$Packer", "putDistance", "(I)V"⟩ : MethodName) ⟨"OrreryBox$Packer", "putDistance", "(I)V"⟩) ∈ gw := gw_s 43 (by decide +kernel) rfl
theorem zs_XPacker_133 : zwV "OrreryBox$Packer" 133 "OrreryBox$Packer" zy_XPacker_putDistance zb_XPacker_putDistance 4 none := ⟨zw_1044, zw_1046, zv_43, zw_3, zc_XPacker_putDistance⟩
def L_XPacker_packRows_40 (sh : zSh) (fuel : Nat) (v0 : Nat) (v1 : Int32) (mm : zMem) : Option (Nat × Int32 × zMem) := match fuel with
  | 0 => none
  | fu + 1 => zoS (sh v0) 4 (fun le20 => (if (mm.1 v0 4) ≤ v1 then some (v0, v1, mm) else zoS (sh v0) 4 (fun le23 => Option.bind (F_XPacker_findRun sh mm v0 v1) (fun p24 => zoL (v1 + 1) (fun x25 => zoS (sh v0) 4 (fun le27 => (if (p24.1 v0 7) < 3 then zoS (sh v0) 4 (fun le30 => Option.bind (p24.2.2 v0 3) (fun a31 => zoS (sh a31) 100 (fun le33 => if (v1 : Int32) < 0 ∨ le33 ≤ (v1 : Int32).toNatClampNeg then none else zoS (sh v0) 4 (fun le36 => zoL (p24.1 a31 (v1 : Int32).toNatClampNeg) (fun x37 => Option.bind (F_XPacker_putSign sh p24 v0 x37) (fun p38 => Option.bind (L_XPacker_packRows_101 sh zfuel v0 v1 x25 p38) (fun q43 => L_XPacker_packRows_40 sh fu (q43.1) (q43.2.1) (q43.2.2.2)))))))) else zoS (sh v0) 4 (fun le45 => zoS (sh v0) 4 (fun le47 => Option.bind (F_XPacker_putLength sh p24 v0 (p24.1 v0 7)) (fun p48 => zoS (sh v0) 4 (fun le50 => zoS (sh v0) 4 (fun le52 => Option.bind (F_XPacker_putDistance sh p48 v0 (p48.1 v0 8)) (fun p53 => zoS (sh v0) 4 (fun le55 => zoL (v1 + (p53.1 v0 7)) (fun x56 => Option.bind (L_XPacker_packRows_101 sh zfuel v0 v1 x56 p53) (fun q57 => L_XPacker_packRows_40 sh fu (q57.1) (q57.2.1) (q57.2.2.2)))))))))))))))))
set_option maxHeartbeats 4000000 in
set_option maxRecDepth 100000 in
theorem lp_XPacker_packRows_40 {p : Program} {l : Launch} {e : Env} {s : State} {m : MethodId} {args : Array Value} {below : List Frame} {meth : Method} {c : Code} {D : va_G} {tA : Nat → ClassId} {b n : Nat} {post : Option Value → zV → Nat → Prop} {sh : zSh} (F : zF p s m args meth c zb_XPacker_packRows 3 "OrreryBox$Packer" D tA b) : ∀ (fuel : Nat) (v0 : Nat) (v1 : Int32) (mm : zMem) (r : Nat × Int32 × zMem), L_XPacker_packRows_40 sh fuel v0 v1 mm = some r → (Z p l e { frames := 4, cells := 0, slots := 0, locals := 88 } s m args below meth c D b 3 (MQ below (zQ D b post) args s 0 0 (fun q => b ≤ q)) (zW tA b sh r.2.2) n 0 0 120 [(0, .ref (b + (r.1))), (1, .int (r.2.1))] []) → Z p l e { frames := 4, cells := 0, slots := 0, locals := 88 } s m args below meth c D b 3 (MQ below (zQ D b post) args s 0 0 (fun q => b ≤ q)) (zW tA b sh mm) n 0 0 40 [(0, .ref (b + v0)), (1, .int v1)] [] := by
  intro fuel
  induction fuel with
  | zero =>
    intro v0 v1 mm r h
    cases h
  | succ fu ih =>
    intro v0 v1 mm r h hx0
    rw [L_XPacker_packRows_40] at h
    refine zr_iload_n F zd_XPacker_packRows_40 rfl ?_
    refine zr_aload_n F zd_XPacker_packRows_41 rfl ?_
    obtain ⟨le20, hs19, h⟩ := zoS_s h
    refine zr_get F 4 4 zd_XPacker_packRows_42 (zW_o hs19 (by decide)) rfl (by decide) zw_87 rfl (by rfl) ?_
    refine zr_icmp_ge F 120 zd_XPacker_packRows_45 (by decide) (fun hb21 => ?_) (fun hb21 => ?_)
    ·
      rw [if_pos hb21] at h
      obtain rfl := Option.some.inj h
      refine zr_loc (L' := [(0, .ref (b + v0)), (1, .int v1)]) ⟨rfl, rfl, trivial⟩ ?_
      exact hx0 
    ·
      rw [if_neg hb21] at h
      refine zr_aload_n F zd_XPacker_packRows_48 rfl ?_
      refine zr_iload_n F zd_XPacker_packRows_49 rfl ?_
      obtain ⟨le23, hs22, h⟩ := zoS_s h
      obtain ⟨p24, ep24, h⟩ := zoB_s h
      refine zr_callV0 F (k_XPacker_findRun l D tA b sh _ ep24) zd_XPacker_packRows_50 (zW_o hs22 (by decide)) rfl zs_XPacker_121 rfl zq_XPacker_findRun rfl rfl ⟨(Nat.le_of_ble_eq_true rfl), (Nat.le_of_ble_eq_true rfl)⟩ (Nat.le_of_ble_eq_true rfl) ⟨(Nat.le_of_ble_eq_true rfl), (Nat.le_of_ble_eq_true rfl)⟩ ?_
      refine zr_pcn 53 rfl ?_
      refine zr_iload_n F zd_XPacker_packRows_53 rfl ?_
      refine zr_iconstv (v := 1) F zd_XPacker_packRows_54 (by decide) ?_
      refine zr_iadd F zd_XPacker_packRows_55 ?_
      obtain ⟨x25, ex25, h⟩ := zoL_s h
      rw [← ex25]
      refine zr_istore_n F zd_XPacker_packRows_56 (by decide) ?_
      refine zr_aload_n F zd_XPacker_packRows_57 rfl ?_
      obtain ⟨le27, hs26, h⟩ := zoS_s h
      refine zr_get F 4 7 zd_XPacker_packRows_58 (zW_o hs26 (by decide)) rfl (by decide) zw_90 rfl (by rfl) ?_
      refine zr_iconstv (v := 3) F zd_XPacker_packRows_61 (by decide) ?_
      refine zr_icmp_lt F 91 zd_XPacker_packRows_62 (by decide) (fun hb28 => ?_) (fun hb28 => ?_)
      ·
        rw [if_pos hb28] at h
        refine zr_pcn 91 rfl ?_
        refine zr_aload_n F zd_XPacker_packRows_91 rfl ?_
        refine zr_aload_n F zd_XPacker_packRows_92 rfl ?_
        obtain ⟨le30, hs29, h⟩ := zoS_s h
        obtain ⟨a31, ea31, h⟩ := zoB_s h
        refine zr_get F 4 3 zd_XPacker_packRows_93 (zW_o hs29 (by decide)) rfl (by decide) zw_86 rfl (by rfl) ?_
        refine zr_tor ea31 ?_
        refine zr_iload_n F zd_XPacker_packRows_96 rfl ?_
        obtain ⟨le33, hs32, h⟩ := zoS_s h
        obtain ⟨hi34, h⟩ := zoI_s h
        refine zr_iald F zd_XPacker_packRows_97 (zW_a0 hs32) hi34 ?_
        obtain ⟨le36, hs35, h⟩ := zoS_s h
        obtain ⟨x37, ex37, h⟩ := zoL_s h
        rw [← ex37]
        obtain ⟨p38, ep38, h⟩ := zoB_s h
        refine zr_callV0 F (k_XPacker_putSign l D tA b sh _ ep38) zd_XPacker_packRows_98 (zW_o hs35 (by decide)) rfl zs_XPacker_136 rfl zq_XPacker_putSign rfl rfl ⟨(Nat.le_of_ble_eq_true rfl), (Nat.le_of_ble_eq_true rfl)⟩ (Nat.le_of_ble_eq_true rfl) ⟨(Nat.le_of_ble_eq_true rfl), (Nat.le_of_ble_eq_true rfl)⟩ ?_
        obtain ⟨q43, eq43, h⟩ := zoB_s h
        refine zr_loc (L' := [(0, .ref (b + v0)), (1, .int v1), (2, .int x25)]) ⟨rfl, rfl, rfl, trivial⟩ ?_
        refine lp_XPacker_packRows_101 F _ _ _ _ _ _ eq43 ?_
        ·
          refine zr_goto F 40 zd_XPacker_packRows_117 (by decide) ?_
          refine zr_loc (L' := [(0, .ref (b + (q43.1))), (1, .int (q43.2.1))]) ⟨rfl, rfl, trivial⟩ ?_
          exact ih _ _ _ _ h hx0
      ·
        rw [if_neg hb28] at h
        refine zr_aload_n F zd_XPacker_packRows_65 rfl ?_
        refine zr_pcn 66 rfl ?_
        refine zr_aload_n F zd_XPacker_packRows_66 rfl ?_
        obtain ⟨le45, hs44, h⟩ := zoS_s h
        refine zr_get F 4 7 zd_XPacker_packRows_67 (zW_o hs44 (by decide)) rfl (by decide) zw_90 rfl (by rfl) ?_
        obtain ⟨le47, hs46, h⟩ := zoS_s h
        obtain ⟨p48, ep48, h⟩ := zoB_s h
        refine zr_callV0 F (k_XPacker_putLength l D tA b sh _ ep48) zd_XPacker_packRows_70 (zW_o hs46 (by decide)) rfl zs_XPacker_127 rfl zq_XPacker_putLength rfl rfl ⟨(Nat.le_of_ble_eq_true rfl), (Nat.le_of_ble_eq_true rfl)⟩ (Nat.le_of_ble_eq_true rfl) ⟨(Nat.le_of_ble_eq_true rfl), (Nat.le_of_ble_eq_true rfl)⟩ ?_
        refine zr_aload_n F zd_XPacker_packRows_73 rfl ?_
        refine zr_aload_n F zd_XPacker_packRows_74 rfl ?_
        obtain ⟨le50, hs49, h⟩ := zoS_s h
        refine zr_get F 4 8 zd_XPacker_packRows_75 (zW_o hs49 (by decide)) rfl (by decide) zw_91 rfl (by rfl) ?_
        obtain ⟨le52, hs51, h⟩ := zoS_s h
        obtain ⟨p53, ep53, h⟩ := zoB_s h
        refine zr_callV0 F (k_XPacker_putDistance l D tA b sh _ ep53) zd_XPacker_packRows_78 (zW_o hs51 (by decide)) rfl zs_XPacker_133 rfl zq_XPacker_putDistance rfl rfl ⟨(Nat.le_of_ble_eq_true rfl), (Nat.le_of_ble_eq_true rfl)⟩ (Nat.le_of_ble_eq_true rfl) ⟨(Nat.le_of_ble_eq_true rfl), (Nat.le_of_ble_eq_true rfl)⟩ ?_
        refine zr_iload_n F zd_XPacker_packRows_81 rfl ?_
        refine zr_pcn 82 rfl ?_
        refine zr_aload_n F zd_XPacker_packRows_82 rfl ?_
        obtain ⟨le55, hs54, h⟩ := zoS_s h
        refine zr_get F 4 7 zd_XPacker_packRows_83 (zW_o hs54 (by decide)) rfl (by decide) zw_90 rfl (by rfl) ?_
        refine zr_iadd F zd_XPacker_packRows_86 ?_
        obtain ⟨x56, ex56, h⟩ := zoL_s h
        rw [← ex56]
        refine zr_istore_n F zd_XPacker_packRows_87 (by decide) ?_
        refine zr_goto F 101 zd_XPacker_packRows_88 (by decide) ?_
        obtain ⟨q57, eq57, h⟩ := zoB_s h
        refine zr_loc (L' := [(0, .ref (b + v0)), (1, .int v1), (2, .int x56)]) ⟨rfl, rfl, rfl, trivial⟩ ?_
        refine lp_XPacker_packRows_101 F _ _ _ _ _ _ eq57 ?_
        ·
          refine zr_goto F 40 zd_XPacker_packRows_117 (by decide) ?_
          refine zr_loc (L' := [(0, .ref (b + (q57.1))), (1, .int (q57.2.1))]) ⟨rfl, rfl, trivial⟩ ?_
          exact ih _ _ _ _ h hx0
def F_XPacker_packRows (sh : zSh) (mm : zMem) (o : Nat) : Option zMem := zoS (sh o) 4 (fun le2 => zoL (mI mm o 9 0) (fun mm3 => zoS (sh o) 4 (fun le5 => zoL (mI mm3 o 10 0) (fun mm6 => Option.bind (L_XPacker_packRows_12 sh zfuel o 0 mm6) (fun q15 => zoS (sh (q15.1)) 4 (fun le17 => Option.bind (F_XPacker_putLowFirst sh (q15.2.2) (q15.1) 3 3) (fun p18 => Option.bind (L_XPacker_packRows_40 sh zfuel (q15.1) 0 p18) (fun q58 => zoS (sh (q58.1)) 4 (fun le60 => Option.bind (F_XPacker_putSign sh (q58.2.2) (q58.1) 256) (fun p61 => zoS (sh (q58.1)) 4 (fun le63 => zoS (sh (q58.1)) 4 (fun le65 => zoL ((8 - (p61.1 (q58.1) 10)) &&& 7) (fun x66 => Option.bind (F_XPacker_putLowFirst sh p61 (q58.1) 0 x66) (fun p67 => some p67))))))))))))))
set_option maxHeartbeats 4000000 in
set_option maxRecDepth 100000 in
theorem k_XPacker_packRows (l : Launch) (D : va_G) (tA : Nat → ClassId) (b : Nat) (sh : zSh) (n : Nat) {mm : zMem} {o : Nat} {r : zMem} (h : F_XPacker_packRows sh mm o = some r) : zM l D tA b zy_XPacker_packRows zb_XPacker_packRows 3 none 4 88 0 0 [.ref (b + o)] (zW tA b sh mm) n (zE none (zW tA b sh r) n) := by
  unfold F_XPacker_packRows at h
  refine zM_of (own := "OrreryBox$Packer") (plainFor_of_name (by decide)) rfl (Nat.le_of_ble_eq_true rfl) (fun p e s m below meth c F hr hin hH => ?_)
  refine zr_aload_n F zd_XPacker_packRows_0 rfl ?_
  refine zr_iconstv (v := 0) F zd_XPacker_packRows_1 (by decide) ?_
  obtain ⟨le2, hs1, h⟩ := zoS_s h
  refine zr_put F 4 9 zd_XPacker_packRows_2 (zW_o hs1 (by decide)) rfl (by decide) zw_92 rfl rfl rfl rfl (by exact (Nat.le_of_ble_eq_true rfl)) ?_
  obtain ⟨mm3, emm3, h⟩ := zoL_s h
  refine zr_norm (zW tA b sh mm3) _ (by rw [emm3]; exact zW_pI (v := 0) hs1 (by decide) (zf_I_4_9 b _ _ _)) rfl ?_
  refine zr_aload_n F zd_XPacker_packRows_5 rfl ?_
  refine zr_iconstv (v := 0) F zd_XPacker_packRows_6 (by decide) ?_
  obtain ⟨le5, hs4, h⟩ := zoS_s h
  refine zr_put F 4 10 zd_XPacker_packRows_7 (zW_o hs4 (by decide)) rfl (by decide) zw_93 rfl rfl rfl rfl (by exact (Nat.le_of_ble_eq_true rfl)) ?_
  obtain ⟨mm6, emm6, h⟩ := zoL_s h
  refine zr_norm (zW tA b sh mm6) _ (by rw [emm6]; exact zW_pI (v := 0) hs4 (by decide) (zf_I_4_10 b _ _ _)) rfl ?_
  refine zr_iconstv (v := 0) F zd_XPacker_packRows_10 (by decide) ?_
  refine zr_pcn 11 rfl ?_
  refine zr_istore_n F zd_XPacker_packRows_11 (by decide) ?_
  obtain ⟨q15, eq15, h⟩ := zoB_s h
  refine zr_loc (L' := [(0, .ref (b + o)), (1, .int 0)]) ⟨rfl, rfl, trivial⟩ ?_
  refine lp_XPacker_packRows_12 F _ _ _ _ _ eq15 ?_
  ·
    refine zr_aload_n F zd_XPacker_packRows_32 rfl ?_
    refine zr_iconstv (v := 3) F zd_XPacker_packRows_33 (by decide) ?_
    refine zr_iconstv (v := 3) F zd_XPacker_packRows_34 (by decide) ?_
    obtain ⟨le17, hs16, h⟩ := zoS_s h
    obtain ⟨p18, ep18, h⟩ := zoB_s h
    refine zr_callV0 F (k_XPacker_putLowFirst l D tA b sh _ ep18) zd_XPacker_packRows_35 (zW_o hs16 (by decide)) rfl zs_XPacker_118 rfl zq_XPacker_putLowFirst rfl rfl ⟨(Nat.le_of_ble_eq_true rfl), (Nat.le_of_ble_eq_true rfl)⟩ (Nat.le_of_ble_eq_true rfl) ⟨(Nat.le_of_ble_eq_true rfl), (Nat.le_of_ble_eq_true rfl)⟩ ?_
    refine zr_iconstv (v := 0) F zd_XPacker_packRows_38 (by decide) ?_
    refine zr_pcn 39 rfl ?_
    refine zr_istore_n F zd_XPacker_packRows_39 (by decide) ?_
    obtain ⟨q58, eq58, h⟩ := zoB_s h
    refine zr_loc (L' := [(0, .ref (b + (q15.1))), (1, .int 0)]) ⟨rfl, rfl, trivial⟩ ?_
    refine lp_XPacker_packRows_40 F _ _ _ _ _ eq58 ?_
    ·
      refine zr_aload_n F zd_XPacker_packRows_120 rfl ?_
      refine zr_sipushv (v := 256) F zd_XPacker_packRows_121 (by decide) ?_
      refine zr_pcn 124 rfl ?_
      obtain ⟨le60, hs59, h⟩ := zoS_s h
      obtain ⟨p61, ep61, h⟩ := zoB_s h
      refine zr_callV0 F (k_XPacker_putSign l D tA b sh _ ep61) zd_XPacker_packRows_124 (zW_o hs59 (by decide)) rfl zs_XPacker_136 rfl zq_XPacker_putSign rfl rfl ⟨(Nat.le_of_ble_eq_true rfl), (Nat.le_of_ble_eq_true rfl)⟩ (Nat.le_of_ble_eq_true rfl) ⟨(Nat.le_of_ble_eq_true rfl), (Nat.le_of_ble_eq_true rfl)⟩ ?_
      refine zr_aload_n F zd_XPacker_packRows_127 rfl ?_
      refine zr_iconstv (v := 0) F zd_XPacker_packRows_128 (by decide) ?_
      refine zr_bipushv (v := 8) F zd_XPacker_packRows_129 (by decide) ?_
      refine zr_aload_n F zd_XPacker_packRows_131 rfl ?_
      obtain ⟨le63, hs62, h⟩ := zoS_s h
      refine zr_get F 4 10 zd_XPacker_packRows_132 (zW_o hs62 (by decide)) rfl (by decide) zw_93 rfl (by rfl) ?_
      refine zr_isub F zd_XPacker_packRows_135 ?_
      refine zr_bipushv (v := 7) F zd_XPacker_packRows_136 (by decide) ?_
      refine zr_pcn 138 rfl ?_
      refine zr_iand F zd_XPacker_packRows_138 ?_
      obtain ⟨le65, hs64, h⟩ := zoS_s h
      obtain ⟨x66, ex66, h⟩ := zoL_s h
      rw [← ex66]
      obtain ⟨p67, ep67, h⟩ := zoB_s h
      refine zr_callV0 F (k_XPacker_putLowFirst l D tA b sh _ ep67) zd_XPacker_packRows_139 (zW_o hs64 (by decide)) rfl zs_XPacker_118 rfl zq_XPacker_putLowFirst rfl rfl ⟨(Nat.le_of_ble_eq_true rfl), (Nat.le_of_ble_eq_true rfl)⟩ (Nat.le_of_ble_eq_true rfl) ⟨(Nat.le_of_ble_eq_true rfl), (Nat.le_of_ble_eq_true rfl)⟩ ?_
      obtain rfl := Option.some.inj h
      exact zr_vret F hr zd_XPacker_packRows_142 (Nat.le_of_ble_eq_true rfl) (Nat.le_of_ble_eq_true rfl) ⟨rfl, rfl, rfl⟩
theorem zw_181 : (Jvm.Cond.fieldLink "OrreryBox$Sight" (158 : Nat) "OrreryBox$Mesh" "faceCount" "I") ∈ gw := gw_t 181 (by decide +kernel) rfl
theorem zw_718 : (Jvm.Cond.methodLink "OrreryBox$Sight" (161 : Nat) ({ cls := "OrreryBox$Sight", name := "cutFace", desc := "(LOrreryBox$Mesh;)V" } : Jvm.MethodName)) ∈ gw := gw_t 718 (by decide +kernel) rfl
theorem zw_720 : (Jvm.Cond.instanceMethod ({ cls := "OrreryBox$Sight", name := "cutFace", desc := "(LOrreryBox$Mesh;)V" } : Jvm.MethodName)) ∈ gw := gw_t 720 (by decide +kernel) rfl
theorem zv_11 : (Jvm.Cond.selects "OrreryBox$Sight" (⟨"OrreryBox$Sight", "cutFace", "(LOrreryBox$Mesh;)V"⟩ : MethodName) ⟨"OrreryBox$Sight", "cutFace", "(LOrreryBox$Mesh;)V"⟩) ∈ gw := gw_s 11 (by decide +kernel) rfl
theorem zs_XSight_161 : zwV "OrreryBox$Sight" 161 "OrreryBox$Sight" zy_XSight_cutFace zb_XSight_cutFace 4 none := ⟨zw_718, zw_720, zv_11, zw_10, zc_XSight_cutFace⟩
def L_XSight_nextFace_62 (sh : zSh) (fuel : Nat) (v0 : Nat) (v1 : Nat) (mm : zMem) : Option (Nat × Int32 × Nat × Nat × zMem) := match fuel with
  | 0 => none
  | fu + 1 => zoS (sh v0) 9 (fun le51 => zoS (sh v1) 2 (fun le53 => (if (mm.1 v1 2) ≤ (mm.1 v0 1) then some (1, (0 : Int32), v0, v1, mm) else zoS (sh v0) 9 (fun le56 => Option.bind (F_XSight_cutFace sh mm v0 v1) (fun p57 => zoS (sh v0) 9 (fun le59 => (if (p57.1 v0 3) < 3 then zoS (sh v0) 9 (fun le62 => zoL ((p57.1 v0 1) + 1) (fun x63 => zoS (sh v0) 9 (fun le65 => zoL (mI p57 v0 1 x63) (fun mm66 => L_XSight_nextFace_62 sh fu v0 v1 mm66)))) else some (0, 1, (0 : Nat), (0 : Nat), p57))))))))
set_option maxHeartbeats 4000000 in
set_option maxRecDepth 100000 in
theorem lp_XSight_nextFace_62 {p : Program} {l : Launch} {e : Env} {s : State} {m : MethodId} {args : Array Value} {below : List Frame} {meth : Method} {c : Code} {D : va_G} {tA : Nat → ClassId} {b n : Nat} {post : Option Value → zV → Nat → Prop} {sh : zSh} (F : zF p s m args meth c zb_XSight_nextFace 2 "OrreryBox$Sight" D tA b) (hr : meth.sig.returnType = (some .boolean)) : ∀ (fuel : Nat) (v0 : Nat) (v1 : Nat) (mm : zMem) (r : Nat × Int32 × Nat × Nat × zMem), L_XSight_nextFace_62 sh fuel v0 v1 mm = some r → (r.1 = 1 → Z p l e { frames := 4, cells := 0, slots := 0, locals := 113 } s m args below meth c D b 2 (MQ below (zQ D b post) args s 0 0 (fun q => b ≤ q)) (zW tA b sh r.2.2.2.2) n 0 0 101 [(0, .ref (b + (r.2.2.1))), (1, .ref (b + (r.2.2.2.1)))] []) → (r.1 = 0 → post (some (.int r.2.1)) (zW tA b sh r.2.2.2.2) n) → Z p l e { frames := 4, cells := 0, slots := 0, locals := 113 } s m args below meth c D b 2 (MQ below (zQ D b post) args s 0 0 (fun q => b ≤ q)) (zW tA b sh mm) n 0 0 62 [(0, .ref (b + v0)), (1, .ref (b + v1))] [] := by
  intro fuel
  induction fuel with
  | zero =>
    intro v0 v1 mm r h
    cases h
  | succ fu ih =>
    intro v0 v1 mm r h hx0 hp
    rw [L_XSight_nextFace_62] at h
    refine zr_aload_n F zd_XSight_nextFace_62 rfl ?_
    obtain ⟨le51, hs50, h⟩ := zoS_s h
    refine zr_get F 9 1 zd_XSight_nextFace_63 (zW_o hs50 (by decide)) rfl (by decide) zw_373 rfl (by rfl) ?_
    refine zr_pcn 66 rfl ?_
    refine zr_aload_n F zd_XSight_nextFace_66 rfl ?_
    obtain ⟨le53, hs52, h⟩ := zoS_s h
    refine zr_get F 2 2 zd_XSight_nextFace_67 (zW_o hs52 (by decide)) rfl (by decide) zw_181 rfl (by rfl) ?_
    refine zr_icmp_ge F 101 zd_XSight_nextFace_70 (by decide) (fun hb54 => ?_) (fun hb54 => ?_)
    ·
      rw [if_pos hb54] at h
      obtain rfl := Option.some.inj h
      refine zr_loc (L' := [(0, .ref (b + v0)), (1, .ref (b + v1))]) ⟨rfl, rfl, trivial⟩ ?_
      exact hx0 rfl
    ·
      rw [if_neg hb54] at h
      refine zr_aload_n F zd_XSight_nextFace_73 rfl ?_
      refine zr_aload_n F zd_XSight_nextFace_74 rfl ?_
      obtain ⟨le56, hs55, h⟩ := zoS_s h
      obtain ⟨p57, ep57, h⟩ := zoB_s h
      refine zr_callV0 F (k_XSight_cutFace l D tA b sh _ ep57) zd_XSight_nextFace_75 (zW_o hs55 (by decide)) rfl zs_XSight_161 rfl zq_XSight_cutFace rfl rfl ⟨(Nat.le_of_ble_eq_true rfl), (Nat.le_of_ble_eq_true rfl)⟩ (Nat.le_of_ble_eq_true rfl) ⟨(Nat.le_of_ble_eq_true rfl), (Nat.le_of_ble_eq_true rfl)⟩ ?_
      refine zr_aload_n F zd_XSight_nextFace_78 rfl ?_
      obtain ⟨le59, hs58, h⟩ := zoS_s h
      refine zr_get F 9 3 zd_XSight_nextFace_79 (zW_o hs58 (by decide)) rfl (by decide) zw_376 rfl (by rfl) ?_
      refine zr_pcn 82 rfl ?_
      refine zr_iconstv (v := 3) F zd_XSight_nextFace_82 (by decide) ?_
      refine zr_icmp_lt F 88 zd_XSight_nextFace_83 (by decide) (fun hb60 => ?_) (fun hb60 => ?_)
      ·
        rw [if_pos hb60] at h
        refine zr_aload_n F zd_XSight_nextFace_88 rfl ?_
        refine zr_dup F zd_XSight_nextFace_89 rfl ?_
        obtain ⟨le62, hs61, h⟩ := zoS_s h
        refine zr_get F 9 1 zd_XSight_nextFace_90 (zW_o hs61 (by decide)) rfl (by decide) zw_373 rfl (by rfl) ?_
        refine zr_iconstv (v := 1) F zd_XSight_nextFace_93 (by decide) ?_
        refine zr_iadd F zd_XSight_nextFace_94 ?_
        obtain ⟨x63, ex63, h⟩ := zoL_s h
        rw [← ex63]
        obtain ⟨le65, hs64, h⟩ := zoS_s h
        refine zr_put F 9 1 zd_XSight_nextFace_95 (zW_o hs64 (by decide)) rfl (by decide) zw_373 rfl rfl rfl rfl (by exact (Nat.le_of_ble_eq_true rfl)) ?_
        obtain ⟨mm66, emm66, h⟩ := zoL_s h
        refine zr_norm (zW tA b sh mm66) _ (by rw [emm66]; exact zW_pI (v := x63) hs64 (by decide) (zf_I_9_1 b _ _ _)) rfl ?_
        refine zr_pcn 98 rfl ?_
        refine zr_goto F 62 zd_XSight_nextFace_98 (by decide) ?_
        refine zr_loc (L' := [(0, .ref (b + v0)), (1, .ref (b + v1))]) ⟨rfl, rfl, trivial⟩ ?_
        exact ih _ _ _ _ h hx0 hp
      ·
        rw [if_neg hb60] at h
        refine zr_iconstv (v := 1) F zd_XSight_nextFace_86 (by decide) ?_
        obtain rfl := Option.some.inj h
        exact zr_zret F hr rfl zd_XSight_nextFace_87 (Nat.le_of_ble_eq_true rfl) (Nat.le_of_ble_eq_true rfl) (hp rfl)
theorem zw_706 : (Jvm.Cond.methodLink "OrreryBox$Sight" (154 : Nat) ({ cls := "OrreryBox$Sight", name := "standPoints", desc := "(LOrreryBox$Mesh;)V" } : Jvm.MethodName)) ∈ gw := gw_t 706 (by decide +kernel) rfl
theorem zw_708 : (Jvm.Cond.instanceMethod ({ cls := "OrreryBox$Sight", name := "standPoints", desc := "(LOrreryBox$Mesh;)V" } : Jvm.MethodName)) ∈ gw := gw_t 708 (by decide +kernel) rfl
theorem zv_9 : (Jvm.Cond.selects "OrreryBox$Sight" (⟨"OrreryBox$Sight", "standPoints", "(LOrreryBox$Mesh;)V"⟩ : MethodName) ⟨"OrreryBox$Sight", "standPoints", "(LOrreryBox$Mesh;)V"⟩) ∈ gw := gw_s 9 (by decide +kernel) rfl
theorem zs_XSight_154 : zwV "OrreryBox$Sight" 154 "OrreryBox$Sight" zy_XSight_standPoints zb_XSight_standPoints 9 none := ⟨zw_706, zw_708, zv_9, zw_10, zc_XSight_standPoints⟩
def L_XSight_nextFace_0 (sh : zSh) (fuel : Nat) (v0 : Nat) (mm : zMem) : Option (Nat × Int32 × Nat × zMem) := match fuel with
  | 0 => none
  | fu + 1 => zoS (sh v0) 9 (fun le2 => zoS (sh v0) 9 (fun le4 => (if (mm.1 v0 11) ≤ (mm.1 v0 12) then some (1, (0 : Int32), v0, mm) else zoS (sh v0) 9 (fun le7 => Option.bind (mm.2.2 v0 7) (fun a8 => zoS (sh a8) 8 (fun le10 => Option.bind (mm.2.2 a8 3) (fun a11 => zoS (sh v0) 9 (fun le13 => Option.bind (mm.2.2 v0 7) (fun a14 => zoS (sh a14) 8 (fun le16 => Option.bind (mm.2.2 a14 4) (fun a17 => zoS (sh v0) 9 (fun le19 => Option.bind (mm.2.2 v0 10) (fun a20 => zoS (sh v0) 9 (fun le22 => zoL (mm.1 v0 12) (fun i23 => zoS (sh a20) 100 (fun le25 => if (i23 : Int32) < 0 ∨ le25 ≤ (i23 : Int32).toNatClampNeg then none else zoL (mm.1 a20 (i23 : Int32).toNatClampNeg) (fun i27 => zoR (sh a17) (fun t31 le29 => if (i27 : Int32) < 0 ∨ le29 ≤ (i27 : Int32).toNatClampNeg then none else Option.bind (mm.2.2 a17 (i27 : Int32).toNatClampNeg) (fun a32 => zoS (sh a32) 3 (fun le34 => zoL (mm.1 a32 1) (fun i35 => zoR (sh a11) (fun t39 le37 => if (i35 : Int32) < 0 ∨ le37 ≤ (i35 : Int32).toNatClampNeg then none else Option.bind (mm.2.2 a11 (i35 : Int32).toNatClampNeg) (fun a40 => zoS (sh v0) 9 (fun le42 => (if 0 ≤ (mm.1 v0 1) then zoS (sh v0) 9 (fun le45 => zoL ((mm.1 v0 1) + 1) (fun x46 => zoS (sh v0) 9 (fun le48 => zoL (mI mm v0 1 x46) (fun mm49 => Option.bind (L_XSight_nextFace_62 sh zfuel v0 a40 mm49) (fun q67 => (if q67.1 = 1 then zoS (sh (q67.2.2.1)) 9 (fun le69 => zoL (mI (q67.2.2.2.2) (q67.2.2.1) 1 (-1)) (fun mm70 => zoS (sh (q67.2.2.1)) 9 (fun le72 => zoL ((mm70.1 (q67.2.2.1) 12) + 1) (fun x73 => zoS (sh (q67.2.2.1)) 9 (fun le75 => zoL (mI mm70 (q67.2.2.1) 12 x73) (fun mm76 => L_XSight_nextFace_0 sh fu (q67.2.2.1) mm76)))))) else some (0, q67.2.1, (0 : Nat), q67.2.2.2.2))))))) else zoS (sh v0) 9 (fun le78 => Option.bind (F_XSight_standPoints sh mm v0 a40) (fun p79 => zoS (sh v0) 9 (fun le81 => zoL ((p79.1 v0 1) + 1) (fun x82 => zoS (sh v0) 9 (fun le84 => zoL (mI p79 v0 1 x82) (fun mm85 => Option.bind (L_XSight_nextFace_62 sh zfuel v0 a40 mm85) (fun q86 => (if q86.1 = 1 then zoS (sh (q86.2.2.1)) 9 (fun le88 => zoL (mI (q86.2.2.2.2) (q86.2.2.1) 1 (-1)) (fun mm89 => zoS (sh (q86.2.2.1)) 9 (fun le91 => zoL ((mm89.1 (q86.2.2.1) 12) + 1) (fun x92 => zoS (sh (q86.2.2.1)) 9 (fun le94 => zoL (mI mm89 (q86.2.2.1) 12 x92) (fun mm95 => L_XSight_nextFace_0 sh fu (q86.2.2.1) mm95)))))) else some (0, q86.2.1, (0 : Nat), q86.2.2.2.2))))))))))))))))))))))))))))))))))
set_option maxHeartbeats 4000000 in
set_option maxRecDepth 100000 in
theorem lp_XSight_nextFace_0 {p : Program} {l : Launch} {e : Env} {s : State} {m : MethodId} {args : Array Value} {below : List Frame} {meth : Method} {c : Code} {D : va_G} {tA : Nat → ClassId} {b n : Nat} {post : Option Value → zV → Nat → Prop} {sh : zSh} (F : zF p s m args meth c zb_XSight_nextFace 2 "OrreryBox$Sight" D tA b) (hr : meth.sig.returnType = (some .boolean)) : ∀ (fuel : Nat) (v0 : Nat) (mm : zMem) (r : Nat × Int32 × Nat × zMem), L_XSight_nextFace_0 sh fuel v0 mm = some r → (r.1 = 1 → Z p l e { frames := 4, cells := 0, slots := 0, locals := 113 } s m args below meth c D b 2 (MQ below (zQ D b post) args s 0 0 (fun q => b ≤ q)) (zW tA b sh r.2.2.2) n 0 0 119 [(0, .ref (b + (r.2.2.1)))] []) → (r.1 = 0 → post (some (.int r.2.1)) (zW tA b sh r.2.2.2) n) → Z p l e { frames := 4, cells := 0, slots := 0, locals := 113 } s m args below meth c D b 2 (MQ below (zQ D b post) args s 0 0 (fun q => b ≤ q)) (zW tA b sh mm) n 0 0 0 [(0, .ref (b + v0))] [] := by
  intro fuel
  induction fuel with
  | zero =>
    intro v0 mm r h
    cases h
  | succ fu ih =>
    intro v0 mm r h hx0 hp
    rw [L_XSight_nextFace_0] at h
    refine zr_aload_n F zd_XSight_nextFace_0 rfl ?_
    obtain ⟨le2, hs1, h⟩ := zoS_s h
    refine zr_get F 9 12 zd_XSight_nextFace_1 (zW_o hs1 (by decide)) rfl (by decide) zw_385 rfl (by rfl) ?_
    refine zr_aload_n F zd_XSight_nextFace_4 rfl ?_
    obtain ⟨le4, hs3, h⟩ := zoS_s h
    refine zr_get F 9 11 zd_XSight_nextFace_5 (zW_o hs3 (by decide)) rfl (by decide) zw_384 rfl (by rfl) ?_
    refine zr_icmp_ge F 119 zd_XSight_nextFace_8 (by decide) (fun hb5 => ?_) (fun hb5 => ?_)
    ·
      rw [if_pos hb5] at h
      obtain rfl := Option.some.inj h
      refine zr_loc (L' := [(0, .ref (b + v0))]) ⟨rfl, trivial⟩ ?_
      exact hx0 rfl
    ·
      rw [if_neg hb5] at h
      refine zr_aload_n F zd_XSight_nextFace_11 rfl ?_
      obtain ⟨le7, hs6, h⟩ := zoS_s h
      obtain ⟨a8, ea8, h⟩ := zoB_s h
      refine zr_get F 9 7 zd_XSight_nextFace_12 (zW_o hs6 (by decide)) rfl (by decide) zw_380 rfl (by rfl) ?_
      refine zr_tor ea8 ?_
      refine zr_pcn 15 rfl ?_
      obtain ⟨le10, hs9, h⟩ := zoS_s h
      obtain ⟨a11, ea11, h⟩ := zoB_s h
      refine zr_get F 8 3 zd_XSight_nextFace_15 (zW_o hs9 (by decide)) rfl (by decide) zw_294 rfl (by rfl) ?_
      refine zr_tor ea11 ?_
      refine zr_aload_n F zd_XSight_nextFace_18 rfl ?_
      obtain ⟨le13, hs12, h⟩ := zoS_s h
      obtain ⟨a14, ea14, h⟩ := zoB_s h
      refine zr_get F 9 7 zd_XSight_nextFace_19 (zW_o hs12 (by decide)) rfl (by decide) zw_380 rfl (by rfl) ?_
      refine zr_tor ea14 ?_
      obtain ⟨le16, hs15, h⟩ := zoS_s h
      obtain ⟨a17, ea17, h⟩ := zoB_s h
      refine zr_get F 8 4 zd_XSight_nextFace_22 (zW_o hs15 (by decide)) rfl (by decide) zw_296 rfl (by rfl) ?_
      refine zr_tor ea17 ?_
      refine zr_aload_n F zd_XSight_nextFace_25 rfl ?_
      obtain ⟨le19, hs18, h⟩ := zoS_s h
      obtain ⟨a20, ea20, h⟩ := zoB_s h
      refine zr_get F 9 10 zd_XSight_nextFace_26 (zW_o hs18 (by decide)) rfl (by decide) zw_383 rfl (by rfl) ?_
      refine zr_tor ea20 ?_
      refine zr_aload_n F zd_XSight_nextFace_29 rfl ?_
      obtain ⟨le22, hs21, h⟩ := zoS_s h
      refine zr_get F 9 12 zd_XSight_nextFace_30 (zW_o hs21 (by decide)) rfl (by decide) zw_385 rfl (by rfl) ?_
      refine zr_pcn 33 rfl ?_
      obtain ⟨i23, ei23, h⟩ := zoL_s h
      rw [← ei23]
      obtain ⟨le25, hs24, h⟩ := zoS_s h
      obtain ⟨hi26, h⟩ := zoI_s h
      refine zr_iald F zd_XSight_nextFace_33 (zW_a0 hs24) hi26 ?_
      obtain ⟨i27, ei27, h⟩ := zoL_s h
      rw [← ei27]
      obtain ⟨t31, le29, hs28, h⟩ := zoR_s h
      obtain ⟨hi30, h⟩ := zoI_s h
      obtain ⟨a32, ea32, h⟩ := zoB_s h
      refine zr_aaldW F zd_XSight_nextFace_34 hs28 hi30 ea32 ?_
      obtain ⟨le34, hs33, h⟩ := zoS_s h
      refine zr_get F 3 1 zd_XSight_nextFace_35 (zW_o hs33 (by decide)) rfl (by decide) zw_217 rfl (by rfl) ?_
      obtain ⟨i35, ei35, h⟩ := zoL_s h
      rw [← ei35]
      obtain ⟨t39, le37, hs36, h⟩ := zoR_s h
      obtain ⟨hi38, h⟩ := zoI_s h
      obtain ⟨a40, ea40, h⟩ := zoB_s h
      refine zr_aaldW F zd_XSight_nextFace_38 hs36 hi38 ea40 ?_
      refine zr_astore_n F zd_XSight_nextFace_39 (by decide) ?_
      refine zr_aload_n F zd_XSight_nextFace_40 rfl ?_
      obtain ⟨le42, hs41, h⟩ := zoS_s h
      refine zr_get F 9 1 zd_XSight_nextFace_41 (zW_o hs41 (by decide)) rfl (by decide) zw_373 rfl (by rfl) ?_
      refine zr_if_ge F 52 zd_XSight_nextFace_44 (by decide) (fun hb43 => ?_) (fun hb43 => ?_)
      ·
        rw [if_pos hb43] at h
        refine zr_pcn 52 rfl ?_
        refine zr_aload_n F zd_XSight_nextFace_52 rfl ?_
        refine zr_dup F zd_XSight_nextFace_53 rfl ?_
        obtain ⟨le45, hs44, h⟩ := zoS_s h
        refine zr_get F 9 1 zd_XSight_nextFace_54 (zW_o hs44 (by decide)) rfl (by decide) zw_373 rfl (by rfl) ?_
        refine zr_iconstv (v := 1) F zd_XSight_nextFace_57 (by decide) ?_
        refine zr_iadd F zd_XSight_nextFace_58 ?_
        obtain ⟨x46, ex46, h⟩ := zoL_s h
        rw [← ex46]
        obtain ⟨le48, hs47, h⟩ := zoS_s h
        refine zr_put F 9 1 zd_XSight_nextFace_59 (zW_o hs47 (by decide)) rfl (by decide) zw_373 rfl rfl rfl rfl (by exact (Nat.le_of_ble_eq_true rfl)) ?_
        obtain ⟨mm49, emm49, h⟩ := zoL_s h
        refine zr_norm (zW tA b sh mm49) _ (by rw [emm49]; exact zW_pI (v := x46) hs47 (by decide) (zf_I_9_1 b _ _ _)) rfl ?_
        obtain ⟨q67, eq67, h⟩ := zoB_s h
        refine zr_loc (L' := [(0, .ref (b + v0)), (1, .ref (b + a40))]) ⟨rfl, rfl, trivial⟩ ?_
        refine lp_XSight_nextFace_62 F hr _ _ _ _ _ eq67 ?_ ?_
        ·
          intro ec
          rw [if_pos ec] at h
          refine zr_aload_n F zd_XSight_nextFace_101 rfl ?_
          refine zr_iconstv (v := (-1)) F zd_XSight_nextFace_102 (by decide) ?_
          obtain ⟨le69, hs68, h⟩ := zoS_s h
          refine zr_put F 9 1 zd_XSight_nextFace_103 (zW_o hs68 (by decide)) rfl (by decide) zw_373 rfl rfl rfl rfl (by exact (Nat.le_of_ble_eq_true rfl)) ?_
          obtain ⟨mm70, emm70, h⟩ := zoL_s h
          refine zr_norm (zW tA b sh mm70) _ (by rw [emm70]; exact zW_pI (v := (-1)) hs68 (by decide) (zf_I_9_1 b _ _ _)) rfl ?_
          refine zr_aload_n F zd_XSight_nextFace_106 rfl ?_
          refine zr_dup F zd_XSight_nextFace_107 rfl ?_
          refine zr_pcn 108 rfl ?_
          obtain ⟨le72, hs71, h⟩ := zoS_s h
          refine zr_get F 9 12 zd_XSight_nextFace_108 (zW_o hs71 (by decide)) rfl (by decide) zw_385 rfl (by rfl) ?_
          refine zr_iconstv (v := 1) F zd_XSight_nextFace_111 (by decide) ?_
          refine zr_iadd F zd_XSight_nextFace_112 ?_
          obtain ⟨x73, ex73, h⟩ := zoL_s h
          rw [← ex73]
          obtain ⟨le75, hs74, h⟩ := zoS_s h
          refine zr_put F 9 12 zd_XSight_nextFace_113 (zW_o hs74 (by decide)) rfl (by decide) zw_385 rfl rfl rfl rfl (by exact (Nat.le_of_ble_eq_true rfl)) ?_
          obtain ⟨mm76, emm76, h⟩ := zoL_s h
          refine zr_norm (zW tA b sh mm76) _ (by rw [emm76]; exact zW_pI (v := x73) hs74 (by decide) (zf_I_9_12 b _ _ _)) rfl ?_
          refine zr_goto F 0 zd_XSight_nextFace_116 (by decide) ?_
          refine zr_loc (L' := [(0, .ref (b + (q67.2.2.1)))]) ⟨rfl, trivial⟩ ?_
          exact ih _ _ _ h hx0 hp
        ·
          intro ec
          rw [if_neg (by rw [ec]; decide)] at h
          obtain rfl := Option.some.inj h
          exact hp rfl
      ·
        rw [if_neg hb43] at h
        refine zr_aload_n F zd_XSight_nextFace_47 rfl ?_
        refine zr_aload_n F zd_XSight_nextFace_48 rfl ?_
        obtain ⟨le78, hs77, h⟩ := zoS_s h
        obtain ⟨p79, ep79, h⟩ := zoB_s h
        refine zr_callV0 F (k_XSight_standPoints l D tA b sh _ ep79) zd_XSight_nextFace_49 (zW_o hs77 (by decide)) rfl zs_XSight_154 rfl zq_XSight_standPoints rfl rfl ⟨(Nat.le_of_ble_eq_true rfl), (Nat.le_of_ble_eq_true rfl)⟩ (Nat.le_of_ble_eq_true rfl) ⟨(Nat.le_of_ble_eq_true rfl), (Nat.le_of_ble_eq_true rfl)⟩ ?_
        refine zr_pcn 52 rfl ?_
        refine zr_aload_n F zd_XSight_nextFace_52 rfl ?_
        refine zr_dup F zd_XSight_nextFace_53 rfl ?_
        obtain ⟨le81, hs80, h⟩ := zoS_s h
        refine zr_get F 9 1 zd_XSight_nextFace_54 (zW_o hs80 (by decide)) rfl (by decide) zw_373 rfl (by rfl) ?_
        refine zr_iconstv (v := 1) F zd_XSight_nextFace_57 (by decide) ?_
        refine zr_iadd F zd_XSight_nextFace_58 ?_
        obtain ⟨x82, ex82, h⟩ := zoL_s h
        rw [← ex82]
        obtain ⟨le84, hs83, h⟩ := zoS_s h
        refine zr_put F 9 1 zd_XSight_nextFace_59 (zW_o hs83 (by decide)) rfl (by decide) zw_373 rfl rfl rfl rfl (by exact (Nat.le_of_ble_eq_true rfl)) ?_
        obtain ⟨mm85, emm85, h⟩ := zoL_s h
        refine zr_norm (zW tA b sh mm85) _ (by rw [emm85]; exact zW_pI (v := x82) hs83 (by decide) (zf_I_9_1 b _ _ _)) rfl ?_
        obtain ⟨q86, eq86, h⟩ := zoB_s h
        refine zr_loc (L' := [(0, .ref (b + v0)), (1, .ref (b + a40))]) ⟨rfl, rfl, trivial⟩ ?_
        refine lp_XSight_nextFace_62 F hr _ _ _ _ _ eq86 ?_ ?_
        ·
          intro ec
          rw [if_pos ec] at h
          refine zr_aload_n F zd_XSight_nextFace_101 rfl ?_
          refine zr_iconstv (v := (-1)) F zd_XSight_nextFace_102 (by decide) ?_
          refine zr_pcn 103 rfl ?_
          obtain ⟨le88, hs87, h⟩ := zoS_s h
          refine zr_put F 9 1 zd_XSight_nextFace_103 (zW_o hs87 (by decide)) rfl (by decide) zw_373 rfl rfl rfl rfl (by exact (Nat.le_of_ble_eq_true rfl)) ?_
          obtain ⟨mm89, emm89, h⟩ := zoL_s h
          refine zr_norm (zW tA b sh mm89) _ (by rw [emm89]; exact zW_pI (v := (-1)) hs87 (by decide) (zf_I_9_1 b _ _ _)) rfl ?_
          refine zr_aload_n F zd_XSight_nextFace_106 rfl ?_
          refine zr_dup F zd_XSight_nextFace_107 rfl ?_
          obtain ⟨le91, hs90, h⟩ := zoS_s h
          refine zr_get F 9 12 zd_XSight_nextFace_108 (zW_o hs90 (by decide)) rfl (by decide) zw_385 rfl (by rfl) ?_
          refine zr_iconstv (v := 1) F zd_XSight_nextFace_111 (by decide) ?_
          refine zr_iadd F zd_XSight_nextFace_112 ?_
          obtain ⟨x92, ex92, h⟩ := zoL_s h
          rw [← ex92]
          obtain ⟨le94, hs93, h⟩ := zoS_s h
          refine zr_put F 9 12 zd_XSight_nextFace_113 (zW_o hs93 (by decide)) rfl (by decide) zw_385 rfl rfl rfl rfl (by exact (Nat.le_of_ble_eq_true rfl)) ?_
          obtain ⟨mm95, emm95, h⟩ := zoL_s h
          refine zr_norm (zW tA b sh mm95) _ (by rw [emm95]; exact zW_pI (v := x92) hs93 (by decide) (zf_I_9_12 b _ _ _)) rfl ?_
          refine zr_goto F 0 zd_XSight_nextFace_116 (by decide) ?_
          refine zr_loc (L' := [(0, .ref (b + (q86.2.2.1)))]) ⟨rfl, trivial⟩ ?_
          exact ih _ _ _ h hx0 hp
        ·
          intro ec
          rw [if_neg (by rw [ec]; decide)] at h
          obtain rfl := Option.some.inj h
          exact hp rfl
def F_XSight_nextFace (sh : zSh) (mm : zMem) (o : Nat) : Option (Int32 × zMem) := Option.bind (L_XSight_nextFace_0 sh zfuel o mm) (fun q96 => (if q96.1 = 1 then some (0, q96.2.2.2) else some (q96.2.1, q96.2.2.2)))
set_option maxHeartbeats 4000000 in
set_option maxRecDepth 100000 in
theorem k_XSight_nextFace (l : Launch) (D : va_G) (tA : Nat → ClassId) (b : Nat) (sh : zSh) (n : Nat) {mm : zMem} {o : Nat} {r : (Int32 × zMem)} (h : F_XSight_nextFace sh mm o = some r) : zM l D tA b zy_XSight_nextFace zb_XSight_nextFace 2 (some .boolean) 4 113 0 0 [.ref (b + o)] (zW tA b sh mm) n (zE (some (.int (r.1))) (zW tA b sh r.2) n) := by
  unfold F_XSight_nextFace at h
  refine zM_of (own := "OrreryBox$Sight") (plainFor_of_name (by decide)) rfl (Nat.le_of_ble_eq_true rfl) (fun p e s m below meth c F hr hin hH => ?_)
  obtain ⟨q96, eq96, h⟩ := zoB_s h
  refine zr_loc (L' := [(0, .ref (b + o))]) ⟨rfl, trivial⟩ ?_
  refine lp_XSight_nextFace_0 F hr _ _ _ _ eq96 ?_ ?_
  ·
    intro ec
    rw [if_pos ec] at h
    refine zr_pcn 119 rfl ?_
    refine zr_iconstv (v := 0) F zd_XSight_nextFace_119 (by decide) ?_
    obtain rfl := Option.some.inj h
    exact zr_zret F hr rfl zd_XSight_nextFace_120 (Nat.le_of_ble_eq_true rfl) (Nat.le_of_ble_eq_true rfl) ⟨rfl, rfl, rfl⟩
  ·
    intro ec
    rw [if_neg (by rw [ec]; decide)] at h
    obtain rfl := Option.some.inj h
    exact ⟨rfl, rfl, rfl⟩
abbrev zb_XTexture_colourAt : ByteArray := prog_11_method_6_code
def zy_XTexture_colourAt : MethodName := ⟨"OrreryBox$Texture", "colourAt", "(IJJ)I"⟩
theorem zc_XTexture_colourAt : Cond.code zy_XTexture_colourAt zb_XTexture_colourAt 8 (some .int) ∈ gw := gw_t 842 (by decide +kernel) rfl
theorem zq_XTexture_colourAt : zy_XTexture_colourAt.cls ≠ "java/lang/invoke/MethodHandle" ∧ zy_XTexture_colourAt.cls ≠ "java/lang/invoke/VarHandle" ∧ (parseMethodDescriptor zy_XTexture_colourAt.desc).map (fun d => d.parameters.length) = some 3 := by decide +kernel
theorem zd_XTexture_colourAt_0 : decode zb_XTexture_colourAt 0 = .ok (.aload_n 0, 1) := by decide +kernel
theorem zd_XTexture_colourAt_1 : decode zb_XTexture_colourAt 1 = .ok (.getfield 16, 3) := by decide +kernel
theorem zd_XTexture_colourAt_4 : decode zb_XTexture_colourAt 4 = .ok (.iload_n 1, 1) := by decide +kernel
theorem zd_XTexture_colourAt_5 : decode zb_XTexture_colourAt 5 = .ok (.ishr, 1) := by decide +kernel
theorem zd_XTexture_colourAt_6 : decode zb_XTexture_colourAt 6 = .ok (.istore 6, 2) := by decide +kernel
theorem zd_XTexture_colourAt_8 : decode zb_XTexture_colourAt 8 = .ok (.aload_n 0, 1) := by decide +kernel
theorem zd_XTexture_colourAt_9 : decode zb_XTexture_colourAt 9 = .ok (.getfield 13, 3) := by decide +kernel
theorem zd_XTexture_colourAt_12 : decode zb_XTexture_colourAt 12 = .ok (.iload_n 1, 1) := by decide +kernel
theorem zd_XTexture_colourAt_13 : decode zb_XTexture_colourAt 13 = .ok (.iaload, 1) := by decide +kernel
theorem zd_XTexture_colourAt_14 : decode zb_XTexture_colourAt 14 = .ok (.istore 7, 2) := by decide +kernel
theorem zd_XTexture_colourAt_16 : decode zb_XTexture_colourAt 16 = .ok (.aload_n 0, 1) := by decide +kernel
theorem zd_XTexture_colourAt_17 : decode zb_XTexture_colourAt 17 = .ok (.getfield 35, 3) := by decide +kernel
theorem zd_XTexture_colourAt_20 : decode zb_XTexture_colourAt 20 = .ok (.ifCond .eq 33, 3) := by decide +kernel
theorem zd_XTexture_colourAt_23 : decode zb_XTexture_colourAt 23 = .ok (.aload_n 0, 1) := by decide +kernel
theorem zd_XTexture_colourAt_24 : decode zb_XTexture_colourAt 24 = .ok (.iload 7, 2) := by decide +kernel
theorem zd_XTexture_colourAt_26 : decode zb_XTexture_colourAt 26 = .ok (.iload 6, 2) := by decide +kernel
theorem zd_XTexture_colourAt_28 : decode zb_XTexture_colourAt 28 = .ok (.lload_n 2, 1) := by decide +kernel
theorem zd_XTexture_colourAt_29 : decode zb_XTexture_colourAt 29 = .ok (.iload 6, 2) := by decide +kernel
theorem zd_XTexture_colourAt_31 : decode zb_XTexture_colourAt 31 = .ok (.i2l, 1) := by decide +kernel
theorem zd_XTexture_colourAt_32 : decode zb_XTexture_colourAt 32 = .ok (.lmul, 1) := by decide +kernel
theorem zd_XTexture_colourAt_33 : decode zb_XTexture_colourAt 33 = .ok (.ldc2_w 39, 3) := by decide +kernel
theorem zd_XTexture_colourAt_36 : decode zb_XTexture_colourAt 36 = .ok (.lsub, 1) := by decide +kernel
theorem zd_XTexture_colourAt_37 : decode zb_XTexture_colourAt 37 = .ok (.lload 4, 2) := by decide +kernel
theorem zd_XTexture_colourAt_39 : decode zb_XTexture_colourAt 39 = .ok (.iload 6, 2) := by decide +kernel
theorem zd_XTexture_colourAt_41 : decode zb_XTexture_colourAt 41 = .ok (.i2l, 1) := by decide +kernel
theorem zd_XTexture_colourAt_42 : decode zb_XTexture_colourAt 42 = .ok (.lmul, 1) := by decide +kernel
theorem zd_XTexture_colourAt_43 : decode zb_XTexture_colourAt 43 = .ok (.ldc2_w 39, 3) := by decide +kernel
theorem zd_XTexture_colourAt_46 : decode zb_XTexture_colourAt 46 = .ok (.lsub, 1) := by decide +kernel
theorem zd_XTexture_colourAt_47 : decode zb_XTexture_colourAt 47 = .ok (.invokevirtual 41, 3) := by decide +kernel
theorem zd_XTexture_colourAt_50 : decode zb_XTexture_colourAt 50 = .ok (.goto 28, 3) := by decide +kernel
theorem zd_XTexture_colourAt_53 : decode zb_XTexture_colourAt 53 = .ok (.aload_n 0, 1) := by decide +kernel
theorem zd_XTexture_colourAt_54 : decode zb_XTexture_colourAt 54 = .ok (.iload 7, 2) := by decide +kernel
theorem zd_XTexture_colourAt_56 : decode zb_XTexture_colourAt 56 = .ok (.iload 6, 2) := by decide +kernel
theorem zd_XTexture_colourAt_58 : decode zb_XTexture_colourAt 58 = .ok (.lload_n 2, 1) := by decide +kernel
theorem zd_XTexture_colourAt_59 : decode zb_XTexture_colourAt 59 = .ok (.iload 6, 2) := by decide +kernel
theorem zd_XTexture_colourAt_61 : decode zb_XTexture_colourAt 61 = .ok (.i2l, 1) := by decide +kernel
theorem zd_XTexture_colourAt_62 : decode zb_XTexture_colourAt 62 = .ok (.lmul, 1) := by decide +kernel
theorem zd_XTexture_colourAt_63 : decode zb_XTexture_colourAt 63 = .ok (.bipush 16, 2) := by decide +kernel
theorem zd_XTexture_colourAt_65 : decode zb_XTexture_colourAt 65 = .ok (.lshr, 1) := by decide +kernel
theorem zd_XTexture_colourAt_66 : decode zb_XTexture_colourAt 66 = .ok (.lload 4, 2) := by decide +kernel
theorem zd_XTexture_colourAt_68 : decode zb_XTexture_colourAt 68 = .ok (.iload 6, 2) := by decide +kernel
theorem zd_XTexture_colourAt_70 : decode zb_XTexture_colourAt 70 = .ok (.i2l, 1) := by decide +kernel
theorem zd_XTexture_colourAt_71 : decode zb_XTexture_colourAt 71 = .ok (.lmul, 1) := by decide +kernel
theorem zd_XTexture_colourAt_72 : decode zb_XTexture_colourAt 72 = .ok (.bipush 16, 2) := by decide +kernel
theorem zd_XTexture_colourAt_74 : decode zb_XTexture_colourAt 74 = .ok (.lshr, 1) := by decide +kernel
theorem zd_XTexture_colourAt_75 : decode zb_XTexture_colourAt 75 = .ok (.invokevirtual 45, 3) := by decide +kernel
theorem zd_XTexture_colourAt_78 : decode zb_XTexture_colourAt 78 = .ok (.ireturn, 1) := by decide +kernel
theorem zw_153 : (Jvm.Cond.fieldLink "OrreryBox$Texture" (35 : Nat) "OrreryBox$Texture" "soft" "Z") ∈ gw := gw_t 153 (by decide +kernel) rfl
theorem zw_843 : (Jvm.Cond.constantLong "OrreryBox$Texture" (39 : Nat) (32768 : Int64)) ∈ gw := gw_t 843 (by decide +kernel) rfl
theorem zw_844 : (Jvm.Cond.methodLink "OrreryBox$Texture" (41 : Nat) ({ cls := "OrreryBox$Texture", name := "softAt", desc := "(IIJJ)I" } : Jvm.MethodName)) ∈ gw := gw_t 844 (by decide +kernel) rfl
theorem zw_846 : (Jvm.Cond.instanceMethod ({ cls := "OrreryBox$Texture", name := "softAt", desc := "(IIJJ)I" } : Jvm.MethodName)) ∈ gw := gw_t 846 (by decide +kernel) rfl
theorem zv_21 : (Jvm.Cond.selects "OrreryBox$Texture" (⟨"OrreryBox$Texture", "softAt", "(IIJJ)I"⟩ : MethodName) ⟨"OrreryBox$Texture", "softAt", "(IIJJ)I"⟩) ∈ gw := gw_s 21 (by decide +kernel) rfl
theorem zs_XTexture_41 : zwV "OrreryBox$Texture" 41 "OrreryBox$Texture" zy_XTexture_softAt zb_XTexture_softAt 21 (some .int) := ⟨zw_844, zw_846, zv_21, zw_6, zc_XTexture_softAt⟩
def F_XTexture_colourAt (sh : zSh) (mm : zMem) (o : Nat) (x0_ : Int32) (x1_ : Int64) (x2_ : Int64) : Option (Int32 × zMem) := zoS (sh o) 10 (fun le2 => zoL ((mm.1 o 0) >>> (x0_ &&& 31)) (fun x3 => zoS (sh o) 10 (fun le5 => Option.bind (mm.2.2 o 5) (fun a6 => zoS (sh a6) 100 (fun le8 => if (x0_ : Int32) < 0 ∨ le8 ≤ (x0_ : Int32).toNatClampNeg then none else zoL (mm.1 a6 (x0_ : Int32).toNatClampNeg) (fun x10 => zoS (sh o) 10 (fun le12 => (if (mm.1 o 2) = 0 then zoS (sh o) 10 (fun le15 => zoL ((x1_ * ((x3 : Int32).toInt64)) >>> ((16 : Int32).toInt64 &&& 63)) (fun x16 => zoL ((x2_ * ((x3 : Int32).toInt64)) >>> ((16 : Int32).toInt64 &&& 63)) (fun x17 => Option.bind (F_XTexture_texel sh mm o x10 x3 x16 x17) (fun p18 => some (p18.1, p18.2))))) else zoS (sh o) 10 (fun le20 => zoL ((x1_ * ((x3 : Int32).toInt64)) - 32768) (fun x21 => zoL ((x2_ * ((x3 : Int32).toInt64)) - 32768) (fun x22 => Option.bind (F_XTexture_softAt sh mm o x10 x3 x21 x22) (fun p23 => some (p23.1, p23.2)))))))))))))
set_option maxHeartbeats 4000000 in
set_option maxRecDepth 100000 in
theorem k_XTexture_colourAt (l : Launch) (D : va_G) (tA : Nat → ClassId) (b : Nat) (sh : zSh) (n : Nat) {mm : zMem} {o : Nat} {x0_ : Int32} {x1_ : Int64} {x2_ : Int64} {r : (Int32 × zMem)} (h : F_XTexture_colourAt sh mm o x0_ x1_ x2_ = some r) : zM l D tA b zy_XTexture_colourAt zb_XTexture_colourAt 8 (some .int) 3 89 0 0 [.ref (b + o), .int x0_, .long x1_, .long x2_] (zW tA b sh mm) n (zE (some (.int (r.1))) (zW tA b sh r.2) n) := by
  unfold F_XTexture_colourAt at h
  refine zM_of (own := "OrreryBox$Texture") (plainFor_of_name (by decide)) rfl (Nat.le_of_ble_eq_true rfl) (fun p e s m below meth c F hr hin hH => ?_)
  refine zr_aload_n F zd_XTexture_colourAt_0 rfl ?_
  obtain ⟨le2, hs1, h⟩ := zoS_s h
  refine zr_get F 10 0 zd_XTexture_colourAt_1 (zW_o hs1 (by decide)) rfl (by decide) zw_148 rfl (by rfl) ?_
  refine zr_iload_n F zd_XTexture_colourAt_4 rfl ?_
  refine zr_ishr F zd_XTexture_colourAt_5 ?_
  obtain ⟨x3, ex3, h⟩ := zoL_s h
  rw [← ex3]
  refine zr_istore F zd_XTexture_colourAt_6 (by decide) ?_
  refine zr_aload_n F zd_XTexture_colourAt_8 rfl ?_
  obtain ⟨le5, hs4, h⟩ := zoS_s h
  obtain ⟨a6, ea6, h⟩ := zoB_s h
  refine zr_get F 10 5 zd_XTexture_colourAt_9 (zW_o hs4 (by decide)) rfl (by decide) zw_156 rfl (by rfl) ?_
  refine zr_tor ea6 ?_
  refine zr_pcn 12 rfl ?_
  refine zr_iload_n F zd_XTexture_colourAt_12 rfl ?_
  obtain ⟨le8, hs7, h⟩ := zoS_s h
  obtain ⟨hi9, h⟩ := zoI_s h
  refine zr_iald F zd_XTexture_colourAt_13 (zW_a0 hs7) hi9 ?_
  obtain ⟨x10, ex10, h⟩ := zoL_s h
  rw [← ex10]
  refine zr_istore F zd_XTexture_colourAt_14 (by decide) ?_
  refine zr_aload_n F zd_XTexture_colourAt_16 rfl ?_
  obtain ⟨le12, hs11, h⟩ := zoS_s h
  refine zr_get F 10 2 zd_XTexture_colourAt_17 (zW_o hs11 (by decide)) rfl (by decide) zw_153 rfl (by rfl) ?_
  refine zr_if_eq F 53 zd_XTexture_colourAt_20 (by decide) (fun hb13 => ?_) (fun hb13 => ?_)
  ·
    rw [if_pos hb13] at h
    refine zr_aload_n F zd_XTexture_colourAt_53 rfl ?_
    refine zr_iload F zd_XTexture_colourAt_54 rfl ?_
    refine zr_pcn 56 rfl ?_
    refine zr_iload F zd_XTexture_colourAt_56 rfl ?_
    refine zr_lload_n F zd_XTexture_colourAt_58 rfl ?_
    refine zr_iload F zd_XTexture_colourAt_59 rfl ?_
    refine zr_i2l F zd_XTexture_colourAt_61 ?_
    refine zr_lmul F zd_XTexture_colourAt_62 ?_
    refine zr_bipushv (v := 16) F zd_XTexture_colourAt_63 (by decide) ?_
    refine zr_lshr F zd_XTexture_colourAt_65 ?_
    refine zr_lload F zd_XTexture_colourAt_66 rfl ?_
    refine zr_pcn 68 rfl ?_
    refine zr_iload F zd_XTexture_colourAt_68 rfl ?_
    refine zr_i2l F zd_XTexture_colourAt_70 ?_
    refine zr_lmul F zd_XTexture_colourAt_71 ?_
    refine zr_bipushv (v := 16) F zd_XTexture_colourAt_72 (by decide) ?_
    refine zr_lshr F zd_XTexture_colourAt_74 ?_
    obtain ⟨le15, hs14, h⟩ := zoS_s h
    obtain ⟨x16, ex16, h⟩ := zoL_s h
    rw [← ex16]
    obtain ⟨x17, ex17, h⟩ := zoL_s h
    rw [← ex17]
    obtain ⟨p18, ep18, h⟩ := zoB_s h
    refine zr_callV1 F (k_XTexture_texel l D tA b sh _ ep18) zd_XTexture_colourAt_75 (zW_o hs14 (by decide)) rfl zs_XTexture_45 rfl zq_XTexture_texel rfl rfl ⟨(Nat.le_of_ble_eq_true rfl), (Nat.le_of_ble_eq_true rfl)⟩ (Nat.le_of_ble_eq_true rfl) ⟨(Nat.le_of_ble_eq_true rfl), (Nat.le_of_ble_eq_true rfl)⟩ ?_
    obtain rfl := Option.some.inj h
    exact zr_iret F hr zd_XTexture_colourAt_78 (Nat.le_of_ble_eq_true rfl) (Nat.le_of_ble_eq_true rfl) ⟨rfl, rfl, rfl⟩
  ·
    rw [if_neg hb13] at h
    refine zr_aload_n F zd_XTexture_colourAt_23 rfl ?_
    refine zr_pcn 24 rfl ?_
    refine zr_iload F zd_XTexture_colourAt_24 rfl ?_
    refine zr_iload F zd_XTexture_colourAt_26 rfl ?_
    refine zr_lload_n F zd_XTexture_colourAt_28 rfl ?_
    refine zr_iload F zd_XTexture_colourAt_29 rfl ?_
    refine zr_i2l F zd_XTexture_colourAt_31 ?_
    refine zr_lmul F zd_XTexture_colourAt_32 ?_
    refine zr_ldc2 F zd_XTexture_colourAt_33 zw_843 ?_
    refine zr_lsub F zd_XTexture_colourAt_36 ?_
    refine zr_pcn 37 rfl ?_
    refine zr_lload F zd_XTexture_colourAt_37 rfl ?_
    refine zr_iload F zd_XTexture_colourAt_39 rfl ?_
    refine zr_i2l F zd_XTexture_colourAt_41 ?_
    refine zr_lmul F zd_XTexture_colourAt_42 ?_
    refine zr_ldc2 F zd_XTexture_colourAt_43 zw_843 ?_
    refine zr_lsub F zd_XTexture_colourAt_46 ?_
    obtain ⟨le20, hs19, h⟩ := zoS_s h
    obtain ⟨x21, ex21, h⟩ := zoL_s h
    rw [← ex21]
    obtain ⟨x22, ex22, h⟩ := zoL_s h
    rw [← ex22]
    obtain ⟨p23, ep23, h⟩ := zoB_s h
    refine zr_callV1 F (k_XTexture_softAt l D tA b sh _ ep23) zd_XTexture_colourAt_47 (zW_o hs19 (by decide)) rfl zs_XTexture_41 rfl zq_XTexture_softAt rfl rfl ⟨(Nat.le_of_ble_eq_true rfl), (Nat.le_of_ble_eq_true rfl)⟩ (Nat.le_of_ble_eq_true rfl) ⟨(Nat.le_of_ble_eq_true rfl), (Nat.le_of_ble_eq_true rfl)⟩ ?_
    refine zr_goto F 78 zd_XTexture_colourAt_50 (by decide) ?_
    refine zr_pcn 78 rfl ?_
    obtain rfl := Option.some.inj h
    exact zr_iret F hr zd_XTexture_colourAt_78 (Nat.le_of_ble_eq_true rfl) (Nat.le_of_ble_eq_true rfl) ⟨rfl, rfl, rfl⟩
abbrev zb_MPainter_goOverPiece : ByteArray := prog_16_method_26_code
def zy_MPainter_goOverPiece : MethodName := ⟨"OrreryBoxModel$Painter", "goOverPiece", "(III)V"⟩
theorem zc_MPainter_goOverPiece : Cond.code zy_MPainter_goOverPiece zb_MPainter_goOverPiece 10 none ∈ gw := gw_t 2112 (by decide +kernel) rfl
theorem zq_MPainter_goOverPiece : zy_MPainter_goOverPiece.cls ≠ "java/lang/invoke/MethodHandle" ∧ zy_MPainter_goOverPiece.cls ≠ "java/lang/invoke/VarHandle" ∧ (parseMethodDescriptor zy_MPainter_goOverPiece.desc).map (fun d => d.parameters.length) = some 3 := by decide +kernel
theorem zd_MPainter_goOverPiece_0 : decode zb_MPainter_goOverPiece 0 = .ok (.aload_n 0, 1) := by decide +kernel
theorem zd_MPainter_goOverPiece_1 : decode zb_MPainter_goOverPiece 1 = .ok (.iconst 0, 1) := by decide +kernel
theorem zd_MPainter_goOverPiece_2 : decode zb_MPainter_goOverPiece 2 = .ok (.iload_n 3, 1) := by decide +kernel
theorem zd_MPainter_goOverPiece_3 : decode zb_MPainter_goOverPiece 3 = .ok (.iload_n 3, 1) := by decide +kernel
theorem zd_MPainter_goOverPiece_4 : decode zb_MPainter_goOverPiece 4 = .ok (.iconst 1, 1) := by decide +kernel
theorem zd_MPainter_goOverPiece_5 : decode zb_MPainter_goOverPiece 5 = .ok (.iadd, 1) := by decide +kernel
theorem zd_MPainter_goOverPiece_6 : decode zb_MPainter_goOverPiece 6 = .ok (.invokevirtual 257, 3) := by decide +kernel
theorem zd_MPainter_goOverPiece_9 : decode zb_MPainter_goOverPiece 9 = .ok (.lstore 4, 2) := by decide +kernel
theorem zd_MPainter_goOverPiece_11 : decode zb_MPainter_goOverPiece 11 = .ok (.lload 4, 2) := by decide +kernel
theorem zd_MPainter_goOverPiece_13 : decode zb_MPainter_goOverPiece 13 = .ok (.lconst 0, 1) := by decide +kernel
theorem zd_MPainter_goOverPiece_14 : decode zb_MPainter_goOverPiece 14 = .ok (.lcmp, 1) := by decide +kernel
theorem zd_MPainter_goOverPiece_15 : decode zb_MPainter_goOverPiece 15 = .ok (.ifCond .eq 36, 3) := by decide +kernel
theorem zd_MPainter_goOverPiece_18 : decode zb_MPainter_goOverPiece 18 = .ok (.lload 4, 2) := by decide +kernel
theorem zd_MPainter_goOverPiece_20 : decode zb_MPainter_goOverPiece 20 = .ok (.lconst 0, 1) := by decide +kernel
theorem zd_MPainter_goOverPiece_21 : decode zb_MPainter_goOverPiece 21 = .ok (.lcmp, 1) := by decide +kernel
theorem zd_MPainter_goOverPiece_22 : decode zb_MPainter_goOverPiece 22 = .ok (.ifCond .ge 19, 3) := by decide +kernel
theorem zd_MPainter_goOverPiece_25 : decode zb_MPainter_goOverPiece 25 = .ok (.aload_n 0, 1) := by decide +kernel
theorem zd_MPainter_goOverPiece_26 : decode zb_MPainter_goOverPiece 26 = .ok (.getfield 129, 3) := by decide +kernel
theorem zd_MPainter_goOverPiece_29 : decode zb_MPainter_goOverPiece 29 = .ok (.getfield 261, 3) := by decide +kernel
theorem zd_MPainter_goOverPiece_32 : decode zb_MPainter_goOverPiece 32 = .ok (.aload_n 0, 1) := by decide +kernel
theorem zd_MPainter_goOverPiece_33 : decode zb_MPainter_goOverPiece 33 = .ok (.iload_n 1, 1) := by decide +kernel
theorem zd_MPainter_goOverPiece_34 : decode zb_MPainter_goOverPiece 34 = .ok (.invokevirtual 180, 3) := by decide +kernel
theorem zd_MPainter_goOverPiece_37 : decode zb_MPainter_goOverPiece 37 = .ok (.iaload, 1) := by decide +kernel
theorem zd_MPainter_goOverPiece_38 : decode zb_MPainter_goOverPiece 38 = .ok (.ifCond .eq 13, 3) := by decide +kernel
theorem zd_MPainter_goOverPiece_41 : decode zb_MPainter_goOverPiece 41 = .ok (.aload_n 0, 1) := by decide +kernel
theorem zd_MPainter_goOverPiece_42 : decode zb_MPainter_goOverPiece 42 = .ok (.getfield 188, 3) := by decide +kernel
theorem zd_MPainter_goOverPiece_45 : decode zb_MPainter_goOverPiece 45 = .ok (.ldc_w 264, 3) := by decide +kernel
theorem zd_MPainter_goOverPiece_48 : decode zb_MPainter_goOverPiece 48 = .ok (.if_icmp .ne 4, 3) := by decide +kernel
theorem zd_MPainter_goOverPiece_51 : decode zb_MPainter_goOverPiece 51 = .ok (.return_, 1) := by decide +kernel
theorem zd_MPainter_goOverPiece_52 : decode zb_MPainter_goOverPiece 52 = .ok (.aload_n 0, 1) := by decide +kernel
theorem zd_MPainter_goOverPiece_53 : decode zb_MPainter_goOverPiece 53 = .ok (.dup, 1) := by decide +kernel
theorem zd_MPainter_goOverPiece_54 : decode zb_MPainter_goOverPiece 54 = .ok (.getfield 188, 3) := by decide +kernel
theorem zd_MPainter_goOverPiece_57 : decode zb_MPainter_goOverPiece 57 = .ok (.iconst 1, 1) := by decide +kernel
theorem zd_MPainter_goOverPiece_58 : decode zb_MPainter_goOverPiece 58 = .ok (.iadd, 1) := by decide +kernel
theorem zd_MPainter_goOverPiece_59 : decode zb_MPainter_goOverPiece 59 = .ok (.putfield 188, 3) := by decide +kernel
theorem zd_MPainter_goOverPiece_62 : decode zb_MPainter_goOverPiece 62 = .ok (.lload 4, 2) := by decide +kernel
theorem zd_MPainter_goOverPiece_64 : decode zb_MPainter_goOverPiece 64 = .ok (.lconst 0, 1) := by decide +kernel
theorem zd_MPainter_goOverPiece_65 : decode zb_MPainter_goOverPiece 65 = .ok (.lcmp, 1) := by decide +kernel
theorem zd_MPainter_goOverPiece_66 : decode zb_MPainter_goOverPiece 66 = .ok (.ifCond .le 7, 3) := by decide +kernel
theorem zd_MPainter_goOverPiece_69 : decode zb_MPainter_goOverPiece 69 = .ok (.iload_n 3, 1) := by decide +kernel
theorem zd_MPainter_goOverPiece_70 : decode zb_MPainter_goOverPiece 70 = .ok (.goto 6, 3) := by decide +kernel
theorem zd_MPainter_goOverPiece_73 : decode zb_MPainter_goOverPiece 73 = .ok (.iload_n 3, 1) := by decide +kernel
theorem zd_MPainter_goOverPiece_74 : decode zb_MPainter_goOverPiece 74 = .ok (.iconst 1, 1) := by decide +kernel
theorem zd_MPainter_goOverPiece_75 : decode zb_MPainter_goOverPiece 75 = .ok (.iadd, 1) := by decide +kernel
theorem zd_MPainter_goOverPiece_76 : decode zb_MPainter_goOverPiece 76 = .ok (.istore 6, 2) := by decide +kernel
theorem zd_MPainter_goOverPiece_78 : decode zb_MPainter_goOverPiece 78 = .ok (.lload 4, 2) := by decide +kernel
theorem zd_MPainter_goOverPiece_80 : decode zb_MPainter_goOverPiece 80 = .ok (.lconst 0, 1) := by decide +kernel
theorem zd_MPainter_goOverPiece_81 : decode zb_MPainter_goOverPiece 81 = .ok (.lcmp, 1) := by decide +kernel
theorem zd_MPainter_goOverPiece_82 : decode zb_MPainter_goOverPiece 82 = .ok (.ifCond .le 9, 3) := by decide +kernel
theorem zd_MPainter_goOverPiece_85 : decode zb_MPainter_goOverPiece 85 = .ok (.iload_n 3, 1) := by decide +kernel
theorem zd_MPainter_goOverPiece_86 : decode zb_MPainter_goOverPiece 86 = .ok (.iconst 1, 1) := by decide +kernel
theorem zd_MPainter_goOverPiece_87 : decode zb_MPainter_goOverPiece 87 = .ok (.iadd, 1) := by decide +kernel
theorem zd_MPainter_goOverPiece_88 : decode zb_MPainter_goOverPiece 88 = .ok (.goto 4, 3) := by decide +kernel
theorem zd_MPainter_goOverPiece_91 : decode zb_MPainter_goOverPiece 91 = .ok (.iload_n 3, 1) := by decide +kernel
theorem zd_MPainter_goOverPiece_92 : decode zb_MPainter_goOverPiece 92 = .ok (.istore 7, 2) := by decide +kernel
theorem zd_MPainter_goOverPiece_94 : decode zb_MPainter_goOverPiece 94 = .ok (.aload_n 0, 1) := by decide +kernel
theorem zd_MPainter_goOverPiece_95 : decode zb_MPainter_goOverPiece 95 = .ok (.getfield 265, 3) := by decide +kernel
theorem zd_MPainter_goOverPiece_98 : decode zb_MPainter_goOverPiece 98 = .ok (.istore 8, 2) := by decide +kernel
theorem zd_MPainter_goOverPiece_100 : decode zb_MPainter_goOverPiece 100 = .ok (.iload 8, 2) := by decide +kernel
theorem zd_MPainter_goOverPiece_102 : decode zb_MPainter_goOverPiece 102 = .ok (.aload_n 0, 1) := by decide +kernel
theorem zd_MPainter_goOverPiece_103 : decode zb_MPainter_goOverPiece 103 = .ok (.getfield 268, 3) := by decide +kernel
theorem zd_MPainter_goOverPiece_106 : decode zb_MPainter_goOverPiece 106 = .ok (.if_icmp .ge 59, 3) := by decide +kernel
theorem zd_MPainter_goOverPiece_109 : decode zb_MPainter_goOverPiece 109 = .ok (.aload_n 0, 1) := by decide +kernel
theorem zd_MPainter_goOverPiece_110 : decode zb_MPainter_goOverPiece 110 = .ok (.getfield 271, 3) := by decide +kernel
theorem zd_MPainter_goOverPiece_113 : decode zb_MPainter_goOverPiece 113 = .ok (.istore 9, 2) := by decide +kernel
theorem zd_MPainter_goOverPiece_115 : decode zb_MPainter_goOverPiece 115 = .ok (.iload 9, 2) := by decide +kernel
theorem zd_MPainter_goOverPiece_117 : decode zb_MPainter_goOverPiece 117 = .ok (.aload_n 0, 1) := by decide +kernel
theorem zd_MPainter_goOverPiece_118 : decode zb_MPainter_goOverPiece 118 = .ok (.getfield 274, 3) := by decide +kernel
theorem zd_MPainter_goOverPiece_121 : decode zb_MPainter_goOverPiece 121 = .ok (.if_icmp .ge 38, 3) := by decide +kernel
theorem zd_MPainter_goOverPiece_124 : decode zb_MPainter_goOverPiece 124 = .ok (.aload_n 0, 1) := by decide +kernel
theorem zd_MPainter_goOverPiece_125 : decode zb_MPainter_goOverPiece 125 = .ok (.iload_n 1, 1) := by decide +kernel
theorem zd_MPainter_goOverPiece_126 : decode zb_MPainter_goOverPiece 126 = .ok (.iload_n 2, 1) := by decide +kernel
theorem zd_MPainter_goOverPiece_127 : decode zb_MPainter_goOverPiece 127 = .ok (.iload 6, 2) := by decide +kernel
theorem zd_MPainter_goOverPiece_129 : decode zb_MPainter_goOverPiece 129 = .ok (.iload 7, 2) := by decide +kernel
theorem zd_MPainter_goOverPiece_131 : decode zb_MPainter_goOverPiece 131 = .ok (.lload 4, 2) := by decide +kernel
theorem zd_MPainter_goOverPiece_133 : decode zb_MPainter_goOverPiece 133 = .ok (.lconst 0, 1) := by decide +kernel
theorem zd_MPainter_goOverPiece_134 : decode zb_MPainter_goOverPiece 134 = .ok (.lcmp, 1) := by decide +kernel
theorem zd_MPainter_goOverPiece_135 : decode zb_MPainter_goOverPiece 135 = .ok (.ifCond .le 8, 3) := by decide +kernel
theorem zd_MPainter_goOverPiece_138 : decode zb_MPainter_goOverPiece 138 = .ok (.lload 4, 2) := by decide +kernel
theorem zd_MPainter_goOverPiece_140 : decode zb_MPainter_goOverPiece 140 = .ok (.goto 6, 3) := by decide +kernel
theorem zd_MPainter_goOverPiece_143 : decode zb_MPainter_goOverPiece 143 = .ok (.lload 4, 2) := by decide +kernel
theorem zd_MPainter_goOverPiece_145 : decode zb_MPainter_goOverPiece 145 = .ok (.lneg, 1) := by decide +kernel
theorem zd_MPainter_goOverPiece_146 : decode zb_MPainter_goOverPiece 146 = .ok (.iload 9, 2) := by decide +kernel
theorem zd_MPainter_goOverPiece_148 : decode zb_MPainter_goOverPiece 148 = .ok (.iload 8, 2) := by decide +kernel
theorem zd_MPainter_goOverPiece_150 : decode zb_MPainter_goOverPiece 150 = .ok (.invokevirtual 277, 3) := by decide +kernel
theorem zd_MPainter_goOverPiece_153 : decode zb_MPainter_goOverPiece 153 = .ok (.iinc 9 1, 3) := by decide +kernel
theorem zd_MPainter_goOverPiece_156 : decode zb_MPainter_goOverPiece 156 = .ok (.goto (-41), 3) := by decide +kernel
theorem zd_MPainter_goOverPiece_159 : decode zb_MPainter_goOverPiece 159 = .ok (.iinc 8 1, 3) := by decide +kernel
theorem zd_MPainter_goOverPiece_162 : decode zb_MPainter_goOverPiece 162 = .ok (.goto (-62), 3) := by decide +kernel
theorem zd_MPainter_goOverPiece_165 : decode zb_MPainter_goOverPiece 165 = .ok (.return_, 1) := by decide +kernel
theorem zw_2113 : (Jvm.Cond.methodLink "OrreryBoxModel$Painter" (257 : Nat) ({ cls := "OrreryBoxModel$Painter", name := "area", desc := "(III)J" } : Jvm.MethodName)) ∈ gw := gw_t 2113 (by decide +kernel) rfl
theorem zw_2115 : (Jvm.Cond.instanceMethod ({ cls := "OrreryBoxModel$Painter", name := "area", desc := "(III)J" } : Jvm.MethodName)) ∈ gw := gw_t 2115 (by decide +kernel) rfl
theorem zv_108 : (Jvm.Cond.selects "OrreryBoxModel$Painter" (⟨"OrreryBoxModel$Painter", "area", "(III)J"⟩ : MethodName) ⟨"OrreryBoxModel$Painter", "area", "(III)J"⟩) ∈ gw := gw_s 108 (by decide +kernel) rfl
theorem zs_MPainter_257 : zwV "OrreryBoxModel$Painter" 257 "OrreryBoxModel$Painter" zy_MPainter_area zb_MPainter_area 4 (some .long) := ⟨zw_2113, zw_2115, zv_108, zw_17, zc_MPainter_area⟩
theorem zw_2117 : (Jvm.Cond.constant "OrreryBoxModel$Painter" (264 : Nat) (36864 : Int32)) ∈ gw := gw_t 2117 (by decide +kernel) rfl
theorem zf_I_13_0 (b : Nat) (m : zMem) (k : Nat) (v : Int32) : (zfl b 13 m k).set 0 (.int v) = zfl b 13 (mI m k 0 v) k := by simp [zfl, mI, upd, vp_updL]
theorem zw_2118 : (Jvm.Cond.methodLink "OrreryBoxModel$Painter" (277 : Nat) ({ cls := "OrreryBoxModel$Painter", name := "goOverPixel", desc := "(IIIIJII)V" } : Jvm.MethodName)) ∈ gw := gw_t 2118 (by decide +kernel) rfl
theorem zw_2120 : (Jvm.Cond.instanceMethod ({ cls := "OrreryBoxModel$Painter", name := "goOverPixel", desc := "(IIIIJII)V" } : Jvm.MethodName)) ∈ gw := gw_t 2120 (by decide +kernel) rfl
theorem zv_109 : (Jvm.Cond.selects "OrreryBoxModel$Painter" (⟨"OrreryBoxModel$Painter", "goOverPixel", "(IIIIJII)V"⟩ : MethodName) ⟨"OrreryBoxModel$Painter", "goOverPixel", "(IIIIJII)V"⟩) ∈ gw := gw_s 109 (by decide +kernel) rfl
theorem zs_MPainter_277 : zwV "OrreryBoxModel$Painter" 277 "OrreryBoxModel$Painter" zy_MPainter_goOverPixel zb_MPainter_goOverPixel 36 none := ⟨zw_2118, zw_2120, zv_109, zw_17, zc_MPainter_goOverPixel⟩
def L_MPainter_goOverPiece_115 (sh : zSh) (fuel : Nat) (v0 : Nat) (v1 : Int32) (v2 : Int32) (v4 : Int64) (v6 : Int32) (v7 : Int32) (v8 : Int32) (v9 : Int32) (mm : zMem) : Option (Nat × Int32 × Int32 × Int64 × Int32 × Int32 × Int32 × Int32 × zMem) := match fuel with
  | 0 => none
  | fu + 1 => zoS (sh v0) 13 (fun le28 => (if (mm.1 v0 8) ≤ v9 then some (v0, v1, v2, v4, v6, v7, v8, v9, mm) else (if (lg_cmp v4 0) ≤ 0 then zoS (sh v0) 13 (fun le32 => Option.bind (F_MPainter_goOverPixel sh mm v0 v1 v2 v6 v7 (-v4) v9 v8) (fun p33 => L_MPainter_goOverPiece_115 sh fu v0 v1 v2 v4 v6 v7 v8 (v9 + 1) p33)) else zoS (sh v0) 13 (fun le35 => Option.bind (F_MPainter_goOverPixel sh mm v0 v1 v2 v6 v7 v4 v9 v8) (fun p36 => L_MPainter_goOverPiece_115 sh fu v0 v1 v2 v4 v6 v7 v8 (v9 + 1) p36)))))
set_option maxHeartbeats 4000000 in
set_option maxRecDepth 100000 in
theorem lp_MPainter_goOverPiece_115 {p : Program} {l : Launch} {e : Env} {s : State} {m : MethodId} {args : Array Value} {below : List Frame} {meth : Method} {c : Code} {D : va_G} {tA : Nat → ClassId} {b n : Nat} {post : Option Value → zV → Nat → Prop} {sh : zSh} (F : zF p s m args meth c zb_MPainter_goOverPiece 10 "OrreryBoxModel$Painter" D tA b) : ∀ (fuel : Nat) (v0 : Nat) (v1 : Int32) (v2 : Int32) (v4 : Int64) (v6 : Int32) (v7 : Int32) (v8 : Int32) (v9 : Int32) (mm : zMem) (r : Nat × Int32 × Int32 × Int64 × Int32 × Int32 × Int32 × Int32 × zMem), L_MPainter_goOverPiece_115 sh fuel v0 v1 v2 v4 v6 v7 v8 v9 mm = some r → (Z p l e { frames := 6, cells := 0, slots := 0, locals := 213 } s m args below meth c D b 10 (MQ below (zQ D b post) args s 0 0 (fun q => b ≤ q)) (zW tA b sh r.2.2.2.2.2.2.2.2) n 0 0 159 [(0, .ref (b + (r.1))), (1, .int (r.2.1)), (2, .int (r.2.2.1)), (4, .long (r.2.2.2.1)), (6, .int (r.2.2.2.2.1)), (7, .int (r.2.2.2.2.2.1)), (8, .int (r.2.2.2.2.2.2.1)), (9, .int (r.2.2.2.2.2.2.2.1))] []) → Z p l e { frames := 6, cells := 0, slots := 0, locals := 213 } s m args below meth c D b 10 (MQ below (zQ D b post) args s 0 0 (fun q => b ≤ q)) (zW tA b sh mm) n 0 0 115 [(0, .ref (b + v0)), (1, .int v1), (2, .int v2), (4, .long v4), (6, .int v6), (7, .int v7), (8, .int v8), (9, .int v9)] [] := by
  intro fuel
  induction fuel with
  | zero =>
    intro v0 v1 v2 v4 v6 v7 v8 v9 mm r h
    cases h
  | succ fu ih =>
    intro v0 v1 v2 v4 v6 v7 v8 v9 mm r h hx0
    rw [L_MPainter_goOverPiece_115] at h
    refine zr_iload F zd_MPainter_goOverPiece_115 rfl ?_
    refine zr_aload_n F zd_MPainter_goOverPiece_117 rfl ?_
    obtain ⟨le28, hs27, h⟩ := zoS_s h
    refine zr_get F 13 8 zd_MPainter_goOverPiece_118 (zW_o hs27 (by decide)) rfl (by decide) zw_1585 rfl (by rfl) ?_
    refine zr_icmp_ge F 159 zd_MPainter_goOverPiece_121 (by decide) (fun hb29 => ?_) (fun hb29 => ?_)
    ·
      rw [if_pos hb29] at h
      obtain rfl := Option.some.inj h
      refine zr_loc (L' := [(0, .ref (b + v0)), (1, .int v1), (2, .int v2), (4, .long v4), (6, .int v6), (7, .int v7), (8, .int v8), (9, .int v9)]) ⟨rfl, rfl, rfl, rfl, rfl, rfl, rfl, rfl, trivial⟩ ?_
      exact hx0 
    ·
      rw [if_neg hb29] at h
      refine zr_pcn 124 rfl ?_
      refine zr_aload_n F zd_MPainter_goOverPiece_124 rfl ?_
      refine zr_iload_n F zd_MPainter_goOverPiece_125 rfl ?_
      refine zr_iload_n F zd_MPainter_goOverPiece_126 rfl ?_
      refine zr_iload F zd_MPainter_goOverPiece_127 rfl ?_
      refine zr_iload F zd_MPainter_goOverPiece_129 rfl ?_
      refine zr_lload F zd_MPainter_goOverPiece_131 rfl ?_
      refine zr_lconstv (v := 0) F zd_MPainter_goOverPiece_133 (by decide) ?_
      refine zr_lcmp F zd_MPainter_goOverPiece_134 ?_
      refine zr_pcn 135 rfl ?_
      refine zr_if_le F 143 zd_MPainter_goOverPiece_135 (by decide) (fun hb30 => ?_) (fun hb30 => ?_)
      ·
        rw [if_pos hb30] at h
        refine zr_lload F zd_MPainter_goOverPiece_143 rfl ?_
        refine zr_lneg F zd_MPainter_goOverPiece_145 ?_
        refine zr_iload F zd_MPainter_goOverPiece_146 rfl ?_
        refine zr_iload F zd_MPainter_goOverPiece_148 rfl ?_
        obtain ⟨le32, hs31, h⟩ := zoS_s h
        obtain ⟨p33, ep33, h⟩ := zoB_s h
        refine zr_callV0 F (k_MPainter_goOverPixel l D tA b sh _ ep33) zd_MPainter_goOverPiece_150 (zW_o hs31 (by decide)) rfl zs_MPainter_277 rfl zq_MPainter_goOverPixel rfl rfl ⟨(Nat.le_of_ble_eq_true rfl), (Nat.le_of_ble_eq_true rfl)⟩ (Nat.le_of_ble_eq_true rfl) ⟨(Nat.le_of_ble_eq_true rfl), (Nat.le_of_ble_eq_true rfl)⟩ ?_
        refine zr_iinc (v := (v9 + 1)) F zd_MPainter_goOverPiece_153 rfl rfl (by decide) ?_
        refine zr_goto F 115 zd_MPainter_goOverPiece_156 (by decide) ?_
        refine zr_loc (L' := [(0, .ref (b + v0)), (1, .int v1), (2, .int v2), (4, .long v4), (6, .int v6), (7, .int v7), (8, .int v8), (9, .int (v9 + 1))]) ⟨rfl, rfl, rfl, rfl, rfl, rfl, rfl, rfl, trivial⟩ ?_
        exact ih _ _ _ _ _ _ _ _ _ _ h hx0
      ·
        rw [if_neg hb30] at h
        refine zr_pcn 138 rfl ?_
        refine zr_lload F zd_MPainter_goOverPiece_138 rfl ?_
        refine zr_goto F 146 zd_MPainter_goOverPiece_140 (by decide) ?_
        refine zr_iload F zd_MPainter_goOverPiece_146 rfl ?_
        refine zr_iload F zd_MPainter_goOverPiece_148 rfl ?_
        obtain ⟨le35, hs34, h⟩ := zoS_s h
        obtain ⟨p36, ep36, h⟩ := zoB_s h
        refine zr_callV0 F (k_MPainter_goOverPixel l D tA b sh _ ep36) zd_MPainter_goOverPiece_150 (zW_o hs34 (by decide)) rfl zs_MPainter_277 rfl zq_MPainter_goOverPixel rfl rfl ⟨(Nat.le_of_ble_eq_true rfl), (Nat.le_of_ble_eq_true rfl)⟩ (Nat.le_of_ble_eq_true rfl) ⟨(Nat.le_of_ble_eq_true rfl), (Nat.le_of_ble_eq_true rfl)⟩ ?_
        refine zr_iinc (v := (v9 + 1)) F zd_MPainter_goOverPiece_153 rfl rfl (by decide) ?_
        refine zr_goto F 115 zd_MPainter_goOverPiece_156 (by decide) ?_
        refine zr_loc (L' := [(0, .ref (b + v0)), (1, .int v1), (2, .int v2), (4, .long v4), (6, .int v6), (7, .int v7), (8, .int v8), (9, .int (v9 + 1))]) ⟨rfl, rfl, rfl, rfl, rfl, rfl, rfl, rfl, trivial⟩ ?_
        exact ih _ _ _ _ _ _ _ _ _ _ h hx0
def L_MPainter_goOverPiece_100 (sh : zSh) (fuel : Nat) (v0 : Nat) (v1 : Int32) (v2 : Int32) (v4 : Int64) (v6 : Int32) (v7 : Int32) (v8 : Int32) (mm : zMem) : Option (Nat × Int32 × Int32 × Int64 × Int32 × Int32 × Int32 × zMem) := match fuel with
  | 0 => none
  | fu + 1 => zoS (sh v0) 13 (fun le22 => (if (mm.1 v0 9) ≤ v8 then some (v0, v1, v2, v4, v6, v7, v8, mm) else zoS (sh v0) 13 (fun le25 => zoL (mm.1 v0 6) (fun x26 => Option.bind (L_MPainter_goOverPiece_115 sh zfuel v0 v1 v2 v4 v6 v7 v8 x26 mm) (fun q37 => L_MPainter_goOverPiece_100 sh fu (q37.1) (q37.2.1) (q37.2.2.1) (q37.2.2.2.1) (q37.2.2.2.2.1) (q37.2.2.2.2.2.1) (q37.2.2.2.2.2.2.1 + 1) (q37.2.2.2.2.2.2.2.2))))))
set_option maxHeartbeats 4000000 in
set_option maxRecDepth 100000 in
theorem lp_MPainter_goOverPiece_100 {p : Program} {l : Launch} {e : Env} {s : State} {m : MethodId} {args : Array Value} {below : List Frame} {meth : Method} {c : Code} {D : va_G} {tA : Nat → ClassId} {b n : Nat} {post : Option Value → zV → Nat → Prop} {sh : zSh} (F : zF p s m args meth c zb_MPainter_goOverPiece 10 "OrreryBoxModel$Painter" D tA b) : ∀ (fuel : Nat) (v0 : Nat) (v1 : Int32) (v2 : Int32) (v4 : Int64) (v6 : Int32) (v7 : Int32) (v8 : Int32) (mm : zMem) (r : Nat × Int32 × Int32 × Int64 × Int32 × Int32 × Int32 × zMem), L_MPainter_goOverPiece_100 sh fuel v0 v1 v2 v4 v6 v7 v8 mm = some r → (Z p l e { frames := 6, cells := 0, slots := 0, locals := 213 } s m args below meth c D b 10 (MQ below (zQ D b post) args s 0 0 (fun q => b ≤ q)) (zW tA b sh r.2.2.2.2.2.2.2) n 0 0 165 [(0, .ref (b + (r.1))), (1, .int (r.2.1)), (2, .int (r.2.2.1)), (4, .long (r.2.2.2.1)), (6, .int (r.2.2.2.2.1)), (7, .int (r.2.2.2.2.2.1)), (8, .int (r.2.2.2.2.2.2.1))] []) → Z p l e { frames := 6, cells := 0, slots := 0, locals := 213 } s m args below meth c D b 10 (MQ below (zQ D b post) args s 0 0 (fun q => b ≤ q)) (zW tA b sh mm) n 0 0 100 [(0, .ref (b + v0)), (1, .int v1), (2, .int v2), (4, .long v4), (6, .int v6), (7, .int v7), (8, .int v8)] [] := by
  intro fuel
  induction fuel with
  | zero =>
    intro v0 v1 v2 v4 v6 v7 v8 mm r h
    cases h
  | succ fu ih =>
    intro v0 v1 v2 v4 v6 v7 v8 mm r h hx0
    rw [L_MPainter_goOverPiece_100] at h
    refine zr_iload F zd_MPainter_goOverPiece_100 rfl ?_
    refine zr_aload_n F zd_MPainter_goOverPiece_102 rfl ?_
    obtain ⟨le22, hs21, h⟩ := zoS_s h
    refine zr_get F 13 9 zd_MPainter_goOverPiece_103 (zW_o hs21 (by decide)) rfl (by decide) zw_1586 rfl (by rfl) ?_
    refine zr_pcn 106 rfl ?_
    refine zr_icmp_ge F 165 zd_MPainter_goOverPiece_106 (by decide) (fun hb23 => ?_) (fun hb23 => ?_)
    ·
      rw [if_pos hb23] at h
      obtain rfl := Option.some.inj h
      refine zr_loc (L' := [(0, .ref (b + v0)), (1, .int v1), (2, .int v2), (4, .long v4), (6, .int v6), (7, .int v7), (8, .int v8)]) ⟨rfl, rfl, rfl, rfl, rfl, rfl, rfl, trivial⟩ ?_
      exact hx0 
    ·
      rw [if_neg hb23] at h
      refine zr_aload_n F zd_MPainter_goOverPiece_109 rfl ?_
      obtain ⟨le25, hs24, h⟩ := zoS_s h
      refine zr_get F 13 6 zd_MPainter_goOverPiece_110 (zW_o hs24 (by decide)) rfl (by decide) zw_1583 rfl (by rfl) ?_
      obtain ⟨x26, ex26, h⟩ := zoL_s h
      rw [← ex26]
      refine zr_istore F zd_MPainter_goOverPiece_113 (by decide) ?_
      obtain ⟨q37, eq37, h⟩ := zoB_s h
      refine zr_loc (L' := [(0, .ref (b + v0)), (1, .int v1), (2, .int v2), (4, .long v4), (6, .int v6), (7, .int v7), (8, .int v8), (9, .int x26)]) ⟨rfl, rfl, rfl, rfl, rfl, rfl, rfl, rfl, trivial⟩ ?_
      refine lp_MPainter_goOverPiece_115 F _ _ _ _ _ _ _ _ _ _ _ eq37 ?_
      ·
        refine zr_iinc (v := (q37.2.2.2.2.2.2.1 + 1)) F zd_MPainter_goOverPiece_159 rfl rfl (by decide) ?_
        refine zr_pcn 162 rfl ?_
        refine zr_goto F 100 zd_MPainter_goOverPiece_162 (by decide) ?_
        refine zr_loc (L' := [(0, .ref (b + (q37.1))), (1, .int (q37.2.1)), (2, .int (q37.2.2.1)), (4, .long (q37.2.2.2.1)), (6, .int (q37.2.2.2.2.1)), (7, .int (q37.2.2.2.2.2.1)), (8, .int (q37.2.2.2.2.2.2.1 + 1))]) ⟨rfl, rfl, rfl, rfl, rfl, rfl, rfl, trivial⟩ ?_
        exact ih _ _ _ _ _ _ _ _ _ h hx0
theorem zw_1351 : (Jvm.Cond.fieldLink "OrreryBoxModel$Painter" (261 : Nat) "OrreryBoxModel$Scene" "both" "[I") ∈ gw := gw_t 1351 (by decide +kernel) rfl
def F_MPainter_goOverPiece (sh : zSh) (mm : zMem) (o : Nat) (x0_ : Int32) (x1_ : Int32) (x2_ : Int32) : Option zMem := zoS (sh o) 13 (fun le2 => Option.bind (F_MPainter_area sh mm o 0 x2_ (x2_ + 1)) (fun p3 => (if (lg_cmp p3.1 0) = 0 then some (p3.2) else (if 0 ≤ (lg_cmp p3.1 0) then zoS (sh o) 13 (fun le7 => (if ((p3.2).1 o 0) = 36864 then some (p3.2) else zoS (sh o) 13 (fun le10 => zoL (((p3.2).1 o 0) + 1) (fun x11 => zoS (sh o) 13 (fun le13 => zoL (mI (p3.2) o 0 x11) (fun mm14 => (if (lg_cmp p3.1 0) ≤ 0 then zoL (x2_ + 1) (fun x16 => (if (lg_cmp p3.1 0) ≤ 0 then zoS (sh o) 13 (fun le19 => zoL (mm14.1 o 7) (fun x20 => Option.bind (L_MPainter_goOverPiece_100 sh zfuel o x0_ x1_ (p3.1) x16 x2_ x20 mm14) (fun q38 => some (q38.2.2.2.2.2.2.2)))) else zoL (x2_ + 1) (fun x39 => zoS (sh o) 13 (fun le41 => zoL (mm14.1 o 7) (fun x42 => Option.bind (L_MPainter_goOverPiece_100 sh zfuel o x0_ x1_ (p3.1) x16 x39 x42 mm14) (fun q43 => some (q43.2.2.2.2.2.2.2))))))) else (if (lg_cmp p3.1 0) ≤ 0 then zoS (sh o) 13 (fun le46 => zoL (mm14.1 o 7) (fun x47 => Option.bind (L_MPainter_goOverPiece_100 sh zfuel o x0_ x1_ (p3.1) x2_ x2_ x47 mm14) (fun q48 => some (q48.2.2.2.2.2.2.2)))) else zoL (x2_ + 1) (fun x49 => zoS (sh o) 13 (fun le51 => zoL (mm14.1 o 7) (fun x52 => Option.bind (L_MPainter_goOverPiece_100 sh zfuel o x0_ x1_ (p3.1) x2_ x49 x52 mm14) (fun q53 => some (q53.2.2.2.2.2.2.2))))))))))))) else zoS (sh o) 13 (fun le55 => Option.bind ((p3.2).2.2 o 5) (fun a56 => zoS (sh a56) 15 (fun le58 => Option.bind ((p3.2).2.2 a56 11) (fun a59 => zoS (sh o) 13 (fun le61 => Option.bind (F_MPainter_materialOf sh (p3.2) o x0_) (fun p62 => zoS (sh a59) 100 (fun le64 => if (p62.1 : Int32) < 0 ∨ le64 ≤ (p62.1 : Int32).toNatClampNeg then none else (if ((p62.2).1 a59 (p62.1 : Int32).toNatClampNeg) = 0 then some (p62.2) else zoS (sh o) 13 (fun le68 => (if ((p62.2).1 o 0) = 36864 then some (p62.2) else zoS (sh o) 13 (fun le71 => zoL (((p62.2).1 o 0) + 1) (fun x72 => zoS (sh o) 13 (fun le74 => zoL (mI (p62.2) o 0 x72) (fun mm75 => (if (lg_cmp p3.1 0) ≤ 0 then zoL (x2_ + 1) (fun x77 => (if (lg_cmp p3.1 0) ≤ 0 then zoS (sh o) 13 (fun le80 => zoL (mm75.1 o 7) (fun x81 => Option.bind (L_MPainter_goOverPiece_100 sh zfuel o x0_ x1_ (p3.1) x77 x2_ x81 mm75) (fun q82 => some (q82.2.2.2.2.2.2.2)))) else zoL (x2_ + 1) (fun x83 => zoS (sh o) 13 (fun le85 => zoL (mm75.1 o 7) (fun x86 => Option.bind (L_MPainter_goOverPiece_100 sh zfuel o x0_ x1_ (p3.1) x77 x83 x86 mm75) (fun q87 => some (q87.2.2.2.2.2.2.2))))))) else (if (lg_cmp p3.1 0) ≤ 0 then zoS (sh o) 13 (fun le90 => zoL (mm75.1 o 7) (fun x91 => Option.bind (L_MPainter_goOverPiece_100 sh zfuel o x0_ x1_ (p3.1) x2_ x2_ x91 mm75) (fun q92 => some (q92.2.2.2.2.2.2.2)))) else zoL (x2_ + 1) (fun x93 => zoS (sh o) 13 (fun le95 => zoL (mm75.1 o 7) (fun x96 => Option.bind (L_MPainter_goOverPiece_100 sh zfuel o x0_ x1_ (p3.1) x2_ x93 x96 mm75) (fun q97 => some (q97.2.2.2.2.2.2.2)))))))))))))))))))))))))
set_option maxHeartbeats 4000000 in
set_option maxRecDepth 100000 in
theorem k_MPainter_goOverPiece (l : Launch) (D : va_G) (tA : Nat → ClassId) (b : Nat) (sh : zSh) (n : Nat) {mm : zMem} {o : Nat} {x0_ : Int32} {x1_ : Int32} {x2_ : Int32} {r : zMem} (h : F_MPainter_goOverPiece sh mm o x0_ x1_ x2_ = some r) : zM l D tA b zy_MPainter_goOverPiece zb_MPainter_goOverPiece 10 none 6 213 0 0 [.ref (b + o), .int x0_, .int x1_, .int x2_] (zW tA b sh mm) n (zE none (zW tA b sh r) n) := by
  unfold F_MPainter_goOverPiece at h
  refine zM_of (own := "OrreryBoxModel$Painter") (plainFor_of_name (by decide)) rfl (Nat.le_of_ble_eq_true rfl) (fun p e s m below meth c F hr hin hH => ?_)
  refine zr_aload_n F zd_MPainter_goOverPiece_0 rfl ?_
  refine zr_iconstv (v := 0) F zd_MPainter_goOverPiece_1 (by decide) ?_
  refine zr_iload_n F zd_MPainter_goOverPiece_2 rfl ?_
  refine zr_iload_n F zd_MPainter_goOverPiece_3 rfl ?_
  refine zr_iconstv (v := 1) F zd_MPainter_goOverPiece_4 (by decide) ?_
  refine zr_iadd F zd_MPainter_goOverPiece_5 ?_
  obtain ⟨le2, hs1, h⟩ := zoS_s h
  obtain ⟨p3, ep3, h⟩ := zoB_s h
  refine zr_callV1 F (k_MPainter_area l D tA b sh _ ep3) zd_MPainter_goOverPiece_6 (zW_o hs1 (by decide)) rfl zs_MPainter_257 rfl zq_MPainter_area rfl rfl ⟨(Nat.le_of_ble_eq_true rfl), (Nat.le_of_ble_eq_true rfl)⟩ (Nat.le_of_ble_eq_true rfl) ⟨(Nat.le_of_ble_eq_true rfl), (Nat.le_of_ble_eq_true rfl)⟩ ?_
  refine zr_pcn 9 rfl ?_
  refine zr_lstore F zd_MPainter_goOverPiece_9 (by decide) ?_
  refine zr_lload F zd_MPainter_goOverPiece_11 rfl ?_
  refine zr_lconstv (v := 0) F zd_MPainter_goOverPiece_13 (by decide) ?_
  refine zr_lcmp F zd_MPainter_goOverPiece_14 ?_
  refine zr_if_eq F 51 zd_MPainter_goOverPiece_15 (by decide) (fun hb4 => ?_) (fun hb4 => ?_)
  ·
    rw [if_pos hb4] at h
    obtain rfl := Option.some.inj h
    exact zr_vret F hr zd_MPainter_goOverPiece_51 (Nat.le_of_ble_eq_true rfl) (Nat.le_of_ble_eq_true rfl) ⟨rfl, rfl, rfl⟩
  ·
    rw [if_neg hb4] at h
    refine zr_lload F zd_MPainter_goOverPiece_18 rfl ?_
    refine zr_lconstv (v := 0) F zd_MPainter_goOverPiece_20 (by decide) ?_
    refine zr_pcn 21 rfl ?_
    refine zr_lcmp F zd_MPainter_goOverPiece_21 ?_
    refine zr_if_ge F 41 zd_MPainter_goOverPiece_22 (by decide) (fun hb5 => ?_) (fun hb5 => ?_)
    ·
      rw [if_pos hb5] at h
      refine zr_aload_n F zd_MPainter_goOverPiece_41 rfl ?_
      obtain ⟨le7, hs6, h⟩ := zoS_s h
      refine zr_get F 13 0 zd_MPainter_goOverPiece_42 (zW_o hs6 (by decide)) rfl (by decide) zw_1576 rfl (by rfl) ?_
      refine zr_ldcw F zd_MPainter_goOverPiece_45 zw_2117 ?_
      refine zr_icmp_ne F 52 zd_MPainter_goOverPiece_48 (by decide) (fun hb8 => ?_) (fun hb8 => ?_)
      ·
        rw [if_neg hb8] at h
        refine zr_aload_n F zd_MPainter_goOverPiece_52 rfl ?_
        refine zr_dup F zd_MPainter_goOverPiece_53 rfl ?_
        refine zr_pcn 54 rfl ?_
        obtain ⟨le10, hs9, h⟩ := zoS_s h
        refine zr_get F 13 0 zd_MPainter_goOverPiece_54 (zW_o hs9 (by decide)) rfl (by decide) zw_1576 rfl (by rfl) ?_
        refine zr_iconstv (v := 1) F zd_MPainter_goOverPiece_57 (by decide) ?_
        refine zr_iadd F zd_MPainter_goOverPiece_58 ?_
        obtain ⟨x11, ex11, h⟩ := zoL_s h
        rw [← ex11]
        obtain ⟨le13, hs12, h⟩ := zoS_s h
        refine zr_put F 13 0 zd_MPainter_goOverPiece_59 (zW_o hs12 (by decide)) rfl (by decide) zw_1576 rfl rfl rfl rfl (by exact (Nat.le_of_ble_eq_true rfl)) ?_
        obtain ⟨mm14, emm14, h⟩ := zoL_s h
        refine zr_norm (zW tA b sh mm14) _ (by rw [emm14]; exact zW_pI (v := x11) hs12 (by decide) (zf_I_13_0 b _ _ _)) rfl ?_
        refine zr_lload F zd_MPainter_goOverPiece_62 rfl ?_
        refine zr_lconstv (v := 0) F zd_MPainter_goOverPiece_64 (by decide) ?_
        refine zr_lcmp F zd_MPainter_goOverPiece_65 ?_
        refine zr_if_le F 73 zd_MPainter_goOverPiece_66 (by decide) (fun hb15 => ?_) (fun hb15 => ?_)
        ·
          rw [if_pos hb15] at h
          refine zr_pcn 73 rfl ?_
          refine zr_iload_n F zd_MPainter_goOverPiece_73 rfl ?_
          refine zr_iconstv (v := 1) F zd_MPainter_goOverPiece_74 (by decide) ?_
          refine zr_iadd F zd_MPainter_goOverPiece_75 ?_
          obtain ⟨x16, ex16, h⟩ := zoL_s h
          rw [← ex16]
          refine zr_istore F zd_MPainter_goOverPiece_76 (by decide) ?_
          refine zr_lload F zd_MPainter_goOverPiece_78 rfl ?_
          refine zr_lconstv (v := 0) F zd_MPainter_goOverPiece_80 (by decide) ?_
          refine zr_lcmp F zd_MPainter_goOverPiece_81 ?_
          refine zr_if_le F 91 zd_MPainter_goOverPiece_82 (by decide) (fun hb17 => ?_) (fun hb17 => ?_)
          ·
            rw [if_pos hb17] at h
            refine zr_pcn 91 rfl ?_
            refine zr_iload_n F zd_MPainter_goOverPiece_91 rfl ?_
            refine zr_istore F zd_MPainter_goOverPiece_92 (by decide) ?_
            refine zr_aload_n F zd_MPainter_goOverPiece_94 rfl ?_
            obtain ⟨le19, hs18, h⟩ := zoS_s h
            refine zr_get F 13 7 zd_MPainter_goOverPiece_95 (zW_o hs18 (by decide)) rfl (by decide) zw_1584 rfl (by rfl) ?_
            obtain ⟨x20, ex20, h⟩ := zoL_s h
            rw [← ex20]
            refine zr_istore F zd_MPainter_goOverPiece_98 (by decide) ?_
            obtain ⟨q38, eq38, h⟩ := zoB_s h
            refine zr_loc (L' := [(0, .ref (b + o)), (1, .int x0_), (2, .int x1_), (4, .long (p3.1)), (6, .int x16), (7, .int x2_), (8, .int x20)]) ⟨rfl, rfl, rfl, rfl, rfl, rfl, rfl, trivial⟩ ?_
            refine lp_MPainter_goOverPiece_100 F _ _ _ _ _ _ _ _ _ _ eq38 ?_
            ·
              obtain rfl := Option.some.inj h
              exact zr_vret F hr zd_MPainter_goOverPiece_165 (Nat.le_of_ble_eq_true rfl) (Nat.le_of_ble_eq_true rfl) ⟨rfl, rfl, rfl⟩
          ·
            rw [if_neg hb17] at h
            refine zr_iload_n F zd_MPainter_goOverPiece_85 rfl ?_
            refine zr_iconstv (v := 1) F zd_MPainter_goOverPiece_86 (by decide) ?_
            refine zr_iadd F zd_MPainter_goOverPiece_87 ?_
            refine zr_goto F 92 zd_MPainter_goOverPiece_88 (by decide) ?_
            obtain ⟨x39, ex39, h⟩ := zoL_s h
            rw [← ex39]
            refine zr_istore F zd_MPainter_goOverPiece_92 (by decide) ?_
            refine zr_aload_n F zd_MPainter_goOverPiece_94 rfl ?_
            refine zr_pcn 95 rfl ?_
            obtain ⟨le41, hs40, h⟩ := zoS_s h
            refine zr_get F 13 7 zd_MPainter_goOverPiece_95 (zW_o hs40 (by decide)) rfl (by decide) zw_1584 rfl (by rfl) ?_
            obtain ⟨x42, ex42, h⟩ := zoL_s h
            rw [← ex42]
            refine zr_istore F zd_MPainter_goOverPiece_98 (by decide) ?_
            obtain ⟨q43, eq43, h⟩ := zoB_s h
            refine zr_loc (L' := [(0, .ref (b + o)), (1, .int x0_), (2, .int x1_), (4, .long (p3.1)), (6, .int x16), (7, .int x39), (8, .int x42)]) ⟨rfl, rfl, rfl, rfl, rfl, rfl, rfl, trivial⟩ ?_
            refine lp_MPainter_goOverPiece_100 F _ _ _ _ _ _ _ _ _ _ eq43 ?_
            ·
              obtain rfl := Option.some.inj h
              exact zr_vret F hr zd_MPainter_goOverPiece_165 (Nat.le_of_ble_eq_true rfl) (Nat.le_of_ble_eq_true rfl) ⟨rfl, rfl, rfl⟩
        ·
          rw [if_neg hb15] at h
          refine zr_iload_n F zd_MPainter_goOverPiece_69 rfl ?_
          refine zr_goto F 76 zd_MPainter_goOverPiece_70 (by decide) ?_
          refine zr_istore F zd_MPainter_goOverPiece_76 (by decide) ?_
          refine zr_lload F zd_MPainter_goOverPiece_78 rfl ?_
          refine zr_lconstv (v := 0) F zd_MPainter_goOverPiece_80 (by decide) ?_
          refine zr_pcn 81 rfl ?_
          refine zr_lcmp F zd_MPainter_goOverPiece_81 ?_
          refine zr_if_le F 91 zd_MPainter_goOverPiece_82 (by decide) (fun hb44 => ?_) (fun hb44 => ?_)
          ·
            rw [if_pos hb44] at h
            refine zr_iload_n F zd_MPainter_goOverPiece_91 rfl ?_
            refine zr_istore F zd_MPainter_goOverPiece_92 (by decide) ?_
            refine zr_aload_n F zd_MPainter_goOverPiece_94 rfl ?_
            obtain ⟨le46, hs45, h⟩ := zoS_s h
            refine zr_get F 13 7 zd_MPainter_goOverPiece_95 (zW_o hs45 (by decide)) rfl (by decide) zw_1584 rfl (by rfl) ?_
            obtain ⟨x47, ex47, h⟩ := zoL_s h
            rw [← ex47]
            refine zr_istore F zd_MPainter_goOverPiece_98 (by decide) ?_
            obtain ⟨q48, eq48, h⟩ := zoB_s h
            refine zr_loc (L' := [(0, .ref (b + o)), (1, .int x0_), (2, .int x1_), (4, .long (p3.1)), (6, .int x2_), (7, .int x2_), (8, .int x47)]) ⟨rfl, rfl, rfl, rfl, rfl, rfl, rfl, trivial⟩ ?_
            refine lp_MPainter_goOverPiece_100 F _ _ _ _ _ _ _ _ _ _ eq48 ?_
            ·
              obtain rfl := Option.some.inj h
              exact zr_vret F hr zd_MPainter_goOverPiece_165 (Nat.le_of_ble_eq_true rfl) (Nat.le_of_ble_eq_true rfl) ⟨rfl, rfl, rfl⟩
          ·
            rw [if_neg hb44] at h
            refine zr_pcn 85 rfl ?_
            refine zr_iload_n F zd_MPainter_goOverPiece_85 rfl ?_
            refine zr_iconstv (v := 1) F zd_MPainter_goOverPiece_86 (by decide) ?_
            refine zr_iadd F zd_MPainter_goOverPiece_87 ?_
            refine zr_goto F 92 zd_MPainter_goOverPiece_88 (by decide) ?_
            obtain ⟨x49, ex49, h⟩ := zoL_s h
            rw [← ex49]
            refine zr_istore F zd_MPainter_goOverPiece_92 (by decide) ?_
            refine zr_aload_n F zd_MPainter_goOverPiece_94 rfl ?_
            obtain ⟨le51, hs50, h⟩ := zoS_s h
            refine zr_get F 13 7 zd_MPainter_goOverPiece_95 (zW_o hs50 (by decide)) rfl (by decide) zw_1584 rfl (by rfl) ?_
            obtain ⟨x52, ex52, h⟩ := zoL_s h
            rw [← ex52]
            refine zr_istore F zd_MPainter_goOverPiece_98 (by decide) ?_
            obtain ⟨q53, eq53, h⟩ := zoB_s h
            refine zr_loc (L' := [(0, .ref (b + o)), (1, .int x0_), (2, .int x1_), (4, .long (p3.1)), (6, .int x2_), (7, .int x49), (8, .int x52)]) ⟨rfl, rfl, rfl, rfl, rfl, rfl, rfl, trivial⟩ ?_
            refine lp_MPainter_goOverPiece_100 F _ _ _ _ _ _ _ _ _ _ eq53 ?_
            ·
              refine zr_pcn 165 rfl ?_
              obtain rfl := Option.some.inj h
              exact zr_vret F hr zd_MPainter_goOverPiece_165 (Nat.le_of_ble_eq_true rfl) (Nat.le_of_ble_eq_true rfl) ⟨rfl, rfl, rfl⟩
      ·
        rw [if_pos hb8] at h
        obtain rfl := Option.some.inj h
        exact zr_vret F hr zd_MPainter_goOverPiece_51 (Nat.le_of_ble_eq_true rfl) (Nat.le_of_ble_eq_true rfl) ⟨rfl, rfl, rfl⟩
    ·
      rw [if_neg hb5] at h
      refine zr_aload_n F zd_MPainter_goOverPiece_25 rfl ?_
      obtain ⟨le55, hs54, h⟩ := zoS_s h
      obtain ⟨a56, ea56, h⟩ := zoB_s h
      refine zr_get F 13 5 zd_MPainter_goOverPiece_26 (zW_o hs54 (by decide)) rfl (by decide) zw_1581 rfl (by rfl) ?_
      refine zr_tor ea56 ?_
      obtain ⟨le58, hs57, h⟩ := zoS_s h
      obtain ⟨a59, ea59, h⟩ := zoB_s h
      refine zr_get F 15 11 zd_MPainter_goOverPiece_29 (zW_o hs57 (by decide)) rfl (by decide) zw_1351 rfl (by rfl) ?_
      refine zr_tor ea59 ?_
      refine zr_aload_n F zd_MPainter_goOverPiece_32 rfl ?_
      refine zr_iload_n F zd_MPainter_goOverPiece_33 rfl ?_
      obtain ⟨le61, hs60, h⟩ := zoS_s h
      obtain ⟨p62, ep62, h⟩ := zoB_s h
      refine zr_callV1 F (k_MPainter_materialOf l D tA b sh _ ep62) zd_MPainter_goOverPiece_34 (zW_o hs60 (by decide)) rfl zs_MPainter_180 rfl zq_MPainter_materialOf rfl rfl ⟨(Nat.le_of_ble_eq_true rfl), (Nat.le_of_ble_eq_true rfl)⟩ (Nat.le_of_ble_eq_true rfl) ⟨(Nat.le_of_ble_eq_true rfl), (Nat.le_of_ble_eq_true rfl)⟩ ?_
      refine zr_pcn 37 rfl ?_
      obtain ⟨le64, hs63, h⟩ := zoS_s h
      obtain ⟨hi65, h⟩ := zoI_s h
      refine zr_iald F zd_MPainter_goOverPiece_37 (zW_a0 hs63) hi65 ?_
      refine zr_if_eq F 51 zd_MPainter_goOverPiece_38 (by decide) (fun hb66 => ?_) (fun hb66 => ?_)
      ·
        rw [if_pos hb66] at h
        obtain rfl := Option.some.inj h
        exact zr_vret F hr zd_MPainter_goOverPiece_51 (Nat.le_of_ble_eq_true rfl) (Nat.le_of_ble_eq_true rfl) ⟨rfl, rfl, rfl⟩
      ·
        rw [if_neg hb66] at h
        refine zr_aload_n F zd_MPainter_goOverPiece_41 rfl ?_
        obtain ⟨le68, hs67, h⟩ := zoS_s h
        refine zr_get F 13 0 zd_MPainter_goOverPiece_42 (zW_o hs67 (by decide)) rfl (by decide) zw_1576 rfl (by rfl) ?_
        refine zr_ldcw F zd_MPainter_goOverPiece_45 zw_2117 ?_
        refine zr_icmp_ne F 52 zd_MPainter_goOverPiece_48 (by decide) (fun hb69 => ?_) (fun hb69 => ?_)
        ·
          rw [if_neg hb69] at h
          refine zr_aload_n F zd_MPainter_goOverPiece_52 rfl ?_
          refine zr_pcn 53 rfl ?_
          refine zr_dup F zd_MPainter_goOverPiece_53 rfl ?_
          obtain ⟨le71, hs70, h⟩ := zoS_s h
          refine zr_get F 13 0 zd_MPainter_goOverPiece_54 (zW_o hs70 (by decide)) rfl (by decide) zw_1576 rfl (by rfl) ?_
          refine zr_iconstv (v := 1) F zd_MPainter_goOverPiece_57 (by decide) ?_
          refine zr_iadd F zd_MPainter_goOverPiece_58 ?_
          obtain ⟨x72, ex72, h⟩ := zoL_s h
          rw [← ex72]
          obtain ⟨le74, hs73, h⟩ := zoS_s h
          refine zr_put F 13 0 zd_MPainter_goOverPiece_59 (zW_o hs73 (by decide)) rfl (by decide) zw_1576 rfl rfl rfl rfl (by exact (Nat.le_of_ble_eq_true rfl)) ?_
          obtain ⟨mm75, emm75, h⟩ := zoL_s h
          refine zr_norm (zW tA b sh mm75) _ (by rw [emm75]; exact zW_pI (v := x72) hs73 (by decide) (zf_I_13_0 b _ _ _)) rfl ?_
          refine zr_lload F zd_MPainter_goOverPiece_62 rfl ?_
          refine zr_lconstv (v := 0) F zd_MPainter_goOverPiece_64 (by decide) ?_
          refine zr_lcmp F zd_MPainter_goOverPiece_65 ?_
          refine zr_pcn 66 rfl ?_
          refine zr_if_le F 73 zd_MPainter_goOverPiece_66 (by decide) (fun hb76 => ?_) (fun hb76 => ?_)
          ·
            rw [if_pos hb76] at h
            refine zr_iload_n F zd_MPainter_goOverPiece_73 rfl ?_
            refine zr_iconstv (v := 1) F zd_MPainter_goOverPiece_74 (by decide) ?_
            refine zr_iadd F zd_MPainter_goOverPiece_75 ?_
            obtain ⟨x77, ex77, h⟩ := zoL_s h
            rw [← ex77]
            refine zr_istore F zd_MPainter_goOverPiece_76 (by decide) ?_
            refine zr_lload F zd_MPainter_goOverPiece_78 rfl ?_
            refine zr_lconstv (v := 0) F zd_MPainter_goOverPiece_80 (by decide) ?_
            refine zr_lcmp F zd_MPainter_goOverPiece_81 ?_
            refine zr_pcn 82 rfl ?_
            refine zr_if_le F 91 zd_MPainter_goOverPiece_82 (by decide) (fun hb78 => ?_) (fun hb78 => ?_)
            ·
              rw [if_pos hb78] at h
              refine zr_iload_n F zd_MPainter_goOverPiece_91 rfl ?_
              refine zr_istore F zd_MPainter_goOverPiece_92 (by decide) ?_
              refine zr_aload_n F zd_MPainter_goOverPiece_94 rfl ?_
              obtain ⟨le80, hs79, h⟩ := zoS_s h
              refine zr_get F 13 7 zd_MPainter_goOverPiece_95 (zW_o hs79 (by decide)) rfl (by decide) zw_1584 rfl (by rfl) ?_
              obtain ⟨x81, ex81, h⟩ := zoL_s h
              rw [← ex81]
              refine zr_istore F zd_MPainter_goOverPiece_98 (by decide) ?_
              obtain ⟨q82, eq82, h⟩ := zoB_s h
              refine zr_loc (L' := [(0, .ref (b + o)), (1, .int x0_), (2, .int x1_), (4, .long (p3.1)), (6, .int x77), (7, .int x2_), (8, .int x81)]) ⟨rfl, rfl, rfl, rfl, rfl, rfl, rfl, trivial⟩ ?_
              refine lp_MPainter_goOverPiece_100 F _ _ _ _ _ _ _ _ _ _ eq82 ?_
              ·
                obtain rfl := Option.some.inj h
                exact zr_vret F hr zd_MPainter_goOverPiece_165 (Nat.le_of_ble_eq_true rfl) (Nat.le_of_ble_eq_true rfl) ⟨rfl, rfl, rfl⟩
            ·
              rw [if_neg hb78] at h
              refine zr_iload_n F zd_MPainter_goOverPiece_85 rfl ?_
              refine zr_pcn 86 rfl ?_
              refine zr_iconstv (v := 1) F zd_MPainter_goOverPiece_86 (by decide) ?_
              refine zr_iadd F zd_MPainter_goOverPiece_87 ?_
              refine zr_goto F 92 zd_MPainter_goOverPiece_88 (by decide) ?_
              obtain ⟨x83, ex83, h⟩ := zoL_s h
              rw [← ex83]
              refine zr_istore F zd_MPainter_goOverPiece_92 (by decide) ?_
              refine zr_aload_n F zd_MPainter_goOverPiece_94 rfl ?_
              obtain ⟨le85, hs84, h⟩ := zoS_s h
              refine zr_get F 13 7 zd_MPainter_goOverPiece_95 (zW_o hs84 (by decide)) rfl (by decide) zw_1584 rfl (by rfl) ?_
              obtain ⟨x86, ex86, h⟩ := zoL_s h
              rw [← ex86]
              refine zr_istore F zd_MPainter_goOverPiece_98 (by decide) ?_
              obtain ⟨q87, eq87, h⟩ := zoB_s h
              refine zr_loc (L' := [(0, .ref (b + o)), (1, .int x0_), (2, .int x1_), (4, .long (p3.1)), (6, .int x77), (7, .int x83), (8, .int x86)]) ⟨rfl, rfl, rfl, rfl, rfl, rfl, rfl, trivial⟩ ?_
              refine lp_MPainter_goOverPiece_100 F _ _ _ _ _ _ _ _ _ _ eq87 ?_
              ·
                obtain rfl := Option.some.inj h
                exact zr_vret F hr zd_MPainter_goOverPiece_165 (Nat.le_of_ble_eq_true rfl) (Nat.le_of_ble_eq_true rfl) ⟨rfl, rfl, rfl⟩
          ·
            rw [if_neg hb76] at h
            refine zr_pcn 69 rfl ?_
            refine zr_iload_n F zd_MPainter_goOverPiece_69 rfl ?_
            refine zr_goto F 76 zd_MPainter_goOverPiece_70 (by decide) ?_
            refine zr_istore F zd_MPainter_goOverPiece_76 (by decide) ?_
            refine zr_lload F zd_MPainter_goOverPiece_78 rfl ?_
            refine zr_lconstv (v := 0) F zd_MPainter_goOverPiece_80 (by decide) ?_
            refine zr_lcmp F zd_MPainter_goOverPiece_81 ?_
            refine zr_if_le F 91 zd_MPainter_goOverPiece_82 (by decide) (fun hb88 => ?_) (fun hb88 => ?_)
            ·
              rw [if_pos hb88] at h
              refine zr_iload_n F zd_MPainter_goOverPiece_91 rfl ?_
              refine zr_pcn 92 rfl ?_
              refine zr_istore F zd_MPainter_goOverPiece_92 (by decide) ?_
              refine zr_aload_n F zd_MPainter_goOverPiece_94 rfl ?_
              obtain ⟨le90, hs89, h⟩ := zoS_s h
              refine zr_get F 13 7 zd_MPainter_goOverPiece_95 (zW_o hs89 (by decide)) rfl (by decide) zw_1584 rfl (by rfl) ?_
              obtain ⟨x91, ex91, h⟩ := zoL_s h
              rw [← ex91]
              refine zr_istore F zd_MPainter_goOverPiece_98 (by decide) ?_
              obtain ⟨q92, eq92, h⟩ := zoB_s h
              refine zr_loc (L' := [(0, .ref (b + o)), (1, .int x0_), (2, .int x1_), (4, .long (p3.1)), (6, .int x2_), (7, .int x2_), (8, .int x91)]) ⟨rfl, rfl, rfl, rfl, rfl, rfl, rfl, trivial⟩ ?_
              refine lp_MPainter_goOverPiece_100 F _ _ _ _ _ _ _ _ _ _ eq92 ?_
              ·
                obtain rfl := Option.some.inj h
                exact zr_vret F hr zd_MPainter_goOverPiece_165 (Nat.le_of_ble_eq_true rfl) (Nat.le_of_ble_eq_true rfl) ⟨rfl, rfl, rfl⟩
            ·
              rw [if_neg hb88] at h
              refine zr_iload_n F zd_MPainter_goOverPiece_85 rfl ?_
              refine zr_iconstv (v := 1) F zd_MPainter_goOverPiece_86 (by decide) ?_
              refine zr_iadd F zd_MPainter_goOverPiece_87 ?_
              refine zr_pcn 88 rfl ?_
              refine zr_goto F 92 zd_MPainter_goOverPiece_88 (by decide) ?_
              obtain ⟨x93, ex93, h⟩ := zoL_s h
              rw [← ex93]
              refine zr_istore F zd_MPainter_goOverPiece_92 (by decide) ?_
              refine zr_aload_n F zd_MPainter_goOverPiece_94 rfl ?_
              obtain ⟨le95, hs94, h⟩ := zoS_s h
              refine zr_get F 13 7 zd_MPainter_goOverPiece_95 (zW_o hs94 (by decide)) rfl (by decide) zw_1584 rfl (by rfl) ?_
              obtain ⟨x96, ex96, h⟩ := zoL_s h
              rw [← ex96]
              refine zr_istore F zd_MPainter_goOverPiece_98 (by decide) ?_
              obtain ⟨q97, eq97, h⟩ := zoB_s h
              refine zr_loc (L' := [(0, .ref (b + o)), (1, .int x0_), (2, .int x1_), (4, .long (p3.1)), (6, .int x2_), (7, .int x93), (8, .int x96)]) ⟨rfl, rfl, rfl, rfl, rfl, rfl, rfl, trivial⟩ ?_
              refine lp_MPainter_goOverPiece_100 F _ _ _ _ _ _ _ _ _ _ eq97 ?_
              ·
                obtain rfl := Option.some.inj h
                exact zr_vret F hr zd_MPainter_goOverPiece_165 (Nat.le_of_ble_eq_true rfl) (Nat.le_of_ble_eq_true rfl) ⟨rfl, rfl, rfl⟩
        ·
          rw [if_pos hb69] at h
          obtain rfl := Option.some.inj h
          exact zr_vret F hr zd_MPainter_goOverPiece_51 (Nat.le_of_ble_eq_true rfl) (Nat.le_of_ble_eq_true rfl) ⟨rfl, rfl, rfl⟩
abbrev zb_XPicture_drawPiece : ByteArray := prog_6_method_9_code
def zy_XPicture_drawPiece : MethodName := ⟨"OrreryBox$Picture", "drawPiece", "([I)V"⟩
theorem zc_XPicture_drawPiece : Cond.code zy_XPicture_drawPiece zb_XPicture_drawPiece 12 none ∈ gw := gw_t 792 (by decide +kernel) rfl
theorem zq_XPicture_drawPiece : zy_XPicture_drawPiece.cls ≠ "java/lang/invoke/MethodHandle" ∧ zy_XPicture_drawPiece.cls ≠ "java/lang/invoke/VarHandle" ∧ (parseMethodDescriptor zy_XPicture_drawPiece.desc).map (fun d => d.parameters.length) = some 1 := by decide +kernel
theorem zd_XPicture_drawPiece_0 : decode zb_XPicture_drawPiece 0 = .ok (.aload_n 0, 1) := by decide +kernel
theorem zd_XPicture_drawPiece_1 : decode zb_XPicture_drawPiece 1 = .ok (.getfield 69, 3) := by decide +kernel
theorem zd_XPicture_drawPiece_4 : decode zb_XPicture_drawPiece 4 = .ok (.aload_n 0, 1) := by decide +kernel
theorem zd_XPicture_drawPiece_5 : decode zb_XPicture_drawPiece 5 = .ok (.getfield 24, 3) := by decide +kernel
theorem zd_XPicture_drawPiece_8 : decode zb_XPicture_drawPiece 8 = .ok (.iconst 0, 1) := by decide +kernel
theorem zd_XPicture_drawPiece_9 : decode zb_XPicture_drawPiece 9 = .ok (.invokevirtual 103, 3) := by decide +kernel
theorem zd_XPicture_drawPiece_12 : decode zb_XPicture_drawPiece 12 = .ok (.invokestatic 107, 3) := by decide +kernel
theorem zd_XPicture_drawPiece_15 : decode zb_XPicture_drawPiece 15 = .ok (.istore_n 2, 1) := by decide +kernel
theorem zd_XPicture_drawPiece_16 : decode zb_XPicture_drawPiece 16 = .ok (.aload_n 0, 1) := by decide +kernel
theorem zd_XPicture_drawPiece_17 : decode zb_XPicture_drawPiece 17 = .ok (.getfield 81, 3) := by decide +kernel
theorem zd_XPicture_drawPiece_20 : decode zb_XPicture_drawPiece 20 = .ok (.aload_n 0, 1) := by decide +kernel
theorem zd_XPicture_drawPiece_21 : decode zb_XPicture_drawPiece 21 = .ok (.getfield 24, 3) := by decide +kernel
theorem zd_XPicture_drawPiece_24 : decode zb_XPicture_drawPiece 24 = .ok (.iconst 0, 1) := by decide +kernel
theorem zd_XPicture_drawPiece_25 : decode zb_XPicture_drawPiece 25 = .ok (.invokevirtual 110, 3) := by decide +kernel
theorem zd_XPicture_drawPiece_28 : decode zb_XPicture_drawPiece 28 = .ok (.invokestatic 75, 3) := by decide +kernel
theorem zd_XPicture_drawPiece_31 : decode zb_XPicture_drawPiece 31 = .ok (.istore_n 3, 1) := by decide +kernel
theorem zd_XPicture_drawPiece_32 : decode zb_XPicture_drawPiece 32 = .ok (.aload_n 0, 1) := by decide +kernel
theorem zd_XPicture_drawPiece_33 : decode zb_XPicture_drawPiece 33 = .ok (.getfield 72, 3) := by decide +kernel
theorem zd_XPicture_drawPiece_36 : decode zb_XPicture_drawPiece 36 = .ok (.aload_n 0, 1) := by decide +kernel
theorem zd_XPicture_drawPiece_37 : decode zb_XPicture_drawPiece 37 = .ok (.getfield 24, 3) := by decide +kernel
theorem zd_XPicture_drawPiece_40 : decode zb_XPicture_drawPiece 40 = .ok (.iconst 1, 1) := by decide +kernel
theorem zd_XPicture_drawPiece_41 : decode zb_XPicture_drawPiece 41 = .ok (.invokevirtual 103, 3) := by decide +kernel
theorem zd_XPicture_drawPiece_44 : decode zb_XPicture_drawPiece 44 = .ok (.invokestatic 107, 3) := by decide +kernel
theorem zd_XPicture_drawPiece_47 : decode zb_XPicture_drawPiece 47 = .ok (.istore 4, 2) := by decide +kernel
theorem zd_XPicture_drawPiece_49 : decode zb_XPicture_drawPiece 49 = .ok (.aload_n 0, 1) := by decide +kernel
theorem zd_XPicture_drawPiece_50 : decode zb_XPicture_drawPiece 50 = .ok (.getfield 84, 3) := by decide +kernel
theorem zd_XPicture_drawPiece_53 : decode zb_XPicture_drawPiece 53 = .ok (.aload_n 0, 1) := by decide +kernel
theorem zd_XPicture_drawPiece_54 : decode zb_XPicture_drawPiece 54 = .ok (.getfield 24, 3) := by decide +kernel
theorem zd_XPicture_drawPiece_57 : decode zb_XPicture_drawPiece 57 = .ok (.iconst 1, 1) := by decide +kernel
theorem zd_XPicture_drawPiece_58 : decode zb_XPicture_drawPiece 58 = .ok (.invokevirtual 110, 3) := by decide +kernel
theorem zd_XPicture_drawPiece_61 : decode zb_XPicture_drawPiece 61 = .ok (.invokestatic 75, 3) := by decide +kernel
theorem zd_XPicture_drawPiece_64 : decode zb_XPicture_drawPiece 64 = .ok (.istore 5, 2) := by decide +kernel
theorem zd_XPicture_drawPiece_66 : decode zb_XPicture_drawPiece 66 = .ok (.iload_n 2, 1) := by decide +kernel
theorem zd_XPicture_drawPiece_67 : decode zb_XPicture_drawPiece 67 = .ok (.iload_n 3, 1) := by decide +kernel
theorem zd_XPicture_drawPiece_68 : decode zb_XPicture_drawPiece 68 = .ok (.if_icmp .gt 10, 3) := by decide +kernel
theorem zd_XPicture_drawPiece_71 : decode zb_XPicture_drawPiece 71 = .ok (.iload 4, 2) := by decide +kernel
theorem zd_XPicture_drawPiece_73 : decode zb_XPicture_drawPiece 73 = .ok (.iload 5, 2) := by decide +kernel
theorem zd_XPicture_drawPiece_75 : decode zb_XPicture_drawPiece 75 = .ok (.if_icmp .le 4, 3) := by decide +kernel
theorem zd_XPicture_drawPiece_78 : decode zb_XPicture_drawPiece 78 = .ok (.return_, 1) := by decide +kernel
theorem zd_XPicture_drawPiece_79 : decode zb_XPicture_drawPiece 79 = .ok (.aload_n 1, 1) := by decide +kernel
theorem zd_XPicture_drawPiece_80 : decode zb_XPicture_drawPiece 80 = .ok (.iconst 4, 1) := by decide +kernel
theorem zd_XPicture_drawPiece_81 : decode zb_XPicture_drawPiece 81 = .ok (.iaload, 1) := by decide +kernel
theorem zd_XPicture_drawPiece_82 : decode zb_XPicture_drawPiece 82 = .ok (.ifCond .ge 7, 3) := by decide +kernel
theorem zd_XPicture_drawPiece_85 : decode zb_XPicture_drawPiece 85 = .ok (.aconst_null, 1) := by decide +kernel
theorem zd_XPicture_drawPiece_86 : decode zb_XPicture_drawPiece 86 = .ok (.goto 14, 3) := by decide +kernel
theorem zd_XPicture_drawPiece_89 : decode zb_XPicture_drawPiece 89 = .ok (.aload_n 0, 1) := by decide +kernel
theorem zd_XPicture_drawPiece_90 : decode zb_XPicture_drawPiece 90 = .ok (.getfield 47, 3) := by decide +kernel
theorem zd_XPicture_drawPiece_93 : decode zb_XPicture_drawPiece 93 = .ok (.getfield 113, 3) := by decide +kernel
theorem zd_XPicture_drawPiece_96 : decode zb_XPicture_drawPiece 96 = .ok (.aload_n 1, 1) := by decide +kernel
theorem zd_XPicture_drawPiece_97 : decode zb_XPicture_drawPiece 97 = .ok (.iconst 4, 1) := by decide +kernel
theorem zd_XPicture_drawPiece_98 : decode zb_XPicture_drawPiece 98 = .ok (.iaload, 1) := by decide +kernel
theorem zd_XPicture_drawPiece_99 : decode zb_XPicture_drawPiece 99 = .ok (.aaload, 1) := by decide +kernel
theorem zd_XPicture_drawPiece_100 : decode zb_XPicture_drawPiece 100 = .ok (.astore 6, 2) := by decide +kernel
theorem zd_XPicture_drawPiece_102 : decode zb_XPicture_drawPiece 102 = .ok (.aload 6, 2) := by decide +kernel
theorem zd_XPicture_drawPiece_104 : decode zb_XPicture_drawPiece 104 = .ok (.ifnonnull 7, 3) := by decide +kernel
theorem zd_XPicture_drawPiece_107 : decode zb_XPicture_drawPiece 107 = .ok (.iconst 0, 1) := by decide +kernel
theorem zd_XPicture_drawPiece_108 : decode zb_XPicture_drawPiece 108 = .ok (.goto 22, 3) := by decide +kernel
theorem zd_XPicture_drawPiece_111 : decode zb_XPicture_drawPiece 111 = .ok (.aload 6, 2) := by decide +kernel
theorem zd_XPicture_drawPiece_113 : decode zb_XPicture_drawPiece 113 = .ok (.aload_n 0, 1) := by decide +kernel
theorem zd_XPicture_drawPiece_114 : decode zb_XPicture_drawPiece 114 = .ok (.getfield 24, 3) := by decide +kernel
theorem zd_XPicture_drawPiece_117 : decode zb_XPicture_drawPiece 117 = .ok (.invokevirtual 117, 3) := by decide +kernel
theorem zd_XPicture_drawPiece_120 : decode zb_XPicture_drawPiece 120 = .ok (.aload_n 0, 1) := by decide +kernel
theorem zd_XPicture_drawPiece_121 : decode zb_XPicture_drawPiece 121 = .ok (.getfield 24, 3) := by decide +kernel
theorem zd_XPicture_drawPiece_124 : decode zb_XPicture_drawPiece 124 = .ok (.getfield 121, 3) := by decide +kernel
theorem zd_XPicture_drawPiece_127 : decode zb_XPicture_drawPiece 127 = .ok (.invokevirtual 124, 3) := by decide +kernel
theorem zd_XPicture_drawPiece_130 : decode zb_XPicture_drawPiece 130 = .ok (.istore 7, 2) := by decide +kernel
theorem zd_XPicture_drawPiece_132 : decode zb_XPicture_drawPiece 132 = .ok (.iload 4, 2) := by decide +kernel
theorem zd_XPicture_drawPiece_134 : decode zb_XPicture_drawPiece 134 = .ok (.istore 8, 2) := by decide +kernel
theorem zd_XPicture_drawPiece_136 : decode zb_XPicture_drawPiece 136 = .ok (.iload 8, 2) := by decide +kernel
theorem zd_XPicture_drawPiece_138 : decode zb_XPicture_drawPiece 138 = .ok (.iload 5, 2) := by decide +kernel
theorem zd_XPicture_drawPiece_140 : decode zb_XPicture_drawPiece 140 = .ok (.if_icmp .gt 112, 3) := by decide +kernel
theorem zd_XPicture_drawPiece_143 : decode zb_XPicture_drawPiece 143 = .ok (.iload_n 2, 1) := by decide +kernel
theorem zd_XPicture_drawPiece_144 : decode zb_XPicture_drawPiece 144 = .ok (.istore 9, 2) := by decide +kernel
theorem zd_XPicture_drawPiece_146 : decode zb_XPicture_drawPiece 146 = .ok (.iload 9, 2) := by decide +kernel
theorem zd_XPicture_drawPiece_148 : decode zb_XPicture_drawPiece 148 = .ok (.iload_n 3, 1) := by decide +kernel
theorem zd_XPicture_drawPiece_149 : decode zb_XPicture_drawPiece 149 = .ok (.if_icmp .gt 97, 3) := by decide +kernel
theorem zd_XPicture_drawPiece_152 : decode zb_XPicture_drawPiece 152 = .ok (.iload 8, 2) := by decide +kernel
theorem zd_XPicture_drawPiece_154 : decode zb_XPicture_drawPiece 154 = .ok (.aload_n 0, 1) := by decide +kernel
theorem zd_XPicture_drawPiece_155 : decode zb_XPicture_drawPiece 155 = .ok (.getfield 28, 3) := by decide +kernel
theorem zd_XPicture_drawPiece_158 : decode zb_XPicture_drawPiece 158 = .ok (.imul, 1) := by decide +kernel
theorem zd_XPicture_drawPiece_159 : decode zb_XPicture_drawPiece 159 = .ok (.iload 9, 2) := by decide +kernel
theorem zd_XPicture_drawPiece_161 : decode zb_XPicture_drawPiece 161 = .ok (.iadd, 1) := by decide +kernel
theorem zd_XPicture_drawPiece_162 : decode zb_XPicture_drawPiece 162 = .ok (.istore 10, 2) := by decide +kernel
theorem zd_XPicture_drawPiece_164 : decode zb_XPicture_drawPiece 164 = .ok (.aload_n 0, 1) := by decide +kernel
theorem zd_XPicture_drawPiece_165 : decode zb_XPicture_drawPiece 165 = .ok (.getfield 24, 3) := by decide +kernel
theorem zd_XPicture_drawPiece_168 : decode zb_XPicture_drawPiece 168 = .ok (.iload 9, 2) := by decide +kernel
theorem zd_XPicture_drawPiece_170 : decode zb_XPicture_drawPiece 170 = .ok (.iload 8, 2) := by decide +kernel
theorem zd_XPicture_drawPiece_172 : decode zb_XPicture_drawPiece 172 = .ok (.invokevirtual 130, 3) := by decide +kernel
theorem zd_XPicture_drawPiece_175 : decode zb_XPicture_drawPiece 175 = .ok (.ifCond .eq 65, 3) := by decide +kernel
theorem zd_XPicture_drawPiece_178 : decode zb_XPicture_drawPiece 178 = .ok (.aload_n 0, 1) := by decide +kernel
theorem zd_XPicture_drawPiece_179 : decode zb_XPicture_drawPiece 179 = .ok (.getfield 24, 3) := by decide +kernel
theorem zd_XPicture_drawPiece_182 : decode zb_XPicture_drawPiece 182 = .ok (.invokevirtual 134, 3) := by decide +kernel
theorem zd_XPicture_drawPiece_185 : decode zb_XPicture_drawPiece 185 = .ok (.aload_n 0, 1) := by decide +kernel
theorem zd_XPicture_drawPiece_186 : decode zb_XPicture_drawPiece 186 = .ok (.getfield 44, 3) := by decide +kernel
theorem zd_XPicture_drawPiece_189 : decode zb_XPicture_drawPiece 189 = .ok (.iload 10, 2) := by decide +kernel
theorem zd_XPicture_drawPiece_191 : decode zb_XPicture_drawPiece 191 = .ok (.iaload, 1) := by decide +kernel
theorem zd_XPicture_drawPiece_192 : decode zb_XPicture_drawPiece 192 = .ok (.i2l, 1) := by decide +kernel
theorem zd_XPicture_drawPiece_193 : decode zb_XPicture_drawPiece 193 = .ok (.lcmp, 1) := by decide +kernel
theorem zd_XPicture_drawPiece_194 : decode zb_XPicture_drawPiece 194 = .ok (.ifCond .le 46, 3) := by decide +kernel
theorem zd_XPicture_drawPiece_197 : decode zb_XPicture_drawPiece 197 = .ok (.ldc 137, 2) := by decide +kernel
theorem zd_XPicture_drawPiece_199 : decode zb_XPicture_drawPiece 199 = .ok (.istore 11, 2) := by decide +kernel
theorem zd_XPicture_drawPiece_201 : decode zb_XPicture_drawPiece 201 = .ok (.aload 6, 2) := by decide +kernel
theorem zd_XPicture_drawPiece_203 : decode zb_XPicture_drawPiece 203 = .ok (.ifnull 28, 3) := by decide +kernel
theorem zd_XPicture_drawPiece_206 : decode zb_XPicture_drawPiece 206 = .ok (.aload 6, 2) := by decide +kernel
theorem zd_XPicture_drawPiece_208 : decode zb_XPicture_drawPiece 208 = .ok (.iload 7, 2) := by decide +kernel
theorem zd_XPicture_drawPiece_210 : decode zb_XPicture_drawPiece 210 = .ok (.aload_n 0, 1) := by decide +kernel
theorem zd_XPicture_drawPiece_211 : decode zb_XPicture_drawPiece 211 = .ok (.getfield 24, 3) := by decide +kernel
theorem zd_XPicture_drawPiece_214 : decode zb_XPicture_drawPiece 214 = .ok (.iconst 3, 1) := by decide +kernel
theorem zd_XPicture_drawPiece_215 : decode zb_XPicture_drawPiece 215 = .ok (.invokevirtual 138, 3) := by decide +kernel
theorem zd_XPicture_drawPiece_218 : decode zb_XPicture_drawPiece 218 = .ok (.aload_n 0, 1) := by decide +kernel
theorem zd_XPicture_drawPiece_219 : decode zb_XPicture_drawPiece 219 = .ok (.getfield 24, 3) := by decide +kernel
theorem zd_XPicture_drawPiece_222 : decode zb_XPicture_drawPiece 222 = .ok (.iconst 4, 1) := by decide +kernel
theorem zd_XPicture_drawPiece_223 : decode zb_XPicture_drawPiece 223 = .ok (.invokevirtual 138, 3) := by decide +kernel
theorem zd_XPicture_drawPiece_226 : decode zb_XPicture_drawPiece 226 = .ok (.invokevirtual 142, 3) := by decide +kernel
theorem zd_XPicture_drawPiece_229 : decode zb_XPicture_drawPiece 229 = .ok (.istore 11, 2) := by decide +kernel
theorem zd_XPicture_drawPiece_231 : decode zb_XPicture_drawPiece 231 = .ok (.aload_n 0, 1) := by decide +kernel
theorem zd_XPicture_drawPiece_232 : decode zb_XPicture_drawPiece 232 = .ok (.iload 10, 2) := by decide +kernel
theorem zd_XPicture_drawPiece_234 : decode zb_XPicture_drawPiece 234 = .ok (.aload_n 1, 1) := by decide +kernel
theorem zd_XPicture_drawPiece_235 : decode zb_XPicture_drawPiece 235 = .ok (.iload 11, 2) := by decide +kernel
theorem zd_XPicture_drawPiece_237 : decode zb_XPicture_drawPiece 237 = .ok (.invokevirtual 146, 3) := by decide +kernel
theorem zd_XPicture_drawPiece_240 : decode zb_XPicture_drawPiece 240 = .ok (.iinc 9 1, 3) := by decide +kernel
theorem zd_XPicture_drawPiece_243 : decode zb_XPicture_drawPiece 243 = .ok (.goto (-97), 3) := by decide +kernel
theorem zd_XPicture_drawPiece_246 : decode zb_XPicture_drawPiece 246 = .ok (.iinc 8 1, 3) := by decide +kernel
theorem zd_XPicture_drawPiece_249 : decode zb_XPicture_drawPiece 249 = .ok (.goto (-113), 3) := by decide +kernel
theorem zd_XPicture_drawPiece_252 : decode zb_XPicture_drawPiece 252 = .ok (.return_, 1) := by decide +kernel
theorem zw_793 : (Jvm.Cond.methodLink "OrreryBox$Picture" (103 : Nat) ({ cls := "OrreryBox$Piece", name := "firstPixel", desc := "(I)I" } : Jvm.MethodName)) ∈ gw := gw_t 793 (by decide +kernel) rfl
theorem zs_XPicture_103 : zwV "OrreryBox$Picture" 103 "OrreryBox$Piece" zy_XPiece_firstPixel zb_XPiece_firstPixel 3 (some .int) := ⟨zw_793, zw_794, zw_795, zw_11, zc_XPiece_firstPixel⟩
theorem zw_798 : (Jvm.Cond.methodLink "OrreryBox$Picture" (107 : Nat) ({ cls := "java/lang/Math", name := "max", desc := "(II)I" } : Jvm.MethodName)) ∈ gw := gw_t 798 (by decide +kernel) rfl
theorem zs_XPicture_107 : zwS "OrreryBox$Picture" 107 zy_JMath_max zb_JMath_max 2 (some .int) := ⟨zw_798, zw_124, zw_4, zc_JMath_max⟩
theorem zw_799 : (Jvm.Cond.methodLink "OrreryBox$Picture" (110 : Nat) ({ cls := "OrreryBox$Piece", name := "lastPixel", desc := "(I)I" } : Jvm.MethodName)) ∈ gw := gw_t 799 (by decide +kernel) rfl
theorem zs_XPicture_110 : zwV "OrreryBox$Picture" 110 "OrreryBox$Piece" zy_XPiece_lastPixel zb_XPiece_lastPixel 3 (some .int) := ⟨zw_799, zw_800, zw_801, zw_11, zc_XPiece_lastPixel⟩
theorem zw_780 : (Jvm.Cond.methodLink "OrreryBox$Picture" (75 : Nat) ({ cls := "java/lang/Math", name := "min", desc := "(II)I" } : Jvm.MethodName)) ∈ gw := gw_t 780 (by decide +kernel) rfl
theorem zs_XPicture_75 : zwS "OrreryBox$Picture" 75 zy_JMath_min zb_JMath_min 2 (some .int) := ⟨zw_780, zw_121, zw_4, zc_JMath_min⟩
theorem zw_287 : (Jvm.Cond.fieldLink "OrreryBox$Picture" (113 : Nat) "OrreryBox$Scene" "textures" "[LOrreryBox$Texture;") ∈ gw := gw_t 287 (by decide +kernel) rfl
theorem zw_804 : (Jvm.Cond.methodLink "OrreryBox$Picture" (117 : Nat) ({ cls := "OrreryBox$Piece", name := "spread", desc := "()J" } : Jvm.MethodName)) ∈ gw := gw_t 804 (by decide +kernel) rfl
theorem zw_805 : (Jvm.Cond.instanceMethod ({ cls := "OrreryBox$Piece", name := "spread", desc := "()J" } : Jvm.MethodName)) ∈ gw := gw_t 805 (by decide +kernel) rfl
theorem zw_806 : (Jvm.Cond.selects "OrreryBox$Piece" ({ cls := "OrreryBox$Piece", name := "spread", desc := "()J" } : Jvm.MethodName) ({ cls := "OrreryBox$Piece", name := "spread", desc := "()J" } : Jvm.MethodName)) ∈ gw := gw_t 806 (by decide +kernel) rfl
theorem zs_XPicture_117 : zwV "OrreryBox$Picture" 117 "OrreryBox$Piece" zy_XPiece_spread zb_XPiece_spread 1 (some .long) := ⟨zw_804, zw_805, zw_806, zw_11, zc_XPiece_spread⟩
theorem zw_350 : (Jvm.Cond.fieldLink "OrreryBox$Picture" (121 : Nat) "OrreryBox$Piece" "area" "J") ∈ gw := gw_t 350 (by decide +kernel) rfl
theorem zw_811 : (Jvm.Cond.methodLink "OrreryBox$Picture" (124 : Nat) ({ cls := "OrreryBox$Texture", name := "levelFor", desc := "(JJ)I" } : Jvm.MethodName)) ∈ gw := gw_t 811 (by decide +kernel) rfl
theorem zw_812 : (Jvm.Cond.instanceMethod ({ cls := "OrreryBox$Texture", name := "levelFor", desc := "(JJ)I" } : Jvm.MethodName)) ∈ gw := gw_t 812 (by decide +kernel) rfl
theorem zw_813 : (Jvm.Cond.selects "OrreryBox$Texture" ({ cls := "OrreryBox$Texture", name := "levelFor", desc := "(JJ)I" } : Jvm.MethodName) ({ cls := "OrreryBox$Texture", name := "levelFor", desc := "(JJ)I" } : Jvm.MethodName)) ∈ gw := gw_t 813 (by decide +kernel) rfl
theorem zs_XPicture_124 : zwV "OrreryBox$Picture" 124 "OrreryBox$Texture" zy_XTexture_levelFor zb_XTexture_levelFor 10 (some .int) := ⟨zw_811, zw_812, zw_813, zw_6, zc_XTexture_levelFor⟩
theorem zw_817 : (Jvm.Cond.methodLink "OrreryBox$Picture" (130 : Nat) ({ cls := "OrreryBox$Piece", name := "covers", desc := "(II)Z" } : Jvm.MethodName)) ∈ gw := gw_t 817 (by decide +kernel) rfl
theorem zw_818 : (Jvm.Cond.instanceMethod ({ cls := "OrreryBox$Piece", name := "covers", desc := "(II)Z" } : Jvm.MethodName)) ∈ gw := gw_t 818 (by decide +kernel) rfl
theorem zw_819 : (Jvm.Cond.selects "OrreryBox$Piece" ({ cls := "OrreryBox$Piece", name := "covers", desc := "(II)Z" } : Jvm.MethodName) ({ cls := "OrreryBox$Piece", name := "covers", desc := "(II)Z" } : Jvm.MethodName)) ∈ gw := gw_t 819 (by decide +kernel) rfl
theorem zs_XPicture_130 : zwV "OrreryBox$Picture" 130 "OrreryBox$Piece" zy_XPiece_covers zb_XPiece_covers 5 (some .boolean) := ⟨zw_817, zw_818, zw_819, zw_11, zc_XPiece_covers⟩
theorem zw_834 : (Jvm.Cond.constant "OrreryBox$Picture" (137 : Nat) (16777215 : Int32)) ∈ gw := gw_t 834 (by decide +kernel) rfl
theorem zw_839 : (Jvm.Cond.methodLink "OrreryBox$Picture" (142 : Nat) ({ cls := "OrreryBox$Texture", name := "colourAt", desc := "(IJJ)I" } : Jvm.MethodName)) ∈ gw := gw_t 839 (by decide +kernel) rfl
theorem zw_840 : (Jvm.Cond.instanceMethod ({ cls := "OrreryBox$Texture", name := "colourAt", desc := "(IJJ)I" } : Jvm.MethodName)) ∈ gw := gw_t 840 (by decide +kernel) rfl
theorem zw_841 : (Jvm.Cond.selects "OrreryBox$Texture" ({ cls := "OrreryBox$Texture", name := "colourAt", desc := "(IJJ)I" } : Jvm.MethodName) ({ cls := "OrreryBox$Texture", name := "colourAt", desc := "(IJJ)I" } : Jvm.MethodName)) ∈ gw := gw_t 841 (by decide +kernel) rfl
theorem zs_XPicture_142 : zwV "OrreryBox$Picture" 142 "OrreryBox$Texture" zy_XTexture_colourAt zb_XTexture_colourAt 8 (some .int) := ⟨zw_839, zw_840, zw_841, zw_6, zc_XTexture_colourAt⟩
theorem zw_856 : (Jvm.Cond.methodLink "OrreryBox$Picture" (146 : Nat) ({ cls := "OrreryBox$Picture", name := "drawPixel", desc := "(I[II)V" } : Jvm.MethodName)) ∈ gw := gw_t 856 (by decide +kernel) rfl
theorem zw_858 : (Jvm.Cond.instanceMethod ({ cls := "OrreryBox$Picture", name := "drawPixel", desc := "(I[II)V" } : Jvm.MethodName)) ∈ gw := gw_t 858 (by decide +kernel) rfl
theorem zv_24 : (Jvm.Cond.selects "OrreryBox$Picture" (⟨"OrreryBox$Picture", "drawPixel", "(I[II)V"⟩ : MethodName) ⟨"OrreryBox$Picture", "drawPixel", "(I[II)V"⟩) ∈ gw := gw_s 24 (by decide +kernel) rfl
theorem zs_XPicture_146 : zwV "OrreryBox$Picture" 146 "OrreryBox$Picture" zy_XPicture_drawPixel zb_XPicture_drawPixel 11 none := ⟨zw_856, zw_858, zv_24, zw_12, zc_XPicture_drawPixel⟩
def L_XPicture_drawPiece_146 (sh : zSh) (fuel : Nat) (v0 : Nat) (v1 : Nat) (v2 : Int32) (v3 : Int32) (v5 : Int32) (v6 : Nat) (v7 : Int32) (v8 : Int32) (v9 : Int32) (mm : zMem) : Option (Nat × Nat × Int32 × Int32 × Int32 × Nat × Int32 × Int32 × Int32 × zMem) := match fuel with
  | 0 => none
  | fu + 1 => (if v3 < v9 then some (v0, v1, v2, v3, v5, v6, v7, v8, v9, mm) else zoS (sh v0) 5 (fun le79 => zoL ((v8 * (mm.1 v0 4)) + v9) (fun x80 => zoS (sh v0) 5 (fun le82 => Option.bind (mm.2.2 v0 11) (fun a83 => zoS (sh a83) 6 (fun le85 => Option.bind (F_XPiece_covers sh mm a83 v9 v8) (fun p86 => (if p86.1 = 0 then L_XPicture_drawPiece_146 sh fu v0 v1 v2 v3 v5 v6 v7 v8 (v9 + 1) (p86.2) else zoS (sh v0) 5 (fun le89 => Option.bind ((p86.2).2.2 v0 11) (fun a90 => zoS (sh a90) 6 (fun le92 => Option.bind (F_XPiece_near sh (p86.2) a90) (fun p93 => zoS (sh v0) 5 (fun le95 => Option.bind ((p93.2).2.2 v0 2) (fun a96 => zoS (sh a96) 100 (fun le98 => if (x80 : Int32) < 0 ∨ le98 ≤ (x80 : Int32).toNatClampNeg then none else (if (lg_cmp p93.1 ((((p93.2).1 a96 (x80 : Int32).toNatClampNeg) : Int32).toInt64)) ≤ 0 then L_XPicture_drawPiece_146 sh fu v0 v1 v2 v3 v5 v6 v7 v8 (v9 + 1) (p93.2) else zoS (sh v0) 5 (fun le102 => Option.bind ((p93.2).2.2 v0 11) (fun a103 => zoS (sh a103) 6 (fun le105 => Option.bind (F_XPiece_mixed sh (p93.2) a103 3) (fun p106 => zoS (sh v0) 5 (fun le108 => Option.bind ((p106.2).2.2 v0 11) (fun a109 => zoS (sh a109) 6 (fun le111 => Option.bind (F_XPiece_mixed sh (p106.2) a109 4) (fun p112 => zoS (sh v6) 10 (fun le114 => Option.bind (F_XTexture_colourAt sh (p112.2) v6 v7 (p106.1) (p112.1)) (fun p115 => zoS (sh v0) 5 (fun le117 => Option.bind (F_XPicture_drawPixel sh (p115.2) v0 x80 v1 (p115.1)) (fun p118 => L_XPicture_drawPiece_146 sh fu v0 v1 v2 v3 v5 v6 v7 v8 (v9 + 1) p118))))))))))))))))))))))))))))
set_option maxHeartbeats 4000000 in
set_option maxRecDepth 100000 in
theorem lp_XPicture_drawPiece_146 {p : Program} {l : Launch} {e : Env} {s : State} {m : MethodId} {args : Array Value} {below : List Frame} {meth : Method} {c : Code} {D : va_G} {tA : Nat → ClassId} {b n : Nat} {post : Option Value → zV → Nat → Prop} {sh : zSh} (F : zF p s m args meth c zb_XPicture_drawPiece 12 "OrreryBox$Picture" D tA b) : ∀ (fuel : Nat) (v0 : Nat) (v1 : Nat) (v2 : Int32) (v3 : Int32) (v5 : Int32) (v6 : Nat) (v7 : Int32) (v8 : Int32) (v9 : Int32) (mm : zMem) (r : Nat × Nat × Int32 × Int32 × Int32 × Nat × Int32 × Int32 × Int32 × zMem), L_XPicture_drawPiece_146 sh fuel v0 v1 v2 v3 v5 v6 v7 v8 v9 mm = some r → (Z p l e { frames := 4, cells := 0, slots := 0, locals := 116 } s m args below meth c D b 12 (MQ below (zQ D b post) args s 0 0 (fun q => b ≤ q)) (zW tA b sh r.2.2.2.2.2.2.2.2.2) n 0 0 246 [(0, .ref (b + (r.1))), (1, .ref (b + (r.2.1))), (2, .int (r.2.2.1)), (3, .int (r.2.2.2.1)), (5, .int (r.2.2.2.2.1)), (6, .ref (b + (r.2.2.2.2.2.1))), (7, .int (r.2.2.2.2.2.2.1)), (8, .int (r.2.2.2.2.2.2.2.1)), (9, .int (r.2.2.2.2.2.2.2.2.1))] []) → Z p l e { frames := 4, cells := 0, slots := 0, locals := 116 } s m args below meth c D b 12 (MQ below (zQ D b post) args s 0 0 (fun q => b ≤ q)) (zW tA b sh mm) n 0 0 146 [(0, .ref (b + v0)), (1, .ref (b + v1)), (2, .int v2), (3, .int v3), (5, .int v5), (6, .ref (b + v6)), (7, .int v7), (8, .int v8), (9, .int v9)] [] := by
  intro fuel
  induction fuel with
  | zero =>
    intro v0 v1 v2 v3 v5 v6 v7 v8 v9 mm r h
    cases h
  | succ fu ih =>
    intro v0 v1 v2 v3 v5 v6 v7 v8 v9 mm r h hx0
    rw [L_XPicture_drawPiece_146] at h
    refine zr_iload F zd_XPicture_drawPiece_146 rfl ?_
    refine zr_iload_n F zd_XPicture_drawPiece_148 rfl ?_
    refine zr_pcn 149 rfl ?_
    refine zr_icmp_gt F 246 zd_XPicture_drawPiece_149 (by decide) (fun hb77 => ?_) (fun hb77 => ?_)
    ·
      rw [if_pos hb77] at h
      obtain rfl := Option.some.inj h
      refine zr_loc (L' := [(0, .ref (b + v0)), (1, .ref (b + v1)), (2, .int v2), (3, .int v3), (5, .int v5), (6, .ref (b + v6)), (7, .int v7), (8, .int v8), (9, .int v9)]) ⟨rfl, rfl, rfl, rfl, rfl, rfl, rfl, rfl, rfl, trivial⟩ ?_
      exact hx0 
    ·
      rw [if_neg hb77] at h
      refine zr_iload F zd_XPicture_drawPiece_152 rfl ?_
      refine zr_aload_n F zd_XPicture_drawPiece_154 rfl ?_
      obtain ⟨le79, hs78, h⟩ := zoS_s h
      refine zr_get F 5 4 zd_XPicture_drawPiece_155 (zW_o hs78 (by decide)) rfl (by decide) zw_437 rfl (by rfl) ?_
      refine zr_imul F zd_XPicture_drawPiece_158 ?_
      refine zr_iload F zd_XPicture_drawPiece_159 rfl ?_
      refine zr_iadd F zd_XPicture_drawPiece_161 ?_
      obtain ⟨x80, ex80, h⟩ := zoL_s h
      rw [← ex80]
      refine zr_istore F zd_XPicture_drawPiece_162 (by decide) ?_
      refine zr_pcn 164 rfl ?_
      refine zr_aload_n F zd_XPicture_drawPiece_164 rfl ?_
      obtain ⟨le82, hs81, h⟩ := zoS_s h
      obtain ⟨a83, ea83, h⟩ := zoB_s h
      refine zr_get F 5 11 zd_XPicture_drawPiece_165 (zW_o hs81 (by decide)) rfl (by decide) zw_444 rfl (by rfl) ?_
      refine zr_tor ea83 ?_
      refine zr_iload F zd_XPicture_drawPiece_168 rfl ?_
      refine zr_iload F zd_XPicture_drawPiece_170 rfl ?_
      obtain ⟨le85, hs84, h⟩ := zoS_s h
      obtain ⟨p86, ep86, h⟩ := zoB_s h
      refine zr_callV1 F (k_XPiece_covers l D tA b sh _ ep86) zd_XPicture_drawPiece_172 (zW_o hs84 (by decide)) rfl zs_XPicture_130 rfl zq_XPiece_covers rfl rfl ⟨(Nat.le_of_ble_eq_true rfl), (Nat.le_of_ble_eq_true rfl)⟩ (Nat.le_of_ble_eq_true rfl) ⟨(Nat.le_of_ble_eq_true rfl), (Nat.le_of_ble_eq_true rfl)⟩ ?_
      refine zr_if_eq F 240 zd_XPicture_drawPiece_175 (by decide) (fun hb87 => ?_) (fun hb87 => ?_)
      ·
        rw [if_pos hb87] at h
        refine zr_iinc (v := (v9 + 1)) F zd_XPicture_drawPiece_240 rfl rfl (by decide) ?_
        refine zr_goto F 146 zd_XPicture_drawPiece_243 (by decide) ?_
        refine zr_loc (L' := [(0, .ref (b + v0)), (1, .ref (b + v1)), (2, .int v2), (3, .int v3), (5, .int v5), (6, .ref (b + v6)), (7, .int v7), (8, .int v8), (9, .int (v9 + 1))]) ⟨rfl, rfl, rfl, rfl, rfl, rfl, rfl, rfl, rfl, trivial⟩ ?_
        exact ih _ _ _ _ _ _ _ _ _ _ _ h hx0
      ·
        rw [if_neg hb87] at h
        refine zr_pcn 178 rfl ?_
        refine zr_aload_n F zd_XPicture_drawPiece_178 rfl ?_
        obtain ⟨le89, hs88, h⟩ := zoS_s h
        obtain ⟨a90, ea90, h⟩ := zoB_s h
        refine zr_get F 5 11 zd_XPicture_drawPiece_179 (zW_o hs88 (by decide)) rfl (by decide) zw_444 rfl (by rfl) ?_
        refine zr_tor ea90 ?_
        obtain ⟨le92, hs91, h⟩ := zoS_s h
        obtain ⟨p93, ep93, h⟩ := zoB_s h
        refine zr_callV1 F (k_XPiece_near l D tA b sh _ ep93) zd_XPicture_drawPiece_182 (zW_o hs91 (by decide)) rfl zs_XPicture_134 rfl zq_XPiece_near rfl rfl ⟨(Nat.le_of_ble_eq_true rfl), (Nat.le_of_ble_eq_true rfl)⟩ (Nat.le_of_ble_eq_true rfl) ⟨(Nat.le_of_ble_eq_true rfl), (Nat.le_of_ble_eq_true rfl)⟩ ?_
        refine zr_aload_n F zd_XPicture_drawPiece_185 rfl ?_
        obtain ⟨le95, hs94, h⟩ := zoS_s h
        obtain ⟨a96, ea96, h⟩ := zoB_s h
        refine zr_get F 5 2 zd_XPicture_drawPiece_186 (zW_o hs94 (by decide)) rfl (by decide) zw_433 rfl (by rfl) ?_
        refine zr_tor ea96 ?_
        refine zr_iload F zd_XPicture_drawPiece_189 rfl ?_
        obtain ⟨le98, hs97, h⟩ := zoS_s h
        obtain ⟨hi99, h⟩ := zoI_s h
        refine zr_iald F zd_XPicture_drawPiece_191 (zW_a0 hs97) hi99 ?_
        refine zr_i2l F zd_XPicture_drawPiece_192 ?_
        refine zr_pcn 193 rfl ?_
        refine zr_lcmp F zd_XPicture_drawPiece_193 ?_
        refine zr_if_le F 240 zd_XPicture_drawPiece_194 (by decide) (fun hb100 => ?_) (fun hb100 => ?_)
        ·
          rw [if_pos hb100] at h
          refine zr_iinc (v := (v9 + 1)) F zd_XPicture_drawPiece_240 rfl rfl (by decide) ?_
          refine zr_goto F 146 zd_XPicture_drawPiece_243 (by decide) ?_
          refine zr_loc (L' := [(0, .ref (b + v0)), (1, .ref (b + v1)), (2, .int v2), (3, .int v3), (5, .int v5), (6, .ref (b + v6)), (7, .int v7), (8, .int v8), (9, .int (v9 + 1))]) ⟨rfl, rfl, rfl, rfl, rfl, rfl, rfl, rfl, rfl, trivial⟩ ?_
          exact ih _ _ _ _ _ _ _ _ _ _ _ h hx0
        ·
          rw [if_neg hb100] at h
          refine zr_ldc F zd_XPicture_drawPiece_197 zw_834 ?_
          refine zr_istore F zd_XPicture_drawPiece_199 (by decide) ?_
          refine zr_aload F zd_XPicture_drawPiece_201 rfl ?_
          refine zr_ifnull F zd_XPicture_drawPiece_203 ?_
          refine zr_pcn 206 rfl ?_
          refine zr_aload F zd_XPicture_drawPiece_206 rfl ?_
          refine zr_iload F zd_XPicture_drawPiece_208 rfl ?_
          refine zr_aload_n F zd_XPicture_drawPiece_210 rfl ?_
          obtain ⟨le102, hs101, h⟩ := zoS_s h
          obtain ⟨a103, ea103, h⟩ := zoB_s h
          refine zr_get F 5 11 zd_XPicture_drawPiece_211 (zW_o hs101 (by decide)) rfl (by decide) zw_444 rfl (by rfl) ?_
          refine zr_tor ea103 ?_
          refine zr_iconstv (v := 3) F zd_XPicture_drawPiece_214 (by decide) ?_
          obtain ⟨le105, hs104, h⟩ := zoS_s h
          obtain ⟨p106, ep106, h⟩ := zoB_s h
          refine zr_callV1 F (k_XPiece_mixed l D tA b sh _ ep106) zd_XPicture_drawPiece_215 (zW_o hs104 (by decide)) rfl zs_XPicture_138 rfl zq_XPiece_mixed rfl rfl ⟨(Nat.le_of_ble_eq_true rfl), (Nat.le_of_ble_eq_true rfl)⟩ (Nat.le_of_ble_eq_true rfl) ⟨(Nat.le_of_ble_eq_true rfl), (Nat.le_of_ble_eq_true rfl)⟩ ?_
          refine zr_aload_n F zd_XPicture_drawPiece_218 rfl ?_
          obtain ⟨le108, hs107, h⟩ := zoS_s h
          obtain ⟨a109, ea109, h⟩ := zoB_s h
          refine zr_get F 5 11 zd_XPicture_drawPiece_219 (zW_o hs107 (by decide)) rfl (by decide) zw_444 rfl (by rfl) ?_
          refine zr_tor ea109 ?_
          refine zr_pcn 222 rfl ?_
          refine zr_iconstv (v := 4) F zd_XPicture_drawPiece_222 (by decide) ?_
          obtain ⟨le111, hs110, h⟩ := zoS_s h
          obtain ⟨p112, ep112, h⟩ := zoB_s h
          refine zr_callV1 F (k_XPiece_mixed l D tA b sh _ ep112) zd_XPicture_drawPiece_223 (zW_o hs110 (by decide)) rfl zs_XPicture_138 rfl zq_XPiece_mixed rfl rfl ⟨(Nat.le_of_ble_eq_true rfl), (Nat.le_of_ble_eq_true rfl)⟩ (Nat.le_of_ble_eq_true rfl) ⟨(Nat.le_of_ble_eq_true rfl), (Nat.le_of_ble_eq_true rfl)⟩ ?_
          obtain ⟨le114, hs113, h⟩ := zoS_s h
          obtain ⟨p115, ep115, h⟩ := zoB_s h
          refine zr_callV1 F (k_XTexture_colourAt l D tA b sh _ ep115) zd_XPicture_drawPiece_226 (zW_o hs113 (by decide)) rfl zs_XPicture_142 rfl zq_XTexture_colourAt rfl rfl ⟨(Nat.le_of_ble_eq_true rfl), (Nat.le_of_ble_eq_true rfl)⟩ (Nat.le_of_ble_eq_true rfl) ⟨(Nat.le_of_ble_eq_true rfl), (Nat.le_of_ble_eq_true rfl)⟩ ?_
          refine zr_istore F zd_XPicture_drawPiece_229 (by decide) ?_
          refine zr_aload_n F zd_XPicture_drawPiece_231 rfl ?_
          refine zr_iload F zd_XPicture_drawPiece_232 rfl ?_
          refine zr_aload_n F zd_XPicture_drawPiece_234 rfl ?_
          refine zr_iload F zd_XPicture_drawPiece_235 rfl ?_
          refine zr_pcn 237 rfl ?_
          obtain ⟨le117, hs116, h⟩ := zoS_s h
          obtain ⟨p118, ep118, h⟩ := zoB_s h
          refine zr_callV0 F (k_XPicture_drawPixel l D tA b sh _ ep118) zd_XPicture_drawPiece_237 (zW_o hs116 (by decide)) rfl zs_XPicture_146 rfl zq_XPicture_drawPixel rfl rfl ⟨(Nat.le_of_ble_eq_true rfl), (Nat.le_of_ble_eq_true rfl)⟩ (Nat.le_of_ble_eq_true rfl) ⟨(Nat.le_of_ble_eq_true rfl), (Nat.le_of_ble_eq_true rfl)⟩ ?_
          refine zr_iinc (v := (v9 + 1)) F zd_XPicture_drawPiece_240 rfl rfl (by decide) ?_
          refine zr_goto F 146 zd_XPicture_drawPiece_243 (by decide) ?_
          refine zr_loc (L' := [(0, .ref (b + v0)), (1, .ref (b + v1)), (2, .int v2), (3, .int v3), (5, .int v5), (6, .ref (b + v6)), (7, .int v7), (8, .int v8), (9, .int (v9 + 1))]) ⟨rfl, rfl, rfl, rfl, rfl, rfl, rfl, rfl, rfl, trivial⟩ ?_
          exact ih _ _ _ _ _ _ _ _ _ _ _ h hx0
def L_XPicture_drawPiece_136 (sh : zSh) (fuel : Nat) (v0 : Nat) (v1 : Nat) (v2 : Int32) (v3 : Int32) (v5 : Int32) (v6 : Nat) (v7 : Int32) (v8 : Int32) (mm : zMem) : Option (Nat × Nat × Int32 × Int32 × Int32 × Nat × Int32 × Int32 × zMem) := match fuel with
  | 0 => none
  | fu + 1 => (if v5 < v8 then some (v0, v1, v2, v3, v5, v6, v7, v8, mm) else Option.bind (L_XPicture_drawPiece_146 sh zfuel v0 v1 v2 v3 v5 v6 v7 v8 v2 mm) (fun q119 => L_XPicture_drawPiece_136 sh fu (q119.1) (q119.2.1) (q119.2.2.1) (q119.2.2.2.1) (q119.2.2.2.2.1) (q119.2.2.2.2.2.1) (q119.2.2.2.2.2.2.1) (q119.2.2.2.2.2.2.2.1 + 1) (q119.2.2.2.2.2.2.2.2.2)))
set_option maxHeartbeats 4000000 in
set_option maxRecDepth 100000 in
theorem lp_XPicture_drawPiece_136 {p : Program} {l : Launch} {e : Env} {s : State} {m : MethodId} {args : Array Value} {below : List Frame} {meth : Method} {c : Code} {D : va_G} {tA : Nat → ClassId} {b n : Nat} {post : Option Value → zV → Nat → Prop} {sh : zSh} (F : zF p s m args meth c zb_XPicture_drawPiece 12 "OrreryBox$Picture" D tA b) : ∀ (fuel : Nat) (v0 : Nat) (v1 : Nat) (v2 : Int32) (v3 : Int32) (v5 : Int32) (v6 : Nat) (v7 : Int32) (v8 : Int32) (mm : zMem) (r : Nat × Nat × Int32 × Int32 × Int32 × Nat × Int32 × Int32 × zMem), L_XPicture_drawPiece_136 sh fuel v0 v1 v2 v3 v5 v6 v7 v8 mm = some r → (Z p l e { frames := 4, cells := 0, slots := 0, locals := 116 } s m args below meth c D b 12 (MQ below (zQ D b post) args s 0 0 (fun q => b ≤ q)) (zW tA b sh r.2.2.2.2.2.2.2.2) n 0 0 252 [(0, .ref (b + (r.1))), (1, .ref (b + (r.2.1))), (2, .int (r.2.2.1)), (3, .int (r.2.2.2.1)), (5, .int (r.2.2.2.2.1)), (6, .ref (b + (r.2.2.2.2.2.1))), (7, .int (r.2.2.2.2.2.2.1)), (8, .int (r.2.2.2.2.2.2.2.1))] []) → Z p l e { frames := 4, cells := 0, slots := 0, locals := 116 } s m args below meth c D b 12 (MQ below (zQ D b post) args s 0 0 (fun q => b ≤ q)) (zW tA b sh mm) n 0 0 136 [(0, .ref (b + v0)), (1, .ref (b + v1)), (2, .int v2), (3, .int v3), (5, .int v5), (6, .ref (b + v6)), (7, .int v7), (8, .int v8)] [] := by
  intro fuel
  induction fuel with
  | zero =>
    intro v0 v1 v2 v3 v5 v6 v7 v8 mm r h
    cases h
  | succ fu ih =>
    intro v0 v1 v2 v3 v5 v6 v7 v8 mm r h hx0
    rw [L_XPicture_drawPiece_136] at h
    refine zr_iload F zd_XPicture_drawPiece_136 rfl ?_
    refine zr_iload F zd_XPicture_drawPiece_138 rfl ?_
    refine zr_icmp_gt F 252 zd_XPicture_drawPiece_140 (by decide) (fun hb76 => ?_) (fun hb76 => ?_)
    ·
      rw [if_pos hb76] at h
      obtain rfl := Option.some.inj h
      refine zr_loc (L' := [(0, .ref (b + v0)), (1, .ref (b + v1)), (2, .int v2), (3, .int v3), (5, .int v5), (6, .ref (b + v6)), (7, .int v7), (8, .int v8)]) ⟨rfl, rfl, rfl, rfl, rfl, rfl, rfl, rfl, trivial⟩ ?_
      exact hx0 
    ·
      rw [if_neg hb76] at h
      refine zr_iload_n F zd_XPicture_drawPiece_143 rfl ?_
      refine zr_istore F zd_XPicture_drawPiece_144 (by decide) ?_
      obtain ⟨q119, eq119, h⟩ := zoB_s h
      refine zr_loc (L' := [(0, .ref (b + v0)), (1, .ref (b + v1)), (2, .int v2), (3, .int v3), (5, .int v5), (6, .ref (b + v6)), (7, .int v7), (8, .int v8), (9, .int v2)]) ⟨rfl, rfl, rfl, rfl, rfl, rfl, rfl, rfl, rfl, trivial⟩ ?_
      refine lp_XPicture_drawPiece_146 F _ _ _ _ _ _ _ _ _ _ _ _ eq119 ?_
      ·
        refine zr_iinc (v := (q119.2.2.2.2.2.2.2.1 + 1)) F zd_XPicture_drawPiece_246 rfl rfl (by decide) ?_
        refine zr_goto F 136 zd_XPicture_drawPiece_249 (by decide) ?_
        refine zr_loc (L' := [(0, .ref (b + (q119.1))), (1, .ref (b + (q119.2.1))), (2, .int (q119.2.2.1)), (3, .int (q119.2.2.2.1)), (5, .int (q119.2.2.2.2.1)), (6, .ref (b + (q119.2.2.2.2.2.1))), (7, .int (q119.2.2.2.2.2.2.1)), (8, .int (q119.2.2.2.2.2.2.2.1 + 1))]) ⟨rfl, rfl, rfl, rfl, rfl, rfl, rfl, rfl, trivial⟩ ?_
        exact ih _ _ _ _ _ _ _ _ _ _ h hx0
def L_XPicture_drawPiece_146N (sh : zSh) (fuel : Nat) (v0 : Nat) (v1 : Nat) (v2 : Int32) (v3 : Int32) (v5 : Int32) (v7 : Int32) (v8 : Int32) (v9 : Int32) (mm : zMem) : Option (Nat × Nat × Int32 × Int32 × Int32 × Int32 × Int32 × Int32 × zMem) := match fuel with
  | 0 => none
  | fu + 1 => (if v3 < v9 then some (v0, v1, v2, v3, v5, v7, v8, v9, mm) else zoS (sh v0) 5 (fun le124 => zoL ((v8 * (mm.1 v0 4)) + v9) (fun x125 => zoS (sh v0) 5 (fun le127 => Option.bind (mm.2.2 v0 11) (fun a128 => zoS (sh a128) 6 (fun le130 => Option.bind (F_XPiece_covers sh mm a128 v9 v8) (fun p131 => (if p131.1 = 0 then L_XPicture_drawPiece_146N sh fu v0 v1 v2 v3 v5 v7 v8 (v9 + 1) (p131.2) else zoS (sh v0) 5 (fun le134 => Option.bind ((p131.2).2.2 v0 11) (fun a135 => zoS (sh a135) 6 (fun le137 => Option.bind (F_XPiece_near sh (p131.2) a135) (fun p138 => zoS (sh v0) 5 (fun le140 => Option.bind ((p138.2).2.2 v0 2) (fun a141 => zoS (sh a141) 100 (fun le143 => if (x125 : Int32) < 0 ∨ le143 ≤ (x125 : Int32).toNatClampNeg then none else (if (lg_cmp p138.1 ((((p138.2).1 a141 (x125 : Int32).toNatClampNeg) : Int32).toInt64)) ≤ 0 then L_XPicture_drawPiece_146N sh fu v0 v1 v2 v3 v5 v7 v8 (v9 + 1) (p138.2) else zoS (sh v0) 5 (fun le147 => Option.bind (F_XPicture_drawPixel sh (p138.2) v0 x125 v1 16777215) (fun p148 => L_XPicture_drawPiece_146N sh fu v0 v1 v2 v3 v5 v7 v8 (v9 + 1) p148))))))))))))))))))
set_option maxHeartbeats 4000000 in
set_option maxRecDepth 100000 in
theorem lp_XPicture_drawPiece_146N {p : Program} {l : Launch} {e : Env} {s : State} {m : MethodId} {args : Array Value} {below : List Frame} {meth : Method} {c : Code} {D : va_G} {tA : Nat → ClassId} {b n : Nat} {post : Option Value → zV → Nat → Prop} {sh : zSh} (F : zF p s m args meth c zb_XPicture_drawPiece 12 "OrreryBox$Picture" D tA b) : ∀ (fuel : Nat) (v0 : Nat) (v1 : Nat) (v2 : Int32) (v3 : Int32) (v5 : Int32) (v7 : Int32) (v8 : Int32) (v9 : Int32) (mm : zMem) (r : Nat × Nat × Int32 × Int32 × Int32 × Int32 × Int32 × Int32 × zMem), L_XPicture_drawPiece_146N sh fuel v0 v1 v2 v3 v5 v7 v8 v9 mm = some r → (Z p l e { frames := 4, cells := 0, slots := 0, locals := 116 } s m args below meth c D b 12 (MQ below (zQ D b post) args s 0 0 (fun q => b ≤ q)) (zW tA b sh r.2.2.2.2.2.2.2.2) n 0 0 246 [(0, .ref (b + (r.1))), (1, .ref (b + (r.2.1))), (2, .int (r.2.2.1)), (3, .int (r.2.2.2.1)), (5, .int (r.2.2.2.2.1)), (7, .int (r.2.2.2.2.2.1)), (8, .int (r.2.2.2.2.2.2.1)), (9, .int (r.2.2.2.2.2.2.2.1))] []) → Z p l e { frames := 4, cells := 0, slots := 0, locals := 116 } s m args below meth c D b 12 (MQ below (zQ D b post) args s 0 0 (fun q => b ≤ q)) (zW tA b sh mm) n 0 0 146 [(0, .ref (b + v0)), (1, .ref (b + v1)), (2, .int v2), (3, .int v3), (5, .int v5), (7, .int v7), (8, .int v8), (9, .int v9)] [] := by
  intro fuel
  induction fuel with
  | zero =>
    intro v0 v1 v2 v3 v5 v7 v8 v9 mm r h
    cases h
  | succ fu ih =>
    intro v0 v1 v2 v3 v5 v7 v8 v9 mm r h hx0
    rw [L_XPicture_drawPiece_146N] at h
    refine zr_iload F zd_XPicture_drawPiece_146 rfl ?_
    refine zr_iload_n F zd_XPicture_drawPiece_148 rfl ?_
    refine zr_icmp_gt F 246 zd_XPicture_drawPiece_149 (by decide) (fun hb122 => ?_) (fun hb122 => ?_)
    ·
      rw [if_pos hb122] at h
      obtain rfl := Option.some.inj h
      refine zr_loc (L' := [(0, .ref (b + v0)), (1, .ref (b + v1)), (2, .int v2), (3, .int v3), (5, .int v5), (7, .int v7), (8, .int v8), (9, .int v9)]) ⟨rfl, rfl, rfl, rfl, rfl, rfl, rfl, rfl, trivial⟩ ?_
      exact hx0 
    ·
      rw [if_neg hb122] at h
      refine zr_pcn 152 rfl ?_
      refine zr_iload F zd_XPicture_drawPiece_152 rfl ?_
      refine zr_aload_n F zd_XPicture_drawPiece_154 rfl ?_
      obtain ⟨le124, hs123, h⟩ := zoS_s h
      refine zr_get F 5 4 zd_XPicture_drawPiece_155 (zW_o hs123 (by decide)) rfl (by decide) zw_437 rfl (by rfl) ?_
      refine zr_imul F zd_XPicture_drawPiece_158 ?_
      refine zr_iload F zd_XPicture_drawPiece_159 rfl ?_
      refine zr_iadd F zd_XPicture_drawPiece_161 ?_
      obtain ⟨x125, ex125, h⟩ := zoL_s h
      rw [← ex125]
      refine zr_istore F zd_XPicture_drawPiece_162 (by decide) ?_
      refine zr_aload_n F zd_XPicture_drawPiece_164 rfl ?_
      refine zr_pcn 165 rfl ?_
      obtain ⟨le127, hs126, h⟩ := zoS_s h
      obtain ⟨a128, ea128, h⟩ := zoB_s h
      refine zr_get F 5 11 zd_XPicture_drawPiece_165 (zW_o hs126 (by decide)) rfl (by decide) zw_444 rfl (by rfl) ?_
      refine zr_tor ea128 ?_
      refine zr_iload F zd_XPicture_drawPiece_168 rfl ?_
      refine zr_iload F zd_XPicture_drawPiece_170 rfl ?_
      obtain ⟨le130, hs129, h⟩ := zoS_s h
      obtain ⟨p131, ep131, h⟩ := zoB_s h
      refine zr_callV1 F (k_XPiece_covers l D tA b sh _ ep131) zd_XPicture_drawPiece_172 (zW_o hs129 (by decide)) rfl zs_XPicture_130 rfl zq_XPiece_covers rfl rfl ⟨(Nat.le_of_ble_eq_true rfl), (Nat.le_of_ble_eq_true rfl)⟩ (Nat.le_of_ble_eq_true rfl) ⟨(Nat.le_of_ble_eq_true rfl), (Nat.le_of_ble_eq_true rfl)⟩ ?_
      refine zr_if_eq F 240 zd_XPicture_drawPiece_175 (by decide) (fun hb132 => ?_) (fun hb132 => ?_)
      ·
        rw [if_pos hb132] at h
        refine zr_iinc (v := (v9 + 1)) F zd_XPicture_drawPiece_240 rfl rfl (by decide) ?_
        refine zr_goto F 146 zd_XPicture_drawPiece_243 (by decide) ?_
        refine zr_loc (L' := [(0, .ref (b + v0)), (1, .ref (b + v1)), (2, .int v2), (3, .int v3), (5, .int v5), (7, .int v7), (8, .int v8), (9, .int (v9 + 1))]) ⟨rfl, rfl, rfl, rfl, rfl, rfl, rfl, rfl, trivial⟩ ?_
        exact ih _ _ _ _ _ _ _ _ _ _ h hx0
      ·
        rw [if_neg hb132] at h
        refine zr_aload_n F zd_XPicture_drawPiece_178 rfl ?_
        refine zr_pcn 179 rfl ?_
        obtain ⟨le134, hs133, h⟩ := zoS_s h
        obtain ⟨a135, ea135, h⟩ := zoB_s h
        refine zr_get F 5 11 zd_XPicture_drawPiece_179 (zW_o hs133 (by decide)) rfl (by decide) zw_444 rfl (by rfl) ?_
        refine zr_tor ea135 ?_
        obtain ⟨le137, hs136, h⟩ := zoS_s h
        obtain ⟨p138, ep138, h⟩ := zoB_s h
        refine zr_callV1 F (k_XPiece_near l D tA b sh _ ep138) zd_XPicture_drawPiece_182 (zW_o hs136 (by decide)) rfl zs_XPicture_134 rfl zq_XPiece_near rfl rfl ⟨(Nat.le_of_ble_eq_true rfl), (Nat.le_of_ble_eq_true rfl)⟩ (Nat.le_of_ble_eq_true rfl) ⟨(Nat.le_of_ble_eq_true rfl), (Nat.le_of_ble_eq_true rfl)⟩ ?_
        refine zr_aload_n F zd_XPicture_drawPiece_185 rfl ?_
        obtain ⟨le140, hs139, h⟩ := zoS_s h
        obtain ⟨a141, ea141, h⟩ := zoB_s h
        refine zr_get F 5 2 zd_XPicture_drawPiece_186 (zW_o hs139 (by decide)) rfl (by decide) zw_433 rfl (by rfl) ?_
        refine zr_tor ea141 ?_
        refine zr_iload F zd_XPicture_drawPiece_189 rfl ?_
        obtain ⟨le143, hs142, h⟩ := zoS_s h
        obtain ⟨hi144, h⟩ := zoI_s h
        refine zr_iald F zd_XPicture_drawPiece_191 (zW_a0 hs142) hi144 ?_
        refine zr_i2l F zd_XPicture_drawPiece_192 ?_
        refine zr_lcmp F zd_XPicture_drawPiece_193 ?_
        refine zr_pcn 194 rfl ?_
        refine zr_if_le F 240 zd_XPicture_drawPiece_194 (by decide) (fun hb145 => ?_) (fun hb145 => ?_)
        ·
          rw [if_pos hb145] at h
          refine zr_iinc (v := (v9 + 1)) F zd_XPicture_drawPiece_240 rfl rfl (by decide) ?_
          refine zr_goto F 146 zd_XPicture_drawPiece_243 (by decide) ?_
          refine zr_loc (L' := [(0, .ref (b + v0)), (1, .ref (b + v1)), (2, .int v2), (3, .int v3), (5, .int v5), (7, .int v7), (8, .int v8), (9, .int (v9 + 1))]) ⟨rfl, rfl, rfl, rfl, rfl, rfl, rfl, rfl, trivial⟩ ?_
          exact ih _ _ _ _ _ _ _ _ _ _ h hx0
        ·
          rw [if_neg hb145] at h
          refine zr_ldc F zd_XPicture_drawPiece_197 zw_834 ?_
          refine zr_istore F zd_XPicture_drawPiece_199 (by decide) ?_
          refine zr_aloadN F zd_XPicture_drawPiece_201 rfl ?_
          refine zr_ifnullN F 231 zd_XPicture_drawPiece_203 (by decide) ?_
          refine zr_aload_n F zd_XPicture_drawPiece_231 rfl ?_
          refine zr_pcn 232 rfl ?_
          refine zr_iload F zd_XPicture_drawPiece_232 rfl ?_
          refine zr_aload_n F zd_XPicture_drawPiece_234 rfl ?_
          refine zr_iload F zd_XPicture_drawPiece_235 rfl ?_
          obtain ⟨le147, hs146, h⟩ := zoS_s h
          obtain ⟨p148, ep148, h⟩ := zoB_s h
          refine zr_callV0 F (k_XPicture_drawPixel l D tA b sh _ ep148) zd_XPicture_drawPiece_237 (zW_o hs146 (by decide)) rfl zs_XPicture_146 rfl zq_XPicture_drawPixel rfl rfl ⟨(Nat.le_of_ble_eq_true rfl), (Nat.le_of_ble_eq_true rfl)⟩ (Nat.le_of_ble_eq_true rfl) ⟨(Nat.le_of_ble_eq_true rfl), (Nat.le_of_ble_eq_true rfl)⟩ ?_
          refine zr_iinc (v := (v9 + 1)) F zd_XPicture_drawPiece_240 rfl rfl (by decide) ?_
          refine zr_goto F 146 zd_XPicture_drawPiece_243 (by decide) ?_
          refine zr_loc (L' := [(0, .ref (b + v0)), (1, .ref (b + v1)), (2, .int v2), (3, .int v3), (5, .int v5), (7, .int v7), (8, .int v8), (9, .int (v9 + 1))]) ⟨rfl, rfl, rfl, rfl, rfl, rfl, rfl, rfl, trivial⟩ ?_
          exact ih _ _ _ _ _ _ _ _ _ _ h hx0
def L_XPicture_drawPiece_136N (sh : zSh) (fuel : Nat) (v0 : Nat) (v1 : Nat) (v2 : Int32) (v3 : Int32) (v5 : Int32) (v7 : Int32) (v8 : Int32) (mm : zMem) : Option (Nat × Nat × Int32 × Int32 × Int32 × Int32 × Int32 × zMem) := match fuel with
  | 0 => none
  | fu + 1 => (if v5 < v8 then some (v0, v1, v2, v3, v5, v7, v8, mm) else Option.bind (L_XPicture_drawPiece_146N sh zfuel v0 v1 v2 v3 v5 v7 v8 v2 mm) (fun q149 => L_XPicture_drawPiece_136N sh fu (q149.1) (q149.2.1) (q149.2.2.1) (q149.2.2.2.1) (q149.2.2.2.2.1) (q149.2.2.2.2.2.1) (q149.2.2.2.2.2.2.1 + 1) (q149.2.2.2.2.2.2.2.2)))
set_option maxHeartbeats 4000000 in
set_option maxRecDepth 100000 in
theorem lp_XPicture_drawPiece_136N {p : Program} {l : Launch} {e : Env} {s : State} {m : MethodId} {args : Array Value} {below : List Frame} {meth : Method} {c : Code} {D : va_G} {tA : Nat → ClassId} {b n : Nat} {post : Option Value → zV → Nat → Prop} {sh : zSh} (F : zF p s m args meth c zb_XPicture_drawPiece 12 "OrreryBox$Picture" D tA b) : ∀ (fuel : Nat) (v0 : Nat) (v1 : Nat) (v2 : Int32) (v3 : Int32) (v5 : Int32) (v7 : Int32) (v8 : Int32) (mm : zMem) (r : Nat × Nat × Int32 × Int32 × Int32 × Int32 × Int32 × zMem), L_XPicture_drawPiece_136N sh fuel v0 v1 v2 v3 v5 v7 v8 mm = some r → (Z p l e { frames := 4, cells := 0, slots := 0, locals := 116 } s m args below meth c D b 12 (MQ below (zQ D b post) args s 0 0 (fun q => b ≤ q)) (zW tA b sh r.2.2.2.2.2.2.2) n 0 0 252 [(0, .ref (b + (r.1))), (1, .ref (b + (r.2.1))), (2, .int (r.2.2.1)), (3, .int (r.2.2.2.1)), (5, .int (r.2.2.2.2.1)), (7, .int (r.2.2.2.2.2.1)), (8, .int (r.2.2.2.2.2.2.1))] []) → Z p l e { frames := 4, cells := 0, slots := 0, locals := 116 } s m args below meth c D b 12 (MQ below (zQ D b post) args s 0 0 (fun q => b ≤ q)) (zW tA b sh mm) n 0 0 136 [(0, .ref (b + v0)), (1, .ref (b + v1)), (2, .int v2), (3, .int v3), (5, .int v5), (7, .int v7), (8, .int v8)] [] := by
  intro fuel
  induction fuel with
  | zero =>
    intro v0 v1 v2 v3 v5 v7 v8 mm r h
    cases h
  | succ fu ih =>
    intro v0 v1 v2 v3 v5 v7 v8 mm r h hx0
    rw [L_XPicture_drawPiece_136N] at h
    refine zr_pcn 136 rfl ?_
    refine zr_iload F zd_XPicture_drawPiece_136 rfl ?_
    refine zr_iload F zd_XPicture_drawPiece_138 rfl ?_
    refine zr_icmp_gt F 252 zd_XPicture_drawPiece_140 (by decide) (fun hb121 => ?_) (fun hb121 => ?_)
    ·
      rw [if_pos hb121] at h
      obtain rfl := Option.some.inj h
      refine zr_loc (L' := [(0, .ref (b + v0)), (1, .ref (b + v1)), (2, .int v2), (3, .int v3), (5, .int v5), (7, .int v7), (8, .int v8)]) ⟨rfl, rfl, rfl, rfl, rfl, rfl, rfl, trivial⟩ ?_
      exact hx0 
    ·
      rw [if_neg hb121] at h
      refine zr_iload_n F zd_XPicture_drawPiece_143 rfl ?_
      refine zr_istore F zd_XPicture_drawPiece_144 (by decide) ?_
      obtain ⟨q149, eq149, h⟩ := zoB_s h
      refine zr_loc (L' := [(0, .ref (b + v0)), (1, .ref (b + v1)), (2, .int v2), (3, .int v3), (5, .int v5), (7, .int v7), (8, .int v8), (9, .int v2)]) ⟨rfl, rfl, rfl, rfl, rfl, rfl, rfl, rfl, trivial⟩ ?_
      refine lp_XPicture_drawPiece_146N F _ _ _ _ _ _ _ _ _ _ _ eq149 ?_
      ·
        refine zr_iinc (v := (q149.2.2.2.2.2.2.1 + 1)) F zd_XPicture_drawPiece_246 rfl rfl (by decide) ?_
        refine zr_goto F 136 zd_XPicture_drawPiece_249 (by decide) ?_
        refine zr_loc (L' := [(0, .ref (b + (q149.1))), (1, .ref (b + (q149.2.1))), (2, .int (q149.2.2.1)), (3, .int (q149.2.2.2.1)), (5, .int (q149.2.2.2.2.1)), (7, .int (q149.2.2.2.2.2.1)), (8, .int (q149.2.2.2.2.2.2.1 + 1))]) ⟨rfl, rfl, rfl, rfl, rfl, rfl, rfl, trivial⟩ ?_
        exact ih _ _ _ _ _ _ _ _ _ h hx0
def F_XPicture_drawPiece (sh : zSh) (mm : zMem) (o : Nat) (x0_ : Nat) : Option zMem := zoS (sh o) 5 (fun le2 => zoS (sh o) 5 (fun le4 => Option.bind (mm.2.2 o 11) (fun a5 => zoS (sh a5) 6 (fun le7 => Option.bind (F_XPiece_firstPixel sh mm a5 0) (fun p8 => zoL (zx_max (mm.1 o 14) (p8.1)) (fun x10 => zoS (sh o) 5 (fun le12 => zoS (sh o) 5 (fun le14 => Option.bind ((p8.2).2.2 o 11) (fun a15 => zoS (sh a15) 6 (fun le17 => Option.bind (F_XPiece_lastPixel sh (p8.2) a15 0) (fun p18 => zoL (zx_min ((p8.2).1 o 16) (p18.1)) (fun x20 => zoS (sh o) 5 (fun le22 => zoS (sh o) 5 (fun le24 => Option.bind ((p18.2).2.2 o 11) (fun a25 => zoS (sh a25) 6 (fun le27 => Option.bind (F_XPiece_firstPixel sh (p18.2) a25 1) (fun p28 => zoL (zx_max ((p18.2).1 o 15) (p28.1)) (fun x30 => zoS (sh o) 5 (fun le32 => zoS (sh o) 5 (fun le34 => Option.bind ((p28.2).2.2 o 11) (fun a35 => zoS (sh a35) 6 (fun le37 => Option.bind (F_XPiece_lastPixel sh (p28.2) a35 1) (fun p38 => zoL (zx_min ((p28.2).1 o 17) (p38.1)) (fun x40 => (if x20 < x10 then some (p38.2) else (if x30 ≤ x40 then zoS (sh x0_) 100 (fun le44 => if (4 : Int32) < 0 ∨ le44 ≤ (4 : Int32).toNatClampNeg then none else (if 0 ≤ ((p38.2).1 x0_ (4 : Int32).toNatClampNeg) then zoS (sh o) 5 (fun le48 => Option.bind ((p38.2).2.2 o 3) (fun a49 => zoS (sh a49) 8 (fun le51 => Option.bind ((p38.2).2.2 a49 1) (fun a52 => zoS (sh x0_) 100 (fun le54 => if (4 : Int32) < 0 ∨ le54 ≤ (4 : Int32).toNatClampNeg then none else zoL ((p38.2).1 x0_ (4 : Int32).toNatClampNeg) (fun i56 => zoR (sh a52) (fun t60 le58 => if (i56 : Int32) < 0 ∨ le58 ≤ (i56 : Int32).toNatClampNeg then none else Option.bind ((p38.2).2.2 a52 (i56 : Int32).toNatClampNeg) (fun a61 => zoS (sh o) 5 (fun le63 => Option.bind ((p38.2).2.2 o 11) (fun a64 => zoS (sh a64) 6 (fun le66 => Option.bind (F_XPiece_spread sh (p38.2) a64) (fun p67 => zoS (sh o) 5 (fun le69 => Option.bind ((p67.2).2.2 o 11) (fun a70 => zoS (sh a70) 6 (fun le72 => zoS (sh a61) 10 (fun le74 => Option.bind (F_XTexture_levelFor sh (p67.2) a61 (p67.1) ((p67.2).2.1 a70 0)) (fun p75 => Option.bind (L_XPicture_drawPiece_136 sh zfuel o x0_ x10 x20 x40 a61 (p75.1) x30 (p75.2)) (fun q120 => some (q120.2.2.2.2.2.2.2.2))))))))))))))))))) else Option.bind (L_XPicture_drawPiece_136N sh zfuel o x0_ x10 x20 x40 0 x30 (p38.2)) (fun q150 => some (q150.2.2.2.2.2.2.2)))) else some (p38.2)))))))))))))))))))))))))))
set_option maxHeartbeats 4000000 in
set_option maxRecDepth 100000 in
theorem k_XPicture_drawPiece (l : Launch) (D : va_G) (tA : Nat → ClassId) (b : Nat) (sh : zSh) (n : Nat) {mm : zMem} {o : Nat} {x0_ : Nat} {r : zMem} (h : F_XPicture_drawPiece sh mm o x0_ = some r) : zM l D tA b zy_XPicture_drawPiece zb_XPicture_drawPiece 12 none 4 116 0 0 [.ref (b + o), .ref (b + x0_)] (zW tA b sh mm) n (zE none (zW tA b sh r) n) := by
  unfold F_XPicture_drawPiece at h
  refine zM_of (own := "OrreryBox$Picture") (plainFor_of_name (by decide)) rfl (Nat.le_of_ble_eq_true rfl) (fun p e s m below meth c F hr hin hH => ?_)
  refine zr_aload_n F zd_XPicture_drawPiece_0 rfl ?_
  obtain ⟨le2, hs1, h⟩ := zoS_s h
  refine zr_get F 5 14 zd_XPicture_drawPiece_1 (zW_o hs1 (by decide)) rfl (by decide) zw_447 rfl (by rfl) ?_
  refine zr_aload_n F zd_XPicture_drawPiece_4 rfl ?_
  obtain ⟨le4, hs3, h⟩ := zoS_s h
  obtain ⟨a5, ea5, h⟩ := zoB_s h
  refine zr_get F 5 11 zd_XPicture_drawPiece_5 (zW_o hs3 (by decide)) rfl (by decide) zw_444 rfl (by rfl) ?_
  refine zr_tor ea5 ?_
  refine zr_iconstv (v := 0) F zd_XPicture_drawPiece_8 (by decide) ?_
  obtain ⟨le7, hs6, h⟩ := zoS_s h
  obtain ⟨p8, ep8, h⟩ := zoB_s h
  refine zr_callV1 F (k_XPiece_firstPixel l D tA b sh _ ep8) zd_XPicture_drawPiece_9 (zW_o hs6 (by decide)) rfl zs_XPicture_103 rfl zq_XPiece_firstPixel rfl rfl ⟨(Nat.le_of_ble_eq_true rfl), (Nat.le_of_ble_eq_true rfl)⟩ (Nat.le_of_ble_eq_true rfl) ⟨(Nat.le_of_ble_eq_true rfl), (Nat.le_of_ble_eq_true rfl)⟩ ?_
  refine zr_callS1 F (c_JMath_max l D tA b _ _ (mm.1 o 14) (p8.1)) zd_XPicture_drawPiece_12 zs_XPicture_107 zq_JMath_max rfl rfl ⟨(Nat.le_of_ble_eq_true rfl), (Nat.le_of_ble_eq_true rfl)⟩ (Nat.le_of_ble_eq_true rfl) ⟨(Nat.le_of_ble_eq_true rfl), (Nat.le_of_ble_eq_true rfl)⟩ ?_
  refine zr_pcn 15 rfl ?_
  obtain ⟨x10, ex10, h⟩ := zoL_s h
  rw [← ex10]
  refine zr_istore_n F zd_XPicture_drawPiece_15 (by decide) ?_
  refine zr_aload_n F zd_XPicture_drawPiece_16 rfl ?_
  obtain ⟨le12, hs11, h⟩ := zoS_s h
  refine zr_get F 5 16 zd_XPicture_drawPiece_17 (zW_o hs11 (by decide)) rfl (by decide) zw_449 rfl (by rfl) ?_
  refine zr_aload_n F zd_XPicture_drawPiece_20 rfl ?_
  obtain ⟨le14, hs13, h⟩ := zoS_s h
  obtain ⟨a15, ea15, h⟩ := zoB_s h
  refine zr_get F 5 11 zd_XPicture_drawPiece_21 (zW_o hs13 (by decide)) rfl (by decide) zw_444 rfl (by rfl) ?_
  refine zr_tor ea15 ?_
  refine zr_iconstv (v := 0) F zd_XPicture_drawPiece_24 (by decide) ?_
  obtain ⟨le17, hs16, h⟩ := zoS_s h
  obtain ⟨p18, ep18, h⟩ := zoB_s h
  refine zr_callV1 F (k_XPiece_lastPixel l D tA b sh _ ep18) zd_XPicture_drawPiece_25 (zW_o hs16 (by decide)) rfl zs_XPicture_110 rfl zq_XPiece_lastPixel rfl rfl ⟨(Nat.le_of_ble_eq_true rfl), (Nat.le_of_ble_eq_true rfl)⟩ (Nat.le_of_ble_eq_true rfl) ⟨(Nat.le_of_ble_eq_true rfl), (Nat.le_of_ble_eq_true rfl)⟩ ?_
  refine zr_callS1 F (c_JMath_min l D tA b _ _ ((p8.2).1 o 16) (p18.1)) zd_XPicture_drawPiece_28 zs_XPicture_75 zq_JMath_min rfl rfl ⟨(Nat.le_of_ble_eq_true rfl), (Nat.le_of_ble_eq_true rfl)⟩ (Nat.le_of_ble_eq_true rfl) ⟨(Nat.le_of_ble_eq_true rfl), (Nat.le_of_ble_eq_true rfl)⟩ ?_
  refine zr_pcn 31 rfl ?_
  obtain ⟨x20, ex20, h⟩ := zoL_s h
  rw [← ex20]
  refine zr_istore_n F zd_XPicture_drawPiece_31 (by decide) ?_
  refine zr_aload_n F zd_XPicture_drawPiece_32 rfl ?_
  obtain ⟨le22, hs21, h⟩ := zoS_s h
  refine zr_get F 5 15 zd_XPicture_drawPiece_33 (zW_o hs21 (by decide)) rfl (by decide) zw_448 rfl (by rfl) ?_
  refine zr_aload_n F zd_XPicture_drawPiece_36 rfl ?_
  obtain ⟨le24, hs23, h⟩ := zoS_s h
  obtain ⟨a25, ea25, h⟩ := zoB_s h
  refine zr_get F 5 11 zd_XPicture_drawPiece_37 (zW_o hs23 (by decide)) rfl (by decide) zw_444 rfl (by rfl) ?_
  refine zr_tor ea25 ?_
  refine zr_iconstv (v := 1) F zd_XPicture_drawPiece_40 (by decide) ?_
  obtain ⟨le27, hs26, h⟩ := zoS_s h
  obtain ⟨p28, ep28, h⟩ := zoB_s h
  refine zr_callV1 F (k_XPiece_firstPixel l D tA b sh _ ep28) zd_XPicture_drawPiece_41 (zW_o hs26 (by decide)) rfl zs_XPicture_103 rfl zq_XPiece_firstPixel rfl rfl ⟨(Nat.le_of_ble_eq_true rfl), (Nat.le_of_ble_eq_true rfl)⟩ (Nat.le_of_ble_eq_true rfl) ⟨(Nat.le_of_ble_eq_true rfl), (Nat.le_of_ble_eq_true rfl)⟩ ?_
  refine zr_callS1 F (c_JMath_max l D tA b _ _ ((p18.2).1 o 15) (p28.1)) zd_XPicture_drawPiece_44 zs_XPicture_107 zq_JMath_max rfl rfl ⟨(Nat.le_of_ble_eq_true rfl), (Nat.le_of_ble_eq_true rfl)⟩ (Nat.le_of_ble_eq_true rfl) ⟨(Nat.le_of_ble_eq_true rfl), (Nat.le_of_ble_eq_true rfl)⟩ ?_
  refine zr_pcn 47 rfl ?_
  obtain ⟨x30, ex30, h⟩ := zoL_s h
  rw [← ex30]
  refine zr_istore F zd_XPicture_drawPiece_47 (by decide) ?_
  refine zr_aload_n F zd_XPicture_drawPiece_49 rfl ?_
  obtain ⟨le32, hs31, h⟩ := zoS_s h
  refine zr_get F 5 17 zd_XPicture_drawPiece_50 (zW_o hs31 (by decide)) rfl (by decide) zw_450 rfl (by rfl) ?_
  refine zr_aload_n F zd_XPicture_drawPiece_53 rfl ?_
  obtain ⟨le34, hs33, h⟩ := zoS_s h
  obtain ⟨a35, ea35, h⟩ := zoB_s h
  refine zr_get F 5 11 zd_XPicture_drawPiece_54 (zW_o hs33 (by decide)) rfl (by decide) zw_444 rfl (by rfl) ?_
  refine zr_tor ea35 ?_
  refine zr_iconstv (v := 1) F zd_XPicture_drawPiece_57 (by decide) ?_
  obtain ⟨le37, hs36, h⟩ := zoS_s h
  obtain ⟨p38, ep38, h⟩ := zoB_s h
  refine zr_callV1 F (k_XPiece_lastPixel l D tA b sh _ ep38) zd_XPicture_drawPiece_58 (zW_o hs36 (by decide)) rfl zs_XPicture_110 rfl zq_XPiece_lastPixel rfl rfl ⟨(Nat.le_of_ble_eq_true rfl), (Nat.le_of_ble_eq_true rfl)⟩ (Nat.le_of_ble_eq_true rfl) ⟨(Nat.le_of_ble_eq_true rfl), (Nat.le_of_ble_eq_true rfl)⟩ ?_
  refine zr_callS1 F (c_JMath_min l D tA b _ _ ((p28.2).1 o 17) (p38.1)) zd_XPicture_drawPiece_61 zs_XPicture_75 zq_JMath_min rfl rfl ⟨(Nat.le_of_ble_eq_true rfl), (Nat.le_of_ble_eq_true rfl)⟩ (Nat.le_of_ble_eq_true rfl) ⟨(Nat.le_of_ble_eq_true rfl), (Nat.le_of_ble_eq_true rfl)⟩ ?_
  refine zr_pcn 64 rfl ?_
  obtain ⟨x40, ex40, h⟩ := zoL_s h
  rw [← ex40]
  refine zr_istore F zd_XPicture_drawPiece_64 (by decide) ?_
  refine zr_iload_n F zd_XPicture_drawPiece_66 rfl ?_
  refine zr_iload_n F zd_XPicture_drawPiece_67 rfl ?_
  refine zr_icmp_gt F 78 zd_XPicture_drawPiece_68 (by decide) (fun hb41 => ?_) (fun hb41 => ?_)
  ·
    rw [if_pos hb41] at h
    obtain rfl := Option.some.inj h
    exact zr_vret F hr zd_XPicture_drawPiece_78 (Nat.le_of_ble_eq_true rfl) (Nat.le_of_ble_eq_true rfl) ⟨rfl, rfl, rfl⟩
  ·
    rw [if_neg hb41] at h
    refine zr_iload F zd_XPicture_drawPiece_71 rfl ?_
    refine zr_iload F zd_XPicture_drawPiece_73 rfl ?_
    refine zr_icmp_le F 79 zd_XPicture_drawPiece_75 (by decide) (fun hb42 => ?_) (fun hb42 => ?_)
    ·
      rw [if_pos hb42] at h
      refine zr_pcn 79 rfl ?_
      refine zr_aload_n F zd_XPicture_drawPiece_79 rfl ?_
      refine zr_iconstv (v := 4) F zd_XPicture_drawPiece_80 (by decide) ?_
      obtain ⟨le44, hs43, h⟩ := zoS_s h
      obtain ⟨hi45, h⟩ := zoI_s h
      refine zr_iald F zd_XPicture_drawPiece_81 (zW_a0 hs43) hi45 ?_
      refine zr_if_ge F 89 zd_XPicture_drawPiece_82 (by decide) (fun hb46 => ?_) (fun hb46 => ?_)
      ·
        rw [if_pos hb46] at h
        refine zr_aload_n F zd_XPicture_drawPiece_89 rfl ?_
        obtain ⟨le48, hs47, h⟩ := zoS_s h
        obtain ⟨a49, ea49, h⟩ := zoB_s h
        refine zr_get F 5 3 zd_XPicture_drawPiece_90 (zW_o hs47 (by decide)) rfl (by decide) zw_435 rfl (by rfl) ?_
        refine zr_tor ea49 ?_
        obtain ⟨le51, hs50, h⟩ := zoS_s h
        obtain ⟨a52, ea52, h⟩ := zoB_s h
        refine zr_get F 8 1 zd_XPicture_drawPiece_93 (zW_o hs50 (by decide)) rfl (by decide) zw_287 rfl (by rfl) ?_
        refine zr_tor ea52 ?_
        refine zr_aload_n F zd_XPicture_drawPiece_96 rfl ?_
        refine zr_pcn 97 rfl ?_
        refine zr_iconstv (v := 4) F zd_XPicture_drawPiece_97 (by decide) ?_
        obtain ⟨le54, hs53, h⟩ := zoS_s h
        obtain ⟨hi55, h⟩ := zoI_s h
        refine zr_iald F zd_XPicture_drawPiece_98 (zW_a0 hs53) hi55 ?_
        obtain ⟨i56, ei56, h⟩ := zoL_s h
        rw [← ei56]
        obtain ⟨t60, le58, hs57, h⟩ := zoR_s h
        obtain ⟨hi59, h⟩ := zoI_s h
        obtain ⟨a61, ea61, h⟩ := zoB_s h
        refine zr_aaldW F zd_XPicture_drawPiece_99 hs57 hi59 ea61 ?_
        refine zr_astore F zd_XPicture_drawPiece_100 (by decide) ?_
        refine zr_aload F zd_XPicture_drawPiece_102 rfl ?_
        refine zr_ifnonnull F 111 zd_XPicture_drawPiece_104 (by decide) ?_
        refine zr_aload F zd_XPicture_drawPiece_111 rfl ?_
        refine zr_aload_n F zd_XPicture_drawPiece_113 rfl ?_
        refine zr_pcn 114 rfl ?_
        obtain ⟨le63, hs62, h⟩ := zoS_s h
        obtain ⟨a64, ea64, h⟩ := zoB_s h
        refine zr_get F 5 11 zd_XPicture_drawPiece_114 (zW_o hs62 (by decide)) rfl (by decide) zw_444 rfl (by rfl) ?_
        refine zr_tor ea64 ?_
        obtain ⟨le66, hs65, h⟩ := zoS_s h
        obtain ⟨p67, ep67, h⟩ := zoB_s h
        refine zr_callV1 F (k_XPiece_spread l D tA b sh _ ep67) zd_XPicture_drawPiece_117 (zW_o hs65 (by decide)) rfl zs_XPicture_117 rfl zq_XPiece_spread rfl rfl ⟨(Nat.le_of_ble_eq_true rfl), (Nat.le_of_ble_eq_true rfl)⟩ (Nat.le_of_ble_eq_true rfl) ⟨(Nat.le_of_ble_eq_true rfl), (Nat.le_of_ble_eq_true rfl)⟩ ?_
        refine zr_aload_n F zd_XPicture_drawPiece_120 rfl ?_
        obtain ⟨le69, hs68, h⟩ := zoS_s h
        obtain ⟨a70, ea70, h⟩ := zoB_s h
        refine zr_get F 5 11 zd_XPicture_drawPiece_121 (zW_o hs68 (by decide)) rfl (by decide) zw_444 rfl (by rfl) ?_
        refine zr_tor ea70 ?_
        obtain ⟨le72, hs71, h⟩ := zoS_s h
        refine zr_get F 6 0 zd_XPicture_drawPiece_124 (zW_o hs71 (by decide)) rfl (by decide) zw_350 rfl (by rfl) ?_
        obtain ⟨le74, hs73, h⟩ := zoS_s h
        obtain ⟨p75, ep75, h⟩ := zoB_s h
        refine zr_callV1 F (k_XTexture_levelFor l D tA b sh _ ep75) zd_XPicture_drawPiece_127 (zW_o hs73 (by decide)) rfl zs_XPicture_124 rfl zq_XTexture_levelFor rfl rfl ⟨(Nat.le_of_ble_eq_true rfl), (Nat.le_of_ble_eq_true rfl)⟩ (Nat.le_of_ble_eq_true rfl) ⟨(Nat.le_of_ble_eq_true rfl), (Nat.le_of_ble_eq_true rfl)⟩ ?_
        refine zr_istore F zd_XPicture_drawPiece_130 (by decide) ?_
        refine zr_iload F zd_XPicture_drawPiece_132 rfl ?_
        refine zr_pcn 134 rfl ?_
        refine zr_istore F zd_XPicture_drawPiece_134 (by decide) ?_
        obtain ⟨q120, eq120, h⟩ := zoB_s h
        refine zr_loc (L' := [(0, .ref (b + o)), (1, .ref (b + x0_)), (2, .int x10), (3, .int x20), (5, .int x40), (6, .ref (b + a61)), (7, .int (p75.1)), (8, .int x30)]) ⟨rfl, rfl, rfl, rfl, rfl, rfl, rfl, rfl, trivial⟩ ?_
        refine lp_XPicture_drawPiece_136 F _ _ _ _ _ _ _ _ _ _ _ eq120 ?_
        ·
          obtain rfl := Option.some.inj h
          exact zr_vret F hr zd_XPicture_drawPiece_252 (Nat.le_of_ble_eq_true rfl) (Nat.le_of_ble_eq_true rfl) ⟨rfl, rfl, rfl⟩
      ·
        rw [if_neg hb46] at h
        refine zr_null F zd_XPicture_drawPiece_85 ?_
        refine zr_goto F 100 zd_XPicture_drawPiece_86 (by decide) ?_
        refine zr_pcn 100 rfl ?_
        refine zr_astoreN F zd_XPicture_drawPiece_100 (by decide) ?_
        refine zr_aloadN F zd_XPicture_drawPiece_102 rfl ?_
        refine zr_ifnonnullN F zd_XPicture_drawPiece_104 ?_
        refine zr_iconstv (v := 0) F zd_XPicture_drawPiece_107 (by decide) ?_
        refine zr_goto F 130 zd_XPicture_drawPiece_108 (by decide) ?_
        refine zr_istore F zd_XPicture_drawPiece_130 (by decide) ?_
        refine zr_iload F zd_XPicture_drawPiece_132 rfl ?_
        refine zr_istore F zd_XPicture_drawPiece_134 (by decide) ?_
        obtain ⟨q150, eq150, h⟩ := zoB_s h
        refine zr_loc (L' := [(0, .ref (b + o)), (1, .ref (b + x0_)), (2, .int x10), (3, .int x20), (5, .int x40), (7, .int 0), (8, .int x30)]) ⟨rfl, rfl, rfl, rfl, rfl, rfl, rfl, trivial⟩ ?_
        refine lp_XPicture_drawPiece_136N F _ _ _ _ _ _ _ _ _ _ eq150 ?_
        ·
          refine zr_pcn 252 rfl ?_
          obtain rfl := Option.some.inj h
          exact zr_vret F hr zd_XPicture_drawPiece_252 (Nat.le_of_ble_eq_true rfl) (Nat.le_of_ble_eq_true rfl) ⟨rfl, rfl, rfl⟩
    ·
      rw [if_neg hb42] at h
      obtain rfl := Option.some.inj h
      exact zr_vret F hr zd_XPicture_drawPiece_78 (Nat.le_of_ble_eq_true rfl) (Nat.le_of_ble_eq_true rfl) ⟨rfl, rfl, rfl⟩
theorem zw_291 : (Jvm.Cond.fieldLink "OrreryBox$Sight" (143 : Nat) "OrreryBox$Scene" "materials" "[[I") ∈ gw := gw_t 291 (by decide +kernel) rfl
theorem zw_746 : (Jvm.Cond.methodLink "OrreryBox$Sight" (146 : Nat) ({ cls := "OrreryBox$Sight", name := "materialNumber", desc := "()I" } : Jvm.MethodName)) ∈ gw := gw_t 746 (by decide +kernel) rfl
theorem zw_747 : (Jvm.Cond.instanceMethod ({ cls := "OrreryBox$Sight", name := "materialNumber", desc := "()I" } : Jvm.MethodName)) ∈ gw := gw_t 747 (by decide +kernel) rfl
theorem zw_748 : (Jvm.Cond.selects "OrreryBox$Sight" ({ cls := "OrreryBox$Sight", name := "materialNumber", desc := "()I" } : Jvm.MethodName) ({ cls := "OrreryBox$Sight", name := "materialNumber", desc := "()I" } : Jvm.MethodName)) ∈ gw := gw_t 748 (by decide +kernel) rfl
theorem zs_XSight_146 : zwV "OrreryBox$Sight" 146 "OrreryBox$Sight" zy_XSight_materialNumber zb_XSight_materialNumber 1 (some .int) := ⟨zw_746, zw_747, zw_748, zw_10, zc_XSight_materialNumber⟩
theorem zw_750 : (Jvm.Cond.methodLink "OrreryBox$Sight" (150 : Nat) ({ cls := "OrreryBox$Piece", name := "take", desc := "([IIZ)Z" } : Jvm.MethodName)) ∈ gw := gw_t 750 (by decide +kernel) rfl
theorem zw_751 : (Jvm.Cond.instanceMethod ({ cls := "OrreryBox$Piece", name := "take", desc := "([IIZ)Z" } : Jvm.MethodName)) ∈ gw := gw_t 751 (by decide +kernel) rfl
theorem zw_752 : (Jvm.Cond.selects "OrreryBox$Piece" ({ cls := "OrreryBox$Piece", name := "take", desc := "([IIZ)Z" } : Jvm.MethodName) ({ cls := "OrreryBox$Piece", name := "take", desc := "([IIZ)Z" } : Jvm.MethodName)) ∈ gw := gw_t 752 (by decide +kernel) rfl
theorem zs_XSight_150 : zwV "OrreryBox$Sight" 150 "OrreryBox$Piece" zy_XPiece_take zb_XPiece_take 4 (some .boolean) := ⟨zw_750, zw_751, zw_752, zw_11, zc_XPiece_take⟩
def L_XSight_nextPiece_2 (sh : zSh) (fuel : Nat) (v0 : Nat) (v1 : Int32) (mm : zMem) : Option (Nat × Int32 × Nat × Int32 × zMem) := match fuel with
  | 0 => none
  | fu + 1 => (if 147456 ≤ v1 then some (1, (0 : Int32), v0, v1, mm) else zoS (sh v0) 9 (fun le3 => zoL ((mm.1 v0 4) + 1) (fun x4 => zoS (sh v0) 9 (fun le6 => zoL (mI mm v0 4 x4) (fun mm7 => zoS (sh v0) 9 (fun le9 => zoS (sh v0) 9 (fun le11 => (if ((mm7.1 v0 4) + 1) < (mm7.1 v0 3) then zoS (sh v0) 9 (fun le14 => Option.bind (mm7.2.2 v0 0) (fun a15 => zoS (sh v0) 9 (fun le17 => Option.bind (mm7.2.2 v0 2) (fun a18 => zoS (sh v0) 9 (fun le20 => zoS (sh v0) 9 (fun le22 => Option.bind (mm7.2.2 v0 7) (fun a23 => zoS (sh a23) 8 (fun le25 => Option.bind (mm7.2.2 a23 2) (fun a26 => zoS (sh v0) 9 (fun le28 => Option.bind (F_XSight_materialNumber sh mm7 v0) (fun p29 => zoR (sh a26) (fun t33 le31 => if (p29.1 : Int32) < 0 ∨ le31 ≤ (p29.1 : Int32).toNatClampNeg then none else Option.bind ((p29.2).2.2 a26 (p29.1 : Int32).toNatClampNeg) (fun a34 => zoS (sh a34) 100 (fun le36 => if (5 : Int32) < 0 ∨ le36 ≤ (5 : Int32).toNatClampNeg then none else (if ((p29.2).1 a34 (5 : Int32).toNatClampNeg) = 1 then zoS (sh a15) 6 (fun le44 => Option.bind (F_XPiece_take sh (p29.2) a15 a18 (mm7.1 v0 4) 1) (fun p45 => (if p45.1 = 0 then L_XSight_nextPiece_2 sh fu v0 (v1 + 1) (p45.2) else some (0, 1, (0 : Nat), (0 : Int32), p45.2)))) else zoS (sh a15) 6 (fun le40 => Option.bind (F_XPiece_take sh (p29.2) a15 a18 (mm7.1 v0 4) 0) (fun p41 => (if p41.1 = 0 then L_XSight_nextPiece_2 sh fu v0 (v1 + 1) (p41.2) else some (0, 1, (0 : Nat), (0 : Int32), p41.2))))))))))))))))))) else zoS (sh v0) 9 (fun le48 => Option.bind (F_XSight_nextFace sh mm7 v0) (fun p49 => (if p49.1 = 0 then some (0, 0, (0 : Nat), (0 : Int32), p49.2) else zoS (sh v0) 9 (fun le52 => zoL (mI (p49.2) v0 4 1) (fun mm53 => zoS (sh v0) 9 (fun le55 => Option.bind (mm53.2.2 v0 0) (fun a56 => zoS (sh v0) 9 (fun le58 => Option.bind (mm53.2.2 v0 2) (fun a59 => zoS (sh v0) 9 (fun le61 => zoS (sh v0) 9 (fun le63 => Option.bind (mm53.2.2 v0 7) (fun a64 => zoS (sh a64) 8 (fun le66 => Option.bind (mm53.2.2 a64 2) (fun a67 => zoS (sh v0) 9 (fun le69 => Option.bind (F_XSight_materialNumber sh mm53 v0) (fun p70 => zoR (sh a67) (fun t74 le72 => if (p70.1 : Int32) < 0 ∨ le72 ≤ (p70.1 : Int32).toNatClampNeg then none else Option.bind ((p70.2).2.2 a67 (p70.1 : Int32).toNatClampNeg) (fun a75 => zoS (sh a75) 100 (fun le77 => if (5 : Int32) < 0 ∨ le77 ≤ (5 : Int32).toNatClampNeg then none else (if ((p70.2).1 a75 (5 : Int32).toNatClampNeg) = 1 then zoS (sh a56) 6 (fun le85 => Option.bind (F_XPiece_take sh (p70.2) a56 a59 (mm53.1 v0 4) 1) (fun p86 => (if p86.1 = 0 then L_XSight_nextPiece_2 sh fu v0 (v1 + 1) (p86.2) else some (0, 1, (0 : Nat), (0 : Int32), p86.2)))) else zoS (sh a56) 6 (fun le81 => Option.bind (F_XPiece_take sh (p70.2) a56 a59 (mm53.1 v0 4) 0) (fun p82 => (if p82.1 = 0 then L_XSight_nextPiece_2 sh fu v0 (v1 + 1) (p82.2) else some (0, 1, (0 : Nat), (0 : Int32), p82.2))))))))))))))))))))))))))))))))
set_option maxHeartbeats 4000000 in
set_option maxRecDepth 100000 in
theorem lp_XSight_nextPiece_2 {p : Program} {l : Launch} {e : Env} {s : State} {m : MethodId} {args : Array Value} {below : List Frame} {meth : Method} {c : Code} {D : va_G} {tA : Nat → ClassId} {b n : Nat} {post : Option Value → zV → Nat → Prop} {sh : zSh} (F : zF p s m args meth c zb_XSight_nextPiece 2 "OrreryBox$Sight" D tA b) (hr : meth.sig.returnType = (some .boolean)) : ∀ (fuel : Nat) (v0 : Nat) (v1 : Int32) (mm : zMem) (r : Nat × Int32 × Nat × Int32 × zMem), L_XSight_nextPiece_2 sh fuel v0 v1 mm = some r → (r.1 = 1 → Z p l e { frames := 5, cells := 0, slots := 0, locals := 134 } s m args below meth c D b 2 (MQ below (zQ D b post) args s 0 0 (fun q => b ≤ q)) (zW tA b sh r.2.2.2.2) n 0 0 94 [(0, .ref (b + (r.2.2.1))), (1, .int (r.2.2.2.1))] []) → (r.1 = 0 → post (some (.int r.2.1)) (zW tA b sh r.2.2.2.2) n) → Z p l e { frames := 5, cells := 0, slots := 0, locals := 134 } s m args below meth c D b 2 (MQ below (zQ D b post) args s 0 0 (fun q => b ≤ q)) (zW tA b sh mm) n 0 0 2 [(0, .ref (b + v0)), (1, .int v1)] [] := by
  intro fuel
  induction fuel with
  | zero =>
    intro v0 v1 mm r h
    cases h
  | succ fu ih =>
    intro v0 v1 mm r h hx0 hp
    rw [L_XSight_nextPiece_2] at h
    refine zr_iload_n F zd_XSight_nextPiece_2 rfl ?_
    refine zr_ldc F zd_XSight_nextPiece_3 zw_701 ?_
    refine zr_icmp_ge F 94 zd_XSight_nextPiece_5 (by decide) (fun hb1 => ?_) (fun hb1 => ?_)
    ·
      rw [if_pos hb1] at h
      obtain rfl := Option.some.inj h
      refine zr_loc (L' := [(0, .ref (b + v0)), (1, .int v1)]) ⟨rfl, rfl, trivial⟩ ?_
      exact hx0 rfl
    ·
      rw [if_neg hb1] at h
      refine zr_aload_n F zd_XSight_nextPiece_8 rfl ?_
      refine zr_dup F zd_XSight_nextPiece_9 rfl ?_
      refine zr_pcn 10 rfl ?_
      obtain ⟨le3, hs2, h⟩ := zoS_s h
      refine zr_get F 9 4 zd_XSight_nextPiece_10 (zW_o hs2 (by decide)) rfl (by decide) zw_377 rfl (by rfl) ?_
      refine zr_iconstv (v := 1) F zd_XSight_nextPiece_13 (by decide) ?_
      refine zr_iadd F zd_XSight_nextPiece_14 ?_
      obtain ⟨x4, ex4, h⟩ := zoL_s h
      rw [← ex4]
      obtain ⟨le6, hs5, h⟩ := zoS_s h
      refine zr_put F 9 4 zd_XSight_nextPiece_15 (zW_o hs5 (by decide)) rfl (by decide) zw_377 rfl rfl rfl rfl (by exact (Nat.le_of_ble_eq_true rfl)) ?_
      obtain ⟨mm7, emm7, h⟩ := zoL_s h
      refine zr_norm (zW tA b sh mm7) _ (by rw [emm7]; exact zW_pI (v := x4) hs5 (by decide) (zf_I_9_4 b _ _ _)) rfl ?_
      refine zr_aload_n F zd_XSight_nextPiece_18 rfl ?_
      obtain ⟨le9, hs8, h⟩ := zoS_s h
      refine zr_get F 9 4 zd_XSight_nextPiece_19 (zW_o hs8 (by decide)) rfl (by decide) zw_377 rfl (by rfl) ?_
      refine zr_iconstv (v := 1) F zd_XSight_nextPiece_22 (by decide) ?_
      refine zr_iadd F zd_XSight_nextPiece_23 ?_
      refine zr_pcn 24 rfl ?_
      refine zr_aload_n F zd_XSight_nextPiece_24 rfl ?_
      obtain ⟨le11, hs10, h⟩ := zoS_s h
      refine zr_get F 9 3 zd_XSight_nextPiece_25 (zW_o hs10 (by decide)) rfl (by decide) zw_376 rfl (by rfl) ?_
      refine zr_icmp_lt F 45 zd_XSight_nextPiece_28 (by decide) (fun hb12 => ?_) (fun hb12 => ?_)
      ·
        rw [if_pos hb12] at h
        refine zr_aload_n F zd_XSight_nextPiece_45 rfl ?_
        obtain ⟨le14, hs13, h⟩ := zoS_s h
        obtain ⟨a15, ea15, h⟩ := zoB_s h
        refine zr_get F 9 0 zd_XSight_nextPiece_46 (zW_o hs13 (by decide)) rfl (by decide) zw_371 rfl (by rfl) ?_
        refine zr_tor ea15 ?_
        refine zr_aload_n F zd_XSight_nextPiece_49 rfl ?_
        obtain ⟨le17, hs16, h⟩ := zoS_s h
        obtain ⟨a18, ea18, h⟩ := zoB_s h
        refine zr_get F 9 2 zd_XSight_nextPiece_50 (zW_o hs16 (by decide)) rfl (by decide) zw_375 rfl (by rfl) ?_
        refine zr_tor ea18 ?_
        refine zr_aload_n F zd_XSight_nextPiece_53 rfl ?_
        refine zr_pcn 54 rfl ?_
        obtain ⟨le20, hs19, h⟩ := zoS_s h
        refine zr_get F 9 4 zd_XSight_nextPiece_54 (zW_o hs19 (by decide)) rfl (by decide) zw_377 rfl (by rfl) ?_
        refine zr_aload_n F zd_XSight_nextPiece_57 rfl ?_
        obtain ⟨le22, hs21, h⟩ := zoS_s h
        obtain ⟨a23, ea23, h⟩ := zoB_s h
        refine zr_get F 9 7 zd_XSight_nextPiece_58 (zW_o hs21 (by decide)) rfl (by decide) zw_380 rfl (by rfl) ?_
        refine zr_tor ea23 ?_
        obtain ⟨le25, hs24, h⟩ := zoS_s h
        obtain ⟨a26, ea26, h⟩ := zoB_s h
        refine zr_get F 8 2 zd_XSight_nextPiece_61 (zW_o hs24 (by decide)) rfl (by decide) zw_291 rfl (by rfl) ?_
        refine zr_tor ea26 ?_
        refine zr_aload_n F zd_XSight_nextPiece_64 rfl ?_
        obtain ⟨le28, hs27, h⟩ := zoS_s h
        obtain ⟨p29, ep29, h⟩ := zoB_s h
        refine zr_callV1 F (k_XSight_materialNumber l D tA b sh _ ep29) zd_XSight_nextPiece_65 (zW_o hs27 (by decide)) rfl zs_XSight_146 rfl zq_XSight_materialNumber rfl rfl ⟨(Nat.le_of_ble_eq_true rfl), (Nat.le_of_ble_eq_true rfl)⟩ (Nat.le_of_ble_eq_true rfl) ⟨(Nat.le_of_ble_eq_true rfl), (Nat.le_of_ble_eq_true rfl)⟩ ?_
        obtain ⟨t33, le31, hs30, h⟩ := zoR_s h
        obtain ⟨hi32, h⟩ := zoI_s h
        obtain ⟨a34, ea34, h⟩ := zoB_s h
        refine zr_aaldW F zd_XSight_nextPiece_68 hs30 hi32 ea34 ?_
        refine zr_iconstv (v := 5) F zd_XSight_nextPiece_69 (by decide) ?_
        refine zr_pcn 70 rfl ?_
        obtain ⟨le36, hs35, h⟩ := zoS_s h
        obtain ⟨hi37, h⟩ := zoI_s h
        refine zr_iald F zd_XSight_nextPiece_70 (zW_a0 hs35) hi37 ?_
        refine zr_iconstv (v := 1) F zd_XSight_nextPiece_71 (by decide) ?_
        refine zr_icmp_ne F 79 zd_XSight_nextPiece_72 (by decide) (fun hb38 => ?_) (fun hb38 => ?_)
        ·
          rw [if_neg hb38] at h
          refine zr_iconstv (v := 0) F zd_XSight_nextPiece_79 (by decide) ?_
          obtain ⟨le40, hs39, h⟩ := zoS_s h
          obtain ⟨p41, ep41, h⟩ := zoB_s h
          refine zr_callV1 F (k_XPiece_take l D tA b sh _ ep41) zd_XSight_nextPiece_80 (zW_o hs39 (by decide)) rfl zs_XSight_150 rfl zq_XPiece_take rfl rfl ⟨(Nat.le_of_ble_eq_true rfl), (Nat.le_of_ble_eq_true rfl)⟩ (Nat.le_of_ble_eq_true rfl) ⟨(Nat.le_of_ble_eq_true rfl), (Nat.le_of_ble_eq_true rfl)⟩ ?_
          refine zr_if_eq F 88 zd_XSight_nextPiece_83 (by decide) (fun hb42 => ?_) (fun hb42 => ?_)
          ·
            rw [if_pos hb42] at h
            refine zr_iinc (v := (v1 + 1)) F zd_XSight_nextPiece_88 rfl rfl (by decide) ?_
            refine zr_goto F 2 zd_XSight_nextPiece_91 (by decide) ?_
            refine zr_loc (L' := [(0, .ref (b + v0)), (1, .int (v1 + 1))]) ⟨rfl, rfl, trivial⟩ ?_
            exact ih _ _ _ _ h hx0 hp
          ·
            rw [if_neg hb42] at h
            refine zr_pcn 86 rfl ?_
            refine zr_iconstv (v := 1) F zd_XSight_nextPiece_86 (by decide) ?_
            obtain rfl := Option.some.inj h
            exact zr_zret F hr rfl zd_XSight_nextPiece_87 (Nat.le_of_ble_eq_true rfl) (Nat.le_of_ble_eq_true rfl) (hp rfl)
        ·
          rw [if_pos hb38] at h
          refine zr_iconstv (v := 1) F zd_XSight_nextPiece_75 (by decide) ?_
          refine zr_goto F 80 zd_XSight_nextPiece_76 (by decide) ?_
          obtain ⟨le44, hs43, h⟩ := zoS_s h
          obtain ⟨p45, ep45, h⟩ := zoB_s h
          refine zr_callV1 F (k_XPiece_take l D tA b sh _ ep45) zd_XSight_nextPiece_80 (zW_o hs43 (by decide)) rfl zs_XSight_150 rfl zq_XPiece_take rfl rfl ⟨(Nat.le_of_ble_eq_true rfl), (Nat.le_of_ble_eq_true rfl)⟩ (Nat.le_of_ble_eq_true rfl) ⟨(Nat.le_of_ble_eq_true rfl), (Nat.le_of_ble_eq_true rfl)⟩ ?_
          refine zr_if_eq F 88 zd_XSight_nextPiece_83 (by decide) (fun hb46 => ?_) (fun hb46 => ?_)
          ·
            rw [if_pos hb46] at h
            refine zr_iinc (v := (v1 + 1)) F zd_XSight_nextPiece_88 rfl rfl (by decide) ?_
            refine zr_goto F 2 zd_XSight_nextPiece_91 (by decide) ?_
            refine zr_loc (L' := [(0, .ref (b + v0)), (1, .int (v1 + 1))]) ⟨rfl, rfl, trivial⟩ ?_
            exact ih _ _ _ _ h hx0 hp
          ·
            rw [if_neg hb46] at h
            refine zr_pcn 86 rfl ?_
            refine zr_iconstv (v := 1) F zd_XSight_nextPiece_86 (by decide) ?_
            obtain rfl := Option.some.inj h
            exact zr_zret F hr rfl zd_XSight_nextPiece_87 (Nat.le_of_ble_eq_true rfl) (Nat.le_of_ble_eq_true rfl) (hp rfl)
      ·
        rw [if_neg hb12] at h
        refine zr_aload_n F zd_XSight_nextPiece_31 rfl ?_
        obtain ⟨le48, hs47, h⟩ := zoS_s h
        obtain ⟨p49, ep49, h⟩ := zoB_s h
        refine zr_callV1 F (k_XSight_nextFace l D tA b sh _ ep49) zd_XSight_nextPiece_32 (zW_o hs47 (by decide)) rfl zs_XSight_139 rfl zq_XSight_nextFace rfl rfl ⟨(Nat.le_of_ble_eq_true rfl), (Nat.le_of_ble_eq_true rfl)⟩ (Nat.le_of_ble_eq_true rfl) ⟨(Nat.le_of_ble_eq_true rfl), (Nat.le_of_ble_eq_true rfl)⟩ ?_
        refine zr_if_ne F 40 zd_XSight_nextPiece_35 (by decide) (fun hb50 => ?_) (fun hb50 => ?_)
        ·
          rw [if_neg hb50] at h
          refine zr_aload_n F zd_XSight_nextPiece_40 rfl ?_
          refine zr_iconstv (v := 1) F zd_XSight_nextPiece_41 (by decide) ?_
          obtain ⟨le52, hs51, h⟩ := zoS_s h
          refine zr_put F 9 4 zd_XSight_nextPiece_42 (zW_o hs51 (by decide)) rfl (by decide) zw_377 rfl rfl rfl rfl (by exact (Nat.le_of_ble_eq_true rfl)) ?_
          obtain ⟨mm53, emm53, h⟩ := zoL_s h
          refine zr_norm (zW tA b sh mm53) _ (by rw [emm53]; exact zW_pI (v := 1) hs51 (by decide) (zf_I_9_4 b _ _ _)) rfl ?_
          refine zr_pcn 45 rfl ?_
          refine zr_aload_n F zd_XSight_nextPiece_45 rfl ?_
          obtain ⟨le55, hs54, h⟩ := zoS_s h
          obtain ⟨a56, ea56, h⟩ := zoB_s h
          refine zr_get F 9 0 zd_XSight_nextPiece_46 (zW_o hs54 (by decide)) rfl (by decide) zw_371 rfl (by rfl) ?_
          refine zr_tor ea56 ?_
          refine zr_aload_n F zd_XSight_nextPiece_49 rfl ?_
          obtain ⟨le58, hs57, h⟩ := zoS_s h
          obtain ⟨a59, ea59, h⟩ := zoB_s h
          refine zr_get F 9 2 zd_XSight_nextPiece_50 (zW_o hs57 (by decide)) rfl (by decide) zw_375 rfl (by rfl) ?_
          refine zr_tor ea59 ?_
          refine zr_aload_n F zd_XSight_nextPiece_53 rfl ?_
          obtain ⟨le61, hs60, h⟩ := zoS_s h
          refine zr_get F 9 4 zd_XSight_nextPiece_54 (zW_o hs60 (by decide)) rfl (by decide) zw_377 rfl (by rfl) ?_
          refine zr_aload_n F zd_XSight_nextPiece_57 rfl ?_
          obtain ⟨le63, hs62, h⟩ := zoS_s h
          obtain ⟨a64, ea64, h⟩ := zoB_s h
          refine zr_get F 9 7 zd_XSight_nextPiece_58 (zW_o hs62 (by decide)) rfl (by decide) zw_380 rfl (by rfl) ?_
          refine zr_tor ea64 ?_
          refine zr_pcn 61 rfl ?_
          obtain ⟨le66, hs65, h⟩ := zoS_s h
          obtain ⟨a67, ea67, h⟩ := zoB_s h
          refine zr_get F 8 2 zd_XSight_nextPiece_61 (zW_o hs65 (by decide)) rfl (by decide) zw_291 rfl (by rfl) ?_
          refine zr_tor ea67 ?_
          refine zr_aload_n F zd_XSight_nextPiece_64 rfl ?_
          obtain ⟨le69, hs68, h⟩ := zoS_s h
          obtain ⟨p70, ep70, h⟩ := zoB_s h
          refine zr_callV1 F (k_XSight_materialNumber l D tA b sh _ ep70) zd_XSight_nextPiece_65 (zW_o hs68 (by decide)) rfl zs_XSight_146 rfl zq_XSight_materialNumber rfl rfl ⟨(Nat.le_of_ble_eq_true rfl), (Nat.le_of_ble_eq_true rfl)⟩ (Nat.le_of_ble_eq_true rfl) ⟨(Nat.le_of_ble_eq_true rfl), (Nat.le_of_ble_eq_true rfl)⟩ ?_
          obtain ⟨t74, le72, hs71, h⟩ := zoR_s h
          obtain ⟨hi73, h⟩ := zoI_s h
          obtain ⟨a75, ea75, h⟩ := zoB_s h
          refine zr_aaldW F zd_XSight_nextPiece_68 hs71 hi73 ea75 ?_
          refine zr_iconstv (v := 5) F zd_XSight_nextPiece_69 (by decide) ?_
          obtain ⟨le77, hs76, h⟩ := zoS_s h
          obtain ⟨hi78, h⟩ := zoI_s h
          refine zr_iald F zd_XSight_nextPiece_70 (zW_a0 hs76) hi78 ?_
          refine zr_iconstv (v := 1) F zd_XSight_nextPiece_71 (by decide) ?_
          refine zr_icmp_ne F 79 zd_XSight_nextPiece_72 (by decide) (fun hb79 => ?_) (fun hb79 => ?_)
          ·
            rw [if_neg hb79] at h
            refine zr_pcn 79 rfl ?_
            refine zr_iconstv (v := 0) F zd_XSight_nextPiece_79 (by decide) ?_
            obtain ⟨le81, hs80, h⟩ := zoS_s h
            obtain ⟨p82, ep82, h⟩ := zoB_s h
            refine zr_callV1 F (k_XPiece_take l D tA b sh _ ep82) zd_XSight_nextPiece_80 (zW_o hs80 (by decide)) rfl zs_XSight_150 rfl zq_XPiece_take rfl rfl ⟨(Nat.le_of_ble_eq_true rfl), (Nat.le_of_ble_eq_true rfl)⟩ (Nat.le_of_ble_eq_true rfl) ⟨(Nat.le_of_ble_eq_true rfl), (Nat.le_of_ble_eq_true rfl)⟩ ?_
            refine zr_if_eq F 88 zd_XSight_nextPiece_83 (by decide) (fun hb83 => ?_) (fun hb83 => ?_)
            ·
              rw [if_pos hb83] at h
              refine zr_iinc (v := (v1 + 1)) F zd_XSight_nextPiece_88 rfl rfl (by decide) ?_
              refine zr_goto F 2 zd_XSight_nextPiece_91 (by decide) ?_
              refine zr_loc (L' := [(0, .ref (b + v0)), (1, .int (v1 + 1))]) ⟨rfl, rfl, trivial⟩ ?_
              exact ih _ _ _ _ h hx0 hp
            ·
              rw [if_neg hb83] at h
              refine zr_iconstv (v := 1) F zd_XSight_nextPiece_86 (by decide) ?_
              obtain rfl := Option.some.inj h
              exact zr_zret F hr rfl zd_XSight_nextPiece_87 (Nat.le_of_ble_eq_true rfl) (Nat.le_of_ble_eq_true rfl) (hp rfl)
          ·
            rw [if_pos hb79] at h
            refine zr_iconstv (v := 1) F zd_XSight_nextPiece_75 (by decide) ?_
            refine zr_pcn 76 rfl ?_
            refine zr_goto F 80 zd_XSight_nextPiece_76 (by decide) ?_
            obtain ⟨le85, hs84, h⟩ := zoS_s h
            obtain ⟨p86, ep86, h⟩ := zoB_s h
            refine zr_callV1 F (k_XPiece_take l D tA b sh _ ep86) zd_XSight_nextPiece_80 (zW_o hs84 (by decide)) rfl zs_XSight_150 rfl zq_XPiece_take rfl rfl ⟨(Nat.le_of_ble_eq_true rfl), (Nat.le_of_ble_eq_true rfl)⟩ (Nat.le_of_ble_eq_true rfl) ⟨(Nat.le_of_ble_eq_true rfl), (Nat.le_of_ble_eq_true rfl)⟩ ?_
            refine zr_if_eq F 88 zd_XSight_nextPiece_83 (by decide) (fun hb87 => ?_) (fun hb87 => ?_)
            ·
              rw [if_pos hb87] at h
              refine zr_iinc (v := (v1 + 1)) F zd_XSight_nextPiece_88 rfl rfl (by decide) ?_
              refine zr_goto F 2 zd_XSight_nextPiece_91 (by decide) ?_
              refine zr_loc (L' := [(0, .ref (b + v0)), (1, .int (v1 + 1))]) ⟨rfl, rfl, trivial⟩ ?_
              exact ih _ _ _ _ h hx0 hp
            ·
              rw [if_neg hb87] at h
              refine zr_iconstv (v := 1) F zd_XSight_nextPiece_86 (by decide) ?_
              obtain rfl := Option.some.inj h
              exact zr_zret F hr rfl zd_XSight_nextPiece_87 (Nat.le_of_ble_eq_true rfl) (Nat.le_of_ble_eq_true rfl) (hp rfl)
        ·
          rw [if_pos hb50] at h
          refine zr_iconstv (v := 0) F zd_XSight_nextPiece_38 (by decide) ?_
          refine zr_pcn 39 rfl ?_
          obtain rfl := Option.some.inj h
          exact zr_zret F hr rfl zd_XSight_nextPiece_39 (Nat.le_of_ble_eq_true rfl) (Nat.le_of_ble_eq_true rfl) (hp rfl)
def F_XSight_nextPiece (sh : zSh) (mm : zMem) (o : Nat) : Option (Int32 × zMem) := Option.bind (L_XSight_nextPiece_2 sh zfuel o 0 mm) (fun q88 => (if q88.1 = 1 then some (0, q88.2.2.2.2) else some (q88.2.1, q88.2.2.2.2)))
set_option maxHeartbeats 4000000 in
set_option maxRecDepth 100000 in
theorem k_XSight_nextPiece (l : Launch) (D : va_G) (tA : Nat → ClassId) (b : Nat) (sh : zSh) (n : Nat) {mm : zMem} {o : Nat} {r : (Int32 × zMem)} (h : F_XSight_nextPiece sh mm o = some r) : zM l D tA b zy_XSight_nextPiece zb_XSight_nextPiece 2 (some .boolean) 5 134 0 0 [.ref (b + o)] (zW tA b sh mm) n (zE (some (.int (r.1))) (zW tA b sh r.2) n) := by
  unfold F_XSight_nextPiece at h
  refine zM_of (own := "OrreryBox$Sight") (plainFor_of_name (by decide)) rfl (Nat.le_of_ble_eq_true rfl) (fun p e s m below meth c F hr hin hH => ?_)
  refine zr_iconstv (v := 0) F zd_XSight_nextPiece_0 (by decide) ?_
  refine zr_istore_n F zd_XSight_nextPiece_1 (by decide) ?_
  obtain ⟨q88, eq88, h⟩ := zoB_s h
  refine zr_loc (L' := [(0, .ref (b + o)), (1, .int 0)]) ⟨rfl, rfl, trivial⟩ ?_
  refine lp_XSight_nextPiece_2 F hr _ _ _ _ _ eq88 ?_ ?_
  ·
    intro ec
    rw [if_pos ec] at h
    refine zr_iconstv (v := 0) F zd_XSight_nextPiece_94 (by decide) ?_
    obtain rfl := Option.some.inj h
    exact zr_zret F hr rfl zd_XSight_nextPiece_95 (Nat.le_of_ble_eq_true rfl) (Nat.le_of_ble_eq_true rfl) ⟨rfl, rfl, rfl⟩
  ·
    intro ec
    rw [if_neg (by rw [ec]; decide)] at h
    obtain rfl := Option.some.inj h
    exact ⟨rfl, rfl, rfl⟩
abbrev zb_MPainter_goOverFace : ByteArray := prog_16_method_24_code
def zy_MPainter_goOverFace : MethodName := ⟨"OrreryBoxModel$Painter", "goOverFace", "(II)V"⟩
theorem zc_MPainter_goOverFace : Cond.code zy_MPainter_goOverFace zb_MPainter_goOverFace 7 none ∈ gw := gw_t 2091 (by decide +kernel) rfl
theorem zq_MPainter_goOverFace : zy_MPainter_goOverFace.cls ≠ "java/lang/invoke/MethodHandle" ∧ zy_MPainter_goOverFace.cls ≠ "java/lang/invoke/VarHandle" ∧ (parseMethodDescriptor zy_MPainter_goOverFace.desc).map (fun d => d.parameters.length) = some 2 := by decide +kernel
theorem zd_MPainter_goOverFace_0 : decode zb_MPainter_goOverFace 0 = .ok (.aload_n 0, 1) := by decide +kernel
theorem zd_MPainter_goOverFace_1 : decode zb_MPainter_goOverFace 1 = .ok (.getfield 129, 3) := by decide +kernel
theorem zd_MPainter_goOverFace_4 : decode zb_MPainter_goOverFace 4 = .ok (.getfield 167, 3) := by decide +kernel
theorem zd_MPainter_goOverFace_7 : decode zb_MPainter_goOverFace 7 = .ok (.iload_n 1, 1) := by decide +kernel
theorem zd_MPainter_goOverFace_8 : decode zb_MPainter_goOverFace 8 = .ok (.iaload, 1) := by decide +kernel
theorem zd_MPainter_goOverFace_9 : decode zb_MPainter_goOverFace 9 = .ok (.istore_n 3, 1) := by decide +kernel
theorem zd_MPainter_goOverFace_10 : decode zb_MPainter_goOverFace 10 = .ok (.iconst 0, 1) := by decide +kernel
theorem zd_MPainter_goOverFace_11 : decode zb_MPainter_goOverFace 11 = .ok (.istore 4, 2) := by decide +kernel
theorem zd_MPainter_goOverFace_13 : decode zb_MPainter_goOverFace 13 = .ok (.iload 4, 2) := by decide +kernel
theorem zd_MPainter_goOverFace_15 : decode zb_MPainter_goOverFace 15 = .ok (.iconst 3, 1) := by decide +kernel
theorem zd_MPainter_goOverFace_16 : decode zb_MPainter_goOverFace 16 = .ok (.if_icmp .ge 36, 3) := by decide +kernel
theorem zd_MPainter_goOverFace_19 : decode zb_MPainter_goOverFace 19 = .ok (.aload_n 0, 1) := by decide +kernel
theorem zd_MPainter_goOverFace_20 : decode zb_MPainter_goOverFace 20 = .ok (.iload_n 3, 1) := by decide +kernel
theorem zd_MPainter_goOverFace_21 : decode zb_MPainter_goOverFace 21 = .ok (.iload 4, 2) := by decide +kernel
theorem zd_MPainter_goOverFace_23 : decode zb_MPainter_goOverFace 23 = .ok (.aload_n 0, 1) := by decide +kernel
theorem zd_MPainter_goOverFace_24 : decode zb_MPainter_goOverFace 24 = .ok (.getfield 129, 3) := by decide +kernel
theorem zd_MPainter_goOverFace_27 : decode zb_MPainter_goOverFace 27 = .ok (.getfield 240, 3) := by decide +kernel
theorem zd_MPainter_goOverFace_30 : decode zb_MPainter_goOverFace 30 = .ok (.sipush 384, 3) := by decide +kernel
theorem zd_MPainter_goOverFace_33 : decode zb_MPainter_goOverFace 33 = .ok (.iload_n 3, 1) := by decide +kernel
theorem zd_MPainter_goOverFace_34 : decode zb_MPainter_goOverFace 34 = .ok (.imul, 1) := by decide +kernel
theorem zd_MPainter_goOverFace_35 : decode zb_MPainter_goOverFace 35 = .ok (.iconst 3, 1) := by decide +kernel
theorem zd_MPainter_goOverFace_36 : decode zb_MPainter_goOverFace 36 = .ok (.iload_n 2, 1) := by decide +kernel
theorem zd_MPainter_goOverFace_37 : decode zb_MPainter_goOverFace 37 = .ok (.imul, 1) := by decide +kernel
theorem zd_MPainter_goOverFace_38 : decode zb_MPainter_goOverFace 38 = .ok (.iadd, 1) := by decide +kernel
theorem zd_MPainter_goOverFace_39 : decode zb_MPainter_goOverFace 39 = .ok (.iload 4, 2) := by decide +kernel
theorem zd_MPainter_goOverFace_41 : decode zb_MPainter_goOverFace 41 = .ok (.iadd, 1) := by decide +kernel
theorem zd_MPainter_goOverFace_42 : decode zb_MPainter_goOverFace 42 = .ok (.iaload, 1) := by decide +kernel
theorem zd_MPainter_goOverFace_43 : decode zb_MPainter_goOverFace 43 = .ok (.invokevirtual 243, 3) := by decide +kernel
theorem zd_MPainter_goOverFace_46 : decode zb_MPainter_goOverFace 46 = .ok (.iinc 4 1, 3) := by decide +kernel
theorem zd_MPainter_goOverFace_49 : decode zb_MPainter_goOverFace 49 = .ok (.goto (-36), 3) := by decide +kernel
theorem zd_MPainter_goOverFace_52 : decode zb_MPainter_goOverFace 52 = .ok (.aload_n 0, 1) := by decide +kernel
theorem zd_MPainter_goOverFace_53 : decode zb_MPainter_goOverFace 53 = .ok (.iconst 3, 1) := by decide +kernel
theorem zd_MPainter_goOverFace_54 : decode zb_MPainter_goOverFace 54 = .ok (.putfield 233, 3) := by decide +kernel
theorem zd_MPainter_goOverFace_57 : decode zb_MPainter_goOverFace 57 = .ok (.iconst 0, 1) := by decide +kernel
theorem zd_MPainter_goOverFace_58 : decode zb_MPainter_goOverFace 58 = .ok (.istore 4, 2) := by decide +kernel
theorem zd_MPainter_goOverFace_60 : decode zb_MPainter_goOverFace 60 = .ok (.iload 4, 2) := by decide +kernel
theorem zd_MPainter_goOverFace_62 : decode zb_MPainter_goOverFace 62 = .ok (.iconst 5, 1) := by decide +kernel
theorem zd_MPainter_goOverFace_63 : decode zb_MPainter_goOverFace 63 = .ok (.if_icmp .ge 15, 3) := by decide +kernel
theorem zd_MPainter_goOverFace_66 : decode zb_MPainter_goOverFace 66 = .ok (.aload_n 0, 1) := by decide +kernel
theorem zd_MPainter_goOverFace_67 : decode zb_MPainter_goOverFace 67 = .ok (.iload 4, 2) := by decide +kernel
theorem zd_MPainter_goOverFace_69 : decode zb_MPainter_goOverFace 69 = .ok (.invokevirtual 247, 3) := by decide +kernel
theorem zd_MPainter_goOverFace_72 : decode zb_MPainter_goOverFace 72 = .ok (.iinc 4 1, 3) := by decide +kernel
theorem zd_MPainter_goOverFace_75 : decode zb_MPainter_goOverFace 75 = .ok (.goto (-15), 3) := by decide +kernel
theorem zd_MPainter_goOverFace_78 : decode zb_MPainter_goOverFace 78 = .ok (.iconst 0, 1) := by decide +kernel
theorem zd_MPainter_goOverFace_79 : decode zb_MPainter_goOverFace 79 = .ok (.istore 4, 2) := by decide +kernel
theorem zd_MPainter_goOverFace_81 : decode zb_MPainter_goOverFace 81 = .ok (.iload 4, 2) := by decide +kernel
theorem zd_MPainter_goOverFace_83 : decode zb_MPainter_goOverFace 83 = .ok (.aload_n 0, 1) := by decide +kernel
theorem zd_MPainter_goOverFace_84 : decode zb_MPainter_goOverFace 84 = .ok (.getfield 233, 3) := by decide +kernel
theorem zd_MPainter_goOverFace_87 : decode zb_MPainter_goOverFace 87 = .ok (.if_icmp .ge 128, 3) := by decide +kernel
theorem zd_MPainter_goOverFace_90 : decode zb_MPainter_goOverFace 90 = .ok (.aload_n 0, 1) := by decide +kernel
theorem zd_MPainter_goOverFace_91 : decode zb_MPainter_goOverFace 91 = .ok (.getfield 40, 3) := by decide +kernel
theorem zd_MPainter_goOverFace_94 : decode zb_MPainter_goOverFace 94 = .ok (.bipush 6, 2) := by decide +kernel
theorem zd_MPainter_goOverFace_96 : decode zb_MPainter_goOverFace 96 = .ok (.iload 4, 2) := by decide +kernel
theorem zd_MPainter_goOverFace_98 : decode zb_MPainter_goOverFace 98 = .ok (.imul, 1) := by decide +kernel
theorem zd_MPainter_goOverFace_99 : decode zb_MPainter_goOverFace 99 = .ok (.iconst 2, 1) := by decide +kernel
theorem zd_MPainter_goOverFace_100 : decode zb_MPainter_goOverFace 100 = .ok (.iadd, 1) := by decide +kernel
theorem zd_MPainter_goOverFace_101 : decode zb_MPainter_goOverFace 101 = .ok (.laload, 1) := by decide +kernel
theorem zd_MPainter_goOverFace_102 : decode zb_MPainter_goOverFace 102 = .ok (.lstore 5, 2) := by decide +kernel
theorem zd_MPainter_goOverFace_104 : decode zb_MPainter_goOverFace 104 = .ok (.aload_n 0, 1) := by decide +kernel
theorem zd_MPainter_goOverFace_105 : decode zb_MPainter_goOverFace 105 = .ok (.getfield 49, 3) := by decide +kernel
theorem zd_MPainter_goOverFace_108 : decode zb_MPainter_goOverFace 108 = .ok (.iload 4, 2) := by decide +kernel
theorem zd_MPainter_goOverFace_110 : decode zb_MPainter_goOverFace 110 = .ok (.ldc2_w 250, 3) := by decide +kernel
theorem zd_MPainter_goOverFace_113 : decode zb_MPainter_goOverFace 113 = .ok (.aload_n 0, 1) := by decide +kernel
theorem zd_MPainter_goOverFace_114 : decode zb_MPainter_goOverFace 114 = .ok (.getfield 129, 3) := by decide +kernel
theorem zd_MPainter_goOverFace_117 : decode zb_MPainter_goOverFace 117 = .ok (.getfield 230, 3) := by decide +kernel
theorem zd_MPainter_goOverFace_120 : decode zb_MPainter_goOverFace 120 = .ok (.i2l, 1) := by decide +kernel
theorem zd_MPainter_goOverFace_121 : decode zb_MPainter_goOverFace 121 = .ok (.lmul, 1) := by decide +kernel
theorem zd_MPainter_goOverFace_122 : decode zb_MPainter_goOverFace 122 = .ok (.aload_n 0, 1) := by decide +kernel
theorem zd_MPainter_goOverFace_123 : decode zb_MPainter_goOverFace 123 = .ok (.getfield 40, 3) := by decide +kernel
theorem zd_MPainter_goOverFace_126 : decode zb_MPainter_goOverFace 126 = .ok (.bipush 6, 2) := by decide +kernel
theorem zd_MPainter_goOverFace_128 : decode zb_MPainter_goOverFace 128 = .ok (.iload 4, 2) := by decide +kernel
theorem zd_MPainter_goOverFace_130 : decode zb_MPainter_goOverFace 130 = .ok (.imul, 1) := by decide +kernel
theorem zd_MPainter_goOverFace_131 : decode zb_MPainter_goOverFace 131 = .ok (.laload, 1) := by decide +kernel
theorem zd_MPainter_goOverFace_132 : decode zb_MPainter_goOverFace 132 = .ok (.lmul, 1) := by decide +kernel
theorem zd_MPainter_goOverFace_133 : decode zb_MPainter_goOverFace 133 = .ok (.lload 5, 2) := by decide +kernel
theorem zd_MPainter_goOverFace_135 : decode zb_MPainter_goOverFace 135 = .ok (.invokestatic 103, 3) := by decide +kernel
theorem zd_MPainter_goOverFace_138 : decode zb_MPainter_goOverFace 138 = .ok (.bipush 8, 2) := by decide +kernel
theorem zd_MPainter_goOverFace_140 : decode zb_MPainter_goOverFace 140 = .ok (.aload_n 0, 1) := by decide +kernel
theorem zd_MPainter_goOverFace_141 : decode zb_MPainter_goOverFace 141 = .ok (.getfield 61, 3) := by decide +kernel
theorem zd_MPainter_goOverFace_144 : decode zb_MPainter_goOverFace 144 = .ok (.imul, 1) := by decide +kernel
theorem zd_MPainter_goOverFace_145 : decode zb_MPainter_goOverFace 145 = .ok (.i2l, 1) := by decide +kernel
theorem zd_MPainter_goOverFace_146 : decode zb_MPainter_goOverFace 146 = .ok (.ladd, 1) := by decide +kernel
theorem zd_MPainter_goOverFace_147 : decode zb_MPainter_goOverFace 147 = .ok (.lastore, 1) := by decide +kernel
theorem zd_MPainter_goOverFace_148 : decode zb_MPainter_goOverFace 148 = .ok (.aload_n 0, 1) := by decide +kernel
theorem zd_MPainter_goOverFace_149 : decode zb_MPainter_goOverFace 149 = .ok (.getfield 52, 3) := by decide +kernel
theorem zd_MPainter_goOverFace_152 : decode zb_MPainter_goOverFace 152 = .ok (.iload 4, 2) := by decide +kernel
theorem zd_MPainter_goOverFace_154 : decode zb_MPainter_goOverFace 154 = .ok (.ldc2_w 250, 3) := by decide +kernel
theorem zd_MPainter_goOverFace_157 : decode zb_MPainter_goOverFace 157 = .ok (.aload_n 0, 1) := by decide +kernel
theorem zd_MPainter_goOverFace_158 : decode zb_MPainter_goOverFace 158 = .ok (.getfield 129, 3) := by decide +kernel
theorem zd_MPainter_goOverFace_161 : decode zb_MPainter_goOverFace 161 = .ok (.getfield 230, 3) := by decide +kernel
theorem zd_MPainter_goOverFace_164 : decode zb_MPainter_goOverFace 164 = .ok (.i2l, 1) := by decide +kernel
theorem zd_MPainter_goOverFace_165 : decode zb_MPainter_goOverFace 165 = .ok (.lmul, 1) := by decide +kernel
theorem zd_MPainter_goOverFace_166 : decode zb_MPainter_goOverFace 166 = .ok (.aload_n 0, 1) := by decide +kernel
theorem zd_MPainter_goOverFace_167 : decode zb_MPainter_goOverFace 167 = .ok (.getfield 40, 3) := by decide +kernel
theorem zd_MPainter_goOverFace_170 : decode zb_MPainter_goOverFace 170 = .ok (.bipush 6, 2) := by decide +kernel
theorem zd_MPainter_goOverFace_172 : decode zb_MPainter_goOverFace 172 = .ok (.iload 4, 2) := by decide +kernel
theorem zd_MPainter_goOverFace_174 : decode zb_MPainter_goOverFace 174 = .ok (.imul, 1) := by decide +kernel
theorem zd_MPainter_goOverFace_175 : decode zb_MPainter_goOverFace 175 = .ok (.iconst 1, 1) := by decide +kernel
theorem zd_MPainter_goOverFace_176 : decode zb_MPainter_goOverFace 176 = .ok (.iadd, 1) := by decide +kernel
theorem zd_MPainter_goOverFace_177 : decode zb_MPainter_goOverFace 177 = .ok (.laload, 1) := by decide +kernel
theorem zd_MPainter_goOverFace_178 : decode zb_MPainter_goOverFace 178 = .ok (.lmul, 1) := by decide +kernel
theorem zd_MPainter_goOverFace_179 : decode zb_MPainter_goOverFace 179 = .ok (.lload 5, 2) := by decide +kernel
theorem zd_MPainter_goOverFace_181 : decode zb_MPainter_goOverFace 181 = .ok (.invokestatic 103, 3) := by decide +kernel
theorem zd_MPainter_goOverFace_184 : decode zb_MPainter_goOverFace 184 = .ok (.bipush 8, 2) := by decide +kernel
theorem zd_MPainter_goOverFace_186 : decode zb_MPainter_goOverFace 186 = .ok (.aload_n 0, 1) := by decide +kernel
theorem zd_MPainter_goOverFace_187 : decode zb_MPainter_goOverFace 187 = .ok (.getfield 65, 3) := by decide +kernel
theorem zd_MPainter_goOverFace_190 : decode zb_MPainter_goOverFace 190 = .ok (.imul, 1) := by decide +kernel
theorem zd_MPainter_goOverFace_191 : decode zb_MPainter_goOverFace 191 = .ok (.i2l, 1) := by decide +kernel
theorem zd_MPainter_goOverFace_192 : decode zb_MPainter_goOverFace 192 = .ok (.ladd, 1) := by decide +kernel
theorem zd_MPainter_goOverFace_193 : decode zb_MPainter_goOverFace 193 = .ok (.lastore, 1) := by decide +kernel
theorem zd_MPainter_goOverFace_194 : decode zb_MPainter_goOverFace 194 = .ok (.aload_n 0, 1) := by decide +kernel
theorem zd_MPainter_goOverFace_195 : decode zb_MPainter_goOverFace 195 = .ok (.getfield 55, 3) := by decide +kernel
theorem zd_MPainter_goOverFace_198 : decode zb_MPainter_goOverFace 198 = .ok (.iload 4, 2) := by decide +kernel
theorem zd_MPainter_goOverFace_200 : decode zb_MPainter_goOverFace 200 = .ok (.ldc2_w 252, 3) := by decide +kernel
theorem zd_MPainter_goOverFace_203 : decode zb_MPainter_goOverFace 203 = .ok (.lload 5, 2) := by decide +kernel
theorem zd_MPainter_goOverFace_205 : decode zb_MPainter_goOverFace 205 = .ok (.invokestatic 103, 3) := by decide +kernel
theorem zd_MPainter_goOverFace_208 : decode zb_MPainter_goOverFace 208 = .ok (.lastore, 1) := by decide +kernel
theorem zd_MPainter_goOverFace_209 : decode zb_MPainter_goOverFace 209 = .ok (.iinc 4 1, 3) := by decide +kernel
theorem zd_MPainter_goOverFace_212 : decode zb_MPainter_goOverFace 212 = .ok (.goto (-131), 3) := by decide +kernel
theorem zd_MPainter_goOverFace_215 : decode zb_MPainter_goOverFace 215 = .ok (.iconst 1, 1) := by decide +kernel
theorem zd_MPainter_goOverFace_216 : decode zb_MPainter_goOverFace 216 = .ok (.istore 4, 2) := by decide +kernel
theorem zd_MPainter_goOverFace_218 : decode zb_MPainter_goOverFace 218 = .ok (.iload 4, 2) := by decide +kernel
theorem zd_MPainter_goOverFace_220 : decode zb_MPainter_goOverFace 220 = .ok (.iconst 1, 1) := by decide +kernel
theorem zd_MPainter_goOverFace_221 : decode zb_MPainter_goOverFace 221 = .ok (.iadd, 1) := by decide +kernel
theorem zd_MPainter_goOverFace_222 : decode zb_MPainter_goOverFace 222 = .ok (.aload_n 0, 1) := by decide +kernel
theorem zd_MPainter_goOverFace_223 : decode zb_MPainter_goOverFace 223 = .ok (.getfield 233, 3) := by decide +kernel
theorem zd_MPainter_goOverFace_226 : decode zb_MPainter_goOverFace 226 = .ok (.if_icmp .ge 17, 3) := by decide +kernel
theorem zd_MPainter_goOverFace_229 : decode zb_MPainter_goOverFace 229 = .ok (.aload_n 0, 1) := by decide +kernel
theorem zd_MPainter_goOverFace_230 : decode zb_MPainter_goOverFace 230 = .ok (.iload_n 1, 1) := by decide +kernel
theorem zd_MPainter_goOverFace_231 : decode zb_MPainter_goOverFace 231 = .ok (.iload_n 2, 1) := by decide +kernel
theorem zd_MPainter_goOverFace_232 : decode zb_MPainter_goOverFace 232 = .ok (.iload 4, 2) := by decide +kernel
theorem zd_MPainter_goOverFace_234 : decode zb_MPainter_goOverFace 234 = .ok (.invokevirtual 254, 3) := by decide +kernel
theorem zd_MPainter_goOverFace_237 : decode zb_MPainter_goOverFace 237 = .ok (.iinc 4 1, 3) := by decide +kernel
theorem zd_MPainter_goOverFace_240 : decode zb_MPainter_goOverFace 240 = .ok (.goto (-22), 3) := by decide +kernel
theorem zd_MPainter_goOverFace_243 : decode zb_MPainter_goOverFace 243 = .ok (.return_, 1) := by decide +kernel
theorem zw_1371 : (Jvm.Cond.fieldLink "OrreryBoxModel$Painter" (240 : Nat) "OrreryBoxModel$Scene" "face" "[I") ∈ gw := gw_t 1371 (by decide +kernel) rfl
theorem zw_2092 : (Jvm.Cond.methodLink "OrreryBoxModel$Painter" (243 : Nat) ({ cls := "OrreryBoxModel$Painter", name := "toCorner", desc := "(III)V" } : Jvm.MethodName)) ∈ gw := gw_t 2092 (by decide +kernel) rfl
theorem zw_2094 : (Jvm.Cond.instanceMethod ({ cls := "OrreryBoxModel$Painter", name := "toCorner", desc := "(III)V" } : Jvm.MethodName)) ∈ gw := gw_t 2094 (by decide +kernel) rfl
theorem zv_104 : (Jvm.Cond.selects "OrreryBoxModel$Painter" (⟨"OrreryBoxModel$Painter", "toCorner", "(III)V"⟩ : MethodName) ⟨"OrreryBoxModel$Painter", "toCorner", "(III)V"⟩) ∈ gw := gw_s 104 (by decide +kernel) rfl
theorem zs_MPainter_243 : zwV "OrreryBoxModel$Painter" 243 "OrreryBoxModel$Painter" zy_MPainter_toCorner zb_MPainter_toCorner 8 none := ⟨zw_2092, zw_2094, zv_104, zw_17, zc_MPainter_toCorner⟩
def L_MPainter_goOverFace_13 (sh : zSh) (fuel : Nat) (v0 : Nat) (v1 : Int32) (v2 : Int32) (v3 : Int32) (v4 : Int32) (mm : zMem) : Option (Nat × Int32 × Int32 × Int32 × Int32 × zMem) := match fuel with
  | 0 => none
  | fu + 1 => (if 3 ≤ v4 then some (v0, v1, v2, v3, v4, mm) else zoS (sh v0) 13 (fun le13 => Option.bind (mm.2.2 v0 5) (fun a14 => zoS (sh a14) 15 (fun le16 => Option.bind (mm.2.2 a14 18) (fun a17 => zoL (((384 * v3) + (3 * v2)) + v4) (fun i18 => zoS (sh a17) 100 (fun le20 => if (i18 : Int32) < 0 ∨ le20 ≤ (i18 : Int32).toNatClampNeg then none else zoS (sh v0) 13 (fun le23 => zoL (mm.1 a17 (i18 : Int32).toNatClampNeg) (fun x24 => Option.bind (F_MPainter_toCorner sh mm v0 v3 v4 x24) (fun p25 => L_MPainter_goOverFace_13 sh fu v0 v1 v2 v3 (v4 + 1) p25))))))))))
set_option maxHeartbeats 4000000 in
set_option maxRecDepth 100000 in
theorem lp_MPainter_goOverFace_13 {p : Program} {l : Launch} {e : Env} {s : State} {m : MethodId} {args : Array Value} {below : List Frame} {meth : Method} {c : Code} {D : va_G} {tA : Nat → ClassId} {b n : Nat} {post : Option Value → zV → Nat → Prop} {sh : zSh} (F : zF p s m args meth c zb_MPainter_goOverFace 7 "OrreryBoxModel$Painter" D tA b) : ∀ (fuel : Nat) (v0 : Nat) (v1 : Int32) (v2 : Int32) (v3 : Int32) (v4 : Int32) (mm : zMem) (r : Nat × Int32 × Int32 × Int32 × Int32 × zMem), L_MPainter_goOverFace_13 sh fuel v0 v1 v2 v3 v4 mm = some r → (Z p l e { frames := 7, cells := 0, slots := 0, locals := 242 } s m args below meth c D b 7 (MQ below (zQ D b post) args s 0 0 (fun q => b ≤ q)) (zW tA b sh r.2.2.2.2.2) n 0 0 52 [(0, .ref (b + (r.1))), (1, .int (r.2.1)), (2, .int (r.2.2.1)), (3, .int (r.2.2.2.1)), (4, .int (r.2.2.2.2.1))] []) → Z p l e { frames := 7, cells := 0, slots := 0, locals := 242 } s m args below meth c D b 7 (MQ below (zQ D b post) args s 0 0 (fun q => b ≤ q)) (zW tA b sh mm) n 0 0 13 [(0, .ref (b + v0)), (1, .int v1), (2, .int v2), (3, .int v3), (4, .int v4)] [] := by
  intro fuel
  induction fuel with
  | zero =>
    intro v0 v1 v2 v3 v4 mm r h
    cases h
  | succ fu ih =>
    intro v0 v1 v2 v3 v4 mm r h hx0
    rw [L_MPainter_goOverFace_13] at h
    refine zr_iload F zd_MPainter_goOverFace_13 rfl ?_
    refine zr_iconstv (v := 3) F zd_MPainter_goOverFace_15 (by decide) ?_
    refine zr_icmp_ge F 52 zd_MPainter_goOverFace_16 (by decide) (fun hb11 => ?_) (fun hb11 => ?_)
    ·
      rw [if_pos hb11] at h
      obtain rfl := Option.some.inj h
      refine zr_loc (L' := [(0, .ref (b + v0)), (1, .int v1), (2, .int v2), (3, .int v3), (4, .int v4)]) ⟨rfl, rfl, rfl, rfl, rfl, trivial⟩ ?_
      exact hx0 
    ·
      rw [if_neg hb11] at h
      refine zr_aload_n F zd_MPainter_goOverFace_19 rfl ?_
      refine zr_iload_n F zd_MPainter_goOverFace_20 rfl ?_
      refine zr_iload F zd_MPainter_goOverFace_21 rfl ?_
      refine zr_aload_n F zd_MPainter_goOverFace_23 rfl ?_
      refine zr_pcn 24 rfl ?_
      obtain ⟨le13, hs12, h⟩ := zoS_s h
      obtain ⟨a14, ea14, h⟩ := zoB_s h
      refine zr_get F 13 5 zd_MPainter_goOverFace_24 (zW_o hs12 (by decide)) rfl (by decide) zw_1581 rfl (by rfl) ?_
      refine zr_tor ea14 ?_
      obtain ⟨le16, hs15, h⟩ := zoS_s h
      obtain ⟨a17, ea17, h⟩ := zoB_s h
      refine zr_get F 15 18 zd_MPainter_goOverFace_27 (zW_o hs15 (by decide)) rfl (by decide) zw_1371 rfl (by rfl) ?_
      refine zr_tor ea17 ?_
      refine zr_sipushv (v := 384) F zd_MPainter_goOverFace_30 (by decide) ?_
      refine zr_iload_n F zd_MPainter_goOverFace_33 rfl ?_
      refine zr_imul F zd_MPainter_goOverFace_34 ?_
      refine zr_iconstv (v := 3) F zd_MPainter_goOverFace_35 (by decide) ?_
      refine zr_iload_n F zd_MPainter_goOverFace_36 rfl ?_
      refine zr_imul F zd_MPainter_goOverFace_37 ?_
      refine zr_pcn 38 rfl ?_
      refine zr_iadd F zd_MPainter_goOverFace_38 ?_
      refine zr_iload F zd_MPainter_goOverFace_39 rfl ?_
      refine zr_iadd F zd_MPainter_goOverFace_41 ?_
      obtain ⟨i18, ei18, h⟩ := zoL_s h
      rw [← ei18]
      obtain ⟨le20, hs19, h⟩ := zoS_s h
      obtain ⟨hi21, h⟩ := zoI_s h
      refine zr_iald F zd_MPainter_goOverFace_42 (zW_a0 hs19) hi21 ?_
      obtain ⟨le23, hs22, h⟩ := zoS_s h
      obtain ⟨x24, ex24, h⟩ := zoL_s h
      rw [← ex24]
      obtain ⟨p25, ep25, h⟩ := zoB_s h
      refine zr_callV0 F (k_MPainter_toCorner l D tA b sh _ ep25) zd_MPainter_goOverFace_43 (zW_o hs22 (by decide)) rfl zs_MPainter_243 rfl zq_MPainter_toCorner rfl rfl ⟨(Nat.le_of_ble_eq_true rfl), (Nat.le_of_ble_eq_true rfl)⟩ (Nat.le_of_ble_eq_true rfl) ⟨(Nat.le_of_ble_eq_true rfl), (Nat.le_of_ble_eq_true rfl)⟩ ?_
      refine zr_iinc (v := (v4 + 1)) F zd_MPainter_goOverFace_46 rfl rfl (by decide) ?_
      refine zr_goto F 13 zd_MPainter_goOverFace_49 (by decide) ?_
      refine zr_loc (L' := [(0, .ref (b + v0)), (1, .int v1), (2, .int v2), (3, .int v3), (4, .int (v4 + 1))]) ⟨rfl, rfl, rfl, rfl, rfl, trivial⟩ ?_
      exact ih _ _ _ _ _ _ _ h hx0
theorem zw_2099 : (Jvm.Cond.methodLink "OrreryBoxModel$Painter" (247 : Nat) ({ cls := "OrreryBoxModel$Painter", name := "cutBy", desc := "(I)V" } : Jvm.MethodName)) ∈ gw := gw_t 2099 (by decide +kernel) rfl
theorem zw_2101 : (Jvm.Cond.instanceMethod ({ cls := "OrreryBoxModel$Painter", name := "cutBy", desc := "(I)V" } : Jvm.MethodName)) ∈ gw := gw_t 2101 (by decide +kernel) rfl
theorem zv_105 : (Jvm.Cond.selects "OrreryBoxModel$Painter" (⟨"OrreryBoxModel$Painter", "cutBy", "(I)V"⟩ : MethodName) ⟨"OrreryBoxModel$Painter", "cutBy", "(I)V"⟩) ∈ gw := gw_s 105 (by decide +kernel) rfl
theorem zs_MPainter_247 : zwV "OrreryBoxModel$Painter" 247 "OrreryBoxModel$Painter" zy_MPainter_cutBy zb_MPainter_cutBy 10 none := ⟨zw_2099, zw_2101, zv_105, zw_17, zc_MPainter_cutBy⟩
def L_MPainter_goOverFace_60 (sh : zSh) (fuel : Nat) (v0 : Nat) (v1 : Int32) (v2 : Int32) (v4 : Int32) (mm : zMem) : Option (Nat × Int32 × Int32 × Int32 × zMem) := match fuel with
  | 0 => none
  | fu + 1 => (if 5 ≤ v4 then some (v0, v1, v2, v4, mm) else zoS (sh v0) 13 (fun le32 => Option.bind (F_MPainter_cutBy sh mm v0 v4) (fun p33 => L_MPainter_goOverFace_60 sh fu v0 v1 v2 (v4 + 1) p33)))
set_option maxHeartbeats 4000000 in
set_option maxRecDepth 100000 in
theorem lp_MPainter_goOverFace_60 {p : Program} {l : Launch} {e : Env} {s : State} {m : MethodId} {args : Array Value} {below : List Frame} {meth : Method} {c : Code} {D : va_G} {tA : Nat → ClassId} {b n : Nat} {post : Option Value → zV → Nat → Prop} {sh : zSh} (F : zF p s m args meth c zb_MPainter_goOverFace 7 "OrreryBoxModel$Painter" D tA b) : ∀ (fuel : Nat) (v0 : Nat) (v1 : Int32) (v2 : Int32) (v4 : Int32) (mm : zMem) (r : Nat × Int32 × Int32 × Int32 × zMem), L_MPainter_goOverFace_60 sh fuel v0 v1 v2 v4 mm = some r → (Z p l e { frames := 7, cells := 0, slots := 0, locals := 242 } s m args below meth c D b 7 (MQ below (zQ D b post) args s 0 0 (fun q => b ≤ q)) (zW tA b sh r.2.2.2.2) n 0 0 78 [(0, .ref (b + (r.1))), (1, .int (r.2.1)), (2, .int (r.2.2.1)), (4, .int (r.2.2.2.1))] []) → Z p l e { frames := 7, cells := 0, slots := 0, locals := 242 } s m args below meth c D b 7 (MQ below (zQ D b post) args s 0 0 (fun q => b ≤ q)) (zW tA b sh mm) n 0 0 60 [(0, .ref (b + v0)), (1, .int v1), (2, .int v2), (4, .int v4)] [] := by
  intro fuel
  induction fuel with
  | zero =>
    intro v0 v1 v2 v4 mm r h
    cases h
  | succ fu ih =>
    intro v0 v1 v2 v4 mm r h hx0
    rw [L_MPainter_goOverFace_60] at h
    refine zr_iload F zd_MPainter_goOverFace_60 rfl ?_
    refine zr_iconstv (v := 5) F zd_MPainter_goOverFace_62 (by decide) ?_
    refine zr_icmp_ge F 78 zd_MPainter_goOverFace_63 (by decide) (fun hb30 => ?_) (fun hb30 => ?_)
    ·
      rw [if_pos hb30] at h
      obtain rfl := Option.some.inj h
      refine zr_loc (L' := [(0, .ref (b + v0)), (1, .int v1), (2, .int v2), (4, .int v4)]) ⟨rfl, rfl, rfl, rfl, trivial⟩ ?_
      exact hx0 
    ·
      rw [if_neg hb30] at h
      refine zr_aload_n F zd_MPainter_goOverFace_66 rfl ?_
      refine zr_pcn 67 rfl ?_
      refine zr_iload F zd_MPainter_goOverFace_67 rfl ?_
      obtain ⟨le32, hs31, h⟩ := zoS_s h
      obtain ⟨p33, ep33, h⟩ := zoB_s h
      refine zr_callV0 F (k_MPainter_cutBy l D tA b sh _ ep33) zd_MPainter_goOverFace_69 (zW_o hs31 (by decide)) rfl zs_MPainter_247 rfl zq_MPainter_cutBy rfl rfl ⟨(Nat.le_of_ble_eq_true rfl), (Nat.le_of_ble_eq_true rfl)⟩ (Nat.le_of_ble_eq_true rfl) ⟨(Nat.le_of_ble_eq_true rfl), (Nat.le_of_ble_eq_true rfl)⟩ ?_
      refine zr_iinc (v := (v4 + 1)) F zd_MPainter_goOverFace_72 rfl rfl (by decide) ?_
      refine zr_goto F 60 zd_MPainter_goOverFace_75 (by decide) ?_
      refine zr_loc (L' := [(0, .ref (b + v0)), (1, .int v1), (2, .int v2), (4, .int (v4 + 1))]) ⟨rfl, rfl, rfl, rfl, trivial⟩ ?_
      exact ih _ _ _ _ _ _ h hx0
theorem zw_2107 : (Jvm.Cond.constantLong "OrreryBoxModel$Painter" (250 : Nat) (16 : Int64)) ∈ gw := gw_t 2107 (by decide +kernel) rfl
theorem zw_2108 : (Jvm.Cond.constantLong "OrreryBoxModel$Painter" (252 : Nat) (4294967296 : Int64)) ∈ gw := gw_t 2108 (by decide +kernel) rfl
def L_MPainter_goOverFace_81 (sh : zSh) (fuel : Nat) (v0 : Nat) (v1 : Int32) (v2 : Int32) (v4 : Int32) (mm : zMem) : Option (Nat × Int32 × Int32 × Int32 × zMem) := match fuel with
  | 0 => none
  | fu + 1 => zoS (sh v0) 13 (fun le36 => (if (mm.1 v0 26) ≤ v4 then some (v0, v1, v2, v4, mm) else zoS (sh v0) 13 (fun le39 => Option.bind (mm.2.2 v0 23) (fun a40 => zoL ((6 * v4) + 2) (fun i41 => zoS (sh a40) 102 (fun le43 => if (i41 : Int32) < 0 ∨ le43 ≤ (i41 : Int32).toNatClampNeg then none else zoL (mm.2.1 a40 (i41 : Int32).toNatClampNeg) (fun x45 => zoS (sh v0) 13 (fun le47 => Option.bind (mm.2.2 v0 27) (fun a48 => zoS (sh v0) 13 (fun le50 => Option.bind (mm.2.2 v0 5) (fun a51 => zoS (sh a51) 15 (fun le53 => zoS (sh v0) 13 (fun le55 => Option.bind (mm.2.2 v0 23) (fun a56 => zoL (6 * v4) (fun i57 => zoS (sh a56) 102 (fun le59 => if (i57 : Int32) < 0 ∨ le59 ≤ (i57 : Int32).toNatClampNeg then none else zoL ((16 * (((mm.1 a51 34) : Int32).toInt64)) * (mm.2.1 a56 (i57 : Int32).toNatClampNeg)) (fun x61 => Option.bind (F_MPainter_div sh mm x61 x45) (fun p62 => zoS (sh v0) 13 (fun le64 => zoL (p62.1 + (((8 * ((p62.2).1 v0 1)) : Int32).toInt64)) (fun x65 => zoS (sh a48) 102 (fun le67 => if (v4 : Int32) < 0 ∨ le67 ≤ (v4 : Int32).toNatClampNeg then none else zoL (mL (p62.2) a48 (v4 : Int32).toNatClampNeg x65) (fun mm69 => zoS (sh v0) 13 (fun le71 => Option.bind (mm69.2.2 v0 28) (fun a72 => zoS (sh v0) 13 (fun le74 => Option.bind (mm69.2.2 v0 5) (fun a75 => zoS (sh a75) 15 (fun le77 => zoS (sh v0) 13 (fun le79 => Option.bind (mm69.2.2 v0 23) (fun a80 => zoL ((6 * v4) + 1) (fun i81 => zoS (sh a80) 102 (fun le83 => if (i81 : Int32) < 0 ∨ le83 ≤ (i81 : Int32).toNatClampNeg then none else zoL ((16 * (((mm69.1 a75 34) : Int32).toInt64)) * (mm69.2.1 a80 (i81 : Int32).toNatClampNeg)) (fun x85 => Option.bind (F_MPainter_div sh mm69 x85 x45) (fun p86 => zoS (sh v0) 13 (fun le88 => zoL (p86.1 + (((8 * ((p86.2).1 v0 2)) : Int32).toInt64)) (fun x89 => zoS (sh a72) 102 (fun le91 => if (v4 : Int32) < 0 ∨ le91 ≤ (v4 : Int32).toNatClampNeg then none else zoL (mL (p86.2) a72 (v4 : Int32).toNatClampNeg x89) (fun mm93 => zoS (sh v0) 13 (fun le95 => Option.bind (mm93.2.2 v0 29) (fun a96 => Option.bind (F_MPainter_div sh mm93 4294967296 x45) (fun p97 => zoS (sh a96) 102 (fun le99 => if (v4 : Int32) < 0 ∨ le99 ≤ (v4 : Int32).toNatClampNeg then none else zoL (mL (p97.2) a96 (v4 : Int32).toNatClampNeg (p97.1)) (fun mm101 => L_MPainter_goOverFace_81 sh fu v0 v1 v2 (v4 + 1) mm101))))))))))))))))))))))))))))))))))))))))))
set_option maxHeartbeats 4000000 in
set_option maxRecDepth 100000 in
theorem lp_MPainter_goOverFace_81 {p : Program} {l : Launch} {e : Env} {s : State} {m : MethodId} {args : Array Value} {below : List Frame} {meth : Method} {c : Code} {D : va_G} {tA : Nat → ClassId} {b n : Nat} {post : Option Value → zV → Nat → Prop} {sh : zSh} (F : zF p s m args meth c zb_MPainter_goOverFace 7 "OrreryBoxModel$Painter" D tA b) : ∀ (fuel : Nat) (v0 : Nat) (v1 : Int32) (v2 : Int32) (v4 : Int32) (mm : zMem) (r : Nat × Int32 × Int32 × Int32 × zMem), L_MPainter_goOverFace_81 sh fuel v0 v1 v2 v4 mm = some r → (Z p l e { frames := 7, cells := 0, slots := 0, locals := 242 } s m args below meth c D b 7 (MQ below (zQ D b post) args s 0 0 (fun q => b ≤ q)) (zW tA b sh r.2.2.2.2) n 0 0 215 [(0, .ref (b + (r.1))), (1, .int (r.2.1)), (2, .int (r.2.2.1)), (4, .int (r.2.2.2.1))] []) → Z p l e { frames := 7, cells := 0, slots := 0, locals := 242 } s m args below meth c D b 7 (MQ below (zQ D b post) args s 0 0 (fun q => b ≤ q)) (zW tA b sh mm) n 0 0 81 [(0, .ref (b + v0)), (1, .int v1), (2, .int v2), (4, .int v4)] [] := by
  intro fuel
  induction fuel with
  | zero =>
    intro v0 v1 v2 v4 mm r h
    cases h
  | succ fu ih =>
    intro v0 v1 v2 v4 mm r h hx0
    rw [L_MPainter_goOverFace_81] at h
    refine zr_iload F zd_MPainter_goOverFace_81 rfl ?_
    refine zr_aload_n F zd_MPainter_goOverFace_83 rfl ?_
    refine zr_pcn 84 rfl ?_
    obtain ⟨le36, hs35, h⟩ := zoS_s h
    refine zr_get F 13 26 zd_MPainter_goOverFace_84 (zW_o hs35 (by decide)) rfl (by decide) zw_1606 rfl (by rfl) ?_
    refine zr_icmp_ge F 215 zd_MPainter_goOverFace_87 (by decide) (fun hb37 => ?_) (fun hb37 => ?_)
    ·
      rw [if_pos hb37] at h
      obtain rfl := Option.some.inj h
      refine zr_loc (L' := [(0, .ref (b + v0)), (1, .int v1), (2, .int v2), (4, .int v4)]) ⟨rfl, rfl, rfl, rfl, trivial⟩ ?_
      exact hx0 
    ·
      rw [if_neg hb37] at h
      refine zr_aload_n F zd_MPainter_goOverFace_90 rfl ?_
      obtain ⟨le39, hs38, h⟩ := zoS_s h
      obtain ⟨a40, ea40, h⟩ := zoB_s h
      refine zr_get F 13 23 zd_MPainter_goOverFace_91 (zW_o hs38 (by decide)) rfl (by decide) zw_1603 rfl (by rfl) ?_
      refine zr_tor ea40 ?_
      refine zr_bipushv (v := 6) F zd_MPainter_goOverFace_94 (by decide) ?_
      refine zr_iload F zd_MPainter_goOverFace_96 rfl ?_
      refine zr_imul F zd_MPainter_goOverFace_98 ?_
      refine zr_iconstv (v := 2) F zd_MPainter_goOverFace_99 (by decide) ?_
      refine zr_pcn 100 rfl ?_
      refine zr_iadd F zd_MPainter_goOverFace_100 ?_
      obtain ⟨i41, ei41, h⟩ := zoL_s h
      rw [← ei41]
      obtain ⟨le43, hs42, h⟩ := zoS_s h
      obtain ⟨hi44, h⟩ := zoI_s h
      refine zr_lald F zd_MPainter_goOverFace_101 (zW_a2 hs42) hi44 ?_
      obtain ⟨x45, ex45, h⟩ := zoL_s h
      rw [← ex45]
      refine zr_lstore F zd_MPainter_goOverFace_102 (by decide) ?_
      refine zr_aload_n F zd_MPainter_goOverFace_104 rfl ?_
      obtain ⟨le47, hs46, h⟩ := zoS_s h
      obtain ⟨a48, ea48, h⟩ := zoB_s h
      refine zr_get F 13 27 zd_MPainter_goOverFace_105 (zW_o hs46 (by decide)) rfl (by decide) zw_1607 rfl (by rfl) ?_
      refine zr_tor ea48 ?_
      refine zr_iload F zd_MPainter_goOverFace_108 rfl ?_
      refine zr_ldc2 F zd_MPainter_goOverFace_110 zw_2107 ?_
      refine zr_aload_n F zd_MPainter_goOverFace_113 rfl ?_
      refine zr_pcn 114 rfl ?_
      obtain ⟨le50, hs49, h⟩ := zoS_s h
      obtain ⟨a51, ea51, h⟩ := zoB_s h
      refine zr_get F 13 5 zd_MPainter_goOverFace_114 (zW_o hs49 (by decide)) rfl (by decide) zw_1581 rfl (by rfl) ?_
      refine zr_tor ea51 ?_
      obtain ⟨le53, hs52, h⟩ := zoS_s h
      refine zr_get F 15 34 zd_MPainter_goOverFace_117 (zW_o hs52 (by decide)) rfl (by decide) zw_1418 rfl (by rfl) ?_
      refine zr_i2l F zd_MPainter_goOverFace_120 ?_
      refine zr_lmul F zd_MPainter_goOverFace_121 ?_
      refine zr_aload_n F zd_MPainter_goOverFace_122 rfl ?_
      obtain ⟨le55, hs54, h⟩ := zoS_s h
      obtain ⟨a56, ea56, h⟩ := zoB_s h
      refine zr_get F 13 23 zd_MPainter_goOverFace_123 (zW_o hs54 (by decide)) rfl (by decide) zw_1603 rfl (by rfl) ?_
      refine zr_tor ea56 ?_
      refine zr_bipushv (v := 6) F zd_MPainter_goOverFace_126 (by decide) ?_
      refine zr_iload F zd_MPainter_goOverFace_128 rfl ?_
      refine zr_pcn 130 rfl ?_
      refine zr_imul F zd_MPainter_goOverFace_130 ?_
      obtain ⟨i57, ei57, h⟩ := zoL_s h
      rw [← ei57]
      obtain ⟨le59, hs58, h⟩ := zoS_s h
      obtain ⟨hi60, h⟩ := zoI_s h
      refine zr_lald F zd_MPainter_goOverFace_131 (zW_a2 hs58) hi60 ?_
      refine zr_lmul F zd_MPainter_goOverFace_132 ?_
      refine zr_lload F zd_MPainter_goOverFace_133 rfl ?_
      obtain ⟨x61, ex61, h⟩ := zoL_s h
      rw [← ex61]
      obtain ⟨p62, ep62, h⟩ := zoB_s h
      refine zr_callS1 F (k_MPainter_div l D tA b sh _ ep62) zd_MPainter_goOverFace_135 zs_MPainter_103 zq_MPainter_div rfl rfl ⟨(Nat.le_of_ble_eq_true rfl), (Nat.le_of_ble_eq_true rfl)⟩ (Nat.le_of_ble_eq_true rfl) ⟨(Nat.le_of_ble_eq_true rfl), (Nat.le_of_ble_eq_true rfl)⟩ ?_
      refine zr_bipushv (v := 8) F zd_MPainter_goOverFace_138 (by decide) ?_
      refine zr_aload_n F zd_MPainter_goOverFace_140 rfl ?_
      obtain ⟨le64, hs63, h⟩ := zoS_s h
      refine zr_get F 13 1 zd_MPainter_goOverFace_141 (zW_o hs63 (by decide)) rfl (by decide) zw_1577 rfl (by rfl) ?_
      refine zr_pcn 144 rfl ?_
      refine zr_imul F zd_MPainter_goOverFace_144 ?_
      refine zr_i2l F zd_MPainter_goOverFace_145 ?_
      refine zr_ladd F zd_MPainter_goOverFace_146 ?_
      obtain ⟨x65, ex65, h⟩ := zoL_s h
      rw [← ex65]
      obtain ⟨le67, hs66, h⟩ := zoS_s h
      obtain ⟨hi68, h⟩ := zoI_s h
      refine zr_last F zd_MPainter_goOverFace_147 (zW_a2 hs66) hi68 ?_
      obtain ⟨mm69, emm69, h⟩ := zoL_s h
      refine zr_norm (zW tA b sh mm69) _ (by rw [emm69]; exact zW_s2 hs66) rfl ?_
      refine zr_aload_n F zd_MPainter_goOverFace_148 rfl ?_
      obtain ⟨le71, hs70, h⟩ := zoS_s h
      obtain ⟨a72, ea72, h⟩ := zoB_s h
      refine zr_get F 13 28 zd_MPainter_goOverFace_149 (zW_o hs70 (by decide)) rfl (by decide) zw_1608 rfl (by rfl) ?_
      refine zr_tor ea72 ?_
      refine zr_iload F zd_MPainter_goOverFace_152 rfl ?_
      refine zr_ldc2 F zd_MPainter_goOverFace_154 zw_2107 ?_
      refine zr_pcn 157 rfl ?_
      refine zr_aload_n F zd_MPainter_goOverFace_157 rfl ?_
      obtain ⟨le74, hs73, h⟩ := zoS_s h
      obtain ⟨a75, ea75, h⟩ := zoB_s h
      refine zr_get F 13 5 zd_MPainter_goOverFace_158 (zW_o hs73 (by decide)) rfl (by decide) zw_1581 rfl (by rfl) ?_
      refine zr_tor ea75 ?_
      obtain ⟨le77, hs76, h⟩ := zoS_s h
      refine zr_get F 15 34 zd_MPainter_goOverFace_161 (zW_o hs76 (by decide)) rfl (by decide) zw_1418 rfl (by rfl) ?_
      refine zr_i2l F zd_MPainter_goOverFace_164 ?_
      refine zr_lmul F zd_MPainter_goOverFace_165 ?_
      refine zr_aload_n F zd_MPainter_goOverFace_166 rfl ?_
      obtain ⟨le79, hs78, h⟩ := zoS_s h
      obtain ⟨a80, ea80, h⟩ := zoB_s h
      refine zr_get F 13 23 zd_MPainter_goOverFace_167 (zW_o hs78 (by decide)) rfl (by decide) zw_1603 rfl (by rfl) ?_
      refine zr_tor ea80 ?_
      refine zr_bipushv (v := 6) F zd_MPainter_goOverFace_170 (by decide) ?_
      refine zr_pcn 172 rfl ?_
      refine zr_iload F zd_MPainter_goOverFace_172 rfl ?_
      refine zr_imul F zd_MPainter_goOverFace_174 ?_
      refine zr_iconstv (v := 1) F zd_MPainter_goOverFace_175 (by decide) ?_
      refine zr_iadd F zd_MPainter_goOverFace_176 ?_
      obtain ⟨i81, ei81, h⟩ := zoL_s h
      rw [← ei81]
      obtain ⟨le83, hs82, h⟩ := zoS_s h
      obtain ⟨hi84, h⟩ := zoI_s h
      refine zr_lald F zd_MPainter_goOverFace_177 (zW_a2 hs82) hi84 ?_
      refine zr_lmul F zd_MPainter_goOverFace_178 ?_
      refine zr_lload F zd_MPainter_goOverFace_179 rfl ?_
      obtain ⟨x85, ex85, h⟩ := zoL_s h
      rw [← ex85]
      obtain ⟨p86, ep86, h⟩ := zoB_s h
      refine zr_callS1 F (k_MPainter_div l D tA b sh _ ep86) zd_MPainter_goOverFace_181 zs_MPainter_103 zq_MPainter_div rfl rfl ⟨(Nat.le_of_ble_eq_true rfl), (Nat.le_of_ble_eq_true rfl)⟩ (Nat.le_of_ble_eq_true rfl) ⟨(Nat.le_of_ble_eq_true rfl), (Nat.le_of_ble_eq_true rfl)⟩ ?_
      refine zr_pcn 184 rfl ?_
      refine zr_bipushv (v := 8) F zd_MPainter_goOverFace_184 (by decide) ?_
      refine zr_aload_n F zd_MPainter_goOverFace_186 rfl ?_
      obtain ⟨le88, hs87, h⟩ := zoS_s h
      refine zr_get F 13 2 zd_MPainter_goOverFace_187 (zW_o hs87 (by decide)) rfl (by decide) zw_1578 rfl (by rfl) ?_
      refine zr_imul F zd_MPainter_goOverFace_190 ?_
      refine zr_i2l F zd_MPainter_goOverFace_191 ?_
      refine zr_ladd F zd_MPainter_goOverFace_192 ?_
      obtain ⟨x89, ex89, h⟩ := zoL_s h
      rw [← ex89]
      obtain ⟨le91, hs90, h⟩ := zoS_s h
      obtain ⟨hi92, h⟩ := zoI_s h
      refine zr_last F zd_MPainter_goOverFace_193 (zW_a2 hs90) hi92 ?_
      obtain ⟨mm93, emm93, h⟩ := zoL_s h
      refine zr_norm (zW tA b sh mm93) _ (by rw [emm93]; exact zW_s2 hs90) rfl ?_
      refine zr_aload_n F zd_MPainter_goOverFace_194 rfl ?_
      refine zr_pcn 195 rfl ?_
      obtain ⟨le95, hs94, h⟩ := zoS_s h
      obtain ⟨a96, ea96, h⟩ := zoB_s h
      refine zr_get F 13 29 zd_MPainter_goOverFace_195 (zW_o hs94 (by decide)) rfl (by decide) zw_1609 rfl (by rfl) ?_
      refine zr_tor ea96 ?_
      refine zr_iload F zd_MPainter_goOverFace_198 rfl ?_
      refine zr_ldc2 F zd_MPainter_goOverFace_200 zw_2108 ?_
      refine zr_lload F zd_MPainter_goOverFace_203 rfl ?_
      obtain ⟨p97, ep97, h⟩ := zoB_s h
      refine zr_callS1 F (k_MPainter_div l D tA b sh _ ep97) zd_MPainter_goOverFace_205 zs_MPainter_103 zq_MPainter_div rfl rfl ⟨(Nat.le_of_ble_eq_true rfl), (Nat.le_of_ble_eq_true rfl)⟩ (Nat.le_of_ble_eq_true rfl) ⟨(Nat.le_of_ble_eq_true rfl), (Nat.le_of_ble_eq_true rfl)⟩ ?_
      obtain ⟨le99, hs98, h⟩ := zoS_s h
      obtain ⟨hi100, h⟩ := zoI_s h
      refine zr_last F zd_MPainter_goOverFace_208 (zW_a2 hs98) hi100 ?_
      obtain ⟨mm101, emm101, h⟩ := zoL_s h
      refine zr_norm (zW tA b sh mm101) _ (by rw [emm101]; exact zW_s2 hs98) rfl ?_
      refine zr_iinc (v := (v4 + 1)) F zd_MPainter_goOverFace_209 rfl rfl (by decide) ?_
      refine zr_goto F 81 zd_MPainter_goOverFace_212 (by decide) ?_
      refine zr_loc (L' := [(0, .ref (b + v0)), (1, .int v1), (2, .int v2), (4, .int (v4 + 1))]) ⟨rfl, rfl, rfl, rfl, trivial⟩ ?_
      exact ih _ _ _ _ _ _ h hx0
theorem zw_2109 : (Jvm.Cond.methodLink "OrreryBoxModel$Painter" (254 : Nat) ({ cls := "OrreryBoxModel$Painter", name := "goOverPiece", desc := "(III)V" } : Jvm.MethodName)) ∈ gw := gw_t 2109 (by decide +kernel) rfl
theorem zw_2111 : (Jvm.Cond.instanceMethod ({ cls := "OrreryBoxModel$Painter", name := "goOverPiece", desc := "(III)V" } : Jvm.MethodName)) ∈ gw := gw_t 2111 (by decide +kernel) rfl
theorem zv_107 : (Jvm.Cond.selects "OrreryBoxModel$Painter" (⟨"OrreryBoxModel$Painter", "goOverPiece", "(III)V"⟩ : MethodName) ⟨"OrreryBoxModel$Painter", "goOverPiece", "(III)V"⟩) ∈ gw := gw_s 107 (by decide +kernel) rfl
theorem zs_MPainter_254 : zwV "OrreryBoxModel$Painter" 254 "OrreryBoxModel$Painter" zy_MPainter_goOverPiece zb_MPainter_goOverPiece 10 none := ⟨zw_2109, zw_2111, zv_107, zw_17, zc_MPainter_goOverPiece⟩
def L_MPainter_goOverFace_218 (sh : zSh) (fuel : Nat) (v0 : Nat) (v1 : Int32) (v2 : Int32) (v4 : Int32) (mm : zMem) : Option (Nat × Int32 × Int32 × Int32 × zMem) := match fuel with
  | 0 => none
  | fu + 1 => zoS (sh v0) 13 (fun le104 => (if (mm.1 v0 26) ≤ (v4 + 1) then some (v0, v1, v2, v4, mm) else zoS (sh v0) 13 (fun le107 => Option.bind (F_MPainter_goOverPiece sh mm v0 v1 v2 v4) (fun p108 => L_MPainter_goOverFace_218 sh fu v0 v1 v2 (v4 + 1) p108))))
set_option maxHeartbeats 4000000 in
set_option maxRecDepth 100000 in
theorem lp_MPainter_goOverFace_218 {p : Program} {l : Launch} {e : Env} {s : State} {m : MethodId} {args : Array Value} {below : List Frame} {meth : Method} {c : Code} {D : va_G} {tA : Nat → ClassId} {b n : Nat} {post : Option Value → zV → Nat → Prop} {sh : zSh} (F : zF p s m args meth c zb_MPainter_goOverFace 7 "OrreryBoxModel$Painter" D tA b) : ∀ (fuel : Nat) (v0 : Nat) (v1 : Int32) (v2 : Int32) (v4 : Int32) (mm : zMem) (r : Nat × Int32 × Int32 × Int32 × zMem), L_MPainter_goOverFace_218 sh fuel v0 v1 v2 v4 mm = some r → (Z p l e { frames := 7, cells := 0, slots := 0, locals := 242 } s m args below meth c D b 7 (MQ below (zQ D b post) args s 0 0 (fun q => b ≤ q)) (zW tA b sh r.2.2.2.2) n 0 0 243 [(0, .ref (b + (r.1))), (1, .int (r.2.1)), (2, .int (r.2.2.1)), (4, .int (r.2.2.2.1))] []) → Z p l e { frames := 7, cells := 0, slots := 0, locals := 242 } s m args below meth c D b 7 (MQ below (zQ D b post) args s 0 0 (fun q => b ≤ q)) (zW tA b sh mm) n 0 0 218 [(0, .ref (b + v0)), (1, .int v1), (2, .int v2), (4, .int v4)] [] := by
  intro fuel
  induction fuel with
  | zero =>
    intro v0 v1 v2 v4 mm r h
    cases h
  | succ fu ih =>
    intro v0 v1 v2 v4 mm r h hx0
    rw [L_MPainter_goOverFace_218] at h
    refine zr_iload F zd_MPainter_goOverFace_218 rfl ?_
    refine zr_iconstv (v := 1) F zd_MPainter_goOverFace_220 (by decide) ?_
    refine zr_iadd F zd_MPainter_goOverFace_221 ?_
    refine zr_aload_n F zd_MPainter_goOverFace_222 rfl ?_
    obtain ⟨le104, hs103, h⟩ := zoS_s h
    refine zr_get F 13 26 zd_MPainter_goOverFace_223 (zW_o hs103 (by decide)) rfl (by decide) zw_1606 rfl (by rfl) ?_
    refine zr_icmp_ge F 243 zd_MPainter_goOverFace_226 (by decide) (fun hb105 => ?_) (fun hb105 => ?_)
    ·
      rw [if_pos hb105] at h
      obtain rfl := Option.some.inj h
      refine zr_loc (L' := [(0, .ref (b + v0)), (1, .int v1), (2, .int v2), (4, .int v4)]) ⟨rfl, rfl, rfl, rfl, trivial⟩ ?_
      exact hx0 
    ·
      rw [if_neg hb105] at h
      refine zr_pcn 229 rfl ?_
      refine zr_aload_n F zd_MPainter_goOverFace_229 rfl ?_
      refine zr_iload_n F zd_MPainter_goOverFace_230 rfl ?_
      refine zr_iload_n F zd_MPainter_goOverFace_231 rfl ?_
      refine zr_iload F zd_MPainter_goOverFace_232 rfl ?_
      obtain ⟨le107, hs106, h⟩ := zoS_s h
      obtain ⟨p108, ep108, h⟩ := zoB_s h
      refine zr_callV0 F (k_MPainter_goOverPiece l D tA b sh _ ep108) zd_MPainter_goOverFace_234 (zW_o hs106 (by decide)) rfl zs_MPainter_254 rfl zq_MPainter_goOverPiece rfl rfl ⟨(Nat.le_of_ble_eq_true rfl), (Nat.le_of_ble_eq_true rfl)⟩ (Nat.le_of_ble_eq_true rfl) ⟨(Nat.le_of_ble_eq_true rfl), (Nat.le_of_ble_eq_true rfl)⟩ ?_
      refine zr_iinc (v := (v4 + 1)) F zd_MPainter_goOverFace_237 rfl rfl (by decide) ?_
      refine zr_goto F 218 zd_MPainter_goOverFace_240 (by decide) ?_
      refine zr_loc (L' := [(0, .ref (b + v0)), (1, .int v1), (2, .int v2), (4, .int (v4 + 1))]) ⟨rfl, rfl, rfl, rfl, trivial⟩ ?_
      exact ih _ _ _ _ _ _ h hx0
def F_MPainter_goOverFace (sh : zSh) (mm : zMem) (o : Nat) (x0_ : Int32) (x1_ : Int32) : Option zMem := zoS (sh o) 13 (fun le2 => Option.bind (mm.2.2 o 5) (fun a3 => zoS (sh a3) 15 (fun le5 => Option.bind (mm.2.2 a3 20) (fun a6 => zoS (sh a6) 100 (fun le8 => if (x0_ : Int32) < 0 ∨ le8 ≤ (x0_ : Int32).toNatClampNeg then none else zoL (mm.1 a6 (x0_ : Int32).toNatClampNeg) (fun x10 => Option.bind (L_MPainter_goOverFace_13 sh zfuel o x0_ x1_ x10 0 mm) (fun q26 => zoS (sh (q26.1)) 13 (fun le28 => zoL (mI (q26.2.2.2.2.2) (q26.1) 26 3) (fun mm29 => Option.bind (L_MPainter_goOverFace_60 sh zfuel (q26.1) (q26.2.1) (q26.2.2.1) 0 mm29) (fun q34 => Option.bind (L_MPainter_goOverFace_81 sh zfuel (q34.1) (q34.2.1) (q34.2.2.1) 0 (q34.2.2.2.2)) (fun q102 => Option.bind (L_MPainter_goOverFace_218 sh zfuel (q102.1) (q102.2.1) (q102.2.2.1) 1 (q102.2.2.2.2)) (fun q109 => some (q109.2.2.2.2)))))))))))))
set_option maxHeartbeats 4000000 in
set_option maxRecDepth 100000 in
theorem k_MPainter_goOverFace (l : Launch) (D : va_G) (tA : Nat → ClassId) (b : Nat) (sh : zSh) (n : Nat) {mm : zMem} {o : Nat} {x0_ : Int32} {x1_ : Int32} {r : zMem} (h : F_MPainter_goOverFace sh mm o x0_ x1_ = some r) : zM l D tA b zy_MPainter_goOverFace zb_MPainter_goOverFace 7 none 7 242 0 0 [.ref (b + o), .int x0_, .int x1_] (zW tA b sh mm) n (zE none (zW tA b sh r) n) := by
  unfold F_MPainter_goOverFace at h
  refine zM_of (own := "OrreryBoxModel$Painter") (plainFor_of_name (by decide)) rfl (Nat.le_of_ble_eq_true rfl) (fun p e s m below meth c F hr hin hH => ?_)
  refine zr_aload_n F zd_MPainter_goOverFace_0 rfl ?_
  obtain ⟨le2, hs1, h⟩ := zoS_s h
  obtain ⟨a3, ea3, h⟩ := zoB_s h
  refine zr_get F 13 5 zd_MPainter_goOverFace_1 (zW_o hs1 (by decide)) rfl (by decide) zw_1581 rfl (by rfl) ?_
  refine zr_tor ea3 ?_
  obtain ⟨le5, hs4, h⟩ := zoS_s h
  obtain ⟨a6, ea6, h⟩ := zoB_s h
  refine zr_get F 15 20 zd_MPainter_goOverFace_4 (zW_o hs4 (by decide)) rfl (by decide) zw_1377 rfl (by rfl) ?_
  refine zr_tor ea6 ?_
  refine zr_iload_n F zd_MPainter_goOverFace_7 rfl ?_
  obtain ⟨le8, hs7, h⟩ := zoS_s h
  obtain ⟨hi9, h⟩ := zoI_s h
  refine zr_iald F zd_MPainter_goOverFace_8 (zW_a0 hs7) hi9 ?_
  obtain ⟨x10, ex10, h⟩ := zoL_s h
  rw [← ex10]
  refine zr_istore_n F zd_MPainter_goOverFace_9 (by decide) ?_
  refine zr_iconstv (v := 0) F zd_MPainter_goOverFace_10 (by decide) ?_
  refine zr_pcn 11 rfl ?_
  refine zr_istore F zd_MPainter_goOverFace_11 (by decide) ?_
  obtain ⟨q26, eq26, h⟩ := zoB_s h
  refine zr_loc (L' := [(0, .ref (b + o)), (1, .int x0_), (2, .int x1_), (3, .int x10), (4, .int 0)]) ⟨rfl, rfl, rfl, rfl, rfl, trivial⟩ ?_
  refine lp_MPainter_goOverFace_13 F _ _ _ _ _ _ _ _ eq26 ?_
  ·
    refine zr_aload_n F zd_MPainter_goOverFace_52 rfl ?_
    refine zr_pcn 53 rfl ?_
    refine zr_iconstv (v := 3) F zd_MPainter_goOverFace_53 (by decide) ?_
    obtain ⟨le28, hs27, h⟩ := zoS_s h
    refine zr_put F 13 26 zd_MPainter_goOverFace_54 (zW_o hs27 (by decide)) rfl (by decide) zw_1606 rfl rfl rfl rfl (by exact (Nat.le_of_ble_eq_true rfl)) ?_
    obtain ⟨mm29, emm29, h⟩ := zoL_s h
    refine zr_norm (zW tA b sh mm29) _ (by rw [emm29]; exact zW_pI (v := 3) hs27 (by decide) (zf_I_13_26 b _ _ _)) rfl ?_
    refine zr_iconstv (v := 0) F zd_MPainter_goOverFace_57 (by decide) ?_
    refine zr_istore F zd_MPainter_goOverFace_58 (by decide) ?_
    obtain ⟨q34, eq34, h⟩ := zoB_s h
    refine zr_loc (L' := [(0, .ref (b + (q26.1))), (1, .int (q26.2.1)), (2, .int (q26.2.2.1)), (4, .int 0)]) ⟨rfl, rfl, rfl, rfl, trivial⟩ ?_
    refine lp_MPainter_goOverFace_60 F _ _ _ _ _ _ _ eq34 ?_
    ·
      refine zr_iconstv (v := 0) F zd_MPainter_goOverFace_78 (by decide) ?_
      refine zr_istore F zd_MPainter_goOverFace_79 (by decide) ?_
      obtain ⟨q102, eq102, h⟩ := zoB_s h
      refine zr_loc (L' := [(0, .ref (b + (q34.1))), (1, .int (q34.2.1)), (2, .int (q34.2.2.1)), (4, .int 0)]) ⟨rfl, rfl, rfl, rfl, trivial⟩ ?_
      refine lp_MPainter_goOverFace_81 F _ _ _ _ _ _ _ eq102 ?_
      ·
        refine zr_pcn 215 rfl ?_
        refine zr_iconstv (v := 1) F zd_MPainter_goOverFace_215 (by decide) ?_
        refine zr_istore F zd_MPainter_goOverFace_216 (by decide) ?_
        obtain ⟨q109, eq109, h⟩ := zoB_s h
        refine zr_loc (L' := [(0, .ref (b + (q102.1))), (1, .int (q102.2.1)), (2, .int (q102.2.2.1)), (4, .int 1)]) ⟨rfl, rfl, rfl, rfl, trivial⟩ ?_
        refine lp_MPainter_goOverFace_218 F _ _ _ _ _ _ _ eq109 ?_
        ·
          obtain rfl := Option.some.inj h
          exact zr_vret F hr zd_MPainter_goOverFace_243 (Nat.le_of_ble_eq_true rfl) (Nat.le_of_ble_eq_true rfl) ⟨rfl, rfl, rfl⟩
theorem zw_759 : (Jvm.Cond.methodLink "OrreryBox" (171 : Nat) ({ cls := "OrreryBox$Sight", name := "materialNumber", desc := "()I" } : Jvm.MethodName)) ∈ gw := gw_t 759 (by decide +kernel) rfl
theorem zs_OB_171 : zwV "OrreryBox" 171 "OrreryBox$Sight" zy_XSight_materialNumber zb_XSight_materialNumber 1 (some .int) := ⟨zw_759, zw_747, zw_748, zw_10, zc_XSight_materialNumber⟩
theorem zw_760 : (Jvm.Cond.methodLink "OrreryBox" (175 : Nat) ({ cls := "OrreryBox$Picture", name := "keep", desc := "(LOrreryBox$Piece;I)V" } : Jvm.MethodName)) ∈ gw := gw_t 760 (by decide +kernel) rfl
theorem zw_761 : (Jvm.Cond.instanceMethod ({ cls := "OrreryBox$Picture", name := "keep", desc := "(LOrreryBox$Piece;I)V" } : Jvm.MethodName)) ∈ gw := gw_t 761 (by decide +kernel) rfl
theorem zw_762 : (Jvm.Cond.selects "OrreryBox$Picture" ({ cls := "OrreryBox$Picture", name := "keep", desc := "(LOrreryBox$Piece;I)V" } : Jvm.MethodName) ({ cls := "OrreryBox$Picture", name := "keep", desc := "(LOrreryBox$Piece;I)V" } : Jvm.MethodName)) ∈ gw := gw_t 762 (by decide +kernel) rfl
theorem zs_OB_175 : zwV "OrreryBox" 175 "OrreryBox$Picture" zy_XPicture_keep zb_XPicture_keep 3 none := ⟨zw_760, zw_761, zw_762, zw_12, zc_XPicture_keep⟩
def L_OB_begin_35 (sh : zSh) (fuel : Nat) (v0 : Nat) (v1 : Int32) (mm : zMem) : Option (Nat × Int32 × zMem) := match fuel with
  | 0 => none
  | fu + 1 => (if 36864 ≤ v1 then some (v0, v1, mm) else zoS (sh v0) 0 (fun le29 => Option.bind (mm.2.2 v0 7) (fun a30 => zoS (sh a30) 9 (fun le32 => Option.bind (F_XSight_nextPiece sh mm a30) (fun p33 => (if p33.1 = 0 then some (v0, v1, p33.2) else zoS (sh v0) 0 (fun le36 => Option.bind ((p33.2).2.2 v0 8) (fun a37 => zoS (sh v0) 0 (fun le39 => Option.bind ((p33.2).2.2 v0 7) (fun a40 => zoS (sh a40) 9 (fun le42 => Option.bind ((p33.2).2.2 a40 0) (fun a43 => zoS (sh v0) 0 (fun le45 => Option.bind ((p33.2).2.2 v0 7) (fun a46 => zoS (sh a46) 9 (fun le48 => Option.bind (F_XSight_materialNumber sh (p33.2) a46) (fun p49 => zoS (sh a37) 5 (fun le51 => Option.bind (F_XPicture_keep sh (p49.2) a37 a43 (p49.1)) (fun p52 => L_OB_begin_35 sh fu v0 (v1 + 1) p52))))))))))))))))))
set_option maxHeartbeats 4000000 in
set_option maxRecDepth 100000 in
theorem lp_OB_begin_35 {p : Program} {l : Launch} {e : Env} {s : State} {m : MethodId} {args : Array Value} {below : List Frame} {meth : Method} {c : Code} {D : va_G} {tA : Nat → ClassId} {b n : Nat} {post : Option Value → zV → Nat → Prop} {sh : zSh} (F : zF p s m args meth c zb_OB_begin 2 "OrreryBox" D tA b) : ∀ (fuel : Nat) (v0 : Nat) (v1 : Int32) (mm : zMem) (r : Nat × Int32 × zMem), L_OB_begin_35 sh fuel v0 v1 mm = some r → (Z p l e { frames := 6, cells := 0, slots := 0, locals := 155 } s m args below meth c D b 2 (MQ below (zQ D b post) args s 0 0 (fun q => b ≤ q)) (zW tA b sh r.2.2) n 0 0 78 [(0, .ref (b + (r.1))), (1, .int (r.2.1))] []) → Z p l e { frames := 6, cells := 0, slots := 0, locals := 155 } s m args below meth c D b 2 (MQ below (zQ D b post) args s 0 0 (fun q => b ≤ q)) (zW tA b sh mm) n 0 0 35 [(0, .ref (b + v0)), (1, .int v1)] [] := by
  intro fuel
  induction fuel with
  | zero =>
    intro v0 v1 mm r h
    cases h
  | succ fu ih =>
    intro v0 v1 mm r h hx0
    rw [L_OB_begin_35] at h
    refine zr_iload_n F zd_OB_begin_35 rfl ?_
    refine zr_ldc F zd_OB_begin_36 zw_696 ?_
    refine zr_icmp_ge F 78 zd_OB_begin_38 (by decide) (fun hb27 => ?_) (fun hb27 => ?_)
    ·
      rw [if_pos hb27] at h
      obtain rfl := Option.some.inj h
      refine zr_loc (L' := [(0, .ref (b + v0)), (1, .int v1)]) ⟨rfl, rfl, trivial⟩ ?_
      exact hx0 
    ·
      rw [if_neg hb27] at h
      refine zr_aload_n F zd_OB_begin_41 rfl ?_
      obtain ⟨le29, hs28, h⟩ := zoS_s h
      obtain ⟨a30, ea30, h⟩ := zoB_s h
      refine zr_get F 0 7 zd_OB_begin_42 (zW_o hs28 (by decide)) rfl (by decide) zw_495 rfl (by rfl) ?_
      refine zr_tor ea30 ?_
      obtain ⟨le32, hs31, h⟩ := zoS_s h
      obtain ⟨p33, ep33, h⟩ := zoB_s h
      refine zr_callV1 F (k_XSight_nextPiece l D tA b sh _ ep33) zd_OB_begin_45 (zW_o hs31 (by decide)) rfl zs_OB_163 rfl zq_XSight_nextPiece rfl rfl ⟨(Nat.le_of_ble_eq_true rfl), (Nat.le_of_ble_eq_true rfl)⟩ (Nat.le_of_ble_eq_true rfl) ⟨(Nat.le_of_ble_eq_true rfl), (Nat.le_of_ble_eq_true rfl)⟩ ?_
      refine zr_pcn 48 rfl ?_
      refine zr_if_eq F 78 zd_OB_begin_48 (by decide) (fun hb34 => ?_) (fun hb34 => ?_)
      ·
        rw [if_pos hb34] at h
        obtain rfl := Option.some.inj h
        refine zr_loc (L' := [(0, .ref (b + v0)), (1, .int v1)]) ⟨rfl, rfl, trivial⟩ ?_
        exact hx0 
      ·
        rw [if_neg hb34] at h
        refine zr_aload_n F zd_OB_begin_51 rfl ?_
        obtain ⟨le36, hs35, h⟩ := zoS_s h
        obtain ⟨a37, ea37, h⟩ := zoB_s h
        refine zr_get F 0 8 zd_OB_begin_52 (zW_o hs35 (by decide)) rfl (by decide) zw_496 rfl (by rfl) ?_
        refine zr_tor ea37 ?_
        refine zr_aload_n F zd_OB_begin_55 rfl ?_
        obtain ⟨le39, hs38, h⟩ := zoS_s h
        obtain ⟨a40, ea40, h⟩ := zoB_s h
        refine zr_get F 0 7 zd_OB_begin_56 (zW_o hs38 (by decide)) rfl (by decide) zw_495 rfl (by rfl) ?_
        refine zr_tor ea40 ?_
        obtain ⟨le42, hs41, h⟩ := zoS_s h
        obtain ⟨a43, ea43, h⟩ := zoB_s h
        refine zr_get F 9 0 zd_OB_begin_59 (zW_o hs41 (by decide)) rfl (by decide) zw_372 rfl (by rfl) ?_
        refine zr_tor ea43 ?_
        refine zr_aload_n F zd_OB_begin_62 rfl ?_
        obtain ⟨le45, hs44, h⟩ := zoS_s h
        obtain ⟨a46, ea46, h⟩ := zoB_s h
        refine zr_get F 0 7 zd_OB_begin_63 (zW_o hs44 (by decide)) rfl (by decide) zw_495 rfl (by rfl) ?_
        refine zr_tor ea46 ?_
        refine zr_pcn 66 rfl ?_
        obtain ⟨le48, hs47, h⟩ := zoS_s h
        obtain ⟨p49, ep49, h⟩ := zoB_s h
        refine zr_callV1 F (k_XSight_materialNumber l D tA b sh _ ep49) zd_OB_begin_66 (zW_o hs47 (by decide)) rfl zs_OB_171 rfl zq_XSight_materialNumber rfl rfl ⟨(Nat.le_of_ble_eq_true rfl), (Nat.le_of_ble_eq_true rfl)⟩ (Nat.le_of_ble_eq_true rfl) ⟨(Nat.le_of_ble_eq_true rfl), (Nat.le_of_ble_eq_true rfl)⟩ ?_
        obtain ⟨le51, hs50, h⟩ := zoS_s h
        obtain ⟨p52, ep52, h⟩ := zoB_s h
        refine zr_callV0 F (k_XPicture_keep l D tA b sh _ ep52) zd_OB_begin_69 (zW_o hs50 (by decide)) rfl zs_OB_175 rfl zq_XPicture_keep rfl rfl ⟨(Nat.le_of_ble_eq_true rfl), (Nat.le_of_ble_eq_true rfl)⟩ (Nat.le_of_ble_eq_true rfl) ⟨(Nat.le_of_ble_eq_true rfl), (Nat.le_of_ble_eq_true rfl)⟩ ?_
        refine zr_iinc (v := (v1 + 1)) F zd_OB_begin_72 rfl rfl (by decide) ?_
        refine zr_goto F 35 zd_OB_begin_75 (by decide) ?_
        refine zr_loc (L' := [(0, .ref (b + v0)), (1, .int (v1 + 1))]) ⟨rfl, rfl, trivial⟩ ?_
        exact ih _ _ _ _ h hx0
def F_OB_begin (sh : zSh) (mm : zMem) (o : Nat) : Option (Int32 × zMem) := zoS (sh o) 0 (fun le2 => Option.bind (mm.2.2 o 5) (fun a3 => zoS (sh a3) 8 (fun le5 => Option.bind (F_XScene_placeNodes sh mm a3) (fun p6 => zoS (sh o) 0 (fun le8 => Option.bind (p6.2.2 o 7) (fun a9 => zoS (sh o) 0 (fun le11 => Option.bind (p6.2.2 o 5) (fun a12 => zoS (sh a9) 9 (fun le14 => Option.bind (F_XSight_stand sh p6 a9 a12) (fun p15 => zoS (sh o) 0 (fun le17 => Option.bind (p15.2.2 o 8) (fun a18 => zoS (sh o) 0 (fun le20 => Option.bind (p15.2.2 o 5) (fun a21 => zoS (sh o) 0 (fun le23 => zoS (sh a18) 5 (fun le25 => Option.bind (F_XPicture_start sh p15 a18 a21 (p15.1 o 10)) (fun p26 => Option.bind (L_OB_begin_35 sh zfuel o 0 p26) (fun q53 => zoS (sh (q53.1)) 0 (fun le55 => Option.bind ((q53.2.2).2.2 (q53.1) 8) (fun a56 => zoS (sh a56) 5 (fun le58 => some (((q53.2.2).1 a56 0), q53.2.2))))))))))))))))))))))
set_option maxHeartbeats 4000000 in
set_option maxRecDepth 100000 in
theorem k_OB_begin (l : Launch) (D : va_G) (tA : Nat → ClassId) (b : Nat) (sh : zSh) (n : Nat) {mm : zMem} {o : Nat} {r : (Int32 × zMem)} (h : F_OB_begin sh mm o = some r) : zM l D tA b zy_OB_begin zb_OB_begin 2 (some .int) 6 155 0 0 [.ref (b + o)] (zW tA b sh mm) n (zE (some (.int (r.1))) (zW tA b sh r.2) n) := by
  unfold F_OB_begin at h
  refine zM_of (own := "OrreryBox") (plainFor_of_name (by decide)) rfl (Nat.le_of_ble_eq_true rfl) (fun p e s m below meth c F hr hin hH => ?_)
  refine zr_aload_n F zd_OB_begin_0 rfl ?_
  obtain ⟨le2, hs1, h⟩ := zoS_s h
  obtain ⟨a3, ea3, h⟩ := zoB_s h
  refine zr_get F 0 5 zd_OB_begin_1 (zW_o hs1 (by decide)) rfl (by decide) zw_493 rfl (by rfl) ?_
  refine zr_tor ea3 ?_
  obtain ⟨le5, hs4, h⟩ := zoS_s h
  obtain ⟨p6, ep6, h⟩ := zoB_s h
  refine zr_callV0 F (k_XScene_placeNodes l D tA b sh _ ep6) zd_OB_begin_4 (zW_o hs4 (by decide)) rfl zs_OB_148 rfl zq_XScene_placeNodes rfl rfl ⟨(Nat.le_of_ble_eq_true rfl), (Nat.le_of_ble_eq_true rfl)⟩ (Nat.le_of_ble_eq_true rfl) ⟨(Nat.le_of_ble_eq_true rfl), (Nat.le_of_ble_eq_true rfl)⟩ ?_
  refine zr_aload_n F zd_OB_begin_7 rfl ?_
  obtain ⟨le8, hs7, h⟩ := zoS_s h
  obtain ⟨a9, ea9, h⟩ := zoB_s h
  refine zr_get F 0 7 zd_OB_begin_8 (zW_o hs7 (by decide)) rfl (by decide) zw_495 rfl (by rfl) ?_
  refine zr_tor ea9 ?_
  refine zr_aload_n F zd_OB_begin_11 rfl ?_
  obtain ⟨le11, hs10, h⟩ := zoS_s h
  obtain ⟨a12, ea12, h⟩ := zoB_s h
  refine zr_get F 0 5 zd_OB_begin_12 (zW_o hs10 (by decide)) rfl (by decide) zw_493 rfl (by rfl) ?_
  refine zr_tor ea12 ?_
  refine zr_pcn 15 rfl ?_
  obtain ⟨le14, hs13, h⟩ := zoS_s h
  obtain ⟨p15, ep15, h⟩ := zoB_s h
  refine zr_callV0 F (k_XSight_stand l D tA b sh _ ep15) zd_OB_begin_15 (zW_o hs13 (by decide)) rfl zs_OB_154 rfl zq_XSight_stand rfl rfl ⟨(Nat.le_of_ble_eq_true rfl), (Nat.le_of_ble_eq_true rfl)⟩ (Nat.le_of_ble_eq_true rfl) ⟨(Nat.le_of_ble_eq_true rfl), (Nat.le_of_ble_eq_true rfl)⟩ ?_
  refine zr_aload_n F zd_OB_begin_18 rfl ?_
  obtain ⟨le17, hs16, h⟩ := zoS_s h
  obtain ⟨a18, ea18, h⟩ := zoB_s h
  refine zr_get F 0 8 zd_OB_begin_19 (zW_o hs16 (by decide)) rfl (by decide) zw_496 rfl (by rfl) ?_
  refine zr_tor ea18 ?_
  refine zr_aload_n F zd_OB_begin_22 rfl ?_
  obtain ⟨le20, hs19, h⟩ := zoS_s h
  obtain ⟨a21, ea21, h⟩ := zoB_s h
  refine zr_get F 0 5 zd_OB_begin_23 (zW_o hs19 (by decide)) rfl (by decide) zw_493 rfl (by rfl) ?_
  refine zr_tor ea21 ?_
  refine zr_aload_n F zd_OB_begin_26 rfl ?_
  obtain ⟨le23, hs22, h⟩ := zoS_s h
  refine zr_get F 0 10 zd_OB_begin_27 (zW_o hs22 (by decide)) rfl (by decide) zw_498 rfl (by rfl) ?_
  obtain ⟨le25, hs24, h⟩ := zoS_s h
  obtain ⟨p26, ep26, h⟩ := zoB_s h
  refine zr_callV0 F (k_XPicture_start l D tA b sh _ ep26) zd_OB_begin_30 (zW_o hs24 (by decide)) rfl zs_OB_158 rfl zq_XPicture_start rfl rfl ⟨(Nat.le_of_ble_eq_true rfl), (Nat.le_of_ble_eq_true rfl)⟩ (Nat.le_of_ble_eq_true rfl) ⟨(Nat.le_of_ble_eq_true rfl), (Nat.le_of_ble_eq_true rfl)⟩ ?_
  refine zr_pcn 33 rfl ?_
  refine zr_iconstv (v := 0) F zd_OB_begin_33 (by decide) ?_
  refine zr_istore_n F zd_OB_begin_34 (by decide) ?_
  obtain ⟨q53, eq53, h⟩ := zoB_s h
  refine zr_loc (L' := [(0, .ref (b + o)), (1, .int 0)]) ⟨rfl, rfl, trivial⟩ ?_
  refine lp_OB_begin_35 F _ _ _ _ _ eq53 ?_
  ·
    refine zr_aload_n F zd_OB_begin_78 rfl ?_
    obtain ⟨le55, hs54, h⟩ := zoS_s h
    obtain ⟨a56, ea56, h⟩ := zoB_s h
    refine zr_get F 0 8 zd_OB_begin_79 (zW_o hs54 (by decide)) rfl (by decide) zw_496 rfl (by rfl) ?_
    refine zr_tor ea56 ?_
    obtain ⟨le58, hs57, h⟩ := zoS_s h
    refine zr_get F 5 0 zd_OB_begin_82 (zW_o hs57 (by decide)) rfl (by decide) zw_430 rfl (by rfl) ?_
    obtain rfl := Option.some.inj h
    exact zr_iret F hr zd_OB_begin_85 (Nat.le_of_ble_eq_true rfl) (Nat.le_of_ble_eq_true rfl) ⟨rfl, rfl, rfl⟩
theorem zf_I_0_11 (b : Nat) (m : zMem) (k : Nat) (v : Int32) : (zfl b 0 m k).set 11 (.int v) = zfl b 0 (mI m k 11 v) k := by simp [zfl, mI, upd, vp_updL]
theorem zw_880 : (Jvm.Cond.methodLink "OrreryBox" (201 : Nat) ({ cls := "OrreryBox$Piece", name := "mayCover", desc := "(II)Z" } : Jvm.MethodName)) ∈ gw := gw_t 880 (by decide +kernel) rfl
theorem zw_881 : (Jvm.Cond.instanceMethod ({ cls := "OrreryBox$Piece", name := "mayCover", desc := "(II)Z" } : Jvm.MethodName)) ∈ gw := gw_t 881 (by decide +kernel) rfl
theorem zw_882 : (Jvm.Cond.selects "OrreryBox$Piece" ({ cls := "OrreryBox$Piece", name := "mayCover", desc := "(II)Z" } : Jvm.MethodName) ({ cls := "OrreryBox$Piece", name := "mayCover", desc := "(II)Z" } : Jvm.MethodName)) ∈ gw := gw_t 882 (by decide +kernel) rfl
theorem zs_OB_201 : zwV "OrreryBox" 201 "OrreryBox$Piece" zy_XPiece_mayCover zb_XPiece_mayCover 3 (some .boolean) := ⟨zw_880, zw_881, zw_882, zw_11, zc_XPiece_mayCover⟩
theorem zw_886 : (Jvm.Cond.methodLink "OrreryBox" (206 : Nat) ({ cls := "OrreryBox$Piece", name := "covers", desc := "(II)Z" } : Jvm.MethodName)) ∈ gw := gw_t 886 (by decide +kernel) rfl
theorem zs_OB_206 : zwV "OrreryBox" 206 "OrreryBox$Piece" zy_XPiece_covers zb_XPiece_covers 5 (some .boolean) := ⟨zw_886, zw_818, zw_819, zw_11, zc_XPiece_covers⟩
theorem zw_887 : (Jvm.Cond.methodLink "OrreryBox" (209 : Nat) ({ cls := "OrreryBox$Piece", name := "near", desc := "()J" } : Jvm.MethodName)) ∈ gw := gw_t 887 (by decide +kernel) rfl
theorem zs_OB_209 : zwV "OrreryBox" 209 "OrreryBox$Piece" zy_XPiece_near zb_XPiece_near 1 (some .long) := ⟨zw_887, zw_830, zw_831, zw_11, zc_XPiece_near⟩
theorem zw_888 : (Jvm.Cond.methodLink "OrreryBox" (213 : Nat) ({ cls := "OrreryBox$Sight", name := "nodeNumber", desc := "()I" } : Jvm.MethodName)) ∈ gw := gw_t 888 (by decide +kernel) rfl
theorem zw_889 : (Jvm.Cond.instanceMethod ({ cls := "OrreryBox$Sight", name := "nodeNumber", desc := "()I" } : Jvm.MethodName)) ∈ gw := gw_t 889 (by decide +kernel) rfl
theorem zw_890 : (Jvm.Cond.selects "OrreryBox$Sight" ({ cls := "OrreryBox$Sight", name := "nodeNumber", desc := "()I" } : Jvm.MethodName) ({ cls := "OrreryBox$Sight", name := "nodeNumber", desc := "()I" } : Jvm.MethodName)) ∈ gw := gw_t 890 (by decide +kernel) rfl
theorem zs_OB_213 : zwV "OrreryBox" 213 "OrreryBox$Sight" zy_XSight_nodeNumber zb_XSight_nodeNumber 1 (some .int) := ⟨zw_888, zw_889, zw_890, zw_10, zc_XSight_nodeNumber⟩
theorem zw_374 : (Jvm.Cond.fieldLink "OrreryBox" (216 : Nat) "OrreryBox$Sight" "face" "I") ∈ gw := gw_t 374 (by decide +kernel) rfl
def L_OB_pick_51 (sh : zSh) (fuel : Nat) (v0 : Nat) (v1 : Int32) (v2 : Int32) (v3 : Nat) (v4 : Int32) (v5 : Int64) (v7 : Int32) (mm : zMem) : Option (Nat × Int32 × Int32 × Nat × Int32 × Int64 × Int32 × zMem) := match fuel with
  | 0 => none
  | fu + 1 => (if 36864 ≤ v7 then some (v0, v1, v2, v3, v4, v5, v7, mm) else zoS (sh v0) 0 (fun le31 => Option.bind (mm.2.2 v0 7) (fun a32 => zoS (sh a32) 9 (fun le34 => Option.bind (F_XSight_nextPiece sh mm a32) (fun p35 => (if p35.1 = 0 then some (v0, v1, v2, v3, v4, v5, v7, p35.2) else zoS (sh v3) 6 (fun le38 => Option.bind (F_XPiece_mayCover sh (p35.2) v3 v1 v2) (fun p39 => (if p39.1 = 0 then L_OB_pick_51 sh fu v0 v1 v2 v3 v4 v5 (v7 + 1) (p39.2) else zoS (sh v3) 6 (fun le42 => Option.bind (F_XPiece_covers sh (p39.2) v3 v1 v2) (fun p43 => (if p43.1 = 0 then L_OB_pick_51 sh fu v0 v1 v2 v3 v4 v5 (v7 + 1) (p43.2) else zoS (sh v3) 6 (fun le46 => Option.bind (F_XPiece_near sh (p43.2) v3) (fun p47 => (if (lg_cmp p47.1 v5) ≤ 0 then L_OB_pick_51 sh fu v0 v1 v2 v3 v4 v5 (v7 + 1) (p47.2) else zoS (sh v3) 6 (fun le50 => Option.bind (F_XPiece_near sh (p47.2) v3) (fun p51 => zoS (sh v0) 0 (fun le53 => Option.bind ((p51.2).2.2 v0 7) (fun a54 => zoS (sh a54) 9 (fun le56 => Option.bind (F_XSight_nodeNumber sh (p51.2) a54) (fun p57 => zoS (sh v0) 0 (fun le59 => Option.bind ((p57.2).2.2 v0 7) (fun a60 => zoS (sh a60) 9 (fun le62 => zoL ((p57.2).1 a60 1) (fun x63 => zoS (sh v0) 0 (fun le65 => zoL (mI (p57.2) v0 11 x63) (fun mm66 => L_OB_pick_51 sh fu v0 v1 v2 v3 (p57.1) (p51.1) (v7 + 1) mm66)))))))))))))))))))))))))))
set_option maxHeartbeats 4000000 in
set_option maxRecDepth 100000 in
theorem lp_OB_pick_51 {p : Program} {l : Launch} {e : Env} {s : State} {m : MethodId} {args : Array Value} {below : List Frame} {meth : Method} {c : Code} {D : va_G} {tA : Nat → ClassId} {b n : Nat} {post : Option Value → zV → Nat → Prop} {sh : zSh} (F : zF p s m args meth c zb_OB_pick 8 "OrreryBox" D tA b) : ∀ (fuel : Nat) (v0 : Nat) (v1 : Int32) (v2 : Int32) (v3 : Nat) (v4 : Int32) (v5 : Int64) (v7 : Int32) (mm : zMem) (r : Nat × Int32 × Int32 × Nat × Int32 × Int64 × Int32 × zMem), L_OB_pick_51 sh fuel v0 v1 v2 v3 v4 v5 v7 mm = some r → (Z p l e { frames := 6, cells := 0, slots := 0, locals := 155 } s m args below meth c D b 8 (MQ below (zQ D b post) args s 0 0 (fun q => b ≤ q)) (zW tA b sh r.2.2.2.2.2.2.2) n 0 0 128 [(0, .ref (b + (r.1))), (1, .int (r.2.1)), (2, .int (r.2.2.1)), (3, .ref (b + (r.2.2.2.1))), (4, .int (r.2.2.2.2.1)), (5, .long (r.2.2.2.2.2.1)), (7, .int (r.2.2.2.2.2.2.1))] []) → Z p l e { frames := 6, cells := 0, slots := 0, locals := 155 } s m args below meth c D b 8 (MQ below (zQ D b post) args s 0 0 (fun q => b ≤ q)) (zW tA b sh mm) n 0 0 51 [(0, .ref (b + v0)), (1, .int v1), (2, .int v2), (3, .ref (b + v3)), (4, .int v4), (5, .long v5), (7, .int v7)] [] := by
  intro fuel
  induction fuel with
  | zero =>
    intro v0 v1 v2 v3 v4 v5 v7 mm r h
    cases h
  | succ fu ih =>
    intro v0 v1 v2 v3 v4 v5 v7 mm r h hx0
    rw [L_OB_pick_51] at h
    refine zr_iload F zd_OB_pick_51 rfl ?_
    refine zr_ldc F zd_OB_pick_53 zw_696 ?_
    refine zr_icmp_ge F 128 zd_OB_pick_55 (by decide) (fun hb29 => ?_) (fun hb29 => ?_)
    ·
      rw [if_pos hb29] at h
      obtain rfl := Option.some.inj h
      refine zr_loc (L' := [(0, .ref (b + v0)), (1, .int v1), (2, .int v2), (3, .ref (b + v3)), (4, .int v4), (5, .long v5), (7, .int v7)]) ⟨rfl, rfl, rfl, rfl, rfl, rfl, rfl, trivial⟩ ?_
      exact hx0 
    ·
      rw [if_neg hb29] at h
      refine zr_aload_n F zd_OB_pick_58 rfl ?_
      obtain ⟨le31, hs30, h⟩ := zoS_s h
      obtain ⟨a32, ea32, h⟩ := zoB_s h
      refine zr_get F 0 7 zd_OB_pick_59 (zW_o hs30 (by decide)) rfl (by decide) zw_495 rfl (by rfl) ?_
      refine zr_tor ea32 ?_
      refine zr_pcn 62 rfl ?_
      obtain ⟨le34, hs33, h⟩ := zoS_s h
      obtain ⟨p35, ep35, h⟩ := zoB_s h
      refine zr_callV1 F (k_XSight_nextPiece l D tA b sh _ ep35) zd_OB_pick_62 (zW_o hs33 (by decide)) rfl zs_OB_163 rfl zq_XSight_nextPiece rfl rfl ⟨(Nat.le_of_ble_eq_true rfl), (Nat.le_of_ble_eq_true rfl)⟩ (Nat.le_of_ble_eq_true rfl) ⟨(Nat.le_of_ble_eq_true rfl), (Nat.le_of_ble_eq_true rfl)⟩ ?_
      refine zr_if_eq F 128 zd_OB_pick_65 (by decide) (fun hb36 => ?_) (fun hb36 => ?_)
      ·
        rw [if_pos hb36] at h
        obtain rfl := Option.some.inj h
        refine zr_loc (L' := [(0, .ref (b + v0)), (1, .int v1), (2, .int v2), (3, .ref (b + v3)), (4, .int v4), (5, .long v5), (7, .int v7)]) ⟨rfl, rfl, rfl, rfl, rfl, rfl, rfl, trivial⟩ ?_
        exact hx0 
      ·
        rw [if_neg hb36] at h
        refine zr_aload_n F zd_OB_pick_68 rfl ?_
        refine zr_iload_n F zd_OB_pick_69 rfl ?_
        refine zr_iload_n F zd_OB_pick_70 rfl ?_
        obtain ⟨le38, hs37, h⟩ := zoS_s h
        obtain ⟨p39, ep39, h⟩ := zoB_s h
        refine zr_callV1 F (k_XPiece_mayCover l D tA b sh _ ep39) zd_OB_pick_71 (zW_o hs37 (by decide)) rfl zs_OB_201 rfl zq_XPiece_mayCover rfl rfl ⟨(Nat.le_of_ble_eq_true rfl), (Nat.le_of_ble_eq_true rfl)⟩ (Nat.le_of_ble_eq_true rfl) ⟨(Nat.le_of_ble_eq_true rfl), (Nat.le_of_ble_eq_true rfl)⟩ ?_
        refine zr_if_eq F 122 zd_OB_pick_74 (by decide) (fun hb40 => ?_) (fun hb40 => ?_)
        ·
          rw [if_pos hb40] at h
          refine zr_iinc (v := (v7 + 1)) F zd_OB_pick_122 rfl rfl (by decide) ?_
          refine zr_pcn 125 rfl ?_
          refine zr_goto F 51 zd_OB_pick_125 (by decide) ?_
          refine zr_loc (L' := [(0, .ref (b + v0)), (1, .int v1), (2, .int v2), (3, .ref (b + v3)), (4, .int v4), (5, .long v5), (7, .int (v7 + 1))]) ⟨rfl, rfl, rfl, rfl, rfl, rfl, rfl, trivial⟩ ?_
          exact ih _ _ _ _ _ _ _ _ _ h hx0
        ·
          rw [if_neg hb40] at h
          refine zr_aload_n F zd_OB_pick_77 rfl ?_
          refine zr_iload_n F zd_OB_pick_78 rfl ?_
          refine zr_iload_n F zd_OB_pick_79 rfl ?_
          obtain ⟨le42, hs41, h⟩ := zoS_s h
          obtain ⟨p43, ep43, h⟩ := zoB_s h
          refine zr_callV1 F (k_XPiece_covers l D tA b sh _ ep43) zd_OB_pick_80 (zW_o hs41 (by decide)) rfl zs_OB_206 rfl zq_XPiece_covers rfl rfl ⟨(Nat.le_of_ble_eq_true rfl), (Nat.le_of_ble_eq_true rfl)⟩ (Nat.le_of_ble_eq_true rfl) ⟨(Nat.le_of_ble_eq_true rfl), (Nat.le_of_ble_eq_true rfl)⟩ ?_
          refine zr_if_eq F 122 zd_OB_pick_83 (by decide) (fun hb44 => ?_) (fun hb44 => ?_)
          ·
            rw [if_pos hb44] at h
            refine zr_iinc (v := (v7 + 1)) F zd_OB_pick_122 rfl rfl (by decide) ?_
            refine zr_goto F 51 zd_OB_pick_125 (by decide) ?_
            refine zr_loc (L' := [(0, .ref (b + v0)), (1, .int v1), (2, .int v2), (3, .ref (b + v3)), (4, .int v4), (5, .long v5), (7, .int (v7 + 1))]) ⟨rfl, rfl, rfl, rfl, rfl, rfl, rfl, trivial⟩ ?_
            exact ih _ _ _ _ _ _ _ _ _ h hx0
          ·
            rw [if_neg hb44] at h
            refine zr_pcn 86 rfl ?_
            refine zr_aload_n F zd_OB_pick_86 rfl ?_
            obtain ⟨le46, hs45, h⟩ := zoS_s h
            obtain ⟨p47, ep47, h⟩ := zoB_s h
            refine zr_callV1 F (k_XPiece_near l D tA b sh _ ep47) zd_OB_pick_87 (zW_o hs45 (by decide)) rfl zs_OB_209 rfl zq_XPiece_near rfl rfl ⟨(Nat.le_of_ble_eq_true rfl), (Nat.le_of_ble_eq_true rfl)⟩ (Nat.le_of_ble_eq_true rfl) ⟨(Nat.le_of_ble_eq_true rfl), (Nat.le_of_ble_eq_true rfl)⟩ ?_
            refine zr_lload F zd_OB_pick_90 rfl ?_
            refine zr_lcmp F zd_OB_pick_92 ?_
            refine zr_if_le F 122 zd_OB_pick_93 (by decide) (fun hb48 => ?_) (fun hb48 => ?_)
            ·
              rw [if_pos hb48] at h
              refine zr_iinc (v := (v7 + 1)) F zd_OB_pick_122 rfl rfl (by decide) ?_
              refine zr_goto F 51 zd_OB_pick_125 (by decide) ?_
              refine zr_loc (L' := [(0, .ref (b + v0)), (1, .int v1), (2, .int v2), (3, .ref (b + v3)), (4, .int v4), (5, .long v5), (7, .int (v7 + 1))]) ⟨rfl, rfl, rfl, rfl, rfl, rfl, rfl, trivial⟩ ?_
              exact ih _ _ _ _ _ _ _ _ _ h hx0
            ·
              rw [if_neg hb48] at h
              refine zr_aload_n F zd_OB_pick_96 rfl ?_
              refine zr_pcn 97 rfl ?_
              obtain ⟨le50, hs49, h⟩ := zoS_s h
              obtain ⟨p51, ep51, h⟩ := zoB_s h
              refine zr_callV1 F (k_XPiece_near l D tA b sh _ ep51) zd_OB_pick_97 (zW_o hs49 (by decide)) rfl zs_OB_209 rfl zq_XPiece_near rfl rfl ⟨(Nat.le_of_ble_eq_true rfl), (Nat.le_of_ble_eq_true rfl)⟩ (Nat.le_of_ble_eq_true rfl) ⟨(Nat.le_of_ble_eq_true rfl), (Nat.le_of_ble_eq_true rfl)⟩ ?_
              refine zr_lstore F zd_OB_pick_100 (by decide) ?_
              refine zr_aload_n F zd_OB_pick_102 rfl ?_
              obtain ⟨le53, hs52, h⟩ := zoS_s h
              obtain ⟨a54, ea54, h⟩ := zoB_s h
              refine zr_get F 0 7 zd_OB_pick_103 (zW_o hs52 (by decide)) rfl (by decide) zw_495 rfl (by rfl) ?_
              refine zr_tor ea54 ?_
              obtain ⟨le56, hs55, h⟩ := zoS_s h
              obtain ⟨p57, ep57, h⟩ := zoB_s h
              refine zr_callV1 F (k_XSight_nodeNumber l D tA b sh _ ep57) zd_OB_pick_106 (zW_o hs55 (by decide)) rfl zs_OB_213 rfl zq_XSight_nodeNumber rfl rfl ⟨(Nat.le_of_ble_eq_true rfl), (Nat.le_of_ble_eq_true rfl)⟩ (Nat.le_of_ble_eq_true rfl) ⟨(Nat.le_of_ble_eq_true rfl), (Nat.le_of_ble_eq_true rfl)⟩ ?_
              refine zr_istore F zd_OB_pick_109 (by decide) ?_
              refine zr_aload_n F zd_OB_pick_111 rfl ?_
              refine zr_aload_n F zd_OB_pick_112 rfl ?_
              refine zr_pcn 113 rfl ?_
              obtain ⟨le59, hs58, h⟩ := zoS_s h
              obtain ⟨a60, ea60, h⟩ := zoB_s h
              refine zr_get F 0 7 zd_OB_pick_113 (zW_o hs58 (by decide)) rfl (by decide) zw_495 rfl (by rfl) ?_
              refine zr_tor ea60 ?_
              obtain ⟨le62, hs61, h⟩ := zoS_s h
              refine zr_get F 9 1 zd_OB_pick_116 (zW_o hs61 (by decide)) rfl (by decide) zw_374 rfl (by rfl) ?_
              obtain ⟨x63, ex63, h⟩ := zoL_s h
              rw [← ex63]
              obtain ⟨le65, hs64, h⟩ := zoS_s h
              refine zr_put F 0 11 zd_OB_pick_119 (zW_o hs64 (by decide)) rfl (by decide) zw_499 rfl rfl rfl rfl (by exact (Nat.le_of_ble_eq_true rfl)) ?_
              obtain ⟨mm66, emm66, h⟩ := zoL_s h
              refine zr_norm (zW tA b sh mm66) _ (by rw [emm66]; exact zW_pI (v := x63) hs64 (by decide) (zf_I_0_11 b _ _ _)) rfl ?_
              refine zr_iinc (v := (v7 + 1)) F zd_OB_pick_122 rfl rfl (by decide) ?_
              refine zr_goto F 51 zd_OB_pick_125 (by decide) ?_
              refine zr_loc (L' := [(0, .ref (b + v0)), (1, .int v1), (2, .int v2), (3, .ref (b + v3)), (4, .int (p57.1)), (5, .long (p51.1)), (7, .int (v7 + 1))]) ⟨rfl, rfl, rfl, rfl, rfl, rfl, rfl, trivial⟩ ?_
              exact ih _ _ _ _ _ _ _ _ _ h hx0
def F_OB_pick (sh : zSh) (mm : zMem) (o : Nat) (x0_ : Int32) (x1_ : Int32) : Option (Int32 × zMem) := zoS (sh o) 0 (fun le2 => zoL (mI mm o 11 (-1)) (fun mm3 => zoS (sh o) 0 (fun le5 => Option.bind (F_OB_hasPixel sh mm3 o x0_ x1_) (fun p6 => (if p6.1 = 0 then some ((-1), p6.2) else zoS (sh o) 0 (fun le9 => Option.bind ((p6.2).2.2 o 5) (fun a10 => zoS (sh a10) 8 (fun le12 => Option.bind (F_XScene_placeNodes sh (p6.2) a10) (fun p13 => zoS (sh o) 0 (fun le15 => Option.bind (p13.2.2 o 7) (fun a16 => zoS (sh o) 0 (fun le18 => Option.bind (p13.2.2 o 5) (fun a19 => zoS (sh a16) 9 (fun le21 => Option.bind (F_XSight_stand sh p13 a16 a19) (fun p22 => zoS (sh o) 0 (fun le24 => Option.bind (p22.2.2 o 7) (fun a25 => zoS (sh a25) 9 (fun le27 => Option.bind (p22.2.2 a25 0) (fun a28 => Option.bind (L_OB_pick_51 sh zfuel o x0_ x1_ a28 (-1) 0 0 p22) (fun q67 => some (q67.2.2.2.2.1, q67.2.2.2.2.2.2.2)))))))))))))))))))))
set_option maxHeartbeats 4000000 in
set_option maxRecDepth 100000 in
theorem k_OB_pick (l : Launch) (D : va_G) (tA : Nat → ClassId) (b : Nat) (sh : zSh) (n : Nat) {mm : zMem} {o : Nat} {x0_ : Int32} {x1_ : Int32} {r : (Int32 × zMem)} (h : F_OB_pick sh mm o x0_ x1_ = some r) : zM l D tA b zy_OB_pick zb_OB_pick 8 (some .int) 6 155 0 0 [.ref (b + o), .int x0_, .int x1_] (zW tA b sh mm) n (zE (some (.int (r.1))) (zW tA b sh r.2) n) := by
  unfold F_OB_pick at h
  refine zM_of (own := "OrreryBox") (plainFor_of_name (by decide)) rfl (Nat.le_of_ble_eq_true rfl) (fun p e s m below meth c F hr hin hH => ?_)
  refine zr_aload_n F zd_OB_pick_0 rfl ?_
  refine zr_iconstv (v := (-1)) F zd_OB_pick_1 (by decide) ?_
  obtain ⟨le2, hs1, h⟩ := zoS_s h
  refine zr_put F 0 11 zd_OB_pick_2 (zW_o hs1 (by decide)) rfl (by decide) zw_499 rfl rfl rfl rfl (by exact (Nat.le_of_ble_eq_true rfl)) ?_
  obtain ⟨mm3, emm3, h⟩ := zoL_s h
  refine zr_norm (zW tA b sh mm3) _ (by rw [emm3]; exact zW_pI (v := (-1)) hs1 (by decide) (zf_I_0_11 b _ _ _)) rfl ?_
  refine zr_aload_n F zd_OB_pick_5 rfl ?_
  refine zr_iload_n F zd_OB_pick_6 rfl ?_
  refine zr_iload_n F zd_OB_pick_7 rfl ?_
  obtain ⟨le5, hs4, h⟩ := zoS_s h
  obtain ⟨p6, ep6, h⟩ := zoB_s h
  refine zr_callV1 F (k_OB_hasPixel l D tA b sh _ ep6) zd_OB_pick_8 (zW_o hs4 (by decide)) rfl zs_OB_188 rfl zq_OB_hasPixel rfl rfl ⟨(Nat.le_of_ble_eq_true rfl), (Nat.le_of_ble_eq_true rfl)⟩ (Nat.le_of_ble_eq_true rfl) ⟨(Nat.le_of_ble_eq_true rfl), (Nat.le_of_ble_eq_true rfl)⟩ ?_
  refine zr_pcn 11 rfl ?_
  refine zr_if_ne F 16 zd_OB_pick_11 (by decide) (fun hb7 => ?_) (fun hb7 => ?_)
  ·
    rw [if_neg hb7] at h
    refine zr_aload_n F zd_OB_pick_16 rfl ?_
    obtain ⟨le9, hs8, h⟩ := zoS_s h
    obtain ⟨a10, ea10, h⟩ := zoB_s h
    refine zr_get F 0 5 zd_OB_pick_17 (zW_o hs8 (by decide)) rfl (by decide) zw_493 rfl (by rfl) ?_
    refine zr_tor ea10 ?_
    obtain ⟨le12, hs11, h⟩ := zoS_s h
    obtain ⟨p13, ep13, h⟩ := zoB_s h
    refine zr_callV0 F (k_XScene_placeNodes l D tA b sh _ ep13) zd_OB_pick_20 (zW_o hs11 (by decide)) rfl zs_OB_148 rfl zq_XScene_placeNodes rfl rfl ⟨(Nat.le_of_ble_eq_true rfl), (Nat.le_of_ble_eq_true rfl)⟩ (Nat.le_of_ble_eq_true rfl) ⟨(Nat.le_of_ble_eq_true rfl), (Nat.le_of_ble_eq_true rfl)⟩ ?_
    refine zr_aload_n F zd_OB_pick_23 rfl ?_
    obtain ⟨le15, hs14, h⟩ := zoS_s h
    obtain ⟨a16, ea16, h⟩ := zoB_s h
    refine zr_get F 0 7 zd_OB_pick_24 (zW_o hs14 (by decide)) rfl (by decide) zw_495 rfl (by rfl) ?_
    refine zr_tor ea16 ?_
    refine zr_aload_n F zd_OB_pick_27 rfl ?_
    obtain ⟨le18, hs17, h⟩ := zoS_s h
    obtain ⟨a19, ea19, h⟩ := zoB_s h
    refine zr_get F 0 5 zd_OB_pick_28 (zW_o hs17 (by decide)) rfl (by decide) zw_493 rfl (by rfl) ?_
    refine zr_tor ea19 ?_
    refine zr_pcn 31 rfl ?_
    obtain ⟨le21, hs20, h⟩ := zoS_s h
    obtain ⟨p22, ep22, h⟩ := zoB_s h
    refine zr_callV0 F (k_XSight_stand l D tA b sh _ ep22) zd_OB_pick_31 (zW_o hs20 (by decide)) rfl zs_OB_154 rfl zq_XSight_stand rfl rfl ⟨(Nat.le_of_ble_eq_true rfl), (Nat.le_of_ble_eq_true rfl)⟩ (Nat.le_of_ble_eq_true rfl) ⟨(Nat.le_of_ble_eq_true rfl), (Nat.le_of_ble_eq_true rfl)⟩ ?_
    refine zr_aload_n F zd_OB_pick_34 rfl ?_
    obtain ⟨le24, hs23, h⟩ := zoS_s h
    obtain ⟨a25, ea25, h⟩ := zoB_s h
    refine zr_get F 0 7 zd_OB_pick_35 (zW_o hs23 (by decide)) rfl (by decide) zw_495 rfl (by rfl) ?_
    refine zr_tor ea25 ?_
    obtain ⟨le27, hs26, h⟩ := zoS_s h
    obtain ⟨a28, ea28, h⟩ := zoB_s h
    refine zr_get F 9 0 zd_OB_pick_38 (zW_o hs26 (by decide)) rfl (by decide) zw_372 rfl (by rfl) ?_
    refine zr_tor ea28 ?_
    refine zr_astore_n F zd_OB_pick_41 (by decide) ?_
    refine zr_iconstv (v := (-1)) F zd_OB_pick_42 (by decide) ?_
    refine zr_istore F zd_OB_pick_43 (by decide) ?_
    refine zr_lconstv (v := 0) F zd_OB_pick_45 (by decide) ?_
    refine zr_pcn 46 rfl ?_
    refine zr_lstore F zd_OB_pick_46 (by decide) ?_
    refine zr_iconstv (v := 0) F zd_OB_pick_48 (by decide) ?_
    refine zr_istore F zd_OB_pick_49 (by decide) ?_
    obtain ⟨q67, eq67, h⟩ := zoB_s h
    refine zr_loc (L' := [(0, .ref (b + o)), (1, .int x0_), (2, .int x1_), (3, .ref (b + a28)), (4, .int (-1)), (5, .long 0), (7, .int 0)]) ⟨rfl, rfl, rfl, rfl, rfl, rfl, rfl, trivial⟩ ?_
    refine lp_OB_pick_51 F _ _ _ _ _ _ _ _ _ _ eq67 ?_
    ·
      refine zr_iload F zd_OB_pick_128 rfl ?_
      obtain rfl := Option.some.inj h
      exact zr_iret F hr zd_OB_pick_130 (Nat.le_of_ble_eq_true rfl) (Nat.le_of_ble_eq_true rfl) ⟨rfl, rfl, rfl⟩
  ·
    rw [if_pos hb7] at h
    refine zr_iconstv (v := (-1)) F zd_OB_pick_14 (by decide) ?_
    refine zr_pcn 15 rfl ?_
    obtain rfl := Option.some.inj h
    exact zr_iret F hr zd_OB_pick_15 (Nat.le_of_ble_eq_true rfl) (Nat.le_of_ble_eq_true rfl) ⟨rfl, rfl, rfl⟩
abbrev zb_XPicture_drawTile : ByteArray := prog_6_method_7_code
def zy_XPicture_drawTile : MethodName := ⟨"OrreryBox$Picture", "drawTile", "(I)V"⟩
theorem zc_XPicture_drawTile : Cond.code zy_XPicture_drawTile zb_XPicture_drawTile 3 none ∈ gw := gw_t 779 (by decide +kernel) rfl
theorem zq_XPicture_drawTile : zy_XPicture_drawTile.cls ≠ "java/lang/invoke/MethodHandle" ∧ zy_XPicture_drawTile.cls ≠ "java/lang/invoke/VarHandle" ∧ (parseMethodDescriptor zy_XPicture_drawTile.desc).map (fun d => d.parameters.length) = some 1 := by decide +kernel
theorem zd_XPicture_drawTile_0 : decode zb_XPicture_drawTile 0 = .ok (.aload_n 0, 1) := by decide +kernel
theorem zd_XPicture_drawTile_1 : decode zb_XPicture_drawTile 1 = .ok (.iload_n 1, 1) := by decide +kernel
theorem zd_XPicture_drawTile_2 : decode zb_XPicture_drawTile 2 = .ok (.aload_n 0, 1) := by decide +kernel
theorem zd_XPicture_drawTile_3 : decode zb_XPicture_drawTile 3 = .ok (.getfield 35, 3) := by decide +kernel
theorem zd_XPicture_drawTile_6 : decode zb_XPicture_drawTile 6 = .ok (.irem, 1) := by decide +kernel
theorem zd_XPicture_drawTile_7 : decode zb_XPicture_drawTile 7 = .ok (.bipush 8, 2) := by decide +kernel
theorem zd_XPicture_drawTile_9 : decode zb_XPicture_drawTile 9 = .ok (.imul, 1) := by decide +kernel
theorem zd_XPicture_drawTile_10 : decode zb_XPicture_drawTile 10 = .ok (.putfield 69, 3) := by decide +kernel
theorem zd_XPicture_drawTile_13 : decode zb_XPicture_drawTile 13 = .ok (.aload_n 0, 1) := by decide +kernel
theorem zd_XPicture_drawTile_14 : decode zb_XPicture_drawTile 14 = .ok (.iload_n 1, 1) := by decide +kernel
theorem zd_XPicture_drawTile_15 : decode zb_XPicture_drawTile 15 = .ok (.aload_n 0, 1) := by decide +kernel
theorem zd_XPicture_drawTile_16 : decode zb_XPicture_drawTile 16 = .ok (.getfield 35, 3) := by decide +kernel
theorem zd_XPicture_drawTile_19 : decode zb_XPicture_drawTile 19 = .ok (.idiv, 1) := by decide +kernel
theorem zd_XPicture_drawTile_20 : decode zb_XPicture_drawTile 20 = .ok (.bipush 8, 2) := by decide +kernel
theorem zd_XPicture_drawTile_22 : decode zb_XPicture_drawTile 22 = .ok (.imul, 1) := by decide +kernel
theorem zd_XPicture_drawTile_23 : decode zb_XPicture_drawTile 23 = .ok (.putfield 72, 3) := by decide +kernel
theorem zd_XPicture_drawTile_26 : decode zb_XPicture_drawTile 26 = .ok (.aload_n 0, 1) := by decide +kernel
theorem zd_XPicture_drawTile_27 : decode zb_XPicture_drawTile 27 = .ok (.aload_n 0, 1) := by decide +kernel
theorem zd_XPicture_drawTile_28 : decode zb_XPicture_drawTile 28 = .ok (.getfield 69, 3) := by decide +kernel
theorem zd_XPicture_drawTile_31 : decode zb_XPicture_drawTile 31 = .ok (.bipush 8, 2) := by decide +kernel
theorem zd_XPicture_drawTile_33 : decode zb_XPicture_drawTile 33 = .ok (.iadd, 1) := by decide +kernel
theorem zd_XPicture_drawTile_34 : decode zb_XPicture_drawTile 34 = .ok (.aload_n 0, 1) := by decide +kernel
theorem zd_XPicture_drawTile_35 : decode zb_XPicture_drawTile 35 = .ok (.getfield 28, 3) := by decide +kernel
theorem zd_XPicture_drawTile_38 : decode zb_XPicture_drawTile 38 = .ok (.invokestatic 75, 3) := by decide +kernel
theorem zd_XPicture_drawTile_41 : decode zb_XPicture_drawTile 41 = .ok (.iconst 1, 1) := by decide +kernel
theorem zd_XPicture_drawTile_42 : decode zb_XPicture_drawTile 42 = .ok (.isub, 1) := by decide +kernel
theorem zd_XPicture_drawTile_43 : decode zb_XPicture_drawTile 43 = .ok (.putfield 81, 3) := by decide +kernel
theorem zd_XPicture_drawTile_46 : decode zb_XPicture_drawTile 46 = .ok (.aload_n 0, 1) := by decide +kernel
theorem zd_XPicture_drawTile_47 : decode zb_XPicture_drawTile 47 = .ok (.aload_n 0, 1) := by decide +kernel
theorem zd_XPicture_drawTile_48 : decode zb_XPicture_drawTile 48 = .ok (.getfield 72, 3) := by decide +kernel
theorem zd_XPicture_drawTile_51 : decode zb_XPicture_drawTile 51 = .ok (.bipush 8, 2) := by decide +kernel
theorem zd_XPicture_drawTile_53 : decode zb_XPicture_drawTile 53 = .ok (.iadd, 1) := by decide +kernel
theorem zd_XPicture_drawTile_54 : decode zb_XPicture_drawTile 54 = .ok (.aload_n 0, 1) := by decide +kernel
theorem zd_XPicture_drawTile_55 : decode zb_XPicture_drawTile 55 = .ok (.getfield 32, 3) := by decide +kernel
theorem zd_XPicture_drawTile_58 : decode zb_XPicture_drawTile 58 = .ok (.invokestatic 75, 3) := by decide +kernel
theorem zd_XPicture_drawTile_61 : decode zb_XPicture_drawTile 61 = .ok (.iconst 1, 1) := by decide +kernel
theorem zd_XPicture_drawTile_62 : decode zb_XPicture_drawTile 62 = .ok (.isub, 1) := by decide +kernel
theorem zd_XPicture_drawTile_63 : decode zb_XPicture_drawTile 63 = .ok (.putfield 84, 3) := by decide +kernel
theorem zd_XPicture_drawTile_66 : decode zb_XPicture_drawTile 66 = .ok (.aload_n 0, 1) := by decide +kernel
theorem zd_XPicture_drawTile_67 : decode zb_XPicture_drawTile 67 = .ok (.invokevirtual 87, 3) := by decide +kernel
theorem zd_XPicture_drawTile_70 : decode zb_XPicture_drawTile 70 = .ok (.iconst 0, 1) := by decide +kernel
theorem zd_XPicture_drawTile_71 : decode zb_XPicture_drawTile 71 = .ok (.istore_n 2, 1) := by decide +kernel
theorem zd_XPicture_drawTile_72 : decode zb_XPicture_drawTile 72 = .ok (.iload_n 2, 1) := by decide +kernel
theorem zd_XPicture_drawTile_73 : decode zb_XPicture_drawTile 73 = .ok (.aload_n 0, 1) := by decide +kernel
theorem zd_XPicture_drawTile_74 : decode zb_XPicture_drawTile 74 = .ok (.getfield 62, 3) := by decide +kernel
theorem zd_XPicture_drawTile_77 : decode zb_XPicture_drawTile 77 = .ok (.if_icmp .ge 42, 3) := by decide +kernel
theorem zd_XPicture_drawTile_80 : decode zb_XPicture_drawTile 80 = .ok (.aload_n 0, 1) := by decide +kernel
theorem zd_XPicture_drawTile_81 : decode zb_XPicture_drawTile 81 = .ok (.getfield 24, 3) := by decide +kernel
theorem zd_XPicture_drawTile_84 : decode zb_XPicture_drawTile 84 = .ok (.aload_n 0, 1) := by decide +kernel
theorem zd_XPicture_drawTile_85 : decode zb_XPicture_drawTile 85 = .ok (.getfield 10, 3) := by decide +kernel
theorem zd_XPicture_drawTile_88 : decode zb_XPicture_drawTile 88 = .ok (.bipush 18, 2) := by decide +kernel
theorem zd_XPicture_drawTile_90 : decode zb_XPicture_drawTile 90 = .ok (.iload_n 2, 1) := by decide +kernel
theorem zd_XPicture_drawTile_91 : decode zb_XPicture_drawTile 91 = .ok (.imul, 1) := by decide +kernel
theorem zd_XPicture_drawTile_92 : decode zb_XPicture_drawTile 92 = .ok (.invokevirtual 90, 3) := by decide +kernel
theorem zd_XPicture_drawTile_95 : decode zb_XPicture_drawTile 95 = .ok (.aload_n 0, 1) := by decide +kernel
theorem zd_XPicture_drawTile_96 : decode zb_XPicture_drawTile 96 = .ok (.aload_n 0, 1) := by decide +kernel
theorem zd_XPicture_drawTile_97 : decode zb_XPicture_drawTile 97 = .ok (.getfield 47, 3) := by decide +kernel
theorem zd_XPicture_drawTile_100 : decode zb_XPicture_drawTile 100 = .ok (.getfield 93, 3) := by decide +kernel
theorem zd_XPicture_drawTile_103 : decode zb_XPicture_drawTile 103 = .ok (.aload_n 0, 1) := by decide +kernel
theorem zd_XPicture_drawTile_104 : decode zb_XPicture_drawTile 104 = .ok (.getfield 17, 3) := by decide +kernel
theorem zd_XPicture_drawTile_107 : decode zb_XPicture_drawTile 107 = .ok (.iload_n 2, 1) := by decide +kernel
theorem zd_XPicture_drawTile_108 : decode zb_XPicture_drawTile 108 = .ok (.baload, 1) := by decide +kernel
theorem zd_XPicture_drawTile_109 : decode zb_XPicture_drawTile 109 = .ok (.aaload, 1) := by decide +kernel
theorem zd_XPicture_drawTile_110 : decode zb_XPicture_drawTile 110 = .ok (.invokevirtual 99, 3) := by decide +kernel
theorem zd_XPicture_drawTile_113 : decode zb_XPicture_drawTile 113 = .ok (.iinc 2 1, 3) := by decide +kernel
theorem zd_XPicture_drawTile_116 : decode zb_XPicture_drawTile 116 = .ok (.goto (-44), 3) := by decide +kernel
theorem zd_XPicture_drawTile_119 : decode zb_XPicture_drawTile 119 = .ok (.aload_n 0, 1) := by decide +kernel
theorem zd_XPicture_drawTile_120 : decode zb_XPicture_drawTile 120 = .ok (.dup, 1) := by decide +kernel
theorem zd_XPicture_drawTile_121 : decode zb_XPicture_drawTile 121 = .ok (.getfield 58, 3) := by decide +kernel
theorem zd_XPicture_drawTile_124 : decode zb_XPicture_drawTile 124 = .ok (.lconst 1, 1) := by decide +kernel
theorem zd_XPicture_drawTile_125 : decode zb_XPicture_drawTile 125 = .ok (.iload_n 1, 1) := by decide +kernel
theorem zd_XPicture_drawTile_126 : decode zb_XPicture_drawTile 126 = .ok (.lshl, 1) := by decide +kernel
theorem zd_XPicture_drawTile_127 : decode zb_XPicture_drawTile 127 = .ok (.lor, 1) := by decide +kernel
theorem zd_XPicture_drawTile_128 : decode zb_XPicture_drawTile 128 = .ok (.putfield 58, 3) := by decide +kernel
theorem zd_XPicture_drawTile_131 : decode zb_XPicture_drawTile 131 = .ok (.return_, 1) := by decide +kernel
theorem zf_I_5_14 (b : Nat) (m : zMem) (k : Nat) (v : Int32) : (zfl b 5 m k).set 14 (.int v) = zfl b 5 (mI m k 14 v) k := by simp [zfl, mI, upd, vp_updL]
theorem zf_I_5_15 (b : Nat) (m : zMem) (k : Nat) (v : Int32) : (zfl b 5 m k).set 15 (.int v) = zfl b 5 (mI m k 15 v) k := by simp [zfl, mI, upd, vp_updL]
theorem zf_I_5_16 (b : Nat) (m : zMem) (k : Nat) (v : Int32) : (zfl b 5 m k).set 16 (.int v) = zfl b 5 (mI m k 16 v) k := by simp [zfl, mI, upd, vp_updL]
theorem zf_I_5_17 (b : Nat) (m : zMem) (k : Nat) (v : Int32) : (zfl b 5 m k).set 17 (.int v) = zfl b 5 (mI m k 17 v) k := by simp [zfl, mI, upd, vp_updL]
theorem zw_781 : (Jvm.Cond.methodLink "OrreryBox$Picture" (87 : Nat) ({ cls := "OrreryBox$Picture", name := "wipe", desc := "()V" } : Jvm.MethodName)) ∈ gw := gw_t 781 (by decide +kernel) rfl
theorem zw_783 : (Jvm.Cond.instanceMethod ({ cls := "OrreryBox$Picture", name := "wipe", desc := "()V" } : Jvm.MethodName)) ∈ gw := gw_t 783 (by decide +kernel) rfl
theorem zv_17 : (Jvm.Cond.selects "OrreryBox$Picture" (⟨"OrreryBox$Picture", "wipe", "()V"⟩ : MethodName) ⟨"OrreryBox$Picture", "wipe", "()V"⟩) ∈ gw := gw_s 17 (by decide +kernel) rfl
theorem zs_XPicture_87 : zwV "OrreryBox$Picture" 87 "OrreryBox$Picture" zy_XPicture_wipe zb_XPicture_wipe 3 none := ⟨zw_781, zw_783, zv_17, zw_12, zc_XPicture_wipe⟩
theorem zw_785 : (Jvm.Cond.methodLink "OrreryBox$Picture" (90 : Nat) ({ cls := "OrreryBox$Piece", name := "takeAt", desc := "([II)V" } : Jvm.MethodName)) ∈ gw := gw_t 785 (by decide +kernel) rfl
theorem zw_786 : (Jvm.Cond.instanceMethod ({ cls := "OrreryBox$Piece", name := "takeAt", desc := "([II)V" } : Jvm.MethodName)) ∈ gw := gw_t 786 (by decide +kernel) rfl
theorem zw_787 : (Jvm.Cond.selects "OrreryBox$Piece" ({ cls := "OrreryBox$Piece", name := "takeAt", desc := "([II)V" } : Jvm.MethodName) ({ cls := "OrreryBox$Piece", name := "takeAt", desc := "([II)V" } : Jvm.MethodName)) ∈ gw := gw_t 787 (by decide +kernel) rfl
theorem zs_XPicture_90 : zwV "OrreryBox$Picture" 90 "OrreryBox$Piece" zy_XPiece_takeAt zb_XPiece_takeAt 3 none := ⟨zw_785, zw_786, zw_787, zw_11, zc_XPiece_takeAt⟩
theorem zw_290 : (Jvm.Cond.fieldLink "OrreryBox$Picture" (93 : Nat) "OrreryBox$Scene" "materials" "[[I") ∈ gw := gw_t 290 (by decide +kernel) rfl
theorem zw_789 : (Jvm.Cond.methodLink "OrreryBox$Picture" (99 : Nat) ({ cls := "OrreryBox$Picture", name := "drawPiece", desc := "([I)V" } : Jvm.MethodName)) ∈ gw := gw_t 789 (by decide +kernel) rfl
theorem zw_791 : (Jvm.Cond.instanceMethod ({ cls := "OrreryBox$Picture", name := "drawPiece", desc := "([I)V" } : Jvm.MethodName)) ∈ gw := gw_t 791 (by decide +kernel) rfl
theorem zv_18 : (Jvm.Cond.selects "OrreryBox$Picture" (⟨"OrreryBox$Picture", "drawPiece", "([I)V"⟩ : MethodName) ⟨"OrreryBox$Picture", "drawPiece", "([I)V"⟩) ∈ gw := gw_s 18 (by decide +kernel) rfl
theorem zs_XPicture_99 : zwV "OrreryBox$Picture" 99 "OrreryBox$Picture" zy_XPicture_drawPiece zb_XPicture_drawPiece 12 none := ⟨zw_789, zw_791, zv_18, zw_12, zc_XPicture_drawPiece⟩
def L_XPicture_drawTile_72 (sh : zSh) (fuel : Nat) (v0 : Nat) (v1 : Int32) (v2 : Int32) (mm : zMem) : Option (Nat × Int32 × Int32 × zMem) := match fuel with
  | 0 => none
  | fu + 1 => zoS (sh v0) 5 (fun le37 => (if (mm.1 v0 10) ≤ v2 then some (v0, v1, v2, mm) else zoS (sh v0) 5 (fun le40 => Option.bind (mm.2.2 v0 11) (fun a41 => zoS (sh v0) 5 (fun le43 => Option.bind (mm.2.2 v0 8) (fun a44 => zoS (sh a41) 6 (fun le46 => Option.bind (F_XPiece_takeAt sh mm a41 a44 (18 * v2)) (fun p47 => zoS (sh v0) 5 (fun le49 => Option.bind (p47.2.2 v0 3) (fun a50 => zoS (sh a50) 8 (fun le52 => Option.bind (p47.2.2 a50 2) (fun a53 => zoS (sh v0) 5 (fun le55 => Option.bind (p47.2.2 v0 9) (fun a56 => zoS (sh a56) 101 (fun le58 => if (v2 : Int32) < 0 ∨ le58 ≤ (v2 : Int32).toNatClampNeg then none else zoL (p47.1 a56 (v2 : Int32).toNatClampNeg) (fun i60 => zoR (sh a53) (fun t64 le62 => if (i60 : Int32) < 0 ∨ le62 ≤ (i60 : Int32).toNatClampNeg then none else Option.bind (p47.2.2 a53 (i60 : Int32).toNatClampNeg) (fun a65 => zoS (sh v0) 5 (fun le67 => Option.bind (F_XPicture_drawPiece sh p47 v0 a65) (fun p68 => L_XPicture_drawTile_72 sh fu v0 v1 (v2 + 1) p68))))))))))))))))))))
set_option maxHeartbeats 4000000 in
set_option maxRecDepth 100000 in
theorem lp_XPicture_drawTile_72 {p : Program} {l : Launch} {e : Env} {s : State} {m : MethodId} {args : Array Value} {below : List Frame} {meth : Method} {c : Code} {D : va_G} {tA : Nat → ClassId} {b n : Nat} {post : Option Value → zV → Nat → Prop} {sh : zSh} (F : zF p s m args meth c zb_XPicture_drawTile 3 "OrreryBox$Picture" D tA b) : ∀ (fuel : Nat) (v0 : Nat) (v1 : Int32) (v2 : Int32) (mm : zMem) (r : Nat × Int32 × Int32 × zMem), L_XPicture_drawTile_72 sh fuel v0 v1 v2 mm = some r → (Z p l e { frames := 5, cells := 0, slots := 0, locals := 147 } s m args below meth c D b 3 (MQ below (zQ D b post) args s 0 0 (fun q => b ≤ q)) (zW tA b sh r.2.2.2) n 0 0 119 [(0, .ref (b + (r.1))), (1, .int (r.2.1)), (2, .int (r.2.2.1))] []) → Z p l e { frames := 5, cells := 0, slots := 0, locals := 147 } s m args below meth c D b 3 (MQ below (zQ D b post) args s 0 0 (fun q => b ≤ q)) (zW tA b sh mm) n 0 0 72 [(0, .ref (b + v0)), (1, .int v1), (2, .int v2)] [] := by
  intro fuel
  induction fuel with
  | zero =>
    intro v0 v1 v2 mm r h
    cases h
  | succ fu ih =>
    intro v0 v1 v2 mm r h hx0
    rw [L_XPicture_drawTile_72] at h
    refine zr_iload_n F zd_XPicture_drawTile_72 rfl ?_
    refine zr_aload_n F zd_XPicture_drawTile_73 rfl ?_
    obtain ⟨le37, hs36, h⟩ := zoS_s h
    refine zr_get F 5 10 zd_XPicture_drawTile_74 (zW_o hs36 (by decide)) rfl (by decide) zw_443 rfl (by rfl) ?_
    refine zr_icmp_ge F 119 zd_XPicture_drawTile_77 (by decide) (fun hb38 => ?_) (fun hb38 => ?_)
    ·
      rw [if_pos hb38] at h
      obtain rfl := Option.some.inj h
      refine zr_loc (L' := [(0, .ref (b + v0)), (1, .int v1), (2, .int v2)]) ⟨rfl, rfl, rfl, trivial⟩ ?_
      exact hx0 
    ·
      rw [if_neg hb38] at h
      refine zr_aload_n F zd_XPicture_drawTile_80 rfl ?_
      refine zr_pcn 81 rfl ?_
      obtain ⟨le40, hs39, h⟩ := zoS_s h
      obtain ⟨a41, ea41, h⟩ := zoB_s h
      refine zr_get F 5 11 zd_XPicture_drawTile_81 (zW_o hs39 (by decide)) rfl (by decide) zw_444 rfl (by rfl) ?_
      refine zr_tor ea41 ?_
      refine zr_aload_n F zd_XPicture_drawTile_84 rfl ?_
      obtain ⟨le43, hs42, h⟩ := zoS_s h
      obtain ⟨a44, ea44, h⟩ := zoB_s h
      refine zr_get F 5 8 zd_XPicture_drawTile_85 (zW_o hs42 (by decide)) rfl (by decide) zw_441 rfl (by rfl) ?_
      refine zr_tor ea44 ?_
      refine zr_bipushv (v := 18) F zd_XPicture_drawTile_88 (by decide) ?_
      refine zr_iload_n F zd_XPicture_drawTile_90 rfl ?_
      refine zr_imul F zd_XPicture_drawTile_91 ?_
      obtain ⟨le46, hs45, h⟩ := zoS_s h
      obtain ⟨p47, ep47, h⟩ := zoB_s h
      refine zr_callV0 F (k_XPiece_takeAt l D tA b sh _ ep47) zd_XPicture_drawTile_92 (zW_o hs45 (by decide)) rfl zs_XPicture_90 rfl zq_XPiece_takeAt rfl rfl ⟨(Nat.le_of_ble_eq_true rfl), (Nat.le_of_ble_eq_true rfl)⟩ (Nat.le_of_ble_eq_true rfl) ⟨(Nat.le_of_ble_eq_true rfl), (Nat.le_of_ble_eq_true rfl)⟩ ?_
      refine zr_aload_n F zd_XPicture_drawTile_95 rfl ?_
      refine zr_pcn 96 rfl ?_
      refine zr_aload_n F zd_XPicture_drawTile_96 rfl ?_
      obtain ⟨le49, hs48, h⟩ := zoS_s h
      obtain ⟨a50, ea50, h⟩ := zoB_s h
      refine zr_get F 5 3 zd_XPicture_drawTile_97 (zW_o hs48 (by decide)) rfl (by decide) zw_435 rfl (by rfl) ?_
      refine zr_tor ea50 ?_
      obtain ⟨le52, hs51, h⟩ := zoS_s h
      obtain ⟨a53, ea53, h⟩ := zoB_s h
      refine zr_get F 8 2 zd_XPicture_drawTile_100 (zW_o hs51 (by decide)) rfl (by decide) zw_290 rfl (by rfl) ?_
      refine zr_tor ea53 ?_
      refine zr_aload_n F zd_XPicture_drawTile_103 rfl ?_
      obtain ⟨le55, hs54, h⟩ := zoS_s h
      obtain ⟨a56, ea56, h⟩ := zoB_s h
      refine zr_get F 5 9 zd_XPicture_drawTile_104 (zW_o hs54 (by decide)) rfl (by decide) zw_442 rfl (by rfl) ?_
      refine zr_tor ea56 ?_
      refine zr_iload_n F zd_XPicture_drawTile_107 rfl ?_
      obtain ⟨le58, hs57, h⟩ := zoS_s h
      obtain ⟨hi59, h⟩ := zoI_s h
      refine zr_bald F zd_XPicture_drawTile_108 (zW_a1 hs57) hi59 ?_
      obtain ⟨i60, ei60, h⟩ := zoL_s h
      rw [← ei60]
      obtain ⟨t64, le62, hs61, h⟩ := zoR_s h
      obtain ⟨hi63, h⟩ := zoI_s h
      obtain ⟨a65, ea65, h⟩ := zoB_s h
      refine zr_aaldW F zd_XPicture_drawTile_109 hs61 hi63 ea65 ?_
      refine zr_pcn 110 rfl ?_
      obtain ⟨le67, hs66, h⟩ := zoS_s h
      obtain ⟨p68, ep68, h⟩ := zoB_s h
      refine zr_callV0 F (k_XPicture_drawPiece l D tA b sh _ ep68) zd_XPicture_drawTile_110 (zW_o hs66 (by decide)) rfl zs_XPicture_99 rfl zq_XPicture_drawPiece rfl rfl ⟨(Nat.le_of_ble_eq_true rfl), (Nat.le_of_ble_eq_true rfl)⟩ (Nat.le_of_ble_eq_true rfl) ⟨(Nat.le_of_ble_eq_true rfl), (Nat.le_of_ble_eq_true rfl)⟩ ?_
      refine zr_iinc (v := (v2 + 1)) F zd_XPicture_drawTile_113 rfl rfl (by decide) ?_
      refine zr_goto F 72 zd_XPicture_drawTile_116 (by decide) ?_
      refine zr_loc (L' := [(0, .ref (b + v0)), (1, .int v1), (2, .int (v2 + 1))]) ⟨rfl, rfl, rfl, trivial⟩ ?_
      exact ih _ _ _ _ _ h hx0
def F_XPicture_drawTile (sh : zSh) (mm : zMem) (o : Nat) (x0_ : Int32) : Option zMem := zoS (sh o) 5 (fun le2 => (if (mm.1 o 6) = 0 then none else zoL ((x0_ - x0_ / (mm.1 o 6) * (mm.1 o 6)) * 8) (fun x4 => zoS (sh o) 5 (fun le6 => zoL (mI mm o 14 x4) (fun mm7 => zoS (sh o) 5 (fun le9 => (if (mm7.1 o 6) = 0 then none else zoL ((x0_ / (mm7.1 o 6)) * 8) (fun x11 => zoS (sh o) 5 (fun le13 => zoL (mI mm7 o 15 x11) (fun mm14 => zoS (sh o) 5 (fun le16 => zoS (sh o) 5 (fun le18 => zoL ((zx_min ((mm14.1 o 14) + 8) (mm14.1 o 4)) - 1) (fun x20 => zoS (sh o) 5 (fun le22 => zoL (mI mm14 o 16 x20) (fun mm23 => zoS (sh o) 5 (fun le25 => zoS (sh o) 5 (fun le27 => zoL ((zx_min ((mm23.1 o 15) + 8) (mm23.1 o 5)) - 1) (fun x29 => zoS (sh o) 5 (fun le31 => zoL (mI mm23 o 17 x29) (fun mm32 => zoS (sh o) 5 (fun le34 => Option.bind (F_XPicture_wipe sh mm32 o) (fun p35 => Option.bind (L_XPicture_drawTile_72 sh zfuel o x0_ 0 p35) (fun q69 => zoS (sh (q69.1)) 5 (fun le71 => zoL (((q69.2.2.2).2.1 (q69.1) 13) ||| (1 <<< ((q69.2.1 : Int32).toInt64 &&& 63))) (fun x72 => zoS (sh (q69.1)) 5 (fun le74 => zoL (mL (q69.2.2.2) (q69.1) 13 x72) (fun mm75 => some mm75)))))))))))))))))))))))))))
set_option maxHeartbeats 4000000 in
set_option maxRecDepth 100000 in
theorem k_XPicture_drawTile (l : Launch) (D : va_G) (tA : Nat → ClassId) (b : Nat) (sh : zSh) (n : Nat) {mm : zMem} {o : Nat} {x0_ : Int32} {r : zMem} (h : F_XPicture_drawTile sh mm o x0_ = some r) : zM l D tA b zy_XPicture_drawTile zb_XPicture_drawTile 3 none 5 147 0 0 [.ref (b + o), .int x0_] (zW tA b sh mm) n (zE none (zW tA b sh r) n) := by
  unfold F_XPicture_drawTile at h
  refine zM_of (own := "OrreryBox$Picture") (plainFor_of_name (by decide)) rfl (Nat.le_of_ble_eq_true rfl) (fun p e s m below meth c F hr hin hH => ?_)
  refine zr_aload_n F zd_XPicture_drawTile_0 rfl ?_
  refine zr_iload_n F zd_XPicture_drawTile_1 rfl ?_
  refine zr_aload_n F zd_XPicture_drawTile_2 rfl ?_
  obtain ⟨le2, hs1, h⟩ := zoS_s h
  refine zr_get F 5 6 zd_XPicture_drawTile_3 (zW_o hs1 (by decide)) rfl (by decide) zw_439 rfl (by rfl) ?_
  obtain ⟨hn3, h⟩ := zoI_s h
  refine zr_irem F zd_XPicture_drawTile_6 hn3 ?_
  refine zr_bipushv (v := 8) F zd_XPicture_drawTile_7 (by decide) ?_
  refine zr_imul F zd_XPicture_drawTile_9 ?_
  refine zr_pcn 10 rfl ?_
  obtain ⟨x4, ex4, h⟩ := zoL_s h
  rw [← ex4]
  obtain ⟨le6, hs5, h⟩ := zoS_s h
  refine zr_put F 5 14 zd_XPicture_drawTile_10 (zW_o hs5 (by decide)) rfl (by decide) zw_447 rfl rfl rfl rfl (by exact (Nat.le_of_ble_eq_true rfl)) ?_
  obtain ⟨mm7, emm7, h⟩ := zoL_s h
  refine zr_norm (zW tA b sh mm7) _ (by rw [emm7]; exact zW_pI (v := x4) hs5 (by decide) (zf_I_5_14 b _ _ _)) rfl ?_
  refine zr_aload_n F zd_XPicture_drawTile_13 rfl ?_
  refine zr_iload_n F zd_XPicture_drawTile_14 rfl ?_
  refine zr_aload_n F zd_XPicture_drawTile_15 rfl ?_
  obtain ⟨le9, hs8, h⟩ := zoS_s h
  refine zr_get F 5 6 zd_XPicture_drawTile_16 (zW_o hs8 (by decide)) rfl (by decide) zw_439 rfl (by rfl) ?_
  obtain ⟨hn10, h⟩ := zoI_s h
  refine zr_idiv F zd_XPicture_drawTile_19 hn10 ?_
  refine zr_bipushv (v := 8) F zd_XPicture_drawTile_20 (by decide) ?_
  refine zr_imul F zd_XPicture_drawTile_22 ?_
  refine zr_pcn 23 rfl ?_
  obtain ⟨x11, ex11, h⟩ := zoL_s h
  rw [← ex11]
  obtain ⟨le13, hs12, h⟩ := zoS_s h
  refine zr_put F 5 15 zd_XPicture_drawTile_23 (zW_o hs12 (by decide)) rfl (by decide) zw_448 rfl rfl rfl rfl (by exact (Nat.le_of_ble_eq_true rfl)) ?_
  obtain ⟨mm14, emm14, h⟩ := zoL_s h
  refine zr_norm (zW tA b sh mm14) _ (by rw [emm14]; exact zW_pI (v := x11) hs12 (by decide) (zf_I_5_15 b _ _ _)) rfl ?_
  refine zr_aload_n F zd_XPicture_drawTile_26 rfl ?_
  refine zr_aload_n F zd_XPicture_drawTile_27 rfl ?_
  obtain ⟨le16, hs15, h⟩ := zoS_s h
  refine zr_get F 5 14 zd_XPicture_drawTile_28 (zW_o hs15 (by decide)) rfl (by decide) zw_447 rfl (by rfl) ?_
  refine zr_bipushv (v := 8) F zd_XPicture_drawTile_31 (by decide) ?_
  refine zr_iadd F zd_XPicture_drawTile_33 ?_
  refine zr_aload_n F zd_XPicture_drawTile_34 rfl ?_
  obtain ⟨le18, hs17, h⟩ := zoS_s h
  refine zr_get F 5 4 zd_XPicture_drawTile_35 (zW_o hs17 (by decide)) rfl (by decide) zw_437 rfl (by rfl) ?_
  refine zr_pcn 38 rfl ?_
  refine zr_callS1 F (c_JMath_min l D tA b _ _ ((mm14.1 o 14) + 8) (mm14.1 o 4)) zd_XPicture_drawTile_38 zs_XPicture_75 zq_JMath_min rfl rfl ⟨(Nat.le_of_ble_eq_true rfl), (Nat.le_of_ble_eq_true rfl)⟩ (Nat.le_of_ble_eq_true rfl) ⟨(Nat.le_of_ble_eq_true rfl), (Nat.le_of_ble_eq_true rfl)⟩ ?_
  refine zr_iconstv (v := 1) F zd_XPicture_drawTile_41 (by decide) ?_
  refine zr_isub F zd_XPicture_drawTile_42 ?_
  obtain ⟨x20, ex20, h⟩ := zoL_s h
  rw [← ex20]
  obtain ⟨le22, hs21, h⟩ := zoS_s h
  refine zr_put F 5 16 zd_XPicture_drawTile_43 (zW_o hs21 (by decide)) rfl (by decide) zw_449 rfl rfl rfl rfl (by exact (Nat.le_of_ble_eq_true rfl)) ?_
  obtain ⟨mm23, emm23, h⟩ := zoL_s h
  refine zr_norm (zW tA b sh mm23) _ (by rw [emm23]; exact zW_pI (v := x20) hs21 (by decide) (zf_I_5_16 b _ _ _)) rfl ?_
  refine zr_aload_n F zd_XPicture_drawTile_46 rfl ?_
  refine zr_aload_n F zd_XPicture_drawTile_47 rfl ?_
  obtain ⟨le25, hs24, h⟩ := zoS_s h
  refine zr_get F 5 15 zd_XPicture_drawTile_48 (zW_o hs24 (by decide)) rfl (by decide) zw_448 rfl (by rfl) ?_
  refine zr_bipushv (v := 8) F zd_XPicture_drawTile_51 (by decide) ?_
  refine zr_pcn 53 rfl ?_
  refine zr_iadd F zd_XPicture_drawTile_53 ?_
  refine zr_aload_n F zd_XPicture_drawTile_54 rfl ?_
  obtain ⟨le27, hs26, h⟩ := zoS_s h
  refine zr_get F 5 5 zd_XPicture_drawTile_55 (zW_o hs26 (by decide)) rfl (by decide) zw_438 rfl (by rfl) ?_
  refine zr_callS1 F (c_JMath_min l D tA b _ _ ((mm23.1 o 15) + 8) (mm23.1 o 5)) zd_XPicture_drawTile_58 zs_XPicture_75 zq_JMath_min rfl rfl ⟨(Nat.le_of_ble_eq_true rfl), (Nat.le_of_ble_eq_true rfl)⟩ (Nat.le_of_ble_eq_true rfl) ⟨(Nat.le_of_ble_eq_true rfl), (Nat.le_of_ble_eq_true rfl)⟩ ?_
  refine zr_iconstv (v := 1) F zd_XPicture_drawTile_61 (by decide) ?_
  refine zr_isub F zd_XPicture_drawTile_62 ?_
  obtain ⟨x29, ex29, h⟩ := zoL_s h
  rw [← ex29]
  obtain ⟨le31, hs30, h⟩ := zoS_s h
  refine zr_put F 5 17 zd_XPicture_drawTile_63 (zW_o hs30 (by decide)) rfl (by decide) zw_450 rfl rfl rfl rfl (by exact (Nat.le_of_ble_eq_true rfl)) ?_
  obtain ⟨mm32, emm32, h⟩ := zoL_s h
  refine zr_norm (zW tA b sh mm32) _ (by rw [emm32]; exact zW_pI (v := x29) hs30 (by decide) (zf_I_5_17 b _ _ _)) rfl ?_
  refine zr_aload_n F zd_XPicture_drawTile_66 rfl ?_
  refine zr_pcn 67 rfl ?_
  obtain ⟨le34, hs33, h⟩ := zoS_s h
  obtain ⟨p35, ep35, h⟩ := zoB_s h
  refine zr_callV0 F (k_XPicture_wipe l D tA b sh _ ep35) zd_XPicture_drawTile_67 (zW_o hs33 (by decide)) rfl zs_XPicture_87 rfl zq_XPicture_wipe rfl rfl ⟨(Nat.le_of_ble_eq_true rfl), (Nat.le_of_ble_eq_true rfl)⟩ (Nat.le_of_ble_eq_true rfl) ⟨(Nat.le_of_ble_eq_true rfl), (Nat.le_of_ble_eq_true rfl)⟩ ?_
  refine zr_iconstv (v := 0) F zd_XPicture_drawTile_70 (by decide) ?_
  refine zr_istore_n F zd_XPicture_drawTile_71 (by decide) ?_
  obtain ⟨q69, eq69, h⟩ := zoB_s h
  refine zr_loc (L' := [(0, .ref (b + o)), (1, .int x0_), (2, .int 0)]) ⟨rfl, rfl, rfl, trivial⟩ ?_
  refine lp_XPicture_drawTile_72 F _ _ _ _ _ _ eq69 ?_
  ·
    refine zr_aload_n F zd_XPicture_drawTile_119 rfl ?_
    refine zr_dup F zd_XPicture_drawTile_120 rfl ?_
    obtain ⟨le71, hs70, h⟩ := zoS_s h
    refine zr_get F 5 13 zd_XPicture_drawTile_121 (zW_o hs70 (by decide)) rfl (by decide) zw_446 rfl (by rfl) ?_
    refine zr_lconstv (v := 1) F zd_XPicture_drawTile_124 (by decide) ?_
    refine zr_iload_n F zd_XPicture_drawTile_125 rfl ?_
    refine zr_pcn 126 rfl ?_
    refine zr_lshl F zd_XPicture_drawTile_126 ?_
    refine zr_lor F zd_XPicture_drawTile_127 ?_
    obtain ⟨x72, ex72, h⟩ := zoL_s h
    rw [← ex72]
    obtain ⟨le74, hs73, h⟩ := zoS_s h
    refine zr_put F 5 13 zd_XPicture_drawTile_128 (zW_o hs73 (by decide)) rfl (by decide) zw_446 rfl rfl rfl rfl (by exact (Nat.le_of_ble_eq_true rfl)) ?_
    obtain ⟨mm75, emm75, h⟩ := zoL_s h
    refine zr_norm (zW tA b sh mm75) _ (by rw [emm75]; exact zW_pL (v := x72) hs73 (by decide) (zf_L_5_13 b _ _ _)) rfl ?_
    obtain rfl := Option.some.inj h
    exact zr_vret F hr zd_XPicture_drawTile_131 (Nat.le_of_ble_eq_true rfl) (Nat.le_of_ble_eq_true rfl) ⟨rfl, rfl, rfl⟩
