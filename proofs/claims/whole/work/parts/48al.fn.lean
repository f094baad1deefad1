abbrev zb_MPainter_goOverPixel : ByteArray := prog_16_method_29_code
def zy_MPainter_goOverPixel : MethodName := ⟨"OrreryBoxModel$Painter", "goOverPixel", "(IIIIJII)V"⟩
theorem zc_MPainter_goOverPixel : Cond.code zy_MPainter_goOverPixel zb_MPainter_goOverPixel 36 none ∈ gw := gw_t 2121 (by decide +kernel) rfl
theorem zq_MPainter_goOverPixel : zy_MPainter_goOverPixel.cls ≠ "java/lang/invoke/MethodHandle" ∧ zy_MPainter_goOverPixel.cls ≠ "java/lang/invoke/VarHandle" ∧ (parseMethodDescriptor zy_MPainter_goOverPixel.desc).map (fun d => d.parameters.length) = some 7 := by decide +kernel
theorem zd_MPainter_goOverPixel_0 : decode zb_MPainter_goOverPixel 0 = .ok (.bipush 16, 2) := by decide +kernel
theorem zd_MPainter_goOverPixel_2 : decode zb_MPainter_goOverPixel 2 = .ok (.iload 7, 2) := by decide +kernel
theorem zd_MPainter_goOverPixel_4 : decode zb_MPainter_goOverPixel 4 = .ok (.imul, 1) := by decide +kernel
theorem zd_MPainter_goOverPixel_5 : decode zb_MPainter_goOverPixel 5 = .ok (.bipush 8, 2) := by decide +kernel
theorem zd_MPainter_goOverPixel_7 : decode zb_MPainter_goOverPixel 7 = .ok (.iadd, 1) := by decide +kernel
theorem zd_MPainter_goOverPixel_8 : decode zb_MPainter_goOverPixel 8 = .ok (.i2l, 1) := by decide +kernel
theorem zd_MPainter_goOverPixel_9 : decode zb_MPainter_goOverPixel 9 = .ok (.lstore 9, 2) := by decide +kernel
theorem zd_MPainter_goOverPixel_11 : decode zb_MPainter_goOverPixel 11 = .ok (.bipush 16, 2) := by decide +kernel
theorem zd_MPainter_goOverPixel_13 : decode zb_MPainter_goOverPixel 13 = .ok (.iload 8, 2) := by decide +kernel
theorem zd_MPainter_goOverPixel_15 : decode zb_MPainter_goOverPixel 15 = .ok (.imul, 1) := by decide +kernel
theorem zd_MPainter_goOverPixel_16 : decode zb_MPainter_goOverPixel 16 = .ok (.bipush 8, 2) := by decide +kernel
theorem zd_MPainter_goOverPixel_18 : decode zb_MPainter_goOverPixel 18 = .ok (.iadd, 1) := by decide +kernel
theorem zd_MPainter_goOverPixel_19 : decode zb_MPainter_goOverPixel 19 = .ok (.i2l, 1) := by decide +kernel
theorem zd_MPainter_goOverPixel_20 : decode zb_MPainter_goOverPixel 20 = .ok (.lstore 11, 2) := by decide +kernel
theorem zd_MPainter_goOverPixel_22 : decode zb_MPainter_goOverPixel 22 = .ok (.aload_n 0, 1) := by decide +kernel
theorem zd_MPainter_goOverPixel_23 : decode zb_MPainter_goOverPixel 23 = .ok (.iload_n 3, 1) := by decide +kernel
theorem zd_MPainter_goOverPixel_24 : decode zb_MPainter_goOverPixel 24 = .ok (.iload 4, 2) := by decide +kernel
theorem zd_MPainter_goOverPixel_26 : decode zb_MPainter_goOverPixel 26 = .ok (.lload 9, 2) := by decide +kernel
theorem zd_MPainter_goOverPixel_28 : decode zb_MPainter_goOverPixel 28 = .ok (.lload 11, 2) := by decide +kernel
theorem zd_MPainter_goOverPixel_30 : decode zb_MPainter_goOverPixel 30 = .ok (.invokevirtual 285, 3) := by decide +kernel
theorem zd_MPainter_goOverPixel_33 : decode zb_MPainter_goOverPixel 33 = .ok (.ifCond .eq 30, 3) := by decide +kernel
theorem zd_MPainter_goOverPixel_36 : decode zb_MPainter_goOverPixel 36 = .ok (.aload_n 0, 1) := by decide +kernel
theorem zd_MPainter_goOverPixel_37 : decode zb_MPainter_goOverPixel 37 = .ok (.iload 4, 2) := by decide +kernel
theorem zd_MPainter_goOverPixel_39 : decode zb_MPainter_goOverPixel 39 = .ok (.iconst 0, 1) := by decide +kernel
theorem zd_MPainter_goOverPixel_40 : decode zb_MPainter_goOverPixel 40 = .ok (.lload 9, 2) := by decide +kernel
theorem zd_MPainter_goOverPixel_42 : decode zb_MPainter_goOverPixel 42 = .ok (.lload 11, 2) := by decide +kernel
theorem zd_MPainter_goOverPixel_44 : decode zb_MPainter_goOverPixel 44 = .ok (.invokevirtual 285, 3) := by decide +kernel
theorem zd_MPainter_goOverPixel_47 : decode zb_MPainter_goOverPixel 47 = .ok (.ifCond .eq 16, 3) := by decide +kernel
theorem zd_MPainter_goOverPixel_50 : decode zb_MPainter_goOverPixel 50 = .ok (.aload_n 0, 1) := by decide +kernel
theorem zd_MPainter_goOverPixel_51 : decode zb_MPainter_goOverPixel 51 = .ok (.iconst 0, 1) := by decide +kernel
theorem zd_MPainter_goOverPixel_52 : decode zb_MPainter_goOverPixel 52 = .ok (.iload_n 3, 1) := by decide +kernel
theorem zd_MPainter_goOverPixel_53 : decode zb_MPainter_goOverPixel 53 = .ok (.lload 9, 2) := by decide +kernel
theorem zd_MPainter_goOverPixel_55 : decode zb_MPainter_goOverPixel 55 = .ok (.lload 11, 2) := by decide +kernel
theorem zd_MPainter_goOverPixel_57 : decode zb_MPainter_goOverPixel 57 = .ok (.invokevirtual 285, 3) := by decide +kernel
theorem zd_MPainter_goOverPixel_60 : decode zb_MPainter_goOverPixel 60 = .ok (.ifCond .ne 4, 3) := by decide +kernel
theorem zd_MPainter_goOverPixel_63 : decode zb_MPainter_goOverPixel 63 = .ok (.return_, 1) := by decide +kernel
theorem zd_MPainter_goOverPixel_64 : decode zb_MPainter_goOverPixel 64 = .ok (.aload_n 0, 1) := by decide +kernel
theorem zd_MPainter_goOverPixel_65 : decode zb_MPainter_goOverPixel 65 = .ok (.iload_n 3, 1) := by decide +kernel
theorem zd_MPainter_goOverPixel_66 : decode zb_MPainter_goOverPixel 66 = .ok (.iload 4, 2) := by decide +kernel
theorem zd_MPainter_goOverPixel_68 : decode zb_MPainter_goOverPixel 68 = .ok (.lload 9, 2) := by decide +kernel
theorem zd_MPainter_goOverPixel_70 : decode zb_MPainter_goOverPixel 70 = .ok (.lload 11, 2) := by decide +kernel
theorem zd_MPainter_goOverPixel_72 : decode zb_MPainter_goOverPixel 72 = .ok (.invokevirtual 281, 3) := by decide +kernel
theorem zd_MPainter_goOverPixel_75 : decode zb_MPainter_goOverPixel 75 = .ok (.aload_n 0, 1) := by decide +kernel
theorem zd_MPainter_goOverPixel_76 : decode zb_MPainter_goOverPixel 76 = .ok (.getfield 55, 3) := by decide +kernel
theorem zd_MPainter_goOverPixel_79 : decode zb_MPainter_goOverPixel 79 = .ok (.iconst 0, 1) := by decide +kernel
theorem zd_MPainter_goOverPixel_80 : decode zb_MPainter_goOverPixel 80 = .ok (.laload, 1) := by decide +kernel
theorem zd_MPainter_goOverPixel_81 : decode zb_MPainter_goOverPixel 81 = .ok (.lmul, 1) := by decide +kernel
theorem zd_MPainter_goOverPixel_82 : decode zb_MPainter_goOverPixel 82 = .ok (.lstore 13, 2) := by decide +kernel
theorem zd_MPainter_goOverPixel_84 : decode zb_MPainter_goOverPixel 84 = .ok (.aload_n 0, 1) := by decide +kernel
theorem zd_MPainter_goOverPixel_85 : decode zb_MPainter_goOverPixel 85 = .ok (.iload 4, 2) := by decide +kernel
theorem zd_MPainter_goOverPixel_87 : decode zb_MPainter_goOverPixel 87 = .ok (.iconst 0, 1) := by decide +kernel
theorem zd_MPainter_goOverPixel_88 : decode zb_MPainter_goOverPixel 88 = .ok (.lload 9, 2) := by decide +kernel
theorem zd_MPainter_goOverPixel_90 : decode zb_MPainter_goOverPixel 90 = .ok (.lload 11, 2) := by decide +kernel
theorem zd_MPainter_goOverPixel_92 : decode zb_MPainter_goOverPixel 92 = .ok (.invokevirtual 281, 3) := by decide +kernel
theorem zd_MPainter_goOverPixel_95 : decode zb_MPainter_goOverPixel 95 = .ok (.aload_n 0, 1) := by decide +kernel
theorem zd_MPainter_goOverPixel_96 : decode zb_MPainter_goOverPixel 96 = .ok (.getfield 55, 3) := by decide +kernel
theorem zd_MPainter_goOverPixel_99 : decode zb_MPainter_goOverPixel 99 = .ok (.iload_n 3, 1) := by decide +kernel
theorem zd_MPainter_goOverPixel_100 : decode zb_MPainter_goOverPixel 100 = .ok (.laload, 1) := by decide +kernel
theorem zd_MPainter_goOverPixel_101 : decode zb_MPainter_goOverPixel 101 = .ok (.lmul, 1) := by decide +kernel
theorem zd_MPainter_goOverPixel_102 : decode zb_MPainter_goOverPixel 102 = .ok (.lstore 15, 2) := by decide +kernel
theorem zd_MPainter_goOverPixel_104 : decode zb_MPainter_goOverPixel 104 = .ok (.aload_n 0, 1) := by decide +kernel
theorem zd_MPainter_goOverPixel_105 : decode zb_MPainter_goOverPixel 105 = .ok (.iconst 0, 1) := by decide +kernel
theorem zd_MPainter_goOverPixel_106 : decode zb_MPainter_goOverPixel 106 = .ok (.iload_n 3, 1) := by decide +kernel
theorem zd_MPainter_goOverPixel_107 : decode zb_MPainter_goOverPixel 107 = .ok (.lload 9, 2) := by decide +kernel
theorem zd_MPainter_goOverPixel_109 : decode zb_MPainter_goOverPixel 109 = .ok (.lload 11, 2) := by decide +kernel
theorem zd_MPainter_goOverPixel_111 : decode zb_MPainter_goOverPixel 111 = .ok (.invokevirtual 281, 3) := by decide +kernel
theorem zd_MPainter_goOverPixel_114 : decode zb_MPainter_goOverPixel 114 = .ok (.aload_n 0, 1) := by decide +kernel
theorem zd_MPainter_goOverPixel_115 : decode zb_MPainter_goOverPixel 115 = .ok (.getfield 55, 3) := by decide +kernel
theorem zd_MPainter_goOverPixel_118 : decode zb_MPainter_goOverPixel 118 = .ok (.iload 4, 2) := by decide +kernel
theorem zd_MPainter_goOverPixel_120 : decode zb_MPainter_goOverPixel 120 = .ok (.laload, 1) := by decide +kernel
theorem zd_MPainter_goOverPixel_121 : decode zb_MPainter_goOverPixel 121 = .ok (.lmul, 1) := by decide +kernel
theorem zd_MPainter_goOverPixel_122 : decode zb_MPainter_goOverPixel 122 = .ok (.lstore 17, 2) := by decide +kernel
theorem zd_MPainter_goOverPixel_124 : decode zb_MPainter_goOverPixel 124 = .ok (.lload 13, 2) := by decide +kernel
theorem zd_MPainter_goOverPixel_126 : decode zb_MPainter_goOverPixel 126 = .ok (.lload 15, 2) := by decide +kernel
theorem zd_MPainter_goOverPixel_128 : decode zb_MPainter_goOverPixel 128 = .ok (.ladd, 1) := by decide +kernel
theorem zd_MPainter_goOverPixel_129 : decode zb_MPainter_goOverPixel 129 = .ok (.lload 17, 2) := by decide +kernel
theorem zd_MPainter_goOverPixel_131 : decode zb_MPainter_goOverPixel 131 = .ok (.ladd, 1) := by decide +kernel
theorem zd_MPainter_goOverPixel_132 : decode zb_MPainter_goOverPixel 132 = .ok (.lstore 19, 2) := by decide +kernel
theorem zd_MPainter_goOverPixel_134 : decode zb_MPainter_goOverPixel 134 = .ok (.lload 19, 2) := by decide +kernel
theorem zd_MPainter_goOverPixel_136 : decode zb_MPainter_goOverPixel 136 = .ok (.lload 5, 2) := by decide +kernel
theorem zd_MPainter_goOverPixel_138 : decode zb_MPainter_goOverPixel 138 = .ok (.invokestatic 103, 3) := by decide +kernel
theorem zd_MPainter_goOverPixel_141 : decode zb_MPainter_goOverPixel 141 = .ok (.lstore 21, 2) := by decide +kernel
theorem zd_MPainter_goOverPixel_143 : decode zb_MPainter_goOverPixel 143 = .ok (.aload_n 0, 1) := by decide +kernel
theorem zd_MPainter_goOverPixel_144 : decode zb_MPainter_goOverPixel 144 = .ok (.getfield 289, 3) := by decide +kernel
theorem zd_MPainter_goOverPixel_147 : decode zb_MPainter_goOverPixel 147 = .ok (.ifCond .ne 38, 3) := by decide +kernel
theorem zd_MPainter_goOverPixel_150 : decode zb_MPainter_goOverPixel 150 = .ok (.aload_n 0, 1) := by decide +kernel
theorem zd_MPainter_goOverPixel_151 : decode zb_MPainter_goOverPixel 151 = .ok (.getfield 293, 3) := by decide +kernel
theorem zd_MPainter_goOverPixel_154 : decode zb_MPainter_goOverPixel 154 = .ok (.iconst (-1), 1) := by decide +kernel
theorem zd_MPainter_goOverPixel_155 : decode zb_MPainter_goOverPixel 155 = .ok (.if_icmp .eq 13, 3) := by decide +kernel
theorem zd_MPainter_goOverPixel_158 : decode zb_MPainter_goOverPixel 158 = .ok (.lload 21, 2) := by decide +kernel
theorem zd_MPainter_goOverPixel_160 : decode zb_MPainter_goOverPixel 160 = .ok (.aload_n 0, 1) := by decide +kernel
theorem zd_MPainter_goOverPixel_161 : decode zb_MPainter_goOverPixel 161 = .ok (.getfield 296, 3) := by decide +kernel
theorem zd_MPainter_goOverPixel_164 : decode zb_MPainter_goOverPixel 164 = .ok (.lcmp, 1) := by decide +kernel
theorem zd_MPainter_goOverPixel_165 : decode zb_MPainter_goOverPixel 165 = .ok (.ifCond .le 19, 3) := by decide +kernel
theorem zd_MPainter_goOverPixel_168 : decode zb_MPainter_goOverPixel 168 = .ok (.aload_n 0, 1) := by decide +kernel
theorem zd_MPainter_goOverPixel_169 : decode zb_MPainter_goOverPixel 169 = .ok (.iload_n 1, 1) := by decide +kernel
theorem zd_MPainter_goOverPixel_170 : decode zb_MPainter_goOverPixel 170 = .ok (.putfield 293, 3) := by decide +kernel
theorem zd_MPainter_goOverPixel_173 : decode zb_MPainter_goOverPixel 173 = .ok (.aload_n 0, 1) := by decide +kernel
theorem zd_MPainter_goOverPixel_174 : decode zb_MPainter_goOverPixel 174 = .ok (.iload_n 2, 1) := by decide +kernel
theorem zd_MPainter_goOverPixel_175 : decode zb_MPainter_goOverPixel 175 = .ok (.putfield 300, 3) := by decide +kernel
theorem zd_MPainter_goOverPixel_178 : decode zb_MPainter_goOverPixel 178 = .ok (.aload_n 0, 1) := by decide +kernel
theorem zd_MPainter_goOverPixel_179 : decode zb_MPainter_goOverPixel 179 = .ok (.lload 21, 2) := by decide +kernel
theorem zd_MPainter_goOverPixel_181 : decode zb_MPainter_goOverPixel 181 = .ok (.putfield 296, 3) := by decide +kernel
theorem zd_MPainter_goOverPixel_184 : decode zb_MPainter_goOverPixel 184 = .ok (.return_, 1) := by decide +kernel
theorem zd_MPainter_goOverPixel_185 : decode zb_MPainter_goOverPixel 185 = .ok (.aload_n 0, 1) := by decide +kernel
theorem zd_MPainter_goOverPixel_186 : decode zb_MPainter_goOverPixel 186 = .ok (.getfield 61, 3) := by decide +kernel
theorem zd_MPainter_goOverPixel_189 : decode zb_MPainter_goOverPixel 189 = .ok (.iload 8, 2) := by decide +kernel
theorem zd_MPainter_goOverPixel_191 : decode zb_MPainter_goOverPixel 191 = .ok (.imul, 1) := by decide +kernel
theorem zd_MPainter_goOverPixel_192 : decode zb_MPainter_goOverPixel 192 = .ok (.iload 7, 2) := by decide +kernel
theorem zd_MPainter_goOverPixel_194 : decode zb_MPainter_goOverPixel 194 = .ok (.iadd, 1) := by decide +kernel
theorem zd_MPainter_goOverPixel_195 : decode zb_MPainter_goOverPixel 195 = .ok (.istore 23, 2) := by decide +kernel
theorem zd_MPainter_goOverPixel_197 : decode zb_MPainter_goOverPixel 197 = .ok (.lload 21, 2) := by decide +kernel
theorem zd_MPainter_goOverPixel_199 : decode zb_MPainter_goOverPixel 199 = .ok (.aload_n 0, 1) := by decide +kernel
theorem zd_MPainter_goOverPixel_200 : decode zb_MPainter_goOverPixel 200 = .ok (.getfield 71, 3) := by decide +kernel
theorem zd_MPainter_goOverPixel_203 : decode zb_MPainter_goOverPixel 203 = .ok (.iload 23, 2) := by decide +kernel
theorem zd_MPainter_goOverPixel_205 : decode zb_MPainter_goOverPixel 205 = .ok (.laload, 1) := by decide +kernel
theorem zd_MPainter_goOverPixel_206 : decode zb_MPainter_goOverPixel 206 = .ok (.lcmp, 1) := by decide +kernel
theorem zd_MPainter_goOverPixel_207 : decode zb_MPainter_goOverPixel 207 = .ok (.ifCond .gt 4, 3) := by decide +kernel
theorem zd_MPainter_goOverPixel_210 : decode zb_MPainter_goOverPixel 210 = .ok (.return_, 1) := by decide +kernel
theorem zd_MPainter_goOverPixel_211 : decode zb_MPainter_goOverPixel 211 = .ok (.lload 13, 2) := by decide +kernel
theorem zd_MPainter_goOverPixel_213 : decode zb_MPainter_goOverPixel 213 = .ok (.aload_n 0, 1) := by decide +kernel
theorem zd_MPainter_goOverPixel_214 : decode zb_MPainter_goOverPixel 214 = .ok (.getfield 40, 3) := by decide +kernel
theorem zd_MPainter_goOverPixel_217 : decode zb_MPainter_goOverPixel 217 = .ok (.iconst 3, 1) := by decide +kernel
theorem zd_MPainter_goOverPixel_218 : decode zb_MPainter_goOverPixel 218 = .ok (.laload, 1) := by decide +kernel
theorem zd_MPainter_goOverPixel_219 : decode zb_MPainter_goOverPixel 219 = .ok (.lmul, 1) := by decide +kernel
theorem zd_MPainter_goOverPixel_220 : decode zb_MPainter_goOverPixel 220 = .ok (.lload 15, 2) := by decide +kernel
theorem zd_MPainter_goOverPixel_222 : decode zb_MPainter_goOverPixel 222 = .ok (.aload_n 0, 1) := by decide +kernel
theorem zd_MPainter_goOverPixel_223 : decode zb_MPainter_goOverPixel 223 = .ok (.getfield 40, 3) := by decide +kernel
theorem zd_MPainter_goOverPixel_226 : decode zb_MPainter_goOverPixel 226 = .ok (.bipush 6, 2) := by decide +kernel
theorem zd_MPainter_goOverPixel_228 : decode zb_MPainter_goOverPixel 228 = .ok (.iload_n 3, 1) := by decide +kernel
theorem zd_MPainter_goOverPixel_229 : decode zb_MPainter_goOverPixel 229 = .ok (.imul, 1) := by decide +kernel
theorem zd_MPainter_goOverPixel_230 : decode zb_MPainter_goOverPixel 230 = .ok (.iconst 3, 1) := by decide +kernel
theorem zd_MPainter_goOverPixel_231 : decode zb_MPainter_goOverPixel 231 = .ok (.iadd, 1) := by decide +kernel
theorem zd_MPainter_goOverPixel_232 : decode zb_MPainter_goOverPixel 232 = .ok (.laload, 1) := by decide +kernel
theorem zd_MPainter_goOverPixel_233 : decode zb_MPainter_goOverPixel 233 = .ok (.lmul, 1) := by decide +kernel
theorem zd_MPainter_goOverPixel_234 : decode zb_MPainter_goOverPixel 234 = .ok (.ladd, 1) := by decide +kernel
theorem zd_MPainter_goOverPixel_235 : decode zb_MPainter_goOverPixel 235 = .ok (.lload 17, 2) := by decide +kernel
theorem zd_MPainter_goOverPixel_237 : decode zb_MPainter_goOverPixel 237 = .ok (.aload_n 0, 1) := by decide +kernel
theorem zd_MPainter_goOverPixel_238 : decode zb_MPainter_goOverPixel 238 = .ok (.getfield 40, 3) := by decide +kernel
theorem zd_MPainter_goOverPixel_241 : decode zb_MPainter_goOverPixel 241 = .ok (.bipush 6, 2) := by decide +kernel
theorem zd_MPainter_goOverPixel_243 : decode zb_MPainter_goOverPixel 243 = .ok (.iload 4, 2) := by decide +kernel
theorem zd_MPainter_goOverPixel_245 : decode zb_MPainter_goOverPixel 245 = .ok (.imul, 1) := by decide +kernel
theorem zd_MPainter_goOverPixel_246 : decode zb_MPainter_goOverPixel 246 = .ok (.iconst 3, 1) := by decide +kernel
theorem zd_MPainter_goOverPixel_247 : decode zb_MPainter_goOverPixel 247 = .ok (.iadd, 1) := by decide +kernel
theorem zd_MPainter_goOverPixel_248 : decode zb_MPainter_goOverPixel 248 = .ok (.laload, 1) := by decide +kernel
theorem zd_MPainter_goOverPixel_249 : decode zb_MPainter_goOverPixel 249 = .ok (.lmul, 1) := by decide +kernel
theorem zd_MPainter_goOverPixel_250 : decode zb_MPainter_goOverPixel 250 = .ok (.ladd, 1) := by decide +kernel
theorem zd_MPainter_goOverPixel_251 : decode zb_MPainter_goOverPixel 251 = .ok (.lload 19, 2) := by decide +kernel
theorem zd_MPainter_goOverPixel_253 : decode zb_MPainter_goOverPixel 253 = .ok (.invokestatic 103, 3) := by decide +kernel
theorem zd_MPainter_goOverPixel_256 : decode zb_MPainter_goOverPixel 256 = .ok (.lstore 24, 2) := by decide +kernel
theorem zd_MPainter_goOverPixel_258 : decode zb_MPainter_goOverPixel 258 = .ok (.lload 13, 2) := by decide +kernel
theorem zd_MPainter_goOverPixel_260 : decode zb_MPainter_goOverPixel 260 = .ok (.aload_n 0, 1) := by decide +kernel
theorem zd_MPainter_goOverPixel_261 : decode zb_MPainter_goOverPixel 261 = .ok (.getfield 40, 3) := by decide +kernel
theorem zd_MPainter_goOverPixel_264 : decode zb_MPainter_goOverPixel 264 = .ok (.iconst 4, 1) := by decide +kernel
theorem zd_MPainter_goOverPixel_265 : decode zb_MPainter_goOverPixel 265 = .ok (.laload, 1) := by decide +kernel
theorem zd_MPainter_goOverPixel_266 : decode zb_MPainter_goOverPixel 266 = .ok (.lmul, 1) := by decide +kernel
theorem zd_MPainter_goOverPixel_267 : decode zb_MPainter_goOverPixel 267 = .ok (.lload 15, 2) := by decide +kernel
theorem zd_MPainter_goOverPixel_269 : decode zb_MPainter_goOverPixel 269 = .ok (.aload_n 0, 1) := by decide +kernel
theorem zd_MPainter_goOverPixel_270 : decode zb_MPainter_goOverPixel 270 = .ok (.getfield 40, 3) := by decide +kernel
theorem zd_MPainter_goOverPixel_273 : decode zb_MPainter_goOverPixel 273 = .ok (.bipush 6, 2) := by decide +kernel
theorem zd_MPainter_goOverPixel_275 : decode zb_MPainter_goOverPixel 275 = .ok (.iload_n 3, 1) := by decide +kernel
theorem zd_MPainter_goOverPixel_276 : decode zb_MPainter_goOverPixel 276 = .ok (.imul, 1) := by decide +kernel
theorem zd_MPainter_goOverPixel_277 : decode zb_MPainter_goOverPixel 277 = .ok (.iconst 4, 1) := by decide +kernel
theorem zd_MPainter_goOverPixel_278 : decode zb_MPainter_goOverPixel 278 = .ok (.iadd, 1) := by decide +kernel
theorem zd_MPainter_goOverPixel_279 : decode zb_MPainter_goOverPixel 279 = .ok (.laload, 1) := by decide +kernel
theorem zd_MPainter_goOverPixel_280 : decode zb_MPainter_goOverPixel 280 = .ok (.lmul, 1) := by decide +kernel
theorem zd_MPainter_goOverPixel_281 : decode zb_MPainter_goOverPixel 281 = .ok (.ladd, 1) := by decide +kernel
theorem zd_MPainter_goOverPixel_282 : decode zb_MPainter_goOverPixel 282 = .ok (.lload 17, 2) := by decide +kernel
theorem zd_MPainter_goOverPixel_284 : decode zb_MPainter_goOverPixel 284 = .ok (.aload_n 0, 1) := by decide +kernel
theorem zd_MPainter_goOverPixel_285 : decode zb_MPainter_goOverPixel 285 = .ok (.getfield 40, 3) := by decide +kernel
theorem zd_MPainter_goOverPixel_288 : decode zb_MPainter_goOverPixel 288 = .ok (.bipush 6, 2) := by decide +kernel
theorem zd_MPainter_goOverPixel_290 : decode zb_MPainter_goOverPixel 290 = .ok (.iload 4, 2) := by decide +kernel
theorem zd_MPainter_goOverPixel_292 : decode zb_MPainter_goOverPixel 292 = .ok (.imul, 1) := by decide +kernel
theorem zd_MPainter_goOverPixel_293 : decode zb_MPainter_goOverPixel 293 = .ok (.iconst 4, 1) := by decide +kernel
theorem zd_MPainter_goOverPixel_294 : decode zb_MPainter_goOverPixel 294 = .ok (.iadd, 1) := by decide +kernel
theorem zd_MPainter_goOverPixel_295 : decode zb_MPainter_goOverPixel 295 = .ok (.laload, 1) := by decide +kernel
theorem zd_MPainter_goOverPixel_296 : decode zb_MPainter_goOverPixel 296 = .ok (.lmul, 1) := by decide +kernel
theorem zd_MPainter_goOverPixel_297 : decode zb_MPainter_goOverPixel 297 = .ok (.ladd, 1) := by decide +kernel
theorem zd_MPainter_goOverPixel_298 : decode zb_MPainter_goOverPixel 298 = .ok (.lload 19, 2) := by decide +kernel
theorem zd_MPainter_goOverPixel_300 : decode zb_MPainter_goOverPixel 300 = .ok (.invokestatic 103, 3) := by decide +kernel
theorem zd_MPainter_goOverPixel_303 : decode zb_MPainter_goOverPixel 303 = .ok (.lstore 26, 2) := by decide +kernel
theorem zd_MPainter_goOverPixel_305 : decode zb_MPainter_goOverPixel 305 = .ok (.lload 13, 2) := by decide +kernel
theorem zd_MPainter_goOverPixel_307 : decode zb_MPainter_goOverPixel 307 = .ok (.aload_n 0, 1) := by decide +kernel
theorem zd_MPainter_goOverPixel_308 : decode zb_MPainter_goOverPixel 308 = .ok (.getfield 40, 3) := by decide +kernel
theorem zd_MPainter_goOverPixel_311 : decode zb_MPainter_goOverPixel 311 = .ok (.iconst 5, 1) := by decide +kernel
theorem zd_MPainter_goOverPixel_312 : decode zb_MPainter_goOverPixel 312 = .ok (.laload, 1) := by decide +kernel
theorem zd_MPainter_goOverPixel_313 : decode zb_MPainter_goOverPixel 313 = .ok (.lmul, 1) := by decide +kernel
theorem zd_MPainter_goOverPixel_314 : decode zb_MPainter_goOverPixel 314 = .ok (.lload 15, 2) := by decide +kernel
theorem zd_MPainter_goOverPixel_316 : decode zb_MPainter_goOverPixel 316 = .ok (.aload_n 0, 1) := by decide +kernel
theorem zd_MPainter_goOverPixel_317 : decode zb_MPainter_goOverPixel 317 = .ok (.getfield 40, 3) := by decide +kernel
theorem zd_MPainter_goOverPixel_320 : decode zb_MPainter_goOverPixel 320 = .ok (.bipush 6, 2) := by decide +kernel
theorem zd_MPainter_goOverPixel_322 : decode zb_MPainter_goOverPixel 322 = .ok (.iload_n 3, 1) := by decide +kernel
theorem zd_MPainter_goOverPixel_323 : decode zb_MPainter_goOverPixel 323 = .ok (.imul, 1) := by decide +kernel
theorem zd_MPainter_goOverPixel_324 : decode zb_MPainter_goOverPixel 324 = .ok (.iconst 5, 1) := by decide +kernel
theorem zd_MPainter_goOverPixel_325 : decode zb_MPainter_goOverPixel 325 = .ok (.iadd, 1) := by decide +kernel
theorem zd_MPainter_goOverPixel_326 : decode zb_MPainter_goOverPixel 326 = .ok (.laload, 1) := by decide +kernel
theorem zd_MPainter_goOverPixel_327 : decode zb_MPainter_goOverPixel 327 = .ok (.lmul, 1) := by decide +kernel
theorem zd_MPainter_goOverPixel_328 : decode zb_MPainter_goOverPixel 328 = .ok (.ladd, 1) := by decide +kernel
theorem zd_MPainter_goOverPixel_329 : decode zb_MPainter_goOverPixel 329 = .ok (.lload 17, 2) := by decide +kernel
theorem zd_MPainter_goOverPixel_331 : decode zb_MPainter_goOverPixel 331 = .ok (.aload_n 0, 1) := by decide +kernel
theorem zd_MPainter_goOverPixel_332 : decode zb_MPainter_goOverPixel 332 = .ok (.getfield 40, 3) := by decide +kernel
theorem zd_MPainter_goOverPixel_335 : decode zb_MPainter_goOverPixel 335 = .ok (.bipush 6, 2) := by decide +kernel
theorem zd_MPainter_goOverPixel_337 : decode zb_MPainter_goOverPixel 337 = .ok (.iload 4, 2) := by decide +kernel
theorem zd_MPainter_goOverPixel_339 : decode zb_MPainter_goOverPixel 339 = .ok (.imul, 1) := by decide +kernel
theorem zd_MPainter_goOverPixel_340 : decode zb_MPainter_goOverPixel 340 = .ok (.iconst 5, 1) := by decide +kernel
theorem zd_MPainter_goOverPixel_341 : decode zb_MPainter_goOverPixel 341 = .ok (.iadd, 1) := by decide +kernel
theorem zd_MPainter_goOverPixel_342 : decode zb_MPainter_goOverPixel 342 = .ok (.laload, 1) := by decide +kernel
theorem zd_MPainter_goOverPixel_343 : decode zb_MPainter_goOverPixel 343 = .ok (.lmul, 1) := by decide +kernel
theorem zd_MPainter_goOverPixel_344 : decode zb_MPainter_goOverPixel 344 = .ok (.ladd, 1) := by decide +kernel
theorem zd_MPainter_goOverPixel_345 : decode zb_MPainter_goOverPixel 345 = .ok (.lload 19, 2) := by decide +kernel
theorem zd_MPainter_goOverPixel_347 : decode zb_MPainter_goOverPixel 347 = .ok (.invokestatic 103, 3) := by decide +kernel
theorem zd_MPainter_goOverPixel_350 : decode zb_MPainter_goOverPixel 350 = .ok (.lstore 28, 2) := by decide +kernel
theorem zd_MPainter_goOverPixel_352 : decode zb_MPainter_goOverPixel 352 = .ok (.aload_n 0, 1) := by decide +kernel
theorem zd_MPainter_goOverPixel_353 : decode zb_MPainter_goOverPixel 353 = .ok (.iload_n 1, 1) := by decide +kernel
theorem zd_MPainter_goOverPixel_354 : decode zb_MPainter_goOverPixel 354 = .ok (.invokevirtual 180, 3) := by decide +kernel
theorem zd_MPainter_goOverPixel_357 : decode zb_MPainter_goOverPixel 357 = .ok (.istore 30, 2) := by decide +kernel
theorem zd_MPainter_goOverPixel_359 : decode zb_MPainter_goOverPixel 359 = .ok (.aload_n 0, 1) := by decide +kernel
theorem zd_MPainter_goOverPixel_360 : decode zb_MPainter_goOverPixel 360 = .ok (.iload 30, 2) := by decide +kernel
theorem zd_MPainter_goOverPixel_362 : decode zb_MPainter_goOverPixel 362 = .ok (.iload_n 3, 1) := by decide +kernel
theorem zd_MPainter_goOverPixel_363 : decode zb_MPainter_goOverPixel 363 = .ok (.iload 4, 2) := by decide +kernel
theorem zd_MPainter_goOverPixel_365 : decode zb_MPainter_goOverPixel 365 = .ok (.lload 5, 2) := by decide +kernel
theorem zd_MPainter_goOverPixel_367 : decode zb_MPainter_goOverPixel 367 = .ok (.lload 24, 2) := by decide +kernel
theorem zd_MPainter_goOverPixel_369 : decode zb_MPainter_goOverPixel 369 = .ok (.lload 26, 2) := by decide +kernel
theorem zd_MPainter_goOverPixel_371 : decode zb_MPainter_goOverPixel 371 = .ok (.lload 28, 2) := by decide +kernel
theorem zd_MPainter_goOverPixel_373 : decode zb_MPainter_goOverPixel 373 = .ok (.invokevirtual 303, 3) := by decide +kernel
theorem zd_MPainter_goOverPixel_376 : decode zb_MPainter_goOverPixel 376 = .ok (.aload_n 0, 1) := by decide +kernel
theorem zd_MPainter_goOverPixel_377 : decode zb_MPainter_goOverPixel 377 = .ok (.getfield 129, 3) := by decide +kernel
theorem zd_MPainter_goOverPixel_380 : decode zb_MPainter_goOverPixel 380 = .ok (.getfield 177, 3) := by decide +kernel
theorem zd_MPainter_goOverPixel_383 : decode zb_MPainter_goOverPixel 383 = .ok (.iconst 4, 1) := by decide +kernel
theorem zd_MPainter_goOverPixel_384 : decode zb_MPainter_goOverPixel 384 = .ok (.iload 30, 2) := by decide +kernel
theorem zd_MPainter_goOverPixel_386 : decode zb_MPainter_goOverPixel 386 = .ok (.imul, 1) := by decide +kernel
theorem zd_MPainter_goOverPixel_387 : decode zb_MPainter_goOverPixel 387 = .ok (.iconst 3, 1) := by decide +kernel
theorem zd_MPainter_goOverPixel_388 : decode zb_MPainter_goOverPixel 388 = .ok (.iadd, 1) := by decide +kernel
theorem zd_MPainter_goOverPixel_389 : decode zb_MPainter_goOverPixel 389 = .ok (.iaload, 1) := by decide +kernel
theorem zd_MPainter_goOverPixel_390 : decode zb_MPainter_goOverPixel 390 = .ok (.i2l, 1) := by decide +kernel
theorem zd_MPainter_goOverPixel_391 : decode zb_MPainter_goOverPixel 391 = .ok (.lstore 31, 2) := by decide +kernel
theorem zd_MPainter_goOverPixel_393 : decode zb_MPainter_goOverPixel 393 = .ok (.iconst 0, 1) := by decide +kernel
theorem zd_MPainter_goOverPixel_394 : decode zb_MPainter_goOverPixel 394 = .ok (.istore 33, 2) := by decide +kernel
theorem zd_MPainter_goOverPixel_396 : decode zb_MPainter_goOverPixel 396 = .ok (.iload 33, 2) := by decide +kernel
theorem zd_MPainter_goOverPixel_398 : decode zb_MPainter_goOverPixel 398 = .ok (.iconst 3, 1) := by decide +kernel
theorem zd_MPainter_goOverPixel_399 : decode zb_MPainter_goOverPixel 399 = .ok (.if_icmp .ge 82, 3) := by decide +kernel
theorem zd_MPainter_goOverPixel_402 : decode zb_MPainter_goOverPixel 402 = .ok (.aload_n 0, 1) := by decide +kernel
theorem zd_MPainter_goOverPixel_403 : decode zb_MPainter_goOverPixel 403 = .ok (.getfield 68, 3) := by decide +kernel
theorem zd_MPainter_goOverPixel_406 : decode zb_MPainter_goOverPixel 406 = .ok (.iconst 3, 1) := by decide +kernel
theorem zd_MPainter_goOverPixel_407 : decode zb_MPainter_goOverPixel 407 = .ok (.iload 23, 2) := by decide +kernel
theorem zd_MPainter_goOverPixel_409 : decode zb_MPainter_goOverPixel 409 = .ok (.imul, 1) := by decide +kernel
theorem zd_MPainter_goOverPixel_410 : decode zb_MPainter_goOverPixel 410 = .ok (.iload 33, 2) := by decide +kernel
theorem zd_MPainter_goOverPixel_412 : decode zb_MPainter_goOverPixel 412 = .ok (.iadd, 1) := by decide +kernel
theorem zd_MPainter_goOverPixel_413 : decode zb_MPainter_goOverPixel 413 = .ok (.iaload, 1) := by decide +kernel
theorem zd_MPainter_goOverPixel_414 : decode zb_MPainter_goOverPixel 414 = .ok (.i2l, 1) := by decide +kernel
theorem zd_MPainter_goOverPixel_415 : decode zb_MPainter_goOverPixel 415 = .ok (.lstore 34, 2) := by decide +kernel
theorem zd_MPainter_goOverPixel_417 : decode zb_MPainter_goOverPixel 417 = .ok (.aload_n 0, 1) := by decide +kernel
theorem zd_MPainter_goOverPixel_418 : decode zb_MPainter_goOverPixel 418 = .ok (.getfield 68, 3) := by decide +kernel
theorem zd_MPainter_goOverPixel_421 : decode zb_MPainter_goOverPixel 421 = .ok (.iconst 3, 1) := by decide +kernel
theorem zd_MPainter_goOverPixel_422 : decode zb_MPainter_goOverPixel 422 = .ok (.iload 23, 2) := by decide +kernel
theorem zd_MPainter_goOverPixel_424 : decode zb_MPainter_goOverPixel 424 = .ok (.imul, 1) := by decide +kernel
theorem zd_MPainter_goOverPixel_425 : decode zb_MPainter_goOverPixel 425 = .ok (.iload 33, 2) := by decide +kernel
theorem zd_MPainter_goOverPixel_427 : decode zb_MPainter_goOverPixel 427 = .ok (.iadd, 1) := by decide +kernel
theorem zd_MPainter_goOverPixel_428 : decode zb_MPainter_goOverPixel 428 = .ok (.lload 31, 2) := by decide +kernel
theorem zd_MPainter_goOverPixel_430 : decode zb_MPainter_goOverPixel 430 = .ok (.ldc2_w 306, 3) := by decide +kernel
theorem zd_MPainter_goOverPixel_433 : decode zb_MPainter_goOverPixel 433 = .ok (.lcmp, 1) := by decide +kernel
theorem zd_MPainter_goOverPixel_434 : decode zb_MPainter_goOverPixel 434 = .ok (.ifCond .ne 13, 3) := by decide +kernel
theorem zd_MPainter_goOverPixel_437 : decode zb_MPainter_goOverPixel 437 = .ok (.aload_n 0, 1) := by decide +kernel
theorem zd_MPainter_goOverPixel_438 : decode zb_MPainter_goOverPixel 438 = .ok (.getfield 58, 3) := by decide +kernel
theorem zd_MPainter_goOverPixel_441 : decode zb_MPainter_goOverPixel 441 = .ok (.iload 33, 2) := by decide +kernel
theorem zd_MPainter_goOverPixel_443 : decode zb_MPainter_goOverPixel 443 = .ok (.laload, 1) := by decide +kernel
theorem zd_MPainter_goOverPixel_444 : decode zb_MPainter_goOverPixel 444 = .ok (.goto 29, 3) := by decide +kernel
theorem zd_MPainter_goOverPixel_447 : decode zb_MPainter_goOverPixel 447 = .ok (.aload_n 0, 1) := by decide +kernel
theorem zd_MPainter_goOverPixel_448 : decode zb_MPainter_goOverPixel 448 = .ok (.getfield 58, 3) := by decide +kernel
theorem zd_MPainter_goOverPixel_451 : decode zb_MPainter_goOverPixel 451 = .ok (.iload 33, 2) := by decide +kernel
theorem zd_MPainter_goOverPixel_453 : decode zb_MPainter_goOverPixel 453 = .ok (.laload, 1) := by decide +kernel
theorem zd_MPainter_goOverPixel_454 : decode zb_MPainter_goOverPixel 454 = .ok (.lload 31, 2) := by decide +kernel
theorem zd_MPainter_goOverPixel_456 : decode zb_MPainter_goOverPixel 456 = .ok (.lmul, 1) := by decide +kernel
theorem zd_MPainter_goOverPixel_457 : decode zb_MPainter_goOverPixel 457 = .ok (.lload 34, 2) := by decide +kernel
theorem zd_MPainter_goOverPixel_459 : decode zb_MPainter_goOverPixel 459 = .ok (.ldc2_w 306, 3) := by decide +kernel
theorem zd_MPainter_goOverPixel_462 : decode zb_MPainter_goOverPixel 462 = .ok (.lload 31, 2) := by decide +kernel
theorem zd_MPainter_goOverPixel_464 : decode zb_MPainter_goOverPixel 464 = .ok (.lsub, 1) := by decide +kernel
theorem zd_MPainter_goOverPixel_465 : decode zb_MPainter_goOverPixel 465 = .ok (.lmul, 1) := by decide +kernel
theorem zd_MPainter_goOverPixel_466 : decode zb_MPainter_goOverPixel 466 = .ok (.ladd, 1) := by decide +kernel
theorem zd_MPainter_goOverPixel_467 : decode zb_MPainter_goOverPixel 467 = .ok (.ldc2_w 306, 3) := by decide +kernel
theorem zd_MPainter_goOverPixel_470 : decode zb_MPainter_goOverPixel 470 = .ok (.invokestatic 103, 3) := by decide +kernel
theorem zd_MPainter_goOverPixel_473 : decode zb_MPainter_goOverPixel 473 = .ok (.l2i, 1) := by decide +kernel
theorem zd_MPainter_goOverPixel_474 : decode zb_MPainter_goOverPixel 474 = .ok (.iastore, 1) := by decide +kernel
theorem zd_MPainter_goOverPixel_475 : decode zb_MPainter_goOverPixel 475 = .ok (.iinc 33 1, 3) := by decide +kernel
theorem zd_MPainter_goOverPixel_478 : decode zb_MPainter_goOverPixel 478 = .ok (.goto (-82), 3) := by decide +kernel
theorem zd_MPainter_goOverPixel_481 : decode zb_MPainter_goOverPixel 481 = .ok (.lload 31, 2) := by decide +kernel
theorem zd_MPainter_goOverPixel_483 : decode zb_MPainter_goOverPixel 483 = .ok (.ldc2_w 306, 3) := by decide +kernel
theorem zd_MPainter_goOverPixel_486 : decode zb_MPainter_goOverPixel 486 = .ok (.lcmp, 1) := by decide +kernel
theorem zd_MPainter_goOverPixel_487 : decode zb_MPainter_goOverPixel 487 = .ok (.ifCond .ne 12, 3) := by decide +kernel
theorem zd_MPainter_goOverPixel_490 : decode zb_MPainter_goOverPixel 490 = .ok (.aload_n 0, 1) := by decide +kernel
theorem zd_MPainter_goOverPixel_491 : decode zb_MPainter_goOverPixel 491 = .ok (.getfield 71, 3) := by decide +kernel
theorem zd_MPainter_goOverPixel_494 : decode zb_MPainter_goOverPixel 494 = .ok (.iload 23, 2) := by decide +kernel
theorem zd_MPainter_goOverPixel_496 : decode zb_MPainter_goOverPixel 496 = .ok (.lload 21, 2) := by decide +kernel
theorem zd_MPainter_goOverPixel_498 : decode zb_MPainter_goOverPixel 498 = .ok (.lastore, 1) := by decide +kernel
theorem zd_MPainter_goOverPixel_499 : decode zb_MPainter_goOverPixel 499 = .ok (.return_, 1) := by decide +kernel
theorem zw_2122 : (Jvm.Cond.methodLink "OrreryBoxModel$Painter" (285 : Nat) ({ cls := "OrreryBoxModel$Painter", name := "inside", desc := "(IIJJ)Z" } : Jvm.MethodName)) ∈ gw := gw_t 2122 (by decide +kernel) rfl
theorem zw_2124 : (Jvm.Cond.instanceMethod ({ cls := "OrreryBoxModel$Painter", name := "inside", desc := "(IIJJ)Z" } : Jvm.MethodName)) ∈ gw := gw_t 2124 (by decide +kernel) rfl
theorem zv_110 : (Jvm.Cond.selects "OrreryBoxModel$Painter" (⟨"OrreryBoxModel$Painter", "inside", "(IIJJ)Z"⟩ : MethodName) ⟨"OrreryBoxModel$Painter", "inside", "(IIJJ)Z"⟩) ∈ gw := gw_s 110 (by decide +kernel) rfl
theorem zs_MPainter_285 : zwV "OrreryBoxModel$Painter" 285 "OrreryBoxModel$Painter" zy_MPainter_inside zb_MPainter_inside 9 (some .boolean) := ⟨zw_2122, zw_2124, zv_110, zw_17, zc_MPainter_inside⟩
theorem zw_2130 : (Jvm.Cond.methodLink "OrreryBoxModel$Painter" (303 : Nat) ({ cls := "OrreryBoxModel$Painter", name := "colour", desc := "(IIIJJJJ)V" } : Jvm.MethodName)) ∈ gw := gw_t 2130 (by decide +kernel) rfl
theorem zw_2132 : (Jvm.Cond.instanceMethod ({ cls := "OrreryBoxModel$Painter", name := "colour", desc := "(IIIJJJJ)V" } : Jvm.MethodName)) ∈ gw := gw_t 2132 (by decide +kernel) rfl
theorem zv_112 : (Jvm.Cond.selects "OrreryBoxModel$Painter" (⟨"OrreryBoxModel$Painter", "colour", "(IIIJJJJ)V"⟩ : MethodName) ⟨"OrreryBoxModel$Painter", "colour", "(IIIJJJJ)V"⟩) ∈ gw := gw_s 112 (by decide +kernel) rfl
theorem zs_MPainter_303 : zwV "OrreryBoxModel$Painter" 303 "OrreryBoxModel$Painter" zy_MPainter_colour zb_MPainter_colour 17 none := ⟨zw_2130, zw_2132, zv_112, zw_17, zc_MPainter_colour⟩
def L_MPainter_goOverPixel_396 (sh : zSh) (fuel : Nat) (v0 : Nat) (v21 : Int64) (v23 : Int32) (v31 : Int64) (v33 : Int32) (mm : zMem) : Option (Nat × Int64 × Int32 × Int64 × Int32 × zMem) := match fuel with
  | 0 => none
  | fu + 1 => (if 3 ≤ v33 then some (v0, v21, v23, v31, v33, mm) else zoS (sh v0) 13 (fun le145 => Option.bind (mm.2.2 v0 3) (fun a146 => zoL ((3 * v23) + v33) (fun i147 => zoS (sh a146) 100 (fun le149 => if (i147 : Int32) < 0 ∨ le149 ≤ (i147 : Int32).toNatClampNeg then none else zoL (((mm.1 a146 (i147 : Int32).toNatClampNeg) : Int32).toInt64) (fun x151 => zoS (sh v0) 13 (fun le153 => Option.bind (mm.2.2 v0 3) (fun a154 => (if (lg_cmp v31 255) = 0 then zoS (sh v0) 13 (fun le171 => Option.bind (mm.2.2 v0 30) (fun a172 => zoS (sh a172) 102 (fun le174 => if (v33 : Int32) < 0 ∨ le174 ≤ (v33 : Int32).toNatClampNeg then none else zoL (((mm.2.1 a172 (v33 : Int32).toNatClampNeg) : Int64).toInt32) (fun x176 => zoL ((3 * v23) + v33) (fun i177 => zoS (sh a154) 100 (fun le179 => if (i177 : Int32) < 0 ∨ le179 ≤ (i177 : Int32).toNatClampNeg then none else zoL (mI mm a154 (i177 : Int32).toNatClampNeg x176) (fun mm181 => L_MPainter_goOverPixel_396 sh fu v0 v21 v23 v31 (v33 + 1) mm181))))))) else zoS (sh v0) 13 (fun le157 => Option.bind (mm.2.2 v0 30) (fun a158 => zoS (sh a158) 102 (fun le160 => if (v33 : Int32) < 0 ∨ le160 ≤ (v33 : Int32).toNatClampNeg then none else zoL (((mm.2.1 a158 (v33 : Int32).toNatClampNeg) * v31) + (x151 * (255 - v31))) (fun x162 => Option.bind (F_MPainter_div sh mm x162 255) (fun p163 => zoL ((p163.1 : Int64).toInt32) (fun x164 => zoL ((3 * v23) + v33) (fun i165 => zoS (sh a154) 100 (fun le167 => if (i165 : Int32) < 0 ∨ le167 ≤ (i165 : Int32).toNatClampNeg then none else zoL (mI (p163.2) a154 (i165 : Int32).toNatClampNeg x164) (fun mm169 => L_MPainter_goOverPixel_396 sh fu v0 v21 v23 v31 (v33 + 1) mm169))))))))))))))))))
set_option maxHeartbeats 4000000 in
set_option maxRecDepth 100000 in
theorem lp_MPainter_goOverPixel_396 {p : Program} {l : Launch} {e : Env} {s : State} {m : MethodId} {args : Array Value} {below : List Frame} {meth : Method} {c : Code} {D : va_G} {tA : Nat → ClassId} {b n : Nat} {post : Option Value → zV → Nat → Prop} {sh : zSh} (F : zF p s m args meth c zb_MPainter_goOverPixel 36 "OrreryBoxModel$Painter" D tA b) : ∀ (fuel : Nat) (v0 : Nat) (v21 : Int64) (v23 : Int32) (v31 : Int64) (v33 : Int32) (mm : zMem) (r : Nat × Int64 × Int32 × Int64 × Int32 × zMem), L_MPainter_goOverPixel_396 sh fuel v0 v21 v23 v31 v33 mm = some r → (Z p l e { frames := 5, cells := 0, slots := 0, locals := 158 } s m args below meth c D b 36 (MQ below (zQ D b post) args s 0 0 (fun q => b ≤ q)) (zW tA b sh r.2.2.2.2.2) n 0 0 481 [(0, .ref (b + (r.1))), (21, .long (r.2.1)), (23, .int (r.2.2.1)), (31, .long (r.2.2.2.1)), (33, .int (r.2.2.2.2.1))] []) → Z p l e { frames := 5, cells := 0, slots := 0, locals := 158 } s m args below meth c D b 36 (MQ below (zQ D b post) args s 0 0 (fun q => b ≤ q)) (zW tA b sh mm) n 0 0 396 [(0, .ref (b + v0)), (21, .long v21), (23, .int v23), (31, .long v31), (33, .int v33)] [] := by
  intro fuel
  induction fuel with
  | zero =>
    intro v0 v21 v23 v31 v33 mm r h
    cases h
  | succ fu ih =>
    intro v0 v21 v23 v31 v33 mm r h hx0
    rw [L_MPainter_goOverPixel_396] at h
    refine zr_iload F zd_MPainter_goOverPixel_396 rfl ?_
    refine zr_iconstv (v := 3) F zd_MPainter_goOverPixel_398 (by decide) ?_
    refine zr_icmp_ge F 481 zd_MPainter_goOverPixel_399 (by decide) (fun hb143 => ?_) (fun hb143 => ?_)
    ·
      replace h := (if_pos hb143).symm.trans h
      obtain rfl := Option.some.inj h
      refine zr_loc (L' := [(0, .ref (b + v0)), (21, .long v21), (23, .int v23), (31, .long v31), (33, .int v33)]) ⟨rfl, rfl, rfl, rfl, rfl, trivial⟩ ?_
      exact hx0 
    ·
      replace h := (if_neg hb143).symm.trans h
      refine zr_aload_n F zd_MPainter_goOverPixel_402 rfl ?_
      refine zr_pcn 403 rfl ?_
      obtain ⟨le145, hs144, h⟩ := zoS_s h
      obtain ⟨a146, ea146, h⟩ := zoB_s h
      refine zr_get F 13 3 zd_MPainter_goOverPixel_403 (zW_o hs144 (by decide)) rfl (by decide) zw_1579 rfl (by rfl) ?_
      refine zr_tor ea146 ?_
      refine zr_iconstv (v := 3) F zd_MPainter_goOverPixel_406 (by decide) ?_
      refine zr_iload F zd_MPainter_goOverPixel_407 rfl ?_
      refine zr_imul F zd_MPainter_goOverPixel_409 ?_
      refine zr_iload F zd_MPainter_goOverPixel_410 rfl ?_
      refine zr_iadd F zd_MPainter_goOverPixel_412 ?_
      obtain ⟨i147, ei147, h⟩ := zoL_s h
      rw [← ei147]
      obtain ⟨le149, hs148, h⟩ := zoS_s h
      obtain ⟨hi150, h⟩ := zoI_s h
      refine zr_iald F zd_MPainter_goOverPixel_413 (zW_a0 hs148) hi150 ?_
      refine zr_i2l F zd_MPainter_goOverPixel_414 ?_
      refine zr_pcn 415 rfl ?_
      obtain ⟨x151, ex151, h⟩ := zoL_s h
      rw [← ex151]
      refine zr_lstore F zd_MPainter_goOverPixel_415 (by decide) ?_
      refine zr_aload_n F zd_MPainter_goOverPixel_417 rfl ?_
      obtain ⟨le153, hs152, h⟩ := zoS_s h
      obtain ⟨a154, ea154, h⟩ := zoB_s h
      refine zr_get F 13 3 zd_MPainter_goOverPixel_418 (zW_o hs152 (by decide)) rfl (by decide) zw_1579 rfl (by rfl) ?_
      refine zr_tor ea154 ?_
      refine zr_iconstv (v := 3) F zd_MPainter_goOverPixel_421 (by decide) ?_
      refine zr_iload F zd_MPainter_goOverPixel_422 rfl ?_
      refine zr_imul F zd_MPainter_goOverPixel_424 ?_
      refine zr_iload F zd_MPainter_goOverPixel_425 rfl ?_
      refine zr_iadd F zd_MPainter_goOverPixel_427 ?_
      refine zr_pcn 428 rfl ?_
      refine zr_lload F zd_MPainter_goOverPixel_428 rfl ?_
      refine zr_ldc2 F zd_MPainter_goOverPixel_430 zw_2138 ?_
      refine zr_lcmp F zd_MPainter_goOverPixel_433 ?_
      refine zr_if_ne F 447 zd_MPainter_goOverPixel_434 (by decide) (fun hb155 => ?_) (fun hb155 => ?_)
      ·
        replace h := (if_neg hb155).symm.trans h
        refine zr_aload_n F zd_MPainter_goOverPixel_447 rfl ?_
        obtain ⟨le157, hs156, h⟩ := zoS_s h
        obtain ⟨a158, ea158, h⟩ := zoB_s h
        refine zr_get F 13 30 zd_MPainter_goOverPixel_448 (zW_o hs156 (by decide)) rfl (by decide) zw_1610 rfl (by rfl) ?_
        refine zr_tor ea158 ?_
        refine zr_iload F zd_MPainter_goOverPixel_451 rfl ?_
        obtain ⟨le160, hs159, h⟩ := zoS_s h
        obtain ⟨hi161, h⟩ := zoI_s h
        refine zr_lald F zd_MPainter_goOverPixel_453 (zW_a2 hs159) hi161 ?_
        refine zr_pcn 454 rfl ?_
        refine zr_lload F zd_MPainter_goOverPixel_454 rfl ?_
        refine zr_lmul F zd_MPainter_goOverPixel_456 ?_
        refine zr_lload F zd_MPainter_goOverPixel_457 rfl ?_
        refine zr_ldc2 F zd_MPainter_goOverPixel_459 zw_2138 ?_
        refine zr_lload F zd_MPainter_goOverPixel_462 rfl ?_
        refine zr_lsub F zd_MPainter_goOverPixel_464 ?_
        refine zr_lmul F zd_MPainter_goOverPixel_465 ?_
        refine zr_ladd F zd_MPainter_goOverPixel_466 ?_
        refine zr_pcn 467 rfl ?_
        refine zr_ldc2 F zd_MPainter_goOverPixel_467 zw_2138 ?_
        obtain ⟨x162, ex162, h⟩ := zoL_s h
        rw [← ex162]
        obtain ⟨p163, ep163, h⟩ := zoB_s h
        refine zr_callS1 F (k_MPainter_div l D tA b sh _ ep163) zd_MPainter_goOverPixel_470 zs_MPainter_103 zq_MPainter_div rfl rfl ⟨(Nat.le_of_ble_eq_true rfl), (Nat.le_of_ble_eq_true rfl)⟩ (Nat.le_of_ble_eq_true rfl) ⟨(Nat.le_of_ble_eq_true rfl), (Nat.le_of_ble_eq_true rfl)⟩ ?_
        refine zr_l2i F zd_MPainter_goOverPixel_473 ?_
        obtain ⟨x164, ex164, h⟩ := zoL_s h
        rw [← ex164]
        obtain ⟨i165, ei165, h⟩ := zoL_s h
        rw [← ei165]
        obtain ⟨le167, hs166, h⟩ := zoS_s h
        obtain ⟨hi168, h⟩ := zoI_s h
        refine zr_iast F zd_MPainter_goOverPixel_474 (zW_a0 hs166) hi168 ?_
        obtain ⟨mm169, emm169, h⟩ := zoL_s h
        refine zr_norm (zW tA b sh mm169) _ (by rw [emm169]; exact zW_s0 hs166) rfl ?_
        refine zr_iinc (v := (v33 + 1)) F zd_MPainter_goOverPixel_475 rfl rfl (by decide) ?_
        refine zr_goto F 396 zd_MPainter_goOverPixel_478 (by decide) ?_
        refine zr_loc (L' := [(0, .ref (b + v0)), (21, .long v21), (23, .int v23), (31, .long v31), (33, .int (v33 + 1))]) ⟨rfl, rfl, rfl, rfl, rfl, trivial⟩ ?_
        exact ih _ _ _ _ _ _ _ h hx0
      ·
        replace h := (if_pos hb155).symm.trans h
        refine zr_aload_n F zd_MPainter_goOverPixel_437 rfl ?_
        obtain ⟨le171, hs170, h⟩ := zoS_s h
        obtain ⟨a172, ea172, h⟩ := zoB_s h
        refine zr_get F 13 30 zd_MPainter_goOverPixel_438 (zW_o hs170 (by decide)) rfl (by decide) zw_1610 rfl (by rfl) ?_
        refine zr_tor ea172 ?_
        refine zr_pcn 441 rfl ?_
        refine zr_iload F zd_MPainter_goOverPixel_441 rfl ?_
        obtain ⟨le174, hs173, h⟩ := zoS_s h
        obtain ⟨hi175, h⟩ := zoI_s h
        refine zr_lald F zd_MPainter_goOverPixel_443 (zW_a2 hs173) hi175 ?_
        refine zr_goto F 473 zd_MPainter_goOverPixel_444 (by decide) ?_
        refine zr_l2i F zd_MPainter_goOverPixel_473 ?_
        obtain ⟨x176, ex176, h⟩ := zoL_s h
        rw [← ex176]
        obtain ⟨i177, ei177, h⟩ := zoL_s h
        rw [← ei177]
        obtain ⟨le179, hs178, h⟩ := zoS_s h
        obtain ⟨hi180, h⟩ := zoI_s h
        refine zr_iast F zd_MPainter_goOverPixel_474 (zW_a0 hs178) hi180 ?_
        obtain ⟨mm181, emm181, h⟩ := zoL_s h
        refine zr_norm (zW tA b sh mm181) _ (by rw [emm181]; exact zW_s0 hs178) rfl ?_
        refine zr_iinc (v := (v33 + 1)) F zd_MPainter_goOverPixel_475 rfl rfl (by decide) ?_
        refine zr_goto F 396 zd_MPainter_goOverPixel_478 (by decide) ?_
        refine zr_loc (L' := [(0, .ref (b + v0)), (21, .long v21), (23, .int v23), (31, .long v31), (33, .int (v33 + 1))]) ⟨rfl, rfl, rfl, rfl, rfl, trivial⟩ ?_
        exact ih _ _ _ _ _ _ _ h hx0
theorem zf_I_13_11 (b : Nat) (m : zMem) (k : Nat) (v : Int32) : (zfl b 13 m k).set 11 (.int v) = zfl b 13 (mI m k 11 v) k := by simp [zfl, mI, upd, vp_updL]
theorem zf_I_13_12 (b : Nat) (m : zMem) (k : Nat) (v : Int32) : (zfl b 13 m k).set 12 (.int v) = zfl b 13 (mI m k 12 v) k := by simp [zfl, mI, upd, vp_updL]
theorem zf_L_13_13 (b : Nat) (m : zMem) (k : Nat) (v : Int64) : (zfl b 13 m k).set 13 (.long v) = zfl b 13 (mL m k 13 v) k := by simp [zfl, mL, upd, vp_updL]
def F_MPainter_goOverPixel (sh : zSh) (mm : zMem) (o : Nat) (x0_ : Int32) (x1_ : Int32) (x2_ : Int32) (x3_ : Int32) (x4_ : Int64) (x5_ : Int32) (x6_ : Int32) : Option zMem := zoL ((((16 * x5_) + 8) : Int32).toInt64) (fun x1 => zoL ((((16 * x6_) + 8) : Int32).toInt64) (fun x2 => zoS (sh o) 13 (fun le4 => Option.bind (F_MPainter_inside sh mm o x2_ x3_ x1 x2) (fun p5 => (if p5.1 = 0 then some (p5.2) else zoS (sh o) 13 (fun le8 => Option.bind (F_MPainter_inside sh (p5.2) o x3_ 0 x1 x2) (fun p9 => (if p9.1 = 0 then some (p9.2) else zoS (sh o) 13 (fun le12 => Option.bind (F_MPainter_inside sh (p9.2) o 0 x2_ x1 x2) (fun p13 => (if p13.1 = 0 then some (p13.2) else zoS (sh o) 13 (fun le16 => Option.bind (F_MPainter_edge sh (p13.2) o x2_ x3_ x1 x2) (fun p17 => zoS (sh o) 13 (fun le19 => Option.bind ((p17.2).2.2 o 29) (fun a20 => zoS (sh a20) 102 (fun le22 => if (0 : Int32) < 0 ∨ le22 ≤ (0 : Int32).toNatClampNeg then none else zoL (p17.1 * ((p17.2).2.1 a20 (0 : Int32).toNatClampNeg)) (fun x24 => zoS (sh o) 13 (fun le26 => Option.bind (F_MPainter_edge sh (p17.2) o x3_ 0 x1 x2) (fun p27 => zoS (sh o) 13 (fun le29 => Option.bind ((p27.2).2.2 o 29) (fun a30 => zoS (sh a30) 102 (fun le32 => if (x2_ : Int32) < 0 ∨ le32 ≤ (x2_ : Int32).toNatClampNeg then none else zoL (p27.1 * ((p27.2).2.1 a30 (x2_ : Int32).toNatClampNeg)) (fun x34 => zoS (sh o) 13 (fun le36 => Option.bind (F_MPainter_edge sh (p27.2) o 0 x2_ x1 x2) (fun p37 => zoS (sh o) 13 (fun le39 => Option.bind ((p37.2).2.2 o 29) (fun a40 => zoS (sh a40) 102 (fun le42 => if (x3_ : Int32) < 0 ∨ le42 ≤ (x3_ : Int32).toNatClampNeg then none else zoL (p37.1 * ((p37.2).2.1 a40 (x3_ : Int32).toNatClampNeg)) (fun x44 => zoL ((x24 + x34) + x44) (fun x45 => Option.bind (F_MPainter_div sh (p37.2) x45 x4_) (fun p46 => zoS (sh o) 13 (fun le48 => (if ((p46.2).1 o 10) = 0 then zoS (sh o) 13 (fun le192 => (if ((p46.2).1 o 11) = (-1) then zoS (sh o) 13 (fun le195 => zoL (mI (p46.2) o 11 x0_) (fun mm196 => zoS (sh o) 13 (fun le198 => zoL (mI mm196 o 12 x1_) (fun mm199 => zoS (sh o) 13 (fun le201 => zoL (mL mm199 o 13 (p46.1)) (fun mm202 => some mm202)))))) else zoS (sh o) 13 (fun le204 => (if (lg_cmp p46.1 ((p46.2).2.1 o 13)) ≤ 0 then some (p46.2) else zoS (sh o) 13 (fun le207 => zoL (mI (p46.2) o 11 x0_) (fun mm208 => zoS (sh o) 13 (fun le210 => zoL (mI mm208 o 12 x1_) (fun mm211 => zoS (sh o) 13 (fun le213 => zoL (mL mm211 o 13 (p46.1)) (fun mm214 => some mm214)))))))))) else zoS (sh o) 13 (fun le51 => zoL ((((p46.2).1 o 1) * x6_) + x5_) (fun x52 => zoS (sh o) 13 (fun le54 => Option.bind ((p46.2).2.2 o 4) (fun a55 => zoS (sh a55) 102 (fun le57 => if (x52 : Int32) < 0 ∨ le57 ≤ (x52 : Int32).toNatClampNeg then none else (if 0 < (lg_cmp p46.1 ((p46.2).2.1 a55 (x52 : Int32).toNatClampNeg)) then zoS (sh o) 13 (fun le61 => Option.bind ((p46.2).2.2 o 23) (fun a62 => zoS (sh a62) 102 (fun le64 => if (3 : Int32) < 0 ∨ le64 ≤ (3 : Int32).toNatClampNeg then none else zoS (sh o) 13 (fun le67 => Option.bind ((p46.2).2.2 o 23) (fun a68 => zoL ((6 * x2_) + 3) (fun i69 => zoS (sh a68) 102 (fun le71 => if (i69 : Int32) < 0 ∨ le71 ≤ (i69 : Int32).toNatClampNeg then none else zoS (sh o) 13 (fun le74 => Option.bind ((p46.2).2.2 o 23) (fun a75 => zoL ((6 * x3_) + 3) (fun i76 => zoS (sh a75) 102 (fun le78 => if (i76 : Int32) < 0 ∨ le78 ≤ (i76 : Int32).toNatClampNeg then none else zoL (((x24 * ((p46.2).2.1 a62 (3 : Int32).toNatClampNeg)) + (x34 * ((p46.2).2.1 a68 (i69 : Int32).toNatClampNeg))) + (x44 * ((p46.2).2.1 a75 (i76 : Int32).toNatClampNeg))) (fun x80 => Option.bind (F_MPainter_div sh (p46.2) x80 x45) (fun p81 => zoS (sh o) 13 (fun le83 => Option.bind ((p81.2).2.2 o 23) (fun a84 => zoS (sh a84) 102 (fun le86 => if (4 : Int32) < 0 ∨ le86 ≤ (4 : Int32).toNatClampNeg then none else zoS (sh o) 13 (fun le89 => Option.bind ((p81.2).2.2 o 23) (fun a90 => zoL ((6 * x2_) + 4) (fun i91 => zoS (sh a90) 102 (fun le93 => if (i91 : Int32) < 0 ∨ le93 ≤ (i91 : Int32).toNatClampNeg then none else zoS (sh o) 13 (fun le96 => Option.bind ((p81.2).2.2 o 23) (fun a97 => zoL ((6 * x3_) + 4) (fun i98 => zoS (sh a97) 102 (fun le100 => if (i98 : Int32) < 0 ∨ le100 ≤ (i98 : Int32).toNatClampNeg then none else zoL (((x24 * ((p81.2).2.1 a84 (4 : Int32).toNatClampNeg)) + (x34 * ((p81.2).2.1 a90 (i91 : Int32).toNatClampNeg))) + (x44 * ((p81.2).2.1 a97 (i98 : Int32).toNatClampNeg))) (fun x102 => Option.bind (F_MPainter_div sh (p81.2) x102 x45) (fun p103 => zoS (sh o) 13 (fun le105 => Option.bind ((p103.2).2.2 o 23) (fun a106 => zoS (sh a106) 102 (fun le108 => if (5 : Int32) < 0 ∨ le108 ≤ (5 : Int32).toNatClampNeg then none else zoS (sh o) 13 (fun le111 => Option.bind ((p103.2).2.2 o 23) (fun a112 => zoL ((6 * x2_) + 5) (fun i113 => zoS (sh a112) 102 (fun le115 => if (i113 : Int32) < 0 ∨ le115 ≤ (i113 : Int32).toNatClampNeg then none else zoS (sh o) 13 (fun le118 => Option.bind ((p103.2).2.2 o 23) (fun a119 => zoL ((6 * x3_) + 5) (fun i120 => zoS (sh a119) 102 (fun le122 => if (i120 : Int32) < 0 ∨ le122 ≤ (i120 : Int32).toNatClampNeg then none else zoL (((x24 * ((p103.2).2.1 a106 (5 : Int32).toNatClampNeg)) + (x34 * ((p103.2).2.1 a112 (i113 : Int32).toNatClampNeg))) + (x44 * ((p103.2).2.1 a119 (i120 : Int32).toNatClampNeg))) (fun x124 => Option.bind (F_MPainter_div sh (p103.2) x124 x45) (fun p125 => zoS (sh o) 13 (fun le127 => Option.bind (F_MPainter_materialOf sh (p125.2) o x0_) (fun p128 => zoS (sh o) 13 (fun le130 => Option.bind (F_MPainter_colour sh (p128.2) o (p128.1) x2_ x3_ x4_ (p81.1) (p103.1) (p125.1)) (fun p131 => zoS (sh o) 13 (fun le133 => Option.bind (p131.2.2 o 5) (fun a134 => zoS (sh a134) 15 (fun le136 => Option.bind (p131.2.2 a134 9) (fun a137 => zoL ((4 * p128.1) + 3) (fun i138 => zoS (sh a137) 100 (fun le140 => if (i138 : Int32) < 0 ∨ le140 ≤ (i138 : Int32).toNatClampNeg then none else zoL (((p131.1 a137 (i138 : Int32).toNatClampNeg) : Int32).toInt64) (fun x142 => Option.bind (L_MPainter_goOverPixel_396 sh zfuel o (p46.1) x52 x142 0 p131) (fun q182 => (if (lg_cmp q182.2.2.2.1 255) = 0 then zoS (sh (q182.1)) 13 (fun le185 => Option.bind ((q182.2.2.2.2.2).2.2 (q182.1) 4) (fun a186 => zoS (sh a186) 102 (fun le188 => if (q182.2.2.1 : Int32) < 0 ∨ le188 ≤ (q182.2.2.1 : Int32).toNatClampNeg then none else zoL (mL (q182.2.2.2.2.2) a186 (q182.2.2.1 : Int32).toNatClampNeg (q182.2.1)) (fun mm190 => some mm190)))) else some (q182.2.2.2.2.2))))))))))))))))))))))))))))))))))))))))))))))))))))) else some (p46.2))))))))))))))))))))))))))))))))))))))))
set_option maxHeartbeats 4000000 in
set_option maxRecDepth 100000 in
theorem k_MPainter_goOverPixel (l : Launch) (D : va_G) (tA : Nat → ClassId) (b : Nat) (sh : zSh) (n : Nat) {mm : zMem} {o : Nat} {x0_ : Int32} {x1_ : Int32} {x2_ : Int32} {x3_ : Int32} {x4_ : Int64} {x5_ : Int32} {x6_ : Int32} {r : zMem} (h : F_MPainter_goOverPixel sh mm o x0_ x1_ x2_ x3_ x4_ x5_ x6_ = some r) : zM l D tA b zy_MPainter_goOverPixel zb_MPainter_goOverPixel 36 none 5 158 0 0 [.ref (b + o), .int x0_, .int x1_, .int x2_, .int x3_, .long x4_, .int x5_, .int x6_] (zW tA b sh mm) n (zE none (zW tA b sh r) n) := by
  unfold F_MPainter_goOverPixel at h
  refine zM_of (own := "OrreryBoxModel$Painter") (plainFor_of_name (by decide)) rfl (Nat.le_of_ble_eq_true rfl) (fun p e s m below meth c F hr hin hH => ?_)
  refine zr_bipushv (v := 16) F zd_MPainter_goOverPixel_0 (by decide) ?_
  refine zr_iload F zd_MPainter_goOverPixel_2 rfl ?_
  refine zr_imul F zd_MPainter_goOverPixel_4 ?_
  refine zr_bipushv (v := 8) F zd_MPainter_goOverPixel_5 (by decide) ?_
  refine zr_iadd F zd_MPainter_goOverPixel_7 ?_
  refine zr_i2l F zd_MPainter_goOverPixel_8 ?_
  obtain ⟨x1, ex1, h⟩ := zoL_s h
  rw [← ex1]
  refine zr_lstore F zd_MPainter_goOverPixel_9 (by decide) ?_
  refine zr_pcn 11 rfl ?_
  refine zr_bipushv (v := 16) F zd_MPainter_goOverPixel_11 (by decide) ?_
  refine zr_iload F zd_MPainter_goOverPixel_13 rfl ?_
  refine zr_imul F zd_MPainter_goOverPixel_15 ?_
  refine zr_bipushv (v := 8) F zd_MPainter_goOverPixel_16 (by decide) ?_
  refine zr_iadd F zd_MPainter_goOverPixel_18 ?_
  refine zr_i2l F zd_MPainter_goOverPixel_19 ?_
  obtain ⟨x2, ex2, h⟩ := zoL_s h
  rw [← ex2]
  refine zr_lstore F zd_MPainter_goOverPixel_20 (by decide) ?_
  refine zr_aload_n F zd_MPainter_goOverPixel_22 rfl ?_
  refine zr_pcn 23 rfl ?_
  refine zr_iload_n F zd_MPainter_goOverPixel_23 rfl ?_
  refine zr_iload F zd_MPainter_goOverPixel_24 rfl ?_
  refine zr_lload F zd_MPainter_goOverPixel_26 rfl ?_
  refine zr_lload F zd_MPainter_goOverPixel_28 rfl ?_
  obtain ⟨le4, hs3, h⟩ := zoS_s h
  obtain ⟨p5, ep5, h⟩ := zoB_s h
  refine zr_callV1 F (k_MPainter_inside l D tA b sh _ ep5) zd_MPainter_goOverPixel_30 (zW_o hs3 (by decide)) rfl zs_MPainter_285 rfl zq_MPainter_inside rfl rfl ⟨(Nat.le_of_ble_eq_true rfl), (Nat.le_of_ble_eq_true rfl)⟩ (Nat.le_of_ble_eq_true rfl) ⟨(Nat.le_of_ble_eq_true rfl), (Nat.le_of_ble_eq_true rfl)⟩ ?_
  refine zr_if_eq F 63 zd_MPainter_goOverPixel_33 (by decide) (fun hb6 => ?_) (fun hb6 => ?_)
  ·
    replace h := (if_pos hb6).symm.trans h
    obtain rfl := Option.some.inj h
    exact zr_vret F hr zd_MPainter_goOverPixel_63 (Nat.le_of_ble_eq_true rfl) (Nat.le_of_ble_eq_true rfl) ⟨rfl, rfl, rfl⟩
  ·
    replace h := (if_neg hb6).symm.trans h
    refine zr_aload_n F zd_MPainter_goOverPixel_36 rfl ?_
    refine zr_pcn 37 rfl ?_
    refine zr_iload F zd_MPainter_goOverPixel_37 rfl ?_
    refine zr_iconstv (v := 0) F zd_MPainter_goOverPixel_39 (by decide) ?_
    refine zr_lload F zd_MPainter_goOverPixel_40 rfl ?_
    refine zr_lload F zd_MPainter_goOverPixel_42 rfl ?_
    obtain ⟨le8, hs7, h⟩ := zoS_s h
    obtain ⟨p9, ep9, h⟩ := zoB_s h
    refine zr_callV1 F (k_MPainter_inside l D tA b sh _ ep9) zd_MPainter_goOverPixel_44 (zW_o hs7 (by decide)) rfl zs_MPainter_285 rfl zq_MPainter_inside rfl rfl ⟨(Nat.le_of_ble_eq_true rfl), (Nat.le_of_ble_eq_true rfl)⟩ (Nat.le_of_ble_eq_true rfl) ⟨(Nat.le_of_ble_eq_true rfl), (Nat.le_of_ble_eq_true rfl)⟩ ?_
    refine zr_if_eq F 63 zd_MPainter_goOverPixel_47 (by decide) (fun hb10 => ?_) (fun hb10 => ?_)
    ·
      replace h := (if_pos hb10).symm.trans h
      obtain rfl := Option.some.inj h
      exact zr_vret F hr zd_MPainter_goOverPixel_63 (Nat.le_of_ble_eq_true rfl) (Nat.le_of_ble_eq_true rfl) ⟨rfl, rfl, rfl⟩
    ·
      replace h := (if_neg hb10).symm.trans h
      refine zr_aload_n F zd_MPainter_goOverPixel_50 rfl ?_
      refine zr_pcn 51 rfl ?_
      refine zr_iconstv (v := 0) F zd_MPainter_goOverPixel_51 (by decide) ?_
      refine zr_iload_n F zd_MPainter_goOverPixel_52 rfl ?_
      refine zr_lload F zd_MPainter_goOverPixel_53 rfl ?_
      refine zr_lload F zd_MPainter_goOverPixel_55 rfl ?_
      obtain ⟨le12, hs11, h⟩ := zoS_s h
      obtain ⟨p13, ep13, h⟩ := zoB_s h
      refine zr_callV1 F (k_MPainter_inside l D tA b sh _ ep13) zd_MPainter_goOverPixel_57 (zW_o hs11 (by decide)) rfl zs_MPainter_285 rfl zq_MPainter_inside rfl rfl ⟨(Nat.le_of_ble_eq_true rfl), (Nat.le_of_ble_eq_true rfl)⟩ (Nat.le_of_ble_eq_true rfl) ⟨(Nat.le_of_ble_eq_true rfl), (Nat.le_of_ble_eq_true rfl)⟩ ?_
      refine zr_if_ne F 64 zd_MPainter_goOverPixel_60 (by decide) (fun hb14 => ?_) (fun hb14 => ?_)
      ·
        replace h := (if_neg hb14).symm.trans h
        refine zr_aload_n F zd_MPainter_goOverPixel_64 rfl ?_
        refine zr_iload_n F zd_MPainter_goOverPixel_65 rfl ?_
        refine zr_pcn 66 rfl ?_
        refine zr_iload F zd_MPainter_goOverPixel_66 rfl ?_
        refine zr_lload F zd_MPainter_goOverPixel_68 rfl ?_
        refine zr_lload F zd_MPainter_goOverPixel_70 rfl ?_
        obtain ⟨le16, hs15, h⟩ := zoS_s h
        obtain ⟨p17, ep17, h⟩ := zoB_s h
        refine zr_callV1 F (k_MPainter_edge l D tA b sh _ ep17) zd_MPainter_goOverPixel_72 (zW_o hs15 (by decide)) rfl zs_MPainter_281 rfl zq_MPainter_edge rfl rfl ⟨(Nat.le_of_ble_eq_true rfl), (Nat.le_of_ble_eq_true rfl)⟩ (Nat.le_of_ble_eq_true rfl) ⟨(Nat.le_of_ble_eq_true rfl), (Nat.le_of_ble_eq_true rfl)⟩ ?_
        refine zr_aload_n F zd_MPainter_goOverPixel_75 rfl ?_
        obtain ⟨le19, hs18, h⟩ := zoS_s h
        obtain ⟨a20, ea20, h⟩ := zoB_s h
        refine zr_get F 13 29 zd_MPainter_goOverPixel_76 (zW_o hs18 (by decide)) rfl (by decide) zw_1609 rfl (by rfl) ?_
        refine zr_tor ea20 ?_
        refine zr_iconstv (v := 0) F zd_MPainter_goOverPixel_79 (by decide) ?_
        obtain ⟨le22, hs21, h⟩ := zoS_s h
        obtain ⟨hi23, h⟩ := zoI_s h
        refine zr_lald F zd_MPainter_goOverPixel_80 (zW_a2 hs21) hi23 ?_
        refine zr_pcn 81 rfl ?_
        refine zr_lmul F zd_MPainter_goOverPixel_81 ?_
        obtain ⟨x24, ex24, h⟩ := zoL_s h
        rw [← ex24]
        refine zr_lstore F zd_MPainter_goOverPixel_82 (by decide) ?_
        refine zr_loc (L' := [(0, .ref (b + o)), (1, .int x0_), (2, .int x1_), (3, .int x2_), (4, .int x3_), (5, .long x4_), (7, .int x5_), (8, .int x6_), (9, .long x1), (11, .long x2), (13, .long x24)]) ⟨rfl, rfl, rfl, rfl, rfl, rfl, rfl, rfl, rfl, rfl, rfl, trivial⟩ ?_
        refine zr_aload_n F zd_MPainter_goOverPixel_84 rfl ?_
        refine zr_iload F zd_MPainter_goOverPixel_85 rfl ?_
        refine zr_iconstv (v := 0) F zd_MPainter_goOverPixel_87 (by decide) ?_
        refine zr_lload F zd_MPainter_goOverPixel_88 rfl ?_
        refine zr_lload F zd_MPainter_goOverPixel_90 rfl ?_
        obtain ⟨le26, hs25, h⟩ := zoS_s h
        obtain ⟨p27, ep27, h⟩ := zoB_s h
        refine zr_callV1 F (k_MPainter_edge l D tA b sh _ ep27) zd_MPainter_goOverPixel_92 (zW_o hs25 (by decide)) rfl zs_MPainter_281 rfl zq_MPainter_edge rfl rfl ⟨(Nat.le_of_ble_eq_true rfl), (Nat.le_of_ble_eq_true rfl)⟩ (Nat.le_of_ble_eq_true rfl) ⟨(Nat.le_of_ble_eq_true rfl), (Nat.le_of_ble_eq_true rfl)⟩ ?_
        refine zr_pcn 95 rfl ?_
        refine zr_aload_n F zd_MPainter_goOverPixel_95 rfl ?_
        obtain ⟨le29, hs28, h⟩ := zoS_s h
        obtain ⟨a30, ea30, h⟩ := zoB_s h
        refine zr_get F 13 29 zd_MPainter_goOverPixel_96 (zW_o hs28 (by decide)) rfl (by decide) zw_1609 rfl (by rfl) ?_
        refine zr_tor ea30 ?_
        refine zr_iload_n F zd_MPainter_goOverPixel_99 rfl ?_
        obtain ⟨le32, hs31, h⟩ := zoS_s h
        obtain ⟨hi33, h⟩ := zoI_s h
        refine zr_lald F zd_MPainter_goOverPixel_100 (zW_a2 hs31) hi33 ?_
        refine zr_lmul F zd_MPainter_goOverPixel_101 ?_
        obtain ⟨x34, ex34, h⟩ := zoL_s h
        rw [← ex34]
        refine zr_lstore F zd_MPainter_goOverPixel_102 (by decide) ?_
        refine zr_aload_n F zd_MPainter_goOverPixel_104 rfl ?_
        refine zr_iconstv (v := 0) F zd_MPainter_goOverPixel_105 (by decide) ?_
        refine zr_pcn 106 rfl ?_
        refine zr_iload_n F zd_MPainter_goOverPixel_106 rfl ?_
        refine zr_lload F zd_MPainter_goOverPixel_107 rfl ?_
        refine zr_lload F zd_MPainter_goOverPixel_109 rfl ?_
        obtain ⟨le36, hs35, h⟩ := zoS_s h
        obtain ⟨p37, ep37, h⟩ := zoB_s h
        refine zr_callV1 F (k_MPainter_edge l D tA b sh _ ep37) zd_MPainter_goOverPixel_111 (zW_o hs35 (by decide)) rfl zs_MPainter_281 rfl zq_MPainter_edge rfl rfl ⟨(Nat.le_of_ble_eq_true rfl), (Nat.le_of_ble_eq_true rfl)⟩ (Nat.le_of_ble_eq_true rfl) ⟨(Nat.le_of_ble_eq_true rfl), (Nat.le_of_ble_eq_true rfl)⟩ ?_
        refine zr_aload_n F zd_MPainter_goOverPixel_114 rfl ?_
        obtain ⟨le39, hs38, h⟩ := zoS_s h
        obtain ⟨a40, ea40, h⟩ := zoB_s h
        refine zr_get F 13 29 zd_MPainter_goOverPixel_115 (zW_o hs38 (by decide)) rfl (by decide) zw_1609 rfl (by rfl) ?_
        refine zr_tor ea40 ?_
        refine zr_iload F zd_MPainter_goOverPixel_118 rfl ?_
        obtain ⟨le42, hs41, h⟩ := zoS_s h
        obtain ⟨hi43, h⟩ := zoI_s h
        refine zr_lald F zd_MPainter_goOverPixel_120 (zW_a2 hs41) hi43 ?_
        refine zr_pcn 121 rfl ?_
        refine zr_lmul F zd_MPainter_goOverPixel_121 ?_
        obtain ⟨x44, ex44, h⟩ := zoL_s h
        rw [← ex44]
        refine zr_lstore F zd_MPainter_goOverPixel_122 (by decide) ?_
        refine zr_lload F zd_MPainter_goOverPixel_124 rfl ?_
        refine zr_lload F zd_MPainter_goOverPixel_126 rfl ?_
        refine zr_ladd F zd_MPainter_goOverPixel_128 ?_
        refine zr_lload F zd_MPainter_goOverPixel_129 rfl ?_
        refine zr_ladd F zd_MPainter_goOverPixel_131 ?_
        obtain ⟨x45, ex45, h⟩ := zoL_s h
        rw [← ex45]
        refine zr_lstore F zd_MPainter_goOverPixel_132 (by decide) ?_
        refine zr_loc (L' := [(0, .ref (b + o)), (1, .int x0_), (2, .int x1_), (3, .int x2_), (4, .int x3_), (5, .long x4_), (7, .int x5_), (8, .int x6_), (13, .long x24), (15, .long x34), (17, .long x44), (19, .long x45)]) ⟨rfl, rfl, rfl, rfl, rfl, rfl, rfl, rfl, rfl, rfl, rfl, rfl, trivial⟩ ?_
        refine zr_pcn 134 rfl ?_
        refine zr_lload F zd_MPainter_goOverPixel_134 rfl ?_
        refine zr_lload F zd_MPainter_goOverPixel_136 rfl ?_
        obtain ⟨p46, ep46, h⟩ := zoB_s h
        refine zr_callS1 F (k_MPainter_div l D tA b sh _ ep46) zd_MPainter_goOverPixel_138 zs_MPainter_103 zq_MPainter_div rfl rfl ⟨(Nat.le_of_ble_eq_true rfl), (Nat.le_of_ble_eq_true rfl)⟩ (Nat.le_of_ble_eq_true rfl) ⟨(Nat.le_of_ble_eq_true rfl), (Nat.le_of_ble_eq_true rfl)⟩ ?_
        refine zr_lstore F zd_MPainter_goOverPixel_141 (by decide) ?_
        refine zr_aload_n F zd_MPainter_goOverPixel_143 rfl ?_
        obtain ⟨le48, hs47, h⟩ := zoS_s h
        refine zr_get F 13 10 zd_MPainter_goOverPixel_144 (zW_o hs47 (by decide)) rfl (by decide) zw_1587 rfl (by rfl) ?_
        refine zr_if_ne F 185 zd_MPainter_goOverPixel_147 (by decide) (fun hb49 => ?_) (fun hb49 => ?_)
        ·
          replace h := (if_neg hb49).symm.trans h
          refine zr_aload_n F zd_MPainter_goOverPixel_185 rfl ?_
          refine zr_pcn 186 rfl ?_
          obtain ⟨le51, hs50, h⟩ := zoS_s h
          refine zr_get F 13 1 zd_MPainter_goOverPixel_186 (zW_o hs50 (by decide)) rfl (by decide) zw_1577 rfl (by rfl) ?_
          refine zr_iload F zd_MPainter_goOverPixel_189 rfl ?_
          refine zr_imul F zd_MPainter_goOverPixel_191 ?_
          refine zr_iload F zd_MPainter_goOverPixel_192 rfl ?_
          refine zr_iadd F zd_MPainter_goOverPixel_194 ?_
          obtain ⟨x52, ex52, h⟩ := zoL_s h
          rw [← ex52]
          refine zr_istore F zd_MPainter_goOverPixel_195 (by decide) ?_
          refine zr_lload F zd_MPainter_goOverPixel_197 rfl ?_
          refine zr_aload_n F zd_MPainter_goOverPixel_199 rfl ?_
          refine zr_pcn 200 rfl ?_
          obtain ⟨le54, hs53, h⟩ := zoS_s h
          obtain ⟨a55, ea55, h⟩ := zoB_s h
          refine zr_get F 13 4 zd_MPainter_goOverPixel_200 (zW_o hs53 (by decide)) rfl (by decide) zw_1580 rfl (by rfl) ?_
          refine zr_tor ea55 ?_
          refine zr_iload F zd_MPainter_goOverPixel_203 rfl ?_
          obtain ⟨le57, hs56, h⟩ := zoS_s h
          obtain ⟨hi58, h⟩ := zoI_s h
          refine zr_lald F zd_MPainter_goOverPixel_205 (zW_a2 hs56) hi58 ?_
          refine zr_lcmp F zd_MPainter_goOverPixel_206 ?_
          refine zr_if_gt F 211 zd_MPainter_goOverPixel_207 (by decide) (fun hb59 => ?_) (fun hb59 => ?_)
          ·
            replace h := (if_pos hb59).symm.trans h
            refine zr_lload F zd_MPainter_goOverPixel_211 rfl ?_
            refine zr_aload_n F zd_MPainter_goOverPixel_213 rfl ?_
            obtain ⟨le61, hs60, h⟩ := zoS_s h
            obtain ⟨a62, ea62, h⟩ := zoB_s h
            refine zr_get F 13 23 zd_MPainter_goOverPixel_214 (zW_o hs60 (by decide)) rfl (by decide) zw_1603 rfl (by rfl) ?_
            refine zr_tor ea62 ?_
            refine zr_pcn 217 rfl ?_
            refine zr_iconstv (v := 3) F zd_MPainter_goOverPixel_217 (by decide) ?_
            obtain ⟨le64, hs63, h⟩ := zoS_s h
            obtain ⟨hi65, h⟩ := zoI_s h
            refine zr_lald F zd_MPainter_goOverPixel_218 (zW_a2 hs63) hi65 ?_
            refine zr_lmul F zd_MPainter_goOverPixel_219 ?_
            refine zr_lload F zd_MPainter_goOverPixel_220 rfl ?_
            refine zr_aload_n F zd_MPainter_goOverPixel_222 rfl ?_
            obtain ⟨le67, hs66, h⟩ := zoS_s h
            obtain ⟨a68, ea68, h⟩ := zoB_s h
            refine zr_get F 13 23 zd_MPainter_goOverPixel_223 (zW_o hs66 (by decide)) rfl (by decide) zw_1603 rfl (by rfl) ?_
            refine zr_tor ea68 ?_
            refine zr_bipushv (v := 6) F zd_MPainter_goOverPixel_226 (by decide) ?_
            refine zr_iload_n F zd_MPainter_goOverPixel_228 rfl ?_
            refine zr_pcn 229 rfl ?_
            refine zr_imul F zd_MPainter_goOverPixel_229 ?_
            refine zr_iconstv (v := 3) F zd_MPainter_goOverPixel_230 (by decide) ?_
            refine zr_iadd F zd_MPainter_goOverPixel_231 ?_
            obtain ⟨i69, ei69, h⟩ := zoL_s h
            rw [← ei69]
            obtain ⟨le71, hs70, h⟩ := zoS_s h
            obtain ⟨hi72, h⟩ := zoI_s h
            refine zr_lald F zd_MPainter_goOverPixel_232 (zW_a2 hs70) hi72 ?_
            refine zr_lmul F zd_MPainter_goOverPixel_233 ?_
            refine zr_ladd F zd_MPainter_goOverPixel_234 ?_
            refine zr_lload F zd_MPainter_goOverPixel_235 rfl ?_
            refine zr_aload_n F zd_MPainter_goOverPixel_237 rfl ?_
            refine zr_pcn 238 rfl ?_
            obtain ⟨le74, hs73, h⟩ := zoS_s h
            obtain ⟨a75, ea75, h⟩ := zoB_s h
            refine zr_get F 13 23 zd_MPainter_goOverPixel_238 (zW_o hs73 (by decide)) rfl (by decide) zw_1603 rfl (by rfl) ?_
            refine zr_tor ea75 ?_
            refine zr_bipushv (v := 6) F zd_MPainter_goOverPixel_241 (by decide) ?_
            refine zr_iload F zd_MPainter_goOverPixel_243 rfl ?_
            refine zr_imul F zd_MPainter_goOverPixel_245 ?_
            refine zr_iconstv (v := 3) F zd_MPainter_goOverPixel_246 (by decide) ?_
            refine zr_iadd F zd_MPainter_goOverPixel_247 ?_
            obtain ⟨i76, ei76, h⟩ := zoL_s h
            rw [← ei76]
            obtain ⟨le78, hs77, h⟩ := zoS_s h
            obtain ⟨hi79, h⟩ := zoI_s h
            refine zr_lald F zd_MPainter_goOverPixel_248 (zW_a2 hs77) hi79 ?_
            refine zr_lmul F zd_MPainter_goOverPixel_249 ?_
            refine zr_pcn 250 rfl ?_
            refine zr_ladd F zd_MPainter_goOverPixel_250 ?_
            refine zr_lload F zd_MPainter_goOverPixel_251 rfl ?_
            obtain ⟨x80, ex80, h⟩ := zoL_s h
            rw [← ex80]
            obtain ⟨p81, ep81, h⟩ := zoB_s h
            refine zr_callS1 F (k_MPainter_div l D tA b sh _ ep81) zd_MPainter_goOverPixel_253 zs_MPainter_103 zq_MPainter_div rfl rfl ⟨(Nat.le_of_ble_eq_true rfl), (Nat.le_of_ble_eq_true rfl)⟩ (Nat.le_of_ble_eq_true rfl) ⟨(Nat.le_of_ble_eq_true rfl), (Nat.le_of_ble_eq_true rfl)⟩ ?_
            refine zr_lstore F zd_MPainter_goOverPixel_256 (by decide) ?_
            refine zr_loc (L' := [(0, .ref (b + o)), (1, .int x0_), (3, .int x2_), (4, .int x3_), (5, .long x4_), (13, .long x24), (15, .long x34), (17, .long x44), (19, .long x45), (21, .long (p46.1)), (23, .int x52), (24, .long (p81.1))]) ⟨rfl, rfl, rfl, rfl, rfl, rfl, rfl, rfl, rfl, rfl, rfl, rfl, trivial⟩ ?_
            refine zr_lload F zd_MPainter_goOverPixel_258 rfl ?_
            refine zr_aload_n F zd_MPainter_goOverPixel_260 rfl ?_
            obtain ⟨le83, hs82, h⟩ := zoS_s h
            obtain ⟨a84, ea84, h⟩ := zoB_s h
            refine zr_get F 13 23 zd_MPainter_goOverPixel_261 (zW_o hs82 (by decide)) rfl (by decide) zw_1603 rfl (by rfl) ?_
            refine zr_tor ea84 ?_
            refine zr_iconstv (v := 4) F zd_MPainter_goOverPixel_264 (by decide) ?_
            refine zr_pcn 265 rfl ?_
            obtain ⟨le86, hs85, h⟩ := zoS_s h
            obtain ⟨hi87, h⟩ := zoI_s h
            refine zr_lald F zd_MPainter_goOverPixel_265 (zW_a2 hs85) hi87 ?_
            refine zr_lmul F zd_MPainter_goOverPixel_266 ?_
            refine zr_lload F zd_MPainter_goOverPixel_267 rfl ?_
            refine zr_aload_n F zd_MPainter_goOverPixel_269 rfl ?_
            obtain ⟨le89, hs88, h⟩ := zoS_s h
            obtain ⟨a90, ea90, h⟩ := zoB_s h
            refine zr_get F 13 23 zd_MPainter_goOverPixel_270 (zW_o hs88 (by decide)) rfl (by decide) zw_1603 rfl (by rfl) ?_
            refine zr_tor ea90 ?_
            refine zr_bipushv (v := 6) F zd_MPainter_goOverPixel_273 (by decide) ?_
            refine zr_iload_n F zd_MPainter_goOverPixel_275 rfl ?_
            refine zr_imul F zd_MPainter_goOverPixel_276 ?_
            refine zr_pcn 277 rfl ?_
            refine zr_iconstv (v := 4) F zd_MPainter_goOverPixel_277 (by decide) ?_
            refine zr_iadd F zd_MPainter_goOverPixel_278 ?_
            obtain ⟨i91, ei91, h⟩ := zoL_s h
            rw [← ei91]
            obtain ⟨le93, hs92, h⟩ := zoS_s h
            obtain ⟨hi94, h⟩ := zoI_s h
            refine zr_lald F zd_MPainter_goOverPixel_279 (zW_a2 hs92) hi94 ?_
            refine zr_lmul F zd_MPainter_goOverPixel_280 ?_
            refine zr_ladd F zd_MPainter_goOverPixel_281 ?_
            refine zr_lload F zd_MPainter_goOverPixel_282 rfl ?_
            refine zr_aload_n F zd_MPainter_goOverPixel_284 rfl ?_
            obtain ⟨le96, hs95, h⟩ := zoS_s h
            obtain ⟨a97, ea97, h⟩ := zoB_s h
            refine zr_get F 13 23 zd_MPainter_goOverPixel_285 (zW_o hs95 (by decide)) rfl (by decide) zw_1603 rfl (by rfl) ?_
            refine zr_tor ea97 ?_
            refine zr_pcn 288 rfl ?_
            refine zr_bipushv (v := 6) F zd_MPainter_goOverPixel_288 (by decide) ?_
            refine zr_iload F zd_MPainter_goOverPixel_290 rfl ?_
            refine zr_imul F zd_MPainter_goOverPixel_292 ?_
            refine zr_iconstv (v := 4) F zd_MPainter_goOverPixel_293 (by decide) ?_
            refine zr_iadd F zd_MPainter_goOverPixel_294 ?_
            obtain ⟨i98, ei98, h⟩ := zoL_s h
            rw [← ei98]
            obtain ⟨le100, hs99, h⟩ := zoS_s h
            obtain ⟨hi101, h⟩ := zoI_s h
            refine zr_lald F zd_MPainter_goOverPixel_295 (zW_a2 hs99) hi101 ?_
            refine zr_lmul F zd_MPainter_goOverPixel_296 ?_
            refine zr_ladd F zd_MPainter_goOverPixel_297 ?_
            refine zr_pcn 298 rfl ?_
            refine zr_lload F zd_MPainter_goOverPixel_298 rfl ?_
            obtain ⟨x102, ex102, h⟩ := zoL_s h
            rw [← ex102]
            obtain ⟨p103, ep103, h⟩ := zoB_s h
            refine zr_callS1 F (k_MPainter_div l D tA b sh _ ep103) zd_MPainter_goOverPixel_300 zs_MPainter_103 zq_MPainter_div rfl rfl ⟨(Nat.le_of_ble_eq_true rfl), (Nat.le_of_ble_eq_true rfl)⟩ (Nat.le_of_ble_eq_true rfl) ⟨(Nat.le_of_ble_eq_true rfl), (Nat.le_of_ble_eq_true rfl)⟩ ?_
            refine zr_lstore F zd_MPainter_goOverPixel_303 (by decide) ?_
            refine zr_lload F zd_MPainter_goOverPixel_305 rfl ?_
            refine zr_aload_n F zd_MPainter_goOverPixel_307 rfl ?_
            obtain ⟨le105, hs104, h⟩ := zoS_s h
            obtain ⟨a106, ea106, h⟩ := zoB_s h
            refine zr_get F 13 23 zd_MPainter_goOverPixel_308 (zW_o hs104 (by decide)) rfl (by decide) zw_1603 rfl (by rfl) ?_
            refine zr_tor ea106 ?_
            refine zr_iconstv (v := 5) F zd_MPainter_goOverPixel_311 (by decide) ?_
            obtain ⟨le108, hs107, h⟩ := zoS_s h
            obtain ⟨hi109, h⟩ := zoI_s h
            refine zr_lald F zd_MPainter_goOverPixel_312 (zW_a2 hs107) hi109 ?_
            refine zr_pcn 313 rfl ?_
            refine zr_lmul F zd_MPainter_goOverPixel_313 ?_
            refine zr_lload F zd_MPainter_goOverPixel_314 rfl ?_
            refine zr_aload_n F zd_MPainter_goOverPixel_316 rfl ?_
            obtain ⟨le111, hs110, h⟩ := zoS_s h
            obtain ⟨a112, ea112, h⟩ := zoB_s h
            refine zr_get F 13 23 zd_MPainter_goOverPixel_317 (zW_o hs110 (by decide)) rfl (by decide) zw_1603 rfl (by rfl) ?_
            refine zr_tor ea112 ?_
            refine zr_bipushv (v := 6) F zd_MPainter_goOverPixel_320 (by decide) ?_
            refine zr_iload_n F zd_MPainter_goOverPixel_322 rfl ?_
            refine zr_imul F zd_MPainter_goOverPixel_323 ?_
            refine zr_iconstv (v := 5) F zd_MPainter_goOverPixel_324 (by decide) ?_
            refine zr_pcn 325 rfl ?_
            refine zr_iadd F zd_MPainter_goOverPixel_325 ?_
            obtain ⟨i113, ei113, h⟩ := zoL_s h
            rw [← ei113]
            obtain ⟨le115, hs114, h⟩ := zoS_s h
            obtain ⟨hi116, h⟩ := zoI_s h
            refine zr_lald F zd_MPainter_goOverPixel_326 (zW_a2 hs114) hi116 ?_
            refine zr_lmul F zd_MPainter_goOverPixel_327 ?_
            refine zr_ladd F zd_MPainter_goOverPixel_328 ?_
            refine zr_lload F zd_MPainter_goOverPixel_329 rfl ?_
            refine zr_aload_n F zd_MPainter_goOverPixel_331 rfl ?_
            obtain ⟨le118, hs117, h⟩ := zoS_s h
            obtain ⟨a119, ea119, h⟩ := zoB_s h
            refine zr_get F 13 23 zd_MPainter_goOverPixel_332 (zW_o hs117 (by decide)) rfl (by decide) zw_1603 rfl (by rfl) ?_
            refine zr_tor ea119 ?_
            refine zr_bipushv (v := 6) F zd_MPainter_goOverPixel_335 (by decide) ?_
            refine zr_pcn 337 rfl ?_
            refine zr_iload F zd_MPainter_goOverPixel_337 rfl ?_
            refine zr_imul F zd_MPainter_goOverPixel_339 ?_
            refine zr_iconstv (v := 5) F zd_MPainter_goOverPixel_340 (by decide) ?_
            refine zr_iadd F zd_MPainter_goOverPixel_341 ?_
            obtain ⟨i120, ei120, h⟩ := zoL_s h
            rw [← ei120]
            obtain ⟨le122, hs121, h⟩ := zoS_s h
            obtain ⟨hi123, h⟩ := zoI_s h
            refine zr_lald F zd_MPainter_goOverPixel_342 (zW_a2 hs121) hi123 ?_
            refine zr_lmul F zd_MPainter_goOverPixel_343 ?_
            refine zr_ladd F zd_MPainter_goOverPixel_344 ?_
            refine zr_lload F zd_MPainter_goOverPixel_345 rfl ?_
            refine zr_pcn 347 rfl ?_
            obtain ⟨x124, ex124, h⟩ := zoL_s h
            rw [← ex124]
            obtain ⟨p125, ep125, h⟩ := zoB_s h
            refine zr_callS1 F (k_MPainter_div l D tA b sh _ ep125) zd_MPainter_goOverPixel_347 zs_MPainter_103 zq_MPainter_div rfl rfl ⟨(Nat.le_of_ble_eq_true rfl), (Nat.le_of_ble_eq_true rfl)⟩ (Nat.le_of_ble_eq_true rfl) ⟨(Nat.le_of_ble_eq_true rfl), (Nat.le_of_ble_eq_true rfl)⟩ ?_
            refine zr_lstore F zd_MPainter_goOverPixel_350 (by decide) ?_
            refine zr_aload_n F zd_MPainter_goOverPixel_352 rfl ?_
            refine zr_iload_n F zd_MPainter_goOverPixel_353 rfl ?_
            obtain ⟨le127, hs126, h⟩ := zoS_s h
            obtain ⟨p128, ep128, h⟩ := zoB_s h
            refine zr_callV1 F (k_MPainter_materialOf l D tA b sh _ ep128) zd_MPainter_goOverPixel_354 (zW_o hs126 (by decide)) rfl zs_MPainter_180 rfl zq_MPainter_materialOf rfl rfl ⟨(Nat.le_of_ble_eq_true rfl), (Nat.le_of_ble_eq_true rfl)⟩ (Nat.le_of_ble_eq_true rfl) ⟨(Nat.le_of_ble_eq_true rfl), (Nat.le_of_ble_eq_true rfl)⟩ ?_
            refine zr_istore F zd_MPainter_goOverPixel_357 (by decide) ?_
            refine zr_loc (L' := [(0, .ref (b + o)), (3, .int x2_), (4, .int x3_), (5, .long x4_), (21, .long (p46.1)), (23, .int x52), (24, .long (p81.1)), (26, .long (p103.1)), (28, .long (p125.1)), (30, .int (p128.1))]) ⟨rfl, rfl, rfl, rfl, rfl, rfl, rfl, rfl, rfl, rfl, trivial⟩ ?_
            refine zr_aload_n F zd_MPainter_goOverPixel_359 rfl ?_
            refine zr_iload F zd_MPainter_goOverPixel_360 rfl ?_
            refine zr_pcn 362 rfl ?_
            refine zr_iload_n F zd_MPainter_goOverPixel_362 rfl ?_
            refine zr_iload F zd_MPainter_goOverPixel_363 rfl ?_
            refine zr_lload F zd_MPainter_goOverPixel_365 rfl ?_
            refine zr_lload F zd_MPainter_goOverPixel_367 rfl ?_
            refine zr_lload F zd_MPainter_goOverPixel_369 rfl ?_
            refine zr_lload F zd_MPainter_goOverPixel_371 rfl ?_
            obtain ⟨le130, hs129, h⟩ := zoS_s h
            obtain ⟨p131, ep131, h⟩ := zoB_s h
            refine zr_callV0 F (k_MPainter_colour l D tA b sh _ ep131) zd_MPainter_goOverPixel_373 (zW_o hs129 (by decide)) rfl zs_MPainter_303 rfl zq_MPainter_colour rfl rfl ⟨(Nat.le_of_ble_eq_true rfl), (Nat.le_of_ble_eq_true rfl)⟩ (Nat.le_of_ble_eq_true rfl) ⟨(Nat.le_of_ble_eq_true rfl), (Nat.le_of_ble_eq_true rfl)⟩ ?_
            refine zr_aload_n F zd_MPainter_goOverPixel_376 rfl ?_
            refine zr_pcn 377 rfl ?_
            obtain ⟨le133, hs132, h⟩ := zoS_s h
            obtain ⟨a134, ea134, h⟩ := zoB_s h
            refine zr_get F 13 5 zd_MPainter_goOverPixel_377 (zW_o hs132 (by decide)) rfl (by decide) zw_1581 rfl (by rfl) ?_
            refine zr_tor ea134 ?_
            obtain ⟨le136, hs135, h⟩ := zoS_s h
            obtain ⟨a137, ea137, h⟩ := zoB_s h
            refine zr_get F 15 9 zd_MPainter_goOverPixel_380 (zW_o hs135 (by decide)) rfl (by decide) zw_1345 rfl (by rfl) ?_
            refine zr_tor ea137 ?_
            refine zr_iconstv (v := 4) F zd_MPainter_goOverPixel_383 (by decide) ?_
            refine zr_iload F zd_MPainter_goOverPixel_384 rfl ?_
            refine zr_imul F zd_MPainter_goOverPixel_386 ?_
            refine zr_iconstv (v := 3) F zd_MPainter_goOverPixel_387 (by decide) ?_
            refine zr_iadd F zd_MPainter_goOverPixel_388 ?_
            obtain ⟨i138, ei138, h⟩ := zoL_s h
            rw [← ei138]
            obtain ⟨le140, hs139, h⟩ := zoS_s h
            obtain ⟨hi141, h⟩ := zoI_s h
            refine zr_iald F zd_MPainter_goOverPixel_389 (zW_a0 hs139) hi141 ?_
            refine zr_pcn 390 rfl ?_
            refine zr_i2l F zd_MPainter_goOverPixel_390 ?_
            obtain ⟨x142, ex142, h⟩ := zoL_s h
            rw [← ex142]
            refine zr_lstore F zd_MPainter_goOverPixel_391 (by decide) ?_
            refine zr_iconstv (v := 0) F zd_MPainter_goOverPixel_393 (by decide) ?_
            refine zr_istore F zd_MPainter_goOverPixel_394 (by decide) ?_
            obtain ⟨q182, eq182, h⟩ := zoB_s h
            refine zr_loc (L' := [(0, .ref (b + o)), (21, .long (p46.1)), (23, .int x52), (31, .long x142), (33, .int 0)]) ⟨rfl, rfl, rfl, rfl, rfl, trivial⟩ ?_
            refine lp_MPainter_goOverPixel_396 F _ _ _ _ _ _ _ _ eq182 ?_
            ·
              refine zr_lload F zd_MPainter_goOverPixel_481 rfl ?_
              refine zr_pcn 483 rfl ?_
              refine zr_ldc2 F zd_MPainter_goOverPixel_483 zw_2138 ?_
              refine zr_lcmp F zd_MPainter_goOverPixel_486 ?_
              refine zr_if_ne F 499 zd_MPainter_goOverPixel_487 (by decide) (fun hb183 => ?_) (fun hb183 => ?_)
              ·
                replace h := (if_neg hb183).symm.trans h
                obtain rfl := Option.some.inj h
                exact zr_vret F hr zd_MPainter_goOverPixel_499 (Nat.le_of_ble_eq_true rfl) (Nat.le_of_ble_eq_true rfl) ⟨rfl, rfl, rfl⟩
              ·
                replace h := (if_pos hb183).symm.trans h
                refine zr_aload_n F zd_MPainter_goOverPixel_490 rfl ?_
                obtain ⟨le185, hs184, h⟩ := zoS_s h
                obtain ⟨a186, ea186, h⟩ := zoB_s h
                refine zr_get F 13 4 zd_MPainter_goOverPixel_491 (zW_o hs184 (by decide)) rfl (by decide) zw_1580 rfl (by rfl) ?_
                refine zr_tor ea186 ?_
                refine zr_iload F zd_MPainter_goOverPixel_494 rfl ?_
                refine zr_lload F zd_MPainter_goOverPixel_496 rfl ?_
                refine zr_pcn 498 rfl ?_
                obtain ⟨le188, hs187, h⟩ := zoS_s h
                obtain ⟨hi189, h⟩ := zoI_s h
                refine zr_last F zd_MPainter_goOverPixel_498 (zW_a2 hs187) hi189 ?_
                obtain ⟨mm190, emm190, h⟩ := zoL_s h
                refine zr_norm (zW tA b sh mm190) _ (by rw [emm190]; exact zW_s2 hs187) rfl ?_
                obtain rfl := Option.some.inj h
                exact zr_vret F hr zd_MPainter_goOverPixel_499 (Nat.le_of_ble_eq_true rfl) (Nat.le_of_ble_eq_true rfl) ⟨rfl, rfl, rfl⟩
          ·
            replace h := (if_neg hb59).symm.trans h
            obtain rfl := Option.some.inj h
            exact zr_vret F hr zd_MPainter_goOverPixel_210 (Nat.le_of_ble_eq_true rfl) (Nat.le_of_ble_eq_true rfl) ⟨rfl, rfl, rfl⟩
        ·
          replace h := (if_pos hb49).symm.trans h
          refine zr_aload_n F zd_MPainter_goOverPixel_150 rfl ?_
          obtain ⟨le192, hs191, h⟩ := zoS_s h
          refine zr_get F 13 11 zd_MPainter_goOverPixel_151 (zW_o hs191 (by decide)) rfl (by decide) zw_1589 rfl (by rfl) ?_
          refine zr_iconstv (v := (-1)) F zd_MPainter_goOverPixel_154 (by decide) ?_
          refine zr_icmp_eq F 168 zd_MPainter_goOverPixel_155 (by decide) (fun hb193 => ?_) (fun hb193 => ?_)
          ·
            replace h := (if_pos hb193).symm.trans h
            refine zr_aload_n F zd_MPainter_goOverPixel_168 rfl ?_
            refine zr_pcn 169 rfl ?_
            refine zr_iload_n F zd_MPainter_goOverPixel_169 rfl ?_
            obtain ⟨le195, hs194, h⟩ := zoS_s h
            refine zr_put F 13 11 zd_MPainter_goOverPixel_170 (zW_o hs194 (by decide)) rfl (by decide) zw_1589 rfl rfl rfl rfl (by exact (Nat.le_of_ble_eq_true rfl)) ?_
            obtain ⟨mm196, emm196, h⟩ := zoL_s h
            refine zr_norm (zW tA b sh mm196) _ (by rw [emm196]; exact zW_pI (v := x0_) hs194 (by decide) (zf_I_13_11 b _ _ _)) rfl ?_
            refine zr_aload_n F zd_MPainter_goOverPixel_173 rfl ?_
            refine zr_iload_n F zd_MPainter_goOverPixel_174 rfl ?_
            obtain ⟨le198, hs197, h⟩ := zoS_s h
            refine zr_put F 13 12 zd_MPainter_goOverPixel_175 (zW_o hs197 (by decide)) rfl (by decide) zw_1591 rfl rfl rfl rfl (by exact (Nat.le_of_ble_eq_true rfl)) ?_
            obtain ⟨mm199, emm199, h⟩ := zoL_s h
            refine zr_norm (zW tA b sh mm199) _ (by rw [emm199]; exact zW_pI (v := x1_) hs197 (by decide) (zf_I_13_12 b _ _ _)) rfl ?_
            refine zr_aload_n F zd_MPainter_goOverPixel_178 rfl ?_
            refine zr_lload F zd_MPainter_goOverPixel_179 rfl ?_
            obtain ⟨le201, hs200, h⟩ := zoS_s h
            refine zr_put F 13 13 zd_MPainter_goOverPixel_181 (zW_o hs200 (by decide)) rfl (by decide) zw_1592 rfl rfl rfl rfl (by exact (Nat.le_of_ble_eq_true rfl)) ?_
            obtain ⟨mm202, emm202, h⟩ := zoL_s h
            refine zr_norm (zW tA b sh mm202) _ (by rw [emm202]; exact zW_pL (v := (p46.1)) hs200 (by decide) (zf_L_13_13 b _ _ _)) rfl ?_
            refine zr_pcn 184 rfl ?_
            obtain rfl := Option.some.inj h
            exact zr_vret F hr zd_MPainter_goOverPixel_184 (Nat.le_of_ble_eq_true rfl) (Nat.le_of_ble_eq_true rfl) ⟨rfl, rfl, rfl⟩
          ·
            replace h := (if_neg hb193).symm.trans h
            refine zr_lload F zd_MPainter_goOverPixel_158 rfl ?_
            refine zr_aload_n F zd_MPainter_goOverPixel_160 rfl ?_
            obtain ⟨le204, hs203, h⟩ := zoS_s h
            refine zr_get F 13 13 zd_MPainter_goOverPixel_161 (zW_o hs203 (by decide)) rfl (by decide) zw_1592 rfl (by rfl) ?_
            refine zr_lcmp F zd_MPainter_goOverPixel_164 ?_
            refine zr_if_le F 184 zd_MPainter_goOverPixel_165 (by decide) (fun hb205 => ?_) (fun hb205 => ?_)
            ·
              replace h := (if_pos hb205).symm.trans h
              obtain rfl := Option.some.inj h
              exact zr_vret F hr zd_MPainter_goOverPixel_184 (Nat.le_of_ble_eq_true rfl) (Nat.le_of_ble_eq_true rfl) ⟨rfl, rfl, rfl⟩
            ·
              replace h := (if_neg hb205).symm.trans h
              refine zr_aload_n F zd_MPainter_goOverPixel_168 rfl ?_
              refine zr_pcn 169 rfl ?_
              refine zr_iload_n F zd_MPainter_goOverPixel_169 rfl ?_
              obtain ⟨le207, hs206, h⟩ := zoS_s h
              refine zr_put F 13 11 zd_MPainter_goOverPixel_170 (zW_o hs206 (by decide)) rfl (by decide) zw_1589 rfl rfl rfl rfl (by exact (Nat.le_of_ble_eq_true rfl)) ?_
              obtain ⟨mm208, emm208, h⟩ := zoL_s h
              refine zr_norm (zW tA b sh mm208) _ (by rw [emm208]; exact zW_pI (v := x0_) hs206 (by decide) (zf_I_13_11 b _ _ _)) rfl ?_
              refine zr_aload_n F zd_MPainter_goOverPixel_173 rfl ?_
              refine zr_iload_n F zd_MPainter_goOverPixel_174 rfl ?_
              obtain ⟨le210, hs209, h⟩ := zoS_s h
              refine zr_put F 13 12 zd_MPainter_goOverPixel_175 (zW_o hs209 (by decide)) rfl (by decide) zw_1591 rfl rfl rfl rfl (by exact (Nat.le_of_ble_eq_true rfl)) ?_
              obtain ⟨mm211, emm211, h⟩ := zoL_s h
              refine zr_norm (zW tA b sh mm211) _ (by rw [emm211]; exact zW_pI (v := x1_) hs209 (by decide) (zf_I_13_12 b _ _ _)) rfl ?_
              refine zr_aload_n F zd_MPainter_goOverPixel_178 rfl ?_
              refine zr_lload F zd_MPainter_goOverPixel_179 rfl ?_
              obtain ⟨le213, hs212, h⟩ := zoS_s h
              refine zr_put F 13 13 zd_MPainter_goOverPixel_181 (zW_o hs212 (by decide)) rfl (by decide) zw_1592 rfl rfl rfl rfl (by exact (Nat.le_of_ble_eq_true rfl)) ?_
              obtain ⟨mm214, emm214, h⟩ := zoL_s h
              refine zr_norm (zW tA b sh mm214) _ (by rw [emm214]; exact zW_pL (v := (p46.1)) hs212 (by decide) (zf_L_13_13 b _ _ _)) rfl ?_
              refine zr_pcn 184 rfl ?_
              obtain rfl := Option.some.inj h
              exact zr_vret F hr zd_MPainter_goOverPixel_184 (Nat.le_of_ble_eq_true rfl) (Nat.le_of_ble_eq_true rfl) ⟨rfl, rfl, rfl⟩
      ·
        replace h := (if_pos hb14).symm.trans h
        obtain rfl := Option.some.inj h
        exact zr_vret F hr zd_MPainter_goOverPixel_63 (Nat.le_of_ble_eq_true rfl) (Nat.le_of_ble_eq_true rfl) ⟨rfl, rfl, rfl⟩
