abbrev zb_MPainter_sample : ByteArray := prog_16_method_33_code
def zy_MPainter_sample : MethodName := ⟨"OrreryBoxModel$Painter", "sample", "(IIJJI)J"⟩
theorem zc_MPainter_sample : Cond.code zy_MPainter_sample zb_MPainter_sample 24 (some .long) ∈ gw := gw_t 2142 (by decide +kernel) rfl
theorem zq_MPainter_sample : zy_MPainter_sample.cls ≠ "java/lang/invoke/MethodHandle" ∧ zy_MPainter_sample.cls ≠ "java/lang/invoke/VarHandle" ∧ (parseMethodDescriptor zy_MPainter_sample.desc).map (fun d => d.parameters.length) = some 5 := by decide +kernel
theorem zd_MPainter_sample_0 : decode zb_MPainter_sample 0 = .ok (.aload_n 0, 1) := by decide +kernel
theorem zd_MPainter_sample_1 : decode zb_MPainter_sample 1 = .ok (.getfield 129, 3) := by decide +kernel
theorem zd_MPainter_sample_4 : decode zb_MPainter_sample 4 = .ok (.getfield 308, 3) := by decide +kernel
theorem zd_MPainter_sample_7 : decode zb_MPainter_sample 7 = .ok (.iload_n 1, 1) := by decide +kernel
theorem zd_MPainter_sample_8 : decode zb_MPainter_sample 8 = .ok (.iaload, 1) := by decide +kernel
theorem zd_MPainter_sample_9 : decode zb_MPainter_sample 9 = .ok (.iload_n 2, 1) := by decide +kernel
theorem zd_MPainter_sample_10 : decode zb_MPainter_sample 10 = .ok (.ishr, 1) := by decide +kernel
theorem zd_MPainter_sample_11 : decode zb_MPainter_sample 11 = .ok (.i2l, 1) := by decide +kernel
theorem zd_MPainter_sample_12 : decode zb_MPainter_sample 12 = .ok (.lstore 8, 2) := by decide +kernel
theorem zd_MPainter_sample_14 : decode zb_MPainter_sample 14 = .ok (.lload_n 3, 1) := by decide +kernel
theorem zd_MPainter_sample_15 : decode zb_MPainter_sample 15 = .ok (.lload 8, 2) := by decide +kernel
theorem zd_MPainter_sample_17 : decode zb_MPainter_sample 17 = .ok (.lmul, 1) := by decide +kernel
theorem zd_MPainter_sample_18 : decode zb_MPainter_sample 18 = .ok (.lstore 10, 2) := by decide +kernel
theorem zd_MPainter_sample_20 : decode zb_MPainter_sample 20 = .ok (.lload 5, 2) := by decide +kernel
theorem zd_MPainter_sample_22 : decode zb_MPainter_sample 22 = .ok (.lload 8, 2) := by decide +kernel
theorem zd_MPainter_sample_24 : decode zb_MPainter_sample 24 = .ok (.lmul, 1) := by decide +kernel
theorem zd_MPainter_sample_25 : decode zb_MPainter_sample 25 = .ok (.lstore 12, 2) := by decide +kernel
theorem zd_MPainter_sample_27 : decode zb_MPainter_sample 27 = .ok (.aload_n 0, 1) := by decide +kernel
theorem zd_MPainter_sample_28 : decode zb_MPainter_sample 28 = .ok (.getfield 129, 3) := by decide +kernel
theorem zd_MPainter_sample_31 : decode zb_MPainter_sample 31 = .ok (.getfield 326, 3) := by decide +kernel
theorem zd_MPainter_sample_34 : decode zb_MPainter_sample 34 = .ok (.iload_n 1, 1) := by decide +kernel
theorem zd_MPainter_sample_35 : decode zb_MPainter_sample 35 = .ok (.iaload, 1) := by decide +kernel
theorem zd_MPainter_sample_36 : decode zb_MPainter_sample 36 = .ok (.ifCond .ne 28, 3) := by decide +kernel
theorem zd_MPainter_sample_39 : decode zb_MPainter_sample 39 = .ok (.aload_n 0, 1) := by decide +kernel
theorem zd_MPainter_sample_40 : decode zb_MPainter_sample 40 = .ok (.iload_n 1, 1) := by decide +kernel
theorem zd_MPainter_sample_41 : decode zb_MPainter_sample 41 = .ok (.iload_n 2, 1) := by decide +kernel
theorem zd_MPainter_sample_42 : decode zb_MPainter_sample 42 = .ok (.lload 10, 2) := by decide +kernel
theorem zd_MPainter_sample_44 : decode zb_MPainter_sample 44 = .ok (.ldc2_w 80, 3) := by decide +kernel
theorem zd_MPainter_sample_47 : decode zb_MPainter_sample 47 = .ok (.invokestatic 103, 3) := by decide +kernel
theorem zd_MPainter_sample_50 : decode zb_MPainter_sample 50 = .ok (.lload 12, 2) := by decide +kernel
theorem zd_MPainter_sample_52 : decode zb_MPainter_sample 52 = .ok (.ldc2_w 80, 3) := by decide +kernel
theorem zd_MPainter_sample_55 : decode zb_MPainter_sample 55 = .ok (.invokestatic 103, 3) := by decide +kernel
theorem zd_MPainter_sample_58 : decode zb_MPainter_sample 58 = .ok (.iload 7, 2) := by decide +kernel
theorem zd_MPainter_sample_60 : decode zb_MPainter_sample 60 = .ok (.invokevirtual 329, 3) := by decide +kernel
theorem zd_MPainter_sample_63 : decode zb_MPainter_sample 63 = .ok (.lreturn, 1) := by decide +kernel
theorem zd_MPainter_sample_64 : decode zb_MPainter_sample 64 = .ok (.lload 10, 2) := by decide +kernel
theorem zd_MPainter_sample_66 : decode zb_MPainter_sample 66 = .ok (.ldc2_w 332, 3) := by decide +kernel
theorem zd_MPainter_sample_69 : decode zb_MPainter_sample 69 = .ok (.lsub, 1) := by decide +kernel
theorem zd_MPainter_sample_70 : decode zb_MPainter_sample 70 = .ok (.lstore 10, 2) := by decide +kernel
theorem zd_MPainter_sample_72 : decode zb_MPainter_sample 72 = .ok (.lload 12, 2) := by decide +kernel
theorem zd_MPainter_sample_74 : decode zb_MPainter_sample 74 = .ok (.ldc2_w 332, 3) := by decide +kernel
theorem zd_MPainter_sample_77 : decode zb_MPainter_sample 77 = .ok (.lsub, 1) := by decide +kernel
theorem zd_MPainter_sample_78 : decode zb_MPainter_sample 78 = .ok (.lstore 12, 2) := by decide +kernel
theorem zd_MPainter_sample_80 : decode zb_MPainter_sample 80 = .ok (.lload 10, 2) := by decide +kernel
theorem zd_MPainter_sample_82 : decode zb_MPainter_sample 82 = .ok (.ldc2_w 80, 3) := by decide +kernel
theorem zd_MPainter_sample_85 : decode zb_MPainter_sample 85 = .ok (.invokestatic 103, 3) := by decide +kernel
theorem zd_MPainter_sample_88 : decode zb_MPainter_sample 88 = .ok (.lstore 14, 2) := by decide +kernel
theorem zd_MPainter_sample_90 : decode zb_MPainter_sample 90 = .ok (.lload 12, 2) := by decide +kernel
theorem zd_MPainter_sample_92 : decode zb_MPainter_sample 92 = .ok (.ldc2_w 80, 3) := by decide +kernel
theorem zd_MPainter_sample_95 : decode zb_MPainter_sample 95 = .ok (.invokestatic 103, 3) := by decide +kernel
theorem zd_MPainter_sample_98 : decode zb_MPainter_sample 98 = .ok (.lstore 16, 2) := by decide +kernel
theorem zd_MPainter_sample_100 : decode zb_MPainter_sample 100 = .ok (.lload 10, 2) := by decide +kernel
theorem zd_MPainter_sample_102 : decode zb_MPainter_sample 102 = .ok (.ldc2_w 80, 3) := by decide +kernel
theorem zd_MPainter_sample_105 : decode zb_MPainter_sample 105 = .ok (.lload 14, 2) := by decide +kernel
theorem zd_MPainter_sample_107 : decode zb_MPainter_sample 107 = .ok (.lmul, 1) := by decide +kernel
theorem zd_MPainter_sample_108 : decode zb_MPainter_sample 108 = .ok (.lsub, 1) := by decide +kernel
theorem zd_MPainter_sample_109 : decode zb_MPainter_sample 109 = .ok (.ldc2_w 334, 3) := by decide +kernel
theorem zd_MPainter_sample_112 : decode zb_MPainter_sample 112 = .ok (.invokestatic 103, 3) := by decide +kernel
theorem zd_MPainter_sample_115 : decode zb_MPainter_sample 115 = .ok (.lstore 18, 2) := by decide +kernel
theorem zd_MPainter_sample_117 : decode zb_MPainter_sample 117 = .ok (.lload 12, 2) := by decide +kernel
theorem zd_MPainter_sample_119 : decode zb_MPainter_sample 119 = .ok (.ldc2_w 80, 3) := by decide +kernel
theorem zd_MPainter_sample_122 : decode zb_MPainter_sample 122 = .ok (.lload 16, 2) := by decide +kernel
theorem zd_MPainter_sample_124 : decode zb_MPainter_sample 124 = .ok (.lmul, 1) := by decide +kernel
theorem zd_MPainter_sample_125 : decode zb_MPainter_sample 125 = .ok (.lsub, 1) := by decide +kernel
theorem zd_MPainter_sample_126 : decode zb_MPainter_sample 126 = .ok (.ldc2_w 334, 3) := by decide +kernel
theorem zd_MPainter_sample_129 : decode zb_MPainter_sample 129 = .ok (.invokestatic 103, 3) := by decide +kernel
theorem zd_MPainter_sample_132 : decode zb_MPainter_sample 132 = .ok (.lstore 20, 2) := by decide +kernel
theorem zd_MPainter_sample_134 : decode zb_MPainter_sample 134 = .ok (.aload_n 0, 1) := by decide +kernel
theorem zd_MPainter_sample_135 : decode zb_MPainter_sample 135 = .ok (.iload_n 1, 1) := by decide +kernel
theorem zd_MPainter_sample_136 : decode zb_MPainter_sample 136 = .ok (.iload_n 2, 1) := by decide +kernel
theorem zd_MPainter_sample_137 : decode zb_MPainter_sample 137 = .ok (.lload 14, 2) := by decide +kernel
theorem zd_MPainter_sample_139 : decode zb_MPainter_sample 139 = .ok (.lload 16, 2) := by decide +kernel
theorem zd_MPainter_sample_141 : decode zb_MPainter_sample 141 = .ok (.iload 7, 2) := by decide +kernel
theorem zd_MPainter_sample_143 : decode zb_MPainter_sample 143 = .ok (.invokevirtual 329, 3) := by decide +kernel
theorem zd_MPainter_sample_146 : decode zb_MPainter_sample 146 = .ok (.ldc2_w 334, 3) := by decide +kernel
theorem zd_MPainter_sample_149 : decode zb_MPainter_sample 149 = .ok (.lload 18, 2) := by decide +kernel
theorem zd_MPainter_sample_151 : decode zb_MPainter_sample 151 = .ok (.lsub, 1) := by decide +kernel
theorem zd_MPainter_sample_152 : decode zb_MPainter_sample 152 = .ok (.lmul, 1) := by decide +kernel
theorem zd_MPainter_sample_153 : decode zb_MPainter_sample 153 = .ok (.ldc2_w 334, 3) := by decide +kernel
theorem zd_MPainter_sample_156 : decode zb_MPainter_sample 156 = .ok (.lload 20, 2) := by decide +kernel
theorem zd_MPainter_sample_158 : decode zb_MPainter_sample 158 = .ok (.lsub, 1) := by decide +kernel
theorem zd_MPainter_sample_159 : decode zb_MPainter_sample 159 = .ok (.lmul, 1) := by decide +kernel
theorem zd_MPainter_sample_160 : decode zb_MPainter_sample 160 = .ok (.aload_n 0, 1) := by decide +kernel
theorem zd_MPainter_sample_161 : decode zb_MPainter_sample 161 = .ok (.iload_n 1, 1) := by decide +kernel
theorem zd_MPainter_sample_162 : decode zb_MPainter_sample 162 = .ok (.iload_n 2, 1) := by decide +kernel
theorem zd_MPainter_sample_163 : decode zb_MPainter_sample 163 = .ok (.lload 14, 2) := by decide +kernel
theorem zd_MPainter_sample_165 : decode zb_MPainter_sample 165 = .ok (.lconst 1, 1) := by decide +kernel
theorem zd_MPainter_sample_166 : decode zb_MPainter_sample 166 = .ok (.ladd, 1) := by decide +kernel
theorem zd_MPainter_sample_167 : decode zb_MPainter_sample 167 = .ok (.lload 16, 2) := by decide +kernel
theorem zd_MPainter_sample_169 : decode zb_MPainter_sample 169 = .ok (.iload 7, 2) := by decide +kernel
theorem zd_MPainter_sample_171 : decode zb_MPainter_sample 171 = .ok (.invokevirtual 329, 3) := by decide +kernel
theorem zd_MPainter_sample_174 : decode zb_MPainter_sample 174 = .ok (.lload 18, 2) := by decide +kernel
theorem zd_MPainter_sample_176 : decode zb_MPainter_sample 176 = .ok (.lmul, 1) := by decide +kernel
theorem zd_MPainter_sample_177 : decode zb_MPainter_sample 177 = .ok (.ldc2_w 334, 3) := by decide +kernel
theorem zd_MPainter_sample_180 : decode zb_MPainter_sample 180 = .ok (.lload 20, 2) := by decide +kernel
theorem zd_MPainter_sample_182 : decode zb_MPainter_sample 182 = .ok (.lsub, 1) := by decide +kernel
theorem zd_MPainter_sample_183 : decode zb_MPainter_sample 183 = .ok (.lmul, 1) := by decide +kernel
theorem zd_MPainter_sample_184 : decode zb_MPainter_sample 184 = .ok (.ladd, 1) := by decide +kernel
theorem zd_MPainter_sample_185 : decode zb_MPainter_sample 185 = .ok (.lstore 22, 2) := by decide +kernel
theorem zd_MPainter_sample_187 : decode zb_MPainter_sample 187 = .ok (.lload 22, 2) := by decide +kernel
theorem zd_MPainter_sample_189 : decode zb_MPainter_sample 189 = .ok (.aload_n 0, 1) := by decide +kernel
theorem zd_MPainter_sample_190 : decode zb_MPainter_sample 190 = .ok (.iload_n 1, 1) := by decide +kernel
theorem zd_MPainter_sample_191 : decode zb_MPainter_sample 191 = .ok (.iload_n 2, 1) := by decide +kernel
theorem zd_MPainter_sample_192 : decode zb_MPainter_sample 192 = .ok (.lload 14, 2) := by decide +kernel
theorem zd_MPainter_sample_194 : decode zb_MPainter_sample 194 = .ok (.lload 16, 2) := by decide +kernel
theorem zd_MPainter_sample_196 : decode zb_MPainter_sample 196 = .ok (.lconst 1, 1) := by decide +kernel
theorem zd_MPainter_sample_197 : decode zb_MPainter_sample 197 = .ok (.ladd, 1) := by decide +kernel
theorem zd_MPainter_sample_198 : decode zb_MPainter_sample 198 = .ok (.iload 7, 2) := by decide +kernel
theorem zd_MPainter_sample_200 : decode zb_MPainter_sample 200 = .ok (.invokevirtual 329, 3) := by decide +kernel
theorem zd_MPainter_sample_203 : decode zb_MPainter_sample 203 = .ok (.ldc2_w 334, 3) := by decide +kernel
theorem zd_MPainter_sample_206 : decode zb_MPainter_sample 206 = .ok (.lload 18, 2) := by decide +kernel
theorem zd_MPainter_sample_208 : decode zb_MPainter_sample 208 = .ok (.lsub, 1) := by decide +kernel
theorem zd_MPainter_sample_209 : decode zb_MPainter_sample 209 = .ok (.lmul, 1) := by decide +kernel
theorem zd_MPainter_sample_210 : decode zb_MPainter_sample 210 = .ok (.lload 20, 2) := by decide +kernel
theorem zd_MPainter_sample_212 : decode zb_MPainter_sample 212 = .ok (.lmul, 1) := by decide +kernel
theorem zd_MPainter_sample_213 : decode zb_MPainter_sample 213 = .ok (.ladd, 1) := by decide +kernel
theorem zd_MPainter_sample_214 : decode zb_MPainter_sample 214 = .ok (.aload_n 0, 1) := by decide +kernel
theorem zd_MPainter_sample_215 : decode zb_MPainter_sample 215 = .ok (.iload_n 1, 1) := by decide +kernel
theorem zd_MPainter_sample_216 : decode zb_MPainter_sample 216 = .ok (.iload_n 2, 1) := by decide +kernel
theorem zd_MPainter_sample_217 : decode zb_MPainter_sample 217 = .ok (.lload 14, 2) := by decide +kernel
theorem zd_MPainter_sample_219 : decode zb_MPainter_sample 219 = .ok (.lconst 1, 1) := by decide +kernel
theorem zd_MPainter_sample_220 : decode zb_MPainter_sample 220 = .ok (.ladd, 1) := by decide +kernel
theorem zd_MPainter_sample_221 : decode zb_MPainter_sample 221 = .ok (.lload 16, 2) := by decide +kernel
theorem zd_MPainter_sample_223 : decode zb_MPainter_sample 223 = .ok (.lconst 1, 1) := by decide +kernel
theorem zd_MPainter_sample_224 : decode zb_MPainter_sample 224 = .ok (.ladd, 1) := by decide +kernel
theorem zd_MPainter_sample_225 : decode zb_MPainter_sample 225 = .ok (.iload 7, 2) := by decide +kernel
theorem zd_MPainter_sample_227 : decode zb_MPainter_sample 227 = .ok (.invokevirtual 329, 3) := by decide +kernel
theorem zd_MPainter_sample_230 : decode zb_MPainter_sample 230 = .ok (.lload 18, 2) := by decide +kernel
theorem zd_MPainter_sample_232 : decode zb_MPainter_sample 232 = .ok (.lmul, 1) := by decide +kernel
theorem zd_MPainter_sample_233 : decode zb_MPainter_sample 233 = .ok (.lload 20, 2) := by decide +kernel
theorem zd_MPainter_sample_235 : decode zb_MPainter_sample 235 = .ok (.lmul, 1) := by decide +kernel
theorem zd_MPainter_sample_236 : decode zb_MPainter_sample 236 = .ok (.ladd, 1) := by decide +kernel
theorem zd_MPainter_sample_237 : decode zb_MPainter_sample 237 = .ok (.ldc2_w 80, 3) := by decide +kernel
theorem zd_MPainter_sample_240 : decode zb_MPainter_sample 240 = .ok (.invokestatic 103, 3) := by decide +kernel
theorem zd_MPainter_sample_243 : decode zb_MPainter_sample 243 = .ok (.lreturn, 1) := by decide +kernel
theorem zw_1339 : (Jvm.Cond.fieldLink "OrreryBoxModel$Painter" (326 : Nat) "OrreryBoxModel$Scene" "soft" "[I") ∈ gw := gw_t 1339 (by decide +kernel) rfl
theorem zw_2152 : (Jvm.Cond.constantLong "OrreryBoxModel$Painter" (332 : Nat) (32768 : Int64)) ∈ gw := gw_t 2152 (by decide +kernel) rfl
theorem zw_2153 : (Jvm.Cond.constantLong "OrreryBoxModel$Painter" (334 : Nat) (256 : Int64)) ∈ gw := gw_t 2153 (by decide +kernel) rfl
theorem zw_2143 : (Jvm.Cond.methodLink "OrreryBoxModel$Painter" (329 : Nat) ({ cls := "OrreryBoxModel$Painter", name := "texel", desc := "(IIJJI)J" } : Jvm.MethodName)) ∈ gw := gw_t 2143 (by decide +kernel) rfl
theorem zw_2145 : (Jvm.Cond.instanceMethod ({ cls := "OrreryBoxModel$Painter", name := "texel", desc := "(IIJJI)J" } : Jvm.MethodName)) ∈ gw := gw_t 2145 (by decide +kernel) rfl
theorem zv_115 : (Jvm.Cond.selects "OrreryBoxModel$Painter" (⟨"OrreryBoxModel$Painter", "texel", "(IIJJI)J"⟩ : MethodName) ⟨"OrreryBoxModel$Painter", "texel", "(IIJJI)J"⟩) ∈ gw := gw_s 115 (by decide +kernel) rfl
theorem zs_MPainter_329 : zwV "OrreryBoxModel$Painter" 329 "OrreryBoxModel$Painter" zy_MPainter_texel zb_MPainter_texel 11 (some .long) := ⟨zw_2143, zw_2145, zv_115, zw_17, zc_MPainter_texel⟩
def F_MPainter_sample (sh : zSh) (mm : zMem) (o : Nat) (x0_ : Int32) (x1_ : Int32) (x2_ : Int64) (x3_ : Int64) (x4_ : Int32) : Option (Int64 × zMem) := zoS (sh o) 13 (fun le2 => Option.bind (mm.2.2 o 5) (fun a3 => zoS (sh a3) 15 (fun le5 => Option.bind (mm.2.2 a3 5) (fun a6 => zoS (sh a6) 100 (fun le8 => if (x0_ : Int32) < 0 ∨ le8 ≤ (x0_ : Int32).toNatClampNeg then none else zoL ((((mm.1 a6 (x0_ : Int32).toNatClampNeg) >>> (x1_ &&& 31)) : Int32).toInt64) (fun x10 => zoL (x2_ * x10) (fun x11 => zoL (x3_ * x10) (fun x12 => zoS (sh o) 13 (fun le14 => Option.bind (mm.2.2 o 5) (fun a15 => zoS (sh a15) 15 (fun le17 => Option.bind (mm.2.2 a15 7) (fun a18 => zoS (sh a18) 100 (fun le20 => if (x0_ : Int32) < 0 ∨ le20 ≤ (x0_ : Int32).toNatClampNeg then none else (if (mm.1 a18 (x0_ : Int32).toNatClampNeg) = 0 then Option.bind (F_MPainter_div sh mm x11 65536) (fun p44 => Option.bind (F_MPainter_div sh (p44.2) x12 65536) (fun p45 => zoS (sh o) 13 (fun le47 => Option.bind (F_MPainter_texel sh (p45.2) o x0_ x1_ (p44.1) (p45.1) x4_) (fun p48 => some (p48.1, p48.2))))) else zoL (x11 - 32768) (fun x23 => zoL (x12 - 32768) (fun x24 => Option.bind (F_MPainter_div sh mm x23 65536) (fun p25 => Option.bind (F_MPainter_div sh (p25.2) x24 65536) (fun p26 => Option.bind (F_MPainter_div sh (p26.2) (x23 - (65536 * p25.1)) 256) (fun p27 => Option.bind (F_MPainter_div sh (p27.2) (x24 - (65536 * p26.1)) 256) (fun p28 => zoS (sh o) 13 (fun le30 => Option.bind (F_MPainter_texel sh (p28.2) o x0_ x1_ (p25.1) (p26.1) x4_) (fun p31 => zoS (sh o) 13 (fun le33 => Option.bind (F_MPainter_texel sh (p31.2) o x0_ x1_ (p25.1 + 1) (p26.1) x4_) (fun p34 => zoL (((p31.1 * (256 - p27.1)) * (256 - p28.1)) + ((p34.1 * p27.1) * (256 - p28.1))) (fun x35 => zoS (sh o) 13 (fun le37 => Option.bind (F_MPainter_texel sh (p34.2) o x0_ x1_ (p25.1) (p26.1 + 1) x4_) (fun p38 => zoS (sh o) 13 (fun le40 => Option.bind (F_MPainter_texel sh (p38.2) o x0_ x1_ (p25.1 + 1) (p26.1 + 1) x4_) (fun p41 => zoL ((x35 + ((p38.1 * (256 - p27.1)) * p28.1)) + ((p41.1 * p27.1) * p28.1)) (fun x42 => Option.bind (F_MPainter_div sh (p41.2) x42 65536) (fun p43 => some (p43.1, p43.2))))))))))))))))))))))))))))))))
set_option maxHeartbeats 4000000 in
set_option maxRecDepth 100000 in
theorem k_MPainter_sample (l : Launch) (D : va_G) (tA : Nat → ClassId) (b : Nat) (sh : zSh) (n : Nat) {mm : zMem} {o : Nat} {x0_ : Int32} {x1_ : Int32} {x2_ : Int64} {x3_ : Int64} {x4_ : Int32} {r : (Int64 × zMem)} (h : F_MPainter_sample sh mm o x0_ x1_ x2_ x3_ x4_ = some r) : zM l D tA b zy_MPainter_sample zb_MPainter_sample 24 (some .long) 3 79 0 0 [.ref (b + o), .int x0_, .int x1_, .long x2_, .long x3_, .int x4_] (zW tA b sh mm) n (zE (some (.long (r.1))) (zW tA b sh r.2) n) := by
  unfold F_MPainter_sample at h
  refine zM_of (own := "OrreryBoxModel$Painter") (plainFor_of_name (by decide)) rfl (Nat.le_of_ble_eq_true rfl) (fun p e s m below meth c F hr hin hH => ?_)
  refine zr_aload_n F zd_MPainter_sample_0 rfl ?_
  obtain ⟨le2, hs1, h⟩ := zoS_s h
  obtain ⟨a3, ea3, h⟩ := zoB_s h
  refine zr_get F 13 5 zd_MPainter_sample_1 (zW_o hs1 (by decide)) rfl (by decide) zw_1581 rfl (by rfl) ?_
  refine zr_tor ea3 ?_
  obtain ⟨le5, hs4, h⟩ := zoS_s h
  obtain ⟨a6, ea6, h⟩ := zoB_s h
  refine zr_get F 15 5 zd_MPainter_sample_4 (zW_o hs4 (by decide)) rfl (by decide) zw_1333 rfl (by rfl) ?_
  refine zr_tor ea6 ?_
  refine zr_iload_n F zd_MPainter_sample_7 rfl ?_
  obtain ⟨le8, hs7, h⟩ := zoS_s h
  obtain ⟨hi9, h⟩ := zoI_s h
  refine zr_iald F zd_MPainter_sample_8 (zW_a0 hs7) hi9 ?_
  refine zr_iload_n F zd_MPainter_sample_9 rfl ?_
  refine zr_ishr F zd_MPainter_sample_10 ?_
  refine zr_pcn 11 rfl ?_
  refine zr_i2l F zd_MPainter_sample_11 ?_
  obtain ⟨x10, ex10, h⟩ := zoL_s h
  rw [← ex10]
  refine zr_lstore F zd_MPainter_sample_12 (by decide) ?_
  refine zr_lload_n F zd_MPainter_sample_14 rfl ?_
  refine zr_lload F zd_MPainter_sample_15 rfl ?_
  refine zr_lmul F zd_MPainter_sample_17 ?_
  obtain ⟨x11, ex11, h⟩ := zoL_s h
  rw [← ex11]
  refine zr_lstore F zd_MPainter_sample_18 (by decide) ?_
  refine zr_lload F zd_MPainter_sample_20 rfl ?_
  refine zr_lload F zd_MPainter_sample_22 rfl ?_
  refine zr_pcn 24 rfl ?_
  refine zr_lmul F zd_MPainter_sample_24 ?_
  obtain ⟨x12, ex12, h⟩ := zoL_s h
  rw [← ex12]
  refine zr_lstore F zd_MPainter_sample_25 (by decide) ?_
  refine zr_loc (L' := [(0, .ref (b + o)), (1, .int x0_), (2, .int x1_), (7, .int x4_), (10, .long x11), (12, .long x12)]) ⟨rfl, rfl, rfl, rfl, rfl, rfl, trivial⟩ ?_
  refine zr_aload_n F zd_MPainter_sample_27 rfl ?_
  obtain ⟨le14, hs13, h⟩ := zoS_s h
  obtain ⟨a15, ea15, h⟩ := zoB_s h
  refine zr_get F 13 5 zd_MPainter_sample_28 (zW_o hs13 (by decide)) rfl (by decide) zw_1581 rfl (by rfl) ?_
  refine zr_tor ea15 ?_
  obtain ⟨le17, hs16, h⟩ := zoS_s h
  obtain ⟨a18, ea18, h⟩ := zoB_s h
  refine zr_get F 15 7 zd_MPainter_sample_31 (zW_o hs16 (by decide)) rfl (by decide) zw_1339 rfl (by rfl) ?_
  refine zr_tor ea18 ?_
  refine zr_iload_n F zd_MPainter_sample_34 rfl ?_
  obtain ⟨le20, hs19, h⟩ := zoS_s h
  obtain ⟨hi21, h⟩ := zoI_s h
  refine zr_iald F zd_MPainter_sample_35 (zW_a0 hs19) hi21 ?_
  refine zr_if_ne F 64 zd_MPainter_sample_36 (by decide) (fun hb22 => ?_) (fun hb22 => ?_)
  ·
    replace h := (if_neg hb22).symm.trans h
    refine zr_pcn 64 rfl ?_
    refine zr_lload F zd_MPainter_sample_64 rfl ?_
    refine zr_ldc2 F zd_MPainter_sample_66 zw_2152 ?_
    refine zr_lsub F zd_MPainter_sample_69 ?_
    obtain ⟨x23, ex23, h⟩ := zoL_s h
    rw [← ex23]
    refine zr_lstore F zd_MPainter_sample_70 (by decide) ?_
    refine zr_lload F zd_MPainter_sample_72 rfl ?_
    refine zr_ldc2 F zd_MPainter_sample_74 zw_2152 ?_
    refine zr_lsub F zd_MPainter_sample_77 ?_
    obtain ⟨x24, ex24, h⟩ := zoL_s h
    rw [← ex24]
    refine zr_lstore F zd_MPainter_sample_78 (by decide) ?_
    refine zr_pcn 80 rfl ?_
    refine zr_lload F zd_MPainter_sample_80 rfl ?_
    refine zr_ldc2 F zd_MPainter_sample_82 zw_1952 ?_
    obtain ⟨p25, ep25, h⟩ := zoB_s h
    refine zr_callS1 F (k_MPainter_div l D tA b sh _ ep25) zd_MPainter_sample_85 zs_MPainter_103 zq_MPainter_div rfl rfl ⟨(Nat.le_of_ble_eq_true rfl), (Nat.le_of_ble_eq_true rfl)⟩ (Nat.le_of_ble_eq_true rfl) ⟨(Nat.le_of_ble_eq_true rfl), (Nat.le_of_ble_eq_true rfl)⟩ ?_
    refine zr_lstore F zd_MPainter_sample_88 (by decide) ?_
    refine zr_loc (L' := [(0, .ref (b + o)), (1, .int x0_), (2, .int x1_), (7, .int x4_), (10, .long x23), (12, .long x24), (14, .long (p25.1))]) ⟨rfl, rfl, rfl, rfl, rfl, rfl, rfl, trivial⟩ ?_
    refine zr_lload F zd_MPainter_sample_90 rfl ?_
    refine zr_ldc2 F zd_MPainter_sample_92 zw_1952 ?_
    obtain ⟨p26, ep26, h⟩ := zoB_s h
    refine zr_callS1 F (k_MPainter_div l D tA b sh _ ep26) zd_MPainter_sample_95 zs_MPainter_103 zq_MPainter_div rfl rfl ⟨(Nat.le_of_ble_eq_true rfl), (Nat.le_of_ble_eq_true rfl)⟩ (Nat.le_of_ble_eq_true rfl) ⟨(Nat.le_of_ble_eq_true rfl), (Nat.le_of_ble_eq_true rfl)⟩ ?_
    refine zr_lstore F zd_MPainter_sample_98 (by decide) ?_
    refine zr_pcn 100 rfl ?_
    refine zr_lload F zd_MPainter_sample_100 rfl ?_
    refine zr_ldc2 F zd_MPainter_sample_102 zw_1952 ?_
    refine zr_lload F zd_MPainter_sample_105 rfl ?_
    refine zr_lmul F zd_MPainter_sample_107 ?_
    refine zr_lsub F zd_MPainter_sample_108 ?_
    refine zr_ldc2 F zd_MPainter_sample_109 zw_2153 ?_
    obtain ⟨p27, ep27, h⟩ := zoB_s h
    refine zr_callS1 F (k_MPainter_div l D tA b sh _ ep27) zd_MPainter_sample_112 zs_MPainter_103 zq_MPainter_div rfl rfl ⟨(Nat.le_of_ble_eq_true rfl), (Nat.le_of_ble_eq_true rfl)⟩ (Nat.le_of_ble_eq_true rfl) ⟨(Nat.le_of_ble_eq_true rfl), (Nat.le_of_ble_eq_true rfl)⟩ ?_
    refine zr_lstore F zd_MPainter_sample_115 (by decide) ?_
    refine zr_pcn 117 rfl ?_
    refine zr_lload F zd_MPainter_sample_117 rfl ?_
    refine zr_ldc2 F zd_MPainter_sample_119 zw_1952 ?_
    refine zr_lload F zd_MPainter_sample_122 rfl ?_
    refine zr_lmul F zd_MPainter_sample_124 ?_
    refine zr_lsub F zd_MPainter_sample_125 ?_
    refine zr_ldc2 F zd_MPainter_sample_126 zw_2153 ?_
    obtain ⟨p28, ep28, h⟩ := zoB_s h
    refine zr_callS1 F (k_MPainter_div l D tA b sh _ ep28) zd_MPainter_sample_129 zs_MPainter_103 zq_MPainter_div rfl rfl ⟨(Nat.le_of_ble_eq_true rfl), (Nat.le_of_ble_eq_true rfl)⟩ (Nat.le_of_ble_eq_true rfl) ⟨(Nat.le_of_ble_eq_true rfl), (Nat.le_of_ble_eq_true rfl)⟩ ?_
    refine zr_lstore F zd_MPainter_sample_132 (by decide) ?_
    refine zr_loc (L' := [(0, .ref (b + o)), (1, .int x0_), (2, .int x1_), (7, .int x4_), (14, .long (p25.1)), (16, .long (p26.1)), (18, .long (p27.1)), (20, .long (p28.1))]) ⟨rfl, rfl, rfl, rfl, rfl, rfl, rfl, rfl, trivial⟩ ?_
    refine zr_pcn 134 rfl ?_
    refine zr_aload_n F zd_MPainter_sample_134 rfl ?_
    refine zr_iload_n F zd_MPainter_sample_135 rfl ?_
    refine zr_iload_n F zd_MPainter_sample_136 rfl ?_
    refine zr_lload F zd_MPainter_sample_137 rfl ?_
    refine zr_lload F zd_MPainter_sample_139 rfl ?_
    refine zr_iload F zd_MPainter_sample_141 rfl ?_
    obtain ⟨le30, hs29, h⟩ := zoS_s h
    obtain ⟨p31, ep31, h⟩ := zoB_s h
    refine zr_callV1 F (k_MPainter_texel l D tA b sh _ ep31) zd_MPainter_sample_143 (zW_o hs29 (by decide)) rfl zs_MPainter_329 rfl zq_MPainter_texel rfl rfl ⟨(Nat.le_of_ble_eq_true rfl), (Nat.le_of_ble_eq_true rfl)⟩ (Nat.le_of_ble_eq_true rfl) ⟨(Nat.le_of_ble_eq_true rfl), (Nat.le_of_ble_eq_true rfl)⟩ ?_
    refine zr_ldc2 F zd_MPainter_sample_146 zw_2153 ?_
    refine zr_pcn 149 rfl ?_
    refine zr_lload F zd_MPainter_sample_149 rfl ?_
    refine zr_lsub F zd_MPainter_sample_151 ?_
    refine zr_lmul F zd_MPainter_sample_152 ?_
    refine zr_ldc2 F zd_MPainter_sample_153 zw_2153 ?_
    refine zr_lload F zd_MPainter_sample_156 rfl ?_
    refine zr_lsub F zd_MPainter_sample_158 ?_
    refine zr_lmul F zd_MPainter_sample_159 ?_
    refine zr_aload_n F zd_MPainter_sample_160 rfl ?_
    refine zr_pcn 161 rfl ?_
    refine zr_iload_n F zd_MPainter_sample_161 rfl ?_
    refine zr_iload_n F zd_MPainter_sample_162 rfl ?_
    refine zr_lload F zd_MPainter_sample_163 rfl ?_
    refine zr_lconstv (v := 1) F zd_MPainter_sample_165 (by decide) ?_
    refine zr_ladd F zd_MPainter_sample_166 ?_
    refine zr_lload F zd_MPainter_sample_167 rfl ?_
    refine zr_iload F zd_MPainter_sample_169 rfl ?_
    obtain ⟨le33, hs32, h⟩ := zoS_s h
    obtain ⟨p34, ep34, h⟩ := zoB_s h
    refine zr_callV1 F (k_MPainter_texel l D tA b sh _ ep34) zd_MPainter_sample_171 (zW_o hs32 (by decide)) rfl zs_MPainter_329 rfl zq_MPainter_texel rfl rfl ⟨(Nat.le_of_ble_eq_true rfl), (Nat.le_of_ble_eq_true rfl)⟩ (Nat.le_of_ble_eq_true rfl) ⟨(Nat.le_of_ble_eq_true rfl), (Nat.le_of_ble_eq_true rfl)⟩ ?_
    refine zr_pcn 174 rfl ?_
    refine zr_lload F zd_MPainter_sample_174 rfl ?_
    refine zr_lmul F zd_MPainter_sample_176 ?_
    refine zr_ldc2 F zd_MPainter_sample_177 zw_2153 ?_
    refine zr_lload F zd_MPainter_sample_180 rfl ?_
    refine zr_lsub F zd_MPainter_sample_182 ?_
    refine zr_lmul F zd_MPainter_sample_183 ?_
    refine zr_ladd F zd_MPainter_sample_184 ?_
    obtain ⟨x35, ex35, h⟩ := zoL_s h
    rw [← ex35]
    refine zr_lstore F zd_MPainter_sample_185 (by decide) ?_
    refine zr_pcn 187 rfl ?_
    refine zr_lload F zd_MPainter_sample_187 rfl ?_
    refine zr_aload_n F zd_MPainter_sample_189 rfl ?_
    refine zr_iload_n F zd_MPainter_sample_190 rfl ?_
    refine zr_iload_n F zd_MPainter_sample_191 rfl ?_
    refine zr_lload F zd_MPainter_sample_192 rfl ?_
    refine zr_lload F zd_MPainter_sample_194 rfl ?_
    refine zr_lconstv (v := 1) F zd_MPainter_sample_196 (by decide) ?_
    refine zr_ladd F zd_MPainter_sample_197 ?_
    refine zr_pcn 198 rfl ?_
    refine zr_iload F zd_MPainter_sample_198 rfl ?_
    obtain ⟨le37, hs36, h⟩ := zoS_s h
    obtain ⟨p38, ep38, h⟩ := zoB_s h
    refine zr_callV1 F (k_MPainter_texel l D tA b sh _ ep38) zd_MPainter_sample_200 (zW_o hs36 (by decide)) rfl zs_MPainter_329 rfl zq_MPainter_texel rfl rfl ⟨(Nat.le_of_ble_eq_true rfl), (Nat.le_of_ble_eq_true rfl)⟩ (Nat.le_of_ble_eq_true rfl) ⟨(Nat.le_of_ble_eq_true rfl), (Nat.le_of_ble_eq_true rfl)⟩ ?_
    refine zr_ldc2 F zd_MPainter_sample_203 zw_2153 ?_
    refine zr_lload F zd_MPainter_sample_206 rfl ?_
    refine zr_lsub F zd_MPainter_sample_208 ?_
    refine zr_lmul F zd_MPainter_sample_209 ?_
    refine zr_lload F zd_MPainter_sample_210 rfl ?_
    refine zr_lmul F zd_MPainter_sample_212 ?_
    refine zr_pcn 213 rfl ?_
    refine zr_ladd F zd_MPainter_sample_213 ?_
    refine zr_aload_n F zd_MPainter_sample_214 rfl ?_
    refine zr_iload_n F zd_MPainter_sample_215 rfl ?_
    refine zr_iload_n F zd_MPainter_sample_216 rfl ?_
    refine zr_lload F zd_MPainter_sample_217 rfl ?_
    refine zr_lconstv (v := 1) F zd_MPainter_sample_219 (by decide) ?_
    refine zr_ladd F zd_MPainter_sample_220 ?_
    refine zr_lload F zd_MPainter_sample_221 rfl ?_
    refine zr_pcn 223 rfl ?_
    refine zr_lconstv (v := 1) F zd_MPainter_sample_223 (by decide) ?_
    refine zr_ladd F zd_MPainter_sample_224 ?_
    refine zr_iload F zd_MPainter_sample_225 rfl ?_
    obtain ⟨le40, hs39, h⟩ := zoS_s h
    obtain ⟨p41, ep41, h⟩ := zoB_s h
    refine zr_callV1 F (k_MPainter_texel l D tA b sh _ ep41) zd_MPainter_sample_227 (zW_o hs39 (by decide)) rfl zs_MPainter_329 rfl zq_MPainter_texel rfl rfl ⟨(Nat.le_of_ble_eq_true rfl), (Nat.le_of_ble_eq_true rfl)⟩ (Nat.le_of_ble_eq_true rfl) ⟨(Nat.le_of_ble_eq_true rfl), (Nat.le_of_ble_eq_true rfl)⟩ ?_
    refine zr_lload F zd_MPainter_sample_230 rfl ?_
    refine zr_lmul F zd_MPainter_sample_232 ?_
    refine zr_lload F zd_MPainter_sample_233 rfl ?_
    refine zr_lmul F zd_MPainter_sample_235 ?_
    refine zr_pcn 236 rfl ?_
    refine zr_ladd F zd_MPainter_sample_236 ?_
    refine zr_ldc2 F zd_MPainter_sample_237 zw_1952 ?_
    obtain ⟨x42, ex42, h⟩ := zoL_s h
    rw [← ex42]
    obtain ⟨p43, ep43, h⟩ := zoB_s h
    refine zr_callS1 F (k_MPainter_div l D tA b sh _ ep43) zd_MPainter_sample_240 zs_MPainter_103 zq_MPainter_div rfl rfl ⟨(Nat.le_of_ble_eq_true rfl), (Nat.le_of_ble_eq_true rfl)⟩ (Nat.le_of_ble_eq_true rfl) ⟨(Nat.le_of_ble_eq_true rfl), (Nat.le_of_ble_eq_true rfl)⟩ ?_
    obtain rfl := Option.some.inj h
    exact zr_lret F hr zd_MPainter_sample_243 (Nat.le_of_ble_eq_true rfl) (Nat.le_of_ble_eq_true rfl) ⟨rfl, rfl, rfl⟩
  ·
    replace h := (if_pos hb22).symm.trans h
    refine zr_aload_n F zd_MPainter_sample_39 rfl ?_
    refine zr_iload_n F zd_MPainter_sample_40 rfl ?_
    refine zr_iload_n F zd_MPainter_sample_41 rfl ?_
    refine zr_lload F zd_MPainter_sample_42 rfl ?_
    refine zr_pcn 44 rfl ?_
    refine zr_ldc2 F zd_MPainter_sample_44 zw_1952 ?_
    obtain ⟨p44, ep44, h⟩ := zoB_s h
    refine zr_callS1 F (k_MPainter_div l D tA b sh _ ep44) zd_MPainter_sample_47 zs_MPainter_103 zq_MPainter_div rfl rfl ⟨(Nat.le_of_ble_eq_true rfl), (Nat.le_of_ble_eq_true rfl)⟩ (Nat.le_of_ble_eq_true rfl) ⟨(Nat.le_of_ble_eq_true rfl), (Nat.le_of_ble_eq_true rfl)⟩ ?_
    refine zr_lload F zd_MPainter_sample_50 rfl ?_
    refine zr_ldc2 F zd_MPainter_sample_52 zw_1952 ?_
    obtain ⟨p45, ep45, h⟩ := zoB_s h
    refine zr_callS1 F (k_MPainter_div l D tA b sh _ ep45) zd_MPainter_sample_55 zs_MPainter_103 zq_MPainter_div rfl rfl ⟨(Nat.le_of_ble_eq_true rfl), (Nat.le_of_ble_eq_true rfl)⟩ (Nat.le_of_ble_eq_true rfl) ⟨(Nat.le_of_ble_eq_true rfl), (Nat.le_of_ble_eq_true rfl)⟩ ?_
    refine zr_iload F zd_MPainter_sample_58 rfl ?_
    obtain ⟨le47, hs46, h⟩ := zoS_s h
    obtain ⟨p48, ep48, h⟩ := zoB_s h
    refine zr_callV1 F (k_MPainter_texel l D tA b sh _ ep48) zd_MPainter_sample_60 (zW_o hs46 (by decide)) rfl zs_MPainter_329 rfl zq_MPainter_texel rfl rfl ⟨(Nat.le_of_ble_eq_true rfl), (Nat.le_of_ble_eq_true rfl)⟩ (Nat.le_of_ble_eq_true rfl) ⟨(Nat.le_of_ble_eq_true rfl), (Nat.le_of_ble_eq_true rfl)⟩ ?_
    obtain rfl := Option.some.inj h
    exact zr_lret F hr zd_MPainter_sample_63 (Nat.le_of_ble_eq_true rfl) (Nat.le_of_ble_eq_true rfl) ⟨rfl, rfl, rfl⟩
abbrev zb_MPainter_colour : ByteArray := prog_16_method_34_code
def zy_MPainter_colour : MethodName := ⟨"OrreryBoxModel$Painter", "colour", "(IIIJJJJ)V"⟩
theorem zc_MPainter_colour : Cond.code zy_MPainter_colour zb_MPainter_colour 17 none ∈ gw := gw_t 2133 (by decide +kernel) rfl
theorem zq_MPainter_colour : zy_MPainter_colour.cls ≠ "java/lang/invoke/MethodHandle" ∧ zy_MPainter_colour.cls ≠ "java/lang/invoke/VarHandle" ∧ (parseMethodDescriptor zy_MPainter_colour.desc).map (fun d => d.parameters.length) = some 7 := by decide +kernel
theorem zd_MPainter_colour_0 : decode zb_MPainter_colour 0 = .ok (.aload_n 0, 1) := by decide +kernel
theorem zd_MPainter_colour_1 : decode zb_MPainter_colour 1 = .ok (.getfield 129, 3) := by decide +kernel
theorem zd_MPainter_colour_4 : decode zb_MPainter_colour 4 = .ok (.getfield 336, 3) := by decide +kernel
theorem zd_MPainter_colour_7 : decode zb_MPainter_colour 7 = .ok (.iload_n 1, 1) := by decide +kernel
theorem zd_MPainter_colour_8 : decode zb_MPainter_colour 8 = .ok (.iaload, 1) := by decide +kernel
theorem zd_MPainter_colour_9 : decode zb_MPainter_colour 9 = .ok (.istore 12, 2) := by decide +kernel
theorem zd_MPainter_colour_11 : decode zb_MPainter_colour 11 = .ok (.iload 12, 2) := by decide +kernel
theorem zd_MPainter_colour_13 : decode zb_MPainter_colour 13 = .ok (.ifCond .ge 7, 3) := by decide +kernel
theorem zd_MPainter_colour_16 : decode zb_MPainter_colour 16 = .ok (.iconst 0, 1) := by decide +kernel
theorem zd_MPainter_colour_17 : decode zb_MPainter_colour 17 = .ok (.goto 13, 3) := by decide +kernel
theorem zd_MPainter_colour_20 : decode zb_MPainter_colour 20 = .ok (.aload_n 0, 1) := by decide +kernel
theorem zd_MPainter_colour_21 : decode zb_MPainter_colour 21 = .ok (.iload 12, 2) := by decide +kernel
theorem zd_MPainter_colour_23 : decode zb_MPainter_colour 23 = .ok (.iload_n 2, 1) := by decide +kernel
theorem zd_MPainter_colour_24 : decode zb_MPainter_colour 24 = .ok (.iload_n 3, 1) := by decide +kernel
theorem zd_MPainter_colour_25 : decode zb_MPainter_colour 25 = .ok (.lload 4, 2) := by decide +kernel
theorem zd_MPainter_colour_27 : decode zb_MPainter_colour 27 = .ok (.invokevirtual 339, 3) := by decide +kernel
theorem zd_MPainter_colour_30 : decode zb_MPainter_colour 30 = .ok (.istore 13, 2) := by decide +kernel
theorem zd_MPainter_colour_32 : decode zb_MPainter_colour 32 = .ok (.iconst 0, 1) := by decide +kernel
theorem zd_MPainter_colour_33 : decode zb_MPainter_colour 33 = .ok (.istore 14, 2) := by decide +kernel
theorem zd_MPainter_colour_35 : decode zb_MPainter_colour 35 = .ok (.iload 14, 2) := by decide +kernel
theorem zd_MPainter_colour_37 : decode zb_MPainter_colour 37 = .ok (.iconst 3, 1) := by decide +kernel
theorem zd_MPainter_colour_38 : decode zb_MPainter_colour 38 = .ok (.if_icmp .ge 76, 3) := by decide +kernel
theorem zd_MPainter_colour_41 : decode zb_MPainter_colour 41 = .ok (.iload 12, 2) := by decide +kernel
theorem zd_MPainter_colour_43 : decode zb_MPainter_colour 43 = .ok (.ifCond .ge 9, 3) := by decide +kernel
theorem zd_MPainter_colour_46 : decode zb_MPainter_colour 46 = .ok (.ldc2_w 306, 3) := by decide +kernel
theorem zd_MPainter_colour_49 : decode zb_MPainter_colour 49 = .ok (.goto 17, 3) := by decide +kernel
theorem zd_MPainter_colour_52 : decode zb_MPainter_colour 52 = .ok (.aload_n 0, 1) := by decide +kernel
theorem zd_MPainter_colour_53 : decode zb_MPainter_colour 53 = .ok (.iload 12, 2) := by decide +kernel
theorem zd_MPainter_colour_55 : decode zb_MPainter_colour 55 = .ok (.iload 13, 2) := by decide +kernel
theorem zd_MPainter_colour_57 : decode zb_MPainter_colour 57 = .ok (.lload 6, 2) := by decide +kernel
theorem zd_MPainter_colour_59 : decode zb_MPainter_colour 59 = .ok (.lload 8, 2) := by decide +kernel
theorem zd_MPainter_colour_61 : decode zb_MPainter_colour 61 = .ok (.iload 14, 2) := by decide +kernel
theorem zd_MPainter_colour_63 : decode zb_MPainter_colour 63 = .ok (.invokevirtual 343, 3) := by decide +kernel
theorem zd_MPainter_colour_66 : decode zb_MPainter_colour 66 = .ok (.lstore 15, 2) := by decide +kernel
theorem zd_MPainter_colour_68 : decode zb_MPainter_colour 68 = .ok (.aload_n 0, 1) := by decide +kernel
theorem zd_MPainter_colour_69 : decode zb_MPainter_colour 69 = .ok (.getfield 58, 3) := by decide +kernel
theorem zd_MPainter_colour_72 : decode zb_MPainter_colour 72 = .ok (.iload 14, 2) := by decide +kernel
theorem zd_MPainter_colour_74 : decode zb_MPainter_colour 74 = .ok (.lload 15, 2) := by decide +kernel
theorem zd_MPainter_colour_76 : decode zb_MPainter_colour 76 = .ok (.aload_n 0, 1) := by decide +kernel
theorem zd_MPainter_colour_77 : decode zb_MPainter_colour 77 = .ok (.getfield 129, 3) := by decide +kernel
theorem zd_MPainter_colour_80 : decode zb_MPainter_colour 80 = .ok (.getfield 177, 3) := by decide +kernel
theorem zd_MPainter_colour_83 : decode zb_MPainter_colour 83 = .ok (.iconst 4, 1) := by decide +kernel
theorem zd_MPainter_colour_84 : decode zb_MPainter_colour 84 = .ok (.iload_n 1, 1) := by decide +kernel
theorem zd_MPainter_colour_85 : decode zb_MPainter_colour 85 = .ok (.imul, 1) := by decide +kernel
theorem zd_MPainter_colour_86 : decode zb_MPainter_colour 86 = .ok (.iload 14, 2) := by decide +kernel
theorem zd_MPainter_colour_88 : decode zb_MPainter_colour 88 = .ok (.iadd, 1) := by decide +kernel
theorem zd_MPainter_colour_89 : decode zb_MPainter_colour 89 = .ok (.iaload, 1) := by decide +kernel
theorem zd_MPainter_colour_90 : decode zb_MPainter_colour 90 = .ok (.i2l, 1) := by decide +kernel
theorem zd_MPainter_colour_91 : decode zb_MPainter_colour 91 = .ok (.lmul, 1) := by decide +kernel
theorem zd_MPainter_colour_92 : decode zb_MPainter_colour 92 = .ok (.ldc2_w 306, 3) := by decide +kernel
theorem zd_MPainter_colour_95 : decode zb_MPainter_colour 95 = .ok (.invokestatic 103, 3) := by decide +kernel
theorem zd_MPainter_colour_98 : decode zb_MPainter_colour 98 = .ok (.lload 10, 2) := by decide +kernel
theorem zd_MPainter_colour_100 : decode zb_MPainter_colour 100 = .ok (.lmul, 1) := by decide +kernel
theorem zd_MPainter_colour_101 : decode zb_MPainter_colour 101 = .ok (.ldc2_w 80, 3) := by decide +kernel
theorem zd_MPainter_colour_104 : decode zb_MPainter_colour 104 = .ok (.invokestatic 103, 3) := by decide +kernel
theorem zd_MPainter_colour_107 : decode zb_MPainter_colour 107 = .ok (.lastore, 1) := by decide +kernel
theorem zd_MPainter_colour_108 : decode zb_MPainter_colour 108 = .ok (.iinc 14 1, 3) := by decide +kernel
theorem zd_MPainter_colour_111 : decode zb_MPainter_colour 111 = .ok (.goto (-76), 3) := by decide +kernel
theorem zd_MPainter_colour_114 : decode zb_MPainter_colour 114 = .ok (.return_, 1) := by decide +kernel
theorem zw_1348 : (Jvm.Cond.fieldLink "OrreryBoxModel$Painter" (336 : Nat) "OrreryBoxModel$Scene" "texture" "[I") ∈ gw := gw_t 1348 (by decide +kernel) rfl
theorem zw_2134 : (Jvm.Cond.methodLink "OrreryBoxModel$Painter" (339 : Nat) ({ cls := "OrreryBoxModel$Painter", name := "level", desc := "(IIIJ)I" } : Jvm.MethodName)) ∈ gw := gw_t 2134 (by decide +kernel) rfl
theorem zw_2136 : (Jvm.Cond.instanceMethod ({ cls := "OrreryBoxModel$Painter", name := "level", desc := "(IIIJ)I" } : Jvm.MethodName)) ∈ gw := gw_t 2136 (by decide +kernel) rfl
theorem zv_113 : (Jvm.Cond.selects "OrreryBoxModel$Painter" (⟨"OrreryBoxModel$Painter", "level", "(IIIJ)I"⟩ : MethodName) ⟨"OrreryBoxModel$Painter", "level", "(IIIJ)I"⟩) ∈ gw := gw_s 113 (by decide +kernel) rfl
theorem zs_MPainter_339 : zwV "OrreryBoxModel$Painter" 339 "OrreryBoxModel$Painter" zy_MPainter_level zb_MPainter_level 20 (some .int) := ⟨zw_2134, zw_2136, zv_113, zw_17, zc_MPainter_level⟩
theorem zw_2139 : (Jvm.Cond.methodLink "OrreryBoxModel$Painter" (343 : Nat) ({ cls := "OrreryBoxModel$Painter", name := "sample", desc := "(IIJJI)J" } : Jvm.MethodName)) ∈ gw := gw_t 2139 (by decide +kernel) rfl
theorem zw_2141 : (Jvm.Cond.instanceMethod ({ cls := "OrreryBoxModel$Painter", name := "sample", desc := "(IIJJI)J" } : Jvm.MethodName)) ∈ gw := gw_t 2141 (by decide +kernel) rfl
theorem zv_114 : (Jvm.Cond.selects "OrreryBoxModel$Painter" (⟨"OrreryBoxModel$Painter", "sample", "(IIJJI)J"⟩ : MethodName) ⟨"OrreryBoxModel$Painter", "sample", "(IIJJI)J"⟩) ∈ gw := gw_s 114 (by decide +kernel) rfl
theorem zs_MPainter_343 : zwV "OrreryBoxModel$Painter" 343 "OrreryBoxModel$Painter" zy_MPainter_sample zb_MPainter_sample 24 (some .long) := ⟨zw_2139, zw_2141, zv_114, zw_17, zc_MPainter_sample⟩
theorem zw_2138 : (Jvm.Cond.constantLong "OrreryBoxModel$Painter" (306 : Nat) (255 : Int64)) ∈ gw := gw_t 2138 (by decide +kernel) rfl
def L_MPainter_colour_35 (sh : zSh) (fuel : Nat) (v0 : Nat) (v1 : Int32) (v6 : Int64) (v8 : Int64) (v10 : Int64) (v12 : Int32) (v13 : Int32) (v14 : Int32) (mm : zMem) : Option (Nat × Int32 × Int64 × Int64 × Int64 × Int32 × Int32 × Int32 × zMem) := match fuel with
  | 0 => none
  | fu + 1 => (if 3 ≤ v14 then some (v0, v1, v6, v8, v10, v12, v13, v14, mm) else (if 0 ≤ v12 then zoS (sh v0) 13 (fun le18 => Option.bind (F_MPainter_sample sh mm v0 v12 v13 v6 v8 v14) (fun p19 => zoS (sh v0) 13 (fun le21 => Option.bind ((p19.2).2.2 v0 30) (fun a22 => zoS (sh v0) 13 (fun le24 => Option.bind ((p19.2).2.2 v0 5) (fun a25 => zoS (sh a25) 15 (fun le27 => Option.bind ((p19.2).2.2 a25 9) (fun a28 => zoL ((4 * v1) + v14) (fun i29 => zoS (sh a28) 100 (fun le31 => if (i29 : Int32) < 0 ∨ le31 ≤ (i29 : Int32).toNatClampNeg then none else zoL (p19.1 * ((((p19.2).1 a28 (i29 : Int32).toNatClampNeg) : Int32).toInt64)) (fun x33 => Option.bind (F_MPainter_div sh (p19.2) x33 255) (fun p34 => Option.bind (F_MPainter_div sh (p34.2) (p34.1 * v10) 65536) (fun p35 => zoS (sh a22) 102 (fun le37 => if (v14 : Int32) < 0 ∨ le37 ≤ (v14 : Int32).toNatClampNeg then none else zoL (mL (p35.2) a22 (v14 : Int32).toNatClampNeg (p35.1)) (fun mm39 => L_MPainter_colour_35 sh fu v0 v1 v6 v8 v10 v12 v13 (v14 + 1) mm39))))))))))))))) else zoS (sh v0) 13 (fun le41 => Option.bind (mm.2.2 v0 30) (fun a42 => zoS (sh v0) 13 (fun le44 => Option.bind (mm.2.2 v0 5) (fun a45 => zoS (sh a45) 15 (fun le47 => Option.bind (mm.2.2 a45 9) (fun a48 => zoL ((4 * v1) + v14) (fun i49 => zoS (sh a48) 100 (fun le51 => if (i49 : Int32) < 0 ∨ le51 ≤ (i49 : Int32).toNatClampNeg then none else zoL (255 * (((mm.1 a48 (i49 : Int32).toNatClampNeg) : Int32).toInt64)) (fun x53 => Option.bind (F_MPainter_div sh mm x53 255) (fun p54 => Option.bind (F_MPainter_div sh (p54.2) (p54.1 * v10) 65536) (fun p55 => zoS (sh a42) 102 (fun le57 => if (v14 : Int32) < 0 ∨ le57 ≤ (v14 : Int32).toNatClampNeg then none else zoL (mL (p55.2) a42 (v14 : Int32).toNatClampNeg (p55.1)) (fun mm59 => L_MPainter_colour_35 sh fu v0 v1 v6 v8 v10 v12 v13 (v14 + 1) mm59)))))))))))))))
set_option maxHeartbeats 4000000 in
set_option maxRecDepth 100000 in
theorem lp_MPainter_colour_35 {p : Program} {l : Launch} {e : Env} {s : State} {m : MethodId} {args : Array Value} {below : List Frame} {meth : Method} {c : Code} {D : va_G} {tA : Nat → ClassId} {b n : Nat} {post : Option Value → zV → Nat → Prop} {sh : zSh} (F : zF p s m args meth c zb_MPainter_colour 17 "OrreryBoxModel$Painter" D tA b) : ∀ (fuel : Nat) (v0 : Nat) (v1 : Int32) (v6 : Int64) (v8 : Int64) (v10 : Int64) (v12 : Int32) (v13 : Int32) (v14 : Int32) (mm : zMem) (r : Nat × Int32 × Int64 × Int64 × Int64 × Int32 × Int32 × Int32 × zMem), L_MPainter_colour_35 sh fuel v0 v1 v6 v8 v10 v12 v13 v14 mm = some r → (Z p l e { frames := 4, cells := 0, slots := 0, locals := 122 } s m args below meth c D b 17 (MQ below (zQ D b post) args s 0 0 (fun q => b ≤ q)) (zW tA b sh r.2.2.2.2.2.2.2.2) n 0 0 114 [(0, .ref (b + (r.1))), (1, .int (r.2.1)), (6, .long (r.2.2.1)), (8, .long (r.2.2.2.1)), (10, .long (r.2.2.2.2.1)), (12, .int (r.2.2.2.2.2.1)), (13, .int (r.2.2.2.2.2.2.1)), (14, .int (r.2.2.2.2.2.2.2.1))] []) → Z p l e { frames := 4, cells := 0, slots := 0, locals := 122 } s m args below meth c D b 17 (MQ below (zQ D b post) args s 0 0 (fun q => b ≤ q)) (zW tA b sh mm) n 0 0 35 [(0, .ref (b + v0)), (1, .int v1), (6, .long v6), (8, .long v8), (10, .long v10), (12, .int v12), (13, .int v13), (14, .int v14)] [] := by
  intro fuel
  induction fuel with
  | zero =>
    intro v0 v1 v6 v8 v10 v12 v13 v14 mm r h
    cases h
  | succ fu ih =>
    intro v0 v1 v6 v8 v10 v12 v13 v14 mm r h hx0
    rw [L_MPainter_colour_35] at h
    refine zr_iload F zd_MPainter_colour_35 rfl ?_
    refine zr_iconstv (v := 3) F zd_MPainter_colour_37 (by decide) ?_
    refine zr_icmp_ge F 114 zd_MPainter_colour_38 (by decide) (fun hb15 => ?_) (fun hb15 => ?_)
    ·
      replace h := (if_pos hb15).symm.trans h
      obtain rfl := Option.some.inj h
      refine zr_loc (L' := [(0, .ref (b + v0)), (1, .int v1), (6, .long v6), (8, .long v8), (10, .long v10), (12, .int v12), (13, .int v13), (14, .int v14)]) ⟨rfl, rfl, rfl, rfl, rfl, rfl, rfl, rfl, trivial⟩ ?_
      exact hx0 
    ·
      replace h := (if_neg hb15).symm.trans h
      refine zr_iload F zd_MPainter_colour_41 rfl ?_
      refine zr_if_ge F 52 zd_MPainter_colour_43 (by decide) (fun hb16 => ?_) (fun hb16 => ?_)
      ·
        replace h := (if_pos hb16).symm.trans h
        refine zr_aload_n F zd_MPainter_colour_52 rfl ?_
        refine zr_pcn 53 rfl ?_
        refine zr_iload F zd_MPainter_colour_53 rfl ?_
        refine zr_iload F zd_MPainter_colour_55 rfl ?_
        refine zr_lload F zd_MPainter_colour_57 rfl ?_
        refine zr_lload F zd_MPainter_colour_59 rfl ?_
        refine zr_iload F zd_MPainter_colour_61 rfl ?_
        obtain ⟨le18, hs17, h⟩ := zoS_s h
        obtain ⟨p19, ep19, h⟩ := zoB_s h
        refine zr_callV1 F (k_MPainter_sample l D tA b sh _ ep19) zd_MPainter_colour_63 (zW_o hs17 (by decide)) rfl zs_MPainter_343 rfl zq_MPainter_sample rfl rfl ⟨(Nat.le_of_ble_eq_true rfl), (Nat.le_of_ble_eq_true rfl)⟩ (Nat.le_of_ble_eq_true rfl) ⟨(Nat.le_of_ble_eq_true rfl), (Nat.le_of_ble_eq_true rfl)⟩ ?_
        refine zr_lstore F zd_MPainter_colour_66 (by decide) ?_
        refine zr_aload_n F zd_MPainter_colour_68 rfl ?_
        refine zr_pcn 69 rfl ?_
        obtain ⟨le21, hs20, h⟩ := zoS_s h
        obtain ⟨a22, ea22, h⟩ := zoB_s h
        refine zr_get F 13 30 zd_MPainter_colour_69 (zW_o hs20 (by decide)) rfl (by decide) zw_1610 rfl (by rfl) ?_
        refine zr_tor ea22 ?_
        refine zr_iload F zd_MPainter_colour_72 rfl ?_
        refine zr_lload F zd_MPainter_colour_74 rfl ?_
        refine zr_aload_n F zd_MPainter_colour_76 rfl ?_
        obtain ⟨le24, hs23, h⟩ := zoS_s h
        obtain ⟨a25, ea25, h⟩ := zoB_s h
        refine zr_get F 13 5 zd_MPainter_colour_77 (zW_o hs23 (by decide)) rfl (by decide) zw_1581 rfl (by rfl) ?_
        refine zr_tor ea25 ?_
        obtain ⟨le27, hs26, h⟩ := zoS_s h
        obtain ⟨a28, ea28, h⟩ := zoB_s h
        refine zr_get F 15 9 zd_MPainter_colour_80 (zW_o hs26 (by decide)) rfl (by decide) zw_1345 rfl (by rfl) ?_
        refine zr_tor ea28 ?_
        refine zr_iconstv (v := 4) F zd_MPainter_colour_83 (by decide) ?_
        refine zr_iload_n F zd_MPainter_colour_84 rfl ?_
        refine zr_pcn 85 rfl ?_
        refine zr_imul F zd_MPainter_colour_85 ?_
        refine zr_iload F zd_MPainter_colour_86 rfl ?_
        refine zr_iadd F zd_MPainter_colour_88 ?_
        obtain ⟨i29, ei29, h⟩ := zoL_s h
        rw [← ei29]
        obtain ⟨le31, hs30, h⟩ := zoS_s h
        obtain ⟨hi32, h⟩ := zoI_s h
        refine zr_iald F zd_MPainter_colour_89 (zW_a0 hs30) hi32 ?_
        refine zr_i2l F zd_MPainter_colour_90 ?_
        refine zr_lmul F zd_MPainter_colour_91 ?_
        refine zr_ldc2 F zd_MPainter_colour_92 zw_2138 ?_
        obtain ⟨x33, ex33, h⟩ := zoL_s h
        rw [← ex33]
        obtain ⟨p34, ep34, h⟩ := zoB_s h
        refine zr_callS1 F (k_MPainter_div l D tA b sh _ ep34) zd_MPainter_colour_95 zs_MPainter_103 zq_MPainter_div rfl rfl ⟨(Nat.le_of_ble_eq_true rfl), (Nat.le_of_ble_eq_true rfl)⟩ (Nat.le_of_ble_eq_true rfl) ⟨(Nat.le_of_ble_eq_true rfl), (Nat.le_of_ble_eq_true rfl)⟩ ?_
        refine zr_pcn 98 rfl ?_
        refine zr_lload F zd_MPainter_colour_98 rfl ?_
        refine zr_lmul F zd_MPainter_colour_100 ?_
        refine zr_ldc2 F zd_MPainter_colour_101 zw_1952 ?_
        obtain ⟨p35, ep35, h⟩ := zoB_s h
        refine zr_callS1 F (k_MPainter_div l D tA b sh _ ep35) zd_MPainter_colour_104 zs_MPainter_103 zq_MPainter_div rfl rfl ⟨(Nat.le_of_ble_eq_true rfl), (Nat.le_of_ble_eq_true rfl)⟩ (Nat.le_of_ble_eq_true rfl) ⟨(Nat.le_of_ble_eq_true rfl), (Nat.le_of_ble_eq_true rfl)⟩ ?_
        obtain ⟨le37, hs36, h⟩ := zoS_s h
        obtain ⟨hi38, h⟩ := zoI_s h
        refine zr_last F zd_MPainter_colour_107 (zW_a2 hs36) hi38 ?_
        obtain ⟨mm39, emm39, h⟩ := zoL_s h
        refine zr_norm (zW tA b sh mm39) _ (by rw [emm39]; exact zW_s2 hs36) rfl ?_
        refine zr_iinc (v := (v14 + 1)) F zd_MPainter_colour_108 rfl rfl (by decide) ?_
        refine zr_goto F 35 zd_MPainter_colour_111 (by decide) ?_
        refine zr_loc (L' := [(0, .ref (b + v0)), (1, .int v1), (6, .long v6), (8, .long v8), (10, .long v10), (12, .int v12), (13, .int v13), (14, .int (v14 + 1))]) ⟨rfl, rfl, rfl, rfl, rfl, rfl, rfl, rfl, trivial⟩ ?_
        exact ih _ _ _ _ _ _ _ _ _ _ h hx0
      ·
        replace h := (if_neg hb16).symm.trans h
        refine zr_ldc2 F zd_MPainter_colour_46 zw_2138 ?_
        refine zr_pcn 49 rfl ?_
        refine zr_goto F 66 zd_MPainter_colour_49 (by decide) ?_
        refine zr_lstore F zd_MPainter_colour_66 (by decide) ?_
        refine zr_aload_n F zd_MPainter_colour_68 rfl ?_
        obtain ⟨le41, hs40, h⟩ := zoS_s h
        obtain ⟨a42, ea42, h⟩ := zoB_s h
        refine zr_get F 13 30 zd_MPainter_colour_69 (zW_o hs40 (by decide)) rfl (by decide) zw_1610 rfl (by rfl) ?_
        refine zr_tor ea42 ?_
        refine zr_iload F zd_MPainter_colour_72 rfl ?_
        refine zr_lload F zd_MPainter_colour_74 rfl ?_
        refine zr_aload_n F zd_MPainter_colour_76 rfl ?_
        obtain ⟨le44, hs43, h⟩ := zoS_s h
        obtain ⟨a45, ea45, h⟩ := zoB_s h
        refine zr_get F 13 5 zd_MPainter_colour_77 (zW_o hs43 (by decide)) rfl (by decide) zw_1581 rfl (by rfl) ?_
        refine zr_tor ea45 ?_
        refine zr_pcn 80 rfl ?_
        obtain ⟨le47, hs46, h⟩ := zoS_s h
        obtain ⟨a48, ea48, h⟩ := zoB_s h
        refine zr_get F 15 9 zd_MPainter_colour_80 (zW_o hs46 (by decide)) rfl (by decide) zw_1345 rfl (by rfl) ?_
        refine zr_tor ea48 ?_
        refine zr_iconstv (v := 4) F zd_MPainter_colour_83 (by decide) ?_
        refine zr_iload_n F zd_MPainter_colour_84 rfl ?_
        refine zr_imul F zd_MPainter_colour_85 ?_
        refine zr_iload F zd_MPainter_colour_86 rfl ?_
        refine zr_iadd F zd_MPainter_colour_88 ?_
        obtain ⟨i49, ei49, h⟩ := zoL_s h
        rw [← ei49]
        obtain ⟨le51, hs50, h⟩ := zoS_s h
        obtain ⟨hi52, h⟩ := zoI_s h
        refine zr_iald F zd_MPainter_colour_89 (zW_a0 hs50) hi52 ?_
        refine zr_i2l F zd_MPainter_colour_90 ?_
        refine zr_pcn 91 rfl ?_
        refine zr_lmul F zd_MPainter_colour_91 ?_
        refine zr_ldc2 F zd_MPainter_colour_92 zw_2138 ?_
        obtain ⟨x53, ex53, h⟩ := zoL_s h
        rw [← ex53]
        obtain ⟨p54, ep54, h⟩ := zoB_s h
        refine zr_callS1 F (k_MPainter_div l D tA b sh _ ep54) zd_MPainter_colour_95 zs_MPainter_103 zq_MPainter_div rfl rfl ⟨(Nat.le_of_ble_eq_true rfl), (Nat.le_of_ble_eq_true rfl)⟩ (Nat.le_of_ble_eq_true rfl) ⟨(Nat.le_of_ble_eq_true rfl), (Nat.le_of_ble_eq_true rfl)⟩ ?_
        refine zr_lload F zd_MPainter_colour_98 rfl ?_
        refine zr_lmul F zd_MPainter_colour_100 ?_
        refine zr_ldc2 F zd_MPainter_colour_101 zw_1952 ?_
        obtain ⟨p55, ep55, h⟩ := zoB_s h
        refine zr_callS1 F (k_MPainter_div l D tA b sh _ ep55) zd_MPainter_colour_104 zs_MPainter_103 zq_MPainter_div rfl rfl ⟨(Nat.le_of_ble_eq_true rfl), (Nat.le_of_ble_eq_true rfl)⟩ (Nat.le_of_ble_eq_true rfl) ⟨(Nat.le_of_ble_eq_true rfl), (Nat.le_of_ble_eq_true rfl)⟩ ?_
        obtain ⟨le57, hs56, h⟩ := zoS_s h
        obtain ⟨hi58, h⟩ := zoI_s h
        refine zr_last F zd_MPainter_colour_107 (zW_a2 hs56) hi58 ?_
        obtain ⟨mm59, emm59, h⟩ := zoL_s h
        refine zr_norm (zW tA b sh mm59) _ (by rw [emm59]; exact zW_s2 hs56) rfl ?_
        refine zr_pcn 108 rfl ?_
        refine zr_iinc (v := (v14 + 1)) F zd_MPainter_colour_108 rfl rfl (by decide) ?_
        refine zr_goto F 35 zd_MPainter_colour_111 (by decide) ?_
        refine zr_loc (L' := [(0, .ref (b + v0)), (1, .int v1), (6, .long v6), (8, .long v8), (10, .long v10), (12, .int v12), (13, .int v13), (14, .int (v14 + 1))]) ⟨rfl, rfl, rfl, rfl, rfl, rfl, rfl, rfl, trivial⟩ ?_
        exact ih _ _ _ _ _ _ _ _ _ _ h hx0
def F_MPainter_colour (sh : zSh) (mm : zMem) (o : Nat) (x0_ : Int32) (x1_ : Int32) (x2_ : Int32) (x3_ : Int64) (x4_ : Int64) (x5_ : Int64) (x6_ : Int64) : Option zMem := zoS (sh o) 13 (fun le2 => Option.bind (mm.2.2 o 5) (fun a3 => zoS (sh a3) 15 (fun le5 => Option.bind (mm.2.2 a3 10) (fun a6 => zoS (sh a6) 100 (fun le8 => if (x0_ : Int32) < 0 ∨ le8 ≤ (x0_ : Int32).toNatClampNeg then none else zoL (mm.1 a6 (x0_ : Int32).toNatClampNeg) (fun x10 => (if 0 ≤ x10 then zoS (sh o) 13 (fun le13 => Option.bind (F_MPainter_level sh mm o x10 x1_ x2_ x3_) (fun p14 => Option.bind (L_MPainter_colour_35 sh zfuel o x0_ x4_ x5_ x6_ x10 (p14.1) 0 (p14.2)) (fun q60 => some (q60.2.2.2.2.2.2.2.2)))) else Option.bind (L_MPainter_colour_35 sh zfuel o x0_ x4_ x5_ x6_ x10 0 0 mm) (fun q61 => some (q61.2.2.2.2.2.2.2.2)))))))))
set_option maxHeartbeats 4000000 in
set_option maxRecDepth 100000 in
theorem k_MPainter_colour (l : Launch) (D : va_G) (tA : Nat → ClassId) (b : Nat) (sh : zSh) (n : Nat) {mm : zMem} {o : Nat} {x0_ : Int32} {x1_ : Int32} {x2_ : Int32} {x3_ : Int64} {x4_ : Int64} {x5_ : Int64} {x6_ : Int64} {r : zMem} (h : F_MPainter_colour sh mm o x0_ x1_ x2_ x3_ x4_ x5_ x6_ = some r) : zM l D tA b zy_MPainter_colour zb_MPainter_colour 17 none 4 122 0 0 [.ref (b + o), .int x0_, .int x1_, .int x2_, .long x3_, .long x4_, .long x5_, .long x6_] (zW tA b sh mm) n (zE none (zW tA b sh r) n) := by
  unfold F_MPainter_colour at h
  refine zM_of (own := "OrreryBoxModel$Painter") (plainFor_of_name (by decide)) rfl (Nat.le_of_ble_eq_true rfl) (fun p e s m below meth c F hr hin hH => ?_)
  refine zr_aload_n F zd_MPainter_colour_0 rfl ?_
  obtain ⟨le2, hs1, h⟩ := zoS_s h
  obtain ⟨a3, ea3, h⟩ := zoB_s h
  refine zr_get F 13 5 zd_MPainter_colour_1 (zW_o hs1 (by decide)) rfl (by decide) zw_1581 rfl (by rfl) ?_
  refine zr_tor ea3 ?_
  obtain ⟨le5, hs4, h⟩ := zoS_s h
  obtain ⟨a6, ea6, h⟩ := zoB_s h
  refine zr_get F 15 10 zd_MPainter_colour_4 (zW_o hs4 (by decide)) rfl (by decide) zw_1348 rfl (by rfl) ?_
  refine zr_tor ea6 ?_
  refine zr_iload_n F zd_MPainter_colour_7 rfl ?_
  obtain ⟨le8, hs7, h⟩ := zoS_s h
  obtain ⟨hi9, h⟩ := zoI_s h
  refine zr_iald F zd_MPainter_colour_8 (zW_a0 hs7) hi9 ?_
  obtain ⟨x10, ex10, h⟩ := zoL_s h
  rw [← ex10]
  refine zr_istore F zd_MPainter_colour_9 (by decide) ?_
  refine zr_iload F zd_MPainter_colour_11 rfl ?_
  refine zr_pcn 13 rfl ?_
  refine zr_if_ge F 20 zd_MPainter_colour_13 (by decide) (fun hb11 => ?_) (fun hb11 => ?_)
  ·
    replace h := (if_pos hb11).symm.trans h
    refine zr_aload_n F zd_MPainter_colour_20 rfl ?_
    refine zr_iload F zd_MPainter_colour_21 rfl ?_
    refine zr_iload_n F zd_MPainter_colour_23 rfl ?_
    refine zr_iload_n F zd_MPainter_colour_24 rfl ?_
    refine zr_lload F zd_MPainter_colour_25 rfl ?_
    obtain ⟨le13, hs12, h⟩ := zoS_s h
    obtain ⟨p14, ep14, h⟩ := zoB_s h
    refine zr_callV1 F (k_MPainter_level l D tA b sh _ ep14) zd_MPainter_colour_27 (zW_o hs12 (by decide)) rfl zs_MPainter_339 rfl zq_MPainter_level rfl rfl ⟨(Nat.le_of_ble_eq_true rfl), (Nat.le_of_ble_eq_true rfl)⟩ (Nat.le_of_ble_eq_true rfl) ⟨(Nat.le_of_ble_eq_true rfl), (Nat.le_of_ble_eq_true rfl)⟩ ?_
    refine zr_istore F zd_MPainter_colour_30 (by decide) ?_
    refine zr_pcn 32 rfl ?_
    refine zr_iconstv (v := 0) F zd_MPainter_colour_32 (by decide) ?_
    refine zr_istore F zd_MPainter_colour_33 (by decide) ?_
    refine zr_loc (L' := [(0, .ref (b + o)), (1, .int x0_), (6, .long x4_), (8, .long x5_), (10, .long x6_), (12, .int x10), (13, .int (p14.1)), (14, .int 0)]) ⟨rfl, rfl, rfl, rfl, rfl, rfl, rfl, rfl, trivial⟩ ?_
    obtain ⟨q60, eq60, h⟩ := zoB_s h
    refine zr_loc (L' := [(0, .ref (b + o)), (1, .int x0_), (6, .long x4_), (8, .long x5_), (10, .long x6_), (12, .int x10), (13, .int (p14.1)), (14, .int 0)]) ⟨rfl, rfl, rfl, rfl, rfl, rfl, rfl, rfl, trivial⟩ ?_
    refine lp_MPainter_colour_35 F _ _ _ _ _ _ _ _ _ _ _ eq60 ?_
    ·
      obtain rfl := Option.some.inj h
      exact zr_vret F hr zd_MPainter_colour_114 (Nat.le_of_ble_eq_true rfl) (Nat.le_of_ble_eq_true rfl) ⟨rfl, rfl, rfl⟩
  ·
    replace h := (if_neg hb11).symm.trans h
    refine zr_iconstv (v := 0) F zd_MPainter_colour_16 (by decide) ?_
    refine zr_goto F 30 zd_MPainter_colour_17 (by decide) ?_
    refine zr_istore F zd_MPainter_colour_30 (by decide) ?_
    refine zr_iconstv (v := 0) F zd_MPainter_colour_32 (by decide) ?_
    refine zr_istore F zd_MPainter_colour_33 (by decide) ?_
    refine zr_loc (L' := [(0, .ref (b + o)), (1, .int x0_), (6, .long x4_), (8, .long x5_), (10, .long x6_), (12, .int x10), (13, .int 0), (14, .int 0)]) ⟨rfl, rfl, rfl, rfl, rfl, rfl, rfl, rfl, trivial⟩ ?_
    obtain ⟨q61, eq61, h⟩ := zoB_s h
    refine zr_loc (L' := [(0, .ref (b + o)), (1, .int x0_), (6, .long x4_), (8, .long x5_), (10, .long x6_), (12, .int x10), (13, .int 0), (14, .int 0)]) ⟨rfl, rfl, rfl, rfl, rfl, rfl, rfl, rfl, trivial⟩ ?_
    refine lp_MPainter_colour_35 F _ _ _ _ _ _ _ _ _ _ _ eq61 ?_
    ·
      refine zr_pcn 114 rfl ?_
      obtain rfl := Option.some.inj h
      exact zr_vret F hr zd_MPainter_colour_114 (Nat.le_of_ble_eq_true rfl) (Nat.le_of_ble_eq_true rfl) ⟨rfl, rfl, rfl⟩
