abbrev zb_MPainter_goOverFace : ByteArray := prog_16_method_24_code
def zy_MPainter_goOverFace : MethodName := ⟨"OrreryBoxModel$Painter", "goOverFace", "(II)V"⟩
theorem zc_MPainter_goOverFace : Cond.code zy_MPainter_goOverFace zb_MPainter_goOverFace 7 none ∈ gw := gw_t 2091 (by decide +kernel) rfl
theorem zq_MPainter_goOverFace : zy_MPainter_goOverFace.cls ≠ "java/lang/invoke/MethodHandle" ∧ zy_MPainter_goOverFace.cls ≠ "java/lang/invoke/VarHandle" ∧ (parseMethodDescriptor zy_MPainter_goOverFace.desc).map (fun d => d.parameters.length) = some 2 := by decide +kernel
theorem zd_MPainter_goOverFace_0 : decode zb_MPainter_goOverFace 0 = .ok (.aload_n 0, 1) := by decide +kernel
theorem zd_MPainter_goOverFace_1 : decode zb_MPainter_goOverFace 1 = .ok (.getfield 129, 3) := by decide +kernel
theorem zd_MPainter_goOverFace_4 : decode zb_MPainter_goOverFace 4 = .ok (.getfield 167, 3) := by decide +kernel
theorem zd_MPainter_goOverFace_7 : decode zb_MPainter_goOverFace 7 = .ok (.iload_n 1, 1) := by decide +kernel
theorem zd_MPainter_goOverFace_8 : decode zb_MPainter_goOverFace 8 = .ok (.iaload, 1) := by decide +kernel
theorem zd_MPainter_goOverFace_9 : decode zb_MPainter_goOverFace 9 = .ok (.istore_n 3, 1) := by decide +kernel
theorem zd_MPainter_goOverFace_10 : decode zb_MPainter_goOverFace 10 = .ok (.iconst 0, 1) := by decide +kernel
theorem zd_MPainter_goOverFace_11 : decode zb_MPainter_goOverFace 11 = .ok (.istore 4, 2) := by decide +kernel
theorem zd_MPainter_goOverFace_13 : decode zb_MPainter_goOverFace 13 = .ok (.iload 4, 2) := by decide +kernel
theorem zd_MPainter_goOverFace_15 : decode zb_MPainter_goOverFace 15 = .ok (.iconst 3, 1) := by decide +kernel
theorem zd_MPainter_goOverFace_16 : decode zb_MPainter_goOverFace 16 = .ok (.if_icmp .ge 36, 3) := by decide +kernel
theorem zd_MPainter_goOverFace_19 : decode zb_MPainter_goOverFace 19 = .ok (.aload_n 0, 1) := by decide +kernel
theorem zd_MPainter_goOverFace_20 : decode zb_MPainter_goOverFace 20 = .ok (.iload_n 3, 1) := by decide +kernel
theorem zd_MPainter_goOverFace_21 : decode zb_MPainter_goOverFace 21 = .ok (.iload 4, 2) := by decide +kernel
theorem zd_MPainter_goOverFace_23 : decode zb_MPainter_goOverFace 23 = .ok (.aload_n 0, 1) := by decide +kernel
theorem zd_MPainter_goOverFace_24 : decode zb_MPainter_goOverFace 24 = .ok (.getfield 129, 3) := by decide +kernel
theorem zd_MPainter_goOverFace_27 : decode zb_MPainter_goOverFace 27 = .ok (.getfield 240, 3) := by decide +kernel
theorem zd_MPainter_goOverFace_30 : decode zb_MPainter_goOverFace 30 = .ok (.sipush 384, 3) := by decide +kernel
theorem zd_MPainter_goOverFace_33 : decode zb_MPainter_goOverFace 33 = .ok (.iload_n 3, 1) := by decide +kernel
theorem zd_MPainter_goOverFace_34 : decode zb_MPainter_goOverFace 34 = .ok (.imul, 1) := by decide +kernel
theorem zd_MPainter_goOverFace_35 : decode zb_MPainter_goOverFace 35 = .ok (.iconst 3, 1) := by decide +kernel
theorem zd_MPainter_goOverFace_36 : decode zb_MPainter_goOverFace 36 = .ok (.iload_n 2, 1) := by decide +kernel
theorem zd_MPainter_goOverFace_37 : decode zb_MPainter_goOverFace 37 = .ok (.imul, 1) := by decide +kernel
theorem zd_MPainter_goOverFace_38 : decode zb_MPainter_goOverFace 38 = .ok (.iadd, 1) := by decide +kernel
theorem zd_MPainter_goOverFace_39 : decode zb_MPainter_goOverFace 39 = .ok (.iload 4, 2) := by decide +kernel
theorem zd_MPainter_goOverFace_41 : decode zb_MPainter_goOverFace 41 = .ok (.iadd, 1) := by decide +kernel
theorem zd_MPainter_goOverFace_42 : decode zb_MPainter_goOverFace 42 = .ok (.iaload, 1) := by decide +kernel
theorem zd_MPainter_goOverFace_43 : decode zb_MPainter_goOverFace 43 = .ok (.invokevirtual 243, 3) := by decide +kernel
theorem zd_MPainter_goOverFace_46 : decode zb_MPainter_goOverFace 46 = .ok (.iinc 4 1, 3) := by decide +kernel
theorem zd_MPainter_goOverFace_49 : decode zb_MPainter_goOverFace 49 = .ok (.goto (-36), 3) := by decide +kernel
theorem zd_MPainter_goOverFace_52 : decode zb_MPainter_goOverFace 52 = .ok (.aload_n 0, 1) := by decide +kernel
theorem zd_MPainter_goOverFace_53 : decode zb_MPainter_goOverFace 53 = .ok (.iconst 3, 1) := by decide +kernel
theorem zd_MPainter_goOverFace_54 : decode zb_MPainter_goOverFace 54 = .ok (.putfield 233, 3) := by decide +kernel
theorem zd_MPainter_goOverFace_57 : decode zb_MPainter_goOverFace 57 = .ok (.iconst 0, 1) := by decide +kernel
theorem zd_MPainter_goOverFace_58 : decode zb_MPainter_goOverFace 58 = .ok (.istore 4, 2) := by decide +kernel
theorem zd_MPainter_goOverFace_60 : decode zb_MPainter_goOverFace 60 = .ok (.iload 4, 2) := by decide +kernel
theorem zd_MPainter_goOverFace_62 : decode zb_MPainter_goOverFace 62 = .ok (.iconst 5, 1) := by decide +kernel
theorem zd_MPainter_goOverFace_63 : decode zb_MPainter_goOverFace 63 = .ok (.if_icmp .ge 15, 3) := by decide +kernel
theorem zd_MPainter_goOverFace_66 : decode zb_MPainter_goOverFace 66 = .ok (.aload_n 0, 1) := by decide +kernel
theorem zd_MPainter_goOverFace_67 : decode zb_MPainter_goOverFace 67 = .ok (.iload 4, 2) := by decide +kernel
theorem zd_MPainter_goOverFace_69 : decode zb_MPainter_goOverFace 69 = .ok (.invokevirtual 247, 3) := by decide +kernel
theorem zd_MPainter_goOverFace_72 : decode zb_MPainter_goOverFace 72 = .ok (.iinc 4 1, 3) := by decide +kernel
theorem zd_MPainter_goOverFace_75 : decode zb_MPainter_goOverFace 75 = .ok (.goto (-15), 3) := by decide +kernel
theorem zd_MPainter_goOverFace_78 : decode zb_MPainter_goOverFace 78 = .ok (.iconst 0, 1) := by decide +kernel
theorem zd_MPainter_goOverFace_79 : decode zb_MPainter_goOverFace 79 = .ok (.istore 4, 2) := by decide +kernel
theorem zd_MPainter_goOverFace_81 : decode zb_MPainter_goOverFace 81 = .ok (.iload 4, 2) := by decide +kernel
theorem zd_MPainter_goOverFace_83 : decode zb_MPainter_goOverFace 83 = .ok (.aload_n 0, 1) := by decide +kernel
theorem zd_MPainter_goOverFace_84 : decode zb_MPainter_goOverFace 84 = .ok (.getfield 233, 3) := by decide +kernel
theorem zd_MPainter_goOverFace_87 : decode zb_MPainter_goOverFace 87 = .ok (.if_icmp .ge 128, 3) := by decide +kernel
theorem zd_MPainter_goOverFace_90 : decode zb_MPainter_goOverFace 90 = .ok (.aload_n 0, 1) := by decide +kernel
theorem zd_MPainter_goOverFace_91 : decode zb_MPainter_goOverFace 91 = .ok (.getfield 40, 3) := by decide +kernel
theorem zd_MPainter_goOverFace_94 : decode zb_MPainter_goOverFace 94 = .ok (.bipush 6, 2) := by decide +kernel
theorem zd_MPainter_goOverFace_96 : decode zb_MPainter_goOverFace 96 = .ok (.iload 4, 2) := by decide +kernel
theorem zd_MPainter_goOverFace_98 : decode zb_MPainter_goOverFace 98 = .ok (.imul, 1) := by decide +kernel
theorem zd_MPainter_goOverFace_99 : decode zb_MPainter_goOverFace 99 = .ok (.iconst 2, 1) := by decide +kernel
theorem zd_MPainter_goOverFace_100 : decode zb_MPainter_goOverFace 100 = .ok (.iadd, 1) := by decide +kernel
theorem zd_MPainter_goOverFace_101 : decode zb_MPainter_goOverFace 101 = .ok (.laload, 1) := by decide +kernel
theorem zd_MPainter_goOverFace_102 : decode zb_MPainter_goOverFace 102 = .ok (.lstore 5, 2) := by decide +kernel
theorem zd_MPainter_goOverFace_104 : decode zb_MPainter_goOverFace 104 = .ok (.aload_n 0, 1) := by decide +kernel
theorem zd_MPainter_goOverFace_105 : decode zb_MPainter_goOverFace 105 = .ok (.getfield 49, 3) := by decide +kernel
theorem zd_MPainter_goOverFace_108 : decode zb_MPainter_goOverFace 108 = .ok (.iload 4, 2) := by decide +kernel
theorem zd_MPainter_goOverFace_110 : decode zb_MPainter_goOverFace 110 = .ok (.ldc2_w 250, 3) := by decide +kernel
theorem zd_MPainter_goOverFace_113 : decode zb_MPainter_goOverFace 113 = .ok (.aload_n 0, 1) := by decide +kernel
theorem zd_MPainter_goOverFace_114 : decode zb_MPainter_goOverFace 114 = .ok (.getfield 129, 3) := by decide +kernel
theorem zd_MPainter_goOverFace_117 : decode zb_MPainter_goOverFace 117 = .ok (.getfield 230, 3) := by decide +kernel
theorem zd_MPainter_goOverFace_120 : decode zb_MPainter_goOverFace 120 = .ok (.i2l, 1) := by decide +kernel
theorem zd_MPainter_goOverFace_121 : decode zb_MPainter_goOverFace 121 = .ok (.lmul, 1) := by decide +kernel
theorem zd_MPainter_goOverFace_122 : decode zb_MPainter_goOverFace 122 = .ok (.aload_n 0, 1) := by decide +kernel
theorem zd_MPainter_goOverFace_123 : decode zb_MPainter_goOverFace 123 = .ok (.getfield 40, 3) := by decide +kernel
theorem zd_MPainter_goOverFace_126 : decode zb_MPainter_goOverFace 126 = .ok (.bipush 6, 2) := by decide +kernel
theorem zd_MPainter_goOverFace_128 : decode zb_MPainter_goOverFace 128 = .ok (.iload 4, 2) := by decide +kernel
theorem zd_MPainter_goOverFace_130 : decode zb_MPainter_goOverFace 130 = .ok (.imul, 1) := by decide +kernel
theorem zd_MPainter_goOverFace_131 : decode zb_MPainter_goOverFace 131 = .ok (.laload, 1) := by decide +kernel
theorem zd_MPainter_goOverFace_132 : decode zb_MPainter_goOverFace 132 = .ok (.lmul, 1) := by decide +kernel
theorem zd_MPainter_goOverFace_133 : decode zb_MPainter_goOverFace 133 = .ok (.lload 5, 2) := by decide +kernel
theorem zd_MPainter_goOverFace_135 : decode zb_MPainter_goOverFace 135 = .ok (.invokestatic 103, 3) := by decide +kernel
theorem zd_MPainter_goOverFace_138 : decode zb_MPainter_goOverFace 138 = .ok (.bipush 8, 2) := by decide +kernel
theorem zd_MPainter_goOverFace_140 : decode zb_MPainter_goOverFace 140 = .ok (.aload_n 0, 1) := by decide +kernel
theorem zd_MPainter_goOverFace_141 : decode zb_MPainter_goOverFace 141 = .ok (.getfield 61, 3) := by decide +kernel
theorem zd_MPainter_goOverFace_144 : decode zb_MPainter_goOverFace 144 = .ok (.imul, 1) := by decide +kernel
theorem zd_MPainter_goOverFace_145 : decode zb_MPainter_goOverFace 145 = .ok (.i2l, 1) := by decide +kernel
theorem zd_MPainter_goOverFace_146 : decode zb_MPainter_goOverFace 146 = .ok (.ladd, 1) := by decide +kernel
theorem zd_MPainter_goOverFace_147 : decode zb_MPainter_goOverFace 147 = .ok (.lastore, 1) := by decide +kernel
theorem zd_MPainter_goOverFace_148 : decode zb_MPainter_goOverFace 148 = .ok (.aload_n 0, 1) := by decide +kernel
theorem zd_MPainter_goOverFace_149 : decode zb_MPainter_goOverFace 149 = .ok (.getfield 52, 3) := by decide +kernel
theorem zd_MPainter_goOverFace_152 : decode zb_MPainter_goOverFace 152 = .ok (.iload 4, 2) := by decide +kernel
theorem zd_MPainter_goOverFace_154 : decode zb_MPainter_goOverFace 154 = .ok (.ldc2_w 250, 3) := by decide +kernel
theorem zd_MPainter_goOverFace_157 : decode zb_MPainter_goOverFace 157 = .ok (.aload_n 0, 1) := by decide +kernel
theorem zd_MPainter_goOverFace_158 : decode zb_MPainter_goOverFace 158 = .ok (.getfield 129, 3) := by decide +kernel
theorem zd_MPainter_goOverFace_161 : decode zb_MPainter_goOverFace 161 = .ok (.getfield 230, 3) := by decide +kernel
theorem zd_MPainter_goOverFace_164 : decode zb_MPainter_goOverFace 164 = .ok (.i2l, 1) := by decide +kernel
theorem zd_MPainter_goOverFace_165 : decode zb_MPainter_goOverFace 165 = .ok (.lmul, 1) := by decide +kernel
theorem zd_MPainter_goOverFace_166 : decode zb_MPainter_goOverFace 166 = .ok (.aload_n 0, 1) := by decide +kernel
theorem zd_MPainter_goOverFace_167 : decode zb_MPainter_goOverFace 167 = .ok (.getfield 40, 3) := by decide +kernel
theorem zd_MPainter_goOverFace_170 : decode zb_MPainter_goOverFace 170 = .ok (.bipush 6, 2) := by decide +kernel
theorem zd_MPainter_goOverFace_172 : decode zb_MPainter_goOverFace 172 = .ok (.iload 4, 2) := by decide +kernel
theorem zd_MPainter_goOverFace_174 : decode zb_MPainter_goOverFace 174 = .ok (.imul, 1) := by decide +kernel
theorem zd_MPainter_goOverFace_175 : decode zb_MPainter_goOverFace 175 = .ok (.iconst 1, 1) := by decide +kernel
theorem zd_MPainter_goOverFace_176 : decode zb_MPainter_goOverFace 176 = .ok (.iadd, 1) := by decide +kernel
theorem zd_MPainter_goOverFace_177 : decode zb_MPainter_goOverFace 177 = .ok (.laload, 1) := by decide +kernel
theorem zd_MPainter_goOverFace_178 : decode zb_MPainter_goOverFace 178 = .ok (.lmul, 1) := by decide +kernel
theorem zd_MPainter_goOverFace_179 : decode zb_MPainter_goOverFace 179 = .ok (.lload 5, 2) := by decide +kernel
theorem zd_MPainter_goOverFace_181 : decode zb_MPainter_goOverFace 181 = .ok (.invokestatic 103, 3) := by decide +kernel
theorem zd_MPainter_goOverFace_184 : decode zb_MPainter_goOverFace 184 = .ok (.bipush 8, 2) := by decide +kernel
theorem zd_MPainter_goOverFace_186 : decode zb_MPainter_goOverFace 186 = .ok (.aload_n 0, 1) := by decide +kernel
theorem zd_MPainter_goOverFace_187 : decode zb_MPainter_goOverFace 187 = .ok (.getfield 65, 3) := by decide +kernel
theorem zd_MPainter_goOverFace_190 : decode zb_MPainter_goOverFace 190 = .ok (.imul, 1) := by decide +kernel
theorem zd_MPainter_goOverFace_191 : decode zb_MPainter_goOverFace 191 = .ok (.i2l, 1) := by decide +kernel
theorem zd_MPainter_goOverFace_192 : decode zb_MPainter_goOverFace 192 = .ok (.ladd, 1) := by decide +kernel
theorem zd_MPainter_goOverFace_193 : decode zb_MPainter_goOverFace 193 = .ok (.lastore, 1) := by decide +kernel
theorem zd_MPainter_goOverFace_194 : decode zb_MPainter_goOverFace 194 = .ok (.aload_n 0, 1) := by decide +kernel
theorem zd_MPainter_goOverFace_195 : decode zb_MPainter_goOverFace 195 = .ok (.getfield 55, 3) := by decide +kernel
theorem zd_MPainter_goOverFace_198 : decode zb_MPainter_goOverFace 198 = .ok (.iload 4, 2) := by decide +kernel
theorem zd_MPainter_goOverFace_200 : decode zb_MPainter_goOverFace 200 = .ok (.ldc2_w 252, 3) := by decide +kernel
theorem zd_MPainter_goOverFace_203 : decode zb_MPainter_goOverFace 203 = .ok (.lload 5, 2) := by decide +kernel
theorem zd_MPainter_goOverFace_205 : decode zb_MPainter_goOverFace 205 = .ok (.invokestatic 103, 3) := by decide +kernel
theorem zd_MPainter_goOverFace_208 : decode zb_MPainter_goOverFace 208 = .ok (.lastore, 1) := by decide +kernel
theorem zd_MPainter_goOverFace_209 : decode zb_MPainter_goOverFace 209 = .ok (.iinc 4 1, 3) := by decide +kernel
theorem zd_MPainter_goOverFace_212 : decode zb_MPainter_goOverFace 212 = .ok (.goto (-131), 3) := by decide +kernel
theorem zd_MPainter_goOverFace_215 : decode zb_MPainter_goOverFace 215 = .ok (.iconst 1, 1) := by decide +kernel
theorem zd_MPainter_goOverFace_216 : decode zb_MPainter_goOverFace 216 = .ok (.istore 4, 2) := by decide +kernel
theorem zd_MPainter_goOverFace_218 : decode zb_MPainter_goOverFace 218 = .ok (.iload 4, 2) := by decide +kernel
theorem zd_MPainter_goOverFace_220 : decode zb_MPainter_goOverFace 220 = .ok (.iconst 1, 1) := by decide +kernel
theorem zd_MPainter_goOverFace_221 : decode zb_MPainter_goOverFace 221 = .ok (.iadd, 1) := by decide +kernel
theorem zd_MPainter_goOverFace_222 : decode zb_MPainter_goOverFace 222 = .ok (.aload_n 0, 1) := by decide +kernel
theorem zd_MPainter_goOverFace_223 : decode zb_MPainter_goOverFace 223 = .ok (.getfield 233, 3) := by decide +kernel
theorem zd_MPainter_goOverFace_226 : decode zb_MPainter_goOverFace 226 = .ok (.if_icmp .ge 17, 3) := by decide +kernel
theorem zd_MPainter_goOverFace_229 : decode zb_MPainter_goOverFace 229 = .ok (.aload_n 0, 1) := by decide +kernel
theorem zd_MPainter_goOverFace_230 : decode zb_MPainter_goOverFace 230 = .ok (.iload_n 1, 1) := by decide +kernel
theorem zd_MPainter_goOverFace_231 : decode zb_MPainter_goOverFace 231 = .ok (.iload_n 2, 1) := by decide +kernel
theorem zd_MPainter_goOverFace_232 : decode zb_MPainter_goOverFace 232 = .ok (.iload 4, 2) := by decide +kernel
theorem zd_MPainter_goOverFace_234 : decode zb_MPainter_goOverFace 234 = .ok (.invokevirtual 254, 3) := by decide +kernel
theorem zd_MPainter_goOverFace_237 : decode zb_MPainter_goOverFace 237 = .ok (.iinc 4 1, 3) := by decide +kernel
theorem zd_MPainter_goOverFace_240 : decode zb_MPainter_goOverFace 240 = .ok (.goto (-22), 3) := by decide +kernel
theorem zd_MPainter_goOverFace_243 : decode zb_MPainter_goOverFace 243 = .ok (.return_, 1) := by decide +kernel
theorem zw_1371 : (Jvm.Cond.fieldLink "OrreryBoxModel$Painter" (240 : Nat) "OrreryBoxModel$Scene" "face" "[I") ∈ gw := gw_t 1371 (by decide +kernel) rfl
theorem zw_2092 : (Jvm.Cond.methodLink "OrreryBoxModel$Painter" (243 : Nat) ({ cls := "OrreryBoxModel$Painter", name := "toCorner", desc := "(III)V" } : Jvm.MethodName)) ∈ gw := gw_t 2092 (by decide +kernel) rfl
theorem zw_2094 : (Jvm.Cond.instanceMethod ({ cls := "OrreryBoxModel$Painter", name := "toCorner", desc := "(III)V" } : Jvm.MethodName)) ∈ gw := gw_t 2094 (by decide +kernel) rfl
theorem zv_104 : (Jvm.Cond.selects "OrreryBoxModel$Painter" (⟨"OrreryBoxModel$Painter", "toCorner", "(III)V"⟩ : MethodName) ⟨"OrreryBoxModel$Painter", "toCorner", "(III)V"⟩) ∈ gw := gw_s 104 (by decide +kernel) rfl
theorem zs_MPainter_243 : zwV "OrreryBoxModel$Painter" 243 "OrreryBoxModel$Painter" zy_MPainter_toCorner zb_MPainter_toCorner 8 none := ⟨zw_2092, zw_2094, zv_104, zw_17, zc_MPainter_toCorner⟩
def L_MPainter_goOverFace_13 (sh : zSh) (fuel : Nat) (v0 : Nat) (v1 : Int32) (v2 : Int32) (v3 : Int32) (v4 : Int32) (mm : zMem) : Option (Nat × Int32 × Int32 × Int32 × Int32 × zMem) := match fuel with
  | 0 => none
  | fu + 1 => (if 3 ≤ v4 then some (v0, v1, v2, v3, v4, mm) else zoS (sh v0) 13 (fun le13 => Option.bind (mm.2.2 v0 5) (fun a14 => zoS (sh a14) 15 (fun le16 => Option.bind (mm.2.2 a14 18) (fun a17 => zoL (((384 * v3) + (3 * v2)) + v4) (fun i18 => zoS (sh a17) 100 (fun le20 => if (i18 : Int32) < 0 ∨ le20 ≤ (i18 : Int32).toNatClampNeg then none else zoS (sh v0) 13 (fun le23 => zoL (mm.1 a17 (i18 : Int32).toNatClampNeg) (fun x24 => Option.bind (F_MPainter_toCorner sh mm v0 v3 v4 x24) (fun p25 => L_MPainter_goOverFace_13 sh fu v0 v1 v2 v3 (v4 + 1) p25))))))))))
set_option maxHeartbeats 4000000 in
set_option maxRecDepth 100000 in
theorem lp_MPainter_goOverFace_13 {p : Program} {l : Launch} {e : Env} {s : State} {m : MethodId} {args : Array Value} {below : List Frame} {meth : Method} {c : Code} {D : va_G} {tA : Nat → ClassId} {b n : Nat} {post : Option Value → zV → Nat → Prop} {sh : zSh} (F : zF p s m args meth c zb_MPainter_goOverFace 7 "OrreryBoxModel$Painter" D tA b) : ∀ (fuel : Nat) (v0 : Nat) (v1 : Int32) (v2 : Int32) (v3 : Int32) (v4 : Int32) (mm : zMem) (r : Nat × Int32 × Int32 × Int32 × Int32 × zMem), L_MPainter_goOverFace_13 sh fuel v0 v1 v2 v3 v4 mm = some r → (Z p l e { frames := 7, cells := 0, slots := 0, locals := 242 } s m args below meth c D b 7 (MQ below (zQ D b post) args s 0 0 (fun q => b ≤ q)) (zW tA b sh r.2.2.2.2.2) n 0 0 52 [(0, .ref (b + (r.1))), (1, .int (r.2.1)), (2, .int (r.2.2.1)), (3, .int (r.2.2.2.1)), (4, .int (r.2.2.2.2.1))] []) → Z p l e { frames := 7, cells := 0, slots := 0, locals := 242 } s m args below meth c D b 7 (MQ below (zQ D b post) args s 0 0 (fun q => b ≤ q)) (zW tA b sh mm) n 0 0 13 [(0, .ref (b + v0)), (1, .int v1), (2, .int v2), (3, .int v3), (4, .int v4)] [] := by
  intro fuel
  induction fuel with
  | zero =>
    intro v0 v1 v2 v3 v4 mm r h
    cases h
  | succ fu ih =>
    intro v0 v1 v2 v3 v4 mm r h hx0
    rw [L_MPainter_goOverFace_13] at h
    refine zr_iload F zd_MPainter_goOverFace_13 rfl ?_
    refine zr_iconstv (v := 3) F zd_MPainter_goOverFace_15 (by decide) ?_
    refine zr_icmp_ge F 52 zd_MPainter_goOverFace_16 (by decide) (fun hb11 => ?_) (fun hb11 => ?_)
    ·
      replace h := (if_pos hb11).symm.trans h
      obtain rfl := Option.some.inj h
      refine zr_loc (L' := [(0, .ref (b + v0)), (1, .int v1), (2, .int v2), (3, .int v3), (4, .int v4)]) ⟨rfl, rfl, rfl, rfl, rfl, trivial⟩ ?_
      exact hx0 
    ·
      replace h := (if_neg hb11).symm.trans h
      refine zr_aload_n F zd_MPainter_goOverFace_19 rfl ?_
      refine zr_iload_n F zd_MPainter_goOverFace_20 rfl ?_
      refine zr_iload F zd_MPainter_goOverFace_21 rfl ?_
      refine zr_aload_n F zd_MPainter_goOverFace_23 rfl ?_
      refine zr_pcn 24 rfl ?_
      obtain ⟨le13, hs12, h⟩ := zoS_s h
      obtain ⟨a14, ea14, h⟩ := zoB_s h
      refine zr_get F 13 5 zd_MPainter_goOverFace_24 (zW_o hs12 (by decide)) rfl (by decide) zw_1581 rfl (by rfl) ?_
      refine zr_tor ea14 ?_
      obtain ⟨le16, hs15, h⟩ := zoS_s h
      obtain ⟨a17, ea17, h⟩ := zoB_s h
      refine zr_get F 15 18 zd_MPainter_goOverFace_27 (zW_o hs15 (by decide)) rfl (by decide) zw_1371 rfl (by rfl) ?_
      refine zr_tor ea17 ?_
      refine zr_sipushv (v := 384) F zd_MPainter_goOverFace_30 (by decide) ?_
      refine zr_iload_n F zd_MPainter_goOverFace_33 rfl ?_
      refine zr_imul F zd_MPainter_goOverFace_34 ?_
      refine zr_iconstv (v := 3) F zd_MPainter_goOverFace_35 (by decide) ?_
      refine zr_iload_n F zd_MPainter_goOverFace_36 rfl ?_
      refine zr_imul F zd_MPainter_goOverFace_37 ?_
      refine zr_pcn 38 rfl ?_
      refine zr_iadd F zd_MPainter_goOverFace_38 ?_
      refine zr_iload F zd_MPainter_goOverFace_39 rfl ?_
      refine zr_iadd F zd_MPainter_goOverFace_41 ?_
      obtain ⟨i18, ei18, h⟩ := zoL_s h
      rw [← ei18]
      obtain ⟨le20, hs19, h⟩ := zoS_s h
      obtain ⟨hi21, h⟩ := zoI_s h
      refine zr_iald F zd_MPainter_goOverFace_42 (zW_a0 hs19) hi21 ?_
      obtain ⟨le23, hs22, h⟩ := zoS_s h
      obtain ⟨x24, ex24, h⟩ := zoL_s h
      rw [← ex24]
      obtain ⟨p25, ep25, h⟩ := zoB_s h
      refine zr_callV0 F (k_MPainter_toCorner l D tA b sh _ ep25) zd_MPainter_goOverFace_43 (zW_o hs22 (by decide)) rfl zs_MPainter_243 rfl zq_MPainter_toCorner rfl rfl ⟨(Nat.le_of_ble_eq_true rfl), (Nat.le_of_ble_eq_true rfl)⟩ (Nat.le_of_ble_eq_true rfl) ⟨(Nat.le_of_ble_eq_true rfl), (Nat.le_of_ble_eq_true rfl)⟩ ?_
      refine zr_iinc (v := (v4 + 1)) F zd_MPainter_goOverFace_46 rfl rfl (by decide) ?_
      refine zr_goto F 13 zd_MPainter_goOverFace_49 (by decide) ?_
      refine zr_loc (L' := [(0, .ref (b + v0)), (1, .int v1), (2, .int v2), (3, .int v3), (4, .int (v4 + 1))]) ⟨rfl, rfl, rfl, rfl, rfl, trivial⟩ ?_
      exact ih _ _ _ _ _ _ _ h hx0
theorem zw_2099 : (Jvm.Cond.methodLink "OrreryBoxModel$Painter" (247 : Nat) ({ cls := "OrreryBoxModel$Painter", name := "cutBy", desc := "(I)V" } : Jvm.MethodName)) ∈ gw := gw_t 2099 (by decide +kernel) rfl
theorem zw_2101 : (Jvm.Cond.instanceMethod ({ cls := "OrreryBoxModel$Painter", name := "cutBy", desc := "(I)V" } : Jvm.MethodName)) ∈ gw := gw_t 2101 (by decide +kernel) rfl
theorem zv_105 : (Jvm.Cond.selects "OrreryBoxModel$Painter" (⟨"OrreryBoxModel$Painter", "cutBy", "(I)V"⟩ : MethodName) ⟨"OrreryBoxModel$Painter", "cutBy", "(I)V"⟩) ∈ gw := gw_s 105 (by decide +kernel) rfl
theorem zs_MPainter_247 : zwV "OrreryBoxModel$Painter" 247 "OrreryBoxModel$Painter" zy_MPainter_cutBy zb_MPainter_cutBy 10 none := ⟨zw_2099, zw_2101, zv_105, zw_17, zc_MPainter_cutBy⟩
def L_MPainter_goOverFace_60 (sh : zSh) (fuel : Nat) (v0 : Nat) (v1 : Int32) (v2 : Int32) (v4 : Int32) (mm : zMem) : Option (Nat × Int32 × Int32 × Int32 × zMem) := match fuel with
  | 0 => none
  | fu + 1 => (if 5 ≤ v4 then some (v0, v1, v2, v4, mm) else zoS (sh v0) 13 (fun le32 => Option.bind (F_MPainter_cutBy sh mm v0 v4) (fun p33 => L_MPainter_goOverFace_60 sh fu v0 v1 v2 (v4 + 1) p33)))
set_option maxHeartbeats 4000000 in
set_option maxRecDepth 100000 in
theorem lp_MPainter_goOverFace_60 {p : Program} {l : Launch} {e : Env} {s : State} {m : MethodId} {args : Array Value} {below : List Frame} {meth : Method} {c : Code} {D : va_G} {tA : Nat → ClassId} {b n : Nat} {post : Option Value → zV → Nat → Prop} {sh : zSh} (F : zF p s m args meth c zb_MPainter_goOverFace 7 "OrreryBoxModel$Painter" D tA b) : ∀ (fuel : Nat) (v0 : Nat) (v1 : Int32) (v2 : Int32) (v4 : Int32) (mm : zMem) (r : Nat × Int32 × Int32 × Int32 × zMem), L_MPainter_goOverFace_60 sh fuel v0 v1 v2 v4 mm = some r → (Z p l e { frames := 7, cells := 0, slots := 0, locals := 242 } s m args below meth c D b 7 (MQ below (zQ D b post) args s 0 0 (fun q => b ≤ q)) (zW tA b sh r.2.2.2.2) n 0 0 78 [(0, .ref (b + (r.1))), (1, .int (r.2.1)), (2, .int (r.2.2.1)), (4, .int (r.2.2.2.1))] []) → Z p l e { frames := 7, cells := 0, slots := 0, locals := 242 } s m args below meth c D b 7 (MQ below (zQ D b post) args s 0 0 (fun q => b ≤ q)) (zW tA b sh mm) n 0 0 60 [(0, .ref (b + v0)), (1, .int v1), (2, .int v2), (4, .int v4)] [] := by
  intro fuel
  induction fuel with
  | zero =>
    intro v0 v1 v2 v4 mm r h
    cases h
  | succ fu ih =>
    intro v0 v1 v2 v4 mm r h hx0
    rw [L_MPainter_goOverFace_60] at h
    refine zr_iload F zd_MPainter_goOverFace_60 rfl ?_
    refine zr_iconstv (v := 5) F zd_MPainter_goOverFace_62 (by decide) ?_
    refine zr_icmp_ge F 78 zd_MPainter_goOverFace_63 (by decide) (fun hb30 => ?_) (fun hb30 => ?_)
    ·
      replace h := (if_pos hb30).symm.trans h
      obtain rfl := Option.some.inj h
      refine zr_loc (L' := [(0, .ref (b + v0)), (1, .int v1), (2, .int v2), (4, .int v4)]) ⟨rfl, rfl, rfl, rfl, trivial⟩ ?_
      exact hx0 
    ·
      replace h := (if_neg hb30).symm.trans h
      refine zr_aload_n F zd_MPainter_goOverFace_66 rfl ?_
      refine zr_pcn 67 rfl ?_
      refine zr_iload F zd_MPainter_goOverFace_67 rfl ?_
      obtain ⟨le32, hs31, h⟩ := zoS_s h
      obtain ⟨p33, ep33, h⟩ := zoB_s h
      refine zr_callV0 F (k_MPainter_cutBy l D tA b sh _ ep33) zd_MPainter_goOverFace_69 (zW_o hs31 (by decide)) rfl zs_MPainter_247 rfl zq_MPainter_cutBy rfl rfl ⟨(Nat.le_of_ble_eq_true rfl), (Nat.le_of_ble_eq_true rfl)⟩ (Nat.le_of_ble_eq_true rfl) ⟨(Nat.le_of_ble_eq_true rfl), (Nat.le_of_ble_eq_true rfl)⟩ ?_
      refine zr_iinc (v := (v4 + 1)) F zd_MPainter_goOverFace_72 rfl rfl (by decide) ?_
      refine zr_goto F 60 zd_MPainter_goOverFace_75 (by decide) ?_
      refine zr_loc (L' := [(0, .ref (b + v0)), (1, .int v1), (2, .int v2), (4, .int (v4 + 1))]) ⟨rfl, rfl, rfl, rfl, trivial⟩ ?_
      exact ih _ _ _ _ _ _ h hx0
theorem zw_2107 : (Jvm.Cond.constantLong "OrreryBoxModel$Painter" (250 : Nat) (16 : Int64)) ∈ gw := gw_t 2107 (by decide +kernel) rfl
theorem zw_2108 : (Jvm.Cond.constantLong "OrreryBoxModel$Painter" (252 : Nat) (4294967296 : Int64)) ∈ gw := gw_t 2108 (by decide +kernel) rfl
def L_MPainter_goOverFace_81 (sh : zSh) (fuel : Nat) (v0 : Nat) (v1 : Int32) (v2 : Int32) (v4 : Int32) (mm : zMem) : Option (Nat × Int32 × Int32 × Int32 × zMem) := match fuel with
  | 0 => none
  | fu + 1 => zoS (sh v0) 13 (fun le36 => (if (mm.1 v0 26) ≤ v4 then some (v0, v1, v2, v4, mm) else zoS (sh v0) 13 (fun le39 => Option.bind (mm.2.2 v0 23) (fun a40 => zoL ((6 * v4) + 2) (fun i41 => zoS (sh a40) 102 (fun le43 => if (i41 : Int32) < 0 ∨ le43 ≤ (i41 : Int32).toNatClampNeg then none else zoL (mm.2.1 a40 (i41 : Int32).toNatClampNeg) (fun x45 => zoS (sh v0) 13 (fun le47 => Option.bind (mm.2.2 v0 27) (fun a48 => zoS (sh v0) 13 (fun le50 => Option.bind (mm.2.2 v0 5) (fun a51 => zoS (sh a51) 15 (fun le53 => zoS (sh v0) 13 (fun le55 => Option.bind (mm.2.2 v0 23) (fun a56 => zoL (6 * v4) (fun i57 => zoS (sh a56) 102 (fun le59 => if (i57 : Int32) < 0 ∨ le59 ≤ (i57 : Int32).toNatClampNeg then none else zoL ((16 * (((mm.1 a51 34) : Int32).toInt64)) * (mm.2.1 a56 (i57 : Int32).toNatClampNeg)) (fun x61 => Option.bind (F_MPainter_div sh mm x61 x45) (fun p62 => zoS (sh v0) 13 (fun le64 => zoL (p62.1 + (((8 * ((p62.2).1 v0 1)) : Int32).toInt64)) (fun x65 => zoS (sh a48) 102 (fun le67 => if (v4 : Int32) < 0 ∨ le67 ≤ (v4 : Int32).toNatClampNeg then none else zoL (mL (p62.2) a48 (v4 : Int32).toNatClampNeg x65) (fun mm69 => zoS (sh v0) 13 (fun le71 => Option.bind (mm69.2.2 v0 28) (fun a72 => zoS (sh v0) 13 (fun le74 => Option.bind (mm69.2.2 v0 5) (fun a75 => zoS (sh a75) 15 (fun le77 => zoS (sh v0) 13 (fun le79 => Option.bind (mm69.2.2 v0 23) (fun a80 => zoL ((6 * v4) + 1) (fun i81 => zoS (sh a80) 102 (fun le83 => if (i81 : Int32) < 0 ∨ le83 ≤ (i81 : Int32).toNatClampNeg then none else zoL ((16 * (((mm69.1 a75 34) : Int32).toInt64)) * (mm69.2.1 a80 (i81 : Int32).toNatClampNeg)) (fun x85 => Option.bind (F_MPainter_div sh mm69 x85 x45) (fun p86 => zoS (sh v0) 13 (fun le88 => zoL (p86.1 + (((8 * ((p86.2).1 v0 2)) : Int32).toInt64)) (fun x89 => zoS (sh a72) 102 (fun le91 => if (v4 : Int32) < 0 ∨ le91 ≤ (v4 : Int32).toNatClampNeg then none else zoL (mL (p86.2) a72 (v4 : Int32).toNatClampNeg x89) (fun mm93 => zoS (sh v0) 13 (fun le95 => Option.bind (mm93.2.2 v0 29) (fun a96 => Option.bind (F_MPainter_div sh mm93 4294967296 x45) (fun p97 => zoS (sh a96) 102 (fun le99 => if (v4 : Int32) < 0 ∨ le99 ≤ (v4 : Int32).toNatClampNeg then none else zoL (mL (p97.2) a96 (v4 : Int32).toNatClampNeg (p97.1)) (fun mm101 => L_MPainter_goOverFace_81 sh fu v0 v1 v2 (v4 + 1) mm101))))))))))))))))))))))))))))))))))))))))))
set_option maxHeartbeats 4000000 in
set_option maxRecDepth 100000 in
theorem lp_MPainter_goOverFace_81 {p : Program} {l : Launch} {e : Env} {s : State} {m : MethodId} {args : Array Value} {below : List Frame} {meth : Method} {c : Code} {D : va_G} {tA : Nat → ClassId} {b n : Nat} {post : Option Value → zV → Nat → Prop} {sh : zSh} (F : zF p s m args meth c zb_MPainter_goOverFace 7 "OrreryBoxModel$Painter" D tA b) : ∀ (fuel : Nat) (v0 : Nat) (v1 : Int32) (v2 : Int32) (v4 : Int32) (mm : zMem) (r : Nat × Int32 × Int32 × Int32 × zMem), L_MPainter_goOverFace_81 sh fuel v0 v1 v2 v4 mm = some r → (Z p l e { frames := 7, cells := 0, slots := 0, locals := 242 } s m args below meth c D b 7 (MQ below (zQ D b post) args s 0 0 (fun q => b ≤ q)) (zW tA b sh r.2.2.2.2) n 0 0 215 [(0, .ref (b + (r.1))), (1, .int (r.2.1)), (2, .int (r.2.2.1)), (4, .int (r.2.2.2.1))] []) → Z p l e { frames := 7, cells := 0, slots := 0, locals := 242 } s m args below meth c D b 7 (MQ below (zQ D b post) args s 0 0 (fun q => b ≤ q)) (zW tA b sh mm) n 0 0 81 [(0, .ref (b + v0)), (1, .int v1), (2, .int v2), (4, .int v4)] [] := by
  intro fuel
  induction fuel with
  | zero =>
    intro v0 v1 v2 v4 mm r h
    cases h
  | succ fu ih =>
    intro v0 v1 v2 v4 mm r h hx0
    rw [L_MPainter_goOverFace_81] at h
    refine zr_iload F zd_MPainter_goOverFace_81 rfl ?_
    refine zr_aload_n F zd_MPainter_goOverFace_83 rfl ?_
    refine zr_pcn 84 rfl ?_
    obtain ⟨le36, hs35, h⟩ := zoS_s h
    refine zr_get F 13 26 zd_MPainter_goOverFace_84 (zW_o hs35 (by decide)) rfl (by decide) zw_1606 rfl (by rfl) ?_
    refine zr_icmp_ge F 215 zd_MPainter_goOverFace_87 (by decide) (fun hb37 => ?_) (fun hb37 => ?_)
    ·
      replace h := (if_pos hb37).symm.trans h
      obtain rfl := Option.some.inj h
      refine zr_loc (L' := [(0, .ref (b + v0)), (1, .int v1), (2, .int v2), (4, .int v4)]) ⟨rfl, rfl, rfl, rfl, trivial⟩ ?_
      exact hx0 
    ·
      replace h := (if_neg hb37).symm.trans h
      refine zr_aload_n F zd_MPainter_goOverFace_90 rfl ?_
      obtain ⟨le39, hs38, h⟩ := zoS_s h
      obtain ⟨a40, ea40, h⟩ := zoB_s h
      refine zr_get F 13 23 zd_MPainter_goOverFace_91 (zW_o hs38 (by decide)) rfl (by decide) zw_1603 rfl (by rfl) ?_
      refine zr_tor ea40 ?_
      refine zr_bipushv (v := 6) F zd_MPainter_goOverFace_94 (by decide) ?_
      refine zr_iload F zd_MPainter_goOverFace_96 rfl ?_
      refine zr_imul F zd_MPainter_goOverFace_98 ?_
      refine zr_iconstv (v := 2) F zd_MPainter_goOverFace_99 (by decide) ?_
      refine zr_pcn 100 rfl ?_
      refine zr_iadd F zd_MPainter_goOverFace_100 ?_
      obtain ⟨i41, ei41, h⟩ := zoL_s h
      rw [← ei41]
      obtain ⟨le43, hs42, h⟩ := zoS_s h
      obtain ⟨hi44, h⟩ := zoI_s h
      refine zr_lald F zd_MPainter_goOverFace_101 (zW_a2 hs42) hi44 ?_
      obtain ⟨x45, ex45, h⟩ := zoL_s h
      rw [← ex45]
      refine zr_lstore F zd_MPainter_goOverFace_102 (by decide) ?_
      refine zr_aload_n F zd_MPainter_goOverFace_104 rfl ?_
      obtain ⟨le47, hs46, h⟩ := zoS_s h
      obtain ⟨a48, ea48, h⟩ := zoB_s h
      refine zr_get F 13 27 zd_MPainter_goOverFace_105 (zW_o hs46 (by decide)) rfl (by decide) zw_1607 rfl (by rfl) ?_
      refine zr_tor ea48 ?_
      refine zr_iload F zd_MPainter_goOverFace_108 rfl ?_
      refine zr_ldc2 F zd_MPainter_goOverFace_110 zw_2107 ?_
      refine zr_aload_n F zd_MPainter_goOverFace_113 rfl ?_
      refine zr_pcn 114 rfl ?_
      obtain ⟨le50, hs49, h⟩ := zoS_s h
      obtain ⟨a51, ea51, h⟩ := zoB_s h
      refine zr_get F 13 5 zd_MPainter_goOverFace_114 (zW_o hs49 (by decide)) rfl (by decide) zw_1581 rfl (by rfl) ?_
      refine zr_tor ea51 ?_
      obtain ⟨le53, hs52, h⟩ := zoS_s h
      refine zr_get F 15 34 zd_MPainter_goOverFace_117 (zW_o hs52 (by decide)) rfl (by decide) zw_1418 rfl (by rfl) ?_
      refine zr_i2l F zd_MPainter_goOverFace_120 ?_
      refine zr_lmul F zd_MPainter_goOverFace_121 ?_
      refine zr_aload_n F zd_MPainter_goOverFace_122 rfl ?_
      obtain ⟨le55, hs54, h⟩ := zoS_s h
      obtain ⟨a56, ea56, h⟩ := zoB_s h
      refine zr_get F 13 23 zd_MPainter_goOverFace_123 (zW_o hs54 (by decide)) rfl (by decide) zw_1603 rfl (by rfl) ?_
      refine zr_tor ea56 ?_
      refine zr_bipushv (v := 6) F zd_MPainter_goOverFace_126 (by decide) ?_
      refine zr_iload F zd_MPainter_goOverFace_128 rfl ?_
      refine zr_pcn 130 rfl ?_
      refine zr_imul F zd_MPainter_goOverFace_130 ?_
      obtain ⟨i57, ei57, h⟩ := zoL_s h
      rw [← ei57]
      obtain ⟨le59, hs58, h⟩ := zoS_s h
      obtain ⟨hi60, h⟩ := zoI_s h
      refine zr_lald F zd_MPainter_goOverFace_131 (zW_a2 hs58) hi60 ?_
      refine zr_lmul F zd_MPainter_goOverFace_132 ?_
      refine zr_lload F zd_MPainter_goOverFace_133 rfl ?_
      obtain ⟨x61, ex61, h⟩ := zoL_s h
      rw [← ex61]
      obtain ⟨p62, ep62, h⟩ := zoB_s h
      refine zr_callS1 F (k_MPainter_div l D tA b sh _ ep62) zd_MPainter_goOverFace_135 zs_MPainter_103 zq_MPainter_div rfl rfl ⟨(Nat.le_of_ble_eq_true rfl), (Nat.le_of_ble_eq_true rfl)⟩ (Nat.le_of_ble_eq_true rfl) ⟨(Nat.le_of_ble_eq_true rfl), (Nat.le_of_ble_eq_true rfl)⟩ ?_
      refine zr_bipushv (v := 8) F zd_MPainter_goOverFace_138 (by decide) ?_
      refine zr_aload_n F zd_MPainter_goOverFace_140 rfl ?_
      obtain ⟨le64, hs63, h⟩ := zoS_s h
      refine zr_get F 13 1 zd_MPainter_goOverFace_141 (zW_o hs63 (by decide)) rfl (by decide) zw_1577 rfl (by rfl) ?_
      refine zr_pcn 144 rfl ?_
      refine zr_imul F zd_MPainter_goOverFace_144 ?_
      refine zr_i2l F zd_MPainter_goOverFace_145 ?_
      refine zr_ladd F zd_MPainter_goOverFace_146 ?_
      obtain ⟨x65, ex65, h⟩ := zoL_s h
      rw [← ex65]
      obtain ⟨le67, hs66, h⟩ := zoS_s h
      obtain ⟨hi68, h⟩ := zoI_s h
      refine zr_last F zd_MPainter_goOverFace_147 (zW_a2 hs66) hi68 ?_
      obtain ⟨mm69, emm69, h⟩ := zoL_s h
      refine zr_norm (zW tA b sh mm69) _ (by rw [emm69]; exact zW_s2 hs66) rfl ?_
      refine zr_aload_n F zd_MPainter_goOverFace_148 rfl ?_
      obtain ⟨le71, hs70, h⟩ := zoS_s h
      obtain ⟨a72, ea72, h⟩ := zoB_s h
      refine zr_get F 13 28 zd_MPainter_goOverFace_149 (zW_o hs70 (by decide)) rfl (by decide) zw_1608 rfl (by rfl) ?_
      refine zr_tor ea72 ?_
      refine zr_iload F zd_MPainter_goOverFace_152 rfl ?_
      refine zr_ldc2 F zd_MPainter_goOverFace_154 zw_2107 ?_
      refine zr_pcn 157 rfl ?_
      refine zr_aload_n F zd_MPainter_goOverFace_157 rfl ?_
      obtain ⟨le74, hs73, h⟩ := zoS_s h
      obtain ⟨a75, ea75, h⟩ := zoB_s h
      refine zr_get F 13 5 zd_MPainter_goOverFace_158 (zW_o hs73 (by decide)) rfl (by decide) zw_1581 rfl (by rfl) ?_
      refine zr_tor ea75 ?_
      obtain ⟨le77, hs76, h⟩ := zoS_s h
      refine zr_get F 15 34 zd_MPainter_goOverFace_161 (zW_o hs76 (by decide)) rfl (by decide) zw_1418 rfl (by rfl) ?_
      refine zr_i2l F zd_MPainter_goOverFace_164 ?_
      refine zr_lmul F zd_MPainter_goOverFace_165 ?_
      refine zr_aload_n F zd_MPainter_goOverFace_166 rfl ?_
      obtain ⟨le79, hs78, h⟩ := zoS_s h
      obtain ⟨a80, ea80, h⟩ := zoB_s h
      refine zr_get F 13 23 zd_MPainter_goOverFace_167 (zW_o hs78 (by decide)) rfl (by decide) zw_1603 rfl (by rfl) ?_
      refine zr_tor ea80 ?_
      refine zr_bipushv (v := 6) F zd_MPainter_goOverFace_170 (by decide) ?_
      refine zr_pcn 172 rfl ?_
      refine zr_iload F zd_MPainter_goOverFace_172 rfl ?_
      refine zr_imul F zd_MPainter_goOverFace_174 ?_
      refine zr_iconstv (v := 1) F zd_MPainter_goOverFace_175 (by decide) ?_
      refine zr_iadd F zd_MPainter_goOverFace_176 ?_
      obtain ⟨i81, ei81, h⟩ := zoL_s h
      rw [← ei81]
      obtain ⟨le83, hs82, h⟩ := zoS_s h
      obtain ⟨hi84, h⟩ := zoI_s h
      refine zr_lald F zd_MPainter_goOverFace_177 (zW_a2 hs82) hi84 ?_
      refine zr_lmul F zd_MPainter_goOverFace_178 ?_
      refine zr_lload F zd_MPainter_goOverFace_179 rfl ?_
      obtain ⟨x85, ex85, h⟩ := zoL_s h
      rw [← ex85]
      obtain ⟨p86, ep86, h⟩ := zoB_s h
      refine zr_callS1 F (k_MPainter_div l D tA b sh _ ep86) zd_MPainter_goOverFace_181 zs_MPainter_103 zq_MPainter_div rfl rfl ⟨(Nat.le_of_ble_eq_true rfl), (Nat.le_of_ble_eq_true rfl)⟩ (Nat.le_of_ble_eq_true rfl) ⟨(Nat.le_of_ble_eq_true rfl), (Nat.le_of_ble_eq_true rfl)⟩ ?_
      refine zr_pcn 184 rfl ?_
      refine zr_bipushv (v := 8) F zd_MPainter_goOverFace_184 (by decide) ?_
      refine zr_aload_n F zd_MPainter_goOverFace_186 rfl ?_
      obtain ⟨le88, hs87, h⟩ := zoS_s h
      refine zr_get F 13 2 zd_MPainter_goOverFace_187 (zW_o hs87 (by decide)) rfl (by decide) zw_1578 rfl (by rfl) ?_
      refine zr_imul F zd_MPainter_goOverFace_190 ?_
      refine zr_i2l F zd_MPainter_goOverFace_191 ?_
      refine zr_ladd F zd_MPainter_goOverFace_192 ?_
      obtain ⟨x89, ex89, h⟩ := zoL_s h
      rw [← ex89]
      obtain ⟨le91, hs90, h⟩ := zoS_s h
      obtain ⟨hi92, h⟩ := zoI_s h
      refine zr_last F zd_MPainter_goOverFace_193 (zW_a2 hs90) hi92 ?_
      obtain ⟨mm93, emm93, h⟩ := zoL_s h
      refine zr_norm (zW tA b sh mm93) _ (by rw [emm93]; exact zW_s2 hs90) rfl ?_
      refine zr_aload_n F zd_MPainter_goOverFace_194 rfl ?_
      refine zr_pcn 195 rfl ?_
      obtain ⟨le95, hs94, h⟩ := zoS_s h
      obtain ⟨a96, ea96, h⟩ := zoB_s h
      refine zr_get F 13 29 zd_MPainter_goOverFace_195 (zW_o hs94 (by decide)) rfl (by decide) zw_1609 rfl (by rfl) ?_
      refine zr_tor ea96 ?_
      refine zr_iload F zd_MPainter_goOverFace_198 rfl ?_
      refine zr_ldc2 F zd_MPainter_goOverFace_200 zw_2108 ?_
      refine zr_lload F zd_MPainter_goOverFace_203 rfl ?_
      obtain ⟨p97, ep97, h⟩ := zoB_s h
      refine zr_callS1 F (k_MPainter_div l D tA b sh _ ep97) zd_MPainter_goOverFace_205 zs_MPainter_103 zq_MPainter_div rfl rfl ⟨(Nat.le_of_ble_eq_true rfl), (Nat.le_of_ble_eq_true rfl)⟩ (Nat.le_of_ble_eq_true rfl) ⟨(Nat.le_of_ble_eq_true rfl), (Nat.le_of_ble_eq_true rfl)⟩ ?_
      obtain ⟨le99, hs98, h⟩ := zoS_s h
      obtain ⟨hi100, h⟩ := zoI_s h
      refine zr_last F zd_MPainter_goOverFace_208 (zW_a2 hs98) hi100 ?_
      obtain ⟨mm101, emm101, h⟩ := zoL_s h
      refine zr_norm (zW tA b sh mm101) _ (by rw [emm101]; exact zW_s2 hs98) rfl ?_
      refine zr_iinc (v := (v4 + 1)) F zd_MPainter_goOverFace_209 rfl rfl (by decide) ?_
      refine zr_goto F 81 zd_MPainter_goOverFace_212 (by decide) ?_
      refine zr_loc (L' := [(0, .ref (b + v0)), (1, .int v1), (2, .int v2), (4, .int (v4 + 1))]) ⟨rfl, rfl, rfl, rfl, trivial⟩ ?_
      exact ih _ _ _ _ _ _ h hx0
theorem zw_2109 : (Jvm.Cond.methodLink "OrreryBoxModel$Painter" (254 : Nat) ({ cls := "OrreryBoxModel$Painter", name := "goOverPiece", desc := "(III)V" } : Jvm.MethodName)) ∈ gw := gw_t 2109 (by decide +kernel) rfl
theorem zw_2111 : (Jvm.Cond.instanceMethod ({ cls := "OrreryBoxModel$Painter", name := "goOverPiece", desc := "(III)V" } : Jvm.MethodName)) ∈ gw := gw_t 2111 (by decide +kernel) rfl
theorem zv_107 : (Jvm.Cond.selects "OrreryBoxModel$Painter" (⟨"OrreryBoxModel$Painter", "goOverPiece", "(III)V"⟩ : MethodName) ⟨"OrreryBoxModel$Painter", "goOverPiece", "(III)V"⟩) ∈ gw := gw_s 107 (by decide +kernel) rfl
theorem zs_MPainter_254 : zwV "OrreryBoxModel$Painter" 254 "OrreryBoxModel$Painter" zy_MPainter_goOverPiece zb_MPainter_goOverPiece 10 none := ⟨zw_2109, zw_2111, zv_107, zw_17, zc_MPainter_goOverPiece⟩
def L_MPainter_goOverFace_218 (sh : zSh) (fuel : Nat) (v0 : Nat) (v1 : Int32) (v2 : Int32) (v4 : Int32) (mm : zMem) : Option (Nat × Int32 × Int32 × Int32 × zMem) := match fuel with
  | 0 => none
  | fu + 1 => zoS (sh v0) 13 (fun le104 => (if (mm.1 v0 26) ≤ (v4 + 1) then some (v0, v1, v2, v4, mm) else zoS (sh v0) 13 (fun le107 => Option.bind (F_MPainter_goOverPiece sh mm v0 v1 v2 v4) (fun p108 => L_MPainter_goOverFace_218 sh fu v0 v1 v2 (v4 + 1) p108))))
set_option maxHeartbeats 4000000 in
set_option maxRecDepth 100000 in
theorem lp_MPainter_goOverFace_218 {p : Program} {l : Launch} {e : Env} {s : State} {m : MethodId} {args : Array Value} {below : List Frame} {meth : Method} {c : Code} {D : va_G} {tA : Nat → ClassId} {b n : Nat} {post : Option Value → zV → Nat → Prop} {sh : zSh} (F : zF p s m args meth c zb_MPainter_goOverFace 7 "OrreryBoxModel$Painter" D tA b) : ∀ (fuel : Nat) (v0 : Nat) (v1 : Int32) (v2 : Int32) (v4 : Int32) (mm : zMem) (r : Nat × Int32 × Int32 × Int32 × zMem), L_MPainter_goOverFace_218 sh fuel v0 v1 v2 v4 mm = some r → (Z p l e { frames := 7, cells := 0, slots := 0, locals := 242 } s m args below meth c D b 7 (MQ below (zQ D b post) args s 0 0 (fun q => b ≤ q)) (zW tA b sh r.2.2.2.2) n 0 0 243 [(0, .ref (b + (r.1))), (1, .int (r.2.1)), (2, .int (r.2.2.1)), (4, .int (r.2.2.2.1))] []) → Z p l e { frames := 7, cells := 0, slots := 0, locals := 242 } s m args below meth c D b 7 (MQ below (zQ D b post) args s 0 0 (fun q => b ≤ q)) (zW tA b sh mm) n 0 0 218 [(0, .ref (b + v0)), (1, .int v1), (2, .int v2), (4, .int v4)] [] := by
  intro fuel
  induction fuel with
  | zero =>
    intro v0 v1 v2 v4 mm r h
    cases h
  | succ fu ih =>
    intro v0 v1 v2 v4 mm r h hx0
    rw [L_MPainter_goOverFace_218] at h
    refine zr_iload F zd_MPainter_goOverFace_218 rfl ?_
    refine zr_iconstv (v := 1) F zd_MPainter_goOverFace_220 (by decide) ?_
    refine zr_iadd F zd_MPainter_goOverFace_221 ?_
    refine zr_aload_n F zd_MPainter_goOverFace_222 rfl ?_
    obtain ⟨le104, hs103, h⟩ := zoS_s h
    refine zr_get F 13 26 zd_MPainter_goOverFace_223 (zW_o hs103 (by decide)) rfl (by decide) zw_1606 rfl (by rfl) ?_
    refine zr_icmp_ge F 243 zd_MPainter_goOverFace_226 (by decide) (fun hb105 => ?_) (fun hb105 => ?_)
    ·
      replace h := (if_pos hb105).symm.trans h
      obtain rfl := Option.some.inj h
      refine zr_loc (L' := [(0, .ref (b + v0)), (1, .int v1), (2, .int v2), (4, .int v4)]) ⟨rfl, rfl, rfl, rfl, trivial⟩ ?_
      exact hx0 
    ·
      replace h := (if_neg hb105).symm.trans h
      refine zr_pcn 229 rfl ?_
      refine zr_aload_n F zd_MPainter_goOverFace_229 rfl ?_
      refine zr_iload_n F zd_MPainter_goOverFace_230 rfl ?_
      refine zr_iload_n F zd_MPainter_goOverFace_231 rfl ?_
      refine zr_iload F zd_MPainter_goOverFace_232 rfl ?_
      obtain ⟨le107, hs106, h⟩ := zoS_s h
      obtain ⟨p108, ep108, h⟩ := zoB_s h
      refine zr_callV0 F (k_MPainter_goOverPiece l D tA b sh _ ep108) zd_MPainter_goOverFace_234 (zW_o hs106 (by decide)) rfl zs_MPainter_254 rfl zq_MPainter_goOverPiece rfl rfl ⟨(Nat.le_of_ble_eq_true rfl), (Nat.le_of_ble_eq_true rfl)⟩ (Nat.le_of_ble_eq_true rfl) ⟨(Nat.le_of_ble_eq_true rfl), (Nat.le_of_ble_eq_true rfl)⟩ ?_
      refine zr_iinc (v := (v4 + 1)) F zd_MPainter_goOverFace_237 rfl rfl (by decide) ?_
      refine zr_goto F 218 zd_MPainter_goOverFace_240 (by decide) ?_
      refine zr_loc (L' := [(0, .ref (b + v0)), (1, .int v1), (2, .int v2), (4, .int (v4 + 1))]) ⟨rfl, rfl, rfl, rfl, trivial⟩ ?_
      exact ih _ _ _ _ _ _ h hx0
def F_MPainter_goOverFace (sh : zSh) (mm : zMem) (o : Nat) (x0_ : Int32) (x1_ : Int32) : Option zMem := zoS (sh o) 13 (fun le2 => Option.bind (mm.2.2 o 5) (fun a3 => zoS (sh a3) 15 (fun le5 => Option.bind (mm.2.2 a3 20) (fun a6 => zoS (sh a6) 100 (fun le8 => if (x0_ : Int32) < 0 ∨ le8 ≤ (x0_ : Int32).toNatClampNeg then none else zoL (mm.1 a6 (x0_ : Int32).toNatClampNeg) (fun x10 => Option.bind (L_MPainter_goOverFace_13 sh zfuel o x0_ x1_ x10 0 mm) (fun q26 => zoS (sh (q26.1)) 13 (fun le28 => zoL (mI (q26.2.2.2.2.2) (q26.1) 26 3) (fun mm29 => Option.bind (L_MPainter_goOverFace_60 sh zfuel (q26.1) (q26.2.1) (q26.2.2.1) 0 mm29) (fun q34 => Option.bind (L_MPainter_goOverFace_81 sh zfuel (q34.1) (q34.2.1) (q34.2.2.1) 0 (q34.2.2.2.2)) (fun q102 => Option.bind (L_MPainter_goOverFace_218 sh zfuel (q102.1) (q102.2.1) (q102.2.2.1) 1 (q102.2.2.2.2)) (fun q109 => some (q109.2.2.2.2)))))))))))))
set_option maxHeartbeats 4000000 in
set_option maxRecDepth 100000 in
theorem k_MPainter_goOverFace (l : Launch) (D : va_G) (tA : Nat → ClassId) (b : Nat) (sh : zSh) (n : Nat) {mm : zMem} {o : Nat} {x0_ : Int32} {x1_ : Int32} {r : zMem} (h : F_MPainter_goOverFace sh mm o x0_ x1_ = some r) : zM l D tA b zy_MPainter_goOverFace zb_MPainter_goOverFace 7 none 7 242 0 0 [.ref (b + o), .int x0_, .int x1_] (zW tA b sh mm) n (zE none (zW tA b sh r) n) := by
  unfold F_MPainter_goOverFace at h
  refine zM_of (own := "OrreryBoxModel$Painter") (plainFor_of_name (by decide)) rfl (Nat.le_of_ble_eq_true rfl) (fun p e s m below meth c F hr hin hH => ?_)
  refine zr_aload_n F zd_MPainter_goOverFace_0 rfl ?_
  obtain ⟨le2, hs1, h⟩ := zoS_s h
  obtain ⟨a3, ea3, h⟩ := zoB_s h
  refine zr_get F 13 5 zd_MPainter_goOverFace_1 (zW_o hs1 (by decide)) rfl (by decide) zw_1581 rfl (by rfl) ?_
  refine zr_tor ea3 ?_
  obtain ⟨le5, hs4, h⟩ := zoS_s h
  obtain ⟨a6, ea6, h⟩ := zoB_s h
  refine zr_get F 15 20 zd_MPainter_goOverFace_4 (zW_o hs4 (by decide)) rfl (by decide) zw_1377 rfl (by rfl) ?_
  refine zr_tor ea6 ?_
  refine zr_iload_n F zd_MPainter_goOverFace_7 rfl ?_
  obtain ⟨le8, hs7, h⟩ := zoS_s h
  obtain ⟨hi9, h⟩ := zoI_s h
  refine zr_iald F zd_MPainter_goOverFace_8 (zW_a0 hs7) hi9 ?_
  obtain ⟨x10, ex10, h⟩ := zoL_s h
  rw [← ex10]
  refine zr_istore_n F zd_MPainter_goOverFace_9 (by decide) ?_
  refine zr_iconstv (v := 0) F zd_MPainter_goOverFace_10 (by decide) ?_
  refine zr_pcn 11 rfl ?_
  refine zr_istore F zd_MPainter_goOverFace_11 (by decide) ?_
  obtain ⟨q26, eq26, h⟩ := zoB_s h
  refine zr_loc (L' := [(0, .ref (b + o)), (1, .int x0_), (2, .int x1_), (3, .int x10), (4, .int 0)]) ⟨rfl, rfl, rfl, rfl, rfl, trivial⟩ ?_
  refine lp_MPainter_goOverFace_13 F _ _ _ _ _ _ _ _ eq26 ?_
  ·
    refine zr_aload_n F zd_MPainter_goOverFace_52 rfl ?_
    refine zr_pcn 53 rfl ?_
    refine zr_iconstv (v := 3) F zd_MPainter_goOverFace_53 (by decide) ?_
    obtain ⟨le28, hs27, h⟩ := zoS_s h
    refine zr_put F 13 26 zd_MPainter_goOverFace_54 (zW_o hs27 (by decide)) rfl (by decide) zw_1606 rfl rfl rfl rfl (by exact (Nat.le_of_ble_eq_true rfl)) ?_
    obtain ⟨mm29, emm29, h⟩ := zoL_s h
    refine zr_norm (zW tA b sh mm29) _ (by rw [emm29]; exact zW_pI (v := 3) hs27 (by decide) (zf_I_13_26 b _ _ _)) rfl ?_
    refine zr_iconstv (v := 0) F zd_MPainter_goOverFace_57 (by decide) ?_
    refine zr_istore F zd_MPainter_goOverFace_58 (by decide) ?_
    refine zr_loc (L' := [(0, .ref (b + (q26.1))), (1, .int (q26.2.1)), (2, .int (q26.2.2.1)), (4, .int 0)]) ⟨rfl, rfl, rfl, rfl, trivial⟩ ?_
    obtain ⟨q34, eq34, h⟩ := zoB_s h
    refine zr_loc (L' := [(0, .ref (b + (q26.1))), (1, .int (q26.2.1)), (2, .int (q26.2.2.1)), (4, .int 0)]) ⟨rfl, rfl, rfl, rfl, trivial⟩ ?_
    refine lp_MPainter_goOverFace_60 F _ _ _ _ _ _ _ eq34 ?_
    ·
      refine zr_iconstv (v := 0) F zd_MPainter_goOverFace_78 (by decide) ?_
      refine zr_istore F zd_MPainter_goOverFace_79 (by decide) ?_
      obtain ⟨q102, eq102, h⟩ := zoB_s h
      refine zr_loc (L' := [(0, .ref (b + (q34.1))), (1, .int (q34.2.1)), (2, .int (q34.2.2.1)), (4, .int 0)]) ⟨rfl, rfl, rfl, rfl, trivial⟩ ?_
      refine lp_MPainter_goOverFace_81 F _ _ _ _ _ _ _ eq102 ?_
      ·
        refine zr_pcn 215 rfl ?_
        refine zr_iconstv (v := 1) F zd_MPainter_goOverFace_215 (by decide) ?_
        refine zr_istore F zd_MPainter_goOverFace_216 (by decide) ?_
        obtain ⟨q109, eq109, h⟩ := zoB_s h
        refine zr_loc (L' := [(0, .ref (b + (q102.1))), (1, .int (q102.2.1)), (2, .int (q102.2.2.1)), (4, .int 1)]) ⟨rfl, rfl, rfl, rfl, trivial⟩ ?_
        refine lp_MPainter_goOverFace_218 F _ _ _ _ _ _ _ eq109 ?_
        ·
          obtain rfl := Option.some.inj h
          exact zr_vret F hr zd_MPainter_goOverFace_243 (Nat.le_of_ble_eq_true rfl) (Nat.le_of_ble_eq_true rfl) ⟨rfl, rfl, rfl⟩
theorem zw_759 : (Jvm.Cond.methodLink "OrreryBox" (171 : Nat) ({ cls := "OrreryBox$Sight", name := "materialNumber", desc := "()I" } : Jvm.MethodName)) ∈ gw := gw_t 759 (by decide +kernel) rfl
theorem zs_OB_171 : zwV "OrreryBox" 171 "OrreryBox$Sight" zy_XSight_materialNumber zb_XSight_materialNumber 1 (some .int) := ⟨zw_759, zw_747, zw_748, zw_10, zc_XSight_materialNumber⟩
theorem zw_760 : (Jvm.Cond.methodLink "OrreryBox" (175 : Nat) ({ cls := "OrreryBox$Picture", name := "keep", desc := "(LOrreryBox$Piece;I)V" } : Jvm.MethodName)) ∈ gw := gw_t 760 (by decide +kernel) rfl
theorem zw_761 : (Jvm.Cond.instanceMethod ({ cls := "OrreryBox$Picture", name := "keep", desc := "(LOrreryBox$Piece;I)V" } : Jvm.MethodName)) ∈ gw := gw_t 761 (by decide +kernel) rfl
theorem zw_762 : (Jvm.Cond.selects "OrreryBox$Picture" ({ cls := "OrreryBox$Picture", name := "keep", desc := "(LOrreryBox$Piece;I)V" } : Jvm.MethodName) ({ cls := "OrreryBox$Picture", name := "keep", desc := "(LOrreryBox$Piece;I)V" } : Jvm.MethodName)) ∈ gw := gw_t 762 (by decide +kernel) rfl
theorem zs_OB_175 : zwV "OrreryBox" 175 "OrreryBox$Picture" zy_XPicture_keep zb_XPicture_keep 3 none := ⟨zw_760, zw_761, zw_762, zw_12, zc_XPicture_keep⟩
def L_OB_begin_35 (sh : zSh) (fuel : Nat) (v0 : Nat) (v1 : Int32) (mm : zMem) : Option (Nat × Int32 × zMem) := match fuel with
  | 0 => none
  | fu + 1 => (if 36864 ≤ v1 then some (v0, v1, mm) else zoS (sh v0) 0 (fun le29 => Option.bind (mm.2.2 v0 7) (fun a30 => zoS (sh a30) 9 (fun le32 => Option.bind (F_XSight_nextPiece sh mm a30) (fun p33 => (if p33.1 = 0 then some (v0, v1, p33.2) else zoS (sh v0) 0 (fun le36 => Option.bind ((p33.2).2.2 v0 8) (fun a37 => zoS (sh v0) 0 (fun le39 => Option.bind ((p33.2).2.2 v0 7) (fun a40 => zoS (sh a40) 9 (fun le42 => Option.bind ((p33.2).2.2 a40 0) (fun a43 => zoS (sh v0) 0 (fun le45 => Option.bind ((p33.2).2.2 v0 7) (fun a46 => zoS (sh a46) 9 (fun le48 => Option.bind (F_XSight_materialNumber sh (p33.2) a46) (fun p49 => zoS (sh a37) 5 (fun le51 => Option.bind (F_XPicture_keep sh (p49.2) a37 a43 (p49.1)) (fun p52 => L_OB_begin_35 sh fu v0 (v1 + 1) p52))))))))))))))))))
set_option maxHeartbeats 4000000 in
set_option maxRecDepth 100000 in
theorem lp_OB_begin_35 {p : Program} {l : Launch} {e : Env} {s : State} {m : MethodId} {args : Array Value} {below : List Frame} {meth : Method} {c : Code} {D : va_G} {tA : Nat → ClassId} {b n : Nat} {post : Option Value → zV → Nat → Prop} {sh : zSh} (F : zF p s m args meth c zb_OB_begin 2 "OrreryBox" D tA b) : ∀ (fuel : Nat) (v0 : Nat) (v1 : Int32) (mm : zMem) (r : Nat × Int32 × zMem), L_OB_begin_35 sh fuel v0 v1 mm = some r → (Z p l e { frames := 6, cells := 0, slots := 0, locals := 155 } s m args below meth c D b 2 (MQ below (zQ D b post) args s 0 0 (fun q => b ≤ q)) (zW tA b sh r.2.2) n 0 0 78 [(0, .ref (b + (r.1))), (1, .int (r.2.1))] []) → Z p l e { frames := 6, cells := 0, slots := 0, locals := 155 } s m args below meth c D b 2 (MQ below (zQ D b post) args s 0 0 (fun q => b ≤ q)) (zW tA b sh mm) n 0 0 35 [(0, .ref (b + v0)), (1, .int v1)] [] := by
  intro fuel
  induction fuel with
  | zero =>
    intro v0 v1 mm r h
    cases h
  | succ fu ih =>
    intro v0 v1 mm r h hx0
    rw [L_OB_begin_35] at h
    refine zr_iload_n F zd_OB_begin_35 rfl ?_
    refine zr_ldc F zd_OB_begin_36 zw_696 ?_
    refine zr_icmp_ge F 78 zd_OB_begin_38 (by decide) (fun hb27 => ?_) (fun hb27 => ?_)
    ·
      replace h := (if_pos hb27).symm.trans h
      obtain rfl := Option.some.inj h
      refine zr_loc (L' := [(0, .ref (b + v0)), (1, .int v1)]) ⟨rfl, rfl, trivial⟩ ?_
      exact hx0 
    ·
      replace h := (if_neg hb27).symm.trans h
      refine zr_aload_n F zd_OB_begin_41 rfl ?_
      obtain ⟨le29, hs28, h⟩ := zoS_s h
      obtain ⟨a30, ea30, h⟩ := zoB_s h
      refine zr_get F 0 7 zd_OB_begin_42 (zW_o hs28 (by decide)) rfl (by decide) zw_495 rfl (by rfl) ?_
      refine zr_tor ea30 ?_
      obtain ⟨le32, hs31, h⟩ := zoS_s h
      obtain ⟨p33, ep33, h⟩ := zoB_s h
      refine zr_callV1 F (k_XSight_nextPiece l D tA b sh _ ep33) zd_OB_begin_45 (zW_o hs31 (by decide)) rfl zs_OB_163 rfl zq_XSight_nextPiece rfl rfl ⟨(Nat.le_of_ble_eq_true rfl), (Nat.le_of_ble_eq_true rfl)⟩ (Nat.le_of_ble_eq_true rfl) ⟨(Nat.le_of_ble_eq_true rfl), (Nat.le_of_ble_eq_true rfl)⟩ ?_
      refine zr_pcn 48 rfl ?_
      refine zr_if_eq F 78 zd_OB_begin_48 (by decide) (fun hb34 => ?_) (fun hb34 => ?_)
      ·
        replace h := (if_pos hb34).symm.trans h
        obtain rfl := Option.some.inj h
        refine zr_loc (L' := [(0, .ref (b + v0)), (1, .int v1)]) ⟨rfl, rfl, trivial⟩ ?_
        exact hx0 
      ·
        replace h := (if_neg hb34).symm.trans h
        refine zr_aload_n F zd_OB_begin_51 rfl ?_
        obtain ⟨le36, hs35, h⟩ := zoS_s h
        obtain ⟨a37, ea37, h⟩ := zoB_s h
        refine zr_get F 0 8 zd_OB_begin_52 (zW_o hs35 (by decide)) rfl (by decide) zw_496 rfl (by rfl) ?_
        refine zr_tor ea37 ?_
        refine zr_aload_n F zd_OB_begin_55 rfl ?_
        obtain ⟨le39, hs38, h⟩ := zoS_s h
        obtain ⟨a40, ea40, h⟩ := zoB_s h
        refine zr_get F 0 7 zd_OB_begin_56 (zW_o hs38 (by decide)) rfl (by decide) zw_495 rfl (by rfl) ?_
        refine zr_tor ea40 ?_
        obtain ⟨le42, hs41, h⟩ := zoS_s h
        obtain ⟨a43, ea43, h⟩ := zoB_s h
        refine zr_get F 9 0 zd_OB_begin_59 (zW_o hs41 (by decide)) rfl (by decide) zw_372 rfl (by rfl) ?_
        refine zr_tor ea43 ?_
        refine zr_aload_n F zd_OB_begin_62 rfl ?_
        obtain ⟨le45, hs44, h⟩ := zoS_s h
        obtain ⟨a46, ea46, h⟩ := zoB_s h
        refine zr_get F 0 7 zd_OB_begin_63 (zW_o hs44 (by decide)) rfl (by decide) zw_495 rfl (by rfl) ?_
        refine zr_tor ea46 ?_
        refine zr_pcn 66 rfl ?_
        obtain ⟨le48, hs47, h⟩ := zoS_s h
        obtain ⟨p49, ep49, h⟩ := zoB_s h
        refine zr_callV1 F (k_XSight_materialNumber l D tA b sh _ ep49) zd_OB_begin_66 (zW_o hs47 (by decide)) rfl zs_OB_171 rfl zq_XSight_materialNumber rfl rfl ⟨(Nat.le_of_ble_eq_true rfl), (Nat.le_of_ble_eq_true rfl)⟩ (Nat.le_of_ble_eq_true rfl) ⟨(Nat.le_of_ble_eq_true rfl), (Nat.le_of_ble_eq_true rfl)⟩ ?_
        obtain ⟨le51, hs50, h⟩ := zoS_s h
        obtain ⟨p52, ep52, h⟩ := zoB_s h
        refine zr_callV0 F (k_XPicture_keep l D tA b sh _ ep52) zd_OB_begin_69 (zW_o hs50 (by decide)) rfl zs_OB_175 rfl zq_XPicture_keep rfl rfl ⟨(Nat.le_of_ble_eq_true rfl), (Nat.le_of_ble_eq_true rfl)⟩ (Nat.le_of_ble_eq_true rfl) ⟨(Nat.le_of_ble_eq_true rfl), (Nat.le_of_ble_eq_true rfl)⟩ ?_
        refine zr_iinc (v := (v1 + 1)) F zd_OB_begin_72 rfl rfl (by decide) ?_
        refine zr_goto F 35 zd_OB_begin_75 (by decide) ?_
        refine zr_loc (L' := [(0, .ref (b + v0)), (1, .int (v1 + 1))]) ⟨rfl, rfl, trivial⟩ ?_
        exact ih _ _ _ _ h hx0
def F_OB_begin (sh : zSh) (mm : zMem) (o : Nat) : Option (Int32 × zMem) := zoS (sh o) 0 (fun le2 => Option.bind (mm.2.2 o 5) (fun a3 => zoS (sh a3) 8 (fun le5 => Option.bind (F_XScene_placeNodes sh mm a3) (fun p6 => zoS (sh o) 0 (fun le8 => Option.bind (p6.2.2 o 7) (fun a9 => zoS (sh o) 0 (fun le11 => Option.bind (p6.2.2 o 5) (fun a12 => zoS (sh a9) 9 (fun le14 => Option.bind (F_XSight_stand sh p6 a9 a12) (fun p15 => zoS (sh o) 0 (fun le17 => Option.bind (p15.2.2 o 8) (fun a18 => zoS (sh o) 0 (fun le20 => Option.bind (p15.2.2 o 5) (fun a21 => zoS (sh o) 0 (fun le23 => zoS (sh a18) 5 (fun le25 => Option.bind (F_XPicture_start sh p15 a18 a21 (p15.1 o 10)) (fun p26 => Option.bind (L_OB_begin_35 sh zfuel o 0 p26) (fun q53 => zoS (sh (q53.1)) 0 (fun le55 => Option.bind ((q53.2.2).2.2 (q53.1) 8) (fun a56 => zoS (sh a56) 5 (fun le58 => some (((q53.2.2).1 a56 0), q53.2.2))))))))))))))))))))))
set_option maxHeartbeats 4000000 in
set_option maxRecDepth 100000 in
theorem k_OB_begin (l : Launch) (D : va_G) (tA : Nat → ClassId) (b : Nat) (sh : zSh) (n : Nat) {mm : zMem} {o : Nat} {r : (Int32 × zMem)} (h : F_OB_begin sh mm o = some r) : zM l D tA b zy_OB_begin zb_OB_begin 2 (some .int) 6 155 0 0 [.ref (b + o)] (zW tA b sh mm) n (zE (some (.int (r.1))) (zW tA b sh r.2) n) := by
  unfold F_OB_begin at h
  refine zM_of (own := "OrreryBox") (plainFor_of_name (by decide)) rfl (Nat.le_of_ble_eq_true rfl) (fun p e s m below meth c F hr hin hH => ?_)
  refine zr_aload_n F zd_OB_begin_0 rfl ?_
  obtain ⟨le2, hs1, h⟩ := zoS_s h
  obtain ⟨a3, ea3, h⟩ := zoB_s h
  refine zr_get F 0 5 zd_OB_begin_1 (zW_o hs1 (by decide)) rfl (by decide) zw_493 rfl (by rfl) ?_
  refine zr_tor ea3 ?_
  obtain ⟨le5, hs4, h⟩ := zoS_s h
  obtain ⟨p6, ep6, h⟩ := zoB_s h
  refine zr_callV0 F (k_XScene_placeNodes l D tA b sh _ ep6) zd_OB_begin_4 (zW_o hs4 (by decide)) rfl zs_OB_148 rfl zq_XScene_placeNodes rfl rfl ⟨(Nat.le_of_ble_eq_true rfl), (Nat.le_of_ble_eq_true rfl)⟩ (Nat.le_of_ble_eq_true rfl) ⟨(Nat.le_of_ble_eq_true rfl), (Nat.le_of_ble_eq_true rfl)⟩ ?_
  refine zr_aload_n F zd_OB_begin_7 rfl ?_
  obtain ⟨le8, hs7, h⟩ := zoS_s h
  obtain ⟨a9, ea9, h⟩ := zoB_s h
  refine zr_get F 0 7 zd_OB_begin_8 (zW_o hs7 (by decide)) rfl (by decide) zw_495 rfl (by rfl) ?_
  refine zr_tor ea9 ?_
  refine zr_aload_n F zd_OB_begin_11 rfl ?_
  obtain ⟨le11, hs10, h⟩ := zoS_s h
  obtain ⟨a12, ea12, h⟩ := zoB_s h
  refine zr_get F 0 5 zd_OB_begin_12 (zW_o hs10 (by decide)) rfl (by decide) zw_493 rfl (by rfl) ?_
  refine zr_tor ea12 ?_
  refine zr_pcn 15 rfl ?_
  obtain ⟨le14, hs13, h⟩ := zoS_s h
  obtain ⟨p15, ep15, h⟩ := zoB_s h
  refine zr_callV0 F (k_XSight_stand l D tA b sh _ ep15) zd_OB_begin_15 (zW_o hs13 (by decide)) rfl zs_OB_154 rfl zq_XSight_stand rfl rfl ⟨(Nat.le_of_ble_eq_true rfl), (Nat.le_of_ble_eq_true rfl)⟩ (Nat.le_of_ble_eq_true rfl) ⟨(Nat.le_of_ble_eq_true rfl), (Nat.le_of_ble_eq_true rfl)⟩ ?_
  refine zr_aload_n F zd_OB_begin_18 rfl ?_
  obtain ⟨le17, hs16, h⟩ := zoS_s h
  obtain ⟨a18, ea18, h⟩ := zoB_s h
  refine zr_get F 0 8 zd_OB_begin_19 (zW_o hs16 (by decide)) rfl (by decide) zw_496 rfl (by rfl) ?_
  refine zr_tor ea18 ?_
  refine zr_aload_n F zd_OB_begin_22 rfl ?_
  obtain ⟨le20, hs19, h⟩ := zoS_s h
  obtain ⟨a21, ea21, h⟩ := zoB_s h
  refine zr_get F 0 5 zd_OB_begin_23 (zW_o hs19 (by decide)) rfl (by decide) zw_493 rfl (by rfl) ?_
  refine zr_tor ea21 ?_
  refine zr_aload_n F zd_OB_begin_26 rfl ?_
  obtain ⟨le23, hs22, h⟩ := zoS_s h
  refine zr_get F 0 10 zd_OB_begin_27 (zW_o hs22 (by decide)) rfl (by decide) zw_498 rfl (by rfl) ?_
  obtain ⟨le25, hs24, h⟩ := zoS_s h
  obtain ⟨p26, ep26, h⟩ := zoB_s h
  refine zr_callV0 F (k_XPicture_start l D tA b sh _ ep26) zd_OB_begin_30 (zW_o hs24 (by decide)) rfl zs_OB_158 rfl zq_XPicture_start rfl rfl ⟨(Nat.le_of_ble_eq_true rfl), (Nat.le_of_ble_eq_true rfl)⟩ (Nat.le_of_ble_eq_true rfl) ⟨(Nat.le_of_ble_eq_true rfl), (Nat.le_of_ble_eq_true rfl)⟩ ?_
  refine zr_pcn 33 rfl ?_
  refine zr_iconstv (v := 0) F zd_OB_begin_33 (by decide) ?_
  refine zr_istore_n F zd_OB_begin_34 (by decide) ?_
  obtain ⟨q53, eq53, h⟩ := zoB_s h
  refine zr_loc (L' := [(0, .ref (b + o)), (1, .int 0)]) ⟨rfl, rfl, trivial⟩ ?_
  refine lp_OB_begin_35 F _ _ _ _ _ eq53 ?_
  ·
    refine zr_aload_n F zd_OB_begin_78 rfl ?_
    obtain ⟨le55, hs54, h⟩ := zoS_s h
    obtain ⟨a56, ea56, h⟩ := zoB_s h
    refine zr_get F 0 8 zd_OB_begin_79 (zW_o hs54 (by decide)) rfl (by decide) zw_496 rfl (by rfl) ?_
    refine zr_tor ea56 ?_
    obtain ⟨le58, hs57, h⟩ := zoS_s h
    refine zr_get F 5 0 zd_OB_begin_82 (zW_o hs57 (by decide)) rfl (by decide) zw_430 rfl (by rfl) ?_
    obtain rfl := Option.some.inj h
    exact zr_iret F hr zd_OB_begin_85 (Nat.le_of_ble_eq_true rfl) (Nat.le_of_ble_eq_true rfl) ⟨rfl, rfl, rfl⟩
