abbrev zb_XPicture_drawPiece : ByteArray := prog_6_method_9_code
def zy_XPicture_drawPiece : MethodName := ⟨"OrreryBox$Picture", "drawPiece", "([I)V"⟩
theorem zc_XPicture_drawPiece : Cond.code zy_XPicture_drawPiece zb_XPicture_drawPiece 12 none ∈ gw := gw_t 792 (by decide +kernel) rfl
theorem zq_XPicture_drawPiece : zy_XPicture_drawPiece.cls ≠ "java/lang/invoke/MethodHandle" ∧ zy_XPicture_drawPiece.cls ≠ "java/lang/invoke/VarHandle" ∧ (parseMethodDescriptor zy_XPicture_drawPiece.desc).map (fun d => d.parameters.length) = some 1 := by decide +kernel
theorem zd_XPicture_drawPiece_0 : decode zb_XPicture_drawPiece 0 = .ok (.aload_n 0, 1) := by decide +kernel
theorem zd_XPicture_drawPiece_1 : decode zb_XPicture_drawPiece 1 = .ok (.getfield 69, 3) := by decide +kernel
theorem zd_XPicture_drawPiece_4 : decode zb_XPicture_drawPiece 4 = .ok (.aload_n 0, 1) := by decide +kernel
theorem zd_XPicture_drawPiece_5 : decode zb_XPicture_drawPiece 5 = .ok (.getfield 24, 3) := by decide +kernel
theorem zd_XPicture_drawPiece_8 : decode zb_XPicture_drawPiece 8 = .ok (.iconst 0, 1) := by decide +kernel
theorem zd_XPicture_drawPiece_9 : decode zb_XPicture_drawPiece 9 = .ok (.invokevirtual 103, 3) := by decide +kernel
theorem zd_XPicture_drawPiece_12 : decode zb_XPicture_drawPiece 12 = .ok (.invokestatic 107, 3) := by decide +kernel
theorem zd_XPicture_drawPiece_15 : decode zb_XPicture_drawPiece 15 = .ok (.istore_n 2, 1) := by decide +kernel
theorem zd_XPicture_drawPiece_16 : decode zb_XPicture_drawPiece 16 = .ok (.aload_n 0, 1) := by decide +kernel
theorem zd_XPicture_drawPiece_17 : decode zb_XPicture_drawPiece 17 = .ok (.getfield 81, 3) := by decide +kernel
theorem zd_XPicture_drawPiece_20 : decode zb_XPicture_drawPiece 20 = .ok (.aload_n 0, 1) := by decide +kernel
theorem zd_XPicture_drawPiece_21 : decode zb_XPicture_drawPiece 21 = .ok (.getfield 24, 3) := by decide +kernel
theorem zd_XPicture_drawPiece_24 : decode zb_XPicture_drawPiece 24 = .ok (.iconst 0, 1) := by decide +kernel
theorem zd_XPicture_drawPiece_25 : decode zb_XPicture_drawPiece 25 = .ok (.invokevirtual 110, 3) := by decide +kernel
theorem zd_XPicture_drawPiece_28 : decode zb_XPicture_drawPiece 28 = .ok (.invokestatic 75, 3) := by decide +kernel
theorem zd_XPicture_drawPiece_31 : decode zb_XPicture_drawPiece 31 = .ok (.istore_n 3, 1) := by decide +kernel
theorem zd_XPicture_drawPiece_32 : decode zb_XPicture_drawPiece 32 = .ok (.aload_n 0, 1) := by decide +kernel
theorem zd_XPicture_drawPiece_33 : decode zb_XPicture_drawPiece 33 = .ok (.getfield 72, 3) := by decide +kernel
theorem zd_XPicture_drawPiece_36 : decode zb_XPicture_drawPiece 36 = .ok (.aload_n 0, 1) := by decide +kernel
theorem zd_XPicture_drawPiece_37 : decode zb_XPicture_drawPiece 37 = .ok (.getfield 24, 3) := by decide +kernel
theorem zd_XPicture_drawPiece_40 : decode zb_XPicture_drawPiece 40 = .ok (.iconst 1, 1) := by decide +kernel
theorem zd_XPicture_drawPiece_41 : decode zb_XPicture_drawPiece 41 = .ok (.invokevirtual 103, 3) := by decide +kernel
theorem zd_XPicture_drawPiece_44 : decode zb_XPicture_drawPiece 44 = .ok (.invokestatic 107, 3) := by decide +kernel
theorem zd_XPicture_drawPiece_47 : decode zb_XPicture_drawPiece 47 = .ok (.istore 4, 2) := by decide +kernel
theorem zd_XPicture_drawPiece_49 : decode zb_XPicture_drawPiece 49 = .ok (.aload_n 0, 1) := by decide +kernel
theorem zd_XPicture_drawPiece_50 : decode zb_XPicture_drawPiece 50 = .ok (.getfield 84, 3) := by decide +kernel
theorem zd_XPicture_drawPiece_53 : decode zb_XPicture_drawPiece 53 = .ok (.aload_n 0, 1) := by decide +kernel
theorem zd_XPicture_drawPiece_54 : decode zb_XPicture_drawPiece 54 = .ok (.getfield 24, 3) := by decide +kernel
theorem zd_XPicture_drawPiece_57 : decode zb_XPicture_drawPiece 57 = .ok (.iconst 1, 1) := by decide +kernel
theorem zd_XPicture_drawPiece_58 : decode zb_XPicture_drawPiece 58 = .ok (.invokevirtual 110, 3) := by decide +kernel
theorem zd_XPicture_drawPiece_61 : decode zb_XPicture_drawPiece 61 = .ok (.invokestatic 75, 3) := by decide +kernel
theorem zd_XPicture_drawPiece_64 : decode zb_XPicture_drawPiece 64 = .ok (.istore 5, 2) := by decide +kernel
theorem zd_XPicture_drawPiece_66 : decode zb_XPicture_drawPiece 66 = .ok (.iload_n 2, 1) := by decide +kernel
theorem zd_XPicture_drawPiece_67 : decode zb_XPicture_drawPiece 67 = .ok (.iload_n 3, 1) := by decide +kernel
theorem zd_XPicture_drawPiece_68 : decode zb_XPicture_drawPiece 68 = .ok (.if_icmp .gt 10, 3) := by decide +kernel
theorem zd_XPicture_drawPiece_71 : decode zb_XPicture_drawPiece 71 = .ok (.iload 4, 2) := by decide +kernel
theorem zd_XPicture_drawPiece_73 : decode zb_XPicture_drawPiece 73 = .ok (.iload 5, 2) := by decide +kernel
theorem zd_XPicture_drawPiece_75 : decode zb_XPicture_drawPiece 75 = .ok (.if_icmp .le 4, 3) := by decide +kernel
theorem zd_XPicture_drawPiece_78 : decode zb_XPicture_drawPiece 78 = .ok (.return_, 1) := by decide +kernel
theorem zd_XPicture_drawPiece_79 : decode zb_XPicture_drawPiece 79 = .ok (.aload_n 1, 1) := by decide +kernel
theorem zd_XPicture_drawPiece_80 : decode zb_XPicture_drawPiece 80 = .ok (.iconst 4, 1) := by decide +kernel
theorem zd_XPicture_drawPiece_81 : decode zb_XPicture_drawPiece 81 = .ok (.iaload, 1) := by decide +kernel
theorem zd_XPicture_drawPiece_82 : decode zb_XPicture_drawPiece 82 = .ok (.ifCond .ge 7, 3) := by decide +kernel
theorem zd_XPicture_drawPiece_85 : decode zb_XPicture_drawPiece 85 = .ok (.aconst_null, 1) := by decide +kernel
theorem zd_XPicture_drawPiece_86 : decode zb_XPicture_drawPiece 86 = .ok (.goto 14, 3) := by decide +kernel
theorem zd_XPicture_drawPiece_89 : decode zb_XPicture_drawPiece 89 = .ok (.aload_n 0, 1) := by decide +kernel
theorem zd_XPicture_drawPiece_90 : decode zb_XPicture_drawPiece 90 = .ok (.getfield 47, 3) := by decide +kernel
theorem zd_XPicture_drawPiece_93 : decode zb_XPicture_drawPiece 93 = .ok (.getfield 113, 3) := by decide +kernel
theorem zd_XPicture_drawPiece_96 : decode zb_XPicture_drawPiece 96 = .ok (.aload_n 1, 1) := by decide +kernel
theorem zd_XPicture_drawPiece_97 : decode zb_XPicture_drawPiece 97 = .ok (.iconst 4, 1) := by decide +kernel
theorem zd_XPicture_drawPiece_98 : decode zb_XPicture_drawPiece 98 = .ok (.iaload, 1) := by decide +kernel
theorem zd_XPicture_drawPiece_99 : decode zb_XPicture_drawPiece 99 = .ok (.aaload, 1) := by decide +kernel
theorem zd_XPicture_drawPiece_100 : decode zb_XPicture_drawPiece 100 = .ok (.astore 6, 2) := by decide +kernel
theorem zd_XPicture_drawPiece_102 : decode zb_XPicture_drawPiece 102 = .ok (.aload 6, 2) := by decide +kernel
theorem zd_XPicture_drawPiece_104 : decode zb_XPicture_drawPiece 104 = .ok (.ifnonnull 7, 3) := by decide +kernel
theorem zd_XPicture_drawPiece_107 : decode zb_XPicture_drawPiece 107 = .ok (.iconst 0, 1) := by decide +kernel
theorem zd_XPicture_drawPiece_108 : decode zb_XPicture_drawPiece 108 = .ok (.goto 22, 3) := by decide +kernel
theorem zd_XPicture_drawPiece_111 : decode zb_XPicture_drawPiece 111 = .ok (.aload 6, 2) := by decide +kernel
theorem zd_XPicture_drawPiece_113 : decode zb_XPicture_drawPiece 113 = .ok (.aload_n 0, 1) := by decide +kernel
theorem zd_XPicture_drawPiece_114 : decode zb_XPicture_drawPiece 114 = .ok (.getfield 24, 3) := by decide +kernel
theorem zd_XPicture_drawPiece_117 : decode zb_XPicture_drawPiece 117 = .ok (.invokevirtual 117, 3) := by decide +kernel
theorem zd_XPicture_drawPiece_120 : decode zb_XPicture_drawPiece 120 = .ok (.aload_n 0, 1) := by decide +kernel
theorem zd_XPicture_drawPiece_121 : decode zb_XPicture_drawPiece 121 = .ok (.getfield 24, 3) := by decide +kernel
theorem zd_XPicture_drawPiece_124 : decode zb_XPicture_drawPiece 124 = .ok (.getfield 121, 3) := by decide +kernel
theorem zd_XPicture_drawPiece_127 : decode zb_XPicture_drawPiece 127 = .ok (.invokevirtual 124, 3) := by decide +kernel
theorem zd_XPicture_drawPiece_130 : decode zb_XPicture_drawPiece 130 = .ok (.istore 7, 2) := by decide +kernel
theorem zd_XPicture_drawPiece_132 : decode zb_XPicture_drawPiece 132 = .ok (.iload 4, 2) := by decide +kernel
theorem zd_XPicture_drawPiece_134 : decode zb_XPicture_drawPiece 134 = .ok (.istore 8, 2) := by decide +kernel
theorem zd_XPicture_drawPiece_136 : decode zb_XPicture_drawPiece 136 = .ok (.iload 8, 2) := by decide +kernel
theorem zd_XPicture_drawPiece_138 : decode zb_XPicture_drawPiece 138 = .ok (.iload 5, 2) := by decide +kernel
theorem zd_XPicture_drawPiece_140 : decode zb_XPicture_drawPiece 140 = .ok (.if_icmp .gt 112, 3) := by decide +kernel
theorem zd_XPicture_drawPiece_143 : decode zb_XPicture_drawPiece 143 = .ok (.iload_n 2, 1) := by decide +kernel
theorem zd_XPicture_drawPiece_144 : decode zb_XPicture_drawPiece 144 = .ok (.istore 9, 2) := by decide +kernel
theorem zd_XPicture_drawPiece_146 : decode zb_XPicture_drawPiece 146 = .ok (.iload 9, 2) := by decide +kernel
theorem zd_XPicture_drawPiece_148 : decode zb_XPicture_drawPiece 148 = .ok (.iload_n 3, 1) := by decide +kernel
theorem zd_XPicture_drawPiece_149 : decode zb_XPicture_drawPiece 149 = .ok (.if_icmp .gt 97, 3) := by decide +kernel
theorem zd_XPicture_drawPiece_152 : decode zb_XPicture_drawPiece 152 = .ok (.iload 8, 2) := by decide +kernel
theorem zd_XPicture_drawPiece_154 : decode zb_XPicture_drawPiece 154 = .ok (.aload_n 0, 1) := by decide +kernel
theorem zd_XPicture_drawPiece_155 : decode zb_XPicture_drawPiece 155 = .ok (.getfield 28, 3) := by decide +kernel
theorem zd_XPicture_drawPiece_158 : decode zb_XPicture_drawPiece 158 = .ok (.imul, 1) := by decide +kernel
theorem zd_XPicture_drawPiece_159 : decode zb_XPicture_drawPiece 159 = .ok (.iload 9, 2) := by decide +kernel
theorem zd_XPicture_drawPiece_161 : decode zb_XPicture_drawPiece 161 = .ok (.iadd, 1) := by decide +kernel
theorem zd_XPicture_drawPiece_162 : decode zb_XPicture_drawPiece 162 = .ok (.istore 10, 2) := by decide +kernel
theorem zd_XPicture_drawPiece_164 : decode zb_XPicture_drawPiece 164 = .ok (.aload_n 0, 1) := by decide +kernel
theorem zd_XPicture_drawPiece_165 : decode zb_XPicture_drawPiece 165 = .ok (.getfield 24, 3) := by decide +kernel
theorem zd_XPicture_drawPiece_168 : decode zb_XPicture_drawPiece 168 = .ok (.iload 9, 2) := by decide +kernel
theorem zd_XPicture_drawPiece_170 : decode zb_XPicture_drawPiece 170 = .ok (.iload 8, 2) := by decide +kernel
theorem zd_XPicture_drawPiece_172 : decode zb_XPicture_drawPiece 172 = .ok (.invokevirtual 130, 3) := by decide +kernel
theorem zd_XPicture_drawPiece_175 : decode zb_XPicture_drawPiece 175 = .ok (.ifCond .eq 65, 3) := by decide +kernel
theorem zd_XPicture_drawPiece_178 : decode zb_XPicture_drawPiece 178 = .ok (.aload_n 0, 1) := by decide +kernel
theorem zd_XPicture_drawPiece_179 : decode zb_XPicture_drawPiece 179 = .ok (.getfield 24, 3) := by decide +kernel
theorem zd_XPicture_drawPiece_182 : decode zb_XPicture_drawPiece 182 = .ok (.invokevirtual 134, 3) := by decide +kernel
theorem zd_XPicture_drawPiece_185 : decode zb_XPicture_drawPiece 185 = .ok (.aload_n 0, 1) := by decide +kernel
theorem zd_XPicture_drawPiece_186 : decode zb_XPicture_drawPiece 186 = .ok (.getfield 44, 3) := by decide +kernel
theorem zd_XPicture_drawPiece_189 : decode zb_XPicture_drawPiece 189 = .ok (.iload 10, 2) := by decide +kernel
theorem zd_XPicture_drawPiece_191 : decode zb_XPicture_drawPiece 191 = .ok (.iaload, 1) := by decide +kernel
theorem zd_XPicture_drawPiece_192 : decode zb_XPicture_drawPiece 192 = .ok (.i2l, 1) := by decide +kernel
theorem zd_XPicture_drawPiece_193 : decode zb_XPicture_drawPiece 193 = .ok (.lcmp, 1) := by decide +kernel
theorem zd_XPicture_drawPiece_194 : decode zb_XPicture_drawPiece 194 = .ok (.ifCond .le 46, 3) := by decide +kernel
theorem zd_XPicture_drawPiece_197 : decode zb_XPicture_drawPiece 197 = .ok (.ldc 137, 2) := by decide +kernel
theorem zd_XPicture_drawPiece_199 : decode zb_XPicture_drawPiece 199 = .ok (.istore 11, 2) := by decide +kernel
theorem zd_XPicture_drawPiece_201 : decode zb_XPicture_drawPiece 201 = .ok (.aload 6, 2) := by decide +kernel
theorem zd_XPicture_drawPiece_203 : decode zb_XPicture_drawPiece 203 = .ok (.ifnull 28, 3) := by decide +kernel
theorem zd_XPicture_drawPiece_206 : decode zb_XPicture_drawPiece 206 = .ok (.aload 6, 2) := by decide +kernel
theorem zd_XPicture_drawPiece_208 : decode zb_XPicture_drawPiece 208 = .ok (.iload 7, 2) := by decide +kernel
theorem zd_XPicture_drawPiece_210 : decode zb_XPicture_drawPiece 210 = .ok (.aload_n 0, 1) := by decide +kernel
theorem zd_XPicture_drawPiece_211 : decode zb_XPicture_drawPiece 211 = .ok (.getfield 24, 3) := by decide +kernel
theorem zd_XPicture_drawPiece_214 : decode zb_XPicture_drawPiece 214 = .ok (.iconst 3, 1) := by decide +kernel
theorem zd_XPicture_drawPiece_215 : decode zb_XPicture_drawPiece 215 = .ok (.invokevirtual 138, 3) := by decide +kernel
theorem zd_XPicture_drawPiece_218 : decode zb_XPicture_drawPiece 218 = .ok (.aload_n 0, 1) := by decide +kernel
theorem zd_XPicture_drawPiece_219 : decode zb_XPicture_drawPiece 219 = .ok (.getfield 24, 3) := by decide +kernel
theorem zd_XPicture_drawPiece_222 : decode zb_XPicture_drawPiece 222 = .ok (.iconst 4, 1) := by decide +kernel
theorem zd_XPicture_drawPiece_223 : decode zb_XPicture_drawPiece 223 = .ok (.invokevirtual 138, 3) := by decide +kernel
theorem zd_XPicture_drawPiece_226 : decode zb_XPicture_drawPiece 226 = .ok (.invokevirtual 142, 3) := by decide +kernel
theorem zd_XPicture_drawPiece_229 : decode zb_XPicture_drawPiece 229 = .ok (.istore 11, 2) := by decide +kernel
theorem zd_XPicture_drawPiece_231 : decode zb_XPicture_drawPiece 231 = .ok (.aload_n 0, 1) := by decide +kernel
theorem zd_XPicture_drawPiece_232 : decode zb_XPicture_drawPiece 232 = .ok (.iload 10, 2) := by decide +kernel
theorem zd_XPicture_drawPiece_234 : decode zb_XPicture_drawPiece 234 = .ok (.aload_n 1, 1) := by decide +kernel
theorem zd_XPicture_drawPiece_235 : decode zb_XPicture_drawPiece 235 = .ok (.iload 11, 2) := by decide +kernel
theorem zd_XPicture_drawPiece_237 : decode zb_XPicture_drawPiece 237 = .ok (.invokevirtual 146, 3) := by decide +kernel
theorem zd_XPicture_drawPiece_240 : decode zb_XPicture_drawPiece 240 = .ok (.iinc 9 1, 3) := by decide +kernel
theorem zd_XPicture_drawPiece_243 : decode zb_XPicture_drawPiece 243 = .ok (.goto (-97), 3) := by decide +kernel
theorem zd_XPicture_drawPiece_246 : decode zb_XPicture_drawPiece 246 = .ok (.iinc 8 1, 3) := by decide +kernel
theorem zd_XPicture_drawPiece_249 : decode zb_XPicture_drawPiece 249 = .ok (.goto (-113), 3) := by decide +kernel
theorem zd_XPicture_drawPiece_252 : decode zb_XPicture_drawPiece 252 = .ok (.return_, 1) := by decide +kernel
theorem zw_793 : (Jvm.Cond.methodLink "OrreryBox$Picture" (103 : Nat) ({ cls := "OrreryBox$Piece", name := "firstPixel", desc := "(I)I" } : Jvm.MethodName)) ∈ gw := gw_t 793 (by decide +kernel) rfl
theorem zs_XPicture_103 : zwV "OrreryBox$Picture" 103 "OrreryBox$Piece" zy_XPiece_firstPixel zb_XPiece_firstPixel 3 (some .int) := ⟨zw_793, zw_794, zw_795, zw_11, zc_XPiece_firstPixel⟩
theorem zw_798 : (Jvm.Cond.methodLink "OrreryBox$Picture" (107 : Nat) ({ cls := "java/lang/Math", name := "max", desc := "(II)I" } : Jvm.MethodName)) ∈ gw := gw_t 798 (by decide +kernel) rfl
theorem zs_XPicture_107 : zwS "OrreryBox$Picture" 107 zy_JMath_max zb_JMath_max 2 (some .int) := ⟨zw_798, zw_124, zw_4, zc_JMath_max⟩
theorem zw_799 : (Jvm.Cond.methodLink "OrreryBox$Picture" (110 : Nat) ({ cls := "OrreryBox$Piece", name := "lastPixel", desc := "(I)I" } : Jvm.MethodName)) ∈ gw := gw_t 799 (by decide +kernel) rfl
theorem zs_XPicture_110 : zwV "OrreryBox$Picture" 110 "OrreryBox$Piece" zy_XPiece_lastPixel zb_XPiece_lastPixel 3 (some .int) := ⟨zw_799, zw_800, zw_801, zw_11, zc_XPiece_lastPixel⟩
theorem zw_780 : (Jvm.Cond.methodLink "OrreryBox$Picture" (75 : Nat) ({ cls := "java/lang/Math", name := "min", desc := "(II)I" } : Jvm.MethodName)) ∈ gw := gw_t 780 (by decide +kernel) rfl
theorem zs_XPicture_75 : zwS "OrreryBox$Picture" 75 zy_JMath_min zb_JMath_min 2 (some .int) := ⟨zw_780, zw_121, zw_4, zc_JMath_min⟩
theorem zw_287 : (Jvm.Cond.fieldLink "OrreryBox$Picture" (113 : Nat) "OrreryBox$Scene" "textures" "[LOrreryBox$Texture;") ∈ gw := gw_t 287 (by decide +kernel) rfl
theorem zw_804 : (Jvm.Cond.methodLink "OrreryBox$Picture" (117 : Nat) ({ cls := "OrreryBox$Piece", name := "spread", desc := "()J" } : Jvm.MethodName)) ∈ gw := gw_t 804 (by decide +kernel) rfl
theorem zw_805 : (Jvm.Cond.instanceMethod ({ cls := "OrreryBox$Piece", name := "spread", desc := "()J" } : Jvm.MethodName)) ∈ gw := gw_t 805 (by decide +kernel) rfl
theorem zw_806 : (Jvm.Cond.selects "OrreryBox$Piece" ({ cls := "OrreryBox$Piece", name := "spread", desc := "()J" } : Jvm.MethodName) ({ cls := "OrreryBox$Piece", name := "spread", desc := "()J" } : Jvm.MethodName)) ∈ gw := gw_t 806 (by decide +kernel) rfl
theorem zs_XPicture_117 : zwV "OrreryBox$Picture" 117 "OrreryBox$Piece" zy_XPiece_spread zb_XPiece_spread 1 (some .long) := ⟨zw_804, zw_805, zw_806, zw_11, zc_XPiece_spread⟩
theorem zw_350 : (Jvm.Cond.fieldLink "OrreryBox$Picture" (121 : Nat) "OrreryBox$Piece" "area" "J") ∈ gw := gw_t 350 (by decide +kernel) rfl
theorem zw_811 : (Jvm.Cond.methodLink "OrreryBox$Picture" (124 : Nat) ({ cls := "OrreryBox$Texture", name := "levelFor", desc := "(JJ)I" } : Jvm.MethodName)) ∈ gw := gw_t 811 (by decide +kernel) rfl
theorem zw_812 : (Jvm.Cond.instanceMethod ({ cls := "OrreryBox$Texture", name := "levelFor", desc := "(JJ)I" } : Jvm.MethodName)) ∈ gw := gw_t 812 (by decide +kernel) rfl
theorem zw_813 : (Jvm.Cond.selects "OrreryBox$Texture" ({ cls := "OrreryBox$Texture", name := "levelFor", desc := "(JJ)I" } : Jvm.MethodName) ({ cls := "OrreryBox$Texture", name := "levelFor", desc := "(JJ)I" } : Jvm.MethodName)) ∈ gw := gw_t 813 (by decide +kernel) rfl
theorem zs_XPicture_124 : zwV "OrreryBox$Picture" 124 "OrreryBox$Texture" zy_XTexture_levelFor zb_XTexture_levelFor 10 (some .int) := ⟨zw_811, zw_812, zw_813, zw_6, zc_XTexture_levelFor⟩
theorem zw_817 : (Jvm.Cond.methodLink "OrreryBox$Picture" (130 : Nat) ({ cls := "OrreryBox$Piece", name := "covers", desc := "(II)Z" } : Jvm.MethodName)) ∈ gw := gw_t 817 (by decide +kernel) rfl
theorem zw_818 : (Jvm.Cond.instanceMethod ({ cls := "OrreryBox$Piece", name := "covers", desc := "(II)Z" } : Jvm.MethodName)) ∈ gw := gw_t 818 (by decide +kernel) rfl
theorem zw_819 : (Jvm.Cond.selects "OrreryBox$Piece" ({ cls := "OrreryBox$Piece", name := "covers", desc := "(II)Z" } : Jvm.MethodName) ({ cls := "OrreryBox$Piece", name := "covers", desc := "(II)Z" } : Jvm.MethodName)) ∈ gw := gw_t 819 (by decide +kernel) rfl
theorem zs_XPicture_130 : zwV "OrreryBox$Picture" 130 "OrreryBox$Piece" zy_XPiece_covers zb_XPiece_covers 5 (some .boolean) := ⟨zw_817, zw_818, zw_819, zw_11, zc_XPiece_covers⟩
theorem zw_834 : (Jvm.Cond.constant "OrreryBox$Picture" (137 : Nat) (16777215 : Int32)) ∈ gw := gw_t 834 (by decide +kernel) rfl
theorem zw_839 : (Jvm.Cond.methodLink "OrreryBox$Picture" (142 : Nat) ({ cls := "OrreryBox$Texture", name := "colourAt", desc := "(IJJ)I" } : Jvm.MethodName)) ∈ gw := gw_t 839 (by decide +kernel) rfl
theorem zw_840 : (Jvm.Cond.instanceMethod ({ cls := "OrreryBox$Texture", name := "colourAt", desc := "(IJJ)I" } : Jvm.MethodName)) ∈ gw := gw_t 840 (by decide +kernel) rfl
theorem zw_841 : (Jvm.Cond.selects "OrreryBox$Texture" ({ cls := "OrreryBox$Texture", name := "colourAt", desc := "(IJJ)I" } : Jvm.MethodName) ({ cls := "OrreryBox$Texture", name := "colourAt", desc := "(IJJ)I" } : Jvm.MethodName)) ∈ gw := gw_t 841 (by decide +kernel) rfl
theorem zs_XPicture_142 : zwV "OrreryBox$Picture" 142 "OrreryBox$Texture" zy_XTexture_colourAt zb_XTexture_colourAt 8 (some .int) := ⟨zw_839, zw_840, zw_841, zw_6, zc_XTexture_colourAt⟩
theorem zw_856 : (Jvm.Cond.methodLink "OrreryBox$Picture" (146 : Nat) ({ cls := "OrreryBox$Picture", name := "drawPixel", desc := "(I[II)V" } : Jvm.MethodName)) ∈ gw := gw_t 856 (by decide +kernel) rfl
theorem zw_858 : (Jvm.Cond.instanceMethod ({ cls := "OrreryBox$Picture", name := "drawPixel", desc := "(I[II)V" } : Jvm.MethodName)) ∈ gw := gw_t 858 (by decide +kernel) rfl
theorem zv_24 : (Jvm.Cond.selects "OrreryBox$Picture" (⟨"OrreryBox$Picture", "drawPixel", "(I[II)V"⟩ : MethodName) ⟨"OrreryBox$Picture", "drawPixel", "(I[II)V"⟩) ∈ gw := gw_s 24 (by decide +kernel) rfl
theorem zs_XPicture_146 : zwV "OrreryBox$Picture" 146 "OrreryBox$Picture" zy_XPicture_drawPixel zb_XPicture_drawPixel 11 none := ⟨zw_856, zw_858, zv_24, zw_12, zc_XPicture_drawPixel⟩
def L_XPicture_drawPiece_146 (sh : zSh) (fuel : Nat) (v0 : Nat) (v1 : Nat) (v2 : Int32) (v3 : Int32) (v5 : Int32) (v6 : Nat) (v7 : Int32) (v8 : Int32) (v9 : Int32) (mm : zMem) : Option (Nat × Nat × Int32 × Int32 × Int32 × Nat × Int32 × Int32 × Int32 × zMem) := match fuel with
  | 0 => none
  | fu + 1 => (if v3 < v9 then some (v0, v1, v2, v3, v5, v6, v7, v8, v9, mm) else zoS (sh v0) 5 (fun le79 => zoL ((v8 * (mm.1 v0 4)) + v9) (fun x80 => zoS (sh v0) 5 (fun le82 => Option.bind (mm.2.2 v0 11) (fun a83 => zoS (sh a83) 6 (fun le85 => Option.bind (F_XPiece_covers sh mm a83 v9 v8) (fun p86 => (if p86.1 = 0 then L_XPicture_drawPiece_146 sh fu v0 v1 v2 v3 v5 v6 v7 v8 (v9 + 1) (p86.2) else zoS (sh v0) 5 (fun le89 => Option.bind ((p86.2).2.2 v0 11) (fun a90 => zoS (sh a90) 6 (fun le92 => Option.bind (F_XPiece_near sh (p86.2) a90) (fun p93 => zoS (sh v0) 5 (fun le95 => Option.bind ((p93.2).2.2 v0 2) (fun a96 => zoS (sh a96) 100 (fun le98 => if (x80 : Int32) < 0 ∨ le98 ≤ (x80 : Int32).toNatClampNeg then none else (if (lg_cmp p93.1 ((((p93.2).1 a96 (x80 : Int32).toNatClampNeg) : Int32).toInt64)) ≤ 0 then L_XPicture_drawPiece_146 sh fu v0 v1 v2 v3 v5 v6 v7 v8 (v9 + 1) (p93.2) else zoS (sh v0) 5 (fun le102 => Option.bind ((p93.2).2.2 v0 11) (fun a103 => zoS (sh a103) 6 (fun le105 => Option.bind (F_XPiece_mixed sh (p93.2) a103 3) (fun p106 => zoS (sh v0) 5 (fun le108 => Option.bind ((p106.2).2.2 v0 11) (fun a109 => zoS (sh a109) 6 (fun le111 => Option.bind (F_XPiece_mixed sh (p106.2) a109 4) (fun p112 => zoS (sh v6) 10 (fun le114 => Option.bind (F_XTexture_colourAt sh (p112.2) v6 v7 (p106.1) (p112.1)) (fun p115 => zoS (sh v0) 5 (fun le117 => Option.bind (F_XPicture_drawPixel sh (p115.2) v0 x80 v1 (p115.1)) (fun p118 => L_XPicture_drawPiece_146 sh fu v0 v1 v2 v3 v5 v6 v7 v8 (v9 + 1) p118))))))))))))))))))))))))))))
set_option maxHeartbeats 4000000 in
set_option maxRecDepth 100000 in
theorem lp_XPicture_drawPiece_146 {p : Program} {l : Launch} {e : Env} {s : State} {m : MethodId} {args : Array Value} {below : List Frame} {meth : Method} {c : Code} {D : va_G} {tA : Nat → ClassId} {b n : Nat} {post : Option Value → zV → Nat → Prop} {sh : zSh} (F : zF p s m args meth c zb_XPicture_drawPiece 12 "OrreryBox$Picture" D tA b) : ∀ (fuel : Nat) (v0 : Nat) (v1 : Nat) (v2 : Int32) (v3 : Int32) (v5 : Int32) (v6 : Nat) (v7 : Int32) (v8 : Int32) (v9 : Int32) (mm : zMem) (r : Nat × Nat × Int32 × Int32 × Int32 × Nat × Int32 × Int32 × Int32 × zMem), L_XPicture_drawPiece_146 sh fuel v0 v1 v2 v3 v5 v6 v7 v8 v9 mm = some r → (Z p l e { frames := 4, cells := 0, slots := 0, locals := 116 } s m args below meth c D b 12 (MQ below (zQ D b post) args s 0 0 (fun q => b ≤ q)) (zW tA b sh r.2.2.2.2.2.2.2.2.2) n 0 0 246 [(0, .ref (b + (r.1))), (1, .ref (b + (r.2.1))), (2, .int (r.2.2.1)), (3, .int (r.2.2.2.1)), (5, .int (r.2.2.2.2.1)), (6, .ref (b + (r.2.2.2.2.2.1))), (7, .int (r.2.2.2.2.2.2.1)), (8, .int (r.2.2.2.2.2.2.2.1)), (9, .int (r.2.2.2.2.2.2.2.2.1))] []) → Z p l e { frames := 4, cells := 0, slots := 0, locals := 116 } s m args below meth c D b 12 (MQ below (zQ D b post) args s 0 0 (fun q => b ≤ q)) (zW tA b sh mm) n 0 0 146 [(0, .ref (b + v0)), (1, .ref (b + v1)), (2, .int v2), (3, .int v3), (5, .int v5), (6, .ref (b + v6)), (7, .int v7), (8, .int v8), (9, .int v9)] [] := by
  intro fuel
  induction fuel with
  | zero =>
    intro v0 v1 v2 v3 v5 v6 v7 v8 v9 mm r h
    cases h
  | succ fu ih =>
    intro v0 v1 v2 v3 v5 v6 v7 v8 v9 mm r h hx0
    rw [L_XPicture_drawPiece_146] at h
    refine zr_iload F zd_XPicture_drawPiece_146 rfl ?_
    refine zr_iload_n F zd_XPicture_drawPiece_148 rfl ?_
    refine zr_pcn 149 rfl ?_
    refine zr_icmp_gt F 246 zd_XPicture_drawPiece_149 (by decide) (fun hb77 => ?_) (fun hb77 => ?_)
    ·
      replace h := (if_pos hb77).symm.trans h
      obtain rfl := Option.some.inj h
      refine zr_loc (L' := [(0, .ref (b + v0)), (1, .ref (b + v1)), (2, .int v2), (3, .int v3), (5, .int v5), (6, .ref (b + v6)), (7, .int v7), (8, .int v8), (9, .int v9)]) ⟨rfl, rfl, rfl, rfl, rfl, rfl, rfl, rfl, rfl, trivial⟩ ?_
      exact hx0 
    ·
      replace h := (if_neg hb77).symm.trans h
      refine zr_iload F zd_XPicture_drawPiece_152 rfl ?_
      refine zr_aload_n F zd_XPicture_drawPiece_154 rfl ?_
      obtain ⟨le79, hs78, h⟩ := zoS_s h
      refine zr_get F 5 4 zd_XPicture_drawPiece_155 (zW_o hs78 (by decide)) rfl (by decide) zw_437 rfl (by rfl) ?_
      refine zr_imul F zd_XPicture_drawPiece_158 ?_
      refine zr_iload F zd_XPicture_drawPiece_159 rfl ?_
      refine zr_iadd F zd_XPicture_drawPiece_161 ?_
      obtain ⟨x80, ex80, h⟩ := zoL_s h
      rw [← ex80]
      refine zr_istore F zd_XPicture_drawPiece_162 (by decide) ?_
      refine zr_pcn 164 rfl ?_
      refine zr_aload_n F zd_XPicture_drawPiece_164 rfl ?_
      obtain ⟨le82, hs81, h⟩ := zoS_s h
      obtain ⟨a83, ea83, h⟩ := zoB_s h
      refine zr_get F 5 11 zd_XPicture_drawPiece_165 (zW_o hs81 (by decide)) rfl (by decide) zw_444 rfl (by rfl) ?_
      refine zr_tor ea83 ?_
      refine zr_iload F zd_XPicture_drawPiece_168 rfl ?_
      refine zr_iload F zd_XPicture_drawPiece_170 rfl ?_
      obtain ⟨le85, hs84, h⟩ := zoS_s h
      obtain ⟨p86, ep86, h⟩ := zoB_s h
      refine zr_callV1 F (k_XPiece_covers l D tA b sh _ ep86) zd_XPicture_drawPiece_172 (zW_o hs84 (by decide)) rfl zs_XPicture_130 rfl zq_XPiece_covers rfl rfl ⟨(Nat.le_of_ble_eq_true rfl), (Nat.le_of_ble_eq_true rfl)⟩ (Nat.le_of_ble_eq_true rfl) ⟨(Nat.le_of_ble_eq_true rfl), (Nat.le_of_ble_eq_true rfl)⟩ ?_
      refine zr_if_eq F 240 zd_XPicture_drawPiece_175 (by decide) (fun hb87 => ?_) (fun hb87 => ?_)
      ·
        replace h := (if_pos hb87).symm.trans h
        refine zr_iinc (v := (v9 + 1)) F zd_XPicture_drawPiece_240 rfl rfl (by decide) ?_
        refine zr_goto F 146 zd_XPicture_drawPiece_243 (by decide) ?_
        refine zr_loc (L' := [(0, .ref (b + v0)), (1, .ref (b + v1)), (2, .int v2), (3, .int v3), (5, .int v5), (6, .ref (b + v6)), (7, .int v7), (8, .int v8), (9, .int (v9 + 1))]) ⟨rfl, rfl, rfl, rfl, rfl, rfl, rfl, rfl, rfl, trivial⟩ ?_
        exact ih _ _ _ _ _ _ _ _ _ _ _ h hx0
      ·
        replace h := (if_neg hb87).symm.trans h
        refine zr_pcn 178 rfl ?_
        refine zr_aload_n F zd_XPicture_drawPiece_178 rfl ?_
        obtain ⟨le89, hs88, h⟩ := zoS_s h
        obtain ⟨a90, ea90, h⟩ := zoB_s h
        refine zr_get F 5 11 zd_XPicture_drawPiece_179 (zW_o hs88 (by decide)) rfl (by decide) zw_444 rfl (by rfl) ?_
        refine zr_tor ea90 ?_
        obtain ⟨le92, hs91, h⟩ := zoS_s h
        obtain ⟨p93, ep93, h⟩ := zoB_s h
        refine zr_callV1 F (k_XPiece_near l D tA b sh _ ep93) zd_XPicture_drawPiece_182 (zW_o hs91 (by decide)) rfl zs_XPicture_134 rfl zq_XPiece_near rfl rfl ⟨(Nat.le_of_ble_eq_true rfl), (Nat.le_of_ble_eq_true rfl)⟩ (Nat.le_of_ble_eq_true rfl) ⟨(Nat.le_of_ble_eq_true rfl), (Nat.le_of_ble_eq_true rfl)⟩ ?_
        refine zr_aload_n F zd_XPicture_drawPiece_185 rfl ?_
        obtain ⟨le95, hs94, h⟩ := zoS_s h
        obtain ⟨a96, ea96, h⟩ := zoB_s h
        refine zr_get F 5 2 zd_XPicture_drawPiece_186 (zW_o hs94 (by decide)) rfl (by decide) zw_433 rfl (by rfl) ?_
        refine zr_tor ea96 ?_
        refine zr_iload F zd_XPicture_drawPiece_189 rfl ?_
        obtain ⟨le98, hs97, h⟩ := zoS_s h
        obtain ⟨hi99, h⟩ := zoI_s h
        refine zr_iald F zd_XPicture_drawPiece_191 (zW_a0 hs97) hi99 ?_
        refine zr_i2l F zd_XPicture_drawPiece_192 ?_
        refine zr_pcn 193 rfl ?_
        refine zr_lcmp F zd_XPicture_drawPiece_193 ?_
        refine zr_if_le F 240 zd_XPicture_drawPiece_194 (by decide) (fun hb100 => ?_) (fun hb100 => ?_)
        ·
          replace h := (if_pos hb100).symm.trans h
          refine zr_iinc (v := (v9 + 1)) F zd_XPicture_drawPiece_240 rfl rfl (by decide) ?_
          refine zr_goto F 146 zd_XPicture_drawPiece_243 (by decide) ?_
          refine zr_loc (L' := [(0, .ref (b + v0)), (1, .ref (b + v1)), (2, .int v2), (3, .int v3), (5, .int v5), (6, .ref (b + v6)), (7, .int v7), (8, .int v8), (9, .int (v9 + 1))]) ⟨rfl, rfl, rfl, rfl, rfl, rfl, rfl, rfl, rfl, trivial⟩ ?_
          exact ih _ _ _ _ _ _ _ _ _ _ _ h hx0
        ·
          replace h := (if_neg hb100).symm.trans h
          refine zr_ldc F zd_XPicture_drawPiece_197 zw_834 ?_
          refine zr_istore F zd_XPicture_drawPiece_199 (by decide) ?_
          refine zr_aload F zd_XPicture_drawPiece_201 rfl ?_
          refine zr_ifnull F zd_XPicture_drawPiece_203 ?_
          refine zr_pcn 206 rfl ?_
          refine zr_aload F zd_XPicture_drawPiece_206 rfl ?_
          refine zr_iload F zd_XPicture_drawPiece_208 rfl ?_
          refine zr_aload_n F zd_XPicture_drawPiece_210 rfl ?_
          obtain ⟨le102, hs101, h⟩ := zoS_s h
          obtain ⟨a103, ea103, h⟩ := zoB_s h
          refine zr_get F 5 11 zd_XPicture_drawPiece_211 (zW_o hs101 (by decide)) rfl (by decide) zw_444 rfl (by rfl) ?_
          refine zr_tor ea103 ?_
          refine zr_iconstv (v := 3) F zd_XPicture_drawPiece_214 (by decide) ?_
          obtain ⟨le105, hs104, h⟩ := zoS_s h
          obtain ⟨p106, ep106, h⟩ := zoB_s h
          refine zr_callV1 F (k_XPiece_mixed l D tA b sh _ ep106) zd_XPicture_drawPiece_215 (zW_o hs104 (by decide)) rfl zs_XPicture_138 rfl zq_XPiece_mixed rfl rfl ⟨(Nat.le_of_ble_eq_true rfl), (Nat.le_of_ble_eq_true rfl)⟩ (Nat.le_of_ble_eq_true rfl) ⟨(Nat.le_of_ble_eq_true rfl), (Nat.le_of_ble_eq_true rfl)⟩ ?_
          refine zr_aload_n F zd_XPicture_drawPiece_218 rfl ?_
          obtain ⟨le108, hs107, h⟩ := zoS_s h
          obtain ⟨a109, ea109, h⟩ := zoB_s h
          refine zr_get F 5 11 zd_XPicture_drawPiece_219 (zW_o hs107 (by decide)) rfl (by decide) zw_444 rfl (by rfl) ?_
          refine zr_tor ea109 ?_
          refine zr_pcn 222 rfl ?_
          refine zr_iconstv (v := 4) F zd_XPicture_drawPiece_222 (by decide) ?_
          obtain ⟨le111, hs110, h⟩ := zoS_s h
          obtain ⟨p112, ep112, h⟩ := zoB_s h
          refine zr_callV1 F (k_XPiece_mixed l D tA b sh _ ep112) zd_XPicture_drawPiece_223 (zW_o hs110 (by decide)) rfl zs_XPicture_138 rfl zq_XPiece_mixed rfl rfl ⟨(Nat.le_of_ble_eq_true rfl), (Nat.le_of_ble_eq_true rfl)⟩ (Nat.le_of_ble_eq_true rfl) ⟨(Nat.le_of_ble_eq_true rfl), (Nat.le_of_ble_eq_true rfl)⟩ ?_
          obtain ⟨le114, hs113, h⟩ := zoS_s h
          obtain ⟨p115, ep115, h⟩ := zoB_s h
          refine zr_callV1 F (k_XTexture_colourAt l D tA b sh _ ep115) zd_XPicture_drawPiece_226 (zW_o hs113 (by decide)) rfl zs_XPicture_142 rfl zq_XTexture_colourAt rfl rfl ⟨(Nat.le_of_ble_eq_true rfl), (Nat.le_of_ble_eq_true rfl)⟩ (Nat.le_of_ble_eq_true rfl) ⟨(Nat.le_of_ble_eq_true rfl), (Nat.le_of_ble_eq_true rfl)⟩ ?_
          refine zr_istore F zd_XPicture_drawPiece_229 (by decide) ?_
          refine zr_loc (L' := [(0, .ref (b + v0)), (1, .ref (b + v1)), (2, .int v2), (3, .int v3), (5, .int v5), (6, .ref (b + v6)), (7, .int v7), (8, .int v8), (9, .int v9), (10, .int x80), (11, .int (p115.1))]) ⟨rfl, rfl, rfl, rfl, rfl, rfl, rfl, rfl, rfl, rfl, rfl, trivial⟩ ?_
          refine zr_aload_n F zd_XPicture_drawPiece_231 rfl ?_
          refine zr_iload F zd_XPicture_drawPiece_232 rfl ?_
          refine zr_aload_n F zd_XPicture_drawPiece_234 rfl ?_
          refine zr_iload F zd_XPicture_drawPiece_235 rfl ?_
          refine zr_pcn 237 rfl ?_
          obtain ⟨le117, hs116, h⟩ := zoS_s h
          obtain ⟨p118, ep118, h⟩ := zoB_s h
          refine zr_callV0 F (k_XPicture_drawPixel l D tA b sh _ ep118) zd_XPicture_drawPiece_237 (zW_o hs116 (by decide)) rfl zs_XPicture_146 rfl zq_XPicture_drawPixel rfl rfl ⟨(Nat.le_of_ble_eq_true rfl), (Nat.le_of_ble_eq_true rfl)⟩ (Nat.le_of_ble_eq_true rfl) ⟨(Nat.le_of_ble_eq_true rfl), (Nat.le_of_ble_eq_true rfl)⟩ ?_
          refine zr_iinc (v := (v9 + 1)) F zd_XPicture_drawPiece_240 rfl rfl (by decide) ?_
          refine zr_goto F 146 zd_XPicture_drawPiece_243 (by decide) ?_
          refine zr_loc (L' := [(0, .ref (b + v0)), (1, .ref (b + v1)), (2, .int v2), (3, .int v3), (5, .int v5), (6, .ref (b + v6)), (7, .int v7), (8, .int v8), (9, .int (v9 + 1))]) ⟨rfl, rfl, rfl, rfl, rfl, rfl, rfl, rfl, rfl, trivial⟩ ?_
          exact ih _ _ _ _ _ _ _ _ _ _ _ h hx0
def L_XPicture_drawPiece_136 (sh : zSh) (fuel : Nat) (v0 : Nat) (v1 : Nat) (v2 : Int32) (v3 : Int32) (v5 : Int32) (v6 : Nat) (v7 : Int32) (v8 : Int32) (mm : zMem) : Option (Nat × Nat × Int32 × Int32 × Int32 × Nat × Int32 × Int32 × zMem) := match fuel with
  | 0 => none
  | fu + 1 => (if v5 < v8 then some (v0, v1, v2, v3, v5, v6, v7, v8, mm) else Option.bind (L_XPicture_drawPiece_146 sh zfuel v0 v1 v2 v3 v5 v6 v7 v8 v2 mm) (fun q119 => L_XPicture_drawPiece_136 sh fu (q119.1) (q119.2.1) (q119.2.2.1) (q119.2.2.2.1) (q119.2.2.2.2.1) (q119.2.2.2.2.2.1) (q119.2.2.2.2.2.2.1) (q119.2.2.2.2.2.2.2.1 + 1) (q119.2.2.2.2.2.2.2.2.2)))
set_option maxHeartbeats 4000000 in
set_option maxRecDepth 100000 in
theorem lp_XPicture_drawPiece_136 {p : Program} {l : Launch} {e : Env} {s : State} {m : MethodId} {args : Array Value} {below : List Frame} {meth : Method} {c : Code} {D : va_G} {tA : Nat → ClassId} {b n : Nat} {post : Option Value → zV → Nat → Prop} {sh : zSh} (F : zF p s m args meth c zb_XPicture_drawPiece 12 "OrreryBox$Picture" D tA b) : ∀ (fuel : Nat) (v0 : Nat) (v1 : Nat) (v2 : Int32) (v3 : Int32) (v5 : Int32) (v6 : Nat) (v7 : Int32) (v8 : Int32) (mm : zMem) (r : Nat × Nat × Int32 × Int32 × Int32 × Nat × Int32 × Int32 × zMem), L_XPicture_drawPiece_136 sh fuel v0 v1 v2 v3 v5 v6 v7 v8 mm = some r → (Z p l e { frames := 4, cells := 0, slots := 0, locals := 116 } s m args below meth c D b 12 (MQ below (zQ D b post) args s 0 0 (fun q => b ≤ q)) (zW tA b sh r.2.2.2.2.2.2.2.2) n 0 0 252 [(0, .ref (b + (r.1))), (1, .ref (b + (r.2.1))), (2, .int (r.2.2.1)), (3, .int (r.2.2.2.1)), (5, .int (r.2.2.2.2.1)), (6, .ref (b + (r.2.2.2.2.2.1))), (7, .int (r.2.2.2.2.2.2.1)), (8, .int (r.2.2.2.2.2.2.2.1))] []) → Z p l e { frames := 4, cells := 0, slots := 0, locals := 116 } s m args below meth c D b 12 (MQ below (zQ D b post) args s 0 0 (fun q => b ≤ q)) (zW tA b sh mm) n 0 0 136 [(0, .ref (b + v0)), (1, .ref (b + v1)), (2, .int v2), (3, .int v3), (5, .int v5), (6, .ref (b + v6)), (7, .int v7), (8, .int v8)] [] := by
  intro fuel
  induction fuel with
  | zero =>
    intro v0 v1 v2 v3 v5 v6 v7 v8 mm r h
    cases h
  | succ fu ih =>
    intro v0 v1 v2 v3 v5 v6 v7 v8 mm r h hx0
    rw [L_XPicture_drawPiece_136] at h
    refine zr_iload F zd_XPicture_drawPiece_136 rfl ?_
    refine zr_iload F zd_XPicture_drawPiece_138 rfl ?_
    refine zr_icmp_gt F 252 zd_XPicture_drawPiece_140 (by decide) (fun hb76 => ?_) (fun hb76 => ?_)
    ·
      replace h := (if_pos hb76).symm.trans h
      obtain rfl := Option.some.inj h
      refine zr_loc (L' := [(0, .ref (b + v0)), (1, .ref (b + v1)), (2, .int v2), (3, .int v3), (5, .int v5), (6, .ref (b + v6)), (7, .int v7), (8, .int v8)]) ⟨rfl, rfl, rfl, rfl, rfl, rfl, rfl, rfl, trivial⟩ ?_
      exact hx0 
    ·
      replace h := (if_neg hb76).symm.trans h
      refine zr_iload_n F zd_XPicture_drawPiece_143 rfl ?_
      refine zr_istore F zd_XPicture_drawPiece_144 (by decide) ?_
      obtain ⟨q119, eq119, h⟩ := zoB_s h
      refine zr_loc (L' := [(0, .ref (b + v0)), (1, .ref (b + v1)), (2, .int v2), (3, .int v3), (5, .int v5), (6, .ref (b + v6)), (7, .int v7), (8, .int v8), (9, .int v2)]) ⟨rfl, rfl, rfl, rfl, rfl, rfl, rfl, rfl, rfl, trivial⟩ ?_
      refine lp_XPicture_drawPiece_146 F _ _ _ _ _ _ _ _ _ _ _ _ eq119 ?_
      ·
        refine zr_iinc (v := (q119.2.2.2.2.2.2.2.1 + 1)) F zd_XPicture_drawPiece_246 rfl rfl (by decide) ?_
        refine zr_goto F 136 zd_XPicture_drawPiece_249 (by decide) ?_
        refine zr_loc (L' := [(0, .ref (b + (q119.1))), (1, .ref (b + (q119.2.1))), (2, .int (q119.2.2.1)), (3, .int (q119.2.2.2.1)), (5, .int (q119.2.2.2.2.1)), (6, .ref (b + (q119.2.2.2.2.2.1))), (7, .int (q119.2.2.2.2.2.2.1)), (8, .int (q119.2.2.2.2.2.2.2.1 + 1))]) ⟨rfl, rfl, rfl, rfl, rfl, rfl, rfl, rfl, trivial⟩ ?_
        exact ih _ _ _ _ _ _ _ _ _ _ h hx0
def L_XPicture_drawPiece_146N (sh : zSh) (fuel : Nat) (v0 : Nat) (v1 : Nat) (v2 : Int32) (v3 : Int32) (v5 : Int32) (v7 : Int32) (v8 : Int32) (v9 : Int32) (mm : zMem) : Option (Nat × Nat × Int32 × Int32 × Int32 × Int32 × Int32 × Int32 × zMem) := match fuel with
  | 0 => none
  | fu + 1 => (if v3 < v9 then some (v0, v1, v2, v3, v5, v7, v8, v9, mm) else zoS (sh v0) 5 (fun le124 => zoL ((v8 * (mm.1 v0 4)) + v9) (fun x125 => zoS (sh v0) 5 (fun le127 => Option.bind (mm.2.2 v0 11) (fun a128 => zoS (sh a128) 6 (fun le130 => Option.bind (F_XPiece_covers sh mm a128 v9 v8) (fun p131 => (if p131.1 = 0 then L_XPicture_drawPiece_146N sh fu v0 v1 v2 v3 v5 v7 v8 (v9 + 1) (p131.2) else zoS (sh v0) 5 (fun le134 => Option.bind ((p131.2).2.2 v0 11) (fun a135 => zoS (sh a135) 6 (fun le137 => Option.bind (F_XPiece_near sh (p131.2) a135) (fun p138 => zoS (sh v0) 5 (fun le140 => Option.bind ((p138.2).2.2 v0 2) (fun a141 => zoS (sh a141) 100 (fun le143 => if (x125 : Int32) < 0 ∨ le143 ≤ (x125 : Int32).toNatClampNeg then none else (if (lg_cmp p138.1 ((((p138.2).1 a141 (x125 : Int32).toNatClampNeg) : Int32).toInt64)) ≤ 0 then L_XPicture_drawPiece_146N sh fu v0 v1 v2 v3 v5 v7 v8 (v9 + 1) (p138.2) else zoS (sh v0) 5 (fun le147 => Option.bind (F_XPicture_drawPixel sh (p138.2) v0 x125 v1 16777215) (fun p148 => L_XPicture_drawPiece_146N sh fu v0 v1 v2 v3 v5 v7 v8 (v9 + 1) p148))))))))))))))))))
set_option maxHeartbeats 4000000 in
set_option maxRecDepth 100000 in
theorem lp_XPicture_drawPiece_146N {p : Program} {l : Launch} {e : Env} {s : State} {m : MethodId} {args : Array Value} {below : List Frame} {meth : Method} {c : Code} {D : va_G} {tA : Nat → ClassId} {b n : Nat} {post : Option Value → zV → Nat → Prop} {sh : zSh} (F : zF p s m args meth c zb_XPicture_drawPiece 12 "OrreryBox$Picture" D tA b) : ∀ (fuel : Nat) (v0 : Nat) (v1 : Nat) (v2 : Int32) (v3 : Int32) (v5 : Int32) (v7 : Int32) (v8 : Int32) (v9 : Int32) (mm : zMem) (r : Nat × Nat × Int32 × Int32 × Int32 × Int32 × Int32 × Int32 × zMem), L_XPicture_drawPiece_146N sh fuel v0 v1 v2 v3 v5 v7 v8 v9 mm = some r → (Z p l e { frames := 4, cells := 0, slots := 0, locals := 116 } s m args below meth c D b 12 (MQ below (zQ D b post) args s 0 0 (fun q => b ≤ q)) (zW tA b sh r.2.2.2.2.2.2.2.2) n 0 0 246 [(0, .ref (b + (r.1))), (1, .ref (b + (r.2.1))), (2, .int (r.2.2.1)), (3, .int (r.2.2.2.1)), (5, .int (r.2.2.2.2.1)), (7, .int (r.2.2.2.2.2.1)), (8, .int (r.2.2.2.2.2.2.1)), (9, .int (r.2.2.2.2.2.2.2.1)), (6, .null)] []) → Z p l e { frames := 4, cells := 0, slots := 0, locals := 116 } s m args below meth c D b 12 (MQ below (zQ D b post) args s 0 0 (fun q => b ≤ q)) (zW tA b sh mm) n 0 0 146 [(0, .ref (b + v0)), (1, .ref (b + v1)), (2, .int v2), (3, .int v3), (5, .int v5), (7, .int v7), (8, .int v8), (9, .int v9), (6, .null)] [] := by
  intro fuel
  induction fuel with
  | zero =>
    intro v0 v1 v2 v3 v5 v7 v8 v9 mm r h
    cases h
  | succ fu ih =>
    intro v0 v1 v2 v3 v5 v7 v8 v9 mm r h hx0
    rw [L_XPicture_drawPiece_146N] at h
    refine zr_iload F zd_XPicture_drawPiece_146 rfl ?_
    refine zr_iload_n F zd_XPicture_drawPiece_148 rfl ?_
    refine zr_icmp_gt F 246 zd_XPicture_drawPiece_149 (by decide) (fun hb122 => ?_) (fun hb122 => ?_)
    ·
      replace h := (if_pos hb122).symm.trans h
      obtain rfl := Option.some.inj h
      refine zr_loc (L' := [(0, .ref (b + v0)), (1, .ref (b + v1)), (2, .int v2), (3, .int v3), (5, .int v5), (7, .int v7), (8, .int v8), (9, .int v9), (6, .null)]) ⟨rfl, rfl, rfl, rfl, rfl, rfl, rfl, rfl, rfl, trivial⟩ ?_
      exact hx0 
    ·
      replace h := (if_neg hb122).symm.trans h
      refine zr_pcn 152 rfl ?_
      refine zr_iload F zd_XPicture_drawPiece_152 rfl ?_
      refine zr_aload_n F zd_XPicture_drawPiece_154 rfl ?_
      obtain ⟨le124, hs123, h⟩ := zoS_s h
      refine zr_get F 5 4 zd_XPicture_drawPiece_155 (zW_o hs123 (by decide)) rfl (by decide) zw_437 rfl (by rfl) ?_
      refine zr_imul F zd_XPicture_drawPiece_158 ?_
      refine zr_iload F zd_XPicture_drawPiece_159 rfl ?_
      refine zr_iadd F zd_XPicture_drawPiece_161 ?_
      obtain ⟨x125, ex125, h⟩ := zoL_s h
      rw [← ex125]
      refine zr_istore F zd_XPicture_drawPiece_162 (by decide) ?_
      refine zr_aload_n F zd_XPicture_drawPiece_164 rfl ?_
      refine zr_pcn 165 rfl ?_
      obtain ⟨le127, hs126, h⟩ := zoS_s h
      obtain ⟨a128, ea128, h⟩ := zoB_s h
      refine zr_get F 5 11 zd_XPicture_drawPiece_165 (zW_o hs126 (by decide)) rfl (by decide) zw_444 rfl (by rfl) ?_
      refine zr_tor ea128 ?_
      refine zr_iload F zd_XPicture_drawPiece_168 rfl ?_
      refine zr_iload F zd_XPicture_drawPiece_170 rfl ?_
      obtain ⟨le130, hs129, h⟩ := zoS_s h
      obtain ⟨p131, ep131, h⟩ := zoB_s h
      refine zr_callV1 F (k_XPiece_covers l D tA b sh _ ep131) zd_XPicture_drawPiece_172 (zW_o hs129 (by decide)) rfl zs_XPicture_130 rfl zq_XPiece_covers rfl rfl ⟨(Nat.le_of_ble_eq_true rfl), (Nat.le_of_ble_eq_true rfl)⟩ (Nat.le_of_ble_eq_true rfl) ⟨(Nat.le_of_ble_eq_true rfl), (Nat.le_of_ble_eq_true rfl)⟩ ?_
      refine zr_if_eq F 240 zd_XPicture_drawPiece_175 (by decide) (fun hb132 => ?_) (fun hb132 => ?_)
      ·
        replace h := (if_pos hb132).symm.trans h
        refine zr_iinc (v := (v9 + 1)) F zd_XPicture_drawPiece_240 rfl rfl (by decide) ?_
        refine zr_goto F 146 zd_XPicture_drawPiece_243 (by decide) ?_
        refine zr_loc (L' := [(0, .ref (b + v0)), (1, .ref (b + v1)), (2, .int v2), (3, .int v3), (5, .int v5), (7, .int v7), (8, .int v8), (9, .int (v9 + 1)), (6, .null)]) ⟨rfl, rfl, rfl, rfl, rfl, rfl, rfl, rfl, rfl, trivial⟩ ?_
        exact ih _ _ _ _ _ _ _ _ _ _ h hx0
      ·
        replace h := (if_neg hb132).symm.trans h
        refine zr_aload_n F zd_XPicture_drawPiece_178 rfl ?_
        refine zr_pcn 179 rfl ?_
        obtain ⟨le134, hs133, h⟩ := zoS_s h
        obtain ⟨a135, ea135, h⟩ := zoB_s h
        refine zr_get F 5 11 zd_XPicture_drawPiece_179 (zW_o hs133 (by decide)) rfl (by decide) zw_444 rfl (by rfl) ?_
        refine zr_tor ea135 ?_
        obtain ⟨le137, hs136, h⟩ := zoS_s h
        obtain ⟨p138, ep138, h⟩ := zoB_s h
        refine zr_callV1 F (k_XPiece_near l D tA b sh _ ep138) zd_XPicture_drawPiece_182 (zW_o hs136 (by decide)) rfl zs_XPicture_134 rfl zq_XPiece_near rfl rfl ⟨(Nat.le_of_ble_eq_true rfl), (Nat.le_of_ble_eq_true rfl)⟩ (Nat.le_of_ble_eq_true rfl) ⟨(Nat.le_of_ble_eq_true rfl), (Nat.le_of_ble_eq_true rfl)⟩ ?_
        refine zr_aload_n F zd_XPicture_drawPiece_185 rfl ?_
        obtain ⟨le140, hs139, h⟩ := zoS_s h
        obtain ⟨a141, ea141, h⟩ := zoB_s h
        refine zr_get F 5 2 zd_XPicture_drawPiece_186 (zW_o hs139 (by decide)) rfl (by decide) zw_433 rfl (by rfl) ?_
        refine zr_tor ea141 ?_
        refine zr_iload F zd_XPicture_drawPiece_189 rfl ?_
        obtain ⟨le143, hs142, h⟩ := zoS_s h
        obtain ⟨hi144, h⟩ := zoI_s h
        refine zr_iald F zd_XPicture_drawPiece_191 (zW_a0 hs142) hi144 ?_
        refine zr_i2l F zd_XPicture_drawPiece_192 ?_
        refine zr_lcmp F zd_XPicture_drawPiece_193 ?_
        refine zr_pcn 194 rfl ?_
        refine zr_if_le F 240 zd_XPicture_drawPiece_194 (by decide) (fun hb145 => ?_) (fun hb145 => ?_)
        ·
          replace h := (if_pos hb145).symm.trans h
          refine zr_iinc (v := (v9 + 1)) F zd_XPicture_drawPiece_240 rfl rfl (by decide) ?_
          refine zr_goto F 146 zd_XPicture_drawPiece_243 (by decide) ?_
          refine zr_loc (L' := [(0, .ref (b + v0)), (1, .ref (b + v1)), (2, .int v2), (3, .int v3), (5, .int v5), (7, .int v7), (8, .int v8), (9, .int (v9 + 1)), (6, .null)]) ⟨rfl, rfl, rfl, rfl, rfl, rfl, rfl, rfl, rfl, trivial⟩ ?_
          exact ih _ _ _ _ _ _ _ _ _ _ h hx0
        ·
          replace h := (if_neg hb145).symm.trans h
          refine zr_ldc F zd_XPicture_drawPiece_197 zw_834 ?_
          refine zr_istore F zd_XPicture_drawPiece_199 (by decide) ?_
          refine zr_aloadN F zd_XPicture_drawPiece_201 rfl ?_
          refine zr_ifnullN F 231 zd_XPicture_drawPiece_203 (by decide) ?_
          refine zr_aload_n F zd_XPicture_drawPiece_231 rfl ?_
          refine zr_pcn 232 rfl ?_
          refine zr_iload F zd_XPicture_drawPiece_232 rfl ?_
          refine zr_aload_n F zd_XPicture_drawPiece_234 rfl ?_
          refine zr_iload F zd_XPicture_drawPiece_235 rfl ?_
          obtain ⟨le147, hs146, h⟩ := zoS_s h
          obtain ⟨p148, ep148, h⟩ := zoB_s h
          refine zr_callV0 F (k_XPicture_drawPixel l D tA b sh _ ep148) zd_XPicture_drawPiece_237 (zW_o hs146 (by decide)) rfl zs_XPicture_146 rfl zq_XPicture_drawPixel rfl rfl ⟨(Nat.le_of_ble_eq_true rfl), (Nat.le_of_ble_eq_true rfl)⟩ (Nat.le_of_ble_eq_true rfl) ⟨(Nat.le_of_ble_eq_true rfl), (Nat.le_of_ble_eq_true rfl)⟩ ?_
          refine zr_iinc (v := (v9 + 1)) F zd_XPicture_drawPiece_240 rfl rfl (by decide) ?_
          refine zr_loc (L' := [(0, .ref (b + v0)), (1, .ref (b + v1)), (2, .int v2), (3, .int v3), (5, .int v5), (6, .null), (7, .int v7), (8, .int v8), (9, .int (v9 + 1))]) ⟨rfl, rfl, rfl, rfl, rfl, rfl, rfl, rfl, rfl, trivial⟩ ?_
          refine zr_goto F 146 zd_XPicture_drawPiece_243 (by decide) ?_
          refine zr_loc (L' := [(0, .ref (b + v0)), (1, .ref (b + v1)), (2, .int v2), (3, .int v3), (5, .int v5), (7, .int v7), (8, .int v8), (9, .int (v9 + 1)), (6, .null)]) ⟨rfl, rfl, rfl, rfl, rfl, rfl, rfl, rfl, rfl, trivial⟩ ?_
          exact ih _ _ _ _ _ _ _ _ _ _ h hx0
def L_XPicture_drawPiece_136N (sh : zSh) (fuel : Nat) (v0 : Nat) (v1 : Nat) (v2 : Int32) (v3 : Int32) (v5 : Int32) (v7 : Int32) (v8 : Int32) (mm : zMem) : Option (Nat × Nat × Int32 × Int32 × Int32 × Int32 × Int32 × zMem) := match fuel with
  | 0 => none
  | fu + 1 => (if v5 < v8 then some (v0, v1, v2, v3, v5, v7, v8, mm) else Option.bind (L_XPicture_drawPiece_146N sh zfuel v0 v1 v2 v3 v5 v7 v8 v2 mm) (fun q149 => L_XPicture_drawPiece_136N sh fu (q149.1) (q149.2.1) (q149.2.2.1) (q149.2.2.2.1) (q149.2.2.2.2.1) (q149.2.2.2.2.2.1) (q149.2.2.2.2.2.2.1 + 1) (q149.2.2.2.2.2.2.2.2)))
set_option maxHeartbeats 4000000 in
set_option maxRecDepth 100000 in
theorem lp_XPicture_drawPiece_136N {p : Program} {l : Launch} {e : Env} {s : State} {m : MethodId} {args : Array Value} {below : List Frame} {meth : Method} {c : Code} {D : va_G} {tA : Nat → ClassId} {b n : Nat} {post : Option Value → zV → Nat → Prop} {sh : zSh} (F : zF p s m args meth c zb_XPicture_drawPiece 12 "OrreryBox$Picture" D tA b) : ∀ (fuel : Nat) (v0 : Nat) (v1 : Nat) (v2 : Int32) (v3 : Int32) (v5 : Int32) (v7 : Int32) (v8 : Int32) (mm : zMem) (r : Nat × Nat × Int32 × Int32 × Int32 × Int32 × Int32 × zMem), L_XPicture_drawPiece_136N sh fuel v0 v1 v2 v3 v5 v7 v8 mm = some r → (Z p l e { frames := 4, cells := 0, slots := 0, locals := 116 } s m args below meth c D b 12 (MQ below (zQ D b post) args s 0 0 (fun q => b ≤ q)) (zW tA b sh r.2.2.2.2.2.2.2) n 0 0 252 [(0, .ref (b + (r.1))), (1, .ref (b + (r.2.1))), (2, .int (r.2.2.1)), (3, .int (r.2.2.2.1)), (5, .int (r.2.2.2.2.1)), (7, .int (r.2.2.2.2.2.1)), (8, .int (r.2.2.2.2.2.2.1)), (6, .null)] []) → Z p l e { frames := 4, cells := 0, slots := 0, locals := 116 } s m args below meth c D b 12 (MQ below (zQ D b post) args s 0 0 (fun q => b ≤ q)) (zW tA b sh mm) n 0 0 136 [(0, .ref (b + v0)), (1, .ref (b + v1)), (2, .int v2), (3, .int v3), (5, .int v5), (7, .int v7), (8, .int v8), (6, .null)] [] := by
  intro fuel
  induction fuel with
  | zero =>
    intro v0 v1 v2 v3 v5 v7 v8 mm r h
    cases h
  | succ fu ih =>
    intro v0 v1 v2 v3 v5 v7 v8 mm r h hx0
    rw [L_XPicture_drawPiece_136N] at h
    refine zr_pcn 136 rfl ?_
    refine zr_iload F zd_XPicture_drawPiece_136 rfl ?_
    refine zr_iload F zd_XPicture_drawPiece_138 rfl ?_
    refine zr_icmp_gt F 252 zd_XPicture_drawPiece_140 (by decide) (fun hb121 => ?_) (fun hb121 => ?_)
    ·
      replace h := (if_pos hb121).symm.trans h
      obtain rfl := Option.some.inj h
      refine zr_loc (L' := [(0, .ref (b + v0)), (1, .ref (b + v1)), (2, .int v2), (3, .int v3), (5, .int v5), (7, .int v7), (8, .int v8), (6, .null)]) ⟨rfl, rfl, rfl, rfl, rfl, rfl, rfl, rfl, trivial⟩ ?_
      exact hx0 
    ·
      replace h := (if_neg hb121).symm.trans h
      refine zr_iload_n F zd_XPicture_drawPiece_143 rfl ?_
      refine zr_istore F zd_XPicture_drawPiece_144 (by decide) ?_
      obtain ⟨q149, eq149, h⟩ := zoB_s h
      refine zr_loc (L' := [(0, .ref (b + v0)), (1, .ref (b + v1)), (2, .int v2), (3, .int v3), (5, .int v5), (7, .int v7), (8, .int v8), (9, .int v2), (6, .null)]) ⟨rfl, rfl, rfl, rfl, rfl, rfl, rfl, rfl, rfl, trivial⟩ ?_
      refine lp_XPicture_drawPiece_146N F _ _ _ _ _ _ _ _ _ _ _ eq149 ?_
      ·
        refine zr_iinc (v := (q149.2.2.2.2.2.2.1 + 1)) F zd_XPicture_drawPiece_246 rfl rfl (by decide) ?_
        refine zr_goto F 136 zd_XPicture_drawPiece_249 (by decide) ?_
        refine zr_loc (L' := [(0, .ref (b + (q149.1))), (1, .ref (b + (q149.2.1))), (2, .int (q149.2.2.1)), (3, .int (q149.2.2.2.1)), (5, .int (q149.2.2.2.2.1)), (7, .int (q149.2.2.2.2.2.1)), (8, .int (q149.2.2.2.2.2.2.1 + 1)), (6, .null)]) ⟨rfl, rfl, rfl, rfl, rfl, rfl, rfl, rfl, trivial⟩ ?_
        exact ih _ _ _ _ _ _ _ _ _ h hx0
def F_XPicture_drawPiece (sh : zSh) (mm : zMem) (o : Nat) (x0_ : Nat) : Option zMem := zoS (sh o) 5 (fun le2 => zoS (sh o) 5 (fun le4 => Option.bind (mm.2.2 o 11) (fun a5 => zoS (sh a5) 6 (fun le7 => Option.bind (F_XPiece_firstPixel sh mm a5 0) (fun p8 => zoL (zx_max (mm.1 o 14) (p8.1)) (fun x10 => zoS (sh o) 5 (fun le12 => zoS (sh o) 5 (fun le14 => Option.bind ((p8.2).2.2 o 11) (fun a15 => zoS (sh a15) 6 (fun le17 => Option.bind (F_XPiece_lastPixel sh (p8.2) a15 0) (fun p18 => zoL (zx_min ((p8.2).1 o 16) (p18.1)) (fun x20 => zoS (sh o) 5 (fun le22 => zoS (sh o) 5 (fun le24 => Option.bind ((p18.2).2.2 o 11) (fun a25 => zoS (sh a25) 6 (fun le27 => Option.bind (F_XPiece_firstPixel sh (p18.2) a25 1) (fun p28 => zoL (zx_max ((p18.2).1 o 15) (p28.1)) (fun x30 => zoS (sh o) 5 (fun le32 => zoS (sh o) 5 (fun le34 => Option.bind ((p28.2).2.2 o 11) (fun a35 => zoS (sh a35) 6 (fun le37 => Option.bind (F_XPiece_lastPixel sh (p28.2) a35 1) (fun p38 => zoL (zx_min ((p28.2).1 o 17) (p38.1)) (fun x40 => (if x20 < x10 then some (p38.2) else (if x30 ≤ x40 then zoS (sh x0_) 100 (fun le44 => if (4 : Int32) < 0 ∨ le44 ≤ (4 : Int32).toNatClampNeg then none else (if 0 ≤ ((p38.2).1 x0_ (4 : Int32).toNatClampNeg) then zoS (sh o) 5 (fun le48 => Option.bind ((p38.2).2.2 o 3) (fun a49 => zoS (sh a49) 8 (fun le51 => Option.bind ((p38.2).2.2 a49 1) (fun a52 => zoS (sh x0_) 100 (fun le54 => if (4 : Int32) < 0 ∨ le54 ≤ (4 : Int32).toNatClampNeg then none else zoL ((p38.2).1 x0_ (4 : Int32).toNatClampNeg) (fun i56 => zoR (sh a52) (fun t60 le58 => if (i56 : Int32) < 0 ∨ le58 ≤ (i56 : Int32).toNatClampNeg then none else Option.bind ((p38.2).2.2 a52 (i56 : Int32).toNatClampNeg) (fun a61 => zoS (sh o) 5 (fun le63 => Option.bind ((p38.2).2.2 o 11) (fun a64 => zoS (sh a64) 6 (fun le66 => Option.bind (F_XPiece_spread sh (p38.2) a64) (fun p67 => zoS (sh o) 5 (fun le69 => Option.bind ((p67.2).2.2 o 11) (fun a70 => zoS (sh a70) 6 (fun le72 => zoS (sh a61) 10 (fun le74 => Option.bind (F_XTexture_levelFor sh (p67.2) a61 (p67.1) ((p67.2).2.1 a70 0)) (fun p75 => Option.bind (L_XPicture_drawPiece_136 sh zfuel o x0_ x10 x20 x40 a61 (p75.1) x30 (p75.2)) (fun q120 => some (q120.2.2.2.2.2.2.2.2))))))))))))))))))) else Option.bind (L_XPicture_drawPiece_136N sh zfuel o x0_ x10 x20 x40 0 x30 (p38.2)) (fun q150 => some (q150.2.2.2.2.2.2.2)))) else some (p38.2)))))))))))))))))))))))))))
set_option maxHeartbeats 4000000 in
set_option maxRecDepth 100000 in
theorem k_XPicture_drawPiece (l : Launch) (D : va_G) (tA : Nat → ClassId) (b : Nat) (sh : zSh) (n : Nat) {mm : zMem} {o : Nat} {x0_ : Nat} {r : zMem} (h : F_XPicture_drawPiece sh mm o x0_ = some r) : zM l D tA b zy_XPicture_drawPiece zb_XPicture_drawPiece 12 none 4 116 0 0 [.ref (b + o), .ref (b + x0_)] (zW tA b sh mm) n (zE none (zW tA b sh r) n) := by
  unfold F_XPicture_drawPiece at h
  refine zM_of (own := "OrreryBox$Picture") (plainFor_of_name (by decide)) rfl (Nat.le_of_ble_eq_true rfl) (fun p e s m below meth c F hr hin hH => ?_)
  refine zr_aload_n F zd_XPicture_drawPiece_0 rfl ?_
  obtain ⟨le2, hs1, h⟩ := zoS_s h
  refine zr_get F 5 14 zd_XPicture_drawPiece_1 (zW_o hs1 (by decide)) rfl (by decide) zw_447 rfl (by rfl) ?_
  refine zr_aload_n F zd_XPicture_drawPiece_4 rfl ?_
  obtain ⟨le4, hs3, h⟩ := zoS_s h
  obtain ⟨a5, ea5, h⟩ := zoB_s h
  refine zr_get F 5 11 zd_XPicture_drawPiece_5 (zW_o hs3 (by decide)) rfl (by decide) zw_444 rfl (by rfl) ?_
  refine zr_tor ea5 ?_
  refine zr_iconstv (v := 0) F zd_XPicture_drawPiece_8 (by decide) ?_
  obtain ⟨le7, hs6, h⟩ := zoS_s h
  obtain ⟨p8, ep8, h⟩ := zoB_s h
  refine zr_callV1 F (k_XPiece_firstPixel l D tA b sh _ ep8) zd_XPicture_drawPiece_9 (zW_o hs6 (by decide)) rfl zs_XPicture_103 rfl zq_XPiece_firstPixel rfl rfl ⟨(Nat.le_of_ble_eq_true rfl), (Nat.le_of_ble_eq_true rfl)⟩ (Nat.le_of_ble_eq_true rfl) ⟨(Nat.le_of_ble_eq_true rfl), (Nat.le_of_ble_eq_true rfl)⟩ ?_
  refine zr_callS1 F (c_JMath_max l D tA b _ _ (mm.1 o 14) (p8.1)) zd_XPicture_drawPiece_12 zs_XPicture_107 zq_JMath_max rfl rfl ⟨(Nat.le_of_ble_eq_true rfl), (Nat.le_of_ble_eq_true rfl)⟩ (Nat.le_of_ble_eq_true rfl) ⟨(Nat.le_of_ble_eq_true rfl), (Nat.le_of_ble_eq_true rfl)⟩ ?_
  refine zr_pcn 15 rfl ?_
  obtain ⟨x10, ex10, h⟩ := zoL_s h
  rw [← ex10]
  refine zr_istore_n F zd_XPicture_drawPiece_15 (by decide) ?_
  refine zr_aload_n F zd_XPicture_drawPiece_16 rfl ?_
  obtain ⟨le12, hs11, h⟩ := zoS_s h
  refine zr_get F 5 16 zd_XPicture_drawPiece_17 (zW_o hs11 (by decide)) rfl (by decide) zw_449 rfl (by rfl) ?_
  refine zr_aload_n F zd_XPicture_drawPiece_20 rfl ?_
  obtain ⟨le14, hs13, h⟩ := zoS_s h
  obtain ⟨a15, ea15, h⟩ := zoB_s h
  refine zr_get F 5 11 zd_XPicture_drawPiece_21 (zW_o hs13 (by decide)) rfl (by decide) zw_444 rfl (by rfl) ?_
  refine zr_tor ea15 ?_
  refine zr_iconstv (v := 0) F zd_XPicture_drawPiece_24 (by decide) ?_
  obtain ⟨le17, hs16, h⟩ := zoS_s h
  obtain ⟨p18, ep18, h⟩ := zoB_s h
  refine zr_callV1 F (k_XPiece_lastPixel l D tA b sh _ ep18) zd_XPicture_drawPiece_25 (zW_o hs16 (by decide)) rfl zs_XPicture_110 rfl zq_XPiece_lastPixel rfl rfl ⟨(Nat.le_of_ble_eq_true rfl), (Nat.le_of_ble_eq_true rfl)⟩ (Nat.le_of_ble_eq_true rfl) ⟨(Nat.le_of_ble_eq_true rfl), (Nat.le_of_ble_eq_true rfl)⟩ ?_
  refine zr_callS1 F (c_JMath_min l D tA b _ _ ((p8.2).1 o 16) (p18.1)) zd_XPicture_drawPiece_28 zs_XPicture_75 zq_JMath_min rfl rfl ⟨(Nat.le_of_ble_eq_true rfl), (Nat.le_of_ble_eq_true rfl)⟩ (Nat.le_of_ble_eq_true rfl) ⟨(Nat.le_of_ble_eq_true rfl), (Nat.le_of_ble_eq_true rfl)⟩ ?_
  refine zr_pcn 31 rfl ?_
  obtain ⟨x20, ex20, h⟩ := zoL_s h
  rw [← ex20]
  refine zr_istore_n F zd_XPicture_drawPiece_31 (by decide) ?_
  refine zr_aload_n F zd_XPicture_drawPiece_32 rfl ?_
  obtain ⟨le22, hs21, h⟩ := zoS_s h
  refine zr_get F 5 15 zd_XPicture_drawPiece_33 (zW_o hs21 (by decide)) rfl (by decide) zw_448 rfl (by rfl) ?_
  refine zr_aload_n F zd_XPicture_drawPiece_36 rfl ?_
  obtain ⟨le24, hs23, h⟩ := zoS_s h
  obtain ⟨a25, ea25, h⟩ := zoB_s h
  refine zr_get F 5 11 zd_XPicture_drawPiece_37 (zW_o hs23 (by decide)) rfl (by decide) zw_444 rfl (by rfl) ?_
  refine zr_tor ea25 ?_
  refine zr_iconstv (v := 1) F zd_XPicture_drawPiece_40 (by decide) ?_
  obtain ⟨le27, hs26, h⟩ := zoS_s h
  obtain ⟨p28, ep28, h⟩ := zoB_s h
  refine zr_callV1 F (k_XPiece_firstPixel l D tA b sh _ ep28) zd_XPicture_drawPiece_41 (zW_o hs26 (by decide)) rfl zs_XPicture_103 rfl zq_XPiece_firstPixel rfl rfl ⟨(Nat.le_of_ble_eq_true rfl), (Nat.le_of_ble_eq_true rfl)⟩ (Nat.le_of_ble_eq_true rfl) ⟨(Nat.le_of_ble_eq_true rfl), (Nat.le_of_ble_eq_true rfl)⟩ ?_
  refine zr_callS1 F (c_JMath_max l D tA b _ _ ((p18.2).1 o 15) (p28.1)) zd_XPicture_drawPiece_44 zs_XPicture_107 zq_JMath_max rfl rfl ⟨(Nat.le_of_ble_eq_true rfl), (Nat.le_of_ble_eq_true rfl)⟩ (Nat.le_of_ble_eq_true rfl) ⟨(Nat.le_of_ble_eq_true rfl), (Nat.le_of_ble_eq_true rfl)⟩ ?_
  refine zr_pcn 47 rfl ?_
  obtain ⟨x30, ex30, h⟩ := zoL_s h
  rw [← ex30]
  refine zr_istore F zd_XPicture_drawPiece_47 (by decide) ?_
  refine zr_loc (L' := [(0, .ref (b + o)), (1, .ref (b + x0_)), (2, .int x10), (3, .int x20), (4, .int x30)]) ⟨rfl, rfl, rfl, rfl, rfl, trivial⟩ ?_
  refine zr_aload_n F zd_XPicture_drawPiece_49 rfl ?_
  obtain ⟨le32, hs31, h⟩ := zoS_s h
  refine zr_get F 5 17 zd_XPicture_drawPiece_50 (zW_o hs31 (by decide)) rfl (by decide) zw_450 rfl (by rfl) ?_
  refine zr_aload_n F zd_XPicture_drawPiece_53 rfl ?_
  obtain ⟨le34, hs33, h⟩ := zoS_s h
  obtain ⟨a35, ea35, h⟩ := zoB_s h
  refine zr_get F 5 11 zd_XPicture_drawPiece_54 (zW_o hs33 (by decide)) rfl (by decide) zw_444 rfl (by rfl) ?_
  refine zr_tor ea35 ?_
  refine zr_iconstv (v := 1) F zd_XPicture_drawPiece_57 (by decide) ?_
  obtain ⟨le37, hs36, h⟩ := zoS_s h
  obtain ⟨p38, ep38, h⟩ := zoB_s h
  refine zr_callV1 F (k_XPiece_lastPixel l D tA b sh _ ep38) zd_XPicture_drawPiece_58 (zW_o hs36 (by decide)) rfl zs_XPicture_110 rfl zq_XPiece_lastPixel rfl rfl ⟨(Nat.le_of_ble_eq_true rfl), (Nat.le_of_ble_eq_true rfl)⟩ (Nat.le_of_ble_eq_true rfl) ⟨(Nat.le_of_ble_eq_true rfl), (Nat.le_of_ble_eq_true rfl)⟩ ?_
  refine zr_callS1 F (c_JMath_min l D tA b _ _ ((p28.2).1 o 17) (p38.1)) zd_XPicture_drawPiece_61 zs_XPicture_75 zq_JMath_min rfl rfl ⟨(Nat.le_of_ble_eq_true rfl), (Nat.le_of_ble_eq_true rfl)⟩ (Nat.le_of_ble_eq_true rfl) ⟨(Nat.le_of_ble_eq_true rfl), (Nat.le_of_ble_eq_true rfl)⟩ ?_
  refine zr_pcn 64 rfl ?_
  obtain ⟨x40, ex40, h⟩ := zoL_s h
  rw [← ex40]
  refine zr_istore F zd_XPicture_drawPiece_64 (by decide) ?_
  refine zr_iload_n F zd_XPicture_drawPiece_66 rfl ?_
  refine zr_iload_n F zd_XPicture_drawPiece_67 rfl ?_
  refine zr_icmp_gt F 78 zd_XPicture_drawPiece_68 (by decide) (fun hb41 => ?_) (fun hb41 => ?_)
  ·
    replace h := (if_pos hb41).symm.trans h
    obtain rfl := Option.some.inj h
    exact zr_vret F hr zd_XPicture_drawPiece_78 (Nat.le_of_ble_eq_true rfl) (Nat.le_of_ble_eq_true rfl) ⟨rfl, rfl, rfl⟩
  ·
    replace h := (if_neg hb41).symm.trans h
    refine zr_iload F zd_XPicture_drawPiece_71 rfl ?_
    refine zr_iload F zd_XPicture_drawPiece_73 rfl ?_
    refine zr_icmp_le F 79 zd_XPicture_drawPiece_75 (by decide) (fun hb42 => ?_) (fun hb42 => ?_)
    ·
      replace h := (if_pos hb42).symm.trans h
      refine zr_pcn 79 rfl ?_
      refine zr_aload_n F zd_XPicture_drawPiece_79 rfl ?_
      refine zr_iconstv (v := 4) F zd_XPicture_drawPiece_80 (by decide) ?_
      obtain ⟨le44, hs43, h⟩ := zoS_s h
      obtain ⟨hi45, h⟩ := zoI_s h
      refine zr_iald F zd_XPicture_drawPiece_81 (zW_a0 hs43) hi45 ?_
      refine zr_if_ge F 89 zd_XPicture_drawPiece_82 (by decide) (fun hb46 => ?_) (fun hb46 => ?_)
      ·
        replace h := (if_pos hb46).symm.trans h
        refine zr_aload_n F zd_XPicture_drawPiece_89 rfl ?_
        obtain ⟨le48, hs47, h⟩ := zoS_s h
        obtain ⟨a49, ea49, h⟩ := zoB_s h
        refine zr_get F 5 3 zd_XPicture_drawPiece_90 (zW_o hs47 (by decide)) rfl (by decide) zw_435 rfl (by rfl) ?_
        refine zr_tor ea49 ?_
        obtain ⟨le51, hs50, h⟩ := zoS_s h
        obtain ⟨a52, ea52, h⟩ := zoB_s h
        refine zr_get F 8 1 zd_XPicture_drawPiece_93 (zW_o hs50 (by decide)) rfl (by decide) zw_287 rfl (by rfl) ?_
        refine zr_tor ea52 ?_
        refine zr_aload_n F zd_XPicture_drawPiece_96 rfl ?_
        refine zr_pcn 97 rfl ?_
        refine zr_iconstv (v := 4) F zd_XPicture_drawPiece_97 (by decide) ?_
        obtain ⟨le54, hs53, h⟩ := zoS_s h
        obtain ⟨hi55, h⟩ := zoI_s h
        refine zr_iald F zd_XPicture_drawPiece_98 (zW_a0 hs53) hi55 ?_
        obtain ⟨i56, ei56, h⟩ := zoL_s h
        rw [← ei56]
        obtain ⟨t60, le58, hs57, h⟩ := zoR_s h
        obtain ⟨hi59, h⟩ := zoI_s h
        obtain ⟨a61, ea61, h⟩ := zoB_s h
        refine zr_aaldW F zd_XPicture_drawPiece_99 hs57 hi59 ea61 ?_
        refine zr_astore F zd_XPicture_drawPiece_100 (by decide) ?_
        refine zr_aload F zd_XPicture_drawPiece_102 rfl ?_
        refine zr_ifnonnull F 111 zd_XPicture_drawPiece_104 (by decide) ?_
        refine zr_aload F zd_XPicture_drawPiece_111 rfl ?_
        refine zr_aload_n F zd_XPicture_drawPiece_113 rfl ?_
        refine zr_pcn 114 rfl ?_
        obtain ⟨le63, hs62, h⟩ := zoS_s h
        obtain ⟨a64, ea64, h⟩ := zoB_s h
        refine zr_get F 5 11 zd_XPicture_drawPiece_114 (zW_o hs62 (by decide)) rfl (by decide) zw_444 rfl (by rfl) ?_
        refine zr_tor ea64 ?_
        obtain ⟨le66, hs65, h⟩ := zoS_s h
        obtain ⟨p67, ep67, h⟩ := zoB_s h
        refine zr_callV1 F (k_XPiece_spread l D tA b sh _ ep67) zd_XPicture_drawPiece_117 (zW_o hs65 (by decide)) rfl zs_XPicture_117 rfl zq_XPiece_spread rfl rfl ⟨(Nat.le_of_ble_eq_true rfl), (Nat.le_of_ble_eq_true rfl)⟩ (Nat.le_of_ble_eq_true rfl) ⟨(Nat.le_of_ble_eq_true rfl), (Nat.le_of_ble_eq_true rfl)⟩ ?_
        refine zr_aload_n F zd_XPicture_drawPiece_120 rfl ?_
        obtain ⟨le69, hs68, h⟩ := zoS_s h
        obtain ⟨a70, ea70, h⟩ := zoB_s h
        refine zr_get F 5 11 zd_XPicture_drawPiece_121 (zW_o hs68 (by decide)) rfl (by decide) zw_444 rfl (by rfl) ?_
        refine zr_tor ea70 ?_
        obtain ⟨le72, hs71, h⟩ := zoS_s h
        refine zr_get F 6 0 zd_XPicture_drawPiece_124 (zW_o hs71 (by decide)) rfl (by decide) zw_350 rfl (by rfl) ?_
        obtain ⟨le74, hs73, h⟩ := zoS_s h
        obtain ⟨p75, ep75, h⟩ := zoB_s h
        refine zr_callV1 F (k_XTexture_levelFor l D tA b sh _ ep75) zd_XPicture_drawPiece_127 (zW_o hs73 (by decide)) rfl zs_XPicture_124 rfl zq_XTexture_levelFor rfl rfl ⟨(Nat.le_of_ble_eq_true rfl), (Nat.le_of_ble_eq_true rfl)⟩ (Nat.le_of_ble_eq_true rfl) ⟨(Nat.le_of_ble_eq_true rfl), (Nat.le_of_ble_eq_true rfl)⟩ ?_
        refine zr_istore F zd_XPicture_drawPiece_130 (by decide) ?_
        refine zr_loc (L' := [(0, .ref (b + o)), (1, .ref (b + x0_)), (2, .int x10), (3, .int x20), (4, .int x30), (5, .int x40), (6, .ref (b + a61)), (7, .int (p75.1))]) ⟨rfl, rfl, rfl, rfl, rfl, rfl, rfl, rfl, trivial⟩ ?_
        refine zr_iload F zd_XPicture_drawPiece_132 rfl ?_
        refine zr_pcn 134 rfl ?_
        refine zr_istore F zd_XPicture_drawPiece_134 (by decide) ?_
        obtain ⟨q120, eq120, h⟩ := zoB_s h
        refine zr_loc (L' := [(0, .ref (b + o)), (1, .ref (b + x0_)), (2, .int x10), (3, .int x20), (5, .int x40), (6, .ref (b + a61)), (7, .int (p75.1)), (8, .int x30)]) ⟨rfl, rfl, rfl, rfl, rfl, rfl, rfl, rfl, trivial⟩ ?_
        refine lp_XPicture_drawPiece_136 F _ _ _ _ _ _ _ _ _ _ _ eq120 ?_
        ·
          obtain rfl := Option.some.inj h
          exact zr_vret F hr zd_XPicture_drawPiece_252 (Nat.le_of_ble_eq_true rfl) (Nat.le_of_ble_eq_true rfl) ⟨rfl, rfl, rfl⟩
      ·
        replace h := (if_neg hb46).symm.trans h
        refine zr_null F zd_XPicture_drawPiece_85 ?_
        refine zr_goto F 100 zd_XPicture_drawPiece_86 (by decide) ?_
        refine zr_pcn 100 rfl ?_
        refine zr_astoreN F zd_XPicture_drawPiece_100 (by decide) ?_
        refine zr_aloadN F zd_XPicture_drawPiece_102 rfl ?_
        refine zr_ifnonnullN F zd_XPicture_drawPiece_104 ?_
        refine zr_iconstv (v := 0) F zd_XPicture_drawPiece_107 (by decide) ?_
        refine zr_goto F 130 zd_XPicture_drawPiece_108 (by decide) ?_
        refine zr_istore F zd_XPicture_drawPiece_130 (by decide) ?_
        refine zr_loc (L' := [(0, .ref (b + o)), (1, .ref (b + x0_)), (2, .int x10), (3, .int x20), (4, .int x30), (5, .int x40), (6, .null), (7, .int 0)]) ⟨rfl, rfl, rfl, rfl, rfl, rfl, rfl, rfl, trivial⟩ ?_
        refine zr_iload F zd_XPicture_drawPiece_132 rfl ?_
        refine zr_istore F zd_XPicture_drawPiece_134 (by decide) ?_
        obtain ⟨q150, eq150, h⟩ := zoB_s h
        refine zr_loc (L' := [(0, .ref (b + o)), (1, .ref (b + x0_)), (2, .int x10), (3, .int x20), (5, .int x40), (7, .int 0), (8, .int x30), (6, .null)]) ⟨rfl, rfl, rfl, rfl, rfl, rfl, rfl, rfl, trivial⟩ ?_
        refine lp_XPicture_drawPiece_136N F _ _ _ _ _ _ _ _ _ _ eq150 ?_
        ·
          refine zr_pcn 252 rfl ?_
          obtain rfl := Option.some.inj h
          exact zr_vret F hr zd_XPicture_drawPiece_252 (Nat.le_of_ble_eq_true rfl) (Nat.le_of_ble_eq_true rfl) ⟨rfl, rfl, rfl⟩
    ·
      replace h := (if_neg hb42).symm.trans h
      obtain rfl := Option.some.inj h
      exact zr_vret F hr zd_XPicture_drawPiece_78 (Nat.le_of_ble_eq_true rfl) (Nat.le_of_ble_eq_true rfl) ⟨rfl, rfl, rfl⟩
