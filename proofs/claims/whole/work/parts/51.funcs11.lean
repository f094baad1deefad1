abbrev zb_XPicture_drawPiece : ByteArray := prog_6_method_9_code
def zy_XPicture_drawPiece : MethodName := ⟨"OrreryBox$Picture", "drawPiece", "([I)V"⟩
theorem zc_XPicture_drawPiece : Cond.code zy_XPicture_drawPiece zb_XPicture_drawPiece 12 none ∈ gw := gw_t 792 (by decide +kernel) rfl
theorem zq_XPicture_drawPiece : zy_XPicture_drawPiece.cls ≠ "java/lang/invoke/MethodHandle" ∧ zy_XPicture_drawPiece.cls ≠ "java/lang/invoke/VarHandle" ∧ (parseMethodDescriptor zy_XPicture_drawPiece.desc).map (fun d => d.parameters.length) = some 1 := by decide +kernel
theorem zd_XPicture_drawPiece_0 : decode zb_XPicture_drawPiece 0 = .ok (.aload_n 0, 1) := by decide +kernel
theorem zd_XPicture_drawPiece_1 : decode zb_XPicture_drawPiece 1 = .ok (.getfield 69, 3) := by decide +kernel
theorem zd_XPicture_drawPiece_4 : decode zb_XPicture_drawPiece 4 = .ok (.aload_n 0, 1) := by decide +kernel
theorem zd_XPicture_drawPiece_5 : decode zb_XPicture_drawPiece 5 = .ok (.getfield 24, 3) := by decide +kernel
theorem zd_XPicture_drawPiece_8 : decode zb_XPicture_drawPiece 8 = .ok (.iconst 0, 1) := by decide +kernel
theorem zd_XPicture_drawPiece_9 : decode zb_XPicture_drawPiece 9 = .ok (.invokevirtual 103, 3) := by decide +kernel
theorem zd_XPicture_drawPiece_12 : decode zb_XPicture_drawPiece 12 = .ok (.invokestatic 107, 3) := by decide +kernel
theorem zd_XPicture_drawPiece_15 : decode zb_XPicture_drawPiece 15 = .ok (.istore_n 2, 1) := by decide +kernel
theorem zd_XPicture_drawPiece_16 : decode zb_XPicture_drawPiece 16 = .ok (.aload_n 0, 1) := by decide +kernel
theorem zd_XPicture_drawPiece_17 : decode zb_XPicture_drawPiece 17 = .ok (.getfield 81, 3) := by decide +kernel
theorem zd_XPicture_drawPiece_20 : decode zb_XPicture_drawPiece 20 = .ok (.aload_n 0, 1) := by decide +kernel
theorem zd_XPicture_drawPiece_21 : decode zb_XPicture_drawPiece 21 = .ok (.getfield 24, 3) := by decide +kernel
theorem zd_XPicture_drawPiece_24 : decode zb_XPicture_drawPiece 24 = .ok (.iconst 0, 1) := by decide +kernel
theorem zd_XPicture_drawPiece_25 : decode zb_XPicture_drawPiece 25 = .ok (.invokevirtual 110, 3) := by decide +kernel
theorem zd_XPicture_drawPiece_28 : decode zb_XPicture_drawPiece 28 = .ok (.invokestatic 75, 3) := by decide +kernel
theorem zd_XPicture_drawPiece_31 : decode zb_XPicture_drawPiece 31 = .ok (.istore_n 3, 1) := by decide +kernel
theorem zd_XPicture_drawPiece_32 : decode zb_XPicture_drawPiece 32 = .ok (.aload_n 0, 1) := by decide +kernel
theorem zd_XPicture_drawPiece_33 : decode zb_XPicture_drawPiece 33 = .ok (.getfield 72, 3) := by decide +kernel
theorem zd_XPicture_drawPiece_36 : decode zb_XPicture_drawPiece 36 = .ok (.aload_n 0, 1) := by decide +kernel
theorem zd_XPicture_drawPiece_37 : decode zb_XPicture_drawPiece 37 = .ok (.getfield 24, 3) := by decide +kernel
theorem zd_XPicture_drawPiece_40 : decode zb_XPicture_drawPiece 40 = .ok (.iconst 1, 1) := by decide +kernel
theorem zd_XPicture_drawPiece_41 : decode zb_XPicture_drawPiece 41 = .ok (.invokevirtual 103, 3) := by decide +kernel
theorem zd_XPicture_drawPiece_44 : decode zb_XPicture_drawPiece 44 = .ok (.invokestatic 107, 3) := by decide +kernel
theorem zd_XPicture_drawPiece_47 : decode zb_XPicture_drawPiece 47 = .ok (.istore 4, 2) := by decide +kernel
theorem zd_XPicture_drawPiece_49 : decode zb_XPicture_drawPiece 49 = .ok (.aload_n 0, 1) := by decide +kernel
theorem zd_XPicture_drawPiece_50 : decode zb_XPicture_drawPiece 50 = .ok (.getfield 84, 3) := by decide +kernel
theorem zd_XPicture_drawPiece_53 : decode zb_XPicture_drawPiece 53 = .ok (.aload_n 0, 1) := by decide +kernel
theorem zd_XPicture_drawPiece_54 : decode zb_XPicture_drawPiece 54 = .ok (.getfield 24, 3) := by decide +kernel
theorem zd_XPicture_drawPiece_57 : decode zb_XPicture_drawPiece 57 = .ok (.iconst 1, 1) := by decide +kernel
theorem zd_XPicture_drawPiece_58 : decode zb_XPicture_drawPiece 58 = .ok (.invokevirtual 110, 3) := by decide +kernel
theorem zd_XPicture_drawPiece_61 : decode zb_XPicture_drawPiece 61 = .ok (.invokestatic 75, 3) := by decide +kernel
theorem zd_XPicture_drawPiece_64 : decode zb_XPicture_drawPiece 64 = .ok (.istore 5, 2) := by decide +kernel
theorem zd_XPicture_drawPiece_66 : decode zb_XPicture_drawPiece 66 = .ok (.iload_n 2, 1) := by decide +kernel
theorem zd_XPicture_drawPiece_67 : decode zb_XPicture_drawPiece 67 = .ok (.iload_n 3, 1) := by decide +kernel
theorem zd_XPicture_drawPiece_68 : decode zb_XPicture_drawPiece 68 = .ok (.if_icmp .gt 10, 3) := by decide +kernel
theorem zd_XPicture_drawPiece_71 : decode zb_XPicture_drawPiece 71 = .ok (.iload 4, 2) := by decide +kernel
theorem zd_XPicture_drawPiece_73 : decode zb_XPicture_drawPiece 73 = .ok (.iload 5, 2) := by decide +kernel
theorem zd_XPicture_drawPiece_75 : decode zb_XPicture_drawPiece 75 = .ok (.if_icmp .le 4, 3) := by decide +kernel
theorem zd_XPicture_drawPiece_78 : decode zb_XPicture_drawPiece 78 = .ok (.return_, 1) := by decide +kernel
theorem zd_XPicture_drawPiece_79 : decode zb_XPicture_drawPiece 79 = .ok (.aload_n 1, 1) := by decide +kernel
theorem zd_XPicture_drawPiece_80 : decode zb_XPicture_drawPiece 80 = .ok (.iconst 4, 1) := by decide +kernel
theorem zd_XPicture_drawPiece_81 : decode zb_XPicture_drawPiece 81 = .ok (.iaload, 1) := by decide +kernel
theorem zd_XPicture_drawPiece_82 : decode zb_XPicture_drawPiece 82 = .ok (.ifCond .ge 7, 3) := by decide +kernel
theorem zd_XPicture_drawPiece_85 : decode zb_XPicture_drawPiece 85 = .ok (.aconst_null, 1) := by decide +kernel
theorem zd_XPicture_drawPiece_86 : decode zb_XPicture_drawPiece 86 = .ok (.goto 14, 3) := by decide +kernel
theorem zd_XPicture_drawPiece_89 : decode zb_XPicture_drawPiece 89 = .ok (.aload_n 0, 1) := by decide +kernel
theorem zd_XPicture_drawPiece_90 : decode zb_XPicture_drawPiece 90 = .ok (.getfield 47, 3) := by decide +kernel
theorem zd_XPicture_drawPiece_93 : decode zb_XPicture_drawPiece 93 = .ok (.getfield 113, 3) := by decide +kernel
theorem zd_XPicture_drawPiece_96 : decode zb_XPicture_drawPiece 96 = .ok (.aload_n 1, 1) := by decide +kernel
theorem zd_XPicture_drawPiece_97 : decode zb_XPicture_drawPiece 97 = .ok (.iconst 4, 1) := by decide +kernel
theorem zd_XPicture_drawPiece_98 : decode zb_XPicture_drawPiece 98 = .ok (.iaload, 1) := by decide +kernel
theorem zd_XPicture_drawPiece_99 : decode zb_XPicture_drawPiece 99 = .ok (.aaload, 1) := by decide +kernel
theorem zd_XPicture_drawPiece_100 : decode zb_XPicture_drawPiece 100 = .ok (.astore 6, 2) := by decide +kernel
theorem zd_XPicture_drawPiece_102 : decode zb_XPicture_drawPiece 102 = .ok (.aload 6, 2) := by decide +kernel
theorem zd_XPicture_drawPiece_104 : decode zb_XPicture_drawPiece 104 = .ok (.ifnonnull 7, 3) := by decide +kernel
theorem zd_XPicture_drawPiece_107 : decode zb_XPicture_drawPiece 107 = .ok (.iconst 0, 1) := by decide +kernel
theorem zd_XPicture_drawPiece_108 : decode zb_XPicture_drawPiece 108 = .ok (.goto 22, 3) := by decide +kernel
theorem zd_XPicture_drawPiece_111 : decode zb_XPicture_drawPiece 111 = .ok (.aload 6, 2) := by decide +kernel
theorem zd_XPicture_drawPiece_113 : decode zb_XPicture_drawPiece 113 = .ok (.aload_n 0, 1) := by decide +kernel
theorem zd_XPicture_drawPiece_114 : decode zb_XPicture_drawPiece 114 = .ok (.getfield 24, 3) := by decide +kernel
theorem zd_XPicture_drawPiece_117 : decode zb_XPicture_drawPiece 117 = .ok (.invokevirtual 117, 3) := by decide +kernel
theorem zd_XPicture_drawPiece_120 : decode zb_XPicture_drawPiece 120 = .ok (.aload_n 0, 1) := by decide +kernel
theorem zd_XPicture_drawPiece_121 : decode zb_XPicture_drawPiece 121 = .ok (.getfield 24, 3) := by decide +kernel
theorem zd_XPicture_drawPiece_124 : decode zb_XPicture_drawPiece 124 = .ok (.getfield 121, 3) := by decide +kernel
theorem zd_XPicture_drawPiece_127 : decode zb_XPicture_drawPiece 127 = .ok (.invokevirtual 124, 3) := by decide +kernel
theorem zd_XPicture_drawPiece_130 : decode zb_XPicture_drawPiece 130 = .ok (.istore 7, 2) := by decide +kernel
theorem zd_XPicture_drawPiece_132 : decode zb_XPicture_drawPiece 132 = .ok (.iload 4, 2) := by decide +kernel
theorem zd_XPicture_drawPiece_134 : decode zb_XPicture_drawPiece 134 = .ok (.istore 8, 2) := by decide +kernel
theorem zd_XPicture_drawPiece_136 : decode zb_XPicture_drawPiece 136 = .ok (.iload 8, 2) := by decide +kernel
theorem zd_XPicture_drawPiece_138 : decode zb_XPicture_drawPiece 138 = .ok (.iload 5, 2) := by decide +kernel
theorem zd_XPicture_drawPiece_140 : decode zb_XPicture_drawPiece 140 = .ok (.if_icmp .gt 112, 3) := by decide +kernel
theorem zd_XPicture_drawPiece_143 : decode zb_XPicture_drawPiece 143 = .ok (.iload_n 2, 1) := by decide +kernel
theorem zd_XPicture_drawPiece_144 : decode zb_XPicture_drawPiece 144 = .ok (.istore 9, 2) := by decide +kernel
theorem zd_XPicture_drawPiece_146 : decode zb_XPicture_drawPiece 146 = .ok (.iload 9, 2) := by decide +kernel
theorem zd_XPicture_drawPiece_148 : decode zb_XPicture_drawPiece 148 = .ok (.iload_n 3, 1) := by decide +kernel
theorem zd_XPicture_drawPiece_149 : decode zb_XPicture_drawPiece 149 = .ok (.if_icmp .gt 97, 3) := by decide +kernel
theorem zd_XPicture_drawPiece_152 : decode zb_XPicture_drawPiece 152 = .ok (.iload 8, 2) := by decide +kernel
theorem zd_XPicture_drawPiece_154 : decode zb_XPicture_drawPiece 154 = .ok (.aload_n 0, 1) := by decide +kernel
theorem zd_XPicture_drawPiece_155 : decode zb_XPicture_drawPiece 155 = .ok (.getfield 28, 3) := by decide +kernel
theorem zd_XPicture_drawPiece_158 : decode zb_XPicture_drawPiece 158 = .ok (.imul, 1) := by decide +kernel
theorem zd_XPicture_drawPiece_159 : decode zb_XPicture_drawPiece 159 = .ok (.iload 9, 2) := by decide +kernel
theorem zd_XPicture_drawPiece_161 : decode zb_XPicture_drawPiece 161 = .ok (.iadd, 1) := by decide +kernel
theorem zd_XPicture_drawPiece_162 : decode zb_XPicture_drawPiece 162 = .ok (.istore 10, 2) := by decide +kernel
theorem zd_XPicture_drawPiece_164 : decode zb_XPicture_drawPiece 164 = .ok (.aload_n 0, 1) := by decide +kernel
theorem zd_XPicture_drawPiece_165 : decode zb_XPicture_drawPiece 165 = .ok (.getfield 24, 3) := by decide +kernel
theorem zd_XPicture_drawPiece_168 : decode zb_XPicture_drawPiece 168 = .ok (.iload 9, 2) := by decide +kernel
theorem zd_XPicture_drawPiece_170 : decode zb_XPicture_drawPiece 170 = .ok (.iload 8, 2) := by decide +kernel
theorem zd_XPicture_drawPiece_172 : decode zb_XPicture_drawPiece 172 = .ok (.invokevirtual 130, 3) := by decide +kernel
theorem zd_XPicture_drawPiece_175 : decode zb_XPicture_drawPiece 175 = .ok (.ifCond .eq 65, 3) := by decide +kernel
theorem zd_XPicture_drawPiece_178 : decode zb_XPicture_drawPiece 178 = .ok (.aload_n 0, 1) := by decide +kernel
theorem zd_XPicture_drawPiece_179 : decode zb_XPicture_drawPiece 179 = .ok (.getfield 24, 3) := by decide +kernel
theorem zd_XPicture_drawPiece_182 : decode zb_XPicture_drawPiece 182 = .ok (.invokevirtual 134, 3) := by decide +kernel
theorem zd_XPicture_drawPiece_185 : decode zb_XPicture_drawPiece 185 = .ok (.aload_n 0, 1) := by decide +kernel
theorem zd_XPicture_drawPiece_186 : decode zb_XPicture_drawPiece 186 = .ok (.getfield 44, 3) := by decide +kernel
theorem zd_XPicture_drawPiece_189 : decode zb_XPicture_drawPiece 189 = .ok (.iload 10, 2) := by decide +kernel
theorem zd_XPicture_drawPiece_191 : decode zb_XPicture_drawPiece 191 = .ok (.iaload, 1) := by decide +kernel
theorem zd_XPicture_drawPiece_192 : decode zb_XPicture_drawPiece 192 = .ok (.i2l, 1) := by decide +kernel
theorem zd_XPicture_drawPiece_193 : decode zb_XPicture_drawPiece 193 = .ok (.lcmp, 1) := by decide +kernel
theorem zd_XPicture_drawPiece_194 : decode zb_XPicture_drawPiece 194 = .ok (.ifCond .le 46, 3) := by decide +kernel
theorem zd_XPicture_drawPiece_197 : decode zb_XPicture_drawPiece 197 = .ok (.ldc 137, 2) := by decide +kernel
theorem zd_XPicture_drawPiece_199 : decode zb_XPicture_drawPiece 199 = .ok (.istore 11, 2) := by decide +kernel
theorem zd_XPicture_drawPiece_201 : decode zb_XPicture_drawPiece 201 = .ok (.aload 6, 2) := by decide +kernel
theorem zd_XPicture_drawPiece_203 : decode zb_XPicture_drawPiece 203 = .ok (.ifnull 28, 3) := by decide +kernel
theorem zd_XPicture_drawPiece_206 : decode zb_XPicture_drawPiece 206 = .ok (.aload 6, 2) := by decide +kernel
theorem zd_XPicture_drawPiece_208 : decode zb_XPicture_drawPiece 208 = .ok (.iload 7, 2) := by decide +kernel
theorem zd_XPicture_drawPiece_210 : decode zb_XPicture_drawPiece 210 = .ok (.aload_n 0, 1) := by decide +kernel
theorem zd_XPicture_drawPiece_211 : decode zb_XPicture_drawPiece 211 = .ok (.getfield 24, 3) := by decide +kernel
theorem zd_XPicture_drawPiece_214 : decode zb_XPicture_drawPiece 214 = .ok (.iconst 3, 1) := by decide +kernel
theorem zd_XPicture_drawPiece_215 : decode zb_XPicture_drawPiece 215 = .ok (.invokevirtual 138, 3) := by decide +kernel
theorem zd_XPicture_drawPiece_218 : decode zb_XPicture_drawPiece 218 = .ok (.aload_n 0, 1) := by decide +kernel
theorem zd_XPicture_drawPiece_219 : decode zb_XPicture_drawPiece 219 = .ok (.getfield 24, 3) := by decide +kernel
theorem zd_XPicture_drawPiece_222 : decode zb_XPicture_drawPiece 222 = .ok (.iconst 4, 1) := by decide +kernel
theorem zd_XPicture_drawPiece_223 : decode zb_XPicture_drawPiece 223 = .ok (.invokevirtual 138, 3) := by decide +kernel
theorem zd_XPicture_drawPiece_226 : decode zb_XPicture_drawPiece 226 = .ok (.invokevirtual 142, 3) := by decide +kernel
theorem zd_XPicture_drawPiece_229 : decode zb_XPicture_drawPiece 229 = .ok (.istore 11, 2) := by decide +kernel
theorem zd_XPicture_drawPiece_231 : decode zb_XPicture_drawPiece 231 = .ok (.aload_n 0, 1) := by decide +kernel
theorem zd_XPicture_drawPiece_232 : decode zb_XPicture_drawPiece 232 = .ok (.iload 10, 2) := by decide +kernel
theorem zd_XPicture_drawPiece_234 : decode zb_XPicture_drawPiece 234 = .ok (.aload_n 1, 1) := by decide +kernel
theorem zd_XPicture_drawPiece_235 : decode zb_XPicture_drawPiece 235 = .ok (.iload 11, 2) := by decide +kernel
theorem zd_XPicture_drawPiece_237 : decode zb_XPicture_drawPiece 237 = .ok (.invokevirtual 146, 3) := by decide +kernel
theorem zd_XPicture_drawPiece_240 : decode zb_XPicture_drawPiece 240 = .ok (.iinc 9 1, 3) := by decide +kernel
theorem zd_XPicture_drawPiece_243 : decode zb_XPicture_drawPiece 243 = .ok (.goto (-97), 3) := by decide +kernel
theorem zd_XPicture_drawPiece_246 : decode zb_XPicture_drawPiece 246 = .ok (.iinc 8 1, 3) := by decide +kernel
theorem zd_XPicture_drawPiece_249 : decode zb_XPicture_drawPiece 249 = .ok (.goto (-113), 3) := by decide +kernel
theorem zd_XPicture_drawPiece_252 : decode zb_XPicture_drawPiece 252 = .ok (.return_, 1) := by decide +kernel
theorem zw_793 : (Jvm.Cond.methodLink "OrreryBox$Picture" (103 : Nat) ({ cls := "OrreryBox$Piece", name := "firstPixel", desc := "(I)I" } : Jvm.MethodName)) ∈ gw := gw_t 793 (by decide +kernel) rfl
theorem zs_XPicture_103 : zwV "OrreryBox$Picture" 103 "OrreryBox$Piece" zy_XPiece_firstPixel zb_XPiece_firstPixel 3 (some .int) := ⟨zw_793, zw_794, zw_795, zw_11, zc_XPiece_firstPixel⟩
theorem zw_798 : (Jvm.Cond.methodLink "OrreryBox$Picture" (107 : Nat) ({ cls := "java/lang/Math", name := "max", desc := "(II)I" } : Jvm.MethodName)) ∈ gw := gw_t 798 (by decide +kernel) rfl
theorem zs_XPicture_107 : zwS "OrreryBox$Picture" 107 zy_JMath_max zb_JMath_max 2 (some .int) := ⟨zw_798, zw_124, zw_4, zc_JMath_max⟩
theorem zw_799 : (Jvm.Cond.methodLink "OrreryBox$Picture" (110 : Nat) ({ cls := "OrreryBox$Piece", name := "lastPixel", desc := "(I)I" } : Jvm.MethodName)) ∈ gw := gw_t 799 (by decide +kernel) rfl
theorem zs_XPicture_110 : zwV "OrreryBox$Picture" 110 "OrreryBox$Piece" zy_XPiece_lastPixel zb_XPiece_lastPixel 3 (some .int) := ⟨zw_799, zw_800, zw_801, zw_11, zc_XPiece_lastPixel⟩
theorem zw_780 : (Jvm.Cond.methodLink "OrreryBox$Picture" (75 : Nat) ({ cls := "java/lang/Math", name := "min", desc := "(II)I" } : Jvm.MethodName)) ∈ gw := gw_t 780 (by decide +kernel) rfl
theorem zs_XPicture_75 : zwS "OrreryBox$Picture" 75 zy_JMath_min zb_JMath_min 2 (some .int) := ⟨zw_780, zw_121, zw_4, zc_JMath_min⟩
theorem zw_287 : (Jvm.Cond.fieldLink "OrreryBox$Picture" (113 : Nat) "OrreryBox$Scene" "textures" "[LOrreryBox$Texture;") ∈ gw := gw_t 287 (by decide +kernel) rfl
theorem zw_804 : (Jvm.Cond.methodLink "OrreryBox$Picture" (117 : Nat) ({ cls := "OrreryBox$Piece", name := "spread", desc := "()J" } : Jvm.MethodName)) ∈ gw := gw_t 804 (by decide +kernel) rfl
theorem zw_805 : (Jvm.Cond.instanceMethod ({ cls := "OrreryBox$Piece", name := "spread", desc := "()J" } : Jvm.MethodName)) ∈ gw := gw_t 805 (by decide +kernel) rfl
theorem zw_806 : (Jvm.Cond.selects "OrreryBox$Piece" ({ cls := "OrreryBox$Piece", name := "spread", desc := "()J" } : Jvm.MethodName) ({ cls := "OrreryBox$Piece", name := "spread", desc := "()J" } : Jvm.MethodName)) ∈ gw := gw_t 806 (by decide +kernel) rfl
theorem zs_XPicture_117 : zwV "OrreryBox$Picture" 117 "OrreryBox$Piece" zy_XPiece_spread zb_XPiece_spread 1 (some .long) := ⟨zw_804, zw_805, zw_806, zw_11, zc_XPiece_spread⟩
theorem zw_350 : (Jvm.Cond.fieldLink "OrreryBox$Picture" (121 : Nat) "OrreryBox$Piece" "area" "J") ∈ gw := gw_t 350 (by decide +kernel) rfl
theorem zw_811 : (Jvm.Cond.methodLink "OrreryBox$Picture" (124 : Nat) ({ cls := "OrreryBox$Texture", name := "levelFor", desc := "(JJ)I" } : Jvm.MethodName)) ∈ gw := gw_t 811 (by decide +kernel) rfl
theorem zw_812 : (Jvm.Cond.instanceMethod ({ cls := "OrreryBox$Texture", name := "levelFor", desc := "(JJ)I" } : Jvm.MethodName)) ∈ gw := gw_t 812 (by decide +kernel) rfl
theorem zw_813 : (Jvm.Cond.selects "OrreryBox$Texture" ({ cls := "OrreryBox$Texture", name := "levelFor", desc := "(JJ)I" } : Jvm.MethodName) ({ cls := "OrreryBox$Texture", name := "levelFor", desc := "(JJ)I" } : Jvm.MethodName)) ∈ gw := gw_t 813 (by decide +kernel) rfl
theorem zs_XPicture_124 : zwV "OrreryBox$Picture" 124 "OrreryBox$Texture" zy_XTexture_levelFor zb_XTexture_levelFor 10 (some .int) := ⟨zw_811, zw_812, zw_813, zw_6, zc_XTexture_levelFor⟩
theorem zw_817 : (Jvm.Cond.methodLink "OrreryBox$Picture" (130 : Nat) ({ cls := "OrreryBox$Piece", name := "covers", desc := "(II)Z" } : Jvm.MethodName)) ∈ gw := gw_t 817 (by decide +kernel) rfl
theorem zw_818 : (Jvm.Cond.instanceMethod ({ cls := "OrreryBox$Piece", name := "covers", desc := "(II)Z" } : Jvm.MethodName)) ∈ gw := gw_t 818 (by decide +kernel) rfl
theorem zw_819 : (Jvm.Cond.selects "OrreryBox$Piece" ({ cls := "OrreryBox$Piece", name := "covers", desc := "(II)Z" } : Jvm.MethodName) ({ cls := "OrreryBox$Piece", name := "covers", desc := "(II)Z" } : Jvm.MethodName)) ∈ gw := gw_t 819 (by decide +kernel) rfl
theorem zs_XPicture_130 : zwV "OrreryBox$Picture" 130 "OrreryBox$Piece" zy_XPiece_covers zb_XPiece_covers 5 (some .boolean) := ⟨zw_817, zw_818, zw_819, zw_11, zc_XPiece_covers⟩
theorem zw_834 : (Jvm.Cond.constant "OrreryBox$Picture" (137 : Nat) (16777215 : Int32)) ∈ gw := gw_t 834 (by decide +kernel) rfl
theorem zw_839 : (Jvm.Cond.methodLink "OrreryBox$Picture" (142 : Nat) ({ cls := "OrreryBox$Texture", name := "colourAt", desc := "(IJJ)I" } : Jvm.MethodName)) ∈ gw := gw_t 839 (by decide +kernel) rfl
theorem zw_840 : (Jvm.Cond.instanceMethod ({ cls := "OrreryBox$Texture", name := "colourAt", desc := "(IJJ)I" } : Jvm.MethodName)) ∈ gw := gw_t 840 (by decide +kernel) rfl
theorem zw_841 : (Jvm.Cond.selects "OrreryBox$Texture" ({ cls := "OrreryBox$Texture", name := "colourAt", desc := "(IJJ)I" } : Jvm.MethodName) ({ cls := "OrreryBox$Texture", name := "colourAt", desc := "(IJJ)I" } : Jvm.MethodName)) ∈ gw := gw_t 841 (by decide +kernel) rfl
theorem zs_XPicture_142 : zwV "OrreryBox$Picture" 142 "OrreryBox$Texture" zy_XTexture_colourAt zb_XTexture_colourAt 8 (some .int) := ⟨zw_839, zw_840, zw_841, zw_6, zc_XTexture_colourAt⟩
theorem zw_856 : (Jvm.Cond.methodLink "OrreryBox$Picture" (146 : Nat) ({ cls := "OrreryBox$Picture", name := "drawPixel", desc := "(I[II)V" } : Jvm.MethodName)) ∈ gw := gw_t 856 (by decide +kernel) rfl
theorem zw_858 : (Jvm.Cond.instanceMethod ({ cls := "OrreryBox$Picture", name := "drawPixel", desc := "(I[II)V" } : Jvm.MethodName)) ∈ gw := gw_t 858 (by decide +kernel) rfl
theorem zv_24 : (Jvm.Cond.selects "OrreryBox$Picture" (⟨"OrreryBox$Picture", "drawPixel", "(I[II)V"⟩ : MethodName) ⟨"OrreryBox$Picture", "drawPixel", "(I[II)V"⟩) ∈ gw := gw_s 24 (by decide +kernel) rfl
theorem zs_XPicture_146 : zwV "OrreryBox$Picture" 146 "OrreryBox$Picture" zy_XPicture_drawPixel zb_XPicture_drawPixel 11 none := ⟨zw_856, zw_858, zv_24, zw_12, zc_XPicture_drawPixel⟩
def L_XPicture_drawPiece_146 (sh : zSh) (fuel : Nat) (v0 : Nat) (v1 : Nat) (v2 : Int32) (v3 : Int32) (v5 : Int32) (v6 : Nat) (v7 : Int32) (v8 : Int32) (v9 : Int32) (mm : zMem) : Option (Nat × Nat × Int32 × Int32 × Int32 × Nat × Int32 × Int32 × Int32 × zMem) := match fuel with
  | 0 => none
  | fu + 1 => (if v3 < v9 then some (v0, v1, v2, v3, v5, v6, v7, v8, v9, mm) else zoS (sh v0) 5 (fun le79 => zoL ((v8 * (mm.1 v0 4)) + v9) (fun x80 => zoS (sh v0) 5 (fun le82 => Option.bind (mm.2.2 v0 11) (fun a83 => zoS (sh a83) 6 (fun le85 => Option.bind (F_XPiece_covers sh mm a83 v9 v8) (fun p86 => (if p86.1 = 0 then L_XPicture_drawPiece_146 sh fu v0 v1 v2 v3 v5 v6 v7 v8 (v9 + 1) (p86.2) else zoS (sh v0) 5 (fun le89 => Option.bind ((p86.2).2.2 v0 11) (fun a90 => zoS (sh a90) 6 (fun le92 => Option.bind (F_XPiece_near sh (p86.2) a90) (fun p93 => zoS (sh v0) 5 (fun le95 => Option.bind ((p93.2).2.2 v0 2) (fun a96 => zoS (sh a96) 100 (fun le98 => if (x80 : Int32) < 0 ∨ le98 ≤ (x80 : Int32).toNatClampNeg then none else (if (lg_cmp p93.1 ((((p93.2).1 a96 (x80 : Int32).toNatClampNeg) : Int32).toInt64)) ≤ 0 then L_XPicture_drawPiece_146 sh fu v0 v1 v2 v3 v5 v6 v7 v8 (v9 + 1) (p93.2) else zoS (sh v0) 5 (fun le102 => Option.bind ((p93.2).2.2 v0 11) (fun a103 => zoS (sh a103) 6 (fun le105 => Option.bind (F_XPiece_mixed sh (p93.2) a103 3) (fun p106 => zoS (sh v0) 5 (fun le108 => Option.bind ((p106.2).2.2 v0 11) (fun a109 => zoS (sh a109) 6 (fun le111 => Option.bind (F_XPiece_mixed sh (p106.2) a109 4) (fun p112 => zoS (sh v6) 10 (fun le114 => Option.bind (F_XTexture_colourAt sh (p112.2) v6 v7 (p106.1) (p112.1)) (fun p115 => zoS (sh v0) 5 (fun le117 => Option.bind (F_XPicture_drawPixel sh (p115.2) v0 x80 v1 (p115.1)) (fun p118 => L_XPicture_drawPiece_146 sh fu v0 v1 v2 v3 v5 v6 v7 v8 (v9 + 1) p118))))))))))))))))))))))))))))
set_option maxHeartbeats 4000000 in
set_option maxRecDepth 100000 in
theorem lp_XPicture_drawPiece_146 {p : Program} {l : Launch} {e : Env} {s : State} {m : MethodId} {args : Array Value} {below : List Frame} {meth : Method} {c : Code} {D : va_G} {tA : Nat → ClassId} {b n : Nat} {post : Option Value → zV → Nat → Prop} {sh : zSh} (F : zF p s m args meth c zb_XPicture_drawPiece 12 "OrreryBox$Picture" D tA b) : ∀ (fuel : Nat) (v0 : Nat) (v1 : Nat) (v2 : Int32) (v3 : Int32) (v5 : Int32) (v6 : Nat) (v7 : Int32) (v8 : Int32) (v9 : Int32) (mm : zMem) (r : Nat × Nat × Int32 × Int32 × Int32 × Nat × Int32 × Int32 × Int32 × zMem), L_XPicture_drawPiece_146 sh fuel v0 v1 v2 v3 v5 v6 v7 v8 v9 mm = some r → (Z p l e { frames := 4, cells := 0, slots := 0, locals := 116 } s m args below meth c D b 12 (MQ below (zQ D b post) args s 0 0 (fun q => b ≤ q)) (zW tA b sh r.2.2.2.2.2.2.2.2.2) n 0 0 246 [(0, .ref (b + (r.1))), (1, .ref (b + (r.2.1))), (2, .int (r.2.2.1)), (3, .int (r.2.2.2.1)), (5, .int (r.2.2.2.2.1)), (6, .ref (b + (r.2.2.2.2.2.1))), (7, .int (r.2.2.2.2.2.2.1)), (8, .int (r.2.2.2.2.2.2.2.1)), (9, .int (r.2.2.2.2.2.2.2.2.1))] []) → Z p l e { frames := 4, cells := 0, slots := 0, locals := 116 } s m args below meth c D b 12 (MQ below (zQ D b post) args s 0 0 (fun q => b ≤ q)) (zW tA b sh mm) n 0 0 146 [(0, .ref (b + v0)), (1, .ref (b + v1)), (2, .int v2), (3, .int v3), (5, .int v5), (6, .ref (b + v6)), (7, .int v7), (8, .int v8), (9, .int v9)] [] := by
  intro fuel
  induction fuel with
  | zero =>
    intro v0 v1 v2 v3 v5 v6 v7 v8 v9 mm r h
    cases h
  | succ fu ih =>
    intro v0 v1 v2 v3 v5 v6 v7 v8 v9 mm r h hx0
    rw [L_XPicture_drawPiece_146] at h
    refine zr_iload F zd_XPicture_drawPiece_146 rfl ?_
    refine zr_iload_n F zd_XPicture_drawPiece_148 rfl ?_
    refine zr_pcn 149 rfl ?_
    refine zr_icmp_gt F 246 zd_XPicture_drawPiece_149 (by decide) (fun hb77 => ?_) (fun hb77 => ?_)
    ·
      rw [if_pos hb77] at h
      obtain rfl := Option.some.inj h
      refine zr_loc (L' := [(0, .ref (b + v0)), (1, .ref (b + v1)), (2, .int v2), (3, .int v3), (5, .int v5), (6, .ref (b + v6)), (7, .int v7), (8, .int v8), (9, .int v9)]) ⟨rfl, rfl, rfl, rfl, rfl, rfl, rfl, rfl, rfl, trivial⟩ ?_
      exact hx0 
    ·
      rw [if_neg hb77] at h
      refine zr_iload F zd_XPicture_drawPiece_152 rfl ?_
      refine zr_aload_n F zd_XPicture_drawPiece_154 rfl ?_
      obtain ⟨le79, hs78, h⟩ := zoS_s h
      refine zr_get F 5 4 zd_XPicture_drawPiece_155 (zW_o hs78 (by decide)) rfl (by decide) zw_437 rfl (by rfl) ?_
      refine zr_imul F zd_XPicture_drawPiece_158 ?_
      refine zr_iload F zd_XPicture_drawPiece_159 rfl ?_
      refine zr_iadd F zd_XPicture_drawPiece_161 ?_
      obtain ⟨x80, ex80, h⟩ := zoL_s h
      rw [← ex80]
      refine zr_istore F zd_XPicture_drawPiece_162 (by decide) ?_
      refine zr_pcn 164 rfl ?_
      refine zr_aload_n F zd_XPicture_drawPiece_164 rfl ?_
      obtain ⟨le82, hs81, h⟩ := zoS_s h
      obtain ⟨a83, ea83, h⟩ := zoB_s h
      refine zr_get F 5 11 zd_XPicture_drawPiece_165 (zW_o hs81 (by decide)) rfl (by decide) zw_444 rfl (by rfl) ?_
      refine zr_tor ea83 ?_
      refine zr_iload F zd_XPicture_drawPiece_168 rfl ?_
      refine zr_iload F zd_XPicture_drawPiece_170 rfl ?_
      obtain ⟨le85, hs84, h⟩ := zoS_s h
      obtain ⟨p86, ep86, h⟩ := zoB_s h
      refine zr_callV1 F (k_XPiece_covers l D tA b sh _ ep86) zd_XPicture_drawPiece_172 (zW_o hs84 (by decide)) rfl zs_XPicture_130 rfl zq_XPiece_covers rfl rfl ⟨(Nat.le_of_ble_eq_true rfl), (Nat.le_of_ble_eq_true rfl)⟩ (Nat.le_of_ble_eq_true rfl) ⟨(Nat.le_of_ble_eq_true rfl), (Nat.le_of_ble_eq_true rfl)⟩ ?_
      refine zr_if_eq F 240 zd_XPicture_drawPiece_175 (by decide) (fun hb87 => ?_) (fun hb87 => ?_)
      ·
        rw [if_pos hb87] at h
        refine zr_iinc (v := (v9 + 1)) F zd_XPicture_drawPiece_240 rfl rfl (by decide) ?_
        refine zr_goto F 146 zd_XPicture_drawPiece_243 (by decide) ?_
        refine zr_loc (L' := [(0, .ref (b + v0)), (1, .ref (b + v1)), (2, .int v2), (3, .int v3), (5, .int v5), (6, .ref (b + v6)), (7, .int v7), (8, .int v8), (9, .int (v9 + 1))]) ⟨rfl, rfl, rfl, rfl, rfl, rfl, rfl, rfl, rfl, trivial⟩ ?_
        exact ih _ _ _ _ _ _ _ _ _ _ _ h hx0
      ·
        rw [if_neg hb87] at h
        refine zr_pcn 178 rfl ?_
        refine zr_aload_n F zd_XPicture_drawPiece_178 rfl ?_
        obtain ⟨le89, hs88, h⟩ := zoS_s h
        obtain ⟨a90, ea90, h⟩ := zoB_s h
        refine zr_get F 5 11 zd_XPicture_drawPiece_179 (zW_o hs88 (by decide)) rfl (by decide) zw_444 rfl (by rfl) ?_
        refine zr_tor ea90 ?_
        obtain ⟨le92, hs91, h⟩ := zoS_s h
        obtain ⟨p93, ep93, h⟩ := zoB_s h
        refine zr_callV1 F (k_XPiece_near l D tA b sh _ ep93) zd_XPicture_drawPiece_182 (zW_o hs91 (by decide)) rfl zs_XPicture_134 rfl zq_XPiece_near rfl rfl ⟨(Nat.le_of_ble_eq_true rfl), (Nat.le_of_ble_eq_true rfl)⟩ (Nat.le_of_ble_eq_true rfl) ⟨(Nat.le_of_ble_eq_true rfl), (Nat.le_of_ble_eq_true rfl)⟩ ?_
        refine zr_aload_n F zd_XPicture_drawPiece_185 rfl ?_
        obtain ⟨le95, hs94, h⟩ := zoS_s h
        obtain ⟨a96, ea96, h⟩ := zoB_s h
        refine zr_get F 5 2 zd_XPicture_drawPiece_186 (zW_o hs94 (by decide)) rfl (by decide) zw_433 rfl (by rfl) ?_
        refine zr_tor ea96 ?_
        refine zr_iload F zd_XPicture_drawPiece_189 rfl ?_
        obtain ⟨le98, hs97, h⟩ := zoS_s h
        obtain ⟨hi99, h⟩ := zoI_s h
        refine zr_iald F zd_XPicture_drawPiece_191 (zW_a0 hs97) hi99 ?_
        refine zr_i2l F zd_XPicture_drawPiece_192 ?_
        refine zr_pcn 193 rfl ?_
        refine zr_lcmp F zd_XPicture_drawPiece_193 ?_
        refine zr_if_le F 240 zd_XPicture_drawPiece_194 (by decide) (fun hb100 => ?_) (fun hb100 => ?_)
        ·
          rw [if_pos hb100] at h
          refine zr_iinc (v := (v9 + 1)) F zd_XPicture_drawPiece_240 rfl rfl (by decide) ?_
          refine zr_goto F 146 zd_XPicture_drawPiece_243 (by decide) ?_
          refine zr_loc (L' := [(0, .ref (b + v0)), (1, .ref (b + v1)), (2, .int v2), (3, .int v3), (5, .int v5), (6, .ref (b + v6)), (7, .int v7), (8, .int v8), (9, .int (v9 + 1))]) ⟨rfl, rfl, rfl, rfl, rfl, rfl, rfl, rfl, rfl, trivial⟩ ?_
          exact ih _ _ _ _ _ _ _ _ _ _ _ h hx0
        ·
          rw [if_neg hb100] at h
          refine zr_ldc F zd_XPicture_drawPiece_197 zw_834 ?_
          refine zr_istore F zd_XPicture_drawPiece_199 (by decide) ?_
          refine zr_aload F zd_XPicture_drawPiece_201 rfl ?_
          refine zr_ifnull F zd_XPicture_drawPiece_203 ?_
          refine zr_pcn 206 rfl ?_
          refine zr_aload F zd_XPicture_drawPiece_206 rfl ?_
          refine zr_iload F zd_XPicture_drawPiece_208 rfl ?_
          refine zr_aload_n F zd_XPicture_drawPiece_210 rfl ?_
          obtain ⟨le102, hs101, h⟩ := zoS_s h
          obtain ⟨a103, ea103, h⟩ := zoB_s h
          refine zr_get F 5 11 zd_XPicture_drawPiece_211 (zW_o hs101 (by decide)) rfl (by decide) zw_444 rfl (by rfl) ?_
          refine zr_tor ea103 ?_
          refine zr_iconstv (v := 3) F zd_XPicture_drawPiece_214 (by decide) ?_
          obtain ⟨le105, hs104, h⟩ := zoS_s h
          obtain ⟨p106, ep106, h⟩ := zoB_s h
          refine zr_callV1 F (k_XPiece_mixed l D tA b sh _ ep106) zd_XPicture_drawPiece_215 (zW_o hs104 (by decide)) rfl zs_XPicture_138 rfl zq_XPiece_mixed rfl rfl ⟨(Nat.le_of_ble_eq_true rfl), (Nat.le_of_ble_eq_true rfl)⟩ (Nat.le_of_ble_eq_true rfl) ⟨(Nat.le_of_ble_eq_true rfl), (Nat.le_of_ble_eq_true rfl)⟩ ?_
          refine zr_aload_n F zd_XPicture_drawPiece_218 rfl ?_
          obtain ⟨le108, hs107, h⟩ := zoS_s h
          obtain ⟨a109, ea109, h⟩ := zoB_s h
          refine zr_get F 5 11 zd_XPicture_drawPiece_219 (zW_o hs107 (by decide)) rfl (by decide) zw_444 rfl (by rfl) ?_
          refine zr_tor ea109 ?_
          refine zr_pcn 222 rfl ?_
          refine zr_iconstv (v := 4) F zd_XPicture_drawPiece_222 (by decide) ?_
          obtain ⟨le111, hs110, h⟩ := zoS_s h
          obtain ⟨p112, ep112, h⟩ := zoB_s h
          refine zr_callV1 F (k_XPiece_mixed l D tA b sh _ ep112) zd_XPicture_drawPiece_223 (zW_o hs110 (by decide)) rfl zs_XPicture_138 rfl zq_XPiece_mixed rfl rfl ⟨(Nat.le_of_ble_eq_true rfl), (Nat.le_of_ble_eq_true rfl)⟩ (Nat.le_of_ble_eq_true rfl) ⟨(Nat.le_of_ble_eq_true rfl), (Nat.le_of_ble_eq_true rfl)⟩ ?_
          obtain ⟨le114, hs113, h⟩ := zoS_s h
          obtain ⟨p115, ep115, h⟩ := zoB_s h
          refine zr_callV1 F (k_XTexture_colourAt l D tA b sh _ ep115) zd_XPicture_drawPiece_226 (zW_o hs113 (by decide)) rfl zs_XPicture_142 rfl zq_XTexture_colourAt rfl rfl ⟨(Nat.le_of_ble_eq_true rfl), (Nat.le_of_ble_eq_true rfl)⟩ (Nat.le_of_ble_eq_true rfl) ⟨(Nat.le_of_ble_eq_true rfl), (Nat.le_of_ble_eq_true rfl)⟩ ?_
          refine zr_istore F zd_XPicture_drawPiece_229 (by decide) ?_
          refine zr_aload_n F zd_XPicture_drawPiece_231 rfl ?_
          refine zr_iload F zd_XPicture_drawPiece_232 rfl ?_
          refine zr_aload_n F zd_XPicture_drawPiece_234 rfl ?_
          refine zr_iload F zd_XPicture_drawPiece_235 rfl ?_
          refine zr_pcn 237 rfl ?_
          obtain ⟨le117, hs116, h⟩ := zoS_s h
          obtain ⟨p118, ep118, h⟩ := zoB_s h
          refine zr_callV0 F (k_XPicture_drawPixel l D tA b sh _ ep118) zd_XPicture_drawPiece_237 (zW_o hs116 (by decide)) rfl zs_XPicture_146 rfl zq_XPicture_drawPixel rfl rfl ⟨(Nat.le_of_ble_eq_true rfl), (Nat.le_of_ble_eq_true rfl)⟩ (Nat.le_of_ble_eq_true rfl) ⟨(Nat.le_of_ble_eq_true rfl), (Nat.le_of_ble_eq_true rfl)⟩ ?_
          refine zr_iinc (v := (v9 + 1)) F zd_XPicture_drawPiece_240 rfl rfl (by decide) ?_
          refine zr_goto F 146 zd_XPicture_drawPiece_243 (by decide) ?_
          refine zr_loc (L' := [(0, .ref (b + v0)), (1, .ref (b + v1)), (2, .int v2), (3, .int v3), (5, .int v5), (6, .ref (b + v6)), (7, .int v7), (8, .int v8), (9, .int (v9 + 1))]) ⟨rfl, rfl, rfl, rfl, rfl, rfl, rfl, rfl, rfl, trivial⟩ ?_
          exact ih _ _ _ _ _ _ _ _ _ _ _ h hx0
def L_XPicture_drawPiece_136 (sh : zSh) (fuel : Nat) (v0 : Nat) (v1 : Nat) (v2 : Int32) (v3 : Int32) (v5 : Int32) (v6 : Nat) (v7 : Int32) (v8 : Int32) (mm : zMem) : Option (Nat × Nat × Int32 × Int32 × Int32 × Nat × Int32 × Int32 × zMem) := match fuel with
  | 0 => none
  | fu + 1 => (if v5 < v8 then some (v0, v1, v2, v3, v5, v6, v7, v8, mm) else Option.bind (L_XPicture_drawPiece_146 sh zfuel v0 v1 v2 v3 v5 v6 v7 v8 v2 mm) (fun q119 => L_XPicture_drawPiece_136 sh fu (q119.1) (q119.2.1) (q119.2.2.1) (q119.2.2.2.1) (q119.2.2.2.2.1) (q119.2.2.2.2.2.1) (q119.2.2.2.2.2.2.1) (q119.2.2.2.2.2.2.2.1 + 1) (q119.2.2.2.2.2.2.2.2.2)))
set_option maxHeartbeats 4000000 in
set_option maxRecDepth 100000 in
theorem lp_XPicture_drawPiece_136 {p : Program} {l : Launch} {e : Env} {s : State} {m : MethodId} {args : Array Value} {below : List Frame} {meth : Method} {c : Code} {D : va_G} {tA : Nat → ClassId} {b n : Nat} {post : Option Value → zV → Nat → Prop} {sh : zSh} (F : zF p s m args meth c zb_XPicture_drawPiece 12 "OrreryBox$Picture" D tA b) : ∀ (fuel : Nat) (v0 : Nat) (v1 : Nat) (v2 : Int32) (v3 : Int32) (v5 : Int32) (v6 : Nat) (v7 : Int32) (v8 : Int32) (mm : zMem) (r : Nat × Nat × Int32 × Int32 × Int32 × Nat × Int32 × Int32 × zMem), L_XPicture_drawPiece_136 sh fuel v0 v1 v2 v3 v5 v6 v7 v8 mm = some r → (Z p l e { frames := 4, cells := 0, slots := 0, locals := 116 } s m args below meth c D b 12 (MQ below (zQ D b post) args s 0 0 (fun q => b ≤ q)) (zW tA b sh r.2.2.2.2.2.2.2.2) n 0 0 252 [(0, .ref (b + (r.1))), (1, .ref (b + (r.2.1))), (2, .int (r.2.2.1)), (3, .int (r.2.2.2.1)), (5, .int (r.2.2.2.2.1)), (6, .ref (b + (r.2.2.2.2.2.1))), (7, .int (r.2.2.2.2.2.2.1)), (8, .int (r.2.2.2.2.2.2.2.1))] []) → Z p l e { frames := 4, cells := 0, slots := 0, locals := 116 } s m args below meth c D b 12 (MQ below (zQ D b post) args s 0 0 (fun q => b ≤ q)) (zW tA b sh mm) n 0 0 136 [(0, .ref (b + v0)), (1, .ref (b + v1)), (2, .int v2), (3, .int v3), (5, .int v5), (6, .ref (b + v6)), (7, .int v7), (8, .int v8)] [] := by
  intro fuel
  induction fuel with
  | zero =>
    intro v0 v1 v2 v3 v5 v6 v7 v8 mm r h
    cases h
  | succ fu ih =>
    intro v0 v1 v2 v3 v5 v6 v7 v8 mm r h hx0
    rw [L_XPicture_drawPiece_136] at h
    refine zr_iload F zd_XPicture_drawPiece_136 rfl ?_
    refine zr_iload F zd_XPicture_drawPiece_138 rfl ?_
    refine zr_icmp_gt F 252 zd_XPicture_drawPiece_140 (by decide) (fun hb76 => ?_) (fun hb76 => ?_)
    ·
      rw [if_pos hb76] at h
      obtain rfl := Option.some.inj h
      refine zr_loc (L' := [(0, .ref (b + v0)), (1, .ref (b + v1)), (2, .int v2), (3, .int v3), (5, .int v5), (6, .ref (b + v6)), (7, .int v7), (8, .int v8)]) ⟨rfl, rfl, rfl, rfl, rfl, rfl, rfl, rfl, trivial⟩ ?_
      exact hx0 
    ·
      rw [if_neg hb76] at h
      refine zr_iload_n F zd_XPicture_drawPiece_143 rfl ?_
      refine zr_istore F zd_XPicture_drawPiece_144 (by decide) ?_
      obtain ⟨q119, eq119, h⟩ := zoB_s h
      refine zr_loc (L' := [(0, .ref (b + v0)), (1, .ref (b + v1)), (2, .int v2), (3, .int v3), (5, .int v5), (6, .ref (b + v6)), (7, .int v7), (8, .int v8), (9, .int v2)]) ⟨rfl, rfl, rfl, rfl, rfl, rfl, rfl, rfl, rfl, trivial⟩ ?_
      refine lp_XPicture_drawPiece_146 F _ _ _ _ _ _ _ _ _ _ _ _ eq119 ?_
      ·
        refine zr_iinc (v := (q119.2.2.2.2.2.2.2.1 + 1)) F zd_XPicture_drawPiece_246 rfl rfl (by decide) ?_
        refine zr_goto F 136 zd_XPicture_drawPiece_249 (by decide) ?_
        refine zr_loc (L' := [(0, .ref (b + (q119.1))), (1, .ref (b + (q119.2.1))), (2, .int (q119.2.2.1)), (3, .int (q119.2.2.2.1)), (5, .int (q119.2.2.2.2.1)), (6, .ref (b + (q119.2.2.2.2.2.1))), (7, .int (q119.2.2.2.2.2.2.1)), (8, .int (q119.2.2.2.2.2.2.2.1 + 1))]) ⟨rfl, rfl, rfl, rfl, rfl, rfl, rfl, rfl, trivial⟩ ?_
        exact ih _ _ _ _ _ _ _ _ _ _ h hx0
def L_XPicture_drawPiece_146N (sh : zSh) (fuel : Nat) (v0 : Nat) (v1 : Nat) (v2 : Int32) (v3 : Int32) (v5 : Int32) (v7 : Int32) (v8 : Int32) (v9 : Int32) (mm : zMem) : Option (Nat × Nat × Int32 × Int32 × Int32 × Int32 × Int32 × Int32 × zMem) := match fuel with
  | 0 => none
  | fu + 1 => (if v3 < v9 then some (v0, v1, v2, v3, v5, v7, v8, v9, mm) else zoS (sh v0) 5 (fun le124 => zoL ((v8 * (mm.1 v0 4)) + v9) (fun x125 => zoS (sh v0) 5 (fun le127 => Option.bind (mm.2.2 v0 11) (fun a128 => zoS (sh a128) 6 (fun le130 => Option.bind (F_XPiece_covers sh mm a128 v9 v8) (fun p131 => (if p131.1 = 0 then L_XPicture_drawPiece_146N sh fu v0 v1 v2 v3 v5 v7 v8 (v9 + 1) (p131.2) else zoS (sh v0) 5 (fun le134 => Option.bind ((p131.2).2.2 v0 11) (fun a135 => zoS (sh a135) 6 (fun le137 => Option.bind (F_XPiece_near sh (p131.2) a135) (fun p138 => zoS (sh v0) 5 (fun le140 => Option.bind ((p138.2).2.2 v0 2) (fun a141 => zoS (sh a141) 100 (fun le143 => if (x125 : Int32) < 0 ∨ le143 ≤ (x125 : Int32).toNatClampNeg then none else (if (lg_cmp p138.1 ((((p138.2).1 a141 (x125 : Int32).toNatClampNeg) : Int32).toInt64)) ≤ 0 then L_XPicture_drawPiece_146N sh fu v0 v1 v2 v3 v5 v7 v8 (v9 + 1) (p138.2) else zoS (sh v0) 5 (fun le147 => Option.bind (F_XPicture_drawPixel sh (p138.2) v0 x125 v1 16777215) (fun p148 => L_XPicture_drawPiece_146N sh fu v0 v1 v2 v3 v5 v7 v8 (v9 + 1) p148))))))))))))))))))
set_option maxHeartbeats 4000000 in
set_option maxRecDepth 100000 in
theorem lp_XPicture_drawPiece_146N {p : Program} {l : Launch} {e : Env} {s : State} {m : MethodId} {args : Array Value} {below : List Frame} {meth : Method} {c : Code} {D : va_G} {tA : Nat → ClassId} {b n : Nat} {post : Option Value → zV → Nat → Prop} {sh : zSh} (F : zF p s m args meth c zb_XPicture_drawPiece 12 "OrreryBox$Picture" D tA b) : ∀ (fuel : Nat) (v0 : Nat) (v1 : Nat) (v2 : Int32) (v3 : Int32) (v5 : Int32) (v7 : Int32) (v8 : Int32) (v9 : Int32) (mm : zMem) (r : Nat × Nat × Int32 × Int32 × Int32 × Int32 × Int32 × Int32 × zMem), L_XPicture_drawPiece_146N sh fuel v0 v1 v2 v3 v5 v7 v8 v9 mm = some r → (Z p l e { frames := 4, cells := 0, slots := 0, locals := 116 } s m args below meth c D b 12 (MQ below (zQ D b post) args s 0 0 (fun q => b ≤ q)) (zW tA b sh r.2.2.2.2.2.2.2.2) n 0 0 246 [(0, .ref (b + (r.1))), (1, .ref (b + (r.2.1))), (2, .int (r.2.2.1)), (3, .int (r.2.2.2.1)), (5, .int (r.2.2.2.2.1)), (7, .int (r.2.2.2.2.2.1)), (8, .int (r.2.2.2.2.2.2.1)), (9, .int (r.2.2.2.2.2.2.2.1))] []) → Z p l e { frames := 4, cells := 0, slots := 0, locals := 116 } s m args below meth c D b 12 (MQ below (zQ D b post) args s 0 0 (fun q => b ≤ q)) (zW tA b sh mm) n 0 0 146 [(0, .ref (b + v0)), (1, .ref (b + v1)), (2, .int v2), (3, .int v3), (5, .int v5), (7, .int v7), (8, .int v8), (9, .int v9)] [] := by
  intro fuel
  induction fuel with
  | zero =>
    intro v0 v1 v2 v3 v5 v7 v8 v9 mm r h
    cases h
  | succ fu ih =>
    intro v0 v1 v2 v3 v5 v7 v8 v9 mm r h hx0
    rw [L_XPicture_drawPiece_146N] at h
    refine zr_iload F zd_XPicture_drawPiece_146 rfl ?_
    refine zr_iload_n F zd_XPicture_drawPiece_148 rfl ?_
    refine zr_icmp_gt F 246 zd_XPicture_drawPiece_149 (by decide) (fun hb122 => ?_) (fun hb122 => ?_)
    ·
      rw [if_pos hb122] at h
      obtain rfl := Option.some.inj h
      refine zr_loc (L' := [(0, .ref (b + v0)), (1, .ref (b + v1)), (2, .int v2), (3, .int v3), (5, .int v5), (7, .int v7), (8, .int v8), (9, .int v9)]) ⟨rfl, rfl, rfl, rfl, rfl, rfl, rfl, rfl, trivial⟩ ?_
      exact hx0 
    ·
      rw [if_neg hb122] at h
      refine zr_pcn 152 rfl ?_
      refine zr_iload F zd_XPicture_drawPiece_152 rfl ?_
      refine zr_aload_n F zd_XPicture_drawPiece_154 rfl ?_
      obtain ⟨le124, hs123, h⟩ := zoS_s h
      refine zr_get F 5 4 zd_XPicture_drawPiece_155 (zW_o hs123 (by decide)) rfl (by decide) zw_437 rfl (by rfl) ?_
      refine zr_imul F zd_XPicture_drawPiece_158 ?_
      refine zr_iload F zd_XPicture_drawPiece_159 rfl ?_
      refine zr_iadd F zd_XPicture_drawPiece_161 ?_
      obtain ⟨x125, ex125, h⟩ := zoL_s h
      rw [← ex125]
      refine zr_istore F zd_XPicture_drawPiece_162 (by decide) ?_
      refine zr_aload_n F zd_XPicture_drawPiece_164 rfl ?_
      refine zr_pcn 165 rfl ?_
      obtain ⟨le127, hs126, h⟩ := zoS_s h
      obtain ⟨a128, ea128, h⟩ := zoB_s h
      refine zr_get F 5 11 zd_XPicture_drawPiece_165 (zW_o hs126 (by decide)) rfl (by decide) zw_444 rfl (by rfl) ?_
      refine zr_tor ea128 ?_
      refine zr_iload F zd_XPicture_drawPiece_168 rfl ?_
      refine zr_iload F zd_XPicture_drawPiece_170 rfl ?_
      obtain ⟨le130, hs129, h⟩ := zoS_s h
      obtain ⟨p131, ep131, h⟩ := zoB_s h
      refine zr_callV1 F (k_XPiece_covers l D tA b sh _ ep131) zd_XPicture_drawPiece_172 (zW_o hs129 (by decide)) rfl zs_XPicture_130 rfl zq_XPiece_covers rfl rfl ⟨(Nat.le_of_ble_eq_true rfl), (Nat.le_of_ble_eq_true rfl)⟩ (Nat.le_of_ble_eq_true rfl) ⟨(Nat.le_of_ble_eq_true rfl), (Nat.le_of_ble_eq_true rfl)⟩ ?_
      refine zr_if_eq F 240 zd_XPicture_drawPiece_175 (by decide) (fun hb132 => ?_) (fun hb132 => ?_)
      ·
        rw [if_pos hb132] at h
        refine zr_iinc (v := (v9 + 1)) F zd_XPicture_drawPiece_240 rfl rfl (by decide) ?_
        refine zr_goto F 146 zd_XPicture_drawPiece_243 (by decide) ?_
        refine zr_loc (L' := [(0, .ref (b + v0)), (1, .ref (b + v1)), (2, .int v2), (3, .int v3), (5, .int v5), (7, .int v7), (8, .int v8), (9, .int (v9 + 1))]) ⟨rfl, rfl, rfl, rfl, rfl, rfl, rfl, rfl, trivial⟩ ?_
        exact ih _ _ _ _ _ _ _ _ _ _ h hx0
      ·
        rw [if_neg hb132] at h
        refine zr_aload_n F zd_XPicture_drawPiece_178 rfl ?_
        refine zr_pcn 179 rfl ?_
        obtain ⟨le134, hs133, h⟩ := zoS_s h
        obtain ⟨a135, ea135, h⟩ := zoB_s h
        refine zr_get F 5 11 zd_XPicture_drawPiece_179 (zW_o hs133 (by decide)) rfl (by decide) zw_444 rfl (by rfl) ?_
        refine zr_tor ea135 ?_
        obtain ⟨le137, hs136, h⟩ := zoS_s h
        obtain ⟨p138, ep138, h⟩ := zoB_s h
        refine zr_callV1 F (k_XPiece_near l D tA b sh _ ep138) zd_XPicture_drawPiece_182 (zW_o hs136 (by decide)) rfl zs_XPicture_134 rfl zq_XPiece_near rfl rfl ⟨(Nat.le_of_ble_eq_true rfl), (Nat.le_of_ble_eq_true rfl)⟩ (Nat.le_of_ble_eq_true rfl) ⟨(Nat.le_of_ble_eq_true rfl), (Nat.le_of_ble_eq_true rfl)⟩ ?_
        refine zr_aload_n F zd_XPicture_drawPiece_185 rfl ?_
        obtain ⟨le140, hs139, h⟩ := zoS_s h
        obtain ⟨a141, ea141, h⟩ := zoB_s h
        refine zr_get F 5 2 zd_XPicture_drawPiece_186 (zW_o hs139 (by decide)) rfl (by decide) zw_433 rfl (by rfl) ?_
        refine zr_tor ea141 ?_
        refine zr_iload F zd_XPicture_drawPiece_189 rfl ?_
        obtain ⟨le143, hs142, h⟩ := zoS_s h
        obtain ⟨hi144, h⟩ := zoI_s h
        refine zr_iald F zd_XPicture_drawPiece_191 (zW_a0 hs142) hi144 ?_
        refine zr_i2l F zd_XPicture_drawPiece_192 ?_
        refine zr_lcmp F zd_XPicture_drawPiece_193 ?_
        refine zr_pcn 194 rfl ?_
        refine zr_if_le F 240 zd_XPicture_drawPiece_194 (by decide) (fun hb145 => ?_) (fun hb145 => ?_)
        ·
          rw [if_pos hb145] at h
          refine zr_iinc (v := (v9 + 1)) F zd_XPicture_drawPiece_240 rfl rfl (by decide) ?_
          refine zr_goto F 146 zd_XPicture_drawPiece_243 (by decide) ?_
          refine zr_loc (L' := [(0, .ref (b + v0)), (1, .ref (b + v1)), (2, .int v2), (3, .int v3), (5, .int v5), (7, .int v7), (8, .int v8), (9, .int (v9 + 1))]) ⟨rfl, rfl, rfl, rfl, rfl, rfl, rfl, rfl, trivial⟩ ?_
          exact ih _ _ _ _ _ _ _ _ _ _ h hx0
        ·
          rw [if_neg hb145] at h
          refine zr_ldc F zd_XPicture_drawPiece_197 zw_834 ?_
          refine zr_istore F zd_XPicture_drawPiece_199 (by decide) ?_
          refine zr_aloadN F zd_XPicture_drawPiece_201 rfl ?_
          refine zr_ifnullN F 231 zd_XPicture_drawPiece_203 (by decide) ?_
          refine zr_aload_n F zd_XPicture_drawPiece_231 rfl ?_
          refine zr_pcn 232 rfl ?_
          refine zr_iload F zd_XPicture_drawPiece_232 rfl ?_
          refine zr_aload_n F zd_XPicture_drawPiece_234 rfl ?_
          refine zr_iload F zd_XPicture_drawPiece_235 rfl ?_
          obtain ⟨le147, hs146, h⟩ := zoS_s h
          obtain ⟨p148, ep148, h⟩ := zoB_s h
          refine zr_callV0 F (k_XPicture_drawPixel l D tA b sh _ ep148) zd_XPicture_drawPiece_237 (zW_o hs146 (by decide)) rfl zs_XPicture_146 rfl zq_XPicture_drawPixel rfl rfl ⟨(Nat.le_of_ble_eq_true rfl), (Nat.le_of_ble_eq_true rfl)⟩ (Nat.le_of_ble_eq_true rfl) ⟨(Nat.le_of_ble_eq_true rfl), (Nat.le_of_ble_eq_true rfl)⟩ ?_
          refine zr_iinc (v := (v9 + 1)) F zd_XPicture_drawPiece_240 rfl rfl (by decide) ?_
          refine zr_goto F 146 zd_XPicture_drawPiece_243 (by decide) ?_
          refine zr_loc (L' := [(0, .ref (b + v0)), (1, .ref (b + v1)), (2, .int v2), (3, .int v3), (5, .int v5), (7, .int v7), (8, .int v8), (9, .int (v9 + 1))]) ⟨rfl, rfl, rfl, rfl, rfl, rfl, rfl, rfl, trivial⟩ ?_
          exact ih _ _ _ _ _ _ _ _ _ _ h hx0
def L_XPicture_drawPiece_136N (sh : zSh) (fuel : Nat) (v0 : Nat) (v1 : Nat) (v2 : Int32) (v3 : Int32) (v5 : Int32) (v7 : Int32) (v8 : Int32) (mm : zMem) : Option (Nat × Nat × Int32 × Int32 × Int32 × Int32 × Int32 × zMem) := match fuel with
  | 0 => none
  | fu + 1 => (if v5 < v8 then some (v0, v1, v2, v3, v5, v7, v8, mm) else Option.bind (L_XPicture_drawPiece_146N sh zfuel v0 v1 v2 v3 v5 v7 v8 v2 mm) (fun q149 => L_XPicture_drawPiece_136N sh fu (q149.1) (q149.2.1) (q149.2.2.1) (q149.2.2.2.1) (q149.2.2.2.2.1) (q149.2.2.2.2.2.1) (q149.2.2.2.2.2.2.1 + 1) (q149.2.2.2.2.2.2.2.2)))
set_option maxHeartbeats 4000000 in
set_option maxRecDepth 100000 in
theorem lp_XPicture_drawPiece_136N {p : Program} {l : Launch} {e : Env} {s : State} {m : MethodId} {args : Array Value} {below : List Frame} {meth : Method} {c : Code} {D : va_G} {tA : Nat → ClassId} {b n : Nat} {post : Option Value → zV → Nat → Prop} {sh : zSh} (F : zF p s m args meth c zb_XPicture_drawPiece 12 "OrreryBox$Picture" D tA b) : ∀ (fuel : Nat) (v0 : Nat) (v1 : Nat) (v2 : Int32) (v3 : Int32) (v5 : Int32) (v7 : Int32) (v8 : Int32) (mm : zMem) (r : Nat × Nat × Int32 × Int32 × Int32 × Int32 × Int32 × zMem), L_XPicture_drawPiece_136N sh fuel v0 v1 v2 v3 v5 v7 v8 mm = some r → (Z p l e { frames := 4, cells := 0, slots := 0, locals := 116 } s m args below meth c D b 12 (MQ below (zQ D b post) args s 0 0 (fun q => b ≤ q)) (zW tA b sh r.2.2.2.2.2.2.2) n 0 0 252 [(0, .ref (b + (r.1))), (1, .ref (b + (r.2.1))), (2, .int (r.2.2.1)), (3, .int (r.2.2.2.1)), (5, .int (r.2.2.2.2.1)), (7, .int (r.2.2.2.2.2.1)), (8, .int (r.2.2.2.2.2.2.1))] []) → Z p l e { frames := 4, cells := 0, slots := 0, locals := 116 } s m args below meth c D b 12 (MQ below (zQ D b post) args s 0 0 (fun q => b ≤ q)) (zW tA b sh mm) n 0 0 136 [(0, .ref (b + v0)), (1, .ref (b + v1)), (2, .int v2), (3, .int v3), (5, .int v5), (7, .int v7), (8, .int v8)] [] := by
  intro fuel
  induction fuel with
  | zero =>
    intro v0 v1 v2 v3 v5 v7 v8 mm r h
    cases h
  | succ fu ih =>
    intro v0 v1 v2 v3 v5 v7 v8 mm r h hx0
    rw [L_XPicture_drawPiece_136N] at h
    refine zr_pcn 136 rfl ?_
    refine zr_iload F zd_XPicture_drawPiece_136 rfl ?_
    refine zr_iload F zd_XPicture_drawPiece_138 rfl ?_
    refine zr_icmp_gt F 252 zd_XPicture_drawPiece_140 (by decide) (fun hb121 => ?_) (fun hb121 => ?_)
    ·
      rw [if_pos hb121] at h
      obtain rfl := Option.some.inj h
      refine zr_loc (L' := [(0, .ref (b + v0)), (1, .ref (b + v1)), (2, .int v2), (3, .int v3), (5, .int v5), (7, .int v7), (8, .int v8)]) ⟨rfl, rfl, rfl, rfl, rfl, rfl, rfl, trivial⟩ ?_
      exact hx0 
    ·
      rw [if_neg hb121] at h
      refine zr_iload_n F zd_XPicture_drawPiece_143 rfl ?_
      refine zr_istore F zd_XPicture_drawPiece_144 (by decide) ?_
      obtain ⟨q149, eq149, h⟩ := zoB_s h
      refine zr_loc (L' := [(0, .ref (b + v0)), (1, .ref (b + v1)), (2, .int v2), (3, .int v3), (5, .int v5), (7, .int v7), (8, .int v8), (9, .int v2)]) ⟨rfl, rfl, rfl, rfl, rfl, rfl, rfl, rfl, trivial⟩ ?_
      refine lp_XPicture_drawPiece_146N F _ _ _ _ _ _ _ _ _ _ _ eq149 ?_
      ·
        refine zr_iinc (v := (q149.2.2.2.2.2.2.1 + 1)) F zd_XPicture_drawPiece_246 rfl rfl (by decide) ?_
        refine zr_goto F 136 zd_XPicture_drawPiece_249 (by decide) ?_
        refine zr_loc (L' := [(0, .ref (b + (q149.1))), (1, .ref (b + (q149.2.1))), (2, .int (q149.2.2.1)), (3, .int (q149.2.2.2.1)), (5, .int (q149.2.2.2.2.1)), (7, .int (q149.2.2.2.2.2.1)), (8, .int (q149.2.2.2.2.2.2.1 + 1))]) ⟨rfl, rfl, rfl, rfl, rfl, rfl, rfl, trivial⟩ ?_
        exact ih _ _ _ _ _ _ _ _ _ h hx0
def F_XPicture_drawPiece (sh : zSh) (mm : zMem) (o : Nat) (x0_ : Nat) : Option zMem := zoS (sh o) 5 (fun le2 => zoS (sh o) 5 (fun le4 => Option.bind (mm.2.2 o 11) (fun a5 => zoS (sh a5) 6 (fun le7 => Option.bind (F_XPiece_firstPixel sh mm a5 0) (fun p8 => zoL (zx_max (mm.1 o 14) (p8.1)) (fun x10 => zoS (sh o) 5 (fun le12 => zoS (sh o) 5 (fun le14 => Option.bind ((p8.2).2.2 o 11) (fun a15 => zoS (sh a15) 6 (fun le17 => Option.bind (F_XPiece_lastPixel sh (p8.2) a15 0) (fun p18 => zoL (zx_min ((p8.2).1 o 16) (p18.1)) (fun x20 => zoS (sh o) 5 (fun le22 => zoS (sh o) 5 (fun le24 => Option.bind ((p18.2).2.2 o 11) (fun a25 => zoS (sh a25) 6 (fun le27 => Option.bind (F_XPiece_firstPixel sh (p18.2) a25 1) (fun p28 => zoL (zx_max ((p18.2).1 o 15) (p28.1)) (fun x30 => zoS (sh o) 5 (fun le32 => zoS (sh o) 5 (fun le34 => Option.bind ((p28.2).2.2 o 11) (fun a35 => zoS (sh a35) 6 (fun le37 => Option.bind (F_XPiece_lastPixel sh (p28.2) a35 1) (fun p38 => zoL (zx_min ((p28.2).1 o 17) (p38.1)) (fun x40 => (if x20 < x10 then some (p38.2) else (if x30 ≤ x40 then zoS (sh x0_) 100 (fun le44 => if (4 : Int32) < 0 ∨ le44 ≤ (4 : Int32).toNatClampNeg then none else (if 0 ≤ ((p38.2).1 x0_ (4 : Int32).toNatClampNeg) then zoS (sh o) 5 (fun le48 => Option.bind ((p38.2).2.2 o 3) (fun a49 => zoS (sh a49) 8 (fun le51 => Option.bind ((p38.2).2.2 a49 1) (fun a52 => zoS (sh x0_) 100 (fun le54 => if (4 : Int32) < 0 ∨ le54 ≤ (4 : Int32).toNatClampNeg then none else zoL ((p38.2).1 x0_ (4 : Int32).toNatClampNeg) (fun i56 => zoR (sh a52) (fun t60 le58 => if (i56 : Int32) < 0 ∨ le58 ≤ (i56 : Int32).toNatClampNeg then none else Option.bind ((p38.2).2.2 a52 (i56 : Int32).toNatClampNeg) (fun a61 => zoS (sh o) 5 (fun le63 => Option.bind ((p38.2).2.2 o 11) (fun a64 => zoS (sh a64) 6 (fun le66 => Option.bind (F_XPiece_spread sh (p38.2) a64) (fun p67 => zoS (sh o) 5 (fun le69 => Option.bind ((p67.2).2.2 o 11) (fun a70 => zoS (sh a70) 6 (fun le72 => zoS (sh a61) 10 (fun le74 => Option.bind (F_XTexture_levelFor sh (p67.2) a61 (p67.1) ((p67.2).2.1 a70 0)) (fun p75 => Option.bind (L_XPicture_drawPiece_136 sh zfuel o x0_ x10 x20 x40 a61 (p75.1) x30 (p75.2)) (fun q120 => some (q120.2.2.2.2.2.2.2.2))))))))))))))))))) else Option.bind (L_XPicture_drawPiece_136N sh zfuel o x0_ x10 x20 x40 0 x30 (p38.2)) (fun q150 => some (q150.2.2.2.2.2.2.2)))) else some (p38.2)))))))))))))))))))))))))))
set_option maxHeartbeats 4000000 in
set_option maxRecDepth 100000 in
theorem k_XPicture_drawPiece (l : Launch) (D : va_G) (tA : Nat → ClassId) (b : Nat) (sh : zSh) (n : Nat) {mm : zMem} {o : Nat} {x0_ : Nat} {r : zMem} (h : F_XPicture_drawPiece sh mm o x0_ = some r) : zM l D tA b zy_XPicture_drawPiece zb_XPicture_drawPiece 12 none 4 116 0 0 [.ref (b + o), .ref (b + x0_)] (zW tA b sh mm) n (zE none (zW tA b sh r) n) := by
  unfold F_XPicture_drawPiece at h
  refine zM_of (own := "OrreryBox$Picture") (plainFor_of_name (by decide)) rfl (Nat.le_of_ble_eq_true rfl) (fun p e s m below meth c F hr hin hH => ?_)
  refine zr_aload_n F zd_XPicture_drawPiece_0 rfl ?_
  obtain ⟨le2, hs1, h⟩ := zoS_s h
  refine zr_get F 5 14 zd_XPicture_drawPiece_1 (zW_o hs1 (by decide)) rfl (by decide) zw_447 rfl (by rfl) ?_
  refine zr_aload_n F zd_XPicture_drawPiece_4 rfl ?_
  obtain ⟨le4, hs3, h⟩ := zoS_s h
  obtain ⟨a5, ea5, h⟩ := zoB_s h
  refine zr_get F 5 11 zd_XPicture_drawPiece_5 (zW_o hs3 (by decide)) rfl (by decide) zw_444 rfl (by rfl) ?_
  refine zr_tor ea5 ?_
  refine zr_iconstv (v := 0) F zd_XPicture_drawPiece_8 (by decide) ?_
  obtain ⟨le7, hs6, h⟩ := zoS_s h
  obtain ⟨p8, ep8, h⟩ := zoB_s h
  refine zr_callV1 F (k_XPiece_firstPixel l D tA b sh _ ep8) zd_XPicture_drawPiece_9 (zW_o hs6 (by decide)) rfl zs_XPicture_103 rfl zq_XPiece_firstPixel rfl rfl ⟨(Nat.le_of_ble_eq_true rfl), (Nat.le_of_ble_eq_true rfl)⟩ (Nat.le_of_ble_eq_true rfl) ⟨(Nat.le_of_ble_eq_true rfl), (Nat.le_of_ble_eq_true rfl)⟩ ?_
  refine zr_callS1 F (c_JMath_max l D tA b _ _ (mm.1 o 14) (p8.1)) zd_XPicture_drawPiece_12 zs_XPicture_107 zq_JMath_max rfl rfl ⟨(Nat.le_of_ble_eq_true rfl), (Nat.le_of_ble_eq_true rfl)⟩ (Nat.le_of_ble_eq_true rfl) ⟨(Nat.le_of_ble_eq_true rfl), (Nat.le_of_ble_eq_true rfl)⟩ ?_
  refine zr_pcn 15 rfl ?_
  obtain ⟨x10, ex10, h⟩ := zoL_s h
  rw [← ex10]
  refine zr_istore_n F zd_XPicture_drawPiece_15 (by decide) ?_
  refine zr_aload_n F zd_XPicture_drawPiece_16 rfl ?_
  obtain ⟨le12, hs11, h⟩ := zoS_s h
  refine zr_get F 5 16 zd_XPicture_drawPiece_17 (zW_o hs11 (by decide)) rfl (by decide) zw_449 rfl (by rfl) ?_
  refine zr_aload_n F zd_XPicture_drawPiece_20 rfl ?_
  obtain ⟨le14, hs13, h⟩ := zoS_s h
  obtain ⟨a15, ea15, h⟩ := zoB_s h
  refine zr_get F 5 11 zd_XPicture_drawPiece_21 (zW_o hs13 (by decide)) rfl (by decide) zw_444 rfl (by rfl) ?_
  refine zr_tor ea15 ?_
  refine zr_iconstv (v := 0) F zd_XPicture_drawPiece_24 (by decide) ?_
  obtain ⟨le17, hs16, h⟩ := zoS_s h
  obtain ⟨p18, ep18, h⟩ := zoB_s h
  refine zr_callV1 F (k_XPiece_lastPixel l D tA b sh _ ep18) zd_XPicture_drawPiece_25 (zW_o hs16 (by decide)) rfl zs_XPicture_110 rfl zq_XPiece_lastPixel rfl rfl ⟨(Nat.le_of_ble_eq_true rfl), (Nat.le_of_ble_eq_true rfl)⟩ (Nat.le_of_ble_eq_true rfl) ⟨(Nat.le_of_ble_eq_true rfl), (Nat.le_of_ble_eq_true rfl)⟩ ?_
  refine zr_callS1 F (c_JMath_min l D tA b _ _ ((p8.2).1 o 16) (p18.1)) zd_XPicture_drawPiece_28 zs_XPicture_75 zq_JMath_min rfl rfl ⟨(Nat.le_of_ble_eq_true rfl), (Nat.le_of_ble_eq_true rfl)⟩ (Nat.le_of_ble_eq_true rfl) ⟨(Nat.le_of_ble_eq_true rfl), (Nat.le_of_ble_eq_true rfl)⟩ ?_
  refine zr_pcn 31 rfl ?_
  obtain ⟨x20, ex20, h⟩ := zoL_s h
  rw [← ex20]
  refine zr_istore_n F zd_XPicture_drawPiece_31 (by decide) ?_
  refine zr_aload_n F zd_XPicture_drawPiece_32 rfl ?_
  obtain ⟨le22, hs21, h⟩ := zoS_s h
  refine zr_get F 5 15 zd_XPicture_drawPiece_33 (zW_o hs21 (by decide)) rfl (by decide) zw_448 rfl (by rfl) ?_
  refine zr_aload_n F zd_XPicture_drawPiece_36 rfl ?_
  obtain ⟨le24, hs23, h⟩ := zoS_s h
  obtain ⟨a25, ea25, h⟩ := zoB_s h
  refine zr_get F 5 11 zd_XPicture_drawPiece_37 (zW_o hs23 (by decide)) rfl (by decide) zw_444 rfl (by rfl) ?_
  refine zr_tor ea25 ?_
  refine zr_iconstv (v := 1) F zd_XPicture_drawPiece_40 (by decide) ?_
  obtain ⟨le27, hs26, h⟩ := zoS_s h
  obtain ⟨p28, ep28, h⟩ := zoB_s h
  refine zr_callV1 F (k_XPiece_firstPixel l D tA b sh _ ep28) zd_XPicture_drawPiece_41 (zW_o hs26 (by decide)) rfl zs_XPicture_103 rfl zq_XPiece_firstPixel rfl rfl ⟨(Nat.le_of_ble_eq_true rfl), (Nat.le_of_ble_eq_true rfl)⟩ (Nat.le_of_ble_eq_true rfl) ⟨(Nat.le_of_ble_eq_true rfl), (Nat.le_of_ble_eq_true rfl)⟩ ?_
  refine zr_callS1 F (c_JMath_max l D tA b _ _ ((p18.2).1 o 15) (p28.1)) zd_XPicture_drawPiece_44 zs_XPicture_107 zq_JMath_max rfl rfl ⟨(Nat.le_of_ble_eq_true rfl), (Nat.le_of_ble_eq_true rfl)⟩ (Nat.le_of_ble_eq_true rfl) ⟨(Nat.le_of_ble_eq_true rfl), (Nat.le_of_ble_eq_true rfl)⟩ ?_
  refine zr_pcn 47 rfl ?_
  obtain ⟨x30, ex30, h⟩ := zoL_s h
  rw [← ex30]
  refine zr_istore F zd_XPicture_drawPiece_47 (by decide) ?_
  refine zr_aload_n F zd_XPicture_drawPiece_49 rfl ?_
  obtain ⟨le32, hs31, h⟩ := zoS_s h
  refine zr_get F 5 17 zd_XPicture_drawPiece_50 (zW_o hs31 (by decide)) rfl (by decide) zw_450 rfl (by rfl) ?_
  refine zr_aload_n F zd_XPicture_drawPiece_53 rfl ?_
  obtain ⟨le34, hs33, h⟩ := zoS_s h
  obtain ⟨a35, ea35, h⟩ := zoB_s h
  refine zr_get F 5 11 zd_XPicture_drawPiece_54 (zW_o hs33 (by decide)) rfl (by decide) zw_444 rfl (by rfl) ?_
  refine zr_tor ea35 ?_
  refine zr_iconstv (v := 1) F zd_XPicture_drawPiece_57 (by decide) ?_
  obtain ⟨le37, hs36, h⟩ := zoS_s h
  obtain ⟨p38, ep38, h⟩ := zoB_s h
  refine zr_callV1 F (k_XPiece_lastPixel l D tA b sh _ ep38) zd_XPicture_drawPiece_58 (zW_o hs36 (by decide)) rfl zs_XPicture_110 rfl zq_XPiece_lastPixel rfl rfl ⟨(Nat.le_of_ble_eq_true rfl), (Nat.le_of_ble_eq_true rfl)⟩ (Nat.le_of_ble_eq_true rfl) ⟨(Nat.le_of_ble_eq_true rfl), (Nat.le_of_ble_eq_true rfl)⟩ ?_
  refine zr_callS1 F (c_JMath_min l D tA b _ _ ((p28.2).1 o 17) (p38.1)) zd_XPicture_drawPiece_61 zs_XPicture_75 zq_JMath_min rfl rfl ⟨(Nat.le_of_ble_eq_true rfl), (Nat.le_of_ble_eq_true rfl)⟩ (Nat.le_of_ble_eq_true rfl) ⟨(Nat.le_of_ble_eq_true rfl), (Nat.le_of_ble_eq_true rfl)⟩ ?_
  refine zr_pcn 64 rfl ?_
  obtain ⟨x40, ex40, h⟩ := zoL_s h
  rw [← ex40]
  refine zr_istore F zd_XPicture_drawPiece_64 (by decide) ?_
  refine zr_iload_n F zd_XPicture_drawPiece_66 rfl ?_
  refine zr_iload_n F zd_XPicture_drawPiece_67 rfl ?_
  refine zr_icmp_gt F 78 zd_XPicture_drawPiece_68 (by decide) (fun hb41 => ?_) (fun hb41 => ?_)
  ·
    rw [if_pos hb41] at h
    obtain rfl := Option.some.inj h
    exact zr_vret F hr zd_XPicture_drawPiece_78 (Nat.le_of_ble_eq_true rfl) (Nat.le_of_ble_eq_true rfl) ⟨rfl, rfl, rfl⟩
  ·
    rw [if_neg hb41] at h
    refine zr_iload F zd_XPicture_drawPiece_71 rfl ?_
    refine zr_iload F zd_XPicture_drawPiece_73 rfl ?_
    refine zr_icmp_le F 79 zd_XPicture_drawPiece_75 (by decide) (fun hb42 => ?_) (fun hb42 => ?_)
    ·
      rw [if_pos hb42] at h
      refine zr_pcn 79 rfl ?_
      refine zr_aload_n F zd_XPicture_drawPiece_79 rfl ?_
      refine zr_iconstv (v := 4) F zd_XPicture_drawPiece_80 (by decide) ?_
      obtain ⟨le44, hs43, h⟩ := zoS_s h
      obtain ⟨hi45, h⟩ := zoI_s h
      refine zr_iald F zd_XPicture_drawPiece_81 (zW_a0 hs43) hi45 ?_
      refine zr_if_ge F 89 zd_XPicture_drawPiece_82 (by decide) (fun hb46 => ?_) (fun hb46 => ?_)
      ·
        rw [if_pos hb46] at h
        refine zr_aload_n F zd_XPicture_drawPiece_89 rfl ?_
        obtain ⟨le48, hs47, h⟩ := zoS_s h
        obtain ⟨a49, ea49, h⟩ := zoB_s h
        refine zr_get F 5 3 zd_XPicture_drawPiece_90 (zW_o hs47 (by decide)) rfl (by decide) zw_435 rfl (by rfl) ?_
        refine zr_tor ea49 ?_
        obtain ⟨le51, hs50, h⟩ := zoS_s h
        obtain ⟨a52, ea52, h⟩ := zoB_s h
        refine zr_get F 8 1 zd_XPicture_drawPiece_93 (zW_o hs50 (by decide)) rfl (by decide) zw_287 rfl (by rfl) ?_
        refine zr_tor ea52 ?_
        refine zr_aload_n F zd_XPicture_drawPiece_96 rfl ?_
        refine zr_pcn 97 rfl ?_
        refine zr_iconstv (v := 4) F zd_XPicture_drawPiece_97 (by decide) ?_
        obtain ⟨le54, hs53, h⟩ := zoS_s h
        obtain ⟨hi55, h⟩ := zoI_s h
        refine zr_iald F zd_XPicture_drawPiece_98 (zW_a0 hs53) hi55 ?_
        obtain ⟨i56, ei56, h⟩ := zoL_s h
        rw [← ei56]
        obtain ⟨t60, le58, hs57, h⟩ := zoR_s h
        obtain ⟨hi59, h⟩ := zoI_s h
        obtain ⟨a61, ea61, h⟩ := zoB_s h
        refine zr_aaldW F zd_XPicture_drawPiece_99 hs57 hi59 ea61 ?_
        refine zr_astore F zd_XPicture_drawPiece_100 (by decide) ?_
        refine zr_aload F zd_XPicture_drawPiece_102 rfl ?_
        refine zr_ifnonnull F 111 zd_XPicture_drawPiece_104 (by decide) ?_
        refine zr_aload F zd_XPicture_drawPiece_111 rfl ?_
        refine zr_aload_n F zd_XPicture_drawPiece_113 rfl ?_
        refine zr_pcn 114 rfl ?_
        obtain ⟨le63, hs62, h⟩ := zoS_s h
        obtain ⟨a64, ea64, h⟩ := zoB_s h
        refine zr_get F 5 11 zd_XPicture_drawPiece_114 (zW_o hs62 (by decide)) rfl (by decide) zw_444 rfl (by rfl) ?_
        refine zr_tor ea64 ?_
        obtain ⟨le66, hs65, h⟩ := zoS_s h
        obtain ⟨p67, ep67, h⟩ := zoB_s h
        refine zr_callV1 F (k_XPiece_spread l D tA b sh _ ep67) zd_XPicture_drawPiece_117 (zW_o hs65 (by decide)) rfl zs_XPicture_117 rfl zq_XPiece_spread rfl rfl ⟨(Nat.le_of_ble_eq_true rfl), (Nat.le_of_ble_eq_true rfl)⟩ (Nat.le_of_ble_eq_true rfl) ⟨(Nat.le_of_ble_eq_true rfl), (Nat.le_of_ble_eq_true rfl)⟩ ?_
        refine zr_aload_n F zd_XPicture_drawPiece_120 rfl ?_
        obtain ⟨le69, hs68, h⟩ := zoS_s h
        obtain ⟨a70, ea70, h⟩ := zoB_s h
        refine zr_get F 5 11 zd_XPicture_drawPiece_121 (zW_o hs68 (by decide)) rfl (by decide) zw_444 rfl (by rfl) ?_
        refine zr_tor ea70 ?_
        obtain ⟨le72, hs71, h⟩ := zoS_s h
        refine zr_get F 6 0 zd_XPicture_drawPiece_124 (zW_o hs71 (by decide)) rfl (by decide) zw_350 rfl (by rfl) ?_
        obtain ⟨le74, hs73, h⟩ := zoS_s h
        obtain ⟨p75, ep75, h⟩ := zoB_s h
        refine zr_callV1 F (k_XTexture_levelFor l D tA b sh _ ep75) zd_XPicture_drawPiece_127 (zW_o hs73 (by decide)) rfl zs_XPicture_124 rfl zq_XTexture_levelFor rfl rfl ⟨(Nat.le_of_ble_eq_true rfl), (Nat.le_of_ble_eq_true rfl)⟩ (Nat.le_of_ble_eq_true rfl) ⟨(Nat.le_of_ble_eq_true rfl), (Nat.le_of_ble_eq_true rfl)⟩ ?_
        refine zr_istore F zd_XPicture_drawPiece_130 (by decide) ?_
        refine zr_iload F zd_XPicture_drawPiece_132 rfl ?_
        refine zr_pcn 134 rfl ?_
        refine zr_istore F zd_XPicture_drawPiece_134 (by decide) ?_
        obtain ⟨q120, eq120, h⟩ := zoB_s h
        refine zr_loc (L' := [(0, .ref (b + o)), (1, .ref (b + x0_)), (2, .int x10), (3, .int x20), (5, .int x40), (6, .ref (b + a61)), (7, .int (p75.1)), (8, .int x30)]) ⟨rfl, rfl, rfl, rfl, rfl, rfl, rfl, rfl, trivial⟩ ?_
        refine lp_XPicture_drawPiece_136 F _ _ _ _ _ _ _ _ _ _ _ eq120 ?_
        ·
          obtain rfl := Option.some.inj h
          exact zr_vret F hr zd_XPicture_drawPiece_252 (Nat.le_of_ble_eq_true rfl) (Nat.le_of_ble_eq_true rfl) ⟨rfl, rfl, rfl⟩
      ·
        rw [if_neg hb46] at h
        refine zr_null F zd_XPicture_drawPiece_85 ?_
        refine zr_goto F 100 zd_XPicture_drawPiece_86 (by decide) ?_
        refine zr_pcn 100 rfl ?_
        refine zr_astoreN F zd_XPicture_drawPiece_100 (by decide) ?_
        refine zr_aloadN F zd_XPicture_drawPiece_102 rfl ?_
        refine zr_ifnonnullN F zd_XPicture_drawPiece_104 ?_
        refine zr_iconstv (v := 0) F zd_XPicture_drawPiece_107 (by decide) ?_
        refine zr_goto F 130 zd_XPicture_drawPiece_108 (by decide) ?_
        refine zr_istore F zd_XPicture_drawPiece_130 (by decide) ?_
        refine zr_iload F zd_XPicture_drawPiece_132 rfl ?_
        refine zr_istore F zd_XPicture_drawPiece_134 (by decide) ?_
        obtain ⟨q150, eq150, h⟩ := zoB_s h
        refine zr_loc (L' := [(0, .ref (b + o)), (1, .ref (b + x0_)), (2, .int x10), (3, .int x20), (5, .int x40), (7, .int 0), (8, .int x30)]) ⟨rfl, rfl, rfl, rfl, rfl, rfl, rfl, trivial⟩ ?_
        refine lp_XPicture_drawPiece_136N F _ _ _ _ _ _ _ _ _ _ eq150 ?_
        ·
          refine zr_pcn 252 rfl ?_
          obtain rfl := Option.some.inj h
          exact zr_vret F hr zd_XPicture_drawPiece_252 (Nat.le_of_ble_eq_true rfl) (Nat.le_of_ble_eq_true rfl) ⟨rfl, rfl, rfl⟩
    ·
      rw [if_neg hb42] at h
      obtain rfl := Option.some.inj h
      exact zr_vret F hr zd_XPicture_drawPiece_78 (Nat.le_of_ble_eq_true rfl) (Nat.le_of_ble_eq_true rfl) ⟨rfl, rfl, rfl⟩
abbrev zb_XReader_readThings : ByteArray := prog_8_method_4_code
def zy_XReader_readThings : MethodName := ⟨"OrreryBox$Reader", "readThings", "(I)V"⟩
theorem zc_XReader_readThings : Cond.code zy_XReader_readThings zb_XReader_readThings 4 none ∈ gw := gw_t 1222 (by decide +kernel) rfl
theorem zq_XReader_readThings : zy_XReader_readThings.cls ≠ "java/lang/invoke/MethodHandle" ∧ zy_XReader_readThings.cls ≠ "java/lang/invoke/VarHandle" ∧ (parseMethodDescriptor zy_XReader_readThings.desc).map (fun d => d.parameters.length) = some 1 := by decide +kernel
theorem zd_XReader_readThings_0 : decode zb_XReader_readThings 0 = .ok (.aload_n 0, 1) := by decide +kernel
theorem zd_XReader_readThings_1 : decode zb_XReader_readThings 1 = .ok (.bipush 91, 2) := by decide +kernel
theorem zd_XReader_readThings_3 : decode zb_XReader_readThings 3 = .ok (.invokevirtual 45, 3) := by decide +kernel
theorem zd_XReader_readThings_6 : decode zb_XReader_readThings 6 = .ok (.aload_n 0, 1) := by decide +kernel
theorem zd_XReader_readThings_7 : decode zb_XReader_readThings 7 = .ok (.bipush 93, 2) := by decide +kernel
theorem zd_XReader_readThings_9 : decode zb_XReader_readThings 9 = .ok (.invokevirtual 49, 3) := by decide +kernel
theorem zd_XReader_readThings_12 : decode zb_XReader_readThings 12 = .ok (.ifCond .ne 7, 3) := by decide +kernel
theorem zd_XReader_readThings_15 : decode zb_XReader_readThings 15 = .ok (.iconst 1, 1) := by decide +kernel
theorem zd_XReader_readThings_16 : decode zb_XReader_readThings 16 = .ok (.goto 4, 3) := by decide +kernel
theorem zd_XReader_readThings_19 : decode zb_XReader_readThings 19 = .ok (.iconst 0, 1) := by decide +kernel
theorem zd_XReader_readThings_20 : decode zb_XReader_readThings 20 = .ok (.istore_n 2, 1) := by decide +kernel
theorem zd_XReader_readThings_21 : decode zb_XReader_readThings 21 = .ok (.iconst 0, 1) := by decide +kernel
theorem zd_XReader_readThings_22 : decode zb_XReader_readThings 22 = .ok (.istore_n 3, 1) := by decide +kernel
theorem zd_XReader_readThings_23 : decode zb_XReader_readThings 23 = .ok (.iload_n 3, 1) := by decide +kernel
theorem zd_XReader_readThings_24 : decode zb_XReader_readThings 24 = .ok (.getstatic 95, 3) := by decide +kernel
theorem zd_XReader_readThings_27 : decode zb_XReader_readThings 27 = .ok (.iload_n 1, 1) := by decide +kernel
theorem zd_XReader_readThings_28 : decode zb_XReader_readThings 28 = .ok (.iaload, 1) := by decide +kernel
theorem zd_XReader_readThings_29 : decode zb_XReader_readThings 29 = .ok (.if_icmp .ge 152, 3) := by decide +kernel
theorem zd_XReader_readThings_32 : decode zb_XReader_readThings 32 = .ok (.iload_n 2, 1) := by decide +kernel
theorem zd_XReader_readThings_33 : decode zb_XReader_readThings 33 = .ok (.ifCond .eq 148, 3) := by decide +kernel
theorem zd_XReader_readThings_36 : decode zb_XReader_readThings 36 = .ok (.aload_n 0, 1) := by decide +kernel
theorem zd_XReader_readThings_37 : decode zb_XReader_readThings 37 = .ok (.bipush 123, 2) := by decide +kernel
theorem zd_XReader_readThings_39 : decode zb_XReader_readThings 39 = .ok (.invokevirtual 45, 3) := by decide +kernel
theorem zd_XReader_readThings_42 : decode zb_XReader_readThings 42 = .ok (.iload_n 1, 1) := by decide +kernel
theorem zd_XReader_readThings_43 : decode zb_XReader_readThings 43 = .ok (.tableswitch 94 0 3 #[29, 45, 61, 77], 29) := by decide +kernel
theorem zd_XReader_readThings_72 : decode zb_XReader_readThings 72 = .ok (.aload_n 0, 1) := by decide +kernel
theorem zd_XReader_readThings_73 : decode zb_XReader_readThings 73 = .ok (.aload_n 0, 1) := by decide +kernel
theorem zd_XReader_readThings_74 : decode zb_XReader_readThings 74 = .ok (.getfield 23, 3) := by decide +kernel
theorem zd_XReader_readThings_77 : decode zb_XReader_readThings 77 = .ok (.getfield 98, 3) := by decide +kernel
theorem zd_XReader_readThings_80 : decode zb_XReader_readThings 80 = .ok (.iload_n 3, 1) := by decide +kernel
theorem zd_XReader_readThings_81 : decode zb_XReader_readThings 81 = .ok (.aaload, 1) := by decide +kernel
theorem zd_XReader_readThings_82 : decode zb_XReader_readThings 82 = .ok (.invokevirtual 101, 3) := by decide +kernel
theorem zd_XReader_readThings_85 : decode zb_XReader_readThings 85 = .ok (.goto 65, 3) := by decide +kernel
theorem zd_XReader_readThings_88 : decode zb_XReader_readThings 88 = .ok (.aload_n 0, 1) := by decide +kernel
theorem zd_XReader_readThings_89 : decode zb_XReader_readThings 89 = .ok (.aload_n 0, 1) := by decide +kernel
theorem zd_XReader_readThings_90 : decode zb_XReader_readThings 90 = .ok (.getfield 23, 3) := by decide +kernel
theorem zd_XReader_readThings_93 : decode zb_XReader_readThings 93 = .ok (.getfield 105, 3) := by decide +kernel
theorem zd_XReader_readThings_96 : decode zb_XReader_readThings 96 = .ok (.iload_n 3, 1) := by decide +kernel
theorem zd_XReader_readThings_97 : decode zb_XReader_readThings 97 = .ok (.aaload, 1) := by decide +kernel
theorem zd_XReader_readThings_98 : decode zb_XReader_readThings 98 = .ok (.invokevirtual 108, 3) := by decide +kernel
theorem zd_XReader_readThings_101 : decode zb_XReader_readThings 101 = .ok (.goto 49, 3) := by decide +kernel
theorem zd_XReader_readThings_104 : decode zb_XReader_readThings 104 = .ok (.aload_n 0, 1) := by decide +kernel
theorem zd_XReader_readThings_105 : decode zb_XReader_readThings 105 = .ok (.aload_n 0, 1) := by decide +kernel
theorem zd_XReader_readThings_106 : decode zb_XReader_readThings 106 = .ok (.getfield 23, 3) := by decide +kernel
theorem zd_XReader_readThings_109 : decode zb_XReader_readThings 109 = .ok (.getfield 112, 3) := by decide +kernel
theorem zd_XReader_readThings_112 : decode zb_XReader_readThings 112 = .ok (.iload_n 3, 1) := by decide +kernel
theorem zd_XReader_readThings_113 : decode zb_XReader_readThings 113 = .ok (.aaload, 1) := by decide +kernel
theorem zd_XReader_readThings_114 : decode zb_XReader_readThings 114 = .ok (.invokevirtual 115, 3) := by decide +kernel
theorem zd_XReader_readThings_117 : decode zb_XReader_readThings 117 = .ok (.goto 33, 3) := by decide +kernel
theorem zd_XReader_readThings_120 : decode zb_XReader_readThings 120 = .ok (.aload_n 0, 1) := by decide +kernel
theorem zd_XReader_readThings_121 : decode zb_XReader_readThings 121 = .ok (.aload_n 0, 1) := by decide +kernel
theorem zd_XReader_readThings_122 : decode zb_XReader_readThings 122 = .ok (.getfield 23, 3) := by decide +kernel
theorem zd_XReader_readThings_125 : decode zb_XReader_readThings 125 = .ok (.getfield 119, 3) := by decide +kernel
theorem zd_XReader_readThings_128 : decode zb_XReader_readThings 128 = .ok (.iload_n 3, 1) := by decide +kernel
theorem zd_XReader_readThings_129 : decode zb_XReader_readThings 129 = .ok (.aaload, 1) := by decide +kernel
theorem zd_XReader_readThings_130 : decode zb_XReader_readThings 130 = .ok (.iload_n 3, 1) := by decide +kernel
theorem zd_XReader_readThings_131 : decode zb_XReader_readThings 131 = .ok (.invokevirtual 122, 3) := by decide +kernel
theorem zd_XReader_readThings_134 : decode zb_XReader_readThings 134 = .ok (.goto 16, 3) := by decide +kernel
theorem zd_XReader_readThings_137 : decode zb_XReader_readThings 137 = .ok (.aload_n 0, 1) := by decide +kernel
theorem zd_XReader_readThings_138 : decode zb_XReader_readThings 138 = .ok (.aload_n 0, 1) := by decide +kernel
theorem zd_XReader_readThings_139 : decode zb_XReader_readThings 139 = .ok (.getfield 23, 3) := by decide +kernel
theorem zd_XReader_readThings_142 : decode zb_XReader_readThings 142 = .ok (.getfield 126, 3) := by decide +kernel
theorem zd_XReader_readThings_145 : decode zb_XReader_readThings 145 = .ok (.iload_n 3, 1) := by decide +kernel
theorem zd_XReader_readThings_146 : decode zb_XReader_readThings 146 = .ok (.aaload, 1) := by decide +kernel
theorem zd_XReader_readThings_147 : decode zb_XReader_readThings 147 = .ok (.invokevirtual 129, 3) := by decide +kernel
theorem zd_XReader_readThings_150 : decode zb_XReader_readThings 150 = .ok (.aload_n 0, 1) := by decide +kernel
theorem zd_XReader_readThings_151 : decode zb_XReader_readThings 151 = .ok (.bipush 125, 2) := by decide +kernel
theorem zd_XReader_readThings_153 : decode zb_XReader_readThings 153 = .ok (.invokevirtual 45, 3) := by decide +kernel
theorem zd_XReader_readThings_156 : decode zb_XReader_readThings 156 = .ok (.aload_n 0, 1) := by decide +kernel
theorem zd_XReader_readThings_157 : decode zb_XReader_readThings 157 = .ok (.getfield 23, 3) := by decide +kernel
theorem zd_XReader_readThings_160 : decode zb_XReader_readThings 160 = .ok (.getfield 133, 3) := by decide +kernel
theorem zd_XReader_readThings_163 : decode zb_XReader_readThings 163 = .ok (.iload_n 1, 1) := by decide +kernel
theorem zd_XReader_readThings_164 : decode zb_XReader_readThings 164 = .ok (.iload_n 3, 1) := by decide +kernel
theorem zd_XReader_readThings_165 : decode zb_XReader_readThings 165 = .ok (.iconst 1, 1) := by decide +kernel
theorem zd_XReader_readThings_166 : decode zb_XReader_readThings 166 = .ok (.iadd, 1) := by decide +kernel
theorem zd_XReader_readThings_167 : decode zb_XReader_readThings 167 = .ok (.iastore, 1) := by decide +kernel
theorem zd_XReader_readThings_168 : decode zb_XReader_readThings 168 = .ok (.aload_n 0, 1) := by decide +kernel
theorem zd_XReader_readThings_169 : decode zb_XReader_readThings 169 = .ok (.bipush 44, 2) := by decide +kernel
theorem zd_XReader_readThings_171 : decode zb_XReader_readThings 171 = .ok (.invokevirtual 74, 3) := by decide +kernel
theorem zd_XReader_readThings_174 : decode zb_XReader_readThings 174 = .ok (.istore_n 2, 1) := by decide +kernel
theorem zd_XReader_readThings_175 : decode zb_XReader_readThings 175 = .ok (.iinc 3 1, 3) := by decide +kernel
theorem zd_XReader_readThings_178 : decode zb_XReader_readThings 178 = .ok (.goto (-155), 3) := by decide +kernel
theorem zd_XReader_readThings_181 : decode zb_XReader_readThings 181 = .ok (.iload_n 2, 1) := by decide +kernel
theorem zd_XReader_readThings_182 : decode zb_XReader_readThings 182 = .ok (.ifCond .eq 25, 3) := by decide +kernel
theorem zd_XReader_readThings_185 : decode zb_XReader_readThings 185 = .ok (.aload_n 0, 1) := by decide +kernel
theorem zd_XReader_readThings_186 : decode zb_XReader_readThings 186 = .ok (.aload_n 0, 1) := by decide +kernel
theorem zd_XReader_readThings_187 : decode zb_XReader_readThings 187 = .ok (.bipush 123, 2) := by decide +kernel
theorem zd_XReader_readThings_189 : decode zb_XReader_readThings 189 = .ok (.invokevirtual 49, 3) := by decide +kernel
theorem zd_XReader_readThings_192 : decode zb_XReader_readThings 192 = .ok (.ifCond .eq 7, 3) := by decide +kernel
theorem zd_XReader_readThings_195 : decode zb_XReader_readThings 195 = .ok (.iconst 3, 1) := by decide +kernel
theorem zd_XReader_readThings_196 : decode zb_XReader_readThings 196 = .ok (.goto 4, 3) := by decide +kernel
theorem zd_XReader_readThings_199 : decode zb_XReader_readThings 199 = .ok (.iconst 1, 1) := by decide +kernel
theorem zd_XReader_readThings_200 : decode zb_XReader_readThings 200 = .ok (.aload_n 0, 1) := by decide +kernel
theorem zd_XReader_readThings_201 : decode zb_XReader_readThings 201 = .ok (.getfield 27, 3) := by decide +kernel
theorem zd_XReader_readThings_204 : decode zb_XReader_readThings 204 = .ok (.invokevirtual 77, 3) := by decide +kernel
theorem zd_XReader_readThings_207 : decode zb_XReader_readThings 207 = .ok (.aload_n 0, 1) := by decide +kernel
theorem zd_XReader_readThings_208 : decode zb_XReader_readThings 208 = .ok (.bipush 93, 2) := by decide +kernel
theorem zd_XReader_readThings_210 : decode zb_XReader_readThings 210 = .ok (.invokevirtual 45, 3) := by decide +kernel
theorem zd_XReader_readThings_213 : decode zb_XReader_readThings 213 = .ok (.return_, 1) := by decide +kernel
theorem zw_1223 : (Jvm.Cond.fieldLinkNest "OrreryBox$Reader" (95 : Nat) "OrreryBox" "LIMITS" "[I" "OrreryBox") ∈ gn := gn_t 1223 (by decide +kernel) rfl
theorem zw_286 : (Jvm.Cond.fieldLink "OrreryBox$Reader" (98 : Nat) "OrreryBox$Scene" "textures" "[LOrreryBox$Texture;") ∈ gw := gw_t 286 (by decide +kernel) rfl
theorem zw_1224 : (Jvm.Cond.methodLink "OrreryBox$Reader" (101 : Nat) ({ cls := "OrreryBox$Reader", name := "readTexture", desc := "(LOrreryBox$Texture;)V" } : Jvm.MethodName)) ∈ gw := gw_t 1224 (by decide +kernel) rfl
theorem zw_1226 : (Jvm.Cond.instanceMethod ({ cls := "OrreryBox$Reader", name := "readTexture", desc := "(LOrreryBox$Texture;)V" } : Jvm.MethodName)) ∈ gw := gw_t 1226 (by decide +kernel) rfl
theorem zv_61 : (Jvm.Cond.selects "OrreryBox$Reader" (⟨"OrreryBox$Reader", "readTexture", "(LOrreryBox$Texture;)V"⟩ : MethodName) ⟨"OrreryBox$Reader", "readTexture", "(LOrreryBox$Texture;)V"⟩) ∈ gw := gw_s 61 (by decide +kernel) rfl
theorem zs_XReader_101 : zwV "OrreryBox$Reader" 101 "OrreryBox$Reader" zy_XReader_readTexture zb_XReader_readTexture 3 none := ⟨zw_1224, zw_1226, zv_61, zw_2, zc_XReader_readTexture⟩
theorem zw_289 : (Jvm.Cond.fieldLink "OrreryBox$Reader" (105 : Nat) "OrreryBox$Scene" "materials" "[[I") ∈ gw := gw_t 289 (by decide +kernel) rfl
theorem zw_1243 : (Jvm.Cond.methodLink "OrreryBox$Reader" (108 : Nat) ({ cls := "OrreryBox$Reader", name := "readMaterial", desc := "([I)V" } : Jvm.MethodName)) ∈ gw := gw_t 1243 (by decide +kernel) rfl
theorem zw_1245 : (Jvm.Cond.instanceMethod ({ cls := "OrreryBox$Reader", name := "readMaterial", desc := "([I)V" } : Jvm.MethodName)) ∈ gw := gw_t 1245 (by decide +kernel) rfl
theorem zv_63 : (Jvm.Cond.selects "OrreryBox$Reader" (⟨"OrreryBox$Reader", "readMaterial", "([I)V"⟩ : MethodName) ⟨"OrreryBox$Reader", "readMaterial", "([I)V"⟩) ∈ gw := gw_s 63 (by decide +kernel) rfl
theorem zs_XReader_108 : zwV "OrreryBox$Reader" 108 "OrreryBox$Reader" zy_XReader_readMaterial zb_XReader_readMaterial 2 none := ⟨zw_1243, zw_1245, zv_63, zw_2, zc_XReader_readMaterial⟩
theorem zw_293 : (Jvm.Cond.fieldLink "OrreryBox$Reader" (112 : Nat) "OrreryBox$Scene" "meshes" "[LOrreryBox$Mesh;") ∈ gw := gw_t 293 (by decide +kernel) rfl
theorem zw_1250 : (Jvm.Cond.methodLink "OrreryBox$Reader" (115 : Nat) ({ cls := "OrreryBox$Reader", name := "readMesh", desc := "(LOrreryBox$Mesh;)V" } : Jvm.MethodName)) ∈ gw := gw_t 1250 (by decide +kernel) rfl
theorem zw_1252 : (Jvm.Cond.instanceMethod ({ cls := "OrreryBox$Reader", name := "readMesh", desc := "(LOrreryBox$Mesh;)V" } : Jvm.MethodName)) ∈ gw := gw_t 1252 (by decide +kernel) rfl
theorem zv_64 : (Jvm.Cond.selects "OrreryBox$Reader" (⟨"OrreryBox$Reader", "readMesh", "(LOrreryBox$Mesh;)V"⟩ : MethodName) ⟨"OrreryBox$Reader", "readMesh", "(LOrreryBox$Mesh;)V"⟩) ∈ gw := gw_s 64 (by decide +kernel) rfl
theorem zs_XReader_115 : zwV "OrreryBox$Reader" 115 "OrreryBox$Reader" zy_XReader_readMesh zb_XReader_readMesh 5 none := ⟨zw_1250, zw_1252, zv_64, zw_2, zc_XReader_readMesh⟩
theorem zw_297 : (Jvm.Cond.fieldLink "OrreryBox$Reader" (119 : Nat) "OrreryBox$Scene" "nodes" "[LOrreryBox$Node;") ∈ gw := gw_t 297 (by decide +kernel) rfl
theorem zw_1261 : (Jvm.Cond.methodLink "OrreryBox$Reader" (122 : Nat) ({ cls := "OrreryBox$Reader", name := "readNode", desc := "(LOrreryBox$Node;I)V" } : Jvm.MethodName)) ∈ gw := gw_t 1261 (by decide +kernel) rfl
theorem zw_1263 : (Jvm.Cond.instanceMethod ({ cls := "OrreryBox$Reader", name := "readNode", desc := "(LOrreryBox$Node;I)V" } : Jvm.MethodName)) ∈ gw := gw_t 1263 (by decide +kernel) rfl
theorem zv_65 : (Jvm.Cond.selects "OrreryBox$Reader" (⟨"OrreryBox$Reader", "readNode", "(LOrreryBox$Node;I)V"⟩ : MethodName) ⟨"OrreryBox$Reader", "readNode", "(LOrreryBox$Node;I)V"⟩) ∈ gw := gw_s 65 (by decide +kernel) rfl
theorem zs_XReader_122 : zwV "OrreryBox$Reader" 122 "OrreryBox$Reader" zy_XReader_readNode zb_XReader_readNode 3 none := ⟨zw_1261, zw_1263, zv_65, zw_2, zc_XReader_readNode⟩
theorem zw_300 : (Jvm.Cond.fieldLink "OrreryBox$Reader" (126 : Nat) "OrreryBox$Scene" "tracks" "[LOrreryBox$Track;") ∈ gw := gw_t 300 (by decide +kernel) rfl
theorem zw_1268 : (Jvm.Cond.methodLink "OrreryBox$Reader" (129 : Nat) ({ cls := "OrreryBox$Reader", name := "readTrack", desc := "(LOrreryBox$Track;)V" } : Jvm.MethodName)) ∈ gw := gw_t 1268 (by decide +kernel) rfl
theorem zw_1270 : (Jvm.Cond.instanceMethod ({ cls := "OrreryBox$Reader", name := "readTrack", desc := "(LOrreryBox$Track;)V" } : Jvm.MethodName)) ∈ gw := gw_t 1270 (by decide +kernel) rfl
theorem zv_66 : (Jvm.Cond.selects "OrreryBox$Reader" (⟨"OrreryBox$Reader", "readTrack", "(LOrreryBox$Track;)V"⟩ : MethodName) ⟨"OrreryBox$Reader", "readTrack", "(LOrreryBox$Track;)V"⟩) ∈ gw := gw_s 66 (by decide +kernel) rfl
theorem zs_XReader_129 : zwV "OrreryBox$Reader" 129 "OrreryBox$Reader" zy_XReader_readTrack zb_XReader_readTrack 4 none := ⟨zw_1268, zw_1270, zv_66, zw_2, zc_XReader_readTrack⟩
def L_XReader_readThings_23 (sh : zSh) (fuel : Nat) (v0 : Nat) (v1 : Int32) (v2 : Int32) (v3 : Int32) (mm : zMem) : Option (Nat × Int32 × Int32 × Int32 × zMem) := match fuel with
  | 0 => none
  | fu + 1 => (if (v1 : Int32) < 0 ∨ 5 ≤ (v1 : Int32).toNatClampNeg then none else (if (zliI (v1 : Int32).toNatClampNeg) ≤ v3 then some (v0, v1, v2, v3, mm) else (if v2 = 0 then some (v0, v1, v2, v3, mm) else zoS (sh v0) 7 (fun le12 => Option.bind (F_XReader_need sh mm v0 123) (fun p13 => (if v1 = 0 then zoS (sh v0) 7 (fun le16 => Option.bind (p13.2.2 v0 7) (fun a17 => zoS (sh a17) 8 (fun le19 => Option.bind (p13.2.2 a17 1) (fun a20 => zoR (sh a20) (fun t24 le22 => if (v3 : Int32) < 0 ∨ le22 ≤ (v3 : Int32).toNatClampNeg then none else Option.bind (p13.2.2 a20 (v3 : Int32).toNatClampNeg) (fun a25 => zoS (sh v0) 7 (fun le27 => Option.bind (F_XReader_readTexture sh p13 v0 a25) (fun p28 => zoS (sh v0) 7 (fun le30 => Option.bind (F_XReader_need sh p28 v0 125) (fun p31 => zoS (sh v0) 7 (fun le33 => Option.bind (p31.2.2 v0 7) (fun a34 => zoS (sh a34) 8 (fun le36 => Option.bind (p31.2.2 a34 0) (fun a37 => zoL (v3 + 1) (fun x38 => zoS (sh a37) 100 (fun le40 => if (v1 : Int32) < 0 ∨ le40 ≤ (v1 : Int32).toNatClampNeg then none else zoL (mI p31 a37 (v1 : Int32).toNatClampNeg x38) (fun mm42 => zoS (sh v0) 7 (fun le44 => Option.bind (F_XReader_takes sh mm42 v0 44) (fun p45 => L_XReader_readThings_23 sh fu v0 v1 (p45.1) (v3 + 1) (p45.2)))))))))))))))))))) else (if v1 = 1 then zoS (sh v0) 7 (fun le47 => Option.bind (p13.2.2 v0 7) (fun a48 => zoS (sh a48) 8 (fun le50 => Option.bind (p13.2.2 a48 2) (fun a51 => zoR (sh a51) (fun t55 le53 => if (v3 : Int32) < 0 ∨ le53 ≤ (v3 : Int32).toNatClampNeg then none else Option.bind (p13.2.2 a51 (v3 : Int32).toNatClampNeg) (fun a56 => zoS (sh v0) 7 (fun le58 => Option.bind (F_XReader_readMaterial sh p13 v0 a56) (fun p59 => zoS (sh v0) 7 (fun le61 => Option.bind (F_XReader_need sh p59 v0 125) (fun p62 => zoS (sh v0) 7 (fun le64 => Option.bind (p62.2.2 v0 7) (fun a65 => zoS (sh a65) 8 (fun le67 => Option.bind (p62.2.2 a65 0) (fun a68 => zoL (v3 + 1) (fun x69 => zoS (sh a68) 100 (fun le71 => if (v1 : Int32) < 0 ∨ le71 ≤ (v1 : Int32).toNatClampNeg then none else zoL (mI p62 a68 (v1 : Int32).toNatClampNeg x69) (fun mm73 => zoS (sh v0) 7 (fun le75 => Option.bind (F_XReader_takes sh mm73 v0 44) (fun p76 => L_XReader_readThings_23 sh fu v0 v1 (p76.1) (v3 + 1) (p76.2)))))))))))))))))))) else (if v1 = 2 then zoS (sh v0) 7 (fun le78 => Option.bind (p13.2.2 v0 7) (fun a79 => zoS (sh a79) 8 (fun le81 => Option.bind (p13.2.2 a79 3) (fun a82 => zoR (sh a82) (fun t86 le84 => if (v3 : Int32) < 0 ∨ le84 ≤ (v3 : Int32).toNatClampNeg then none else Option.bind (p13.2.2 a82 (v3 : Int32).toNatClampNeg) (fun a87 => zoS (sh v0) 7 (fun le89 => Option.bind (F_XReader_readMesh sh p13 v0 a87) (fun p90 => zoS (sh v0) 7 (fun le92 => Option.bind (F_XReader_need sh p90 v0 125) (fun p93 => zoS (sh v0) 7 (fun le95 => Option.bind (p93.2.2 v0 7) (fun a96 => zoS (sh a96) 8 (fun le98 => Option.bind (p93.2.2 a96 0) (fun a99 => zoL (v3 + 1) (fun x100 => zoS (sh a99) 100 (fun le102 => if (v1 : Int32) < 0 ∨ le102 ≤ (v1 : Int32).toNatClampNeg then none else zoL (mI p93 a99 (v1 : Int32).toNatClampNeg x100) (fun mm104 => zoS (sh v0) 7 (fun le106 => Option.bind (F_XReader_takes sh mm104 v0 44) (fun p107 => L_XReader_readThings_23 sh fu v0 v1 (p107.1) (v3 + 1) (p107.2)))))))))))))))))))) else (if v1 = 3 then zoS (sh v0) 7 (fun le109 => Option.bind (p13.2.2 v0 7) (fun a110 => zoS (sh a110) 8 (fun le112 => Option.bind (p13.2.2 a110 4) (fun a113 => zoR (sh a113) (fun t117 le115 => if (v3 : Int32) < 0 ∨ le115 ≤ (v3 : Int32).toNatClampNeg then none else Option.bind (p13.2.2 a113 (v3 : Int32).toNatClampNeg) (fun a118 => zoS (sh v0) 7 (fun le120 => Option.bind (F_XReader_readNode sh p13 v0 a118 v3) (fun p121 => zoS (sh v0) 7 (fun le123 => Option.bind (F_XReader_need sh p121 v0 125) (fun p124 => zoS (sh v0) 7 (fun le126 => Option.bind (p124.2.2 v0 7) (fun a127 => zoS (sh a127) 8 (fun le129 => Option.bind (p124.2.2 a127 0) (fun a130 => zoL (v3 + 1) (fun x131 => zoS (sh a130) 100 (fun le133 => if (v1 : Int32) < 0 ∨ le133 ≤ (v1 : Int32).toNatClampNeg then none else zoL (mI p124 a130 (v1 : Int32).toNatClampNeg x131) (fun mm135 => zoS (sh v0) 7 (fun le137 => Option.bind (F_XReader_takes sh mm135 v0 44) (fun p138 => L_XReader_readThings_23 sh fu v0 v1 (p138.1) (v3 + 1) (p138.2)))))))))))))))))))) else zoS (sh v0) 7 (fun le140 => Option.bind (p13.2.2 v0 7) (fun a141 => zoS (sh a141) 8 (fun le143 => Option.bind (p13.2.2 a141 5) (fun a144 => zoR (sh a144) (fun t148 le146 => if (v3 : Int32) < 0 ∨ le146 ≤ (v3 : Int32).toNatClampNeg then none else Option.bind (p13.2.2 a144 (v3 : Int32).toNatClampNeg) (fun a149 => zoS (sh v0) 7 (fun le151 => Option.bind (F_XReader_readTrack sh p13 v0 a149) (fun p152 => zoS (sh v0) 7 (fun le154 => Option.bind (F_XReader_need sh p152 v0 125) (fun p155 => zoS (sh v0) 7 (fun le157 => Option.bind (p155.2.2 v0 7) (fun a158 => zoS (sh a158) 8 (fun le160 => Option.bind (p155.2.2 a158 0) (fun a161 => zoL (v3 + 1) (fun x162 => zoS (sh a161) 100 (fun le164 => if (v1 : Int32) < 0 ∨ le164 ≤ (v1 : Int32).toNatClampNeg then none else zoL (mI p155 a161 (v1 : Int32).toNatClampNeg x162) (fun mm166 => zoS (sh v0) 7 (fun le168 => Option.bind (F_XReader_takes sh mm166 v0 44) (fun p169 => L_XReader_readThings_23 sh fu v0 v1 (p169.1) (v3 + 1) (p169.2)))))))))))))))))))))))))))))
set_option maxHeartbeats 4000000 in
set_option maxRecDepth 100000 in
theorem lp_XReader_readThings_23 {p : Program} {l : Launch} {e : Env} {s : State} {m : MethodId} {args : Array Value} {below : List Frame} {meth : Method} {c : Code} {D : va_G} {tA : Nat → ClassId} {b n : Nat} {post : Option Value → zV → Nat → Prop} {sh : zSh} (F : zF p s m args meth c zb_XReader_readThings 4 "OrreryBox$Reader" D tA b) : ∀ (fuel : Nat) (v0 : Nat) (v1 : Int32) (v2 : Int32) (v3 : Int32) (mm : zMem) (r : Nat × Int32 × Int32 × Int32 × zMem), L_XReader_readThings_23 sh fuel v0 v1 v2 v3 mm = some r → (Z p l e { frames := 8, cells := 0, slots := 0, locals := 182 } s m args below meth c D b 4 (MQ below (zQ D b post) args s 0 0 (fun q => b ≤ q)) (zW tA b sh r.2.2.2.2) n 0 0 181 [(0, .ref (b + (r.1))), (1, .int (r.2.1)), (2, .int (r.2.2.1)), (3, .int (r.2.2.2.1))] []) → Z p l e { frames := 8, cells := 0, slots := 0, locals := 182 } s m args below meth c D b 4 (MQ below (zQ D b post) args s 0 0 (fun q => b ≤ q)) (zW tA b sh mm) n 0 0 23 [(0, .ref (b + v0)), (1, .int v1), (2, .int v2), (3, .int v3)] [] := by
  intro fuel
  induction fuel with
  | zero =>
    intro v0 v1 v2 v3 mm r h
    cases h
  | succ fu ih =>
    intro v0 v1 v2 v3 mm r h hx0
    rw [L_XReader_readThings_23] at h
    refine zr_iload_n F zd_XReader_readThings_23 rfl ?_
    refine zr_gl F zd_XReader_readThings_24 zw_1223 (fun tl hT => ?_)
    refine zr_iload_n F zd_XReader_readThings_27 rfl ?_
    obtain ⟨hi8, h⟩ := zoI_s h
    refine zr_ti (v := .int (zliI (v1 : Int32).toNatClampNeg)) F zd_XReader_readThings_28 hT hi8 rfl ?_
    refine zr_pcn 29 rfl ?_
    refine zr_icmp_ge F 181 zd_XReader_readThings_29 (by decide) (fun hb9 => ?_) (fun hb9 => ?_)
    ·
      rw [if_pos hb9] at h
      obtain rfl := Option.some.inj h
      refine zr_loc (L' := [(0, .ref (b + v0)), (1, .int v1), (2, .int v2), (3, .int v3)]) ⟨rfl, rfl, rfl, rfl, trivial⟩ ?_
      exact hx0 
    ·
      rw [if_neg hb9] at h
      refine zr_iload_n F zd_XReader_readThings_32 rfl ?_
      refine zr_if_eq F 181 zd_XReader_readThings_33 (by decide) (fun hb10 => ?_) (fun hb10 => ?_)
      ·
        rw [if_pos hb10] at h
        obtain rfl := Option.some.inj h
        refine zr_loc (L' := [(0, .ref (b + v0)), (1, .int v1), (2, .int v2), (3, .int v3)]) ⟨rfl, rfl, rfl, rfl, trivial⟩ ?_
        exact hx0 
      ·
        rw [if_neg hb10] at h
        refine zr_aload_n F zd_XReader_readThings_36 rfl ?_
        refine zr_bipushv (v := 123) F zd_XReader_readThings_37 (by decide) ?_
        obtain ⟨le12, hs11, h⟩ := zoS_s h
        obtain ⟨p13, ep13, h⟩ := zoB_s h
        refine zr_callV0 F (k_XReader_need l D tA b sh _ ep13) zd_XReader_readThings_39 (zW_o hs11 (by decide)) rfl zs_XReader_45 rfl zq_XReader_need rfl rfl ⟨(Nat.le_of_ble_eq_true rfl), (Nat.le_of_ble_eq_true rfl)⟩ (Nat.le_of_ble_eq_true rfl) ⟨(Nat.le_of_ble_eq_true rfl), (Nat.le_of_ble_eq_true rfl)⟩ ?_
        refine zr_iload_n F zd_XReader_readThings_42 rfl ?_
        by_cases hb14_0 : v1 = 0
        ·
          rw [if_pos hb14_0] at h
          refine zr_tableIn F 72 zd_XReader_readThings_43 (by rw [hb14_0]; decide) (by rw [hb14_0]; decide) (by rw [hb14_0]; rfl) (by decide) ?_
          refine zr_pcn 72 rfl ?_
          refine zr_aload_n F zd_XReader_readThings_72 rfl ?_
          refine zr_aload_n F zd_XReader_readThings_73 rfl ?_
          obtain ⟨le16, hs15, h⟩ := zoS_s h
          obtain ⟨a17, ea17, h⟩ := zoB_s h
          refine zr_get F 7 7 zd_XReader_readThings_74 (zW_o hs15 (by decide)) rfl (by decide) zw_55 rfl (by rfl) ?_
          refine zr_tor ea17 ?_
          obtain ⟨le19, hs18, h⟩ := zoS_s h
          obtain ⟨a20, ea20, h⟩ := zoB_s h
          refine zr_get F 8 1 zd_XReader_readThings_77 (zW_o hs18 (by decide)) rfl (by decide) zw_286 rfl (by rfl) ?_
          refine zr_tor ea20 ?_
          refine zr_iload_n F zd_XReader_readThings_80 rfl ?_
          obtain ⟨t24, le22, hs21, h⟩ := zoR_s h
          obtain ⟨hi23, h⟩ := zoI_s h
          obtain ⟨a25, ea25, h⟩ := zoB_s h
          refine zr_aaldW F zd_XReader_readThings_81 hs21 hi23 ea25 ?_
          obtain ⟨le27, hs26, h⟩ := zoS_s h
          obtain ⟨p28, ep28, h⟩ := zoB_s h
          refine zr_callV0 F (k_XReader_readTexture l D tA b sh _ ep28) zd_XReader_readThings_82 (zW_o hs26 (by decide)) rfl zs_XReader_101 rfl zq_XReader_readTexture rfl rfl ⟨(Nat.le_of_ble_eq_true rfl), (Nat.le_of_ble_eq_true rfl)⟩ (Nat.le_of_ble_eq_true rfl) ⟨(Nat.le_of_ble_eq_true rfl), (Nat.le_of_ble_eq_true rfl)⟩ ?_
          refine zr_goto F 150 zd_XReader_readThings_85 (by decide) ?_
          refine zr_pcn 150 rfl ?_
          refine zr_aload_n F zd_XReader_readThings_150 rfl ?_
          refine zr_bipushv (v := 125) F zd_XReader_readThings_151 (by decide) ?_
          obtain ⟨le30, hs29, h⟩ := zoS_s h
          obtain ⟨p31, ep31, h⟩ := zoB_s h
          refine zr_callV0 F (k_XReader_need l D tA b sh _ ep31) zd_XReader_readThings_153 (zW_o hs29 (by decide)) rfl zs_XReader_45 rfl zq_XReader_need rfl rfl ⟨(Nat.le_of_ble_eq_true rfl), (Nat.le_of_ble_eq_true rfl)⟩ (Nat.le_of_ble_eq_true rfl) ⟨(Nat.le_of_ble_eq_true rfl), (Nat.le_of_ble_eq_true rfl)⟩ ?_
          refine zr_aload_n F zd_XReader_readThings_156 rfl ?_
          obtain ⟨le33, hs32, h⟩ := zoS_s h
          obtain ⟨a34, ea34, h⟩ := zoB_s h
          refine zr_get F 7 7 zd_XReader_readThings_157 (zW_o hs32 (by decide)) rfl (by decide) zw_55 rfl (by rfl) ?_
          refine zr_tor ea34 ?_
          obtain ⟨le36, hs35, h⟩ := zoS_s h
          obtain ⟨a37, ea37, h⟩ := zoB_s h
          refine zr_get F 8 0 zd_XReader_readThings_160 (zW_o hs35 (by decide)) rfl (by decide) zw_284 rfl (by rfl) ?_
          refine zr_tor ea37 ?_
          refine zr_iload_n F zd_XReader_readThings_163 rfl ?_
          refine zr_iload_n F zd_XReader_readThings_164 rfl ?_
          refine zr_pcn 165 rfl ?_
          refine zr_iconstv (v := 1) F zd_XReader_readThings_165 (by decide) ?_
          refine zr_iadd F zd_XReader_readThings_166 ?_
          obtain ⟨x38, ex38, h⟩ := zoL_s h
          rw [← ex38]
          obtain ⟨le40, hs39, h⟩ := zoS_s h
          obtain ⟨hi41, h⟩ := zoI_s h
          refine zr_iast F zd_XReader_readThings_167 (zW_a0 hs39) hi41 ?_
          obtain ⟨mm42, emm42, h⟩ := zoL_s h
          refine zr_norm (zW tA b sh mm42) _ (by rw [emm42]; exact zW_s0 hs39) rfl ?_
          refine zr_aload_n F zd_XReader_readThings_168 rfl ?_
          refine zr_bipushv (v := 44) F zd_XReader_readThings_169 (by decide) ?_
          obtain ⟨le44, hs43, h⟩ := zoS_s h
          obtain ⟨p45, ep45, h⟩ := zoB_s h
          refine zr_callV1 F (k_XReader_takes l D tA b sh _ ep45) zd_XReader_readThings_171 (zW_o hs43 (by decide)) rfl zs_XReader_74 rfl zq_XReader_takes rfl rfl ⟨(Nat.le_of_ble_eq_true rfl), (Nat.le_of_ble_eq_true rfl)⟩ (Nat.le_of_ble_eq_true rfl) ⟨(Nat.le_of_ble_eq_true rfl), (Nat.le_of_ble_eq_true rfl)⟩ ?_
          refine zr_istore_n F zd_XReader_readThings_174 (by decide) ?_
          refine zr_iinc (v := (v3 + 1)) F zd_XReader_readThings_175 rfl rfl (by decide) ?_
          refine zr_pcn 178 rfl ?_
          refine zr_goto F 23 zd_XReader_readThings_178 (by decide) ?_
          refine zr_loc (L' := [(0, .ref (b + v0)), (1, .int v1), (2, .int (p45.1)), (3, .int (v3 + 1))]) ⟨rfl, rfl, rfl, rfl, trivial⟩ ?_
          exact ih _ _ _ _ _ _ h hx0
        ·
          rw [if_neg hb14_0] at h
          by_cases hb14_1 : v1 = 1
          ·
            rw [if_pos hb14_1] at h
            refine zr_tableIn F 88 zd_XReader_readThings_43 (by rw [hb14_1]; decide) (by rw [hb14_1]; decide) (by rw [hb14_1]; rfl) (by decide) ?_
            refine zr_aload_n F zd_XReader_readThings_88 rfl ?_
            refine zr_aload_n F zd_XReader_readThings_89 rfl ?_
            obtain ⟨le47, hs46, h⟩ := zoS_s h
            obtain ⟨a48, ea48, h⟩ := zoB_s h
            refine zr_get F 7 7 zd_XReader_readThings_90 (zW_o hs46 (by decide)) rfl (by decide) zw_55 rfl (by rfl) ?_
            refine zr_tor ea48 ?_
            obtain ⟨le50, hs49, h⟩ := zoS_s h
            obtain ⟨a51, ea51, h⟩ := zoB_s h
            refine zr_get F 8 2 zd_XReader_readThings_93 (zW_o hs49 (by decide)) rfl (by decide) zw_289 rfl (by rfl) ?_
            refine zr_tor ea51 ?_
            refine zr_iload_n F zd_XReader_readThings_96 rfl ?_
            obtain ⟨t55, le53, hs52, h⟩ := zoR_s h
            obtain ⟨hi54, h⟩ := zoI_s h
            obtain ⟨a56, ea56, h⟩ := zoB_s h
            refine zr_aaldW F zd_XReader_readThings_97 hs52 hi54 ea56 ?_
            obtain ⟨le58, hs57, h⟩ := zoS_s h
            obtain ⟨p59, ep59, h⟩ := zoB_s h
            refine zr_callV0 F (k_XReader_readMaterial l D tA b sh _ ep59) zd_XReader_readThings_98 (zW_o hs57 (by decide)) rfl zs_XReader_108 rfl zq_XReader_readMaterial rfl rfl ⟨(Nat.le_of_ble_eq_true rfl), (Nat.le_of_ble_eq_true rfl)⟩ (Nat.le_of_ble_eq_true rfl) ⟨(Nat.le_of_ble_eq_true rfl), (Nat.le_of_ble_eq_true rfl)⟩ ?_
            refine zr_pcn 101 rfl ?_
            refine zr_goto F 150 zd_XReader_readThings_101 (by decide) ?_
            refine zr_aload_n F zd_XReader_readThings_150 rfl ?_
            refine zr_bipushv (v := 125) F zd_XReader_readThings_151 (by decide) ?_
            obtain ⟨le61, hs60, h⟩ := zoS_s h
            obtain ⟨p62, ep62, h⟩ := zoB_s h
            refine zr_callV0 F (k_XReader_need l D tA b sh _ ep62) zd_XReader_readThings_153 (zW_o hs60 (by decide)) rfl zs_XReader_45 rfl zq_XReader_need rfl rfl ⟨(Nat.le_of_ble_eq_true rfl), (Nat.le_of_ble_eq_true rfl)⟩ (Nat.le_of_ble_eq_true rfl) ⟨(Nat.le_of_ble_eq_true rfl), (Nat.le_of_ble_eq_true rfl)⟩ ?_
            refine zr_aload_n F zd_XReader_readThings_156 rfl ?_
            obtain ⟨le64, hs63, h⟩ := zoS_s h
            obtain ⟨a65, ea65, h⟩ := zoB_s h
            refine zr_get F 7 7 zd_XReader_readThings_157 (zW_o hs63 (by decide)) rfl (by decide) zw_55 rfl (by rfl) ?_
            refine zr_tor ea65 ?_
            obtain ⟨le67, hs66, h⟩ := zoS_s h
            obtain ⟨a68, ea68, h⟩ := zoB_s h
            refine zr_get F 8 0 zd_XReader_readThings_160 (zW_o hs66 (by decide)) rfl (by decide) zw_284 rfl (by rfl) ?_
            refine zr_tor ea68 ?_
            refine zr_iload_n F zd_XReader_readThings_163 rfl ?_
            refine zr_pcn 164 rfl ?_
            refine zr_iload_n F zd_XReader_readThings_164 rfl ?_
            refine zr_iconstv (v := 1) F zd_XReader_readThings_165 (by decide) ?_
            refine zr_iadd F zd_XReader_readThings_166 ?_
            obtain ⟨x69, ex69, h⟩ := zoL_s h
            rw [← ex69]
            obtain ⟨le71, hs70, h⟩ := zoS_s h
            obtain ⟨hi72, h⟩ := zoI_s h
            refine zr_iast F zd_XReader_readThings_167 (zW_a0 hs70) hi72 ?_
            obtain ⟨mm73, emm73, h⟩ := zoL_s h
            refine zr_norm (zW tA b sh mm73) _ (by rw [emm73]; exact zW_s0 hs70) rfl ?_
            refine zr_aload_n F zd_XReader_readThings_168 rfl ?_
            refine zr_bipushv (v := 44) F zd_XReader_readThings_169 (by decide) ?_
            obtain ⟨le75, hs74, h⟩ := zoS_s h
            obtain ⟨p76, ep76, h⟩ := zoB_s h
            refine zr_callV1 F (k_XReader_takes l D tA b sh _ ep76) zd_XReader_readThings_171 (zW_o hs74 (by decide)) rfl zs_XReader_74 rfl zq_XReader_takes rfl rfl ⟨(Nat.le_of_ble_eq_true rfl), (Nat.le_of_ble_eq_true rfl)⟩ (Nat.le_of_ble_eq_true rfl) ⟨(Nat.le_of_ble_eq_true rfl), (Nat.le_of_ble_eq_true rfl)⟩ ?_
            refine zr_istore_n F zd_XReader_readThings_174 (by decide) ?_
            refine zr_pcn 175 rfl ?_
            refine zr_iinc (v := (v3 + 1)) F zd_XReader_readThings_175 rfl rfl (by decide) ?_
            refine zr_goto F 23 zd_XReader_readThings_178 (by decide) ?_
            refine zr_loc (L' := [(0, .ref (b + v0)), (1, .int v1), (2, .int (p76.1)), (3, .int (v3 + 1))]) ⟨rfl, rfl, rfl, rfl, trivial⟩ ?_
            exact ih _ _ _ _ _ _ h hx0
          ·
            rw [if_neg hb14_1] at h
            by_cases hb14_2 : v1 = 2
            ·
              rw [if_pos hb14_2] at h
              refine zr_tableIn F 104 zd_XReader_readThings_43 (by rw [hb14_2]; decide) (by rw [hb14_2]; decide) (by rw [hb14_2]; rfl) (by decide) ?_
              refine zr_aload_n F zd_XReader_readThings_104 rfl ?_
              refine zr_aload_n F zd_XReader_readThings_105 rfl ?_
              obtain ⟨le78, hs77, h⟩ := zoS_s h
              obtain ⟨a79, ea79, h⟩ := zoB_s h
              refine zr_get F 7 7 zd_XReader_readThings_106 (zW_o hs77 (by decide)) rfl (by decide) zw_55 rfl (by rfl) ?_
              refine zr_tor ea79 ?_
              obtain ⟨le81, hs80, h⟩ := zoS_s h
              obtain ⟨a82, ea82, h⟩ := zoB_s h
              refine zr_get F 8 3 zd_XReader_readThings_109 (zW_o hs80 (by decide)) rfl (by decide) zw_293 rfl (by rfl) ?_
              refine zr_tor ea82 ?_
              refine zr_iload_n F zd_XReader_readThings_112 rfl ?_
              obtain ⟨t86, le84, hs83, h⟩ := zoR_s h
              obtain ⟨hi85, h⟩ := zoI_s h
              obtain ⟨a87, ea87, h⟩ := zoB_s h
              refine zr_aaldW F zd_XReader_readThings_113 hs83 hi85 ea87 ?_
              refine zr_pcn 114 rfl ?_
              obtain ⟨le89, hs88, h⟩ := zoS_s h
              obtain ⟨p90, ep90, h⟩ := zoB_s h
              refine zr_callV0 F (k_XReader_readMesh l D tA b sh _ ep90) zd_XReader_readThings_114 (zW_o hs88 (by decide)) rfl zs_XReader_115 rfl zq_XReader_readMesh rfl rfl ⟨(Nat.le_of_ble_eq_true rfl), (Nat.le_of_ble_eq_true rfl)⟩ (Nat.le_of_ble_eq_true rfl) ⟨(Nat.le_of_ble_eq_true rfl), (Nat.le_of_ble_eq_true rfl)⟩ ?_
              refine zr_goto F 150 zd_XReader_readThings_117 (by decide) ?_
              refine zr_aload_n F zd_XReader_readThings_150 rfl ?_
              refine zr_bipushv (v := 125) F zd_XReader_readThings_151 (by decide) ?_
              obtain ⟨le92, hs91, h⟩ := zoS_s h
              obtain ⟨p93, ep93, h⟩ := zoB_s h
              refine zr_callV0 F (k_XReader_need l D tA b sh _ ep93) zd_XReader_readThings_153 (zW_o hs91 (by decide)) rfl zs_XReader_45 rfl zq_XReader_need rfl rfl ⟨(Nat.le_of_ble_eq_true rfl), (Nat.le_of_ble_eq_true rfl)⟩ (Nat.le_of_ble_eq_true rfl) ⟨(Nat.le_of_ble_eq_true rfl), (Nat.le_of_ble_eq_true rfl)⟩ ?_
              refine zr_aload_n F zd_XReader_readThings_156 rfl ?_
              obtain ⟨le95, hs94, h⟩ := zoS_s h
              obtain ⟨a96, ea96, h⟩ := zoB_s h
              refine zr_get F 7 7 zd_XReader_readThings_157 (zW_o hs94 (by decide)) rfl (by decide) zw_55 rfl (by rfl) ?_
              refine zr_tor ea96 ?_
              obtain ⟨le98, hs97, h⟩ := zoS_s h
              obtain ⟨a99, ea99, h⟩ := zoB_s h
              refine zr_get F 8 0 zd_XReader_readThings_160 (zW_o hs97 (by decide)) rfl (by decide) zw_284 rfl (by rfl) ?_
              refine zr_tor ea99 ?_
              refine zr_pcn 163 rfl ?_
              refine zr_iload_n F zd_XReader_readThings_163 rfl ?_
              refine zr_iload_n F zd_XReader_readThings_164 rfl ?_
              refine zr_iconstv (v := 1) F zd_XReader_readThings_165 (by decide) ?_
              refine zr_iadd F zd_XReader_readThings_166 ?_
              obtain ⟨x100, ex100, h⟩ := zoL_s h
              rw [← ex100]
              obtain ⟨le102, hs101, h⟩ := zoS_s h
              obtain ⟨hi103, h⟩ := zoI_s h
              refine zr_iast F zd_XReader_readThings_167 (zW_a0 hs101) hi103 ?_
              obtain ⟨mm104, emm104, h⟩ := zoL_s h
              refine zr_norm (zW tA b sh mm104) _ (by rw [emm104]; exact zW_s0 hs101) rfl ?_
              refine zr_aload_n F zd_XReader_readThings_168 rfl ?_
              refine zr_bipushv (v := 44) F zd_XReader_readThings_169 (by decide) ?_
              obtain ⟨le106, hs105, h⟩ := zoS_s h
              obtain ⟨p107, ep107, h⟩ := zoB_s h
              refine zr_callV1 F (k_XReader_takes l D tA b sh _ ep107) zd_XReader_readThings_171 (zW_o hs105 (by decide)) rfl zs_XReader_74 rfl zq_XReader_takes rfl rfl ⟨(Nat.le_of_ble_eq_true rfl), (Nat.le_of_ble_eq_true rfl)⟩ (Nat.le_of_ble_eq_true rfl) ⟨(Nat.le_of_ble_eq_true rfl), (Nat.le_of_ble_eq_true rfl)⟩ ?_
              refine zr_pcn 174 rfl ?_
              refine zr_istore_n F zd_XReader_readThings_174 (by decide) ?_
              refine zr_iinc (v := (v3 + 1)) F zd_XReader_readThings_175 rfl rfl (by decide) ?_
              refine zr_goto F 23 zd_XReader_readThings_178 (by decide) ?_
              refine zr_loc (L' := [(0, .ref (b + v0)), (1, .int v1), (2, .int (p107.1)), (3, .int (v3 + 1))]) ⟨rfl, rfl, rfl, rfl, trivial⟩ ?_
              exact ih _ _ _ _ _ _ h hx0
            ·
              rw [if_neg hb14_2] at h
              by_cases hb14_3 : v1 = 3
              ·
                rw [if_pos hb14_3] at h
                refine zr_tableIn F 120 zd_XReader_readThings_43 (by rw [hb14_3]; decide) (by rw [hb14_3]; decide) (by rw [hb14_3]; rfl) (by decide) ?_
                refine zr_aload_n F zd_XReader_readThings_120 rfl ?_
                refine zr_aload_n F zd_XReader_readThings_121 rfl ?_
                obtain ⟨le109, hs108, h⟩ := zoS_s h
                obtain ⟨a110, ea110, h⟩ := zoB_s h
                refine zr_get F 7 7 zd_XReader_readThings_122 (zW_o hs108 (by decide)) rfl (by decide) zw_55 rfl (by rfl) ?_
                refine zr_tor ea110 ?_
                obtain ⟨le112, hs111, h⟩ := zoS_s h
                obtain ⟨a113, ea113, h⟩ := zoB_s h
                refine zr_get F 8 4 zd_XReader_readThings_125 (zW_o hs111 (by decide)) rfl (by decide) zw_297 rfl (by rfl) ?_
                refine zr_tor ea113 ?_
                refine zr_iload_n F zd_XReader_readThings_128 rfl ?_
                refine zr_pcn 129 rfl ?_
                obtain ⟨t117, le115, hs114, h⟩ := zoR_s h
                obtain ⟨hi116, h⟩ := zoI_s h
                obtain ⟨a118, ea118, h⟩ := zoB_s h
                refine zr_aaldW F zd_XReader_readThings_129 hs114 hi116 ea118 ?_
                refine zr_iload_n F zd_XReader_readThings_130 rfl ?_
                obtain ⟨le120, hs119, h⟩ := zoS_s h
                obtain ⟨p121, ep121, h⟩ := zoB_s h
                refine zr_callV0 F (k_XReader_readNode l D tA b sh _ ep121) zd_XReader_readThings_131 (zW_o hs119 (by decide)) rfl zs_XReader_122 rfl zq_XReader_readNode rfl rfl ⟨(Nat.le_of_ble_eq_true rfl), (Nat.le_of_ble_eq_true rfl)⟩ (Nat.le_of_ble_eq_true rfl) ⟨(Nat.le_of_ble_eq_true rfl), (Nat.le_of_ble_eq_true rfl)⟩ ?_
                refine zr_goto F 150 zd_XReader_readThings_134 (by decide) ?_
                refine zr_aload_n F zd_XReader_readThings_150 rfl ?_
                refine zr_bipushv (v := 125) F zd_XReader_readThings_151 (by decide) ?_
                obtain ⟨le123, hs122, h⟩ := zoS_s h
                obtain ⟨p124, ep124, h⟩ := zoB_s h
                refine zr_callV0 F (k_XReader_need l D tA b sh _ ep124) zd_XReader_readThings_153 (zW_o hs122 (by decide)) rfl zs_XReader_45 rfl zq_XReader_need rfl rfl ⟨(Nat.le_of_ble_eq_true rfl), (Nat.le_of_ble_eq_true rfl)⟩ (Nat.le_of_ble_eq_true rfl) ⟨(Nat.le_of_ble_eq_true rfl), (Nat.le_of_ble_eq_true rfl)⟩ ?_
                refine zr_aload_n F zd_XReader_readThings_156 rfl ?_
                refine zr_pcn 157 rfl ?_
                obtain ⟨le126, hs125, h⟩ := zoS_s h
                obtain ⟨a127, ea127, h⟩ := zoB_s h
                refine zr_get F 7 7 zd_XReader_readThings_157 (zW_o hs125 (by decide)) rfl (by decide) zw_55 rfl (by rfl) ?_
                refine zr_tor ea127 ?_
                obtain ⟨le129, hs128, h⟩ := zoS_s h
                obtain ⟨a130, ea130, h⟩ := zoB_s h
                refine zr_get F 8 0 zd_XReader_readThings_160 (zW_o hs128 (by decide)) rfl (by decide) zw_284 rfl (by rfl) ?_
                refine zr_tor ea130 ?_
                refine zr_iload_n F zd_XReader_readThings_163 rfl ?_
                refine zr_iload_n F zd_XReader_readThings_164 rfl ?_
                refine zr_iconstv (v := 1) F zd_XReader_readThings_165 (by decide) ?_
                refine zr_iadd F zd_XReader_readThings_166 ?_
                obtain ⟨x131, ex131, h⟩ := zoL_s h
                rw [← ex131]
                obtain ⟨le133, hs132, h⟩ := zoS_s h
                obtain ⟨hi134, h⟩ := zoI_s h
                refine zr_iast F zd_XReader_readThings_167 (zW_a0 hs132) hi134 ?_
                obtain ⟨mm135, emm135, h⟩ := zoL_s h
                refine zr_norm (zW tA b sh mm135) _ (by rw [emm135]; exact zW_s0 hs132) rfl ?_
                refine zr_aload_n F zd_XReader_readThings_168 rfl ?_
                refine zr_pcn 169 rfl ?_
                refine zr_bipushv (v := 44) F zd_XReader_readThings_169 (by decide) ?_
                obtain ⟨le137, hs136, h⟩ := zoS_s h
                obtain ⟨p138, ep138, h⟩ := zoB_s h
                refine zr_callV1 F (k_XReader_takes l D tA b sh _ ep138) zd_XReader_readThings_171 (zW_o hs136 (by decide)) rfl zs_XReader_74 rfl zq_XReader_takes rfl rfl ⟨(Nat.le_of_ble_eq_true rfl), (Nat.le_of_ble_eq_true rfl)⟩ (Nat.le_of_ble_eq_true rfl) ⟨(Nat.le_of_ble_eq_true rfl), (Nat.le_of_ble_eq_true rfl)⟩ ?_
                refine zr_istore_n F zd_XReader_readThings_174 (by decide) ?_
                refine zr_iinc (v := (v3 + 1)) F zd_XReader_readThings_175 rfl rfl (by decide) ?_
                refine zr_goto F 23 zd_XReader_readThings_178 (by decide) ?_
                refine zr_loc (L' := [(0, .ref (b + v0)), (1, .int v1), (2, .int (p138.1)), (3, .int (v3 + 1))]) ⟨rfl, rfl, rfl, rfl, trivial⟩ ?_
                exact ih _ _ _ _ _ _ h hx0
              ·
                rw [if_neg hb14_3] at h
                refine zr_tableOut F 137 zd_XReader_readThings_43 (zx_out v1 0 3 (by decide) (by decide) (by decide) (by omega) (fun j hj => by match j, hj with | 0, _ => exact hb14_0 | 1, _ => exact hb14_1 | 2, _ => exact hb14_2 | 3, _ => exact hb14_3 | j + 4, hq => exact absurd hq (by omega))) (by decide) ?_
                refine zr_aload_n F zd_XReader_readThings_137 rfl ?_
                refine zr_aload_n F zd_XReader_readThings_138 rfl ?_
                obtain ⟨le140, hs139, h⟩ := zoS_s h
                obtain ⟨a141, ea141, h⟩ := zoB_s h
                refine zr_get F 7 7 zd_XReader_readThings_139 (zW_o hs139 (by decide)) rfl (by decide) zw_55 rfl (by rfl) ?_
                refine zr_tor ea141 ?_
                refine zr_pcn 142 rfl ?_
                obtain ⟨le143, hs142, h⟩ := zoS_s h
                obtain ⟨a144, ea144, h⟩ := zoB_s h
                refine zr_get F 8 5 zd_XReader_readThings_142 (zW_o hs142 (by decide)) rfl (by decide) zw_300 rfl (by rfl) ?_
                refine zr_tor ea144 ?_
                refine zr_iload_n F zd_XReader_readThings_145 rfl ?_
                obtain ⟨t148, le146, hs145, h⟩ := zoR_s h
                obtain ⟨hi147, h⟩ := zoI_s h
                obtain ⟨a149, ea149, h⟩ := zoB_s h
                refine zr_aaldW F zd_XReader_readThings_146 hs145 hi147 ea149 ?_
                obtain ⟨le151, hs150, h⟩ := zoS_s h
                obtain ⟨p152, ep152, h⟩ := zoB_s h
                refine zr_callV0 F (k_XReader_readTrack l D tA b sh _ ep152) zd_XReader_readThings_147 (zW_o hs150 (by decide)) rfl zs_XReader_129 rfl zq_XReader_readTrack rfl rfl ⟨(Nat.le_of_ble_eq_true rfl), (Nat.le_of_ble_eq_true rfl)⟩ (Nat.le_of_ble_eq_true rfl) ⟨(Nat.le_of_ble_eq_true rfl), (Nat.le_of_ble_eq_true rfl)⟩ ?_
                refine zr_aload_n F zd_XReader_readThings_150 rfl ?_
                refine zr_bipushv (v := 125) F zd_XReader_readThings_151 (by decide) ?_
                obtain ⟨le154, hs153, h⟩ := zoS_s h
                obtain ⟨p155, ep155, h⟩ := zoB_s h
                refine zr_callV0 F (k_XReader_need l D tA b sh _ ep155) zd_XReader_readThings_153 (zW_o hs153 (by decide)) rfl zs_XReader_45 rfl zq_XReader_need rfl rfl ⟨(Nat.le_of_ble_eq_true rfl), (Nat.le_of_ble_eq_true rfl)⟩ (Nat.le_of_ble_eq_true rfl) ⟨(Nat.le_of_ble_eq_true rfl), (Nat.le_of_ble_eq_true rfl)⟩ ?_
                refine zr_aload_n F zd_XReader_readThings_156 rfl ?_
                refine zr_pcn 157 rfl ?_
                obtain ⟨le157, hs156, h⟩ := zoS_s h
                obtain ⟨a158, ea158, h⟩ := zoB_s h
                refine zr_get F 7 7 zd_XReader_readThings_157 (zW_o hs156 (by decide)) rfl (by decide) zw_55 rfl (by rfl) ?_
                refine zr_tor ea158 ?_
                obtain ⟨le160, hs159, h⟩ := zoS_s h
                obtain ⟨a161, ea161, h⟩ := zoB_s h
                refine zr_get F 8 0 zd_XReader_readThings_160 (zW_o hs159 (by decide)) rfl (by decide) zw_284 rfl (by rfl) ?_
                refine zr_tor ea161 ?_
                refine zr_iload_n F zd_XReader_readThings_163 rfl ?_
                refine zr_iload_n F zd_XReader_readThings_164 rfl ?_
                refine zr_iconstv (v := 1) F zd_XReader_readThings_165 (by decide) ?_
                refine zr_iadd F zd_XReader_readThings_166 ?_
                obtain ⟨x162, ex162, h⟩ := zoL_s h
                rw [← ex162]
                obtain ⟨le164, hs163, h⟩ := zoS_s h
                obtain ⟨hi165, h⟩ := zoI_s h
                refine zr_iast F zd_XReader_readThings_167 (zW_a0 hs163) hi165 ?_
                obtain ⟨mm166, emm166, h⟩ := zoL_s h
                refine zr_norm (zW tA b sh mm166) _ (by rw [emm166]; exact zW_s0 hs163) rfl ?_
                refine zr_aload_n F zd_XReader_readThings_168 rfl ?_
                refine zr_pcn 169 rfl ?_
                refine zr_bipushv (v := 44) F zd_XReader_readThings_169 (by decide) ?_
                obtain ⟨le168, hs167, h⟩ := zoS_s h
                obtain ⟨p169, ep169, h⟩ := zoB_s h
                refine zr_callV1 F (k_XReader_takes l D tA b sh _ ep169) zd_XReader_readThings_171 (zW_o hs167 (by decide)) rfl zs_XReader_74 rfl zq_XReader_takes rfl rfl ⟨(Nat.le_of_ble_eq_true rfl), (Nat.le_of_ble_eq_true rfl)⟩ (Nat.le_of_ble_eq_true rfl) ⟨(Nat.le_of_ble_eq_true rfl), (Nat.le_of_ble_eq_true rfl)⟩ ?_
                refine zr_istore_n F zd_XReader_readThings_174 (by decide) ?_
                refine zr_iinc (v := (v3 + 1)) F zd_XReader_readThings_175 rfl rfl (by decide) ?_
                refine zr_goto F 23 zd_XReader_readThings_178 (by decide) ?_
                refine zr_loc (L' := [(0, .ref (b + v0)), (1, .int v1), (2, .int (p169.1)), (3, .int (v3 + 1))]) ⟨rfl, rfl, rfl, rfl, trivial⟩ ?_
                exact ih _ _ _ _ _ _ h hx0
def F_XReader_readThings (sh : zSh) (mm : zMem) (o : Nat) (x0_ : Int32) : Option zMem := zoS (sh o) 7 (fun le2 => Option.bind (F_XReader_need sh mm o 91) (fun p3 => zoS (sh o) 7 (fun le5 => Option.bind (F_XReader_sees sh p3 o 93) (fun p6 => (if p6.1 = 0 then Option.bind (L_XReader_readThings_23 sh zfuel o x0_ 1 0 (p6.2)) (fun q189 => (if q189.2.2.1 = 0 then zoS (sh (q189.1)) 7 (fun le192 => Option.bind (F_XReader_need sh (q189.2.2.2.2) (q189.1) 93) (fun p193 => some p193)) else zoS (sh (q189.1)) 7 (fun le195 => Option.bind (F_XReader_sees sh (q189.2.2.2.2) (q189.1) 123) (fun p196 => (if p196.1 = 0 then zoS (sh (q189.1)) 7 (fun le199 => zoS (sh (q189.1)) 7 (fun le201 => none)) else zoS (sh (q189.1)) 7 (fun le204 => zoS (sh (q189.1)) 7 (fun le206 => none))))))) else Option.bind (L_XReader_readThings_23 sh zfuel o x0_ 0 0 (p6.2)) (fun q170 => (if q170.2.2.1 = 0 then zoS (sh (q170.1)) 7 (fun le173 => Option.bind (F_XReader_need sh (q170.2.2.2.2) (q170.1) 93) (fun p174 => some p174)) else zoS (sh (q170.1)) 7 (fun le176 => Option.bind (F_XReader_sees sh (q170.2.2.2.2) (q170.1) 123) (fun p177 => (if p177.1 = 0 then zoS (sh (q170.1)) 7 (fun le180 => zoS (sh (q170.1)) 7 (fun le182 => none)) else zoS (sh (q170.1)) 7 (fun le185 => zoS (sh (q170.1)) 7 (fun le187 => none))))))))))))
set_option maxHeartbeats 4000000 in
set_option maxRecDepth 100000 in
theorem k_XReader_readThings (l : Launch) (D : va_G) (tA : Nat → ClassId) (b : Nat) (sh : zSh) (n : Nat) {mm : zMem} {o : Nat} {x0_ : Int32} {r : zMem} (h : F_XReader_readThings sh mm o x0_ = some r) : zM l D tA b zy_XReader_readThings zb_XReader_readThings 4 none 8 182 0 0 [.ref (b + o), .int x0_] (zW tA b sh mm) n (zE none (zW tA b sh r) n) := by
  unfold F_XReader_readThings at h
  refine zM_of (own := "OrreryBox$Reader") (plainFor_of_name (by decide)) rfl (Nat.le_of_ble_eq_true rfl) (fun p e s m below meth c F hr hin hH => ?_)
  refine zr_aload_n F zd_XReader_readThings_0 rfl ?_
  refine zr_bipushv (v := 91) F zd_XReader_readThings_1 (by decide) ?_
  obtain ⟨le2, hs1, h⟩ := zoS_s h
  obtain ⟨p3, ep3, h⟩ := zoB_s h
  refine zr_callV0 F (k_XReader_need l D tA b sh _ ep3) zd_XReader_readThings_3 (zW_o hs1 (by decide)) rfl zs_XReader_45 rfl zq_XReader_need rfl rfl ⟨(Nat.le_of_ble_eq_true rfl), (Nat.le_of_ble_eq_true rfl)⟩ (Nat.le_of_ble_eq_true rfl) ⟨(Nat.le_of_ble_eq_true rfl), (Nat.le_of_ble_eq_true rfl)⟩ ?_
  refine zr_aload_n F zd_XReader_readThings_6 rfl ?_
  refine zr_bipushv (v := 93) F zd_XReader_readThings_7 (by decide) ?_
  obtain ⟨le5, hs4, h⟩ := zoS_s h
  obtain ⟨p6, ep6, h⟩ := zoB_s h
  refine zr_callV1 F (k_XReader_sees l D tA b sh _ ep6) zd_XReader_readThings_9 (zW_o hs4 (by decide)) rfl zs_XReader_49 rfl zq_XReader_sees rfl rfl ⟨(Nat.le_of_ble_eq_true rfl), (Nat.le_of_ble_eq_true rfl)⟩ (Nat.le_of_ble_eq_true rfl) ⟨(Nat.le_of_ble_eq_true rfl), (Nat.le_of_ble_eq_true rfl)⟩ ?_
  refine zr_if_ne F 19 zd_XReader_readThings_12 (by decide) (fun hb7 => ?_) (fun hb7 => ?_)
  ·
    rw [if_neg hb7] at h
    refine zr_pcn 19 rfl ?_
    refine zr_iconstv (v := 0) F zd_XReader_readThings_19 (by decide) ?_
    refine zr_istore_n F zd_XReader_readThings_20 (by decide) ?_
    refine zr_iconstv (v := 0) F zd_XReader_readThings_21 (by decide) ?_
    refine zr_istore_n F zd_XReader_readThings_22 (by decide) ?_
    obtain ⟨q170, eq170, h⟩ := zoB_s h
    refine zr_loc (L' := [(0, .ref (b + o)), (1, .int x0_), (2, .int 0), (3, .int 0)]) ⟨rfl, rfl, rfl, rfl, trivial⟩ ?_
    refine lp_XReader_readThings_23 F _ _ _ _ _ _ _ eq170 ?_
    ·
      refine zr_iload_n F zd_XReader_readThings_181 rfl ?_
      refine zr_if_eq F 207 zd_XReader_readThings_182 (by decide) (fun hb171 => ?_) (fun hb171 => ?_)
      ·
        rw [if_pos hb171] at h
        refine zr_aload_n F zd_XReader_readThings_207 rfl ?_
        refine zr_pcn 208 rfl ?_
        refine zr_bipushv (v := 93) F zd_XReader_readThings_208 (by decide) ?_
        obtain ⟨le173, hs172, h⟩ := zoS_s h
        obtain ⟨p174, ep174, h⟩ := zoB_s h
        refine zr_callV0 F (k_XReader_need l D tA b sh _ ep174) zd_XReader_readThings_210 (zW_o hs172 (by decide)) rfl zs_XReader_45 rfl zq_XReader_need rfl rfl ⟨(Nat.le_of_ble_eq_true rfl), (Nat.le_of_ble_eq_true rfl)⟩ (Nat.le_of_ble_eq_true rfl) ⟨(Nat.le_of_ble_eq_true rfl), (Nat.le_of_ble_eq_true rfl)⟩ ?_
        obtain rfl := Option.some.inj h
        exact zr_vret F hr zd_XReader_readThings_213 (Nat.le_of_ble_eq_true rfl) (Nat.le_of_ble_eq_true rfl) ⟨rfl, rfl, rfl⟩
      ·
        rw [if_neg hb171] at h
        refine zr_aload_n F zd_XReader_readThings_185 rfl ?_
        refine zr_aload_n F zd_XReader_readThings_186 rfl ?_
        refine zr_bipushv (v := 123) F zd_XReader_readThings_187 (by decide) ?_
        obtain ⟨le176, hs175, h⟩ := zoS_s h
        obtain ⟨p177, ep177, h⟩ := zoB_s h
        refine zr_callV1 F (k_XReader_sees l D tA b sh _ ep177) zd_XReader_readThings_189 (zW_o hs175 (by decide)) rfl zs_XReader_49 rfl zq_XReader_sees rfl rfl ⟨(Nat.le_of_ble_eq_true rfl), (Nat.le_of_ble_eq_true rfl)⟩ (Nat.le_of_ble_eq_true rfl) ⟨(Nat.le_of_ble_eq_true rfl), (Nat.le_of_ble_eq_true rfl)⟩ ?_
        refine zr_if_eq F 199 zd_XReader_readThings_192 (by decide) (fun hb178 => ?_) (fun hb178 => ?_)
        ·
          rw [if_pos hb178] at h
          refine zr_pcn 199 rfl ?_
          refine zr_iconstv (v := 1) F zd_XReader_readThings_199 (by decide) ?_
          refine zr_aload_n F zd_XReader_readThings_200 rfl ?_
          obtain ⟨le180, hs179, h⟩ := zoS_s h
          refine zr_get F 7 5 zd_XReader_readThings_201 (zW_o hs179 (by decide)) rfl (by decide) zw_53 rfl (by rfl) ?_
          obtain ⟨le182, hs181, h⟩ := zoS_s h
          cases h
        ·
          rw [if_neg hb178] at h
          refine zr_iconstv (v := 3) F zd_XReader_readThings_195 (by decide) ?_
          refine zr_goto F 200 zd_XReader_readThings_196 (by decide) ?_
          refine zr_aload_n F zd_XReader_readThings_200 rfl ?_
          obtain ⟨le185, hs184, h⟩ := zoS_s h
          refine zr_get F 7 5 zd_XReader_readThings_201 (zW_o hs184 (by decide)) rfl (by decide) zw_53 rfl (by rfl) ?_
          refine zr_pcn 204 rfl ?_
          obtain ⟨le187, hs186, h⟩ := zoS_s h
          cases h
  ·
    rw [if_pos hb7] at h
    refine zr_iconstv (v := 1) F zd_XReader_readThings_15 (by decide) ?_
    refine zr_goto F 20 zd_XReader_readThings_16 (by decide) ?_
    refine zr_istore_n F zd_XReader_readThings_20 (by decide) ?_
    refine zr_iconstv (v := 0) F zd_XReader_readThings_21 (by decide) ?_
    refine zr_istore_n F zd_XReader_readThings_22 (by decide) ?_
    obtain ⟨q189, eq189, h⟩ := zoB_s h
    refine zr_loc (L' := [(0, .ref (b + o)), (1, .int x0_), (2, .int 1), (3, .int 0)]) ⟨rfl, rfl, rfl, rfl, trivial⟩ ?_
    refine lp_XReader_readThings_23 F _ _ _ _ _ _ _ eq189 ?_
    ·
      refine zr_iload_n F zd_XReader_readThings_181 rfl ?_
      refine zr_if_eq F 207 zd_XReader_readThings_182 (by decide) (fun hb190 => ?_) (fun hb190 => ?_)
      ·
        rw [if_pos hb190] at h
        refine zr_pcn 207 rfl ?_
        refine zr_aload_n F zd_XReader_readThings_207 rfl ?_
        refine zr_bipushv (v := 93) F zd_XReader_readThings_208 (by decide) ?_
        obtain ⟨le192, hs191, h⟩ := zoS_s h
        obtain ⟨p193, ep193, h⟩ := zoB_s h
        refine zr_callV0 F (k_XReader_need l D tA b sh _ ep193) zd_XReader_readThings_210 (zW_o hs191 (by decide)) rfl zs_XReader_45 rfl zq_XReader_need rfl rfl ⟨(Nat.le_of_ble_eq_true rfl), (Nat.le_of_ble_eq_true rfl)⟩ (Nat.le_of_ble_eq_true rfl) ⟨(Nat.le_of_ble_eq_true rfl), (Nat.le_of_ble_eq_true rfl)⟩ ?_
        obtain rfl := Option.some.inj h
        exact zr_vret F hr zd_XReader_readThings_213 (Nat.le_of_ble_eq_true rfl) (Nat.le_of_ble_eq_true rfl) ⟨rfl, rfl, rfl⟩
      ·
        rw [if_neg hb190] at h
        refine zr_aload_n F zd_XReader_readThings_185 rfl ?_
        refine zr_aload_n F zd_XReader_readThings_186 rfl ?_
        refine zr_bipushv (v := 123) F zd_XReader_readThings_187 (by decide) ?_
        obtain ⟨le195, hs194, h⟩ := zoS_s h
        obtain ⟨p196, ep196, h⟩ := zoB_s h
        refine zr_callV1 F (k_XReader_sees l D tA b sh _ ep196) zd_XReader_readThings_189 (zW_o hs194 (by decide)) rfl zs_XReader_49 rfl zq_XReader_sees rfl rfl ⟨(Nat.le_of_ble_eq_true rfl), (Nat.le_of_ble_eq_true rfl)⟩ (Nat.le_of_ble_eq_true rfl) ⟨(Nat.le_of_ble_eq_true rfl), (Nat.le_of_ble_eq_true rfl)⟩ ?_
        refine zr_pcn 192 rfl ?_
        refine zr_if_eq F 199 zd_XReader_readThings_192 (by decide) (fun hb197 => ?_) (fun hb197 => ?_)
        ·
          rw [if_pos hb197] at h
          refine zr_iconstv (v := 1) F zd_XReader_readThings_199 (by decide) ?_
          refine zr_aload_n F zd_XReader_readThings_200 rfl ?_
          obtain ⟨le199, hs198, h⟩ := zoS_s h
          refine zr_get F 7 5 zd_XReader_readThings_201 (zW_o hs198 (by decide)) rfl (by decide) zw_53 rfl (by rfl) ?_
          obtain ⟨le201, hs200, h⟩ := zoS_s h
          cases h
        ·
          rw [if_neg hb197] at h
          refine zr_iconstv (v := 3) F zd_XReader_readThings_195 (by decide) ?_
          refine zr_goto F 200 zd_XReader_readThings_196 (by decide) ?_
          refine zr_aload_n F zd_XReader_readThings_200 rfl ?_
          refine zr_pcn 201 rfl ?_
          obtain ⟨le204, hs203, h⟩ := zoS_s h
          refine zr_get F 7 5 zd_XReader_readThings_201 (zW_o hs203 (by decide)) rfl (by decide) zw_53 rfl (by rfl) ?_
          obtain ⟨le206, hs205, h⟩ := zoS_s h
          cases h
def L_T_XReader_readThings_23 (sh : zSh) (fuel : Nat) (v0 : Nat) (v1 : Int32) (v2 : Int32) (v3 : Int32) (mm : zMem) : Option (Nat × Nat × Int32 × Int32 × Int32 × zMem) := match fuel with
  | 0 => none
  | fu + 1 => (if (v1 : Int32) < 0 ∨ 5 ≤ (v1 : Int32).toNatClampNeg then none else (if (zliI (v1 : Int32).toNatClampNeg) ≤ v3 then some (1, v0, v1, v2, v3, mm) else (if v2 = 0 then some (1, v0, v1, v2, v3, mm) else zoS (sh v0) 7 (fun le12 => zoX (F_XReader_need sh mm v0 123) (Option.bind (T_XReader_need sh mm v0 123) (fun mq14 => some (0, (0 : Nat), (0 : Int32), (0 : Int32), (0 : Int32), mq14))) (fun p13 => (if v1 = 0 then zoS (sh v0) 7 (fun le17 => Option.bind (p13.2.2 v0 7) (fun a18 => zoS (sh a18) 8 (fun le20 => Option.bind (p13.2.2 a18 1) (fun a21 => zoR (sh a21) (fun t25 le23 => if (v3 : Int32) < 0 ∨ le23 ≤ (v3 : Int32).toNatClampNeg then none else Option.bind (p13.2.2 a21 (v3 : Int32).toNatClampNeg) (fun a26 => zoS (sh v0) 7 (fun le28 => zoX (F_XReader_readTexture sh p13 v0 a26) (Option.bind (T_XReader_readTexture sh p13 v0 a26) (fun mq30 => some (0, (0 : Nat), (0 : Int32), (0 : Int32), (0 : Int32), mq30))) (fun p29 => zoS (sh v0) 7 (fun le32 => zoX (F_XReader_need sh p29 v0 125) (Option.bind (T_XReader_need sh p29 v0 125) (fun mq34 => some (0, (0 : Nat), (0 : Int32), (0 : Int32), (0 : Int32), mq34))) (fun p33 => zoS (sh v0) 7 (fun le36 => Option.bind (p33.2.2 v0 7) (fun a37 => zoS (sh a37) 8 (fun le39 => Option.bind (p33.2.2 a37 0) (fun a40 => zoL (v3 + 1) (fun x41 => zoS (sh a40) 100 (fun le43 => if (v1 : Int32) < 0 ∨ le43 ≤ (v1 : Int32).toNatClampNeg then none else zoL (mI p33 a40 (v1 : Int32).toNatClampNeg x41) (fun mm45 => zoS (sh v0) 7 (fun le47 => Option.bind (F_XReader_takes sh mm45 v0 44) (fun p48 => L_T_XReader_readThings_23 sh fu v0 v1 (p48.1) (v3 + 1) (p48.2)))))))))))))))))))) else (if v1 = 1 then zoS (sh v0) 7 (fun le50 => Option.bind (p13.2.2 v0 7) (fun a51 => zoS (sh a51) 8 (fun le53 => Option.bind (p13.2.2 a51 2) (fun a54 => zoR (sh a54) (fun t58 le56 => if (v3 : Int32) < 0 ∨ le56 ≤ (v3 : Int32).toNatClampNeg then none else Option.bind (p13.2.2 a54 (v3 : Int32).toNatClampNeg) (fun a59 => zoS (sh v0) 7 (fun le61 => zoX (F_XReader_readMaterial sh p13 v0 a59) (Option.bind (T_XReader_readMaterial sh p13 v0 a59) (fun mq63 => some (0, (0 : Nat), (0 : Int32), (0 : Int32), (0 : Int32), mq63))) (fun p62 => zoS (sh v0) 7 (fun le65 => zoX (F_XReader_need sh p62 v0 125) (Option.bind (T_XReader_need sh p62 v0 125) (fun mq67 => some (0, (0 : Nat), (0 : Int32), (0 : Int32), (0 : Int32), mq67))) (fun p66 => zoS (sh v0) 7 (fun le69 => Option.bind (p66.2.2 v0 7) (fun a70 => zoS (sh a70) 8 (fun le72 => Option.bind (p66.2.2 a70 0) (fun a73 => zoL (v3 + 1) (fun x74 => zoS (sh a73) 100 (fun le76 => if (v1 : Int32) < 0 ∨ le76 ≤ (v1 : Int32).toNatClampNeg then none else zoL (mI p66 a73 (v1 : Int32).toNatClampNeg x74) (fun mm78 => zoS (sh v0) 7 (fun le80 => Option.bind (F_XReader_takes sh mm78 v0 44) (fun p81 => L_T_XReader_readThings_23 sh fu v0 v1 (p81.1) (v3 + 1) (p81.2)))))))))))))))))))) else (if v1 = 2 then zoS (sh v0) 7 (fun le83 => Option.bind (p13.2.2 v0 7) (fun a84 => zoS (sh a84) 8 (fun le86 => Option.bind (p13.2.2 a84 3) (fun a87 => zoR (sh a87) (fun t91 le89 => if (v3 : Int32) < 0 ∨ le89 ≤ (v3 : Int32).toNatClampNeg then none else Option.bind (p13.2.2 a87 (v3 : Int32).toNatClampNeg) (fun a92 => zoS (sh v0) 7 (fun le94 => zoX (F_XReader_readMesh sh p13 v0 a92) (Option.bind (T_XReader_readMesh sh p13 v0 a92) (fun mq96 => some (0, (0 : Nat), (0 : Int32), (0 : Int32), (0 : Int32), mq96))) (fun p95 => zoS (sh v0) 7 (fun le98 => zoX (F_XReader_need sh p95 v0 125) (Option.bind (T_XReader_need sh p95 v0 125) (fun mq100 => some (0, (0 : Nat), (0 : Int32), (0 : Int32), (0 : Int32), mq100))) (fun p99 => zoS (sh v0) 7 (fun le102 => Option.bind (p99.2.2 v0 7) (fun a103 => zoS (sh a103) 8 (fun le105 => Option.bind (p99.2.2 a103 0) (fun a106 => zoL (v3 + 1) (fun x107 => zoS (sh a106) 100 (fun le109 => if (v1 : Int32) < 0 ∨ le109 ≤ (v1 : Int32).toNatClampNeg then none else zoL (mI p99 a106 (v1 : Int32).toNatClampNeg x107) (fun mm111 => zoS (sh v0) 7 (fun le113 => Option.bind (F_XReader_takes sh mm111 v0 44) (fun p114 => L_T_XReader_readThings_23 sh fu v0 v1 (p114.1) (v3 + 1) (p114.2)))))))))))))))))))) else (if v1 = 3 then zoS (sh v0) 7 (fun le116 => Option.bind (p13.2.2 v0 7) (fun a117 => zoS (sh a117) 8 (fun le119 => Option.bind (p13.2.2 a117 4) (fun a120 => zoR (sh a120) (fun t124 le122 => if (v3 : Int32) < 0 ∨ le122 ≤ (v3 : Int32).toNatClampNeg then none else Option.bind (p13.2.2 a120 (v3 : Int32).toNatClampNeg) (fun a125 => zoS (sh v0) 7 (fun le127 => zoX (F_XReader_readNode sh p13 v0 a125 v3) (Option.bind (T_XReader_readNode sh p13 v0 a125 v3) (fun mq129 => some (0, (0 : Nat), (0 : Int32), (0 : Int32), (0 : Int32), mq129))) (fun p128 => zoS (sh v0) 7 (fun le131 => zoX (F_XReader_need sh p128 v0 125) (Option.bind (T_XReader_need sh p128 v0 125) (fun mq133 => some (0, (0 : Nat), (0 : Int32), (0 : Int32), (0 : Int32), mq133))) (fun p132 => zoS (sh v0) 7 (fun le135 => Option.bind (p132.2.2 v0 7) (fun a136 => zoS (sh a136) 8 (fun le138 => Option.bind (p132.2.2 a136 0) (fun a139 => zoL (v3 + 1) (fun x140 => zoS (sh a139) 100 (fun le142 => if (v1 : Int32) < 0 ∨ le142 ≤ (v1 : Int32).toNatClampNeg then none else zoL (mI p132 a139 (v1 : Int32).toNatClampNeg x140) (fun mm144 => zoS (sh v0) 7 (fun le146 => Option.bind (F_XReader_takes sh mm144 v0 44) (fun p147 => L_T_XReader_readThings_23 sh fu v0 v1 (p147.1) (v3 + 1) (p147.2)))))))))))))))))))) else zoS (sh v0) 7 (fun le149 => Option.bind (p13.2.2 v0 7) (fun a150 => zoS (sh a150) 8 (fun le152 => Option.bind (p13.2.2 a150 5) (fun a153 => zoR (sh a153) (fun t157 le155 => if (v3 : Int32) < 0 ∨ le155 ≤ (v3 : Int32).toNatClampNeg then none else Option.bind (p13.2.2 a153 (v3 : Int32).toNatClampNeg) (fun a158 => zoS (sh v0) 7 (fun le160 => zoX (F_XReader_readTrack sh p13 v0 a158) (Option.bind (T_XReader_readTrack sh p13 v0 a158) (fun mq162 => some (0, (0 : Nat), (0 : Int32), (0 : Int32), (0 : Int32), mq162))) (fun p161 => zoS (sh v0) 7 (fun le164 => zoX (F_XReader_need sh p161 v0 125) (Option.bind (T_XReader_need sh p161 v0 125) (fun mq166 => some (0, (0 : Nat), (0 : Int32), (0 : Int32), (0 : Int32), mq166))) (fun p165 => zoS (sh v0) 7 (fun le168 => Option.bind (p165.2.2 v0 7) (fun a169 => zoS (sh a169) 8 (fun le171 => Option.bind (p165.2.2 a169 0) (fun a172 => zoL (v3 + 1) (fun x173 => zoS (sh a172) 100 (fun le175 => if (v1 : Int32) < 0 ∨ le175 ≤ (v1 : Int32).toNatClampNeg then none else zoL (mI p165 a172 (v1 : Int32).toNatClampNeg x173) (fun mm177 => zoS (sh v0) 7 (fun le179 => Option.bind (F_XReader_takes sh mm177 v0 44) (fun p180 => L_T_XReader_readThings_23 sh fu v0 v1 (p180.1) (v3 + 1) (p180.2)))))))))))))))))))))))))))))
set_option maxHeartbeats 4000000 in
set_option maxRecDepth 100000 in
theorem lp_T_XReader_readThings_23 {p : Program} {l : Launch} {e : Env} {s : State} {m : MethodId} {args : Array Value} {below : List Frame} {meth : Method} {c : Code} {D : va_G} {tA : Nat → ClassId} {b n : Nat} {cls : String} {fT : zV} {nT : Nat} {sh : zSh} (F : zF p s m args meth c zb_XReader_readThings 4 "OrreryBox$Reader" D tA b) (hl : l.stackTraces = false) (hno : c.exceptionTable.toList = []) : ∀ (fuel : Nat) (v0 : Nat) (v1 : Int32) (v2 : Int32) (v3 : Int32) (mm : zMem) (r : Nat × Nat × Int32 × Int32 × Int32 × zMem), L_T_XReader_readThings_23 sh fuel v0 v1 v2 v3 mm = some r → (r.1 = 1 → Z p l e { frames := 10, cells := 1, slots := 6, locals := 190 } s m args below meth c D b 4 (zTQ below D b cls fT nT args s 1 6) (zW tA b sh r.2.2.2.2.2) n 0 0 181 [(0, .ref (b + (r.2.1))), (1, .int (r.2.2.1)), (2, .int (r.2.2.2.1)), (3, .int (r.2.2.2.2.1))] []) → (r.1 = 0 → zW tA b sh r.2.2.2.2.2 = fT ∧ n + 1 = nT) → Z p l e { frames := 10, cells := 1, slots := 6, locals := 190 } s m args below meth c D b 4 (zTQ below D b cls fT nT args s 1 6) (zW tA b sh mm) n 0 0 23 [(0, .ref (b + v0)), (1, .int v1), (2, .int v2), (3, .int v3)] [] := by
  intro fuel
  induction fuel with
  | zero =>
    intro v0 v1 v2 v3 mm r h
    cases h
  | succ fu ih =>
    intro v0 v1 v2 v3 mm r h hx0 hp
    rw [L_T_XReader_readThings_23] at h
    refine zr_iload_n F zd_XReader_readThings_23 rfl ?_
    refine zr_gl F zd_XReader_readThings_24 zw_1223 (fun tl hT => ?_)
    refine zr_iload_n F zd_XReader_readThings_27 rfl ?_
    obtain ⟨hi8, h⟩ := zoI_s h
    refine zr_ti (v := .int (zliI (v1 : Int32).toNatClampNeg)) F zd_XReader_readThings_28 hT hi8 rfl ?_
    refine zr_pcn 29 rfl ?_
    refine zr_icmp_ge F 181 zd_XReader_readThings_29 (by decide) (fun hb9 => ?_) (fun hb9 => ?_)
    ·
      rw [if_pos hb9] at h
      obtain rfl := Option.some.inj h
      refine zr_loc (L' := [(0, .ref (b + v0)), (1, .int v1), (2, .int v2), (3, .int v3)]) ⟨rfl, rfl, rfl, rfl, trivial⟩ ?_
      exact hx0 rfl
    ·
      rw [if_neg hb9] at h
      refine zr_iload_n F zd_XReader_readThings_32 rfl ?_
      refine zr_if_eq F 181 zd_XReader_readThings_33 (by decide) (fun hb10 => ?_) (fun hb10 => ?_)
      ·
        rw [if_pos hb10] at h
        obtain rfl := Option.some.inj h
        refine zr_loc (L' := [(0, .ref (b + v0)), (1, .int v1), (2, .int v2), (3, .int v3)]) ⟨rfl, rfl, rfl, rfl, trivial⟩ ?_
        exact hx0 rfl
      ·
        rw [if_neg hb10] at h
        refine zr_aload_n F zd_XReader_readThings_36 rfl ?_
        refine zr_bipushv (v := 123) F zd_XReader_readThings_37 (by decide) ?_
        obtain ⟨le12, hs11, h⟩ := zoS_s h
        cases ep13 : F_XReader_need sh mm v0 123 with
        | none =>
          rw [ep13] at h
          dsimp only [zoX] at h
          obtain ⟨mq14, emq14, h⟩ := zoB_s h
          obtain rfl := Option.some.inj h
          obtain ⟨ef, en⟩ := hp rfl
          subst ef
          subst en
          exact zr_thrV F hno (kT_XReader_need l D tA b sh _ hl emq14) zd_XReader_readThings_39 (zW_o hs11 (by decide)) rfl zs_XReader_45 rfl zq_XReader_need rfl rfl ⟨(Nat.le_of_ble_eq_true rfl), (Nat.le_of_ble_eq_true rfl)⟩ (Nat.le_of_ble_eq_true rfl) ⟨(Nat.le_of_ble_eq_true rfl), (Nat.le_of_ble_eq_true rfl)⟩ ⟨(Nat.le_of_ble_eq_true rfl), (Nat.le_of_ble_eq_true rfl)⟩
        | some p13 =>
          rw [ep13] at h
          dsimp only [zoX] at h
          refine zr_callV0 F (k_XReader_need l D tA b sh _ ep13) zd_XReader_readThings_39 (zW_o hs11 (by decide)) rfl zs_XReader_45 rfl zq_XReader_need rfl rfl ⟨(Nat.le_of_ble_eq_true rfl), (Nat.le_of_ble_eq_true rfl)⟩ (Nat.le_of_ble_eq_true rfl) ⟨(Nat.le_of_ble_eq_true rfl), (Nat.le_of_ble_eq_true rfl)⟩ ?_
          refine zr_iload_n F zd_XReader_readThings_42 rfl ?_
          by_cases hb15_0 : v1 = 0
          ·
            rw [if_pos hb15_0] at h
            refine zr_tableIn F 72 zd_XReader_readThings_43 (by rw [hb15_0]; decide) (by rw [hb15_0]; decide) (by rw [hb15_0]; rfl) (by decide) ?_
            refine zr_pcn 72 rfl ?_
            refine zr_aload_n F zd_XReader_readThings_72 rfl ?_
            refine zr_aload_n F zd_XReader_readThings_73 rfl ?_
            obtain ⟨le17, hs16, h⟩ := zoS_s h
            obtain ⟨a18, ea18, h⟩ := zoB_s h
            refine zr_get F 7 7 zd_XReader_readThings_74 (zW_o hs16 (by decide)) rfl (by decide) zw_55 rfl (by rfl) ?_
            refine zr_tor ea18 ?_
            obtain ⟨le20, hs19, h⟩ := zoS_s h
            obtain ⟨a21, ea21, h⟩ := zoB_s h
            refine zr_get F 8 1 zd_XReader_readThings_77 (zW_o hs19 (by decide)) rfl (by decide) zw_286 rfl (by rfl) ?_
            refine zr_tor ea21 ?_
            refine zr_iload_n F zd_XReader_readThings_80 rfl ?_
            obtain ⟨t25, le23, hs22, h⟩ := zoR_s h
            obtain ⟨hi24, h⟩ := zoI_s h
            obtain ⟨a26, ea26, h⟩ := zoB_s h
            refine zr_aaldW F zd_XReader_readThings_81 hs22 hi24 ea26 ?_
            obtain ⟨le28, hs27, h⟩ := zoS_s h
            cases ep29 : F_XReader_readTexture sh p13 v0 a26 with
            | none =>
              rw [ep29] at h
              dsimp only [zoX] at h
              obtain ⟨mq30, emq30, h⟩ := zoB_s h
              obtain rfl := Option.some.inj h
              obtain ⟨ef, en⟩ := hp rfl
              subst ef
              subst en
              exact zr_thrV F hno (kT_XReader_readTexture l D tA b sh _ hl emq30) zd_XReader_readThings_82 (zW_o hs27 (by decide)) rfl zs_XReader_101 rfl zq_XReader_readTexture rfl rfl ⟨(Nat.le_of_ble_eq_true rfl), (Nat.le_of_ble_eq_true rfl)⟩ (Nat.le_of_ble_eq_true rfl) ⟨(Nat.le_of_ble_eq_true rfl), (Nat.le_of_ble_eq_true rfl)⟩ ⟨(Nat.le_of_ble_eq_true rfl), (Nat.le_of_ble_eq_true rfl)⟩
            | some p29 =>
              rw [ep29] at h
              dsimp only [zoX] at h
              refine zr_callV0 F (k_XReader_readTexture l D tA b sh _ ep29) zd_XReader_readThings_82 (zW_o hs27 (by decide)) rfl zs_XReader_101 rfl zq_XReader_readTexture rfl rfl ⟨(Nat.le_of_ble_eq_true rfl), (Nat.le_of_ble_eq_true rfl)⟩ (Nat.le_of_ble_eq_true rfl) ⟨(Nat.le_of_ble_eq_true rfl), (Nat.le_of_ble_eq_true rfl)⟩ ?_
              refine zr_goto F 150 zd_XReader_readThings_85 (by decide) ?_
              refine zr_pcn 150 rfl ?_
              refine zr_aload_n F zd_XReader_readThings_150 rfl ?_
              refine zr_bipushv (v := 125) F zd_XReader_readThings_151 (by decide) ?_
              obtain ⟨le32, hs31, h⟩ := zoS_s h
              cases ep33 : F_XReader_need sh p29 v0 125 with
              | none =>
                rw [ep33] at h
                dsimp only [zoX] at h
                obtain ⟨mq34, emq34, h⟩ := zoB_s h
                obtain rfl := Option.some.inj h
                obtain ⟨ef, en⟩ := hp rfl
                subst ef
                subst en
                exact zr_thrV F hno (kT_XReader_need l D tA b sh _ hl emq34) zd_XReader_readThings_153 (zW_o hs31 (by decide)) rfl zs_XReader_45 rfl zq_XReader_need rfl rfl ⟨(Nat.le_of_ble_eq_true rfl), (Nat.le_of_ble_eq_true rfl)⟩ (Nat.le_of_ble_eq_true rfl) ⟨(Nat.le_of_ble_eq_true rfl), (Nat.le_of_ble_eq_true rfl)⟩ ⟨(Nat.le_of_ble_eq_true rfl), (Nat.le_of_ble_eq_true rfl)⟩
              | some p33 =>
                rw [ep33] at h
                dsimp only [zoX] at h
                refine zr_callV0 F (k_XReader_need l D tA b sh _ ep33) zd_XReader_readThings_153 (zW_o hs31 (by decide)) rfl zs_XReader_45 rfl zq_XReader_need rfl rfl ⟨(Nat.le_of_ble_eq_true rfl), (Nat.le_of_ble_eq_true rfl)⟩ (Nat.le_of_ble_eq_true rfl) ⟨(Nat.le_of_ble_eq_true rfl), (Nat.le_of_ble_eq_true rfl)⟩ ?_
                refine zr_aload_n F zd_XReader_readThings_156 rfl ?_
                obtain ⟨le36, hs35, h⟩ := zoS_s h
                obtain ⟨a37, ea37, h⟩ := zoB_s h
                refine zr_get F 7 7 zd_XReader_readThings_157 (zW_o hs35 (by decide)) rfl (by decide) zw_55 rfl (by rfl) ?_
                refine zr_tor ea37 ?_
                obtain ⟨le39, hs38, h⟩ := zoS_s h
                obtain ⟨a40, ea40, h⟩ := zoB_s h
                refine zr_get F 8 0 zd_XReader_readThings_160 (zW_o hs38 (by decide)) rfl (by decide) zw_284 rfl (by rfl) ?_
                refine zr_tor ea40 ?_
                refine zr_iload_n F zd_XReader_readThings_163 rfl ?_
                refine zr_iload_n F zd_XReader_readThings_164 rfl ?_
                refine zr_pcn 165 rfl ?_
                refine zr_iconstv (v := 1) F zd_XReader_readThings_165 (by decide) ?_
                refine zr_iadd F zd_XReader_readThings_166 ?_
                obtain ⟨x41, ex41, h⟩ := zoL_s h
                rw [← ex41]
                obtain ⟨le43, hs42, h⟩ := zoS_s h
                obtain ⟨hi44, h⟩ := zoI_s h
                refine zr_iast F zd_XReader_readThings_167 (zW_a0 hs42) hi44 ?_
                obtain ⟨mm45, emm45, h⟩ := zoL_s h
                refine zr_norm (zW tA b sh mm45) _ (by rw [emm45]; exact zW_s0 hs42) rfl ?_
                refine zr_aload_n F zd_XReader_readThings_168 rfl ?_
                refine zr_bipushv (v := 44) F zd_XReader_readThings_169 (by decide) ?_
                obtain ⟨le47, hs46, h⟩ := zoS_s h
                obtain ⟨p48, ep48, h⟩ := zoB_s h
                refine zr_callV1 F (k_XReader_takes l D tA b sh _ ep48) zd_XReader_readThings_171 (zW_o hs46 (by decide)) rfl zs_XReader_74 rfl zq_XReader_takes rfl rfl ⟨(Nat.le_of_ble_eq_true rfl), (Nat.le_of_ble_eq_true rfl)⟩ (Nat.le_of_ble_eq_true rfl) ⟨(Nat.le_of_ble_eq_true rfl), (Nat.le_of_ble_eq_true rfl)⟩ ?_
                refine zr_istore_n F zd_XReader_readThings_174 (by decide) ?_
                refine zr_iinc (v := (v3 + 1)) F zd_XReader_readThings_175 rfl rfl (by decide) ?_
                refine zr_pcn 178 rfl ?_
                refine zr_goto F 23 zd_XReader_readThings_178 (by decide) ?_
                refine zr_loc (L' := [(0, .ref (b + v0)), (1, .int v1), (2, .int (p48.1)), (3, .int (v3 + 1))]) ⟨rfl, rfl, rfl, rfl, trivial⟩ ?_
                exact ih _ _ _ _ _ _ h hx0 hp
          ·
            rw [if_neg hb15_0] at h
            by_cases hb15_1 : v1 = 1
            ·
              rw [if_pos hb15_1] at h
              refine zr_tableIn F 88 zd_XReader_readThings_43 (by rw [hb15_1]; decide) (by rw [hb15_1]; decide) (by rw [hb15_1]; rfl) (by decide) ?_
              refine zr_aload_n F zd_XReader_readThings_88 rfl ?_
              refine zr_aload_n F zd_XReader_readThings_89 rfl ?_
              obtain ⟨le50, hs49, h⟩ := zoS_s h
              obtain ⟨a51, ea51, h⟩ := zoB_s h
              refine zr_get F 7 7 zd_XReader_readThings_90 (zW_o hs49 (by decide)) rfl (by decide) zw_55 rfl (by rfl) ?_
              refine zr_tor ea51 ?_
              obtain ⟨le53, hs52, h⟩ := zoS_s h
              obtain ⟨a54, ea54, h⟩ := zoB_s h
              refine zr_get F 8 2 zd_XReader_readThings_93 (zW_o hs52 (by decide)) rfl (by decide) zw_289 rfl (by rfl) ?_
              refine zr_tor ea54 ?_
              refine zr_iload_n F zd_XReader_readThings_96 rfl ?_
              obtain ⟨t58, le56, hs55, h⟩ := zoR_s h
              obtain ⟨hi57, h⟩ := zoI_s h
              obtain ⟨a59, ea59, h⟩ := zoB_s h
              refine zr_aaldW F zd_XReader_readThings_97 hs55 hi57 ea59 ?_
              obtain ⟨le61, hs60, h⟩ := zoS_s h
              cases ep62 : F_XReader_readMaterial sh p13 v0 a59 with
              | none =>
                rw [ep62] at h
                dsimp only [zoX] at h
                obtain ⟨mq63, emq63, h⟩ := zoB_s h
                obtain rfl := Option.some.inj h
                obtain ⟨ef, en⟩ := hp rfl
                subst ef
                subst en
                exact zr_thrV F hno (kT_XReader_readMaterial l D tA b sh _ hl emq63) zd_XReader_readThings_98 (zW_o hs60 (by decide)) rfl zs_XReader_108 rfl zq_XReader_readMaterial rfl rfl ⟨(Nat.le_of_ble_eq_true rfl), (Nat.le_of_ble_eq_true rfl)⟩ (Nat.le_of_ble_eq_true rfl) ⟨(Nat.le_of_ble_eq_true rfl), (Nat.le_of_ble_eq_true rfl)⟩ ⟨(Nat.le_of_ble_eq_true rfl), (Nat.le_of_ble_eq_true rfl)⟩
              | some p62 =>
                rw [ep62] at h
                dsimp only [zoX] at h
                refine zr_callV0 F (k_XReader_readMaterial l D tA b sh _ ep62) zd_XReader_readThings_98 (zW_o hs60 (by decide)) rfl zs_XReader_108 rfl zq_XReader_readMaterial rfl rfl ⟨(Nat.le_of_ble_eq_true rfl), (Nat.le_of_ble_eq_true rfl)⟩ (Nat.le_of_ble_eq_true rfl) ⟨(Nat.le_of_ble_eq_true rfl), (Nat.le_of_ble_eq_true rfl)⟩ ?_
                refine zr_pcn 101 rfl ?_
                refine zr_goto F 150 zd_XReader_readThings_101 (by decide) ?_
                refine zr_aload_n F zd_XReader_readThings_150 rfl ?_
                refine zr_bipushv (v := 125) F zd_XReader_readThings_151 (by decide) ?_
                obtain ⟨le65, hs64, h⟩ := zoS_s h
                cases ep66 : F_XReader_need sh p62 v0 125 with
                | none =>
                  rw [ep66] at h
                  dsimp only [zoX] at h
                  obtain ⟨mq67, emq67, h⟩ := zoB_s h
                  obtain rfl := Option.some.inj h
                  obtain ⟨ef, en⟩ := hp rfl
                  subst ef
                  subst en
                  exact zr_thrV F hno (kT_XReader_need l D tA b sh _ hl emq67) zd_XReader_readThings_153 (zW_o hs64 (by decide)) rfl zs_XReader_45 rfl zq_XReader_need rfl rfl ⟨(Nat.le_of_ble_eq_true rfl), (Nat.le_of_ble_eq_true rfl)⟩ (Nat.le_of_ble_eq_true rfl) ⟨(Nat.le_of_ble_eq_true rfl), (Nat.le_of_ble_eq_true rfl)⟩ ⟨(Nat.le_of_ble_eq_true rfl), (Nat.le_of_ble_eq_true rfl)⟩
                | some p66 =>
                  rw [ep66] at h
                  dsimp only [zoX] at h
                  refine zr_callV0 F (k_XReader_need l D tA b sh _ ep66) zd_XReader_readThings_153 (zW_o hs64 (by decide)) rfl zs_XReader_45 rfl zq_XReader_need rfl rfl ⟨(Nat.le_of_ble_eq_true rfl), (Nat.le_of_ble_eq_true rfl)⟩ (Nat.le_of_ble_eq_true rfl) ⟨(Nat.le_of_ble_eq_true rfl), (Nat.le_of_ble_eq_true rfl)⟩ ?_
                  refine zr_aload_n F zd_XReader_readThings_156 rfl ?_
                  obtain ⟨le69, hs68, h⟩ := zoS_s h
                  obtain ⟨a70, ea70, h⟩ := zoB_s h
                  refine zr_get F 7 7 zd_XReader_readThings_157 (zW_o hs68 (by decide)) rfl (by decide) zw_55 rfl (by rfl) ?_
                  refine zr_tor ea70 ?_
                  obtain ⟨le72, hs71, h⟩ := zoS_s h
                  obtain ⟨a73, ea73, h⟩ := zoB_s h
                  refine zr_get F 8 0 zd_XReader_readThings_160 (zW_o hs71 (by decide)) rfl (by decide) zw_284 rfl (by rfl) ?_
                  refine zr_tor ea73 ?_
                  refine zr_iload_n F zd_XReader_readThings_163 rfl ?_
                  refine zr_pcn 164 rfl ?_
                  refine zr_iload_n F zd_XReader_readThings_164 rfl ?_
                  refine zr_iconstv (v := 1) F zd_XReader_readThings_165 (by decide) ?_
                  refine zr_iadd F zd_XReader_readThings_166 ?_
                  obtain ⟨x74, ex74, h⟩ := zoL_s h
                  rw [← ex74]
                  obtain ⟨le76, hs75, h⟩ := zoS_s h
                  obtain ⟨hi77, h⟩ := zoI_s h
                  refine zr_iast F zd_XReader_readThings_167 (zW_a0 hs75) hi77 ?_
                  obtain ⟨mm78, emm78, h⟩ := zoL_s h
                  refine zr_norm (zW tA b sh mm78) _ (by rw [emm78]; exact zW_s0 hs75) rfl ?_
                  refine zr_aload_n F zd_XReader_readThings_168 rfl ?_
                  refine zr_bipushv (v := 44) F zd_XReader_readThings_169 (by decide) ?_
                  obtain ⟨le80, hs79, h⟩ := zoS_s h
                  obtain ⟨p81, ep81, h⟩ := zoB_s h
                  refine zr_callV1 F (k_XReader_takes l D tA b sh _ ep81) zd_XReader_readThings_171 (zW_o hs79 (by decide)) rfl zs_XReader_74 rfl zq_XReader_takes rfl rfl ⟨(Nat.le_of_ble_eq_true rfl), (Nat.le_of_ble_eq_true rfl)⟩ (Nat.le_of_ble_eq_true rfl) ⟨(Nat.le_of_ble_eq_true rfl), (Nat.le_of_ble_eq_true rfl)⟩ ?_
                  refine zr_istore_n F zd_XReader_readThings_174 (by decide) ?_
                  refine zr_pcn 175 rfl ?_
                  refine zr_iinc (v := (v3 + 1)) F zd_XReader_readThings_175 rfl rfl (by decide) ?_
                  refine zr_goto F 23 zd_XReader_readThings_178 (by decide) ?_
                  refine zr_loc (L' := [(0, .ref (b + v0)), (1, .int v1), (2, .int (p81.1)), (3, .int (v3 + 1))]) ⟨rfl, rfl, rfl, rfl, trivial⟩ ?_
                  exact ih _ _ _ _ _ _ h hx0 hp
            ·
              rw [if_neg hb15_1] at h
              by_cases hb15_2 : v1 = 2
              ·
                rw [if_pos hb15_2] at h
                refine zr_tableIn F 104 zd_XReader_readThings_43 (by rw [hb15_2]; decide) (by rw [hb15_2]; decide) (by rw [hb15_2]; rfl) (by decide) ?_
                refine zr_aload_n F zd_XReader_readThings_104 rfl ?_
                refine zr_aload_n F zd_XReader_readThings_105 rfl ?_
                obtain ⟨le83, hs82, h⟩ := zoS_s h
                obtain ⟨a84, ea84, h⟩ := zoB_s h
                refine zr_get F 7 7 zd_XReader_readThings_106 (zW_o hs82 (by decide)) rfl (by decide) zw_55 rfl (by rfl) ?_
                refine zr_tor ea84 ?_
                obtain ⟨le86, hs85, h⟩ := zoS_s h
                obtain ⟨a87, ea87, h⟩ := zoB_s h
                refine zr_get F 8 3 zd_XReader_readThings_109 (zW_o hs85 (by decide)) rfl (by decide) zw_293 rfl (by rfl) ?_
                refine zr_tor ea87 ?_
                refine zr_iload_n F zd_XReader_readThings_112 rfl ?_
                obtain ⟨t91, le89, hs88, h⟩ := zoR_s h
                obtain ⟨hi90, h⟩ := zoI_s h
                obtain ⟨a92, ea92, h⟩ := zoB_s h
                refine zr_aaldW F zd_XReader_readThings_113 hs88 hi90 ea92 ?_
                refine zr_pcn 114 rfl ?_
                obtain ⟨le94, hs93, h⟩ := zoS_s h
                cases ep95 : F_XReader_readMesh sh p13 v0 a92 with
                | none =>
                  rw [ep95] at h
                  dsimp only [zoX] at h
                  obtain ⟨mq96, emq96, h⟩ := zoB_s h
                  obtain rfl := Option.some.inj h
                  obtain ⟨ef, en⟩ := hp rfl
                  subst ef
                  subst en
                  exact zr_thrV F hno (kT_XReader_readMesh l D tA b sh _ hl emq96) zd_XReader_readThings_114 (zW_o hs93 (by decide)) rfl zs_XReader_115 rfl zq_XReader_readMesh rfl rfl ⟨(Nat.le_of_ble_eq_true rfl), (Nat.le_of_ble_eq_true rfl)⟩ (Nat.le_of_ble_eq_true rfl) ⟨(Nat.le_of_ble_eq_true rfl), (Nat.le_of_ble_eq_true rfl)⟩ ⟨(Nat.le_of_ble_eq_true rfl), (Nat.le_of_ble_eq_true rfl)⟩
                | some p95 =>
                  rw [ep95] at h
                  dsimp only [zoX] at h
                  refine zr_callV0 F (k_XReader_readMesh l D tA b sh _ ep95) zd_XReader_readThings_114 (zW_o hs93 (by decide)) rfl zs_XReader_115 rfl zq_XReader_readMesh rfl rfl ⟨(Nat.le_of_ble_eq_true rfl), (Nat.le_of_ble_eq_true rfl)⟩ (Nat.le_of_ble_eq_true rfl) ⟨(Nat.le_of_ble_eq_true rfl), (Nat.le_of_ble_eq_true rfl)⟩ ?_
                  refine zr_goto F 150 zd_XReader_readThings_117 (by decide) ?_
                  refine zr_aload_n F zd_XReader_readThings_150 rfl ?_
                  refine zr_bipushv (v := 125) F zd_XReader_readThings_151 (by decide) ?_
                  obtain ⟨le98, hs97, h⟩ := zoS_s h
                  cases ep99 : F_XReader_need sh p95 v0 125 with
                  | none =>
                    rw [ep99] at h
                    dsimp only [zoX] at h
                    obtain ⟨mq100, emq100, h⟩ := zoB_s h
                    obtain rfl := Option.some.inj h
                    obtain ⟨ef, en⟩ := hp rfl
                    subst ef
                    subst en
                    exact zr_thrV F hno (kT_XReader_need l D tA b sh _ hl emq100) zd_XReader_readThings_153 (zW_o hs97 (by decide)) rfl zs_XReader_45 rfl zq_XReader_need rfl rfl ⟨(Nat.le_of_ble_eq_true rfl), (Nat.le_of_ble_eq_true rfl)⟩ (Nat.le_of_ble_eq_true rfl) ⟨(Nat.le_of_ble_eq_true rfl), (Nat.le_of_ble_eq_true rfl)⟩ ⟨(Nat.le_of_ble_eq_true rfl), (Nat.le_of_ble_eq_true rfl)⟩
                  | some p99 =>
                    rw [ep99] at h
                    dsimp only [zoX] at h
                    refine zr_callV0 F (k_XReader_need l D tA b sh _ ep99) zd_XReader_readThings_153 (zW_o hs97 (by decide)) rfl zs_XReader_45 rfl zq_XReader_need rfl rfl ⟨(Nat.le_of_ble_eq_true rfl), (Nat.le_of_ble_eq_true rfl)⟩ (Nat.le_of_ble_eq_true rfl) ⟨(Nat.le_of_ble_eq_true rfl), (Nat.le_of_ble_eq_true rfl)⟩ ?_
                    refine zr_aload_n F zd_XReader_readThings_156 rfl ?_
                    obtain ⟨le102, hs101, h⟩ := zoS_s h
                    obtain ⟨a103, ea103, h⟩ := zoB_s h
                    refine zr_get F 7 7 zd_XReader_readThings_157 (zW_o hs101 (by decide)) rfl (by decide) zw_55 rfl (by rfl) ?_
                    refine zr_tor ea103 ?_
                    obtain ⟨le105, hs104, h⟩ := zoS_s h
                    obtain ⟨a106, ea106, h⟩ := zoB_s h
                    refine zr_get F 8 0 zd_XReader_readThings_160 (zW_o hs104 (by decide)) rfl (by decide) zw_284 rfl (by rfl) ?_
                    refine zr_tor ea106 ?_
                    refine zr_pcn 163 rfl ?_
                    refine zr_iload_n F zd_XReader_readThings_163 rfl ?_
                    refine zr_iload_n F zd_XReader_readThings_164 rfl ?_
                    refine zr_iconstv (v := 1) F zd_XReader_readThings_165 (by decide) ?_
                    refine zr_iadd F zd_XReader_readThings_166 ?_
                    obtain ⟨x107, ex107, h⟩ := zoL_s h
                    rw [← ex107]
                    obtain ⟨le109, hs108, h⟩ := zoS_s h
                    obtain ⟨hi110, h⟩ := zoI_s h
                    refine zr_iast F zd_XReader_readThings_167 (zW_a0 hs108) hi110 ?_
                    obtain ⟨mm111, emm111, h⟩ := zoL_s h
                    refine zr_norm (zW tA b sh mm111) _ (by rw [emm111]; exact zW_s0 hs108) rfl ?_
                    refine zr_aload_n F zd_XReader_readThings_168 rfl ?_
                    refine zr_bipushv (v := 44) F zd_XReader_readThings_169 (by decide) ?_
                    obtain ⟨le113, hs112, h⟩ := zoS_s h
                    obtain ⟨p114, ep114, h⟩ := zoB_s h
                    refine zr_callV1 F (k_XReader_takes l D tA b sh _ ep114) zd_XReader_readThings_171 (zW_o hs112 (by decide)) rfl zs_XReader_74 rfl zq_XReader_takes rfl rfl ⟨(Nat.le_of_ble_eq_true rfl), (Nat.le_of_ble_eq_true rfl)⟩ (Nat.le_of_ble_eq_true rfl) ⟨(Nat.le_of_ble_eq_true rfl), (Nat.le_of_ble_eq_true rfl)⟩ ?_
                    refine zr_pcn 174 rfl ?_
                    refine zr_istore_n F zd_XReader_readThings_174 (by decide) ?_
                    refine zr_iinc (v := (v3 + 1)) F zd_XReader_readThings_175 rfl rfl (by decide) ?_
                    refine zr_goto F 23 zd_XReader_readThings_178 (by decide) ?_
                    refine zr_loc (L' := [(0, .ref (b + v0)), (1, .int v1), (2, .int (p114.1)), (3, .int (v3 + 1))]) ⟨rfl, rfl, rfl, rfl, trivial⟩ ?_
                    exact ih _ _ _ _ _ _ h hx0 hp
              ·
                rw [if_neg hb15_2] at h
                by_cases hb15_3 : v1 = 3
                ·
                  rw [if_pos hb15_3] at h
                  refine zr_tableIn F 120 zd_XReader_readThings_43 (by rw [hb15_3]; decide) (by rw [hb15_3]; decide) (by rw [hb15_3]; rfl) (by decide) ?_
                  refine zr_aload_n F zd_XReader_readThings_120 rfl ?_
                  refine zr_aload_n F zd_XReader_readThings_121 rfl ?_
                  obtain ⟨le116, hs115, h⟩ := zoS_s h
                  obtain ⟨a117, ea117, h⟩ := zoB_s h
                  refine zr_get F 7 7 zd_XReader_readThings_122 (zW_o hs115 (by decide)) rfl (by decide) zw_55 rfl (by rfl) ?_
                  refine zr_tor ea117 ?_
                  obtain ⟨le119, hs118, h⟩ := zoS_s h
                  obtain ⟨a120, ea120, h⟩ := zoB_s h
                  refine zr_get F 8 4 zd_XReader_readThings_125 (zW_o hs118 (by decide)) rfl (by decide) zw_297 rfl (by rfl) ?_
                  refine zr_tor ea120 ?_
                  refine zr_iload_n F zd_XReader_readThings_128 rfl ?_
                  refine zr_pcn 129 rfl ?_
                  obtain ⟨t124, le122, hs121, h⟩ := zoR_s h
                  obtain ⟨hi123, h⟩ := zoI_s h
                  obtain ⟨a125, ea125, h⟩ := zoB_s h
                  refine zr_aaldW F zd_XReader_readThings_129 hs121 hi123 ea125 ?_
                  refine zr_iload_n F zd_XReader_readThings_130 rfl ?_
                  obtain ⟨le127, hs126, h⟩ := zoS_s h
                  cases ep128 : F_XReader_readNode sh p13 v0 a125 v3 with
                  | none =>
                    rw [ep128] at h
                    dsimp only [zoX] at h
                    obtain ⟨mq129, emq129, h⟩ := zoB_s h
                    obtain rfl := Option.some.inj h
                    obtain ⟨ef, en⟩ := hp rfl
                    subst ef
                    subst en
                    exact zr_thrV F hno (kT_XReader_readNode l D tA b sh _ hl emq129) zd_XReader_readThings_131 (zW_o hs126 (by decide)) rfl zs_XReader_122 rfl zq_XReader_readNode rfl rfl ⟨(Nat.le_of_ble_eq_true rfl), (Nat.le_of_ble_eq_true rfl)⟩ (Nat.le_of_ble_eq_true rfl) ⟨(Nat.le_of_ble_eq_true rfl), (Nat.le_of_ble_eq_true rfl)⟩ ⟨(Nat.le_of_ble_eq_true rfl), (Nat.le_of_ble_eq_true rfl)⟩
                  | some p128 =>
                    rw [ep128] at h
                    dsimp only [zoX] at h
                    refine zr_callV0 F (k_XReader_readNode l D tA b sh _ ep128) zd_XReader_readThings_131 (zW_o hs126 (by decide)) rfl zs_XReader_122 rfl zq_XReader_readNode rfl rfl ⟨(Nat.le_of_ble_eq_true rfl), (Nat.le_of_ble_eq_true rfl)⟩ (Nat.le_of_ble_eq_true rfl) ⟨(Nat.le_of_ble_eq_true rfl), (Nat.le_of_ble_eq_true rfl)⟩ ?_
                    refine zr_goto F 150 zd_XReader_readThings_134 (by decide) ?_
                    refine zr_aload_n F zd_XReader_readThings_150 rfl ?_
                    refine zr_bipushv (v := 125) F zd_XReader_readThings_151 (by decide) ?_
                    obtain ⟨le131, hs130, h⟩ := zoS_s h
                    cases ep132 : F_XReader_need sh p128 v0 125 with
                    | none =>
                      rw [ep132] at h
                      dsimp only [zoX] at h
                      obtain ⟨mq133, emq133, h⟩ := zoB_s h
                      obtain rfl := Option.some.inj h
                      obtain ⟨ef, en⟩ := hp rfl
                      subst ef
                      subst en
                      exact zr_thrV F hno (kT_XReader_need l D tA b sh _ hl emq133) zd_XReader_readThings_153 (zW_o hs130 (by decide)) rfl zs_XReader_45 rfl zq_XReader_need rfl rfl ⟨(Nat.le_of_ble_eq_true rfl), (Nat.le_of_ble_eq_true rfl)⟩ (Nat.le_of_ble_eq_true rfl) ⟨(Nat.le_of_ble_eq_true rfl), (Nat.le_of_ble_eq_true rfl)⟩ ⟨(Nat.le_of_ble_eq_true rfl), (Nat.le_of_ble_eq_true rfl)⟩
                    | some p132 =>
                      rw [ep132] at h
                      dsimp only [zoX] at h
                      refine zr_callV0 F (k_XReader_need l D tA b sh _ ep132) zd_XReader_readThings_153 (zW_o hs130 (by decide)) rfl zs_XReader_45 rfl zq_XReader_need rfl rfl ⟨(Nat.le_of_ble_eq_true rfl), (Nat.le_of_ble_eq_true rfl)⟩ (Nat.le_of_ble_eq_true rfl) ⟨(Nat.le_of_ble_eq_true rfl), (Nat.le_of_ble_eq_true rfl)⟩ ?_
                      refine zr_aload_n F zd_XReader_readThings_156 rfl ?_
                      refine zr_pcn 157 rfl ?_
                      obtain ⟨le135, hs134, h⟩ := zoS_s h
                      obtain ⟨a136, ea136, h⟩ := zoB_s h
                      refine zr_get F 7 7 zd_XReader_readThings_157 (zW_o hs134 (by decide)) rfl (by decide) zw_55 rfl (by rfl) ?_
                      refine zr_tor ea136 ?_
                      obtain ⟨le138, hs137, h⟩ := zoS_s h
                      obtain ⟨a139, ea139, h⟩ := zoB_s h
                      refine zr_get F 8 0 zd_XReader_readThings_160 (zW_o hs137 (by decide)) rfl (by decide) zw_284 rfl (by rfl) ?_
                      refine zr_tor ea139 ?_
                      refine zr_iload_n F zd_XReader_readThings_163 rfl ?_
                      refine zr_iload_n F zd_XReader_readThings_164 rfl ?_
                      refine zr_iconstv (v := 1) F zd_XReader_readThings_165 (by decide) ?_
                      refine zr_iadd F zd_XReader_readThings_166 ?_
                      obtain ⟨x140, ex140, h⟩ := zoL_s h
                      rw [← ex140]
                      obtain ⟨le142, hs141, h⟩ := zoS_s h
                      obtain ⟨hi143, h⟩ := zoI_s h
                      refine zr_iast F zd_XReader_readThings_167 (zW_a0 hs141) hi143 ?_
                      obtain ⟨mm144, emm144, h⟩ := zoL_s h
                      refine zr_norm (zW tA b sh mm144) _ (by rw [emm144]; exact zW_s0 hs141) rfl ?_
                      refine zr_aload_n F zd_XReader_readThings_168 rfl ?_
                      refine zr_pcn 169 rfl ?_
                      refine zr_bipushv (v := 44) F zd_XReader_readThings_169 (by decide) ?_
                      obtain ⟨le146, hs145, h⟩ := zoS_s h
                      obtain ⟨p147, ep147, h⟩ := zoB_s h
                      refine zr_callV1 F (k_XReader_takes l D tA b sh _ ep147) zd_XReader_readThings_171 (zW_o hs145 (by decide)) rfl zs_XReader_74 rfl zq_XReader_takes rfl rfl ⟨(Nat.le_of_ble_eq_true rfl), (Nat.le_of_ble_eq_true rfl)⟩ (Nat.le_of_ble_eq_true rfl) ⟨(Nat.le_of_ble_eq_true rfl), (Nat.le_of_ble_eq_true rfl)⟩ ?_
                      refine zr_istore_n F zd_XReader_readThings_174 (by decide) ?_
                      refine zr_iinc (v := (v3 + 1)) F zd_XReader_readThings_175 rfl rfl (by decide) ?_
                      refine zr_goto F 23 zd_XReader_readThings_178 (by decide) ?_
                      refine zr_loc (L' := [(0, .ref (b + v0)), (1, .int v1), (2, .int (p147.1)), (3, .int (v3 + 1))]) ⟨rfl, rfl, rfl, rfl, trivial⟩ ?_
                      exact ih _ _ _ _ _ _ h hx0 hp
                ·
                  rw [if_neg hb15_3] at h
                  refine zr_tableOut F 137 zd_XReader_readThings_43 (zx_out v1 0 3 (by decide) (by decide) (by decide) (by omega) (fun j hj => by match j, hj with | 0, _ => exact hb15_0 | 1, _ => exact hb15_1 | 2, _ => exact hb15_2 | 3, _ => exact hb15_3 | j + 4, hq => exact absurd hq (by omega))) (by decide) ?_
                  refine zr_aload_n F zd_XReader_readThings_137 rfl ?_
                  refine zr_aload_n F zd_XReader_readThings_138 rfl ?_
                  obtain ⟨le149, hs148, h⟩ := zoS_s h
                  obtain ⟨a150, ea150, h⟩ := zoB_s h
                  refine zr_get F 7 7 zd_XReader_readThings_139 (zW_o hs148 (by decide)) rfl (by decide) zw_55 rfl (by rfl) ?_
                  refine zr_tor ea150 ?_
                  refine zr_pcn 142 rfl ?_
                  obtain ⟨le152, hs151, h⟩ := zoS_s h
                  obtain ⟨a153, ea153, h⟩ := zoB_s h
                  refine zr_get F 8 5 zd_XReader_readThings_142 (zW_o hs151 (by decide)) rfl (by decide) zw_300 rfl (by rfl) ?_
                  refine zr_tor ea153 ?_
                  refine zr_iload_n F zd_XReader_readThings_145 rfl ?_
                  obtain ⟨t157, le155, hs154, h⟩ := zoR_s h
                  obtain ⟨hi156, h⟩ := zoI_s h
                  obtain ⟨a158, ea158, h⟩ := zoB_s h
                  refine zr_aaldW F zd_XReader_readThings_146 hs154 hi156 ea158 ?_
                  obtain ⟨le160, hs159, h⟩ := zoS_s h
                  cases ep161 : F_XReader_readTrack sh p13 v0 a158 with
                  | none =>
                    rw [ep161] at h
                    dsimp only [zoX] at h
                    obtain ⟨mq162, emq162, h⟩ := zoB_s h
                    obtain rfl := Option.some.inj h
                    obtain ⟨ef, en⟩ := hp rfl
                    subst ef
                    subst en
                    exact zr_thrV F hno (kT_XReader_readTrack l D tA b sh _ hl emq162) zd_XReader_readThings_147 (zW_o hs159 (by decide)) rfl zs_XReader_129 rfl zq_XReader_readTrack rfl rfl ⟨(Nat.le_of_ble_eq_true rfl), (Nat.le_of_ble_eq_true rfl)⟩ (Nat.le_of_ble_eq_true rfl) ⟨(Nat.le_of_ble_eq_true rfl), (Nat.le_of_ble_eq_true rfl)⟩ ⟨(Nat.le_of_ble_eq_true rfl), (Nat.le_of_ble_eq_true rfl)⟩
                  | some p161 =>
                    rw [ep161] at h
                    dsimp only [zoX] at h
                    refine zr_callV0 F (k_XReader_readTrack l D tA b sh _ ep161) zd_XReader_readThings_147 (zW_o hs159 (by decide)) rfl zs_XReader_129 rfl zq_XReader_readTrack rfl rfl ⟨(Nat.le_of_ble_eq_true rfl), (Nat.le_of_ble_eq_true rfl)⟩ (Nat.le_of_ble_eq_true rfl) ⟨(Nat.le_of_ble_eq_true rfl), (Nat.le_of_ble_eq_true rfl)⟩ ?_
                    refine zr_aload_n F zd_XReader_readThings_150 rfl ?_
                    refine zr_bipushv (v := 125) F zd_XReader_readThings_151 (by decide) ?_
                    obtain ⟨le164, hs163, h⟩ := zoS_s h
                    cases ep165 : F_XReader_need sh p161 v0 125 with
                    | none =>
                      rw [ep165] at h
                      dsimp only [zoX] at h
                      obtain ⟨mq166, emq166, h⟩ := zoB_s h
                      obtain rfl := Option.some.inj h
                      obtain ⟨ef, en⟩ := hp rfl
                      subst ef
                      subst en
                      exact zr_thrV F hno (kT_XReader_need l D tA b sh _ hl emq166) zd_XReader_readThings_153 (zW_o hs163 (by decide)) rfl zs_XReader_45 rfl zq_XReader_need rfl rfl ⟨(Nat.le_of_ble_eq_true rfl), (Nat.le_of_ble_eq_true rfl)⟩ (Nat.le_of_ble_eq_true rfl) ⟨(Nat.le_of_ble_eq_true rfl), (Nat.le_of_ble_eq_true rfl)⟩ ⟨(Nat.le_of_ble_eq_true rfl), (Nat.le_of_ble_eq_true rfl)⟩
                    | some p165 =>
                      rw [ep165] at h
                      dsimp only [zoX] at h
                      refine zr_callV0 F (k_XReader_need l D tA b sh _ ep165) zd_XReader_readThings_153 (zW_o hs163 (by decide)) rfl zs_XReader_45 rfl zq_XReader_need rfl rfl ⟨(Nat.le_of_ble_eq_true rfl), (Nat.le_of_ble_eq_true rfl)⟩ (Nat.le_of_ble_eq_true rfl) ⟨(Nat.le_of_ble_eq_true rfl), (Nat.le_of_ble_eq_true rfl)⟩ ?_
                      refine zr_aload_n F zd_XReader_readThings_156 rfl ?_
                      refine zr_pcn 157 rfl ?_
                      obtain ⟨le168, hs167, h⟩ := zoS_s h
                      obtain ⟨a169, ea169, h⟩ := zoB_s h
                      refine zr_get F 7 7 zd_XReader_readThings_157 (zW_o hs167 (by decide)) rfl (by decide) zw_55 rfl (by rfl) ?_
                      refine zr_tor ea169 ?_
                      obtain ⟨le171, hs170, h⟩ := zoS_s h
                      obtain ⟨a172, ea172, h⟩ := zoB_s h
                      refine zr_get F 8 0 zd_XReader_readThings_160 (zW_o hs170 (by decide)) rfl (by decide) zw_284 rfl (by rfl) ?_
                      refine zr_tor ea172 ?_
                      refine zr_iload_n F zd_XReader_readThings_163 rfl ?_
                      refine zr_iload_n F zd_XReader_readThings_164 rfl ?_
                      refine zr_iconstv (v := 1) F zd_XReader_readThings_165 (by decide) ?_
                      refine zr_iadd F zd_XReader_readThings_166 ?_
                      obtain ⟨x173, ex173, h⟩ := zoL_s h
                      rw [← ex173]
                      obtain ⟨le175, hs174, h⟩ := zoS_s h
                      obtain ⟨hi176, h⟩ := zoI_s h
                      refine zr_iast F zd_XReader_readThings_167 (zW_a0 hs174) hi176 ?_
                      obtain ⟨mm177, emm177, h⟩ := zoL_s h
                      refine zr_norm (zW tA b sh mm177) _ (by rw [emm177]; exact zW_s0 hs174) rfl ?_
                      refine zr_aload_n F zd_XReader_readThings_168 rfl ?_
                      refine zr_pcn 169 rfl ?_
                      refine zr_bipushv (v := 44) F zd_XReader_readThings_169 (by decide) ?_
                      obtain ⟨le179, hs178, h⟩ := zoS_s h
                      obtain ⟨p180, ep180, h⟩ := zoB_s h
                      refine zr_callV1 F (k_XReader_takes l D tA b sh _ ep180) zd_XReader_readThings_171 (zW_o hs178 (by decide)) rfl zs_XReader_74 rfl zq_XReader_takes rfl rfl ⟨(Nat.le_of_ble_eq_true rfl), (Nat.le_of_ble_eq_true rfl)⟩ (Nat.le_of_ble_eq_true rfl) ⟨(Nat.le_of_ble_eq_true rfl), (Nat.le_of_ble_eq_true rfl)⟩ ?_
                      refine zr_istore_n F zd_XReader_readThings_174 (by decide) ?_
                      refine zr_iinc (v := (v3 + 1)) F zd_XReader_readThings_175 rfl rfl (by decide) ?_
                      refine zr_goto F 23 zd_XReader_readThings_178 (by decide) ?_
                      refine zr_loc (L' := [(0, .ref (b + v0)), (1, .int v1), (2, .int (p180.1)), (3, .int (v3 + 1))]) ⟨rfl, rfl, rfl, rfl, trivial⟩ ?_
                      exact ih _ _ _ _ _ _ h hx0 hp
def T_XReader_readThings (sh : zSh) (mm : zMem) (o : Nat) (x0_ : Int32) : Option zMem := zoS (sh o) 7 (fun le2 => zoX (F_XReader_need sh mm o 91) (T_XReader_need sh mm o 91) (fun p3 => zoS (sh o) 7 (fun le5 => Option.bind (F_XReader_sees sh p3 o 93) (fun p6 => (if p6.1 = 0 then Option.bind (L_T_XReader_readThings_23 sh zfuel o x0_ 1 0 (p6.2)) (fun q200 => (if q200.1 = 1 then (if q200.2.2.2.1 = 0 then zoS (sh (q200.2.1)) 7 (fun le203 => zoX (F_XReader_need sh (q200.2.2.2.2.2) (q200.2.1) 93) (T_XReader_need sh (q200.2.2.2.2.2) (q200.2.1) 93) (fun p204 => none)) else zoS (sh (q200.2.1)) 7 (fun le206 => Option.bind (F_XReader_sees sh (q200.2.2.2.2.2) (q200.2.1) 123) (fun p207 => (if p207.1 = 0 then zoS (sh (q200.2.1)) 7 (fun le210 => zoS (sh (q200.2.1)) 7 (fun le212 => T_XReader_refuse sh (p207.2) (q200.2.1) 1 ((p207.2).1 (q200.2.1) 5))) else zoS (sh (q200.2.1)) 7 (fun le215 => zoS (sh (q200.2.1)) 7 (fun le217 => T_XReader_refuse sh (p207.2) (q200.2.1) 3 ((p207.2).1 (q200.2.1) 5))))))) else some (q200.2.2.2.2.2))) else Option.bind (L_T_XReader_readThings_23 sh zfuel o x0_ 0 0 (p6.2)) (fun q181 => (if q181.1 = 1 then (if q181.2.2.2.1 = 0 then zoS (sh (q181.2.1)) 7 (fun le184 => zoX (F_XReader_need sh (q181.2.2.2.2.2) (q181.2.1) 93) (T_XReader_need sh (q181.2.2.2.2.2) (q181.2.1) 93) (fun p185 => none)) else zoS (sh (q181.2.1)) 7 (fun le187 => Option.bind (F_XReader_sees sh (q181.2.2.2.2.2) (q181.2.1) 123) (fun p188 => (if p188.1 = 0 then zoS (sh (q181.2.1)) 7 (fun le191 => zoS (sh (q181.2.1)) 7 (fun le193 => T_XReader_refuse sh (p188.2) (q181.2.1) 1 ((p188.2).1 (q181.2.1) 5))) else zoS (sh (q181.2.1)) 7 (fun le196 => zoS (sh (q181.2.1)) 7 (fun le198 => T_XReader_refuse sh (p188.2) (q181.2.1) 3 ((p188.2).1 (q181.2.1) 5))))))) else some (q181.2.2.2.2.2))))))))
set_option maxHeartbeats 4000000 in
set_option maxRecDepth 100000 in
theorem kT_XReader_readThings (l : Launch) (D : va_G) (tA : Nat → ClassId) (b : Nat) (sh : zSh) (n : Nat) (hl : l.stackTraces = false) {mm : zMem} {o : Nat} {x0_ : Int32} {r : zMem} (h : T_XReader_readThings sh mm o x0_ = some r) : zMT l D tA b zy_XReader_readThings zb_XReader_readThings 4 none 10 190 1 6 [.ref (b + o), .int x0_] (zW tA b sh mm) n "java/lang/IllegalArgumentException" (zW tA b sh r) (n + 1) := by
  unfold T_XReader_readThings at h
  refine zMT_of (own := "OrreryBox$Reader") (plainFor_of_name (by decide)) rfl (Nat.le_of_ble_eq_true rfl) (fun p e s m below meth c F hno hH => ?_)
  refine zr_aload_n F zd_XReader_readThings_0 rfl ?_
  refine zr_bipushv (v := 91) F zd_XReader_readThings_1 (by decide) ?_
  obtain ⟨le2, hs1, h⟩ := zoS_s h
  cases ep3 : F_XReader_need sh mm o 91 with
  | none =>
    rw [ep3] at h
    dsimp only [zoX] at h
    exact zr_thrV F hno (kT_XReader_need l D tA b sh _ hl h) zd_XReader_readThings_3 (zW_o hs1 (by decide)) rfl zs_XReader_45 rfl zq_XReader_need rfl rfl ⟨(Nat.le_of_ble_eq_true rfl), (Nat.le_of_ble_eq_true rfl)⟩ (Nat.le_of_ble_eq_true rfl) ⟨(Nat.le_of_ble_eq_true rfl), (Nat.le_of_ble_eq_true rfl)⟩ ⟨(Nat.le_of_ble_eq_true rfl), (Nat.le_of_ble_eq_true rfl)⟩
  | some p3 =>
    rw [ep3] at h
    dsimp only [zoX] at h
    refine zr_callV0 F (k_XReader_need l D tA b sh _ ep3) zd_XReader_readThings_3 (zW_o hs1 (by decide)) rfl zs_XReader_45 rfl zq_XReader_need rfl rfl ⟨(Nat.le_of_ble_eq_true rfl), (Nat.le_of_ble_eq_true rfl)⟩ (Nat.le_of_ble_eq_true rfl) ⟨(Nat.le_of_ble_eq_true rfl), (Nat.le_of_ble_eq_true rfl)⟩ ?_
    refine zr_aload_n F zd_XReader_readThings_6 rfl ?_
    refine zr_bipushv (v := 93) F zd_XReader_readThings_7 (by decide) ?_
    obtain ⟨le5, hs4, h⟩ := zoS_s h
    obtain ⟨p6, ep6, h⟩ := zoB_s h
    refine zr_callV1 F (k_XReader_sees l D tA b sh _ ep6) zd_XReader_readThings_9 (zW_o hs4 (by decide)) rfl zs_XReader_49 rfl zq_XReader_sees rfl rfl ⟨(Nat.le_of_ble_eq_true rfl), (Nat.le_of_ble_eq_true rfl)⟩ (Nat.le_of_ble_eq_true rfl) ⟨(Nat.le_of_ble_eq_true rfl), (Nat.le_of_ble_eq_true rfl)⟩ ?_
    refine zr_if_ne F 19 zd_XReader_readThings_12 (by decide) (fun hb7 => ?_) (fun hb7 => ?_)
    ·
      rw [if_neg hb7] at h
      refine zr_pcn 19 rfl ?_
      refine zr_iconstv (v := 0) F zd_XReader_readThings_19 (by decide) ?_
      refine zr_istore_n F zd_XReader_readThings_20 (by decide) ?_
      refine zr_iconstv (v := 0) F zd_XReader_readThings_21 (by decide) ?_
      refine zr_istore_n F zd_XReader_readThings_22 (by decide) ?_
      obtain ⟨q181, eq181, h⟩ := zoB_s h
      refine zr_loc (L' := [(0, .ref (b + o)), (1, .int x0_), (2, .int 0), (3, .int 0)]) ⟨rfl, rfl, rfl, rfl, trivial⟩ ?_
      refine lp_T_XReader_readThings_23 F hl hno _ _ _ _ _ _ _ eq181 ?_ ?_
      ·
        intro ec
        rw [if_pos ec] at h
        refine zr_iload_n F zd_XReader_readThings_181 rfl ?_
        refine zr_if_eq F 207 zd_XReader_readThings_182 (by decide) (fun hb182 => ?_) (fun hb182 => ?_)
        ·
          rw [if_pos hb182] at h
          refine zr_aload_n F zd_XReader_readThings_207 rfl ?_
          refine zr_pcn 208 rfl ?_
          refine zr_bipushv (v := 93) F zd_XReader_readThings_208 (by decide) ?_
          obtain ⟨le184, hs183, h⟩ := zoS_s h
          cases ep185 : F_XReader_need sh (q181.2.2.2.2.2) (q181.2.1) 93 with
          | none =>
            rw [ep185] at h
            dsimp only [zoX] at h
            exact zr_thrV F hno (kT_XReader_need l D tA b sh _ hl h) zd_XReader_readThings_210 (zW_o hs183 (by decide)) rfl zs_XReader_45 rfl zq_XReader_need rfl rfl ⟨(Nat.le_of_ble_eq_true rfl), (Nat.le_of_ble_eq_true rfl)⟩ (Nat.le_of_ble_eq_true rfl) ⟨(Nat.le_of_ble_eq_true rfl), (Nat.le_of_ble_eq_true rfl)⟩ ⟨(Nat.le_of_ble_eq_true rfl), (Nat.le_of_ble_eq_true rfl)⟩
          | some p185 =>
            rw [ep185] at h
            dsimp only [zoX] at h
            refine zr_callV0 F (k_XReader_need l D tA b sh _ ep185) zd_XReader_readThings_210 (zW_o hs183 (by decide)) rfl zs_XReader_45 rfl zq_XReader_need rfl rfl ⟨(Nat.le_of_ble_eq_true rfl), (Nat.le_of_ble_eq_true rfl)⟩ (Nat.le_of_ble_eq_true rfl) ⟨(Nat.le_of_ble_eq_true rfl), (Nat.le_of_ble_eq_true rfl)⟩ ?_
            cases h
        ·
          rw [if_neg hb182] at h
          refine zr_aload_n F zd_XReader_readThings_185 rfl ?_
          refine zr_aload_n F zd_XReader_readThings_186 rfl ?_
          refine zr_bipushv (v := 123) F zd_XReader_readThings_187 (by decide) ?_
          obtain ⟨le187, hs186, h⟩ := zoS_s h
          obtain ⟨p188, ep188, h⟩ := zoB_s h
          refine zr_callV1 F (k_XReader_sees l D tA b sh _ ep188) zd_XReader_readThings_189 (zW_o hs186 (by decide)) rfl zs_XReader_49 rfl zq_XReader_sees rfl rfl ⟨(Nat.le_of_ble_eq_true rfl), (Nat.le_of_ble_eq_true rfl)⟩ (Nat.le_of_ble_eq_true rfl) ⟨(Nat.le_of_ble_eq_true rfl), (Nat.le_of_ble_eq_true rfl)⟩ ?_
          refine zr_if_eq F 199 zd_XReader_readThings_192 (by decide) (fun hb189 => ?_) (fun hb189 => ?_)
          ·
            rw [if_pos hb189] at h
            refine zr_pcn 199 rfl ?_
            refine zr_iconstv (v := 1) F zd_XReader_readThings_199 (by decide) ?_
            refine zr_aload_n F zd_XReader_readThings_200 rfl ?_
            obtain ⟨le191, hs190, h⟩ := zoS_s h
            refine zr_get F 7 5 zd_XReader_readThings_201 (zW_o hs190 (by decide)) rfl (by decide) zw_53 rfl (by rfl) ?_
            obtain ⟨le193, hs192, h⟩ := zoS_s h
            exact zr_thrV F hno (kT_XReader_refuse l D tA b sh _ hl h) zd_XReader_readThings_204 (zW_o hs192 (by decide)) rfl zs_XReader_77 rfl zq_XReader_refuse rfl rfl ⟨(Nat.le_of_ble_eq_true rfl), (Nat.le_of_ble_eq_true rfl)⟩ (Nat.le_of_ble_eq_true rfl) ⟨(Nat.le_of_ble_eq_true rfl), (Nat.le_of_ble_eq_true rfl)⟩ ⟨(Nat.le_of_ble_eq_true rfl), (Nat.le_of_ble_eq_true rfl)⟩
          ·
            rw [if_neg hb189] at h
            refine zr_iconstv (v := 3) F zd_XReader_readThings_195 (by decide) ?_
            refine zr_goto F 200 zd_XReader_readThings_196 (by decide) ?_
            refine zr_aload_n F zd_XReader_readThings_200 rfl ?_
            obtain ⟨le196, hs195, h⟩ := zoS_s h
            refine zr_get F 7 5 zd_XReader_readThings_201 (zW_o hs195 (by decide)) rfl (by decide) zw_53 rfl (by rfl) ?_
            refine zr_pcn 204 rfl ?_
            obtain ⟨le198, hs197, h⟩ := zoS_s h
            exact zr_thrV F hno (kT_XReader_refuse l D tA b sh _ hl h) zd_XReader_readThings_204 (zW_o hs197 (by decide)) rfl zs_XReader_77 rfl zq_XReader_refuse rfl rfl ⟨(Nat.le_of_ble_eq_true rfl), (Nat.le_of_ble_eq_true rfl)⟩ (Nat.le_of_ble_eq_true rfl) ⟨(Nat.le_of_ble_eq_true rfl), (Nat.le_of_ble_eq_true rfl)⟩ ⟨(Nat.le_of_ble_eq_true rfl), (Nat.le_of_ble_eq_true rfl)⟩
      ·
        intro ec
        rw [if_neg (by rw [ec]; decide)] at h
        obtain rfl := Option.some.inj h
        exact ⟨rfl, rfl⟩
    ·
      rw [if_pos hb7] at h
      refine zr_iconstv (v := 1) F zd_XReader_readThings_15 (by decide) ?_
      refine zr_goto F 20 zd_XReader_readThings_16 (by decide) ?_
      refine zr_istore_n F zd_XReader_readThings_20 (by decide) ?_
      refine zr_iconstv (v := 0) F zd_XReader_readThings_21 (by decide) ?_
      refine zr_istore_n F zd_XReader_readThings_22 (by decide) ?_
      obtain ⟨q200, eq200, h⟩ := zoB_s h
      refine zr_loc (L' := [(0, .ref (b + o)), (1, .int x0_), (2, .int 1), (3, .int 0)]) ⟨rfl, rfl, rfl, rfl, trivial⟩ ?_
      refine lp_T_XReader_readThings_23 F hl hno _ _ _ _ _ _ _ eq200 ?_ ?_
      ·
        intro ec
        rw [if_pos ec] at h
        refine zr_iload_n F zd_XReader_readThings_181 rfl ?_
        refine zr_if_eq F 207 zd_XReader_readThings_182 (by decide) (fun hb201 => ?_) (fun hb201 => ?_)
        ·
          rw [if_pos hb201] at h
          refine zr_pcn 207 rfl ?_
          refine zr_aload_n F zd_XReader_readThings_207 rfl ?_
          refine zr_bipushv (v := 93) F zd_XReader_readThings_208 (by decide) ?_
          obtain ⟨le203, hs202, h⟩ := zoS_s h
          cases ep204 : F_XReader_need sh (q200.2.2.2.2.2) (q200.2.1) 93 with
          | none =>
            rw [ep204] at h
            dsimp only [zoX] at h
            exact zr_thrV F hno (kT_XReader_need l D tA b sh _ hl h) zd_XReader_readThings_210 (zW_o hs202 (by decide)) rfl zs_XReader_45 rfl zq_XReader_need rfl rfl ⟨(Nat.le_of_ble_eq_true rfl), (Nat.le_of_ble_eq_true rfl)⟩ (Nat.le_of_ble_eq_true rfl) ⟨(Nat.le_of_ble_eq_true rfl), (Nat.le_of_ble_eq_true rfl)⟩ ⟨(Nat.le_of_ble_eq_true rfl), (Nat.le_of_ble_eq_true rfl)⟩
          | some p204 =>
            rw [ep204] at h
            dsimp only [zoX] at h
            refine zr_callV0 F (k_XReader_need l D tA b sh _ ep204) zd_XReader_readThings_210 (zW_o hs202 (by decide)) rfl zs_XReader_45 rfl zq_XReader_need rfl rfl ⟨(Nat.le_of_ble_eq_true rfl), (Nat.le_of_ble_eq_true rfl)⟩ (Nat.le_of_ble_eq_true rfl) ⟨(Nat.le_of_ble_eq_true rfl), (Nat.le_of_ble_eq_true rfl)⟩ ?_
            cases h
        ·
          rw [if_neg hb201] at h
          refine zr_aload_n F zd_XReader_readThings_185 rfl ?_
          refine zr_aload_n F zd_XReader_readThings_186 rfl ?_
          refine zr_bipushv (v := 123) F zd_XReader_readThings_187 (by decide) ?_
          obtain ⟨le206, hs205, h⟩ := zoS_s h
          obtain ⟨p207, ep207, h⟩ := zoB_s h
          refine zr_callV1 F (k_XReader_sees l D tA b sh _ ep207) zd_XReader_readThings_189 (zW_o hs205 (by decide)) rfl zs_XReader_49 rfl zq_XReader_sees rfl rfl ⟨(Nat.le_of_ble_eq_true rfl), (Nat.le_of_ble_eq_true rfl)⟩ (Nat.le_of_ble_eq_true rfl) ⟨(Nat.le_of_ble_eq_true rfl), (Nat.le_of_ble_eq_true rfl)⟩ ?_
          refine zr_pcn 192 rfl ?_
          refine zr_if_eq F 199 zd_XReader_readThings_192 (by decide) (fun hb208 => ?_) (fun hb208 => ?_)
          ·
            rw [if_pos hb208] at h
            refine zr_iconstv (v := 1) F zd_XReader_readThings_199 (by decide) ?_
            refine zr_aload_n F zd_XReader_readThings_200 rfl ?_
            obtain ⟨le210, hs209, h⟩ := zoS_s h
            refine zr_get F 7 5 zd_XReader_readThings_201 (zW_o hs209 (by decide)) rfl (by decide) zw_53 rfl (by rfl) ?_
            obtain ⟨le212, hs211, h⟩ := zoS_s h
            exact zr_thrV F hno (kT_XReader_refuse l D tA b sh _ hl h) zd_XReader_readThings_204 (zW_o hs211 (by decide)) rfl zs_XReader_77 rfl zq_XReader_refuse rfl rfl ⟨(Nat.le_of_ble_eq_true rfl), (Nat.le_of_ble_eq_true rfl)⟩ (Nat.le_of_ble_eq_true rfl) ⟨(Nat.le_of_ble_eq_true rfl), (Nat.le_of_ble_eq_true rfl)⟩ ⟨(Nat.le_of_ble_eq_true rfl), (Nat.le_of_ble_eq_true rfl)⟩
          ·
            rw [if_neg hb208] at h
            refine zr_iconstv (v := 3) F zd_XReader_readThings_195 (by decide) ?_
            refine zr_goto F 200 zd_XReader_readThings_196 (by decide) ?_
            refine zr_aload_n F zd_XReader_readThings_200 rfl ?_
            refine zr_pcn 201 rfl ?_
            obtain ⟨le215, hs214, h⟩ := zoS_s h
            refine zr_get F 7 5 zd_XReader_readThings_201 (zW_o hs214 (by decide)) rfl (by decide) zw_53 rfl (by rfl) ?_
            obtain ⟨le217, hs216, h⟩ := zoS_s h
            exact zr_thrV F hno (kT_XReader_refuse l D tA b sh _ hl h) zd_XReader_readThings_204 (zW_o hs216 (by decide)) rfl zs_XReader_77 rfl zq_XReader_refuse rfl rfl ⟨(Nat.le_of_ble_eq_true rfl), (Nat.le_of_ble_eq_true rfl)⟩ (Nat.le_of_ble_eq_true rfl) ⟨(Nat.le_of_ble_eq_true rfl), (Nat.le_of_ble_eq_true rfl)⟩ ⟨(Nat.le_of_ble_eq_true rfl), (Nat.le_of_ble_eq_true rfl)⟩
      ·
        intro ec
        rw [if_neg (by rw [ec]; decide)] at h
        obtain rfl := Option.some.inj h
        exact ⟨rfl, rfl⟩
theorem zw_291 : (Jvm.Cond.fieldLink "OrreryBox$Sight" (143 : Nat) "OrreryBox$Scene" "materials" "[[I") ∈ gw := gw_t 291 (by decide +kernel) rfl
theorem zw_746 : (Jvm.Cond.methodLink "OrreryBox$Sight" (146 : Nat) ({ cls := "OrreryBox$Sight", name := "materialNumber", desc := "()I" } : Jvm.MethodName)) ∈ gw := gw_t 746 (by decide +kernel) rfl
theorem zw_747 : (Jvm.Cond.instanceMethod ({ cls := "OrreryBox$Sight", name := "materialNumber", desc := "()I" } : Jvm.MethodName)) ∈ gw := gw_t 747 (by decide +kernel) rfl
theorem zw_748 : (Jvm.Cond.selects "OrreryBox$Sight" ({ cls := "OrreryBox$Sight", name := "materialNumber", desc := "()I" } : Jvm.MethodName) ({ cls := "OrreryBox$Sight", name := "materialNumber", desc := "()I" } : Jvm.MethodName)) ∈ gw := gw_t 748 (by decide +kernel) rfl
theorem zs_XSight_146 : zwV "OrreryBox$Sight" 146 "OrreryBox$Sight" zy_XSight_materialNumber zb_XSight_materialNumber 1 (some .int) := ⟨zw_746, zw_747, zw_748, zw_10, zc_XSight_materialNumber⟩
theorem zw_750 : (Jvm.Cond.methodLink "OrreryBox$Sight" (150 : Nat) ({ cls := "OrreryBox$Piece", name := "take", desc := "([IIZ)Z" } : Jvm.MethodName)) ∈ gw := gw_t 750 (by decide +kernel) rfl
theorem zw_751 : (Jvm.Cond.instanceMethod ({ cls := "OrreryBox$Piece", name := "take", desc := "([IIZ)Z" } : Jvm.MethodName)) ∈ gw := gw_t 751 (by decide +kernel) rfl
theorem zw_752 : (Jvm.Cond.selects "OrreryBox$Piece" ({ cls := "OrreryBox$Piece", name := "take", desc := "([IIZ)Z" } : Jvm.MethodName) ({ cls := "OrreryBox$Piece", name := "take", desc := "([IIZ)Z" } : Jvm.MethodName)) ∈ gw := gw_t 752 (by decide +kernel) rfl
theorem zs_XSight_150 : zwV "OrreryBox$Sight" 150 "OrreryBox$Piece" zy_XPiece_take zb_XPiece_take 4 (some .boolean) := ⟨zw_750, zw_751, zw_752, zw_11, zc_XPiece_take⟩
def L_XSight_nextPiece_2 (sh : zSh) (fuel : Nat) (v0 : Nat) (v1 : Int32) (mm : zMem) : Option (Nat × Int32 × Nat × Int32 × zMem) := match fuel with
  | 0 => none
  | fu + 1 => (if 147456 ≤ v1 then some (1, (0 : Int32), v0, v1, mm) else zoS (sh v0) 9 (fun le3 => zoL ((mm.1 v0 4) + 1) (fun x4 => zoS (sh v0) 9 (fun le6 => zoL (mI mm v0 4 x4) (fun mm7 => zoS (sh v0) 9 (fun le9 => zoS (sh v0) 9 (fun le11 => (if ((mm7.1 v0 4) + 1) < (mm7.1 v0 3) then zoS (sh v0) 9 (fun le14 => Option.bind (mm7.2.2 v0 0) (fun a15 => zoS (sh v0) 9 (fun le17 => Option.bind (mm7.2.2 v0 2) (fun a18 => zoS (sh v0) 9 (fun le20 => zoS (sh v0) 9 (fun le22 => Option.bind (mm7.2.2 v0 7) (fun a23 => zoS (sh a23) 8 (fun le25 => Option.bind (mm7.2.2 a23 2) (fun a26 => zoS (sh v0) 9 (fun le28 => Option.bind (F_XSight_materialNumber sh mm7 v0) (fun p29 => zoR (sh a26) (fun t33 le31 => if (p29.1 : Int32) < 0 ∨ le31 ≤ (p29.1 : Int32).toNatClampNeg then none else Option.bind ((p29.2).2.2 a26 (p29.1 : Int32).toNatClampNeg) (fun a34 => zoS (sh a34) 100 (fun le36 => if (5 : Int32) < 0 ∨ le36 ≤ (5 : Int32).toNatClampNeg then none else (if ((p29.2).1 a34 (5 : Int32).toNatClampNeg) = 1 then zoS (sh a15) 6 (fun le44 => Option.bind (F_XPiece_take sh (p29.2) a15 a18 (mm7.1 v0 4) 1) (fun p45 => (if p45.1 = 0 then L_XSight_nextPiece_2 sh fu v0 (v1 + 1) (p45.2) else some (0, 1, (0 : Nat), (0 : Int32), p45.2)))) else zoS (sh a15) 6 (fun le40 => Option.bind (F_XPiece_take sh (p29.2) a15 a18 (mm7.1 v0 4) 0) (fun p41 => (if p41.1 = 0 then L_XSight_nextPiece_2 sh fu v0 (v1 + 1) (p41.2) else some (0, 1, (0 : Nat), (0 : Int32), p41.2))))))))))))))))))) else zoS (sh v0) 9 (fun le48 => Option.bind (F_XSight_nextFace sh mm7 v0) (fun p49 => (if p49.1 = 0 then some (0, 0, (0 : Nat), (0 : Int32), p49.2) else zoS (sh v0) 9 (fun le52 => zoL (mI (p49.2) v0 4 1) (fun mm53 => zoS (sh v0) 9 (fun le55 => Option.bind (mm53.2.2 v0 0) (fun a56 => zoS (sh v0) 9 (fun le58 => Option.bind (mm53.2.2 v0 2) (fun a59 => zoS (sh v0) 9 (fun le61 => zoS (sh v0) 9 (fun le63 => Option.bind (mm53.2.2 v0 7) (fun a64 => zoS (sh a64) 8 (fun le66 => Option.bind (mm53.2.2 a64 2) (fun a67 => zoS (sh v0) 9 (fun le69 => Option.bind (F_XSight_materialNumber sh mm53 v0) (fun p70 => zoR (sh a67) (fun t74 le72 => if (p70.1 : Int32) < 0 ∨ le72 ≤ (p70.1 : Int32).toNatClampNeg then none else Option.bind ((p70.2).2.2 a67 (p70.1 : Int32).toNatClampNeg) (fun a75 => zoS (sh a75) 100 (fun le77 => if (5 : Int32) < 0 ∨ le77 ≤ (5 : Int32).toNatClampNeg then none else (if ((p70.2).1 a75 (5 : Int32).toNatClampNeg) = 1 then zoS (sh a56) 6 (fun le85 => Option.bind (F_XPiece_take sh (p70.2) a56 a59 (mm53.1 v0 4) 1) (fun p86 => (if p86.1 = 0 then L_XSight_nextPiece_2 sh fu v0 (v1 + 1) (p86.2) else some (0, 1, (0 : Nat), (0 : Int32), p86.2)))) else zoS (sh a56) 6 (fun le81 => Option.bind (F_XPiece_take sh (p70.2) a56 a59 (mm53.1 v0 4) 0) (fun p82 => (if p82.1 = 0 then L_XSight_nextPiece_2 sh fu v0 (v1 + 1) (p82.2) else some (0, 1, (0 : Nat), (0 : Int32), p82.2))))))))))))))))))))))))))))))))
set_option maxHeartbeats 4000000 in
set_option maxRecDepth 100000 in
theorem lp_XSight_nextPiece_2 {p : Program} {l : Launch} {e : Env} {s : State} {m : MethodId} {args : Array Value} {below : List Frame} {meth : Method} {c : Code} {D : va_G} {tA : Nat → ClassId} {b n : Nat} {post : Option Value → zV → Nat → Prop} {sh : zSh} (F : zF p s m args meth c zb_XSight_nextPiece 2 "OrreryBox$Sight" D tA b) (hr : meth.sig.returnType = (some .boolean)) : ∀ (fuel : Nat) (v0 : Nat) (v1 : Int32) (mm : zMem) (r : Nat × Int32 × Nat × Int32 × zMem), L_XSight_nextPiece_2 sh fuel v0 v1 mm = some r → (r.1 = 1 → Z p l e { frames := 5, cells := 0, slots := 0, locals := 134 } s m args below meth c D b 2 (MQ below (zQ D b post) args s 0 0 (fun q => b ≤ q)) (zW tA b sh r.2.2.2.2) n 0 0 94 [(0, .ref (b + (r.2.2.1))), (1, .int (r.2.2.2.1))] []) → (r.1 = 0 → post (some (.int r.2.1)) (zW tA b sh r.2.2.2.2) n) → Z p l e { frames := 5, cells := 0, slots := 0, locals := 134 } s m args below meth c D b 2 (MQ below (zQ D b post) args s 0 0 (fun q => b ≤ q)) (zW tA b sh mm) n 0 0 2 [(0, .ref (b + v0)), (1, .int v1)] [] := by
  intro fuel
  induction fuel with
  | zero =>
    intro v0 v1 mm r h
    cases h
  | succ fu ih =>
    intro v0 v1 mm r h hx0 hp
    rw [L_XSight_nextPiece_2] at h
    refine zr_iload_n F zd_XSight_nextPiece_2 rfl ?_
    refine zr_ldc F zd_XSight_nextPiece_3 zw_701 ?_
    refine zr_icmp_ge F 94 zd_XSight_nextPiece_5 (by decide) (fun hb1 => ?_) (fun hb1 => ?_)
    ·
      rw [if_pos hb1] at h
      obtain rfl := Option.some.inj h
      refine zr_loc (L' := [(0, .ref (b + v0)), (1, .int v1)]) ⟨rfl, rfl, trivial⟩ ?_
      exact hx0 rfl
    ·
      rw [if_neg hb1] at h
      refine zr_aload_n F zd_XSight_nextPiece_8 rfl ?_
      refine zr_dup F zd_XSight_nextPiece_9 rfl ?_
      refine zr_pcn 10 rfl ?_
      obtain ⟨le3, hs2, h⟩ := zoS_s h
      refine zr_get F 9 4 zd_XSight_nextPiece_10 (zW_o hs2 (by decide)) rfl (by decide) zw_377 rfl (by rfl) ?_
      refine zr_iconstv (v := 1) F zd_XSight_nextPiece_13 (by decide) ?_
      refine zr_iadd F zd_XSight_nextPiece_14 ?_
      obtain ⟨x4, ex4, h⟩ := zoL_s h
      rw [← ex4]
      obtain ⟨le6, hs5, h⟩ := zoS_s h
      refine zr_put F 9 4 zd_XSight_nextPiece_15 (zW_o hs5 (by decide)) rfl (by decide) zw_377 rfl rfl rfl rfl (by exact (Nat.le_of_ble_eq_true rfl)) ?_
      obtain ⟨mm7, emm7, h⟩ := zoL_s h
      refine zr_norm (zW tA b sh mm7) _ (by rw [emm7]; exact zW_pI (v := x4) hs5 (by decide) (zf_I_9_4 b _ _ _)) rfl ?_
      refine zr_aload_n F zd_XSight_nextPiece_18 rfl ?_
      obtain ⟨le9, hs8, h⟩ := zoS_s h
      refine zr_get F 9 4 zd_XSight_nextPiece_19 (zW_o hs8 (by decide)) rfl (by decide) zw_377 rfl (by rfl) ?_
      refine zr_iconstv (v := 1) F zd_XSight_nextPiece_22 (by decide) ?_
      refine zr_iadd F zd_XSight_nextPiece_23 ?_
      refine zr_pcn 24 rfl ?_
      refine zr_aload_n F zd_XSight_nextPiece_24 rfl ?_
      obtain ⟨le11, hs10, h⟩ := zoS_s h
      refine zr_get F 9 3 zd_XSight_nextPiece_25 (zW_o hs10 (by decide)) rfl (by decide) zw_376 rfl (by rfl) ?_
      refine zr_icmp_lt F 45 zd_XSight_nextPiece_28 (by decide) (fun hb12 => ?_) (fun hb12 => ?_)
      ·
        rw [if_pos hb12] at h
        refine zr_aload_n F zd_XSight_nextPiece_45 rfl ?_
        obtain ⟨le14, hs13, h⟩ := zoS_s h
        obtain ⟨a15, ea15, h⟩ := zoB_s h
        refine zr_get F 9 0 zd_XSight_nextPiece_46 (zW_o hs13 (by decide)) rfl (by decide) zw_371 rfl (by rfl) ?_
        refine zr_tor ea15 ?_
        refine zr_aload_n F zd_XSight_nextPiece_49 rfl ?_
        obtain ⟨le17, hs16, h⟩ := zoS_s h
        obtain ⟨a18, ea18, h⟩ := zoB_s h
        refine zr_get F 9 2 zd_XSight_nextPiece_50 (zW_o hs16 (by decide)) rfl (by decide) zw_375 rfl (by rfl) ?_
        refine zr_tor ea18 ?_
        refine zr_aload_n F zd_XSight_nextPiece_53 rfl ?_
        refine zr_pcn 54 rfl ?_
        obtain ⟨le20, hs19, h⟩ := zoS_s h
        refine zr_get F 9 4 zd_XSight_nextPiece_54 (zW_o hs19 (by decide)) rfl (by decide) zw_377 rfl (by rfl) ?_
        refine zr_aload_n F zd_XSight_nextPiece_57 rfl ?_
        obtain ⟨le22, hs21, h⟩ := zoS_s h
        obtain ⟨a23, ea23, h⟩ := zoB_s h
        refine zr_get F 9 7 zd_XSight_nextPiece_58 (zW_o hs21 (by decide)) rfl (by decide) zw_380 rfl (by rfl) ?_
        refine zr_tor ea23 ?_
        obtain ⟨le25, hs24, h⟩ := zoS_s h
        obtain ⟨a26, ea26, h⟩ := zoB_s h
        refine zr_get F 8 2 zd_XSight_nextPiece_61 (zW_o hs24 (by decide)) rfl (by decide) zw_291 rfl (by rfl) ?_
        refine zr_tor ea26 ?_
        refine zr_aload_n F zd_XSight_nextPiece_64 rfl ?_
        obtain ⟨le28, hs27, h⟩ := zoS_s h
        obtain ⟨p29, ep29, h⟩ := zoB_s h
        refine zr_callV1 F (k_XSight_materialNumber l D tA b sh _ ep29) zd_XSight_nextPiece_65 (zW_o hs27 (by decide)) rfl zs_XSight_146 rfl zq_XSight_materialNumber rfl rfl ⟨(Nat.le_of_ble_eq_true rfl), (Nat.le_of_ble_eq_true rfl)⟩ (Nat.le_of_ble_eq_true rfl) ⟨(Nat.le_of_ble_eq_true rfl), (Nat.le_of_ble_eq_true rfl)⟩ ?_
        obtain ⟨t33, le31, hs30, h⟩ := zoR_s h
        obtain ⟨hi32, h⟩ := zoI_s h
        obtain ⟨a34, ea34, h⟩ := zoB_s h
        refine zr_aaldW F zd_XSight_nextPiece_68 hs30 hi32 ea34 ?_
        refine zr_iconstv (v := 5) F zd_XSight_nextPiece_69 (by decide) ?_
        refine zr_pcn 70 rfl ?_
        obtain ⟨le36, hs35, h⟩ := zoS_s h
        obtain ⟨hi37, h⟩ := zoI_s h
        refine zr_iald F zd_XSight_nextPiece_70 (zW_a0 hs35) hi37 ?_
        refine zr_iconstv (v := 1) F zd_XSight_nextPiece_71 (by decide) ?_
        refine zr_icmp_ne F 79 zd_XSight_nextPiece_72 (by decide) (fun hb38 => ?_) (fun hb38 => ?_)
        ·
          rw [if_neg hb38] at h
          refine zr_iconstv (v := 0) F zd_XSight_nextPiece_79 (by decide) ?_
          obtain ⟨le40, hs39, h⟩ := zoS_s h
          obtain ⟨p41, ep41, h⟩ := zoB_s h
          refine zr_callV1 F (k_XPiece_take l D tA b sh _ ep41) zd_XSight_nextPiece_80 (zW_o hs39 (by decide)) rfl zs_XSight_150 rfl zq_XPiece_take rfl rfl ⟨(Nat.le_of_ble_eq_true rfl), (Nat.le_of_ble_eq_true rfl)⟩ (Nat.le_of_ble_eq_true rfl) ⟨(Nat.le_of_ble_eq_true rfl), (Nat.le_of_ble_eq_true rfl)⟩ ?_
          refine zr_if_eq F 88 zd_XSight_nextPiece_83 (by decide) (fun hb42 => ?_) (fun hb42 => ?_)
          ·
            rw [if_pos hb42] at h
            refine zr_iinc (v := (v1 + 1)) F zd_XSight_nextPiece_88 rfl rfl (by decide) ?_
            refine zr_goto F 2 zd_XSight_nextPiece_91 (by decide) ?_
            refine zr_loc (L' := [(0, .ref (b + v0)), (1, .int (v1 + 1))]) ⟨rfl, rfl, trivial⟩ ?_
            exact ih _ _ _ _ h hx0 hp
          ·
            rw [if_neg hb42] at h
            refine zr_pcn 86 rfl ?_
            refine zr_iconstv (v := 1) F zd_XSight_nextPiece_86 (by decide) ?_
            obtain rfl := Option.some.inj h
            exact zr_zret F hr rfl zd_XSight_nextPiece_87 (Nat.le_of_ble_eq_true rfl) (Nat.le_of_ble_eq_true rfl) (hp rfl)
        ·
          rw [if_pos hb38] at h
          refine zr_iconstv (v := 1) F zd_XSight_nextPiece_75 (by decide) ?_
          refine zr_goto F 80 zd_XSight_nextPiece_76 (by decide) ?_
          obtain ⟨le44, hs43, h⟩ := zoS_s h
          obtain ⟨p45, ep45, h⟩ := zoB_s h
          refine zr_callV1 F (k_XPiece_take l D tA b sh _ ep45) zd_XSight_nextPiece_80 (zW_o hs43 (by decide)) rfl zs_XSight_150 rfl zq_XPiece_take rfl rfl ⟨(Nat.le_of_ble_eq_true rfl), (Nat.le_of_ble_eq_true rfl)⟩ (Nat.le_of_ble_eq_true rfl) ⟨(Nat.le_of_ble_eq_true rfl), (Nat.le_of_ble_eq_true rfl)⟩ ?_
          refine zr_if_eq F 88 zd_XSight_nextPiece_83 (by decide) (fun hb46 => ?_) (fun hb46 => ?_)
          ·
            rw [if_pos hb46] at h
            refine zr_iinc (v := (v1 + 1)) F zd_XSight_nextPiece_88 rfl rfl (by decide) ?_
            refine zr_goto F 2 zd_XSight_nextPiece_91 (by decide) ?_
            refine zr_loc (L' := [(0, .ref (b + v0)), (1, .int (v1 + 1))]) ⟨rfl, rfl, trivial⟩ ?_
            exact ih _ _ _ _ h hx0 hp
          ·
            rw [if_neg hb46] at h
            refine zr_pcn 86 rfl ?_
            refine zr_iconstv (v := 1) F zd_XSight_nextPiece_86 (by decide) ?_
            obtain rfl := Option.some.inj h
            exact zr_zret F hr rfl zd_XSight_nextPiece_87 (Nat.le_of_ble_eq_true rfl) (Nat.le_of_ble_eq_true rfl) (hp rfl)
      ·
        rw [if_neg hb12] at h
        refine zr_aload_n F zd_XSight_nextPiece_31 rfl ?_
        obtain ⟨le48, hs47, h⟩ := zoS_s h
        obtain ⟨p49, ep49, h⟩ := zoB_s h
        refine zr_callV1 F (k_XSight_nextFace l D tA b sh _ ep49) zd_XSight_nextPiece_32 (zW_o hs47 (by decide)) rfl zs_XSight_139 rfl zq_XSight_nextFace rfl rfl ⟨(Nat.le_of_ble_eq_true rfl), (Nat.le_of_ble_eq_true rfl)⟩ (Nat.le_of_ble_eq_true rfl) ⟨(Nat.le_of_ble_eq_true rfl), (Nat.le_of_ble_eq_true rfl)⟩ ?_
        refine zr_if_ne F 40 zd_XSight_nextPiece_35 (by decide) (fun hb50 => ?_) (fun hb50 => ?_)
        ·
          rw [if_neg hb50] at h
          refine zr_aload_n F zd_XSight_nextPiece_40 rfl ?_
          refine zr_iconstv (v := 1) F zd_XSight_nextPiece_41 (by decide) ?_
          obtain ⟨le52, hs51, h⟩ := zoS_s h
          refine zr_put F 9 4 zd_XSight_nextPiece_42 (zW_o hs51 (by decide)) rfl (by decide) zw_377 rfl rfl rfl rfl (by exact (Nat.le_of_ble_eq_true rfl)) ?_
          obtain ⟨mm53, emm53, h⟩ := zoL_s h
          refine zr_norm (zW tA b sh mm53) _ (by rw [emm53]; exact zW_pI (v := 1) hs51 (by decide) (zf_I_9_4 b _ _ _)) rfl ?_
          refine zr_pcn 45 rfl ?_
          refine zr_aload_n F zd_XSight_nextPiece_45 rfl ?_
          obtain ⟨le55, hs54, h⟩ := zoS_s h
          obtain ⟨a56, ea56, h⟩ := zoB_s h
          refine zr_get F 9 0 zd_XSight_nextPiece_46 (zW_o hs54 (by decide)) rfl (by decide) zw_371 rfl (by rfl) ?_
          refine zr_tor ea56 ?_
          refine zr_aload_n F zd_XSight_nextPiece_49 rfl ?_
          obtain ⟨le58, hs57, h⟩ := zoS_s h
          obtain ⟨a59, ea59, h⟩ := zoB_s h
          refine zr_get F 9 2 zd_XSight_nextPiece_50 (zW_o hs57 (by decide)) rfl (by decide) zw_375 rfl (by rfl) ?_
          refine zr_tor ea59 ?_
          refine zr_aload_n F zd_XSight_nextPiece_53 rfl ?_
          obtain ⟨le61, hs60, h⟩ := zoS_s h
          refine zr_get F 9 4 zd_XSight_nextPiece_54 (zW_o hs60 (by decide)) rfl (by decide) zw_377 rfl (by rfl) ?_
          refine zr_aload_n F zd_XSight_nextPiece_57 rfl ?_
          obtain ⟨le63, hs62, h⟩ := zoS_s h
          obtain ⟨a64, ea64, h⟩ := zoB_s h
          refine zr_get F 9 7 zd_XSight_nextPiece_58 (zW_o hs62 (by decide)) rfl (by decide) zw_380 rfl (by rfl) ?_
          refine zr_tor ea64 ?_
          refine zr_pcn 61 rfl ?_
          obtain ⟨le66, hs65, h⟩ := zoS_s h
          obtain ⟨a67, ea67, h⟩ := zoB_s h
          refine zr_get F 8 2 zd_XSight_nextPiece_61 (zW_o hs65 (by decide)) rfl (by decide) zw_291 rfl (by rfl) ?_
          refine zr_tor ea67 ?_
          refine zr_aload_n F zd_XSight_nextPiece_64 rfl ?_
          obtain ⟨le69, hs68, h⟩ := zoS_s h
          obtain ⟨p70, ep70, h⟩ := zoB_s h
          refine zr_callV1 F (k_XSight_materialNumber l D tA b sh _ ep70) zd_XSight_nextPiece_65 (zW_o hs68 (by decide)) rfl zs_XSight_146 rfl zq_XSight_materialNumber rfl rfl ⟨(Nat.le_of_ble_eq_true rfl), (Nat.le_of_ble_eq_true rfl)⟩ (Nat.le_of_ble_eq_true rfl) ⟨(Nat.le_of_ble_eq_true rfl), (Nat.le_of_ble_eq_true rfl)⟩ ?_
          obtain ⟨t74, le72, hs71, h⟩ := zoR_s h
          obtain ⟨hi73, h⟩ := zoI_s h
          obtain ⟨a75, ea75, h⟩ := zoB_s h
          refine zr_aaldW F zd_XSight_nextPiece_68 hs71 hi73 ea75 ?_
          refine zr_iconstv (v := 5) F zd_XSight_nextPiece_69 (by decide) ?_
          obtain ⟨le77, hs76, h⟩ := zoS_s h
          obtain ⟨hi78, h⟩ := zoI_s h
          refine zr_iald F zd_XSight_nextPiece_70 (zW_a0 hs76) hi78 ?_
          refine zr_iconstv (v := 1) F zd_XSight_nextPiece_71 (by decide) ?_
          refine zr_icmp_ne F 79 zd_XSight_nextPiece_72 (by decide) (fun hb79 => ?_) (fun hb79 => ?_)
          ·
            rw [if_neg hb79] at h
            refine zr_pcn 79 rfl ?_
            refine zr_iconstv (v := 0) F zd_XSight_nextPiece_79 (by decide) ?_
            obtain ⟨le81, hs80, h⟩ := zoS_s h
            obtain ⟨p82, ep82, h⟩ := zoB_s h
            refine zr_callV1 F (k_XPiece_take l D tA b sh _ ep82) zd_XSight_nextPiece_80 (zW_o hs80 (by decide)) rfl zs_XSight_150 rfl zq_XPiece_take rfl rfl ⟨(Nat.le_of_ble_eq_true rfl), (Nat.le_of_ble_eq_true rfl)⟩ (Nat.le_of_ble_eq_true rfl) ⟨(Nat.le_of_ble_eq_true rfl), (Nat.le_of_ble_eq_true rfl)⟩ ?_
            refine zr_if_eq F 88 zd_XSight_nextPiece_83 (by decide) (fun hb83 => ?_) (fun hb83 => ?_)
            ·
              rw [if_pos hb83] at h
              refine zr_iinc (v := (v1 + 1)) F zd_XSight_nextPiece_88 rfl rfl (by decide) ?_
              refine zr_goto F 2 zd_XSight_nextPiece_91 (by decide) ?_
              refine zr_loc (L' := [(0, .ref (b + v0)), (1, .int (v1 + 1))]) ⟨rfl, rfl, trivial⟩ ?_
              exact ih _ _ _ _ h hx0 hp
            ·
              rw [if_neg hb83] at h
              refine zr_iconstv (v := 1) F zd_XSight_nextPiece_86 (by decide) ?_
              obtain rfl := Option.some.inj h
              exact zr_zret F hr rfl zd_XSight_nextPiece_87 (Nat.le_of_ble_eq_true rfl) (Nat.le_of_ble_eq_true rfl) (hp rfl)
          ·
            rw [if_pos hb79] at h
            refine zr_iconstv (v := 1) F zd_XSight_nextPiece_75 (by decide) ?_
            refine zr_pcn 76 rfl ?_
            refine zr_goto F 80 zd_XSight_nextPiece_76 (by decide) ?_
            obtain ⟨le85, hs84, h⟩ := zoS_s h
            obtain ⟨p86, ep86, h⟩ := zoB_s h
            refine zr_callV1 F (k_XPiece_take l D tA b sh _ ep86) zd_XSight_nextPiece_80 (zW_o hs84 (by decide)) rfl zs_XSight_150 rfl zq_XPiece_take rfl rfl ⟨(Nat.le_of_ble_eq_true rfl), (Nat.le_of_ble_eq_true rfl)⟩ (Nat.le_of_ble_eq_true rfl) ⟨(Nat.le_of_ble_eq_true rfl), (Nat.le_of_ble_eq_true rfl)⟩ ?_
            refine zr_if_eq F 88 zd_XSight_nextPiece_83 (by decide) (fun hb87 => ?_) (fun hb87 => ?_)
            ·
              rw [if_pos hb87] at h
              refine zr_iinc (v := (v1 + 1)) F zd_XSight_nextPiece_88 rfl rfl (by decide) ?_
              refine zr_goto F 2 zd_XSight_nextPiece_91 (by decide) ?_
              refine zr_loc (L' := [(0, .ref (b + v0)), (1, .int (v1 + 1))]) ⟨rfl, rfl, trivial⟩ ?_
              exact ih _ _ _ _ h hx0 hp
            ·
              rw [if_neg hb87] at h
              refine zr_iconstv (v := 1) F zd_XSight_nextPiece_86 (by decide) ?_
              obtain rfl := Option.some.inj h
              exact zr_zret F hr rfl zd_XSight_nextPiece_87 (Nat.le_of_ble_eq_true rfl) (Nat.le_of_ble_eq_true rfl) (hp rfl)
        ·
          rw [if_pos hb50] at h
          refine zr_iconstv (v := 0) F zd_XSight_nextPiece_38 (by decide) ?_
          refine zr_pcn 39 rfl ?_
          obtain rfl := Option.some.inj h
          exact zr_zret F hr rfl zd_XSight_nextPiece_39 (Nat.le_of_ble_eq_true rfl) (Nat.le_of_ble_eq_true rfl) (hp rfl)
def F_XSight_nextPiece (sh : zSh) (mm : zMem) (o : Nat) : Option (Int32 × zMem) := Option.bind (L_XSight_nextPiece_2 sh zfuel o 0 mm) (fun q88 => (if q88.1 = 1 then some (0, q88.2.2.2.2) else some (q88.2.1, q88.2.2.2.2)))
set_option maxHeartbeats 4000000 in
set_option maxRecDepth 100000 in
theorem k_XSight_nextPiece (l : Launch) (D : va_G) (tA : Nat → ClassId) (b : Nat) (sh : zSh) (n : Nat) {mm : zMem} {o : Nat} {r : (Int32 × zMem)} (h : F_XSight_nextPiece sh mm o = some r) : zM l D tA b zy_XSight_nextPiece zb_XSight_nextPiece 2 (some .boolean) 5 134 0 0 [.ref (b + o)] (zW tA b sh mm) n (zE (some (.int (r.1))) (zW tA b sh r.2) n) := by
  unfold F_XSight_nextPiece at h
  refine zM_of (own := "OrreryBox$Sight") (plainFor_of_name (by decide)) rfl (Nat.le_of_ble_eq_true rfl) (fun p e s m below meth c F hr hin hH => ?_)
  refine zr_iconstv (v := 0) F zd_XSight_nextPiece_0 (by decide) ?_
  refine zr_istore_n F zd_XSight_nextPiece_1 (by decide) ?_
  obtain ⟨q88, eq88, h⟩ := zoB_s h
  refine zr_loc (L' := [(0, .ref (b + o)), (1, .int 0)]) ⟨rfl, rfl, trivial⟩ ?_
  refine lp_XSight_nextPiece_2 F hr _ _ _ _ _ eq88 ?_ ?_
  ·
    intro ec
    rw [if_pos ec] at h
    refine zr_iconstv (v := 0) F zd_XSight_nextPiece_94 (by decide) ?_
    obtain rfl := Option.some.inj h
    exact zr_zret F hr rfl zd_XSight_nextPiece_95 (Nat.le_of_ble_eq_true rfl) (Nat.le_of_ble_eq_true rfl) ⟨rfl, rfl, rfl⟩
  ·
    intro ec
    rw [if_neg (by rw [ec]; decide)] at h
    obtain rfl := Option.some.inj h
    exact ⟨rfl, rfl, rfl⟩
abbrev zb_MPainter_goOverFace : ByteArray := prog_16_method_24_code
def zy_MPainter_goOverFace : MethodName := ⟨"OrreryBoxModel$Painter", "goOverFace", "(II)V"⟩
theorem zc_MPainter_goOverFace : Cond.code zy_MPainter_goOverFace zb_MPainter_goOverFace 7 none ∈ gw := gw_t 2091 (by decide +kernel) rfl
theorem zq_MPainter_goOverFace : zy_MPainter_goOverFace.cls ≠ "java/lang/invoke/MethodHandle" ∧ zy_MPainter_goOverFace.cls ≠ "java/lang/invoke/VarHandle" ∧ (parseMethodDescriptor zy_MPainter_goOverFace.desc).map (fun d => d.parameters.length) = some 2 := by decide +kernel
theorem zd_MPainter_goOverFace_0 : decode zb_MPainter_goOverFace 0 = .ok (.aload_n 0, 1) := by decide +kernel
theorem zd_MPainter_goOverFace_1 : decode zb_MPainter_goOverFace 1 = .ok (.getfield 129, 3) := by decide +kernel
theorem zd_MPainter_goOverFace_4 : decode zb_MPainter_goOverFace 4 = .ok (.getfield 167, 3) := by decide +kernel
theorem zd_MPainter_goOverFace_7 : decode zb_MPainter_goOverFace 7 = .ok (.iload_n 1, 1) := by decide +kernel
theorem zd_MPainter_goOverFace_8 : decode zb_MPainter_goOverFace 8 = .ok (.iaload, 1) := by decide +kernel
theorem zd_MPainter_goOverFace_9 : decode zb_MPainter_goOverFace 9 = .ok (.istore_n 3, 1) := by decide +kernel
theorem zd_MPainter_goOverFace_10 : decode zb_MPainter_goOverFace 10 = .ok (.iconst 0, 1) := by decide +kernel
theorem zd_MPainter_goOverFace_11 : decode zb_MPainter_goOverFace 11 = .ok (.istore 4, 2) := by decide +kernel
theorem zd_MPainter_goOverFace_13 : decode zb_MPainter_goOverFace 13 = .ok (.iload 4, 2) := by decide +kernel
theorem zd_MPainter_goOverFace_15 : decode zb_MPainter_goOverFace 15 = .ok (.iconst 3, 1) := by decide +kernel
theorem zd_MPainter_goOverFace_16 : decode zb_MPainter_goOverFace 16 = .ok (.if_icmp .ge 36, 3) := by decide +kernel
theorem zd_MPainter_goOverFace_19 : decode zb_MPainter_goOverFace 19 = .ok (.aload_n 0, 1) := by decide +kernel
theorem zd_MPainter_goOverFace_20 : decode zb_MPainter_goOverFace 20 = .ok (.iload_n 3, 1) := by decide +kernel
theorem zd_MPainter_goOverFace_21 : decode zb_MPainter_goOverFace 21 = .ok (.iload 4, 2) := by decide +kernel
theorem zd_MPainter_goOverFace_23 : decode zb_MPainter_goOverFace 23 = .ok (.aload_n 0, 1) := by decide +kernel
theorem zd_MPainter_goOverFace_24 : decode zb_MPainter_goOverFace 24 = .ok (.getfield 129, 3) := by decide +kernel
theorem zd_MPainter_goOverFace_27 : decode zb_MPainter_goOverFace 27 = .ok (.getfield 240, 3) := by decide +kernel
theorem zd_MPainter_goOverFace_30 : decode zb_MPainter_goOverFace 30 = .ok (.sipush 384, 3) := by decide +kernel
theorem zd_MPainter_goOverFace_33 : decode zb_MPainter_goOverFace 33 = .ok (.iload_n 3, 1) := by decide +kernel
theorem zd_MPainter_goOverFace_34 : decode zb_MPainter_goOverFace 34 = .ok (.imul, 1) := by decide +kernel
theorem zd_MPainter_goOverFace_35 : decode zb_MPainter_goOverFace 35 = .ok (.iconst 3, 1) := by decide +kernel
theorem zd_MPainter_goOverFace_36 : decode zb_MPainter_goOverFace 36 = .ok (.iload_n 2, 1) := by decide +kernel
theorem zd_MPainter_goOverFace_37 : decode zb_MPainter_goOverFace 37 = .ok (.imul, 1) := by decide +kernel
theorem zd_MPainter_goOverFace_38 : decode zb_MPainter_goOverFace 38 = .ok (.iadd, 1) := by decide +kernel
theorem zd_MPainter_goOverFace_39 : decode zb_MPainter_goOverFace 39 = .ok (.iload 4, 2) := by decide +kernel
theorem zd_MPainter_goOverFace_41 : decode zb_MPainter_goOverFace 41 = .ok (.iadd, 1) := by decide +kernel
theorem zd_MPainter_goOverFace_42 : decode zb_MPainter_goOverFace 42 = .ok (.iaload, 1) := by decide +kernel
theorem zd_MPainter_goOverFace_43 : decode zb_MPainter_goOverFace 43 = .ok (.invokevirtual 243, 3) := by decide +kernel
theorem zd_MPainter_goOverFace_46 : decode zb_MPainter_goOverFace 46 = .ok (.iinc 4 1, 3) := by decide +kernel
theorem zd_MPainter_goOverFace_49 : decode zb_MPainter_goOverFace 49 = .ok (.goto (-36), 3) := by decide +kernel
theorem zd_MPainter_goOverFace_52 : decode zb_MPainter_goOverFace 52 = .ok (.aload_n 0, 1) := by decide +kernel
theorem zd_MPainter_goOverFace_53 : decode zb_MPainter_goOverFace 53 = .ok (.iconst 3, 1) := by decide +kernel
theorem zd_MPainter_goOverFace_54 : decode zb_MPainter_goOverFace 54 = .ok (.putfield 233, 3) := by decide +kernel
theorem zd_MPainter_goOverFace_57 : decode zb_MPainter_goOverFace 57 = .ok (.iconst 0, 1) := by decide +kernel
theorem zd_MPainter_goOverFace_58 : decode zb_MPainter_goOverFace 58 = .ok (.istore 4, 2) := by decide +kernel
theorem zd_MPainter_goOverFace_60 : decode zb_MPainter_goOverFace 60 = .ok (.iload 4, 2) := by decide +kernel
theorem zd_MPainter_goOverFace_62 : decode zb_MPainter_goOverFace 62 = .ok (.iconst 5, 1) := by decide +kernel
theorem zd_MPainter_goOverFace_63 : decode zb_MPainter_goOverFace 63 = .ok (.if_icmp .ge 15, 3) := by decide +kernel
theorem zd_MPainter_goOverFace_66 : decode zb_MPainter_goOverFace 66 = .ok (.aload_n 0, 1) := by decide +kernel
theorem zd_MPainter_goOverFace_67 : decode zb_MPainter_goOverFace 67 = .ok (.iload 4, 2) := by decide +kernel
theorem zd_MPainter_goOverFace_69 : decode zb_MPainter_goOverFace 69 = .ok (.invokevirtual 247, 3) := by decide +kernel
theorem zd_MPainter_goOverFace_72 : decode zb_MPainter_goOverFace 72 = .ok (.iinc 4 1, 3) := by decide +kernel
theorem zd_MPainter_goOverFace_75 : decode zb_MPainter_goOverFace 75 = .ok (.goto (-15), 3) := by decide +kernel
theorem zd_MPainter_goOverFace_78 : decode zb_MPainter_goOverFace 78 = .ok (.iconst 0, 1) := by decide +kernel
theorem zd_MPainter_goOverFace_79 : decode zb_MPainter_goOverFace 79 = .ok (.istore 4, 2) := by decide +kernel
theorem zd_MPainter_goOverFace_81 : decode zb_MPainter_goOverFace 81 = .ok (.iload 4, 2) := by decide +kernel
theorem zd_MPainter_goOverFace_83 : decode zb_MPainter_goOverFace 83 = .ok (.aload_n 0, 1) := by decide +kernel
theorem zd_MPainter_goOverFace_84 : decode zb_MPainter_goOverFace 84 = .ok (.getfield 233, 3) := by decide +kernel
theorem zd_MPainter_goOverFace_87 : decode zb_MPainter_goOverFace 87 = .ok (.if_icmp .ge 128, 3) := by decide +kernel
theorem zd_MPainter_goOverFace_90 : decode zb_MPainter_goOverFace 90 = .ok (.aload_n 0, 1) := by decide +kernel
theorem zd_MPainter_goOverFace_91 : decode zb_MPainter_goOverFace 91 = .ok (.getfield 40, 3) := by decide +kernel
theorem zd_MPainter_goOverFace_94 : decode zb_MPainter_goOverFace 94 = .ok (.bipush 6, 2) := by decide +kernel
theorem zd_MPainter_goOverFace_96 : decode zb_MPainter_goOverFace 96 = .ok (.iload 4, 2) := by decide +kernel
theorem zd_MPainter_goOverFace_98 : decode zb_MPainter_goOverFace 98 = .ok (.imul, 1) := by decide +kernel
theorem zd_MPainter_goOverFace_99 : decode zb_MPainter_goOverFace 99 = .ok (.iconst 2, 1) := by decide +kernel
theorem zd_MPainter_goOverFace_100 : decode zb_MPainter_goOverFace 100 = .ok (.iadd, 1) := by decide +kernel
theorem zd_MPainter_goOverFace_101 : decode zb_MPainter_goOverFace 101 = .ok (.laload, 1) := by decide +kernel
theorem zd_MPainter_goOverFace_102 : decode zb_MPainter_goOverFace 102 = .ok (.lstore 5, 2) := by decide +kernel
theorem zd_MPainter_goOverFace_104 : decode zb_MPainter_goOverFace 104 = .ok (.aload_n 0, 1) := by decide +kernel
theorem zd_MPainter_goOverFace_105 : decode zb_MPainter_goOverFace 105 = .ok (.getfield 49, 3) := by decide +kernel
theorem zd_MPainter_goOverFace_108 : decode zb_MPainter_goOverFace 108 = .ok (.iload 4, 2) := by decide +kernel
theorem zd_MPainter_goOverFace_110 : decode zb_MPainter_goOverFace 110 = .ok (.ldc2_w 250, 3) := by decide +kernel
theorem zd_MPainter_goOverFace_113 : decode zb_MPainter_goOverFace 113 = .ok (.aload_n 0, 1) := by decide +kernel
theorem zd_MPainter_goOverFace_114 : decode zb_MPainter_goOverFace 114 = .ok (.getfield 129, 3) := by decide +kernel
theorem zd_MPainter_goOverFace_117 : decode zb_MPainter_goOverFace 117 = .ok (.getfield 230, 3) := by decide +kernel
theorem zd_MPainter_goOverFace_120 : decode zb_MPainter_goOverFace 120 = .ok (.i2l, 1) := by decide +kernel
theorem zd_MPainter_goOverFace_121 : decode zb_MPainter_goOverFace 121 = .ok (.lmul, 1) := by decide +kernel
theorem zd_MPainter_goOverFace_122 : decode zb_MPainter_goOverFace 122 = .ok (.aload_n 0, 1) := by decide +kernel
theorem zd_MPainter_goOverFace_123 : decode zb_MPainter_goOverFace 123 = .ok (.getfield 40, 3) := by decide +kernel
theorem zd_MPainter_goOverFace_126 : decode zb_MPainter_goOverFace 126 = .ok (.bipush 6, 2) := by decide +kernel
theorem zd_MPainter_goOverFace_128 : decode zb_MPainter_goOverFace 128 = .ok (.iload 4, 2) := by decide +kernel
theorem zd_MPainter_goOverFace_130 : decode zb_MPainter_goOverFace 130 = .ok (.imul, 1) := by decide +kernel
theorem zd_MPainter_goOverFace_131 : decode zb_MPainter_goOverFace 131 = .ok (.laload, 1) := by decide +kernel
theorem zd_MPainter_goOverFace_132 : decode zb_MPainter_goOverFace 132 = .ok (.lmul, 1) := by decide +kernel
theorem zd_MPainter_goOverFace_133 : decode zb_MPainter_goOverFace 133 = .ok (.lload 5, 2) := by decide +kernel
theorem zd_MPainter_goOverFace_135 : decode zb_MPainter_goOverFace 135 = .ok (.invokestatic 103, 3) := by decide +kernel
theorem zd_MPainter_goOverFace_138 : decode zb_MPainter_goOverFace 138 = .ok (.bipush 8, 2) := by decide +kernel
theorem zd_MPainter_goOverFace_140 : decode zb_MPainter_goOverFace 140 = .ok (.aload_n 0, 1) := by decide +kernel
theorem zd_MPainter_goOverFace_141 : decode zb_MPainter_goOverFace 141 = .ok (.getfield 61, 3) := by decide +kernel
theorem zd_MPainter_goOverFace_144 : decode zb_MPainter_goOverFace 144 = .ok (.imul, 1) := by decide +kernel
theorem zd_MPainter_goOverFace_145 : decode zb_MPainter_goOverFace 145 = .ok (.i2l, 1) := by decide +kernel
theorem zd_MPainter_goOverFace_146 : decode zb_MPainter_goOverFace 146 = .ok (.ladd, 1) := by decide +kernel
theorem zd_MPainter_goOverFace_147 : decode zb_MPainter_goOverFace 147 = .ok (.lastore, 1) := by decide +kernel
theorem zd_MPainter_goOverFace_148 : decode zb_MPainter_goOverFace 148 = .ok (.aload_n 0, 1) := by decide +kernel
theorem zd_MPainter_goOverFace_149 : decode zb_MPainter_goOverFace 149 = .ok (.getfield 52, 3) := by decide +kernel
theorem zd_MPainter_goOverFace_152 : decode zb_MPainter_goOverFace 152 = .ok (.iload 4, 2) := by decide +kernel
theorem zd_MPainter_goOverFace_154 : decode zb_MPainter_goOverFace 154 = .ok (.ldc2_w 250, 3) := by decide +kernel
theorem zd_MPainter_goOverFace_157 : decode zb_MPainter_goOverFace 157 = .ok (.aload_n 0, 1) := by decide +kernel
theorem zd_MPainter_goOverFace_158 : decode zb_MPainter_goOverFace 158 = .ok (.getfield 129, 3) := by decide +kernel
theorem zd_MPainter_goOverFace_161 : decode zb_MPainter_goOverFace 161 = .ok (.getfield 230, 3) := by decide +kernel
theorem zd_MPainter_goOverFace_164 : decode zb_MPainter_goOverFace 164 = .ok (.i2l, 1) := by decide +kernel
theorem zd_MPainter_goOverFace_165 : decode zb_MPainter_goOverFace 165 = .ok (.lmul, 1) := by decide +kernel
theorem zd_MPainter_goOverFace_166 : decode zb_MPainter_goOverFace 166 = .ok (.aload_n 0, 1) := by decide +kernel
theorem zd_MPainter_goOverFace_167 : decode zb_MPainter_goOverFace 167 = .ok (.getfield 40, 3) := by decide +kernel
theorem zd_MPainter_goOverFace_170 : decode zb_MPainter_goOverFace 170 = .ok (.bipush 6, 2) := by decide +kernel
theorem zd_MPainter_goOverFace_172 : decode zb_MPainter_goOverFace 172 = .ok (.iload 4, 2) := by decide +kernel
theorem zd_MPainter_goOverFace_174 : decode zb_MPainter_goOverFace 174 = .ok (.imul, 1) := by decide +kernel
theorem zd_MPainter_goOverFace_175 : decode zb_MPainter_goOverFace 175 = .ok (.iconst 1, 1) := by decide +kernel
theorem zd_MPainter_goOverFace_176 : decode zb_MPainter_goOverFace 176 = .ok (.iadd, 1) := by decide +kernel
theorem zd_MPainter_goOverFace_177 : decode zb_MPainter_goOverFace 177 = .ok (.laload, 1) := by decide +kernel
theorem zd_MPainter_goOverFace_178 : decode zb_MPainter_goOverFace 178 = .ok (.lmul, 1) := by decide +kernel
theorem zd_MPainter_goOverFace_179 : decode zb_MPainter_goOverFace 179 = .ok (.lload 5, 2) := by decide +kernel
theorem zd_MPainter_goOverFace_181 : decode zb_MPainter_goOverFace 181 = .ok (.invokestatic 103, 3) := by decide +kernel
theorem zd_MPainter_goOverFace_184 : decode zb_MPainter_goOverFace 184 = .ok (.bipush 8, 2) := by decide +kernel
theorem zd_MPainter_goOverFace_186 : decode zb_MPainter_goOverFace 186 = .ok (.aload_n 0, 1) := by decide +kernel
theorem zd_MPainter_goOverFace_187 : decode zb_MPainter_goOverFace 187 = .ok (.getfield 65, 3) := by decide +kernel
theorem zd_MPainter_goOverFace_190 : decode zb_MPainter_goOverFace 190 = .ok (.imul, 1) := by decide +kernel
theorem zd_MPainter_goOverFace_191 : decode zb_MPainter_goOverFace 191 = .ok (.i2l, 1) := by decide +kernel
theorem zd_MPainter_goOverFace_192 : decode zb_MPainter_goOverFace 192 = .ok (.ladd, 1) := by decide +kernel
theorem zd_MPainter_goOverFace_193 : decode zb_MPainter_goOverFace 193 = .ok (.lastore, 1) := by decide +kernel
theorem zd_MPainter_goOverFace_194 : decode zb_MPainter_goOverFace 194 = .ok (.aload_n 0, 1) := by decide +kernel
theorem zd_MPainter_goOverFace_195 : decode zb_MPainter_goOverFace 195 = .ok (.getfield 55, 3) := by decide +kernel
theorem zd_MPainter_goOverFace_198 : decode zb_MPainter_goOverFace 198 = .ok (.iload 4, 2) := by decide +kernel
theorem zd_MPainter_goOverFace_200 : decode zb_MPainter_goOverFace 200 = .ok (.ldc2_w 252, 3) := by decide +kernel
theorem zd_MPainter_goOverFace_203 : decode zb_MPainter_goOverFace 203 = .ok (.lload 5, 2) := by decide +kernel
theorem zd_MPainter_goOverFace_205 : decode zb_MPainter_goOverFace 205 = .ok (.invokestatic 103, 3) := by decide +kernel
theorem zd_MPainter_goOverFace_208 : decode zb_MPainter_goOverFace 208 = .ok (.lastore, 1) := by decide +kernel
theorem zd_MPainter_goOverFace_209 : decode zb_MPainter_goOverFace 209 = .ok (.iinc 4 1, 3) := by decide +kernel
theorem zd_MPainter_goOverFace_212 : decode zb_MPainter_goOverFace 212 = .ok (.goto (-131), 3) := by decide +kernel
theorem zd_MPainter_goOverFace_215 : decode zb_MPainter_goOverFace 215 = .ok (.iconst 1, 1) := by decide +kernel
theorem zd_MPainter_goOverFace_216 : decode zb_MPainter_goOverFace 216 = .ok (.istore 4, 2) := by decide +kernel
theorem zd_MPainter_goOverFace_218 : decode zb_MPainter_goOverFace 218 = .ok (.iload 4, 2) := by decide +kernel
theorem zd_MPainter_goOverFace_220 : decode zb_MPainter_goOverFace 220 = .ok (.iconst 1, 1) := by decide +kernel
theorem zd_MPainter_goOverFace_221 : decode zb_MPainter_goOverFace 221 = .ok (.iadd, 1) := by decide +kernel
theorem zd_MPainter_goOverFace_222 : decode zb_MPainter_goOverFace 222 = .ok (.aload_n 0, 1) := by decide +kernel
theorem zd_MPainter_goOverFace_223 : decode zb_MPainter_goOverFace 223 = .ok (.getfield 233, 3) := by decide +kernel
theorem zd_MPainter_goOverFace_226 : decode zb_MPainter_goOverFace 226 = .ok (.if_icmp .ge 17, 3) := by decide +kernel
theorem zd_MPainter_goOverFace_229 : decode zb_MPainter_goOverFace 229 = .ok (.aload_n 0, 1) := by decide +kernel
theorem zd_MPainter_goOverFace_230 : decode zb_MPainter_goOverFace 230 = .ok (.iload_n 1, 1) := by decide +kernel
theorem zd_MPainter_goOverFace_231 : decode zb_MPainter_goOverFace 231 = .ok (.iload_n 2, 1) := by decide +kernel
theorem zd_MPainter_goOverFace_232 : decode zb_MPainter_goOverFace 232 = .ok (.iload 4, 2) := by decide +kernel
theorem zd_MPainter_goOverFace_234 : decode zb_MPainter_goOverFace 234 = .ok (.invokevirtual 254, 3) := by decide +kernel
theorem zd_MPainter_goOverFace_237 : decode zb_MPainter_goOverFace 237 = .ok (.iinc 4 1, 3) := by decide +kernel
theorem zd_MPainter_goOverFace_240 : decode zb_MPainter_goOverFace 240 = .ok (.goto (-22), 3) := by decide +kernel
theorem zd_MPainter_goOverFace_243 : decode zb_MPainter_goOverFace 243 = .ok (.return_, 1) := by decide +kernel
theorem zw_1371 : (Jvm.Cond.fieldLink "OrreryBoxModel$Painter" (240 : Nat) "OrreryBoxModel$Scene" "face" "[I") ∈ gw := gw_t 1371 (by decide +kernel) rfl
theorem zw_2092 : (Jvm.Cond.methodLink "OrreryBoxModel$Painter" (243 : Nat) ({ cls := "OrreryBoxModel$Painter", name := "toCorner", desc := "(III)V" } : Jvm.MethodName)) ∈ gw := gw_t 2092 (by decide +kernel) rfl
theorem zw_2094 : (Jvm.Cond.instanceMethod ({ cls := "OrreryBoxModel$Painter", name := "toCorner", desc := "(III)V" } : Jvm.MethodName)) ∈ gw := gw_t 2094 (by decide +kernel) rfl
theorem zv_104 : (Jvm.Cond.selects "OrreryBoxModel$Painter" (⟨"OrreryBoxModel$Painter", "toCorner", "(III)V"⟩ : MethodName) ⟨"OrreryBoxModel$Painter", "toCorner", "(III)V"⟩) ∈ gw := gw_s 104 (by decide +kernel) rfl
theorem zs_MPainter_243 : zwV "OrreryBoxModel$Painter" 243 "OrreryBoxModel$Painter" zy_MPainter_toCorner zb_MPainter_toCorner 8 none := ⟨zw_2092, zw_2094, zv_104, zw_17, zc_MPainter_toCorner⟩
def L_MPainter_goOverFace_13 (sh : zSh) (fuel : Nat) (v0 : Nat) (v1 : Int32) (v2 : Int32) (v3 : Int32) (v4 : Int32) (mm : zMem) : Option (Nat × Int32 × Int32 × Int32 × Int32 × zMem) := match fuel with
  | 0 => none
  | fu + 1 => (if 3 ≤ v4 then some (v0, v1, v2, v3, v4, mm) else zoS (sh v0) 13 (fun le13 => Option.bind (mm.2.2 v0 5) (fun a14 => zoS (sh a14) 15 (fun le16 => Option.bind (mm.2.2 a14 18) (fun a17 => zoL (((384 * v3) + (3 * v2)) + v4) (fun i18 => zoS (sh a17) 100 (fun le20 => if (i18 : Int32) < 0 ∨ le20 ≤ (i18 : Int32).toNatClampNeg then none else zoS (sh v0) 13 (fun le23 => zoL (mm.1 a17 (i18 : Int32).toNatClampNeg) (fun x24 => Option.bind (F_MPainter_toCorner sh mm v0 v3 v4 x24) (fun p25 => L_MPainter_goOverFace_13 sh fu v0 v1 v2 v3 (v4 + 1) p25))))))))))
set_option maxHeartbeats 4000000 in
set_option maxRecDepth 100000 in
theorem lp_MPainter_goOverFace_13 {p : Program} {l : Launch} {e : Env} {s : State} {m : MethodId} {args : Array Value} {below : List Frame} {meth : Method} {c : Code} {D : va_G} {tA : Nat → ClassId} {b n : Nat} {post : Option Value → zV → Nat → Prop} {sh : zSh} (F : zF p s m args meth c zb_MPainter_goOverFace 7 "OrreryBoxModel$Painter" D tA b) : ∀ (fuel : Nat) (v0 : Nat) (v1 : Int32) (v2 : Int32) (v3 : Int32) (v4 : Int32) (mm : zMem) (r : Nat × Int32 × Int32 × Int32 × Int32 × zMem), L_MPainter_goOverFace_13 sh fuel v0 v1 v2 v3 v4 mm = some r → (Z p l e { frames := 7, cells := 0, slots := 0, locals := 242 } s m args below meth c D b 7 (MQ below (zQ D b post) args s 0 0 (fun q => b ≤ q)) (zW tA b sh r.2.2.2.2.2) n 0 0 52 [(0, .ref (b + (r.1))), (1, .int (r.2.1)), (2, .int (r.2.2.1)), (3, .int (r.2.2.2.1)), (4, .int (r.2.2.2.2.1))] []) → Z p l e { frames := 7, cells := 0, slots := 0, locals := 242 } s m args below meth c D b 7 (MQ below (zQ D b post) args s 0 0 (fun q => b ≤ q)) (zW tA b sh mm) n 0 0 13 [(0, .ref (b + v0)), (1, .int v1), (2, .int v2), (3, .int v3), (4, .int v4)] [] := by
  intro fuel
  induction fuel with
  | zero =>
    intro v0 v1 v2 v3 v4 mm r h
    cases h
  | succ fu ih =>
    intro v0 v1 v2 v3 v4 mm r h hx0
    rw [L_MPainter_goOverFace_13] at h
    refine zr_iload F zd_MPainter_goOverFace_13 rfl ?_
    refine zr_iconstv (v := 3) F zd_MPainter_goOverFace_15 (by decide) ?_
    refine zr_icmp_ge F 52 zd_MPainter_goOverFace_16 (by decide) (fun hb11 => ?_) (fun hb11 => ?_)
    ·
      rw [if_pos hb11] at h
      obtain rfl := Option.some.inj h
      refine zr_loc (L' := [(0, .ref (b + v0)), (1, .int v1), (2, .int v2), (3, .int v3), (4, .int v4)]) ⟨rfl, rfl, rfl, rfl, rfl, trivial⟩ ?_
      exact hx0 
    ·
      rw [if_neg hb11] at h
      refine zr_aload_n F zd_MPainter_goOverFace_19 rfl ?_
      refine zr_iload_n F zd_MPainter_goOverFace_20 rfl ?_
      refine zr_iload F zd_MPainter_goOverFace_21 rfl ?_
      refine zr_aload_n F zd_MPainter_goOverFace_23 rfl ?_
      refine zr_pcn 24 rfl ?_
      obtain ⟨le13, hs12, h⟩ := zoS_s h
      obtain ⟨a14, ea14, h⟩ := zoB_s h
      refine zr_get F 13 5 zd_MPainter_goOverFace_24 (zW_o hs12 (by decide)) rfl (by decide) zw_1581 rfl (by rfl) ?_
      refine zr_tor ea14 ?_
      obtain ⟨le16, hs15, h⟩ := zoS_s h
      obtain ⟨a17, ea17, h⟩ := zoB_s h
      refine zr_get F 15 18 zd_MPainter_goOverFace_27 (zW_o hs15 (by decide)) rfl (by decide) zw_1371 rfl (by rfl) ?_
      refine zr_tor ea17 ?_
      refine zr_sipushv (v := 384) F zd_MPainter_goOverFace_30 (by decide) ?_
      refine zr_iload_n F zd_MPainter_goOverFace_33 rfl ?_
      refine zr_imul F zd_MPainter_goOverFace_34 ?_
      refine zr_iconstv (v := 3) F zd_MPainter_goOverFace_35 (by decide) ?_
      refine zr_iload_n F zd_MPainter_goOverFace_36 rfl ?_
      refine zr_imul F zd_MPainter_goOverFace_37 ?_
      refine zr_pcn 38 rfl ?_
      refine zr_iadd F zd_MPainter_goOverFace_38 ?_
      refine zr_iload F zd_MPainter_goOverFace_39 rfl ?_
      refine zr_iadd F zd_MPainter_goOverFace_41 ?_
      obtain ⟨i18, ei18, h⟩ := zoL_s h
      rw [← ei18]
      obtain ⟨le20, hs19, h⟩ := zoS_s h
      obtain ⟨hi21, h⟩ := zoI_s h
      refine zr_iald F zd_MPainter_goOverFace_42 (zW_a0 hs19) hi21 ?_
      obtain ⟨le23, hs22, h⟩ := zoS_s h
      obtain ⟨x24, ex24, h⟩ := zoL_s h
      rw [← ex24]
      obtain ⟨p25, ep25, h⟩ := zoB_s h
      refine zr_callV0 F (k_MPainter_toCorner l D tA b sh _ ep25) zd_MPainter_goOverFace_43 (zW_o hs22 (by decide)) rfl zs_MPainter_243 rfl zq_MPainter_toCorner rfl rfl ⟨(Nat.le_of_ble_eq_true rfl), (Nat.le_of_ble_eq_true rfl)⟩ (Nat.le_of_ble_eq_true rfl) ⟨(Nat.le_of_ble_eq_true rfl), (Nat.le_of_ble_eq_true rfl)⟩ ?_
      refine zr_iinc (v := (v4 + 1)) F zd_MPainter_goOverFace_46 rfl rfl (by decide) ?_
      refine zr_goto F 13 zd_MPainter_goOverFace_49 (by decide) ?_
      refine zr_loc (L' := [(0, .ref (b + v0)), (1, .int v1), (2, .int v2), (3, .int v3), (4, .int (v4 + 1))]) ⟨rfl, rfl, rfl, rfl, rfl, trivial⟩ ?_
      exact ih _ _ _ _ _ _ _ h hx0
theorem zw_2099 : (Jvm.Cond.methodLink "OrreryBoxModel$Painter" (247 : Nat) ({ cls := "OrreryBoxModel$Painter", name := "cutBy", desc := "(I)V" } : Jvm.MethodName)) ∈ gw := gw_t 2099 (by decide +kernel) rfl
theorem zw_2101 : (Jvm.Cond.instanceMethod ({ cls := "OrreryBoxModel$Painter", name := "cutBy", desc := "(I)V" } : Jvm.MethodName)) ∈ gw := gw_t 2101 (by decide +kernel) rfl
theorem zv_105 : (Jvm.Cond.selects "OrreryBoxModel$Painter" (⟨"OrreryBoxModel$Painter", "cutBy", "(I)V"⟩ : MethodName) ⟨"OrreryBoxModel$Painter", "cutBy", "(I)V"⟩) ∈ gw := gw_s 105 (by decide +kernel) rfl
theorem zs_MPainter_247 : zwV "OrreryBoxModel$Painter" 247 "OrreryBoxModel$Painter" zy_MPainter_cutBy zb_MPainter_cutBy 10 none := ⟨zw_2099, zw_2101, zv_105, zw_17, zc_MPainter_cutBy⟩
def L_MPainter_goOverFace_60 (sh : zSh) (fuel : Nat) (v0 : Nat) (v1 : Int32) (v2 : Int32) (v4 : Int32) (mm : zMem) : Option (Nat × Int32 × Int32 × Int32 × zMem) := match fuel with
  | 0 => none
  | fu + 1 => (if 5 ≤ v4 then some (v0, v1, v2, v4, mm) else zoS (sh v0) 13 (fun le32 => Option.bind (F_MPainter_cutBy sh mm v0 v4) (fun p33 => L_MPainter_goOverFace_60 sh fu v0 v1 v2 (v4 + 1) p33)))
set_option maxHeartbeats 4000000 in
set_option maxRecDepth 100000 in
theorem lp_MPainter_goOverFace_60 {p : Program} {l : Launch} {e : Env} {s : State} {m : MethodId} {args : Array Value} {below : List Frame} {meth : Method} {c : Code} {D : va_G} {tA : Nat → ClassId} {b n : Nat} {post : Option Value → zV → Nat → Prop} {sh : zSh} (F : zF p s m args meth c zb_MPainter_goOverFace 7 "OrreryBoxModel$Painter" D tA b) : ∀ (fuel : Nat) (v0 : Nat) (v1 : Int32) (v2 : Int32) (v4 : Int32) (mm : zMem) (r : Nat × Int32 × Int32 × Int32 × zMem), L_MPainter_goOverFace_60 sh fuel v0 v1 v2 v4 mm = some r → (Z p l e { frames := 7, cells := 0, slots := 0, locals := 242 } s m args below meth c D b 7 (MQ below (zQ D b post) args s 0 0 (fun q => b ≤ q)) (zW tA b sh r.2.2.2.2) n 0 0 78 [(0, .ref (b + (r.1))), (1, .int (r.2.1)), (2, .int (r.2.2.1)), (4, .int (r.2.2.2.1))] []) → Z p l e { frames := 7, cells := 0, slots := 0, locals := 242 } s m args below meth c D b 7 (MQ below (zQ D b post) args s 0 0 (fun q => b ≤ q)) (zW tA b sh mm) n 0 0 60 [(0, .ref (b + v0)), (1, .int v1), (2, .int v2), (4, .int v4)] [] := by
  intro fuel
  induction fuel with
  | zero =>
    intro v0 v1 v2 v4 mm r h
    cases h
  | succ fu ih =>
    intro v0 v1 v2 v4 mm r h hx0
    rw [L_MPainter_goOverFace_60] at h
    refine zr_iload F zd_MPainter_goOverFace_60 rfl ?_
    refine zr_iconstv (v := 5) F zd_MPainter_goOverFace_62 (by decide) ?_
    refine zr_icmp_ge F 78 zd_MPainter_goOverFace_63 (by decide) (fun hb30 => ?_) (fun hb30 => ?_)
    ·
      rw [if_pos hb30] at h
      obtain rfl := Option.some.inj h
      refine zr_loc (L' := [(0, .ref (b + v0)), (1, .int v1), (2, .int v2), (4, .int v4)]) ⟨rfl, rfl, rfl, rfl, trivial⟩ ?_
      exact hx0 
    ·
      rw [if_neg hb30] at h
      refine zr_aload_n F zd_MPainter_goOverFace_66 rfl ?_
      refine zr_pcn 67 rfl ?_
      refine zr_iload F zd_MPainter_goOverFace_67 rfl ?_
      obtain ⟨le32, hs31, h⟩ := zoS_s h
      obtain ⟨p33, ep33, h⟩ := zoB_s h
      refine zr_callV0 F (k_MPainter_cutBy l D tA b sh _ ep33) zd_MPainter_goOverFace_69 (zW_o hs31 (by decide)) rfl zs_MPainter_247 rfl zq_MPainter_cutBy rfl rfl ⟨(Nat.le_of_ble_eq_true rfl), (Nat.le_of_ble_eq_true rfl)⟩ (Nat.le_of_ble_eq_true rfl) ⟨(Nat.le_of_ble_eq_true rfl), (Nat.le_of_ble_eq_true rfl)⟩ ?_
      refine zr_iinc (v := (v4 + 1)) F zd_MPainter_goOverFace_72 rfl rfl (by decide) ?_
      refine zr_goto F 60 zd_MPainter_goOverFace_75 (by decide) ?_
      refine zr_loc (L' := [(0, .ref (b + v0)), (1, .int v1), (2, .int v2), (4, .int (v4 + 1))]) ⟨rfl, rfl, rfl, rfl, trivial⟩ ?_
      exact ih _ _ _ _ _ _ h hx0
theorem zw_2107 : (Jvm.Cond.constantLong "OrreryBoxModel$Painter" (250 : Nat) (16 : Int64)) ∈ gw := gw_t 2107 (by decide +kernel) rfl
theorem zw_2108 : (Jvm.Cond.constantLong "OrreryBoxModel$Painter" (252 : Nat) (4294967296 : Int64)) ∈ gw := gw_t 2108 (by decide +kernel) rfl
def L_MPainter_goOverFace_81 (sh : zSh) (fuel : Nat) (v0 : Nat) (v1 : Int32) (v2 : Int32) (v4 : Int32) (mm : zMem) : Option (Nat × Int32 × Int32 × Int32 × zMem) := match fuel with
  | 0 => none
  | fu + 1 => zoS (sh v0) 13 (fun le36 => (if (mm.1 v0 26) ≤ v4 then some (v0, v1, v2, v4, mm) else zoS (sh v0) 13 (fun le39 => Option.bind (mm.2.2 v0 23) (fun a40 => zoL ((6 * v4) + 2) (fun i41 => zoS (sh a40) 102 (fun le43 => if (i41 : Int32) < 0 ∨ le43 ≤ (i41 : Int32).toNatClampNeg then none else zoL (mm.2.1 a40 (i41 : Int32).toNatClampNeg) (fun x45 => zoS (sh v0) 13 (fun le47 => Option.bind (mm.2.2 v0 27) (fun a48 => zoS (sh v0) 13 (fun le50 => Option.bind (mm.2.2 v0 5) (fun a51 => zoS (sh a51) 15 (fun le53 => zoS (sh v0) 13 (fun le55 => Option.bind (mm.2.2 v0 23) (fun a56 => zoL (6 * v4) (fun i57 => zoS (sh a56) 102 (fun le59 => if (i57 : Int32) < 0 ∨ le59 ≤ (i57 : Int32).toNatClampNeg then none else zoL ((16 * (((mm.1 a51 34) : Int32).toInt64)) * (mm.2.1 a56 (i57 : Int32).toNatClampNeg)) (fun x61 => Option.bind (F_MPainter_div sh mm x61 x45) (fun p62 => zoS (sh v0) 13 (fun le64 => zoL (p62.1 + (((8 * ((p62.2).1 v0 1)) : Int32).toInt64)) (fun x65 => zoS (sh a48) 102 (fun le67 => if (v4 : Int32) < 0 ∨ le67 ≤ (v4 : Int32).toNatClampNeg then none else zoL (mL (p62.2) a48 (v4 : Int32).toNatClampNeg x65) (fun mm69 => zoS (sh v0) 13 (fun le71 => Option.bind (mm69.2.2 v0 28) (fun a72 => zoS (sh v0) 13 (fun le74 => Option.bind (mm69.2.2 v0 5) (fun a75 => zoS (sh a75) 15 (fun le77 => zoS (sh v0) 13 (fun le79 => Option.bind (mm69.2.2 v0 23) (fun a80 => zoL ((6 * v4) + 1) (fun i81 => zoS (sh a80) 102 (fun le83 => if (i81 : Int32) < 0 ∨ le83 ≤ (i81 : Int32).toNatClampNeg then none else zoL ((16 * (((mm69.1 a75 34) : Int32).toInt64)) * (mm69.2.1 a80 (i81 : Int32).toNatClampNeg)) (fun x85 => Option.bind (F_MPainter_div sh mm69 x85 x45) (fun p86 => zoS (sh v0) 13 (fun le88 => zoL (p86.1 + (((8 * ((p86.2).1 v0 2)) : Int32).toInt64)) (fun x89 => zoS (sh a72) 102 (fun le91 => if (v4 : Int32) < 0 ∨ le91 ≤ (v4 : Int32).toNatClampNeg then none else zoL (mL (p86.2) a72 (v4 : Int32).toNatClampNeg x89) (fun mm93 => zoS (sh v0) 13 (fun le95 => Option.bind (mm93.2.2 v0 29) (fun a96 => Option.bind (F_MPainter_div sh mm93 4294967296 x45) (fun p97 => zoS (sh a96) 102 (fun le99 => if (v4 : Int32) < 0 ∨ le99 ≤ (v4 : Int32).toNatClampNeg then none else zoL (mL (p97.2) a96 (v4 : Int32).toNatClampNeg (p97.1)) (fun mm101 => L_MPainter_goOverFace_81 sh fu v0 v1 v2 (v4 + 1) mm101))))))))))))))))))))))))))))))))))))))))))
set_option maxHeartbeats 4000000 in
set_option maxRecDepth 100000 in
theorem lp_MPainter_goOverFace_81 {p : Program} {l : Launch} {e : Env} {s : State} {m : MethodId} {args : Array Value} {below : List Frame} {meth : Method} {c : Code} {D : va_G} {tA : Nat → ClassId} {b n : Nat} {post : Option Value → zV → Nat → Prop} {sh : zSh} (F : zF p s m args meth c zb_MPainter_goOverFace 7 "OrreryBoxModel$Painter" D tA b) : ∀ (fuel : Nat) (v0 : Nat) (v1 : Int32) (v2 : Int32) (v4 : Int32) (mm : zMem) (r : Nat × Int32 × Int32 × Int32 × zMem), L_MPainter_goOverFace_81 sh fuel v0 v1 v2 v4 mm = some r → (Z p l e { frames := 7, cells := 0, slots := 0, locals := 242 } s m args below meth c D b 7 (MQ below (zQ D b post) args s 0 0 (fun q => b ≤ q)) (zW tA b sh r.2.2.2.2) n 0 0 215 [(0, .ref (b + (r.1))), (1, .int (r.2.1)), (2, .int (r.2.2.1)), (4, .int (r.2.2.2.1))] []) → Z p l e { frames := 7, cells := 0, slots := 0, locals := 242 } s m args below meth c D b 7 (MQ below (zQ D b post) args s 0 0 (fun q => b ≤ q)) (zW tA b sh mm) n 0 0 81 [(0, .ref (b + v0)), (1, .int v1), (2, .int v2), (4, .int v4)] [] := by
  intro fuel
  induction fuel with
  | zero =>
    intro v0 v1 v2 v4 mm r h
    cases h
  | succ fu ih =>
    intro v0 v1 v2 v4 mm r h hx0
    rw [L_MPainter_goOverFace_81] at h
    refine zr_iload F zd_MPainter_goOverFace_81 rfl ?_
    refine zr_aload_n F zd_MPainter_goOverFace_83 rfl ?_
    refine zr_pcn 84 rfl ?_
    obtain ⟨le36, hs35, h⟩ := zoS_s h
    refine zr_get F 13 26 zd_MPainter_goOverFace_84 (zW_o hs35 (by decide)) rfl (by decide) zw_1606 rfl (by rfl) ?_
    refine zr_icmp_ge F 215 zd_MPainter_goOverFace_87 (by decide) (fun hb37 => ?_) (fun hb37 => ?_)
    ·
      rw [if_pos hb37] at h
      obtain rfl := Option.some.inj h
      refine zr_loc (L' := [(0, .ref (b + v0)), (1, .int v1), (2, .int v2), (4, .int v4)]) ⟨rfl, rfl, rfl, rfl, trivial⟩ ?_
      exact hx0 
    ·
      rw [if_neg hb37] at h
      refine zr_aload_n F zd_MPainter_goOverFace_90 rfl ?_
      obtain ⟨le39, hs38, h⟩ := zoS_s h
      obtain ⟨a40, ea40, h⟩ := zoB_s h
      refine zr_get F 13 23 zd_MPainter_goOverFace_91 (zW_o hs38 (by decide)) rfl (by decide) zw_1603 rfl (by rfl) ?_
      refine zr_tor ea40 ?_
      refine zr_bipushv (v := 6) F zd_MPainter_goOverFace_94 (by decide) ?_
      refine zr_iload F zd_MPainter_goOverFace_96 rfl ?_
      refine zr_imul F zd_MPainter_goOverFace_98 ?_
      refine zr_iconstv (v := 2) F zd_MPainter_goOverFace_99 (by decide) ?_
      refine zr_pcn 100 rfl ?_
      refine zr_iadd F zd_MPainter_goOverFace_100 ?_
      obtain ⟨i41, ei41, h⟩ := zoL_s h
      rw [← ei41]
      obtain ⟨le43, hs42, h⟩ := zoS_s h
      obtain ⟨hi44, h⟩ := zoI_s h
      refine zr_lald F zd_MPainter_goOverFace_101 (zW_a2 hs42) hi44 ?_
      obtain ⟨x45, ex45, h⟩ := zoL_s h
      rw [← ex45]
      refine zr_lstore F zd_MPainter_goOverFace_102 (by decide) ?_
      refine zr_aload_n F zd_MPainter_goOverFace_104 rfl ?_
      obtain ⟨le47, hs46, h⟩ := zoS_s h
      obtain ⟨a48, ea48, h⟩ := zoB_s h
      refine zr_get F 13 27 zd_MPainter_goOverFace_105 (zW_o hs46 (by decide)) rfl (by decide) zw_1607 rfl (by rfl) ?_
      refine zr_tor ea48 ?_
      refine zr_iload F zd_MPainter_goOverFace_108 rfl ?_
      refine zr_ldc2 F zd_MPainter_goOverFace_110 zw_2107 ?_
      refine zr_aload_n F zd_MPainter_goOverFace_113 rfl ?_
      refine zr_pcn 114 rfl ?_
      obtain ⟨le50, hs49, h⟩ := zoS_s h
      obtain ⟨a51, ea51, h⟩ := zoB_s h
      refine zr_get F 13 5 zd_MPainter_goOverFace_114 (zW_o hs49 (by decide)) rfl (by decide) zw_1581 rfl (by rfl) ?_
      refine zr_tor ea51 ?_
      obtain ⟨le53, hs52, h⟩ := zoS_s h
      refine zr_get F 15 34 zd_MPainter_goOverFace_117 (zW_o hs52 (by decide)) rfl (by decide) zw_1418 rfl (by rfl) ?_
      refine zr_i2l F zd_MPainter_goOverFace_120 ?_
      refine zr_lmul F zd_MPainter_goOverFace_121 ?_
      refine zr_aload_n F zd_MPainter_goOverFace_122 rfl ?_
      obtain ⟨le55, hs54, h⟩ := zoS_s h
      obtain ⟨a56, ea56, h⟩ := zoB_s h
      refine zr_get F 13 23 zd_MPainter_goOverFace_123 (zW_o hs54 (by decide)) rfl (by decide) zw_1603 rfl (by rfl) ?_
      refine zr_tor ea56 ?_
      refine zr_bipushv (v := 6) F zd_MPainter_goOverFace_126 (by decide) ?_
      refine zr_iload F zd_MPainter_goOverFace_128 rfl ?_
      refine zr_pcn 130 rfl ?_
      refine zr_imul F zd_MPainter_goOverFace_130 ?_
      obtain ⟨i57, ei57, h⟩ := zoL_s h
      rw [← ei57]
      obtain ⟨le59, hs58, h⟩ := zoS_s h
      obtain ⟨hi60, h⟩ := zoI_s h
      refine zr_lald F zd_MPainter_goOverFace_131 (zW_a2 hs58) hi60 ?_
      refine zr_lmul F zd_MPainter_goOverFace_132 ?_
      refine zr_lload F zd_MPainter_goOverFace_133 rfl ?_
      obtain ⟨x61, ex61, h⟩ := zoL_s h
      rw [← ex61]
      obtain ⟨p62, ep62, h⟩ := zoB_s h
      refine zr_callS1 F (k_MPainter_div l D tA b sh _ ep62) zd_MPainter_goOverFace_135 zs_MPainter_103 zq_MPainter_div rfl rfl ⟨(Nat.le_of_ble_eq_true rfl), (Nat.le_of_ble_eq_true rfl)⟩ (Nat.le_of_ble_eq_true rfl) ⟨(Nat.le_of_ble_eq_true rfl), (Nat.le_of_ble_eq_true rfl)⟩ ?_
      refine zr_bipushv (v := 8) F zd_MPainter_goOverFace_138 (by decide) ?_
      refine zr_aload_n F zd_MPainter_goOverFace_140 rfl ?_
      obtain ⟨le64, hs63, h⟩ := zoS_s h
      refine zr_get F 13 1 zd_MPainter_goOverFace_141 (zW_o hs63 (by decide)) rfl (by decide) zw_1577 rfl (by rfl) ?_
      refine zr_pcn 144 rfl ?_
      refine zr_imul F zd_MPainter_goOverFace_144 ?_
      refine zr_i2l F zd_MPainter_goOverFace_145 ?_
      refine zr_ladd F zd_MPainter_goOverFace_146 ?_
      obtain ⟨x65, ex65, h⟩ := zoL_s h
      rw [← ex65]
      obtain ⟨le67, hs66, h⟩ := zoS_s h
      obtain ⟨hi68, h⟩ := zoI_s h
      refine zr_last F zd_MPainter_goOverFace_147 (zW_a2 hs66) hi68 ?_
      obtain ⟨mm69, emm69, h⟩ := zoL_s h
      refine zr_norm (zW tA b sh mm69) _ (by rw [emm69]; exact zW_s2 hs66) rfl ?_
      refine zr_aload_n F zd_MPainter_goOverFace_148 rfl ?_
      obtain ⟨le71, hs70, h⟩ := zoS_s h
      obtain ⟨a72, ea72, h⟩ := zoB_s h
      refine zr_get F 13 28 zd_MPainter_goOverFace_149 (zW_o hs70 (by decide)) rfl (by decide) zw_1608 rfl (by rfl) ?_
      refine zr_tor ea72 ?_
      refine zr_iload F zd_MPainter_goOverFace_152 rfl ?_
      refine zr_ldc2 F zd_MPainter_goOverFace_154 zw_2107 ?_
      refine zr_pcn 157 rfl ?_
      refine zr_aload_n F zd_MPainter_goOverFace_157 rfl ?_
      obtain ⟨le74, hs73, h⟩ := zoS_s h
      obtain ⟨a75, ea75, h⟩ := zoB_s h
      refine zr_get F 13 5 zd_MPainter_goOverFace_158 (zW_o hs73 (by decide)) rfl (by decide) zw_1581 rfl (by rfl) ?_
      refine zr_tor ea75 ?_
      obtain ⟨le77, hs76, h⟩ := zoS_s h
      refine zr_get F 15 34 zd_MPainter_goOverFace_161 (zW_o hs76 (by decide)) rfl (by decide) zw_1418 rfl (by rfl) ?_
      refine zr_i2l F zd_MPainter_goOverFace_164 ?_
      refine zr_lmul F zd_MPainter_goOverFace_165 ?_
      refine zr_aload_n F zd_MPainter_goOverFace_166 rfl ?_
      obtain ⟨le79, hs78, h⟩ := zoS_s h
      obtain ⟨a80, ea80, h⟩ := zoB_s h
      refine zr_get F 13 23 zd_MPainter_goOverFace_167 (zW_o hs78 (by decide)) rfl (by decide) zw_1603 rfl (by rfl) ?_
      refine zr_tor ea80 ?_
      refine zr_bipushv (v := 6) F zd_MPainter_goOverFace_170 (by decide) ?_
      refine zr_pcn 172 rfl ?_
      refine zr_iload F zd_MPainter_goOverFace_172 rfl ?_
      refine zr_imul F zd_MPainter_goOverFace_174 ?_
      refine zr_iconstv (v := 1) F zd_MPainter_goOverFace_175 (by decide) ?_
      refine zr_iadd F zd_MPainter_goOverFace_176 ?_
      obtain ⟨i81, ei81, h⟩ := zoL_s h
      rw [← ei81]
      obtain ⟨le83, hs82, h⟩ := zoS_s h
      obtain ⟨hi84, h⟩ := zoI_s h
      refine zr_lald F zd_MPainter_goOverFace_177 (zW_a2 hs82) hi84 ?_
      refine zr_lmul F zd_MPainter_goOverFace_178 ?_
      refine zr_lload F zd_MPainter_goOverFace_179 rfl ?_
      obtain ⟨x85, ex85, h⟩ := zoL_s h
      rw [← ex85]
      obtain ⟨p86, ep86, h⟩ := zoB_s h
      refine zr_callS1 F (k_MPainter_div l D tA b sh _ ep86) zd_MPainter_goOverFace_181 zs_MPainter_103 zq_MPainter_div rfl rfl ⟨(Nat.le_of_ble_eq_true rfl), (Nat.le_of_ble_eq_true rfl)⟩ (Nat.le_of_ble_eq_true rfl) ⟨(Nat.le_of_ble_eq_true rfl), (Nat.le_of_ble_eq_true rfl)⟩ ?_
      refine zr_pcn 184 rfl ?_
      refine zr_bipushv (v := 8) F zd_MPainter_goOverFace_184 (by decide) ?_
      refine zr_aload_n F zd_MPainter_goOverFace_186 rfl ?_
      obtain ⟨le88, hs87, h⟩ := zoS_s h
      refine zr_get F 13 2 zd_MPainter_goOverFace_187 (zW_o hs87 (by decide)) rfl (by decide) zw_1578 rfl (by rfl) ?_
      refine zr_imul F zd_MPainter_goOverFace_190 ?_
      refine zr_i2l F zd_MPainter_goOverFace_191 ?_
      refine zr_ladd F zd_MPainter_goOverFace_192 ?_
      obtain ⟨x89, ex89, h⟩ := zoL_s h
      rw [← ex89]
      obtain ⟨le91, hs90, h⟩ := zoS_s h
      obtain ⟨hi92, h⟩ := zoI_s h
      refine zr_last F zd_MPainter_goOverFace_193 (zW_a2 hs90) hi92 ?_
      obtain ⟨mm93, emm93, h⟩ := zoL_s h
      refine zr_norm (zW tA b sh mm93) _ (by rw [emm93]; exact zW_s2 hs90) rfl ?_
      refine zr_aload_n F zd_MPainter_goOverFace_194 rfl ?_
      refine zr_pcn 195 rfl ?_
      obtain ⟨le95, hs94, h⟩ := zoS_s h
      obtain ⟨a96, ea96, h⟩ := zoB_s h
      refine zr_get F 13 29 zd_MPainter_goOverFace_195 (zW_o hs94 (by decide)) rfl (by decide) zw_1609 rfl (by rfl) ?_
      refine zr_tor ea96 ?_
      refine zr_iload F zd_MPainter_goOverFace_198 rfl ?_
      refine zr_ldc2 F zd_MPainter_goOverFace_200 zw_2108 ?_
      refine zr_lload F zd_MPainter_goOverFace_203 rfl ?_
      obtain ⟨p97, ep97, h⟩ := zoB_s h
      refine zr_callS1 F (k_MPainter_div l D tA b sh _ ep97) zd_MPainter_goOverFace_205 zs_MPainter_103 zq_MPainter_div rfl rfl ⟨(Nat.le_of_ble_eq_true rfl), (Nat.le_of_ble_eq_true rfl)⟩ (Nat.le_of_ble_eq_true rfl) ⟨(Nat.le_of_ble_eq_true rfl), (Nat.le_of_ble_eq_true rfl)⟩ ?_
      obtain ⟨le99, hs98, h⟩ := zoS_s h
      obtain ⟨hi100, h⟩ := zoI_s h
      refine zr_last F zd_MPainter_goOverFace_208 (zW_a2 hs98) hi100 ?_
      obtain ⟨mm101, emm101, h⟩ := zoL_s h
      refine zr_norm (zW tA b sh mm101) _ (by rw [emm101]; exact zW_s2 hs98) rfl ?_
      refine zr_iinc (v := (v4 + 1)) F zd_MPainter_goOverFace_209 rfl rfl (by decide) ?_
      refine zr_goto F 81 zd_MPainter_goOverFace_212 (by decide) ?_
      refine zr_loc (L' := [(0, .ref (b + v0)), (1, .int v1), (2, .int v2), (4, .int (v4 + 1))]) ⟨rfl, rfl, rfl, rfl, trivial⟩ ?_
      exact ih _ _ _ _ _ _ h hx0
theorem zw_2109 : (Jvm.Cond.methodLink "OrreryBoxModel$Painter" (254 : Nat) ({ cls := "OrreryBoxModel$Painter", name := "goOverPiece", desc := "(III)V" } : Jvm.MethodName)) ∈ gw := gw_t 2109 (by decide +kernel) rfl
theorem zw_2111 : (Jvm.Cond.instanceMethod ({ cls := "OrreryBoxModel$Painter", name := "goOverPiece", desc := "(III)V" } : Jvm.MethodName)) ∈ gw := gw_t 2111 (by decide +kernel) rfl
theorem zv_107 : (Jvm.Cond.selects "OrreryBoxModel$Painter" (⟨"OrreryBoxModel$Painter", "goOverPiece", "(III)V"⟩ : MethodName) ⟨"OrreryBoxModel$Painter", "goOverPiece", "(III)V"⟩) ∈ gw := gw_s 107 (by decide +kernel) rfl
theorem zs_MPainter_254 : zwV "OrreryBoxModel$Painter" 254 "OrreryBoxModel$Painter" zy_MPainter_goOverPiece zb_MPainter_goOverPiece 10 none := ⟨zw_2109, zw_2111, zv_107, zw_17, zc_MPainter_goOverPiece⟩
def L_MPainter_goOverFace_218 (sh : zSh) (fuel : Nat) (v0 : Nat) (v1 : Int32) (v2 : Int32) (v4 : Int32) (mm : zMem) : Option (Nat × Int32 × Int32 × Int32 × zMem) := match fuel with
  | 0 => none
  | fu + 1 => zoS (sh v0) 13 (fun le104 => (if (mm.1 v0 26) ≤ (v4 + 1) then some (v0, v1, v2, v4, mm) else zoS (sh v0) 13 (fun le107 => Option.bind (F_MPainter_goOverPiece sh mm v0 v1 v2 v4) (fun p108 => L_MPainter_goOverFace_218 sh fu v0 v1 v2 (v4 + 1) p108))))
set_option maxHeartbeats 4000000 in
set_option maxRecDepth 100000 in
theorem lp_MPainter_goOverFace_218 {p : Program} {l : Launch} {e : Env} {s : State} {m : MethodId} {args : Array Value} {below : List Frame} {meth : Method} {c : Code} {D : va_G} {tA : Nat → ClassId} {b n : Nat} {post : Option Value → zV → Nat → Prop} {sh : zSh} (F : zF p s m args meth c zb_MPainter_goOverFace 7 "OrreryBoxModel$Painter" D tA b) : ∀ (fuel : Nat) (v0 : Nat) (v1 : Int32) (v2 : Int32) (v4 : Int32) (mm : zMem) (r : Nat × Int32 × Int32 × Int32 × zMem), L_MPainter_goOverFace_218 sh fuel v0 v1 v2 v4 mm = some r → (Z p l e { frames := 7, cells := 0, slots := 0, locals := 242 } s m args below meth c D b 7 (MQ below (zQ D b post) args s 0 0 (fun q => b ≤ q)) (zW tA b sh r.2.2.2.2) n 0 0 243 [(0, .ref (b + (r.1))), (1, .int (r.2.1)), (2, .int (r.2.2.1)), (4, .int (r.2.2.2.1))] []) → Z p l e { frames := 7, cells := 0, slots := 0, locals := 242 } s m args below meth c D b 7 (MQ below (zQ D b post) args s 0 0 (fun q => b ≤ q)) (zW tA b sh mm) n 0 0 218 [(0, .ref (b + v0)), (1, .int v1), (2, .int v2), (4, .int v4)] [] := by
  intro fuel
  induction fuel with
  | zero =>
    intro v0 v1 v2 v4 mm r h
    cases h
  | succ fu ih =>
    intro v0 v1 v2 v4 mm r h hx0
    rw [L_MPainter_goOverFace_218] at h
    refine zr_iload F zd_MPainter_goOverFace_218 rfl ?_
    refine zr_iconstv (v := 1) F zd_MPainter_goOverFace_220 (by decide) ?_
    refine zr_iadd F zd_MPainter_goOverFace_221 ?_
    refine zr_aload_n F zd_MPainter_goOverFace_222 rfl ?_
    obtain ⟨le104, hs103, h⟩ := zoS_s h
    refine zr_get F 13 26 zd_MPainter_goOverFace_223 (zW_o hs103 (by decide)) rfl (by decide) zw_1606 rfl (by rfl) ?_
    refine zr_icmp_ge F 243 zd_MPainter_goOverFace_226 (by decide) (fun hb105 => ?_) (fun hb105 => ?_)
    ·
      rw [if_pos hb105] at h
      obtain rfl := Option.some.inj h
      refine zr_loc (L' := [(0, .ref (b + v0)), (1, .int v1), (2, .int v2), (4, .int v4)]) ⟨rfl, rfl, rfl, rfl, trivial⟩ ?_
      exact hx0 
    ·
      rw [if_neg hb105] at h
      refine zr_pcn 229 rfl ?_
      refine zr_aload_n F zd_MPainter_goOverFace_229 rfl ?_
      refine zr_iload_n F zd_MPainter_goOverFace_230 rfl ?_
      refine zr_iload_n F zd_MPainter_goOverFace_231 rfl ?_
      refine zr_iload F zd_MPainter_goOverFace_232 rfl ?_
      obtain ⟨le107, hs106, h⟩ := zoS_s h
      obtain ⟨p108, ep108, h⟩ := zoB_s h
      refine zr_callV0 F (k_MPainter_goOverPiece l D tA b sh _ ep108) zd_MPainter_goOverFace_234 (zW_o hs106 (by decide)) rfl zs_MPainter_254 rfl zq_MPainter_goOverPiece rfl rfl ⟨(Nat.le_of_ble_eq_true rfl), (Nat.le_of_ble_eq_true rfl)⟩ (Nat.le_of_ble_eq_true rfl) ⟨(Nat.le_of_ble_eq_true rfl), (Nat.le_of_ble_eq_true rfl)⟩ ?_
      refine zr_iinc (v := (v4 + 1)) F zd_MPainter_goOverFace_237 rfl rfl (by decide) ?_
      refine zr_goto F 218 zd_MPainter_goOverFace_240 (by decide) ?_
      refine zr_loc (L' := [(0, .ref (b + v0)), (1, .int v1), (2, .int v2), (4, .int (v4 + 1))]) ⟨rfl, rfl, rfl, rfl, trivial⟩ ?_
      exact ih _ _ _ _ _ _ h hx0
def F_MPainter_goOverFace (sh : zSh) (mm : zMem) (o : Nat) (x0_ : Int32) (x1_ : Int32) : Option zMem := zoS (sh o) 13 (fun le2 => Option.bind (mm.2.2 o 5) (fun a3 => zoS (sh a3) 15 (fun le5 => Option.bind (mm.2.2 a3 20) (fun a6 => zoS (sh a6) 100 (fun le8 => if (x0_ : Int32) < 0 ∨ le8 ≤ (x0_ : Int32).toNatClampNeg then none else zoL (mm.1 a6 (x0_ : Int32).toNatClampNeg) (fun x10 => Option.bind (L_MPainter_goOverFace_13 sh zfuel o x0_ x1_ x10 0 mm) (fun q26 => zoS (sh (q26.1)) 13 (fun le28 => zoL (mI (q26.2.2.2.2.2) (q26.1) 26 3) (fun mm29 => Option.bind (L_MPainter_goOverFace_60 sh zfuel (q26.1) (q26.2.1) (q26.2.2.1) 0 mm29) (fun q34 => Option.bind (L_MPainter_goOverFace_81 sh zfuel (q34.1) (q34.2.1) (q34.2.2.1) 0 (q34.2.2.2.2)) (fun q102 => Option.bind (L_MPainter_goOverFace_218 sh zfuel (q102.1) (q102.2.1) (q102.2.2.1) 1 (q102.2.2.2.2)) (fun q109 => some (q109.2.2.2.2)))))))))))))
set_option maxHeartbeats 4000000 in
set_option maxRecDepth 100000 in
theorem k_MPainter_goOverFace (l : Launch) (D : va_G) (tA : Nat → ClassId) (b : Nat) (sh : zSh) (n : Nat) {mm : zMem} {o : Nat} {x0_ : Int32} {x1_ : Int32} {r : zMem} (h : F_MPainter_goOverFace sh mm o x0_ x1_ = some r) : zM l D tA b zy_MPainter_goOverFace zb_MPainter_goOverFace 7 none 7 242 0 0 [.ref (b + o), .int x0_, .int x1_] (zW tA b sh mm) n (zE none (zW tA b sh r) n) := by
  unfold F_MPainter_goOverFace at h
  refine zM_of (own := "OrreryBoxModel$Painter") (plainFor_of_name (by decide)) rfl (Nat.le_of_ble_eq_true rfl) (fun p e s m below meth c F hr hin hH => ?_)
  refine zr_aload_n F zd_MPainter_goOverFace_0 rfl ?_
  obtain ⟨le2, hs1, h⟩ := zoS_s h
  obtain ⟨a3, ea3, h⟩ := zoB_s h
  refine zr_get F 13 5 zd_MPainter_goOverFace_1 (zW_o hs1 (by decide)) rfl (by decide) zw_1581 rfl (by rfl) ?_
  refine zr_tor ea3 ?_
  obtain ⟨le5, hs4, h⟩ := zoS_s h
  obtain ⟨a6, ea6, h⟩ := zoB_s h
  refine zr_get F 15 20 zd_MPainter_goOverFace_4 (zW_o hs4 (by decide)) rfl (by decide) zw_1377 rfl (by rfl) ?_
  refine zr_tor ea6 ?_
  refine zr_iload_n F zd_MPainter_goOverFace_7 rfl ?_
  obtain ⟨le8, hs7, h⟩ := zoS_s h
  obtain ⟨hi9, h⟩ := zoI_s h
  refine zr_iald F zd_MPainter_goOverFace_8 (zW_a0 hs7) hi9 ?_
  obtain ⟨x10, ex10, h⟩ := zoL_s h
  rw [← ex10]
  refine zr_istore_n F zd_MPainter_goOverFace_9 (by decide) ?_
  refine zr_iconstv (v := 0) F zd_MPainter_goOverFace_10 (by decide) ?_
  refine zr_pcn 11 rfl ?_
  refine zr_istore F zd_MPainter_goOverFace_11 (by decide) ?_
  obtain ⟨q26, eq26, h⟩ := zoB_s h
  refine zr_loc (L' := [(0, .ref (b + o)), (1, .int x0_), (2, .int x1_), (3, .int x10), (4, .int 0)]) ⟨rfl, rfl, rfl, rfl, rfl, trivial⟩ ?_
  refine lp_MPainter_goOverFace_13 F _ _ _ _ _ _ _ _ eq26 ?_
  ·
    refine zr_aload_n F zd_MPainter_goOverFace_52 rfl ?_
    refine zr_pcn 53 rfl ?_
    refine zr_iconstv (v := 3) F zd_MPainter_goOverFace_53 (by decide) ?_
    obtain ⟨le28, hs27, h⟩ := zoS_s h
    refine zr_put F 13 26 zd_MPainter_goOverFace_54 (zW_o hs27 (by decide)) rfl (by decide) zw_1606 rfl rfl rfl rfl (by exact (Nat.le_of_ble_eq_true rfl)) ?_
    obtain ⟨mm29, emm29, h⟩ := zoL_s h
    refine zr_norm (zW tA b sh mm29) _ (by rw [emm29]; exact zW_pI (v := 3) hs27 (by decide) (zf_I_13_26 b _ _ _)) rfl ?_
    refine zr_iconstv (v := 0) F zd_MPainter_goOverFace_57 (by decide) ?_
    refine zr_istore F zd_MPainter_goOverFace_58 (by decide) ?_
    obtain ⟨q34, eq34, h⟩ := zoB_s h
    refine zr_loc (L' := [(0, .ref (b + (q26.1))), (1, .int (q26.2.1)), (2, .int (q26.2.2.1)), (4, .int 0)]) ⟨rfl, rfl, rfl, rfl, trivial⟩ ?_
    refine lp_MPainter_goOverFace_60 F _ _ _ _ _ _ _ eq34 ?_
    ·
      refine zr_iconstv (v := 0) F zd_MPainter_goOverFace_78 (by decide) ?_
      refine zr_istore F zd_MPainter_goOverFace_79 (by decide) ?_
      obtain ⟨q102, eq102, h⟩ := zoB_s h
      refine zr_loc (L' := [(0, .ref (b + (q34.1))), (1, .int (q34.2.1)), (2, .int (q34.2.2.1)), (4, .int 0)]) ⟨rfl, rfl, rfl, rfl, trivial⟩ ?_
      refine lp_MPainter_goOverFace_81 F _ _ _ _ _ _ _ eq102 ?_
      ·
        refine zr_pcn 215 rfl ?_
        refine zr_iconstv (v := 1) F zd_MPainter_goOverFace_215 (by decide) ?_
        refine zr_istore F zd_MPainter_goOverFace_216 (by decide) ?_
        obtain ⟨q109, eq109, h⟩ := zoB_s h
        refine zr_loc (L' := [(0, .ref (b + (q102.1))), (1, .int (q102.2.1)), (2, .int (q102.2.2.1)), (4, .int 1)]) ⟨rfl, rfl, rfl, rfl, trivial⟩ ?_
        refine lp_MPainter_goOverFace_218 F _ _ _ _ _ _ _ eq109 ?_
        ·
          obtain rfl := Option.some.inj h
          exact zr_vret F hr zd_MPainter_goOverFace_243 (Nat.le_of_ble_eq_true rfl) (Nat.le_of_ble_eq_true rfl) ⟨rfl, rfl, rfl⟩
theorem zw_759 : (Jvm.Cond.methodLink "OrreryBox" (171 : Nat) ({ cls := "OrreryBox$Sight", name := "materialNumber", desc := "()I" } : Jvm.MethodName)) ∈ gw := gw_t 759 (by decide +kernel) rfl
theorem zs_OB_171 : zwV "OrreryBox" 171 "OrreryBox$Sight" zy_XSight_materialNumber zb_XSight_materialNumber 1 (some .int) := ⟨zw_759, zw_747, zw_748, zw_10, zc_XSight_materialNumber⟩
theorem zw_760 : (Jvm.Cond.methodLink "OrreryBox" (175 : Nat) ({ cls := "OrreryBox$Picture", name := "keep", desc := "(LOrreryBox$Piece;I)V" } : Jvm.MethodName)) ∈ gw := gw_t 760 (by decide +kernel) rfl
theorem zw_761 : (Jvm.Cond.instanceMethod ({ cls := "OrreryBox$Picture", name := "keep", desc := "(LOrreryBox$Piece;I)V" } : Jvm.MethodName)) ∈ gw := gw_t 761 (by decide +kernel) rfl
theorem zw_762 : (Jvm.Cond.selects "OrreryBox$Picture" ({ cls := "OrreryBox$Picture", name := "keep", desc := "(LOrreryBox$Piece;I)V" } : Jvm.MethodName) ({ cls := "OrreryBox$Picture", name := "keep", desc := "(LOrreryBox$Piece;I)V" } : Jvm.MethodName)) ∈ gw := gw_t 762 (by decide +kernel) rfl
theorem zs_OB_175 : zwV "OrreryBox" 175 "OrreryBox$Picture" zy_XPicture_keep zb_XPicture_keep 3 none := ⟨zw_760, zw_761, zw_762, zw_12, zc_XPicture_keep⟩
def L_OB_begin_35 (sh : zSh) (fuel : Nat) (v0 : Nat) (v1 : Int32) (mm : zMem) : Option (Nat × Int32 × zMem) := match fuel with
  | 0 => none
  | fu + 1 => (if 36864 ≤ v1 then some (v0, v1, mm) else zoS (sh v0) 0 (fun le29 => Option.bind (mm.2.2 v0 7) (fun a30 => zoS (sh a30) 9 (fun le32 => Option.bind (F_XSight_nextPiece sh mm a30) (fun p33 => (if p33.1 = 0 then some (v0, v1, p33.2) else zoS (sh v0) 0 (fun le36 => Option.bind ((p33.2).2.2 v0 8) (fun a37 => zoS (sh v0) 0 (fun le39 => Option.bind ((p33.2).2.2 v0 7) (fun a40 => zoS (sh a40) 9 (fun le42 => Option.bind ((p33.2).2.2 a40 0) (fun a43 => zoS (sh v0) 0 (fun le45 => Option.bind ((p33.2).2.2 v0 7) (fun a46 => zoS (sh a46) 9 (fun le48 => Option.bind (F_XSight_materialNumber sh (p33.2) a46) (fun p49 => zoS (sh a37) 5 (fun le51 => Option.bind (F_XPicture_keep sh (p49.2) a37 a43 (p49.1)) (fun p52 => L_OB_begin_35 sh fu v0 (v1 + 1) p52))))))))))))))))))
set_option maxHeartbeats 4000000 in
set_option maxRecDepth 100000 in
theorem lp_OB_begin_35 {p : Program} {l : Launch} {e : Env} {s : State} {m : MethodId} {args : Array Value} {below : List Frame} {meth : Method} {c : Code} {D : va_G} {tA : Nat → ClassId} {b n : Nat} {post : Option Value → zV → Nat → Prop} {sh : zSh} (F : zF p s m args meth c zb_OB_begin 2 "OrreryBox" D tA b) : ∀ (fuel : Nat) (v0 : Nat) (v1 : Int32) (mm : zMem) (r : Nat × Int32 × zMem), L_OB_begin_35 sh fuel v0 v1 mm = some r → (Z p l e { frames := 6, cells := 0, slots := 0, locals := 155 } s m args below meth c D b 2 (MQ below (zQ D b post) args s 0 0 (fun q => b ≤ q)) (zW tA b sh r.2.2) n 0 0 78 [(0, .ref (b + (r.1))), (1, .int (r.2.1))] []) → Z p l e { frames := 6, cells := 0, slots := 0, locals := 155 } s m args below meth c D b 2 (MQ below (zQ D b post) args s 0 0 (fun q => b ≤ q)) (zW tA b sh mm) n 0 0 35 [(0, .ref (b + v0)), (1, .int v1)] [] := by
  intro fuel
  induction fuel with
  | zero =>
    intro v0 v1 mm r h
    cases h
  | succ fu ih =>
    intro v0 v1 mm r h hx0
    rw [L_OB_begin_35] at h
    refine zr_iload_n F zd_OB_begin_35 rfl ?_
    refine zr_ldc F zd_OB_begin_36 zw_696 ?_
    refine zr_icmp_ge F 78 zd_OB_begin_38 (by decide) (fun hb27 => ?_) (fun hb27 => ?_)
    ·
      rw [if_pos hb27] at h
      obtain rfl := Option.some.inj h
      refine zr_loc (L' := [(0, .ref (b + v0)), (1, .int v1)]) ⟨rfl, rfl, trivial⟩ ?_
      exact hx0 
    ·
      rw [if_neg hb27] at h
      refine zr_aload_n F zd_OB_begin_41 rfl ?_
      obtain ⟨le29, hs28, h⟩ := zoS_s h
      obtain ⟨a30, ea30, h⟩ := zoB_s h
      refine zr_get F 0 7 zd_OB_begin_42 (zW_o hs28 (by decide)) rfl (by decide) zw_495 rfl (by rfl) ?_
      refine zr_tor ea30 ?_
      obtain ⟨le32, hs31, h⟩ := zoS_s h
      obtain ⟨p33, ep33, h⟩ := zoB_s h
      refine zr_callV1 F (k_XSight_nextPiece l D tA b sh _ ep33) zd_OB_begin_45 (zW_o hs31 (by decide)) rfl zs_OB_163 rfl zq_XSight_nextPiece rfl rfl ⟨(Nat.le_of_ble_eq_true rfl), (Nat.le_of_ble_eq_true rfl)⟩ (Nat.le_of_ble_eq_true rfl) ⟨(Nat.le_of_ble_eq_true rfl), (Nat.le_of_ble_eq_true rfl)⟩ ?_
      refine zr_pcn 48 rfl ?_
      refine zr_if_eq F 78 zd_OB_begin_48 (by decide) (fun hb34 => ?_) (fun hb34 => ?_)
      ·
        rw [if_pos hb34] at h
        obtain rfl := Option.some.inj h
        refine zr_loc (L' := [(0, .ref (b + v0)), (1, .int v1)]) ⟨rfl, rfl, trivial⟩ ?_
        exact hx0 
      ·
        rw [if_neg hb34] at h
        refine zr_aload_n F zd_OB_begin_51 rfl ?_
        obtain ⟨le36, hs35, h⟩ := zoS_s h
        obtain ⟨a37, ea37, h⟩ := zoB_s h
        refine zr_get F 0 8 zd_OB_begin_52 (zW_o hs35 (by decide)) rfl (by decide) zw_496 rfl (by rfl) ?_
        refine zr_tor ea37 ?_
        refine zr_aload_n F zd_OB_begin_55 rfl ?_
        obtain ⟨le39, hs38, h⟩ := zoS_s h
        obtain ⟨a40, ea40, h⟩ := zoB_s h
        refine zr_get F 0 7 zd_OB_begin_56 (zW_o hs38 (by decide)) rfl (by decide) zw_495 rfl (by rfl) ?_
        refine zr_tor ea40 ?_
        obtain ⟨le42, hs41, h⟩ := zoS_s h
        obtain ⟨a43, ea43, h⟩ := zoB_s h
        refine zr_get F 9 0 zd_OB_begin_59 (zW_o hs41 (by decide)) rfl (by decide) zw_372 rfl (by rfl) ?_
        refine zr_tor ea43 ?_
        refine zr_aload_n F zd_OB_begin_62 rfl ?_
        obtain ⟨le45, hs44, h⟩ := zoS_s h
        obtain ⟨a46, ea46, h⟩ := zoB_s h
        refine zr_get F 0 7 zd_OB_begin_63 (zW_o hs44 (by decide)) rfl (by decide) zw_495 rfl (by rfl) ?_
        refine zr_tor ea46 ?_
        refine zr_pcn 66 rfl ?_
        obtain ⟨le48, hs47, h⟩ := zoS_s h
        obtain ⟨p49, ep49, h⟩ := zoB_s h
        refine zr_callV1 F (k_XSight_materialNumber l D tA b sh _ ep49) zd_OB_begin_66 (zW_o hs47 (by decide)) rfl zs_OB_171 rfl zq_XSight_materialNumber rfl rfl ⟨(Nat.le_of_ble_eq_true rfl), (Nat.le_of_ble_eq_true rfl)⟩ (Nat.le_of_ble_eq_true rfl) ⟨(Nat.le_of_ble_eq_true rfl), (Nat.le_of_ble_eq_true rfl)⟩ ?_
        obtain ⟨le51, hs50, h⟩ := zoS_s h
        obtain ⟨p52, ep52, h⟩ := zoB_s h
        refine zr_callV0 F (k_XPicture_keep l D tA b sh _ ep52) zd_OB_begin_69 (zW_o hs50 (by decide)) rfl zs_OB_175 rfl zq_XPicture_keep rfl rfl ⟨(Nat.le_of_ble_eq_true rfl), (Nat.le_of_ble_eq_true rfl)⟩ (Nat.le_of_ble_eq_true rfl) ⟨(Nat.le_of_ble_eq_true rfl), (Nat.le_of_ble_eq_true rfl)⟩ ?_
        refine zr_iinc (v := (v1 + 1)) F zd_OB_begin_72 rfl rfl (by decide) ?_
        refine zr_goto F 35 zd_OB_begin_75 (by decide) ?_
        refine zr_loc (L' := [(0, .ref (b + v0)), (1, .int (v1 + 1))]) ⟨rfl, rfl, trivial⟩ ?_
        exact ih _ _ _ _ h hx0
def F_OB_begin (sh : zSh) (mm : zMem) (o : Nat) : Option (Int32 × zMem) := zoS (sh o) 0 (fun le2 => Option.bind (mm.2.2 o 5) (fun a3 => zoS (sh a3) 8 (fun le5 => Option.bind (F_XScene_placeNodes sh mm a3) (fun p6 => zoS (sh o) 0 (fun le8 => Option.bind (p6.2.2 o 7) (fun a9 => zoS (sh o) 0 (fun le11 => Option.bind (p6.2.2 o 5) (fun a12 => zoS (sh a9) 9 (fun le14 => Option.bind (F_XSight_stand sh p6 a9 a12) (fun p15 => zoS (sh o) 0 (fun le17 => Option.bind (p15.2.2 o 8) (fun a18 => zoS (sh o) 0 (fun le20 => Option.bind (p15.2.2 o 5) (fun a21 => zoS (sh o) 0 (fun le23 => zoS (sh a18) 5 (fun le25 => Option.bind (F_XPicture_start sh p15 a18 a21 (p15.1 o 10)) (fun p26 => Option.bind (L_OB_begin_35 sh zfuel o 0 p26) (fun q53 => zoS (sh (q53.1)) 0 (fun le55 => Option.bind ((q53.2.2).2.2 (q53.1) 8) (fun a56 => zoS (sh a56) 5 (fun le58 => some (((q53.2.2).1 a56 0), q53.2.2))))))))))))))))))))))
set_option maxHeartbeats 4000000 in
set_option maxRecDepth 100000 in
theorem k_OB_begin (l : Launch) (D : va_G) (tA : Nat → ClassId) (b : Nat) (sh : zSh) (n : Nat) {mm : zMem} {o : Nat} {r : (Int32 × zMem)} (h : F_OB_begin sh mm o = some r) : zM l D tA b zy_OB_begin zb_OB_begin 2 (some .int) 6 155 0 0 [.ref (b + o)] (zW tA b sh mm) n (zE (some (.int (r.1))) (zW tA b sh r.2) n) := by
  unfold F_OB_begin at h
  refine zM_of (own := "OrreryBox") (plainFor_of_name (by decide)) rfl (Nat.le_of_ble_eq_true rfl) (fun p e s m below meth c F hr hin hH => ?_)
  refine zr_aload_n F zd_OB_begin_0 rfl ?_
  obtain ⟨le2, hs1, h⟩ := zoS_s h
  obtain ⟨a3, ea3, h⟩ := zoB_s h
  refine zr_get F 0 5 zd_OB_begin_1 (zW_o hs1 (by decide)) rfl (by decide) zw_493 rfl (by rfl) ?_
  refine zr_tor ea3 ?_
  obtain ⟨le5, hs4, h⟩ := zoS_s h
  obtain ⟨p6, ep6, h⟩ := zoB_s h
  refine zr_callV0 F (k_XScene_placeNodes l D tA b sh _ ep6) zd_OB_begin_4 (zW_o hs4 (by decide)) rfl zs_OB_148 rfl zq_XScene_placeNodes rfl rfl ⟨(Nat.le_of_ble_eq_true rfl), (Nat.le_of_ble_eq_true rfl)⟩ (Nat.le_of_ble_eq_true rfl) ⟨(Nat.le_of_ble_eq_true rfl), (Nat.le_of_ble_eq_true rfl)⟩ ?_
  refine zr_aload_n F zd_OB_begin_7 rfl ?_
  obtain ⟨le8, hs7, h⟩ := zoS_s h
  obtain ⟨a9, ea9, h⟩ := zoB_s h
  refine zr_get F 0 7 zd_OB_begin_8 (zW_o hs7 (by decide)) rfl (by decide) zw_495 rfl (by rfl) ?_
  refine zr_tor ea9 ?_
  refine zr_aload_n F zd_OB_begin_11 rfl ?_
  obtain ⟨le11, hs10, h⟩ := zoS_s h
  obtain ⟨a12, ea12, h⟩ := zoB_s h
  refine zr_get F 0 5 zd_OB_begin_12 (zW_o hs10 (by decide)) rfl (by decide) zw_493 rfl (by rfl) ?_
  refine zr_tor ea12 ?_
  refine zr_pcn 15 rfl ?_
  obtain ⟨le14, hs13, h⟩ := zoS_s h
  obtain ⟨p15, ep15, h⟩ := zoB_s h
  refine zr_callV0 F (k_XSight_stand l D tA b sh _ ep15) zd_OB_begin_15 (zW_o hs13 (by decide)) rfl zs_OB_154 rfl zq_XSight_stand rfl rfl ⟨(Nat.le_of_ble_eq_true rfl), (Nat.le_of_ble_eq_true rfl)⟩ (Nat.le_of_ble_eq_true rfl) ⟨(Nat.le_of_ble_eq_true rfl), (Nat.le_of_ble_eq_true rfl)⟩ ?_
  refine zr_aload_n F zd_OB_begin_18 rfl ?_
  obtain ⟨le17, hs16, h⟩ := zoS_s h
  obtain ⟨a18, ea18, h⟩ := zoB_s h
  refine zr_get F 0 8 zd_OB_begin_19 (zW_o hs16 (by decide)) rfl (by decide) zw_496 rfl (by rfl) ?_
  refine zr_tor ea18 ?_
  refine zr_aload_n F zd_OB_begin_22 rfl ?_
  obtain ⟨le20, hs19, h⟩ := zoS_s h
  obtain ⟨a21, ea21, h⟩ := zoB_s h
  refine zr_get F 0 5 zd_OB_begin_23 (zW_o hs19 (by decide)) rfl (by decide) zw_493 rfl (by rfl) ?_
  refine zr_tor ea21 ?_
  refine zr_aload_n F zd_OB_begin_26 rfl ?_
  obtain ⟨le23, hs22, h⟩ := zoS_s h
  refine zr_get F 0 10 zd_OB_begin_27 (zW_o hs22 (by decide)) rfl (by decide) zw_498 rfl (by rfl) ?_
  obtain ⟨le25, hs24, h⟩ := zoS_s h
  obtain ⟨p26, ep26, h⟩ := zoB_s h
  refine zr_callV0 F (k_XPicture_start l D tA b sh _ ep26) zd_OB_begin_30 (zW_o hs24 (by decide)) rfl zs_OB_158 rfl zq_XPicture_start rfl rfl ⟨(Nat.le_of_ble_eq_true rfl), (Nat.le_of_ble_eq_true rfl)⟩ (Nat.le_of_ble_eq_true rfl) ⟨(Nat.le_of_ble_eq_true rfl), (Nat.le_of_ble_eq_true rfl)⟩ ?_
  refine zr_pcn 33 rfl ?_
  refine zr_iconstv (v := 0) F zd_OB_begin_33 (by decide) ?_
  refine zr_istore_n F zd_OB_begin_34 (by decide) ?_
  obtain ⟨q53, eq53, h⟩ := zoB_s h
  refine zr_loc (L' := [(0, .ref (b + o)), (1, .int 0)]) ⟨rfl, rfl, trivial⟩ ?_
  refine lp_OB_begin_35 F _ _ _ _ _ eq53 ?_
  ·
    refine zr_aload_n F zd_OB_begin_78 rfl ?_
    obtain ⟨le55, hs54, h⟩ := zoS_s h
    obtain ⟨a56, ea56, h⟩ := zoB_s h
    refine zr_get F 0 8 zd_OB_begin_79 (zW_o hs54 (by decide)) rfl (by decide) zw_496 rfl (by rfl) ?_
    refine zr_tor ea56 ?_
    obtain ⟨le58, hs57, h⟩ := zoS_s h
    refine zr_get F 5 0 zd_OB_begin_82 (zW_o hs57 (by decide)) rfl (by decide) zw_430 rfl (by rfl) ?_
    obtain rfl := Option.some.inj h
    exact zr_iret F hr zd_OB_begin_85 (Nat.le_of_ble_eq_true rfl) (Nat.le_of_ble_eq_true rfl) ⟨rfl, rfl, rfl⟩
theorem zf_I_0_11 (b : Nat) (m : zMem) (k : Nat) (v : Int32) : (zfl b 0 m k).set 11 (.int v) = zfl b 0 (mI m k 11 v) k := by simp [zfl, mI, upd, vp_updL]
theorem zw_880 : (Jvm.Cond.methodLink "OrreryBox" (201 : Nat) ({ cls := "OrreryBox$Piece", name := "mayCover", desc := "(II)Z" } : Jvm.MethodName)) ∈ gw := gw_t 880 (by decide +kernel) rfl
theorem zw_881 : (Jvm.Cond.instanceMethod ({ cls := "OrreryBox$Piece", name := "mayCover", desc := "(II)Z" } : Jvm.MethodName)) ∈ gw := gw_t 881 (by decide +kernel) rfl
theorem zw_882 : (Jvm.Cond.selects "OrreryBox$Piece" ({ cls := "OrreryBox$Piece", name := "mayCover", desc := "(II)Z" } : Jvm.MethodName) ({ cls := "OrreryBox$Piece", name := "mayCover", desc := "(II)Z" } : Jvm.MethodName)) ∈ gw := gw_t 882 (by decide +kernel) rfl
theorem zs_OB_201 : zwV "OrreryBox" 201 "OrreryBox$Piece" zy_XPiece_mayCover zb_XPiece_mayCover 3 (some .boolean) := ⟨zw_880, zw_881, zw_882, zw_11, zc_XPiece_mayCover⟩
theorem zw_886 : (Jvm.Cond.methodLink "OrreryBox" (206 : Nat) ({ cls := "OrreryBox$Piece", name := "covers", desc := "(II)Z" } : Jvm.MethodName)) ∈ gw := gw_t 886 (by decide +kernel) rfl
theorem zs_OB_206 : zwV "OrreryBox" 206 "OrreryBox$Piece" zy_XPiece_covers zb_XPiece_covers 5 (some .boolean) := ⟨zw_886, zw_818, zw_819, zw_11, zc_XPiece_covers⟩
theorem zw_887 : (Jvm.Cond.methodLink "OrreryBox" (209 : Nat) ({ cls := "OrreryBox$Piece", name := "near", desc := "()J" } : Jvm.MethodName)) ∈ gw := gw_t 887 (by decide +kernel) rfl
theorem zs_OB_209 : zwV "OrreryBox" 209 "OrreryBox$Piece" zy_XPiece_near zb_XPiece_near 1 (some .long) := ⟨zw_887, zw_830, zw_831, zw_11, zc_XPiece_near⟩
theorem zw_888 : (Jvm.Cond.methodLink "OrreryBox" (213 : Nat) ({ cls := "OrreryBox$Sight", name := "nodeNumber", desc := "()I" } : Jvm.MethodName)) ∈ gw := gw_t 888 (by decide +kernel) rfl
theorem zw_889 : (Jvm.Cond.instanceMethod ({ cls := "OrreryBox$Sight", name := "nodeNumber", desc := "()I" } : Jvm.MethodName)) ∈ gw := gw_t 889 (by decide +kernel) rfl
theorem zw_890 : (Jvm.Cond.selects "OrreryBox$Sight" ({ cls := "OrreryBox$Sight", name := "nodeNumber", desc := "()I" } : Jvm.MethodName) ({ cls := "OrreryBox$Sight", name := "nodeNumber", desc := "()I" } : Jvm.MethodName)) ∈ gw := gw_t 890 (by decide +kernel) rfl
theorem zs_OB_213 : zwV "OrreryBox" 213 "OrreryBox$Sight" zy_XSight_nodeNumber zb_XSight_nodeNumber 1 (some .int) := ⟨zw_888, zw_889, zw_890, zw_10, zc_XSight_nodeNumber⟩
theorem zw_374 : (Jvm.Cond.fieldLink "OrreryBox" (216 : Nat) "OrreryBox$Sight" "face" "I") ∈ gw := gw_t 374 (by decide +kernel) rfl
def L_OB_pick_51 (sh : zSh) (fuel : Nat) (v0 : Nat) (v1 : Int32) (v2 : Int32) (v3 : Nat) (v4 : Int32) (v5 : Int64) (v7 : Int32) (mm : zMem) : Option (Nat × Int32 × Int32 × Nat × Int32 × Int64 × Int32 × zMem) := match fuel with
  | 0 => none
  | fu + 1 => (if 36864 ≤ v7 then some (v0, v1, v2, v3, v4, v5, v7, mm) else zoS (sh v0) 0 (fun le31 => Option.bind (mm.2.2 v0 7) (fun a32 => zoS (sh a32) 9 (fun le34 => Option.bind (F_XSight_nextPiece sh mm a32) (fun p35 => (if p35.1 = 0 then some (v0, v1, v2, v3, v4, v5, v7, p35.2) else zoS (sh v3) 6 (fun le38 => Option.bind (F_XPiece_mayCover sh (p35.2) v3 v1 v2) (fun p39 => (if p39.1 = 0 then L_OB_pick_51 sh fu v0 v1 v2 v3 v4 v5 (v7 + 1) (p39.2) else zoS (sh v3) 6 (fun le42 => Option.bind (F_XPiece_covers sh (p39.2) v3 v1 v2) (fun p43 => (if p43.1 = 0 then L_OB_pick_51 sh fu v0 v1 v2 v3 v4 v5 (v7 + 1) (p43.2) else zoS (sh v3) 6 (fun le46 => Option.bind (F_XPiece_near sh (p43.2) v3) (fun p47 => (if (lg_cmp p47.1 v5) ≤ 0 then L_OB_pick_51 sh fu v0 v1 v2 v3 v4 v5 (v7 + 1) (p47.2) else zoS (sh v3) 6 (fun le50 => Option.bind (F_XPiece_near sh (p47.2) v3) (fun p51 => zoS (sh v0) 0 (fun le53 => Option.bind ((p51.2).2.2 v0 7) (fun a54 => zoS (sh a54) 9 (fun le56 => Option.bind (F_XSight_nodeNumber sh (p51.2) a54) (fun p57 => zoS (sh v0) 0 (fun le59 => Option.bind ((p57.2).2.2 v0 7) (fun a60 => zoS (sh a60) 9 (fun le62 => zoL ((p57.2).1 a60 1) (fun x63 => zoS (sh v0) 0 (fun le65 => zoL (mI (p57.2) v0 11 x63) (fun mm66 => L_OB_pick_51 sh fu v0 v1 v2 v3 (p57.1) (p51.1) (v7 + 1) mm66)))))))))))))))))))))))))))
set_option maxHeartbeats 4000000 in
set_option maxRecDepth 100000 in
theorem lp_OB_pick_51 {p : Program} {l : Launch} {e : Env} {s : State} {m : MethodId} {args : Array Value} {below : List Frame} {meth : Method} {c : Code} {D : va_G} {tA : Nat → ClassId} {b n : Nat} {post : Option Value → zV → Nat → Prop} {sh : zSh} (F : zF p s m args meth c zb_OB_pick 8 "OrreryBox" D tA b) : ∀ (fuel : Nat) (v0 : Nat) (v1 : Int32) (v2 : Int32) (v3 : Nat) (v4 : Int32) (v5 : Int64) (v7 : Int32) (mm : zMem) (r : Nat × Int32 × Int32 × Nat × Int32 × Int64 × Int32 × zMem), L_OB_pick_51 sh fuel v0 v1 v2 v3 v4 v5 v7 mm = some r → (Z p l e { frames := 6, cells := 0, slots := 0, locals := 155 } s m args below meth c D b 8 (MQ below (zQ D b post) args s 0 0 (fun q => b ≤ q)) (zW tA b sh r.2.2.2.2.2.2.2) n 0 0 128 [(0, .ref (b + (r.1))), (1, .int (r.2.1)), (2, .int (r.2.2.1)), (3, .ref (b + (r.2.2.2.1))), (4, .int (r.2.2.2.2.1)), (5, .long (r.2.2.2.2.2.1)), (7, .int (r.2.2.2.2.2.2.1))] []) → Z p l e { frames := 6, cells := 0, slots := 0, locals := 155 } s m args below meth c D b 8 (MQ below (zQ D b post) args s 0 0 (fun q => b ≤ q)) (zW tA b sh mm) n 0 0 51 [(0, .ref (b + v0)), (1, .int v1), (2, .int v2), (3, .ref (b + v3)), (4, .int v4), (5, .long v5), (7, .int v7)] [] := by
  intro fuel
  induction fuel with
  | zero =>
    intro v0 v1 v2 v3 v4 v5 v7 mm r h
    cases h
  | succ fu ih =>
    intro v0 v1 v2 v3 v4 v5 v7 mm r h hx0
    rw [L_OB_pick_51] at h
    refine zr_iload F zd_OB_pick_51 rfl ?_
    refine zr_ldc F zd_OB_pick_53 zw_696 ?_
    refine zr_icmp_ge F 128 zd_OB_pick_55 (by decide) (fun hb29 => ?_) (fun hb29 => ?_)
    ·
      rw [if_pos hb29] at h
      obtain rfl := Option.some.inj h
      refine zr_loc (L' := [(0, .ref (b + v0)), (1, .int v1), (2, .int v2), (3, .ref (b + v3)), (4, .int v4), (5, .long v5), (7, .int v7)]) ⟨rfl, rfl, rfl, rfl, rfl, rfl, rfl, trivial⟩ ?_
      exact hx0 
    ·
      rw [if_neg hb29] at h
      refine zr_aload_n F zd_OB_pick_58 rfl ?_
      obtain ⟨le31, hs30, h⟩ := zoS_s h
      obtain ⟨a32, ea32, h⟩ := zoB_s h
      refine zr_get F 0 7 zd_OB_pick_59 (zW_o hs30 (by decide)) rfl (by decide) zw_495 rfl (by rfl) ?_
      refine zr_tor ea32 ?_
      refine zr_pcn 62 rfl ?_
      obtain ⟨le34, hs33, h⟩ := zoS_s h
      obtain ⟨p35, ep35, h⟩ := zoB_s h
      refine zr_callV1 F (k_XSight_nextPiece l D tA b sh _ ep35) zd_OB_pick_62 (zW_o hs33 (by decide)) rfl zs_OB_163 rfl zq_XSight_nextPiece rfl rfl ⟨(Nat.le_of_ble_eq_true rfl), (Nat.le_of_ble_eq_true rfl)⟩ (Nat.le_of_ble_eq_true rfl) ⟨(Nat.le_of_ble_eq_true rfl), (Nat.le_of_ble_eq_true rfl)⟩ ?_
      refine zr_if_eq F 128 zd_OB_pick_65 (by decide) (fun hb36 => ?_) (fun hb36 => ?_)
      ·
        rw [if_pos hb36] at h
        obtain rfl := Option.some.inj h
        refine zr_loc (L' := [(0, .ref (b + v0)), (1, .int v1), (2, .int v2), (3, .ref (b + v3)), (4, .int v4), (5, .long v5), (7, .int v7)]) ⟨rfl, rfl, rfl, rfl, rfl, rfl, rfl, trivial⟩ ?_
        exact hx0 
      ·
        rw [if_neg hb36] at h
        refine zr_aload_n F zd_OB_pick_68 rfl ?_
        refine zr_iload_n F zd_OB_pick_69 rfl ?_
        refine zr_iload_n F zd_OB_pick_70 rfl ?_
        obtain ⟨le38, hs37, h⟩ := zoS_s h
        obtain ⟨p39, ep39, h⟩ := zoB_s h
        refine zr_callV1 F (k_XPiece_mayCover l D tA b sh _ ep39) zd_OB_pick_71 (zW_o hs37 (by decide)) rfl zs_OB_201 rfl zq_XPiece_mayCover rfl rfl ⟨(Nat.le_of_ble_eq_true rfl), (Nat.le_of_ble_eq_true rfl)⟩ (Nat.le_of_ble_eq_true rfl) ⟨(Nat.le_of_ble_eq_true rfl), (Nat.le_of_ble_eq_true rfl)⟩ ?_
        refine zr_if_eq F 122 zd_OB_pick_74 (by decide) (fun hb40 => ?_) (fun hb40 => ?_)
        ·
          rw [if_pos hb40] at h
          refine zr_iinc (v := (v7 + 1)) F zd_OB_pick_122 rfl rfl (by decide) ?_
          refine zr_pcn 125 rfl ?_
          refine zr_goto F 51 zd_OB_pick_125 (by decide) ?_
          refine zr_loc (L' := [(0, .ref (b + v0)), (1, .int v1), (2, .int v2), (3, .ref (b + v3)), (4, .int v4), (5, .long v5), (7, .int (v7 + 1))]) ⟨rfl, rfl, rfl, rfl, rfl, rfl, rfl, trivial⟩ ?_
          exact ih _ _ _ _ _ _ _ _ _ h hx0
        ·
          rw [if_neg hb40] at h
          refine zr_aload_n F zd_OB_pick_77 rfl ?_
          refine zr_iload_n F zd_OB_pick_78 rfl ?_
          refine zr_iload_n F zd_OB_pick_79 rfl ?_
          obtain ⟨le42, hs41, h⟩ := zoS_s h
          obtain ⟨p43, ep43, h⟩ := zoB_s h
          refine zr_callV1 F (k_XPiece_covers l D tA b sh _ ep43) zd_OB_pick_80 (zW_o hs41 (by decide)) rfl zs_OB_206 rfl zq_XPiece_covers rfl rfl ⟨(Nat.le_of_ble_eq_true rfl), (Nat.le_of_ble_eq_true rfl)⟩ (Nat.le_of_ble_eq_true rfl) ⟨(Nat.le_of_ble_eq_true rfl), (Nat.le_of_ble_eq_true rfl)⟩ ?_
          refine zr_if_eq F 122 zd_OB_pick_83 (by decide) (fun hb44 => ?_) (fun hb44 => ?_)
          ·
            rw [if_pos hb44] at h
            refine zr_iinc (v := (v7 + 1)) F zd_OB_pick_122 rfl rfl (by decide) ?_
            refine zr_goto F 51 zd_OB_pick_125 (by decide) ?_
            refine zr_loc (L' := [(0, .ref (b + v0)), (1, .int v1), (2, .int v2), (3, .ref (b + v3)), (4, .int v4), (5, .long v5), (7, .int (v7 + 1))]) ⟨rfl, rfl, rfl, rfl, rfl, rfl, rfl, trivial⟩ ?_
            exact ih _ _ _ _ _ _ _ _ _ h hx0
          ·
            rw [if_neg hb44] at h
            refine zr_pcn 86 rfl ?_
            refine zr_aload_n F zd_OB_pick_86 rfl ?_
            obtain ⟨le46, hs45, h⟩ := zoS_s h
            obtain ⟨p47, ep47, h⟩ := zoB_s h
            refine zr_callV1 F (k_XPiece_near l D tA b sh _ ep47) zd_OB_pick_87 (zW_o hs45 (by decide)) rfl zs_OB_209 rfl zq_XPiece_near rfl rfl ⟨(Nat.le_of_ble_eq_true rfl), (Nat.le_of_ble_eq_true rfl)⟩ (Nat.le_of_ble_eq_true rfl) ⟨(Nat.le_of_ble_eq_true rfl), (Nat.le_of_ble_eq_true rfl)⟩ ?_
            refine zr_lload F zd_OB_pick_90 rfl ?_
            refine zr_lcmp F zd_OB_pick_92 ?_
            refine zr_if_le F 122 zd_OB_pick_93 (by decide) (fun hb48 => ?_) (fun hb48 => ?_)
            ·
              rw [if_pos hb48] at h
              refine zr_iinc (v := (v7 + 1)) F zd_OB_pick_122 rfl rfl (by decide) ?_
              refine zr_goto F 51 zd_OB_pick_125 (by decide) ?_
              refine zr_loc (L' := [(0, .ref (b + v0)), (1, .int v1), (2, .int v2), (3, .ref (b + v3)), (4, .int v4), (5, .long v5), (7, .int (v7 + 1))]) ⟨rfl, rfl, rfl, rfl, rfl, rfl, rfl, trivial⟩ ?_
              exact ih _ _ _ _ _ _ _ _ _ h hx0
            ·
              rw [if_neg hb48] at h
              refine zr_aload_n F zd_OB_pick_96 rfl ?_
              refine zr_pcn 97 rfl ?_
              obtain ⟨le50, hs49, h⟩ := zoS_s h
              obtain ⟨p51, ep51, h⟩ := zoB_s h
              refine zr_callV1 F (k_XPiece_near l D tA b sh _ ep51) zd_OB_pick_97 (zW_o hs49 (by decide)) rfl zs_OB_209 rfl zq_XPiece_near rfl rfl ⟨(Nat.le_of_ble_eq_true rfl), (Nat.le_of_ble_eq_true rfl)⟩ (Nat.le_of_ble_eq_true rfl) ⟨(Nat.le_of_ble_eq_true rfl), (Nat.le_of_ble_eq_true rfl)⟩ ?_
              refine zr_lstore F zd_OB_pick_100 (by decide) ?_
              refine zr_aload_n F zd_OB_pick_102 rfl ?_
              obtain ⟨le53, hs52, h⟩ := zoS_s h
              obtain ⟨a54, ea54, h⟩ := zoB_s h
              refine zr_get F 0 7 zd_OB_pick_103 (zW_o hs52 (by decide)) rfl (by decide) zw_495 rfl (by rfl) ?_
              refine zr_tor ea54 ?_
              obtain ⟨le56, hs55, h⟩ := zoS_s h
              obtain ⟨p57, ep57, h⟩ := zoB_s h
              refine zr_callV1 F (k_XSight_nodeNumber l D tA b sh _ ep57) zd_OB_pick_106 (zW_o hs55 (by decide)) rfl zs_OB_213 rfl zq_XSight_nodeNumber rfl rfl ⟨(Nat.le_of_ble_eq_true rfl), (Nat.le_of_ble_eq_true rfl)⟩ (Nat.le_of_ble_eq_true rfl) ⟨(Nat.le_of_ble_eq_true rfl), (Nat.le_of_ble_eq_true rfl)⟩ ?_
              refine zr_istore F zd_OB_pick_109 (by decide) ?_
              refine zr_aload_n F zd_OB_pick_111 rfl ?_
              refine zr_aload_n F zd_OB_pick_112 rfl ?_
              refine zr_pcn 113 rfl ?_
              obtain ⟨le59, hs58, h⟩ := zoS_s h
              obtain ⟨a60, ea60, h⟩ := zoB_s h
              refine zr_get F 0 7 zd_OB_pick_113 (zW_o hs58 (by decide)) rfl (by decide) zw_495 rfl (by rfl) ?_
              refine zr_tor ea60 ?_
              obtain ⟨le62, hs61, h⟩ := zoS_s h
              refine zr_get F 9 1 zd_OB_pick_116 (zW_o hs61 (by decide)) rfl (by decide) zw_374 rfl (by rfl) ?_
              obtain ⟨x63, ex63, h⟩ := zoL_s h
              rw [← ex63]
              obtain ⟨le65, hs64, h⟩ := zoS_s h
              refine zr_put F 0 11 zd_OB_pick_119 (zW_o hs64 (by decide)) rfl (by decide) zw_499 rfl rfl rfl rfl (by exact (Nat.le_of_ble_eq_true rfl)) ?_
              obtain ⟨mm66, emm66, h⟩ := zoL_s h
              refine zr_norm (zW tA b sh mm66) _ (by rw [emm66]; exact zW_pI (v := x63) hs64 (by decide) (zf_I_0_11 b _ _ _)) rfl ?_
              refine zr_iinc (v := (v7 + 1)) F zd_OB_pick_122 rfl rfl (by decide) ?_
              refine zr_goto F 51 zd_OB_pick_125 (by decide) ?_
              refine zr_loc (L' := [(0, .ref (b + v0)), (1, .int v1), (2, .int v2), (3, .ref (b + v3)), (4, .int (p57.1)), (5, .long (p51.1)), (7, .int (v7 + 1))]) ⟨rfl, rfl, rfl, rfl, rfl, rfl, rfl, trivial⟩ ?_
              exact ih _ _ _ _ _ _ _ _ _ h hx0
def F_OB_pick (sh : zSh) (mm : zMem) (o : Nat) (x0_ : Int32) (x1_ : Int32) : Option (Int32 × zMem) := zoS (sh o) 0 (fun le2 => zoL (mI mm o 11 (-1)) (fun mm3 => zoS (sh o) 0 (fun le5 => Option.bind (F_OB_hasPixel sh mm3 o x0_ x1_) (fun p6 => (if p6.1 = 0 then some ((-1), p6.2) else zoS (sh o) 0 (fun le9 => Option.bind ((p6.2).2.2 o 5) (fun a10 => zoS (sh a10) 8 (fun le12 => Option.bind (F_XScene_placeNodes sh (p6.2) a10) (fun p13 => zoS (sh o) 0 (fun le15 => Option.bind (p13.2.2 o 7) (fun a16 => zoS (sh o) 0 (fun le18 => Option.bind (p13.2.2 o 5) (fun a19 => zoS (sh a16) 9 (fun le21 => Option.bind (F_XSight_stand sh p13 a16 a19) (fun p22 => zoS (sh o) 0 (fun le24 => Option.bind (p22.2.2 o 7) (fun a25 => zoS (sh a25) 9 (fun le27 => Option.bind (p22.2.2 a25 0) (fun a28 => Option.bind (L_OB_pick_51 sh zfuel o x0_ x1_ a28 (-1) 0 0 p22) (fun q67 => some (q67.2.2.2.2.1, q67.2.2.2.2.2.2.2)))))))))))))))))))))
set_option maxHeartbeats 4000000 in
set_option maxRecDepth 100000 in
theorem k_OB_pick (l : Launch) (D : va_G) (tA : Nat → ClassId) (b : Nat) (sh : zSh) (n : Nat) {mm : zMem} {o : Nat} {x0_ : Int32} {x1_ : Int32} {r : (Int32 × zMem)} (h : F_OB_pick sh mm o x0_ x1_ = some r) : zM l D tA b zy_OB_pick zb_OB_pick 8 (some .int) 6 155 0 0 [.ref (b + o), .int x0_, .int x1_] (zW tA b sh mm) n (zE (some (.int (r.1))) (zW tA b sh r.2) n) := by
  unfold F_OB_pick at h
  refine zM_of (own := "OrreryBox") (plainFor_of_name (by decide)) rfl (Nat.le_of_ble_eq_true rfl) (fun p e s m below meth c F hr hin hH => ?_)
  refine zr_aload_n F zd_OB_pick_0 rfl ?_
  refine zr_iconstv (v := (-1)) F zd_OB_pick_1 (by decide) ?_
  obtain ⟨le2, hs1, h⟩ := zoS_s h
  refine zr_put F 0 11 zd_OB_pick_2 (zW_o hs1 (by decide)) rfl (by decide) zw_499 rfl rfl rfl rfl (by exact (Nat.le_of_ble_eq_true rfl)) ?_
  obtain ⟨mm3, emm3, h⟩ := zoL_s h
  refine zr_norm (zW tA b sh mm3) _ (by rw [emm3]; exact zW_pI (v := (-1)) hs1 (by decide) (zf_I_0_11 b _ _ _)) rfl ?_
  refine zr_aload_n F zd_OB_pick_5 rfl ?_
  refine zr_iload_n F zd_OB_pick_6 rfl ?_
  refine zr_iload_n F zd_OB_pick_7 rfl ?_
  obtain ⟨le5, hs4, h⟩ := zoS_s h
  obtain ⟨p6, ep6, h⟩ := zoB_s h
  refine zr_callV1 F (k_OB_hasPixel l D tA b sh _ ep6) zd_OB_pick_8 (zW_o hs4 (by decide)) rfl zs_OB_188 rfl zq_OB_hasPixel rfl rfl ⟨(Nat.le_of_ble_eq_true rfl), (Nat.le_of_ble_eq_true rfl)⟩ (Nat.le_of_ble_eq_true rfl) ⟨(Nat.le_of_ble_eq_true rfl), (Nat.le_of_ble_eq_true rfl)⟩ ?_
  refine zr_pcn 11 rfl ?_
  refine zr_if_ne F 16 zd_OB_pick_11 (by decide) (fun hb7 => ?_) (fun hb7 => ?_)
  ·
    rw [if_neg hb7] at h
    refine zr_aload_n F zd_OB_pick_16 rfl ?_
    obtain ⟨le9, hs8, h⟩ := zoS_s h
    obtain ⟨a10, ea10, h⟩ := zoB_s h
    refine zr_get F 0 5 zd_OB_pick_17 (zW_o hs8 (by decide)) rfl (by decide) zw_493 rfl (by rfl) ?_
    refine zr_tor ea10 ?_
    obtain ⟨le12, hs11, h⟩ := zoS_s h
    obtain ⟨p13, ep13, h⟩ := zoB_s h
    refine zr_callV0 F (k_XScene_placeNodes l D tA b sh _ ep13) zd_OB_pick_20 (zW_o hs11 (by decide)) rfl zs_OB_148 rfl zq_XScene_placeNodes rfl rfl ⟨(Nat.le_of_ble_eq_true rfl), (Nat.le_of_ble_eq_true rfl)⟩ (Nat.le_of_ble_eq_true rfl) ⟨(Nat.le_of_ble_eq_true rfl), (Nat.le_of_ble_eq_true rfl)⟩ ?_
    refine zr_aload_n F zd_OB_pick_23 rfl ?_
    obtain ⟨le15, hs14, h⟩ := zoS_s h
    obtain ⟨a16, ea16, h⟩ := zoB_s h
    refine zr_get F 0 7 zd_OB_pick_24 (zW_o hs14 (by decide)) rfl (by decide) zw_495 rfl (by rfl) ?_
    refine zr_tor ea16 ?_
    refine zr_aload_n F zd_OB_pick_27 rfl ?_
    obtain ⟨le18, hs17, h⟩ := zoS_s h
    obtain ⟨a19, ea19, h⟩ := zoB_s h
    refine zr_get F 0 5 zd_OB_pick_28 (zW_o hs17 (by decide)) rfl (by decide) zw_493 rfl (by rfl) ?_
    refine zr_tor ea19 ?_
    refine zr_pcn 31 rfl ?_
    obtain ⟨le21, hs20, h⟩ := zoS_s h
    obtain ⟨p22, ep22, h⟩ := zoB_s h
    refine zr_callV0 F (k_XSight_stand l D tA b sh _ ep22) zd_OB_pick_31 (zW_o hs20 (by decide)) rfl zs_OB_154 rfl zq_XSight_stand rfl rfl ⟨(Nat.le_of_ble_eq_true rfl), (Nat.le_of_ble_eq_true rfl)⟩ (Nat.le_of_ble_eq_true rfl) ⟨(Nat.le_of_ble_eq_true rfl), (Nat.le_of_ble_eq_true rfl)⟩ ?_
    refine zr_aload_n F zd_OB_pick_34 rfl ?_
    obtain ⟨le24, hs23, h⟩ := zoS_s h
    obtain ⟨a25, ea25, h⟩ := zoB_s h
    refine zr_get F 0 7 zd_OB_pick_35 (zW_o hs23 (by decide)) rfl (by decide) zw_495 rfl (by rfl) ?_
    refine zr_tor ea25 ?_
    obtain ⟨le27, hs26, h⟩ := zoS_s h
    obtain ⟨a28, ea28, h⟩ := zoB_s h
    refine zr_get F 9 0 zd_OB_pick_38 (zW_o hs26 (by decide)) rfl (by decide) zw_372 rfl (by rfl) ?_
    refine zr_tor ea28 ?_
    refine zr_astore_n F zd_OB_pick_41 (by decide) ?_
    refine zr_iconstv (v := (-1)) F zd_OB_pick_42 (by decide) ?_
    refine zr_istore F zd_OB_pick_43 (by decide) ?_
    refine zr_lconstv (v := 0) F zd_OB_pick_45 (by decide) ?_
    refine zr_pcn 46 rfl ?_
    refine zr_lstore F zd_OB_pick_46 (by decide) ?_
    refine zr_iconstv (v := 0) F zd_OB_pick_48 (by decide) ?_
    refine zr_istore F zd_OB_pick_49 (by decide) ?_
    obtain ⟨q67, eq67, h⟩ := zoB_s h
    refine zr_loc (L' := [(0, .ref (b + o)), (1, .int x0_), (2, .int x1_), (3, .ref (b + a28)), (4, .int (-1)), (5, .long 0), (7, .int 0)]) ⟨rfl, rfl, rfl, rfl, rfl, rfl, rfl, trivial⟩ ?_
    refine lp_OB_pick_51 F _ _ _ _ _ _ _ _ _ _ eq67 ?_
    ·
      refine zr_iload F zd_OB_pick_128 rfl ?_
      obtain rfl := Option.some.inj h
      exact zr_iret F hr zd_OB_pick_130 (Nat.le_of_ble_eq_true rfl) (Nat.le_of_ble_eq_true rfl) ⟨rfl, rfl, rfl⟩
  ·
    rw [if_pos hb7] at h
    refine zr_iconstv (v := (-1)) F zd_OB_pick_14 (by decide) ?_
    refine zr_pcn 15 rfl ?_
    obtain rfl := Option.some.inj h
    exact zr_iret F hr zd_OB_pick_15 (Nat.le_of_ble_eq_true rfl) (Nat.le_of_ble_eq_true rfl) ⟨rfl, rfl, rfl⟩
theorem zw_904 : (Jvm.Cond.methodLink "OrreryBox" (222 : Nat) ({ cls := "OrreryBox$Packer", name := "write", desc := "([III)V" } : Jvm.MethodName)) ∈ gw := gw_t 904 (by decide +kernel) rfl
theorem zw_905 : (Jvm.Cond.instanceMethod ({ cls := "OrreryBox$Packer", name := "write", desc := "([III)V" } : Jvm.MethodName)) ∈ gw := gw_t 905 (by decide +kernel) rfl
theorem zw_906 : (Jvm.Cond.selects "OrreryBox$Packer" ({ cls := "OrreryBox$Packer", name := "write", desc := "([III)V" } : Jvm.MethodName) ({ cls := "OrreryBox$Packer", name := "write", desc := "([III)V" } : Jvm.MethodName)) ∈ gw := gw_t 906 (by decide +kernel) rfl
theorem zs_OB_222 : zwV "OrreryBox" 222 "OrreryBox$Packer" zy_XPacker_write zb_XPacker_write 5 none := ⟨zw_904, zw_905, zw_906, zw_3, zc_XPacker_write⟩
def F_OB_file (sh : zSh) (mm : zMem) (o : Nat) : Option (Int32 × zMem) := zoS (sh o) 0 (fun le2 => Option.bind (mm.2.2 o 8) (fun a3 => zoS (sh a3) 5 (fun le5 => Option.bind (F_XPicture_isWhole sh mm a3) (fun p6 => (if p6.1 = 0 then some ((-1), p6.2) else zoS (sh o) 0 (fun le9 => Option.bind ((p6.2).2.2 o 9) (fun a10 => zoS (sh o) 0 (fun le12 => Option.bind ((p6.2).2.2 o 8) (fun a13 => zoS (sh a13) 5 (fun le15 => Option.bind ((p6.2).2.2 a13 1) (fun a16 => zoS (sh o) 0 (fun le18 => zoS (sh o) 0 (fun le20 => zoS (sh a10) 4 (fun le22 => Option.bind (F_XPacker_write sh (p6.2) a10 a16 ((p6.2).1 o 0) ((p6.2).1 o 1)) (fun p23 => zoS (sh o) 0 (fun le25 => Option.bind (p23.2.2 o 9) (fun a26 => zoS (sh a26) 4 (fun le28 => some ((p23.1 a26 1), p23)))))))))))))))))))
set_option maxHeartbeats 4000000 in
set_option maxRecDepth 100000 in
theorem k_OB_file (l : Launch) (D : va_G) (tA : Nat → ClassId) (b : Nat) (sh : zSh) (n : Nat) {mm : zMem} {o : Nat} {r : (Int32 × zMem)} (h : F_OB_file sh mm o = some r) : zM l D tA b zy_OB_file zb_OB_file 1 (some .int) 7 173 0 0 [.ref (b + o)] (zW tA b sh mm) n (zE (some (.int (r.1))) (zW tA b sh r.2) n) := by
  unfold F_OB_file at h
  refine zM_of (own := "OrreryBox") (plainFor_of_name (by decide)) rfl (Nat.le_of_ble_eq_true rfl) (fun p e s m below meth c F hr hin hH => ?_)
  refine zr_aload_n F zd_OB_file_0 rfl ?_
  obtain ⟨le2, hs1, h⟩ := zoS_s h
  obtain ⟨a3, ea3, h⟩ := zoB_s h
  refine zr_get F 0 8 zd_OB_file_1 (zW_o hs1 (by decide)) rfl (by decide) zw_496 rfl (by rfl) ?_
  refine zr_tor ea3 ?_
  obtain ⟨le5, hs4, h⟩ := zoS_s h
  obtain ⟨p6, ep6, h⟩ := zoB_s h
  refine zr_callV1 F (k_XPicture_isWhole l D tA b sh _ ep6) zd_OB_file_4 (zW_o hs4 (by decide)) rfl zs_OB_219 rfl zq_XPicture_isWhole rfl rfl ⟨(Nat.le_of_ble_eq_true rfl), (Nat.le_of_ble_eq_true rfl)⟩ (Nat.le_of_ble_eq_true rfl) ⟨(Nat.le_of_ble_eq_true rfl), (Nat.le_of_ble_eq_true rfl)⟩ ?_
  refine zr_if_ne F 12 zd_OB_file_7 (by decide) (fun hb7 => ?_) (fun hb7 => ?_)
  ·
    rw [if_neg hb7] at h
    refine zr_aload_n F zd_OB_file_12 rfl ?_
    obtain ⟨le9, hs8, h⟩ := zoS_s h
    obtain ⟨a10, ea10, h⟩ := zoB_s h
    refine zr_get F 0 9 zd_OB_file_13 (zW_o hs8 (by decide)) rfl (by decide) zw_497 rfl (by rfl) ?_
    refine zr_tor ea10 ?_
    refine zr_aload_n F zd_OB_file_16 rfl ?_
    refine zr_pcn 17 rfl ?_
    obtain ⟨le12, hs11, h⟩ := zoS_s h
    obtain ⟨a13, ea13, h⟩ := zoB_s h
    refine zr_get F 0 8 zd_OB_file_17 (zW_o hs11 (by decide)) rfl (by decide) zw_496 rfl (by rfl) ?_
    refine zr_tor ea13 ?_
    obtain ⟨le15, hs14, h⟩ := zoS_s h
    obtain ⟨a16, ea16, h⟩ := zoB_s h
    refine zr_get F 5 1 zd_OB_file_20 (zW_o hs14 (by decide)) rfl (by decide) zw_432 rfl (by rfl) ?_
    refine zr_tor ea16 ?_
    refine zr_aload_n F zd_OB_file_23 rfl ?_
    obtain ⟨le18, hs17, h⟩ := zoS_s h
    refine zr_get F 0 0 zd_OB_file_24 (zW_o hs17 (by decide)) rfl (by decide) zw_488 rfl (by rfl) ?_
    refine zr_aload_n F zd_OB_file_27 rfl ?_
    obtain ⟨le20, hs19, h⟩ := zoS_s h
    refine zr_get F 0 1 zd_OB_file_28 (zW_o hs19 (by decide)) rfl (by decide) zw_489 rfl (by rfl) ?_
    obtain ⟨le22, hs21, h⟩ := zoS_s h
    obtain ⟨p23, ep23, h⟩ := zoB_s h
    refine zr_callV0 F (k_XPacker_write l D tA b sh _ ep23) zd_OB_file_31 (zW_o hs21 (by decide)) rfl zs_OB_222 rfl zq_XPacker_write rfl rfl ⟨(Nat.le_of_ble_eq_true rfl), (Nat.le_of_ble_eq_true rfl)⟩ (Nat.le_of_ble_eq_true rfl) ⟨(Nat.le_of_ble_eq_true rfl), (Nat.le_of_ble_eq_true rfl)⟩ ?_
    refine zr_aload_n F zd_OB_file_34 rfl ?_
    refine zr_pcn 35 rfl ?_
    obtain ⟨le25, hs24, h⟩ := zoS_s h
    obtain ⟨a26, ea26, h⟩ := zoB_s h
    refine zr_get F 0 9 zd_OB_file_35 (zW_o hs24 (by decide)) rfl (by decide) zw_497 rfl (by rfl) ?_
    refine zr_tor ea26 ?_
    obtain ⟨le28, hs27, h⟩ := zoS_s h
    refine zr_get F 4 1 zd_OB_file_38 (zW_o hs27 (by decide)) rfl (by decide) zw_84 rfl (by rfl) ?_
    obtain rfl := Option.some.inj h
    exact zr_iret F hr zd_OB_file_41 (Nat.le_of_ble_eq_true rfl) (Nat.le_of_ble_eq_true rfl) ⟨rfl, rfl, rfl⟩
  ·
    rw [if_pos hb7] at h
    refine zr_iconstv (v := (-1)) F zd_OB_file_10 (by decide) ?_
    obtain rfl := Option.some.inj h
    exact zr_iret F hr zd_OB_file_11 (Nat.le_of_ble_eq_true rfl) (Nat.le_of_ble_eq_true rfl) ⟨rfl, rfl, rfl⟩
abbrev zb_XPicture_drawTile : ByteArray := prog_6_method_7_code
def zy_XPicture_drawTile : MethodName := ⟨"OrreryBox$Picture", "drawTile", "(I)V"⟩
theorem zc_XPicture_drawTile : Cond.code zy_XPicture_drawTile zb_XPicture_drawTile 3 none ∈ gw := gw_t 779 (by decide +kernel) rfl
theorem zq_XPicture_drawTile : zy_XPicture_drawTile.cls ≠ "java/lang/invoke/MethodHandle" ∧ zy_XPicture_drawTile.cls ≠ "java/lang/invoke/VarHandle" ∧ (parseMethodDescriptor zy_XPicture_drawTile.desc).map (fun d => d.parameters.length) = some 1 := by decide +kernel
theorem zd_XPicture_drawTile_0 : decode zb_XPicture_drawTile 0 = .ok (.aload_n 0, 1) := by decide +kernel
theorem zd_XPicture_drawTile_1 : decode zb_XPicture_drawTile 1 = .ok (.iload_n 1, 1) := by decide +kernel
theorem zd_XPicture_drawTile_2 : decode zb_XPicture_drawTile 2 = .ok (.aload_n 0, 1) := by decide +kernel
theorem zd_XPicture_drawTile_3 : decode zb_XPicture_drawTile 3 = .ok (.getfield 35, 3) := by decide +kernel
theorem zd_XPicture_drawTile_6 : decode zb_XPicture_drawTile 6 = .ok (.irem, 1) := by decide +kernel
theorem zd_XPicture_drawTile_7 : decode zb_XPicture_drawTile 7 = .ok (.bipush 8, 2) := by decide +kernel
theorem zd_XPicture_drawTile_9 : decode zb_XPicture_drawTile 9 = .ok (.imul, 1) := by decide +kernel
theorem zd_XPicture_drawTile_10 : decode zb_XPicture_drawTile 10 = .ok (.putfield 69, 3) := by decide +kernel
theorem zd_XPicture_drawTile_13 : decode zb_XPicture_drawTile 13 = .ok (.aload_n 0, 1) := by decide +kernel
theorem zd_XPicture_drawTile_14 : decode zb_XPicture_drawTile 14 = .ok (.iload_n 1, 1) := by decide +kernel
theorem zd_XPicture_drawTile_15 : decode zb_XPicture_drawTile 15 = .ok (.aload_n 0, 1) := by decide +kernel
theorem zd_XPicture_drawTile_16 : decode zb_XPicture_drawTile 16 = .ok (.getfield 35, 3) := by decide +kernel
theorem zd_XPicture_drawTile_19 : decode zb_XPicture_drawTile 19 = .ok (.idiv, 1) := by decide +kernel
theorem zd_XPicture_drawTile_20 : decode zb_XPicture_drawTile 20 = .ok (.bipush 8, 2) := by decide +kernel
theorem zd_XPicture_drawTile_22 : decode zb_XPicture_drawTile 22 = .ok (.imul, 1) := by decide +kernel
theorem zd_XPicture_drawTile_23 : decode zb_XPicture_drawTile 23 = .ok (.putfield 72, 3) := by decide +kernel
theorem zd_XPicture_drawTile_26 : decode zb_XPicture_drawTile 26 = .ok (.aload_n 0, 1) := by decide +kernel
theorem zd_XPicture_drawTile_27 : decode zb_XPicture_drawTile 27 = .ok (.aload_n 0, 1) := by decide +kernel
theorem zd_XPicture_drawTile_28 : decode zb_XPicture_drawTile 28 = .ok (.getfield 69, 3) := by decide +kernel
theorem zd_XPicture_drawTile_31 : decode zb_XPicture_drawTile 31 = .ok (.bipush 8, 2) := by decide +kernel
theorem zd_XPicture_drawTile_33 : decode zb_XPicture_drawTile 33 = .ok (.iadd, 1) := by decide +kernel
theorem zd_XPicture_drawTile_34 : decode zb_XPicture_drawTile 34 = .ok (.aload_n 0, 1) := by decide +kernel
theorem zd_XPicture_drawTile_35 : decode zb_XPicture_drawTile 35 = .ok (.getfield 28, 3) := by decide +kernel
theorem zd_XPicture_drawTile_38 : decode zb_XPicture_drawTile 38 = .ok (.invokestatic 75, 3) := by decide +kernel
theorem zd_XPicture_drawTile_41 : decode zb_XPicture_drawTile 41 = .ok (.iconst 1, 1) := by decide +kernel
theorem zd_XPicture_drawTile_42 : decode zb_XPicture_drawTile 42 = .ok (.isub, 1) := by decide +kernel
theorem zd_XPicture_drawTile_43 : decode zb_XPicture_drawTile 43 = .ok (.putfield 81, 3) := by decide +kernel
theorem zd_XPicture_drawTile_46 : decode zb_XPicture_drawTile 46 = .ok (.aload_n 0, 1) := by decide +kernel
theorem zd_XPicture_drawTile_47 : decode zb_XPicture_drawTile 47 = .ok (.aload_n 0, 1) := by decide +kernel
theorem zd_XPicture_drawTile_48 : decode zb_XPicture_drawTile 48 = .ok (.getfield 72, 3) := by decide +kernel
theorem zd_XPicture_drawTile_51 : decode zb_XPicture_drawTile 51 = .ok (.bipush 8, 2) := by decide +kernel
theorem zd_XPicture_drawTile_53 : decode zb_XPicture_drawTile 53 = .ok (.iadd, 1) := by decide +kernel
theorem zd_XPicture_drawTile_54 : decode zb_XPicture_drawTile 54 = .ok (.aload_n 0, 1) := by decide +kernel
theorem zd_XPicture_drawTile_55 : decode zb_XPicture_drawTile 55 = .ok (.getfield 32, 3) := by decide +kernel
theorem zd_XPicture_drawTile_58 : decode zb_XPicture_drawTile 58 = .ok (.invokestatic 75, 3) := by decide +kernel
theorem zd_XPicture_drawTile_61 : decode zb_XPicture_drawTile 61 = .ok (.iconst 1, 1) := by decide +kernel
theorem zd_XPicture_drawTile_62 : decode zb_XPicture_drawTile 62 = .ok (.isub, 1) := by decide +kernel
theorem zd_XPicture_drawTile_63 : decode zb_XPicture_drawTile 63 = .ok (.putfield 84, 3) := by decide +kernel
theorem zd_XPicture_drawTile_66 : decode zb_XPicture_drawTile 66 = .ok (.aload_n 0, 1) := by decide +kernel
theorem zd_XPicture_drawTile_67 : decode zb_XPicture_drawTile 67 = .ok (.invokevirtual 87, 3) := by decide +kernel
theorem zd_XPicture_drawTile_70 : decode zb_XPicture_drawTile 70 = .ok (.iconst 0, 1) := by decide +kernel
theorem zd_XPicture_drawTile_71 : decode zb_XPicture_drawTile 71 = .ok (.istore_n 2, 1) := by decide +kernel
theorem zd_XPicture_drawTile_72 : decode zb_XPicture_drawTile 72 = .ok (.iload_n 2, 1) := by decide +kernel
theorem zd_XPicture_drawTile_73 : decode zb_XPicture_drawTile 73 = .ok (.aload_n 0, 1) := by decide +kernel
theorem zd_XPicture_drawTile_74 : decode zb_XPicture_drawTile 74 = .ok (.getfield 62, 3) := by decide +kernel
theorem zd_XPicture_drawTile_77 : decode zb_XPicture_drawTile 77 = .ok (.if_icmp .ge 42, 3) := by decide +kernel
theorem zd_XPicture_drawTile_80 : decode zb_XPicture_drawTile 80 = .ok (.aload_n 0, 1) := by decide +kernel
theorem zd_XPicture_drawTile_81 : decode zb_XPicture_drawTile 81 = .ok (.getfield 24, 3) := by decide +kernel
theorem zd_XPicture_drawTile_84 : decode zb_XPicture_drawTile 84 = .ok (.aload_n 0, 1) := by decide +kernel
theorem zd_XPicture_drawTile_85 : decode zb_XPicture_drawTile 85 = .ok (.getfield 10, 3) := by decide +kernel
theorem zd_XPicture_drawTile_88 : decode zb_XPicture_drawTile 88 = .ok (.bipush 18, 2) := by decide +kernel
theorem zd_XPicture_drawTile_90 : decode zb_XPicture_drawTile 90 = .ok (.iload_n 2, 1) := by decide +kernel
theorem zd_XPicture_drawTile_91 : decode zb_XPicture_drawTile 91 = .ok (.imul, 1) := by decide +kernel
theorem zd_XPicture_drawTile_92 : decode zb_XPicture_drawTile 92 = .ok (.invokevirtual 90, 3) := by decide +kernel
theorem zd_XPicture_drawTile_95 : decode zb_XPicture_drawTile 95 = .ok (.aload_n 0, 1) := by decide +kernel
theorem zd_XPicture_drawTile_96 : decode zb_XPicture_drawTile 96 = .ok (.aload_n 0, 1) := by decide +kernel
theorem zd_XPicture_drawTile_97 : decode zb_XPicture_drawTile 97 = .ok (.getfield 47, 3) := by decide +kernel
theorem zd_XPicture_drawTile_100 : decode zb_XPicture_drawTile 100 = .ok (.getfield 93, 3) := by decide +kernel
theorem zd_XPicture_drawTile_103 : decode zb_XPicture_drawTile 103 = .ok (.aload_n 0, 1) := by decide +kernel
theorem zd_XPicture_drawTile_104 : decode zb_XPicture_drawTile 104 = .ok (.getfield 17, 3) := by decide +kernel
theorem zd_XPicture_drawTile_107 : decode zb_XPicture_drawTile 107 = .ok (.iload_n 2, 1) := by decide +kernel
theorem zd_XPicture_drawTile_108 : decode zb_XPicture_drawTile 108 = .ok (.baload, 1) := by decide +kernel
theorem zd_XPicture_drawTile_109 : decode zb_XPicture_drawTile 109 = .ok (.aaload, 1) := by decide +kernel
theorem zd_XPicture_drawTile_110 : decode zb_XPicture_drawTile 110 = .ok (.invokevirtual 99, 3) := by decide +kernel
theorem zd_XPicture_drawTile_113 : decode zb_XPicture_drawTile 113 = .ok (.iinc 2 1, 3) := by decide +kernel
theorem zd_XPicture_drawTile_116 : decode zb_XPicture_drawTile 116 = .ok (.goto (-44), 3) := by decide +kernel
theorem zd_XPicture_drawTile_119 : decode zb_XPicture_drawTile 119 = .ok (.aload_n 0, 1) := by decide +kernel
theorem zd_XPicture_drawTile_120 : decode zb_XPicture_drawTile 120 = .ok (.dup, 1) := by decide +kernel
theorem zd_XPicture_drawTile_121 : decode zb_XPicture_drawTile 121 = .ok (.getfield 58, 3) := by decide +kernel
theorem zd_XPicture_drawTile_124 : decode zb_XPicture_drawTile 124 = .ok (.lconst 1, 1) := by decide +kernel
theorem zd_XPicture_drawTile_125 : decode zb_XPicture_drawTile 125 = .ok (.iload_n 1, 1) := by decide +kernel
theorem zd_XPicture_drawTile_126 : decode zb_XPicture_drawTile 126 = .ok (.lshl, 1) := by decide +kernel
theorem zd_XPicture_drawTile_127 : decode zb_XPicture_drawTile 127 = .ok (.lor, 1) := by decide +kernel
theorem zd_XPicture_drawTile_128 : decode zb_XPicture_drawTile 128 = .ok (.putfield 58, 3) := by decide +kernel
theorem zd_XPicture_drawTile_131 : decode zb_XPicture_drawTile 131 = .ok (.return_, 1) := by decide +kernel
theorem zf_I_5_14 (b : Nat) (m : zMem) (k : Nat) (v : Int32) : (zfl b 5 m k).set 14 (.int v) = zfl b 5 (mI m k 14 v) k := by simp [zfl, mI, upd, vp_updL]
theorem zf_I_5_15 (b : Nat) (m : zMem) (k : Nat) (v : Int32) : (zfl b 5 m k).set 15 (.int v) = zfl b 5 (mI m k 15 v) k := by simp [zfl, mI, upd, vp_updL]
theorem zf_I_5_16 (b : Nat) (m : zMem) (k : Nat) (v : Int32) : (zfl b 5 m k).set 16 (.int v) = zfl b 5 (mI m k 16 v) k := by simp [zfl, mI, upd, vp_updL]
theorem zf_I_5_17 (b : Nat) (m : zMem) (k : Nat) (v : Int32) : (zfl b 5 m k).set 17 (.int v) = zfl b 5 (mI m k 17 v) k := by simp [zfl, mI, upd, vp_updL]
theorem zw_781 : (Jvm.Cond.methodLink "OrreryBox$Picture" (87 : Nat) ({ cls := "OrreryBox$Picture", name := "wipe", desc := "()V" } : Jvm.MethodName)) ∈ gw := gw_t 781 (by decide +kernel) rfl
theorem zw_783 : (Jvm.Cond.instanceMethod ({ cls := "OrreryBox$Picture", name := "wipe", desc := "()V" } : Jvm.MethodName)) ∈ gw := gw_t 783 (by decide +kernel) rfl
theorem zv_17 : (Jvm.Cond.selects "OrreryBox$Picture" (⟨"OrreryBox$Picture", "wipe", "()V"⟩ : MethodName) ⟨"OrreryBox$Picture", "wipe", "()V"⟩) ∈ gw := gw_s 17 (by decide +kernel) rfl
theorem zs_XPicture_87 : zwV "OrreryBox$Picture" 87 "OrreryBox$Picture" zy_XPicture_wipe zb_XPicture_wipe 3 none := ⟨zw_781, zw_783, zv_17, zw_12, zc_XPicture_wipe⟩
theorem zw_785 : (Jvm.Cond.methodLink "OrreryBox$Picture" (90 : Nat) ({ cls := "OrreryBox$Piece", name := "takeAt", desc := "([II)V" } : Jvm.MethodName)) ∈ gw := gw_t 785 (by decide +kernel) rfl
theorem zw_786 : (Jvm.Cond.instanceMethod ({ cls := "OrreryBox$Piece", name := "takeAt", desc := "([II)V" } : Jvm.MethodName)) ∈ gw := gw_t 786 (by decide +kernel) rfl
theorem zw_787 : (Jvm.Cond.selects "OrreryBox$Piece" ({ cls := "OrreryBox$Piece", name := "takeAt", desc := "([II)V" } : Jvm.MethodName) ({ cls := "OrreryBox$Piece", name := "takeAt", desc := "([II)V" } : Jvm.MethodName)) ∈ gw := gw_t 787 (by decide +kernel) rfl
theorem zs_XPicture_90 : zwV "OrreryBox$Picture" 90 "OrreryBox$Piece" zy_XPiece_takeAt zb_XPiece_takeAt 3 none := ⟨zw_785, zw_786, zw_787, zw_11, zc_XPiece_takeAt⟩
theorem zw_290 : (Jvm.Cond.fieldLink "OrreryBox$Picture" (93 : Nat) "OrreryBox$Scene" "materials" "[[I") ∈ gw := gw_t 290 (by decide +kernel) rfl
theorem zw_789 : (Jvm.Cond.methodLink "OrreryBox$Picture" (99 : Nat) ({ cls := "OrreryBox$Picture", name := "drawPiece", desc := "([I)V" } : Jvm.MethodName)) ∈ gw := gw_t 789 (by decide +kernel) rfl
theorem zw_791 : (Jvm.Cond.instanceMethod ({ cls := "OrreryBox$Picture", name := "drawPiece", desc := "([I)V" } : Jvm.MethodName)) ∈ gw := gw_t 791 (by decide +kernel) rfl
theorem zv_18 : (Jvm.Cond.selects "OrreryBox$Picture" (⟨"OrreryBox$Picture", "drawPiece", "([I)V"⟩ : MethodName) ⟨"OrreryBox$Picture", "drawPiece", "([I)V"⟩) ∈ gw := gw_s 18 (by decide +kernel) rfl
theorem zs_XPicture_99 : zwV "OrreryBox$Picture" 99 "OrreryBox$Picture" zy_XPicture_drawPiece zb_XPicture_drawPiece 12 none := ⟨zw_789, zw_791, zv_18, zw_12, zc_XPicture_drawPiece⟩
def L_XPicture_drawTile_72 (sh : zSh) (fuel : Nat) (v0 : Nat) (v1 : Int32) (v2 : Int32) (mm : zMem) : Option (Nat × Int32 × Int32 × zMem) := match fuel with
  | 0 => none
  | fu + 1 => zoS (sh v0) 5 (fun le37 => (if (mm.1 v0 10) ≤ v2 then some (v0, v1, v2, mm) else zoS (sh v0) 5 (fun le40 => Option.bind (mm.2.2 v0 11) (fun a41 => zoS (sh v0) 5 (fun le43 => Option.bind (mm.2.2 v0 8) (fun a44 => zoS (sh a41) 6 (fun le46 => Option.bind (F_XPiece_takeAt sh mm a41 a44 (18 * v2)) (fun p47 => zoS (sh v0) 5 (fun le49 => Option.bind (p47.2.2 v0 3) (fun a50 => zoS (sh a50) 8 (fun le52 => Option.bind (p47.2.2 a50 2) (fun a53 => zoS (sh v0) 5 (fun le55 => Option.bind (p47.2.2 v0 9) (fun a56 => zoS (sh a56) 101 (fun le58 => if (v2 : Int32) < 0 ∨ le58 ≤ (v2 : Int32).toNatClampNeg then none else zoL (p47.1 a56 (v2 : Int32).toNatClampNeg) (fun i60 => zoR (sh a53) (fun t64 le62 => if (i60 : Int32) < 0 ∨ le62 ≤ (i60 : Int32).toNatClampNeg then none else Option.bind (p47.2.2 a53 (i60 : Int32).toNatClampNeg) (fun a65 => zoS (sh v0) 5 (fun le67 => Option.bind (F_XPicture_drawPiece sh p47 v0 a65) (fun p68 => L_XPicture_drawTile_72 sh fu v0 v1 (v2 + 1) p68))))))))))))))))))))
set_option maxHeartbeats 4000000 in
set_option maxRecDepth 100000 in
theorem lp_XPicture_drawTile_72 {p : Program} {l : Launch} {e : Env} {s : State} {m : MethodId} {args : Array Value} {below : List Frame} {meth : Method} {c : Code} {D : va_G} {tA : Nat → ClassId} {b n : Nat} {post : Option Value → zV → Nat → Prop} {sh : zSh} (F : zF p s m args meth c zb_XPicture_drawTile 3 "OrreryBox$Picture" D tA b) : ∀ (fuel : Nat) (v0 : Nat) (v1 : Int32) (v2 : Int32) (mm : zMem) (r : Nat × Int32 × Int32 × zMem), L_XPicture_drawTile_72 sh fuel v0 v1 v2 mm = some r → (Z p l e { frames := 5, cells := 0, slots := 0, locals := 147 } s m args below meth c D b 3 (MQ below (zQ D b post) args s 0 0 (fun q => b ≤ q)) (zW tA b sh r.2.2.2) n 0 0 119 [(0, .ref (b + (r.1))), (1, .int (r.2.1)), (2, .int (r.2.2.1))] []) → Z p l e { frames := 5, cells := 0, slots := 0, locals := 147 } s m args below meth c D b 3 (MQ below (zQ D b post) args s 0 0 (fun q => b ≤ q)) (zW tA b sh mm) n 0 0 72 [(0, .ref (b + v0)), (1, .int v1), (2, .int v2)] [] := by
  intro fuel
  induction fuel with
  | zero =>
    intro v0 v1 v2 mm r h
    cases h
  | succ fu ih =>
    intro v0 v1 v2 mm r h hx0
    rw [L_XPicture_drawTile_72] at h
    refine zr_iload_n F zd_XPicture_drawTile_72 rfl ?_
    refine zr_aload_n F zd_XPicture_drawTile_73 rfl ?_
    obtain ⟨le37, hs36, h⟩ := zoS_s h
    refine zr_get F 5 10 zd_XPicture_drawTile_74 (zW_o hs36 (by decide)) rfl (by decide) zw_443 rfl (by rfl) ?_
    refine zr_icmp_ge F 119 zd_XPicture_drawTile_77 (by decide) (fun hb38 => ?_) (fun hb38 => ?_)
    ·
      rw [if_pos hb38] at h
      obtain rfl := Option.some.inj h
      refine zr_loc (L' := [(0, .ref (b + v0)), (1, .int v1), (2, .int v2)]) ⟨rfl, rfl, rfl, trivial⟩ ?_
      exact hx0 
    ·
      rw [if_neg hb38] at h
      refine zr_aload_n F zd_XPicture_drawTile_80 rfl ?_
      refine zr_pcn 81 rfl ?_
      obtain ⟨le40, hs39, h⟩ := zoS_s h
      obtain ⟨a41, ea41, h⟩ := zoB_s h
      refine zr_get F 5 11 zd_XPicture_drawTile_81 (zW_o hs39 (by decide)) rfl (by decide) zw_444 rfl (by rfl) ?_
      refine zr_tor ea41 ?_
      refine zr_aload_n F zd_XPicture_drawTile_84 rfl ?_
      obtain ⟨le43, hs42, h⟩ := zoS_s h
      obtain ⟨a44, ea44, h⟩ := zoB_s h
      refine zr_get F 5 8 zd_XPicture_drawTile_85 (zW_o hs42 (by decide)) rfl (by decide) zw_441 rfl (by rfl) ?_
      refine zr_tor ea44 ?_
      refine zr_bipushv (v := 18) F zd_XPicture_drawTile_88 (by decide) ?_
      refine zr_iload_n F zd_XPicture_drawTile_90 rfl ?_
      refine zr_imul F zd_XPicture_drawTile_91 ?_
      obtain ⟨le46, hs45, h⟩ := zoS_s h
      obtain ⟨p47, ep47, h⟩ := zoB_s h
      refine zr_callV0 F (k_XPiece_takeAt l D tA b sh _ ep47) zd_XPicture_drawTile_92 (zW_o hs45 (by decide)) rfl zs_XPicture_90 rfl zq_XPiece_takeAt rfl rfl ⟨(Nat.le_of_ble_eq_true rfl), (Nat.le_of_ble_eq_true rfl)⟩ (Nat.le_of_ble_eq_true rfl) ⟨(Nat.le_of_ble_eq_true rfl), (Nat.le_of_ble_eq_true rfl)⟩ ?_
      refine zr_aload_n F zd_XPicture_drawTile_95 rfl ?_
      refine zr_pcn 96 rfl ?_
      refine zr_aload_n F zd_XPicture_drawTile_96 rfl ?_
      obtain ⟨le49, hs48, h⟩ := zoS_s h
      obtain ⟨a50, ea50, h⟩ := zoB_s h
      refine zr_get F 5 3 zd_XPicture_drawTile_97 (zW_o hs48 (by decide)) rfl (by decide) zw_435 rfl (by rfl) ?_
      refine zr_tor ea50 ?_
      obtain ⟨le52, hs51, h⟩ := zoS_s h
      obtain ⟨a53, ea53, h⟩ := zoB_s h
      refine zr_get F 8 2 zd_XPicture_drawTile_100 (zW_o hs51 (by decide)) rfl (by decide) zw_290 rfl (by rfl) ?_
      refine zr_tor ea53 ?_
      refine zr_aload_n F zd_XPicture_drawTile_103 rfl ?_
      obtain ⟨le55, hs54, h⟩ := zoS_s h
      obtain ⟨a56, ea56, h⟩ := zoB_s h
      refine zr_get F 5 9 zd_XPicture_drawTile_104 (zW_o hs54 (by decide)) rfl (by decide) zw_442 rfl (by rfl) ?_
      refine zr_tor ea56 ?_
      refine zr_iload_n F zd_XPicture_drawTile_107 rfl ?_
      obtain ⟨le58, hs57, h⟩ := zoS_s h
      obtain ⟨hi59, h⟩ := zoI_s h
      refine zr_bald F zd_XPicture_drawTile_108 (zW_a1 hs57) hi59 ?_
      obtain ⟨i60, ei60, h⟩ := zoL_s h
      rw [← ei60]
      obtain ⟨t64, le62, hs61, h⟩ := zoR_s h
      obtain ⟨hi63, h⟩ := zoI_s h
      obtain ⟨a65, ea65, h⟩ := zoB_s h
      refine zr_aaldW F zd_XPicture_drawTile_109 hs61 hi63 ea65 ?_
      refine zr_pcn 110 rfl ?_
      obtain ⟨le67, hs66, h⟩ := zoS_s h
      obtain ⟨p68, ep68, h⟩ := zoB_s h
      refine zr_callV0 F (k_XPicture_drawPiece l D tA b sh _ ep68) zd_XPicture_drawTile_110 (zW_o hs66 (by decide)) rfl zs_XPicture_99 rfl zq_XPicture_drawPiece rfl rfl ⟨(Nat.le_of_ble_eq_true rfl), (Nat.le_of_ble_eq_true rfl)⟩ (Nat.le_of_ble_eq_true rfl) ⟨(Nat.le_of_ble_eq_true rfl), (Nat.le_of_ble_eq_true rfl)⟩ ?_
      refine zr_iinc (v := (v2 + 1)) F zd_XPicture_drawTile_113 rfl rfl (by decide) ?_
      refine zr_goto F 72 zd_XPicture_drawTile_116 (by decide) ?_
      refine zr_loc (L' := [(0, .ref (b + v0)), (1, .int v1), (2, .int (v2 + 1))]) ⟨rfl, rfl, rfl, trivial⟩ ?_
      exact ih _ _ _ _ _ h hx0
def F_XPicture_drawTile (sh : zSh) (mm : zMem) (o : Nat) (x0_ : Int32) : Option zMem := zoS (sh o) 5 (fun le2 => (if (mm.1 o 6) = 0 then none else zoL ((x0_ - x0_ / (mm.1 o 6) * (mm.1 o 6)) * 8) (fun x4 => zoS (sh o) 5 (fun le6 => zoL (mI mm o 14 x4) (fun mm7 => zoS (sh o) 5 (fun le9 => (if (mm7.1 o 6) = 0 then none else zoL ((x0_ / (mm7.1 o 6)) * 8) (fun x11 => zoS (sh o) 5 (fun le13 => zoL (mI mm7 o 15 x11) (fun mm14 => zoS (sh o) 5 (fun le16 => zoS (sh o) 5 (fun le18 => zoL ((zx_min ((mm14.1 o 14) + 8) (mm14.1 o 4)) - 1) (fun x20 => zoS (sh o) 5 (fun le22 => zoL (mI mm14 o 16 x20) (fun mm23 => zoS (sh o) 5 (fun le25 => zoS (sh o) 5 (fun le27 => zoL ((zx_min ((mm23.1 o 15) + 8) (mm23.1 o 5)) - 1) (fun x29 => zoS (sh o) 5 (fun le31 => zoL (mI mm23 o 17 x29) (fun mm32 => zoS (sh o) 5 (fun le34 => Option.bind (F_XPicture_wipe sh mm32 o) (fun p35 => Option.bind (L_XPicture_drawTile_72 sh zfuel o x0_ 0 p35) (fun q69 => zoS (sh (q69.1)) 5 (fun le71 => zoL (((q69.2.2.2).2.1 (q69.1) 13) ||| (1 <<< ((q69.2.1 : Int32).toInt64 &&& 63))) (fun x72 => zoS (sh (q69.1)) 5 (fun le74 => zoL (mL (q69.2.2.2) (q69.1) 13 x72) (fun mm75 => some mm75)))))))))))))))))))))))))))
set_option maxHeartbeats 4000000 in
set_option maxRecDepth 100000 in
theorem k_XPicture_drawTile (l : Launch) (D : va_G) (tA : Nat → ClassId) (b : Nat) (sh : zSh) (n : Nat) {mm : zMem} {o : Nat} {x0_ : Int32} {r : zMem} (h : F_XPicture_drawTile sh mm o x0_ = some r) : zM l D tA b zy_XPicture_drawTile zb_XPicture_drawTile 3 none 5 147 0 0 [.ref (b + o), .int x0_] (zW tA b sh mm) n (zE none (zW tA b sh r) n) := by
  unfold F_XPicture_drawTile at h
  refine zM_of (own := "OrreryBox$Picture") (plainFor_of_name (by decide)) rfl (Nat.le_of_ble_eq_true rfl) (fun p e s m below meth c F hr hin hH => ?_)
  refine zr_aload_n F zd_XPicture_drawTile_0 rfl ?_
  refine zr_iload_n F zd_XPicture_drawTile_1 rfl ?_
  refine zr_aload_n F zd_XPicture_drawTile_2 rfl ?_
  obtain ⟨le2, hs1, h⟩ := zoS_s h
  refine zr_get F 5 6 zd_XPicture_drawTile_3 (zW_o hs1 (by decide)) rfl (by decide) zw_439 rfl (by rfl) ?_
  obtain ⟨hn3, h⟩ := zoI_s h
  refine zr_irem F zd_XPicture_drawTile_6 hn3 ?_
  refine zr_bipushv (v := 8) F zd_XPicture_drawTile_7 (by decide) ?_
  refine zr_imul F zd_XPicture_drawTile_9 ?_
  refine zr_pcn 10 rfl ?_
  obtain ⟨x4, ex4, h⟩ := zoL_s h
  rw [← ex4]
  obtain ⟨le6, hs5, h⟩ := zoS_s h
  refine zr_put F 5 14 zd_XPicture_drawTile_10 (zW_o hs5 (by decide)) rfl (by decide) zw_447 rfl rfl rfl rfl (by exact (Nat.le_of_ble_eq_true rfl)) ?_
  obtain ⟨mm7, emm7, h⟩ := zoL_s h
  refine zr_norm (zW tA b sh mm7) _ (by rw [emm7]; exact zW_pI (v := x4) hs5 (by decide) (zf_I_5_14 b _ _ _)) rfl ?_
  refine zr_aload_n F zd_XPicture_drawTile_13 rfl ?_
  refine zr_iload_n F zd_XPicture_drawTile_14 rfl ?_
  refine zr_aload_n F zd_XPicture_drawTile_15 rfl ?_
  obtain ⟨le9, hs8, h⟩ := zoS_s h
  refine zr_get F 5 6 zd_XPicture_drawTile_16 (zW_o hs8 (by decide)) rfl (by decide) zw_439 rfl (by rfl) ?_
  obtain ⟨hn10, h⟩ := zoI_s h
  refine zr_idiv F zd_XPicture_drawTile_19 hn10 ?_
  refine zr_bipushv (v := 8) F zd_XPicture_drawTile_20 (by decide) ?_
  refine zr_imul F zd_XPicture_drawTile_22 ?_
  refine zr_pcn 23 rfl ?_
  obtain ⟨x11, ex11, h⟩ := zoL_s h
  rw [← ex11]
  obtain ⟨le13, hs12, h⟩ := zoS_s h
  refine zr_put F 5 15 zd_XPicture_drawTile_23 (zW_o hs12 (by decide)) rfl (by decide) zw_448 rfl rfl rfl rfl (by exact (Nat.le_of_ble_eq_true rfl)) ?_
  obtain ⟨mm14, emm14, h⟩ := zoL_s h
  refine zr_norm (zW tA b sh mm14) _ (by rw [emm14]; exact zW_pI (v := x11) hs12 (by decide) (zf_I_5_15 b _ _ _)) rfl ?_
  refine zr_aload_n F zd_XPicture_drawTile_26 rfl ?_
  refine zr_aload_n F zd_XPicture_drawTile_27 rfl ?_
  obtain ⟨le16, hs15, h⟩ := zoS_s h
  refine zr_get F 5 14 zd_XPicture_drawTile_28 (zW_o hs15 (by decide)) rfl (by decide) zw_447 rfl (by rfl) ?_
  refine zr_bipushv (v := 8) F zd_XPicture_drawTile_31 (by decide) ?_
  refine zr_iadd F zd_XPicture_drawTile_33 ?_
  refine zr_aload_n F zd_XPicture_drawTile_34 rfl ?_
  obtain ⟨le18, hs17, h⟩ := zoS_s h
  refine zr_get F 5 4 zd_XPicture_drawTile_35 (zW_o hs17 (by decide)) rfl (by decide) zw_437 rfl (by rfl) ?_
  refine zr_pcn 38 rfl ?_
  refine zr_callS1 F (c_JMath_min l D tA b _ _ ((mm14.1 o 14) + 8) (mm14.1 o 4)) zd_XPicture_drawTile_38 zs_XPicture_75 zq_JMath_min rfl rfl ⟨(Nat.le_of_ble_eq_true rfl), (Nat.le_of_ble_eq_true rfl)⟩ (Nat.le_of_ble_eq_true rfl) ⟨(Nat.le_of_ble_eq_true rfl), (Nat.le_of_ble_eq_true rfl)⟩ ?_
  refine zr_iconstv (v := 1) F zd_XPicture_drawTile_41 (by decide) ?_
  refine zr_isub F zd_XPicture_drawTile_42 ?_
  obtain ⟨x20, ex20, h⟩ := zoL_s h
  rw [← ex20]
  obtain ⟨le22, hs21, h⟩ := zoS_s h
  refine zr_put F 5 16 zd_XPicture_drawTile_43 (zW_o hs21 (by decide)) rfl (by decide) zw_449 rfl rfl rfl rfl (by exact (Nat.le_of_ble_eq_true rfl)) ?_
  obtain ⟨mm23, emm23, h⟩ := zoL_s h
  refine zr_norm (zW tA b sh mm23) _ (by rw [emm23]; exact zW_pI (v := x20) hs21 (by decide) (zf_I_5_16 b _ _ _)) rfl ?_
  refine zr_aload_n F zd_XPicture_drawTile_46 rfl ?_
  refine zr_aload_n F zd_XPicture_drawTile_47 rfl ?_
  obtain ⟨le25, hs24, h⟩ := zoS_s h
  refine zr_get F 5 15 zd_XPicture_drawTile_48 (zW_o hs24 (by decide)) rfl (by decide) zw_448 rfl (by rfl) ?_
  refine zr_bipushv (v := 8) F zd_XPicture_drawTile_51 (by decide) ?_
  refine zr_pcn 53 rfl ?_
  refine zr_iadd F zd_XPicture_drawTile_53 ?_
  refine zr_aload_n F zd_XPicture_drawTile_54 rfl ?_
  obtain ⟨le27, hs26, h⟩ := zoS_s h
  refine zr_get F 5 5 zd_XPicture_drawTile_55 (zW_o hs26 (by decide)) rfl (by decide) zw_438 rfl (by rfl) ?_
  refine zr_callS1 F (c_JMath_min l D tA b _ _ ((mm23.1 o 15) + 8) (mm23.1 o 5)) zd_XPicture_drawTile_58 zs_XPicture_75 zq_JMath_min rfl rfl ⟨(Nat.le_of_ble_eq_true rfl), (Nat.le_of_ble_eq_true rfl)⟩ (Nat.le_of_ble_eq_true rfl) ⟨(Nat.le_of_ble_eq_true rfl), (Nat.le_of_ble_eq_true rfl)⟩ ?_
  refine zr_iconstv (v := 1) F zd_XPicture_drawTile_61 (by decide) ?_
  refine zr_isub F zd_XPicture_drawTile_62 ?_
  obtain ⟨x29, ex29, h⟩ := zoL_s h
  rw [← ex29]
  obtain ⟨le31, hs30, h⟩ := zoS_s h
  refine zr_put F 5 17 zd_XPicture_drawTile_63 (zW_o hs30 (by decide)) rfl (by decide) zw_450 rfl rfl rfl rfl (by exact (Nat.le_of_ble_eq_true rfl)) ?_
  obtain ⟨mm32, emm32, h⟩ := zoL_s h
  refine zr_norm (zW tA b sh mm32) _ (by rw [emm32]; exact zW_pI (v := x29) hs30 (by decide) (zf_I_5_17 b _ _ _)) rfl ?_
  refine zr_aload_n F zd_XPicture_drawTile_66 rfl ?_
  refine zr_pcn 67 rfl ?_
  obtain ⟨le34, hs33, h⟩ := zoS_s h
  obtain ⟨p35, ep35, h⟩ := zoB_s h
  refine zr_callV0 F (k_XPicture_wipe l D tA b sh _ ep35) zd_XPicture_drawTile_67 (zW_o hs33 (by decide)) rfl zs_XPicture_87 rfl zq_XPicture_wipe rfl rfl ⟨(Nat.le_of_ble_eq_true rfl), (Nat.le_of_ble_eq_true rfl)⟩ (Nat.le_of_ble_eq_true rfl) ⟨(Nat.le_of_ble_eq_true rfl), (Nat.le_of_ble_eq_true rfl)⟩ ?_
  refine zr_iconstv (v := 0) F zd_XPicture_drawTile_70 (by decide) ?_
  refine zr_istore_n F zd_XPicture_drawTile_71 (by decide) ?_
  obtain ⟨q69, eq69, h⟩ := zoB_s h
  refine zr_loc (L' := [(0, .ref (b + o)), (1, .int x0_), (2, .int 0)]) ⟨rfl, rfl, rfl, trivial⟩ ?_
  refine lp_XPicture_drawTile_72 F _ _ _ _ _ _ eq69 ?_
  ·
    refine zr_aload_n F zd_XPicture_drawTile_119 rfl ?_
    refine zr_dup F zd_XPicture_drawTile_120 rfl ?_
    obtain ⟨le71, hs70, h⟩ := zoS_s h
    refine zr_get F 5 13 zd_XPicture_drawTile_121 (zW_o hs70 (by decide)) rfl (by decide) zw_446 rfl (by rfl) ?_
    refine zr_lconstv (v := 1) F zd_XPicture_drawTile_124 (by decide) ?_
    refine zr_iload_n F zd_XPicture_drawTile_125 rfl ?_
    refine zr_pcn 126 rfl ?_
    refine zr_lshl F zd_XPicture_drawTile_126 ?_
    refine zr_lor F zd_XPicture_drawTile_127 ?_
    obtain ⟨x72, ex72, h⟩ := zoL_s h
    rw [← ex72]
    obtain ⟨le74, hs73, h⟩ := zoS_s h
    refine zr_put F 5 13 zd_XPicture_drawTile_128 (zW_o hs73 (by decide)) rfl (by decide) zw_446 rfl rfl rfl rfl (by exact (Nat.le_of_ble_eq_true rfl)) ?_
    obtain ⟨mm75, emm75, h⟩ := zoL_s h
    refine zr_norm (zW tA b sh mm75) _ (by rw [emm75]; exact zW_pL (v := x72) hs73 (by decide) (zf_L_5_13 b _ _ _)) rfl ?_
    obtain rfl := Option.some.inj h
    exact zr_vret F hr zd_XPicture_drawTile_131 (Nat.le_of_ble_eq_true rfl) (Nat.le_of_ble_eq_true rfl) ⟨rfl, rfl, rfl⟩
theorem zf_R_7_3 (b : Nat) (m : zMem) (k : Nat) (v : Option Nat) : (zfl b 7 m k).set 3 (zrf b v) = zfl b 7 (mR m k 3 v) k := by simp [zfl, mR, upd, vp_updL]
theorem zf_I_7_4 (b : Nat) (m : zMem) (k : Nat) (v : Int32) : (zfl b 7 m k).set 4 (.int v) = zfl b 7 (mI m k 4 v) k := by simp [zfl, mI, upd, vp_updL]
theorem zf_R_7_7 (b : Nat) (m : zMem) (k : Nat) (v : Option Nat) : (zfl b 7 m k).set 7 (zrf b v) = zfl b 7 (mR m k 7 v) k := by simp [zfl, mR, upd, vp_updL]
theorem zw_1160 : (Jvm.Cond.methodLink "OrreryBox$Reader" (53 : Nat) ({ cls := "OrreryBox$Reader", name := "wordOf", desc := "(I)Ljava/lang/String;" } : Jvm.MethodName)) ∈ gw := gw_t 1160 (by decide +kernel) rfl
theorem zw_1161 : (Jvm.Cond.static ({ cls := "OrreryBox$Reader", name := "wordOf", desc := "(I)Ljava/lang/String;" } : Jvm.MethodName)) ∈ gw := gw_t 1161 (by decide +kernel) rfl
theorem zs_XReader_53 : zwS "OrreryBox$Reader" 53 zy_XReader_wordOf zb_XReader_wordOf 1 (some (.object "java/lang/String")) := ⟨zw_1160, zw_1161, zw_2, zc_XReader_wordOf⟩
theorem zw_1219 : (Jvm.Cond.methodLink "OrreryBox$Reader" (71 : Nat) ({ cls := "OrreryBox$Reader", name := "readThings", desc := "(I)V" } : Jvm.MethodName)) ∈ gw := gw_t 1219 (by decide +kernel) rfl
theorem zw_1221 : (Jvm.Cond.instanceMethod ({ cls := "OrreryBox$Reader", name := "readThings", desc := "(I)V" } : Jvm.MethodName)) ∈ gw := gw_t 1221 (by decide +kernel) rfl
theorem zv_60 : (Jvm.Cond.selects "OrreryBox$Reader" (⟨"OrreryBox$Reader", "readThings", "(I)V"⟩ : MethodName) ⟨"OrreryBox$Reader", "readThings", "(I)V"⟩) ∈ gw := gw_s 60 (by decide +kernel) rfl
theorem zs_XReader_71 : zwV "OrreryBox$Reader" 71 "OrreryBox$Reader" zy_XReader_readThings zb_XReader_readThings 4 none := ⟨zw_1219, zw_1221, zv_60, zw_2, zc_XReader_readThings⟩
theorem zw_1211 : (Jvm.Cond.methodLink "OrreryBox$Reader" (68 : Nat) ({ cls := "OrreryBox$Reader", name := "readLight", desc := "()V" } : Jvm.MethodName)) ∈ gw := gw_t 1211 (by decide +kernel) rfl
theorem zw_1213 : (Jvm.Cond.instanceMethod ({ cls := "OrreryBox$Reader", name := "readLight", desc := "()V" } : Jvm.MethodName)) ∈ gw := gw_t 1213 (by decide +kernel) rfl
theorem zv_59 : (Jvm.Cond.selects "OrreryBox$Reader" (⟨"OrreryBox$Reader", "readLight", "()V"⟩ : MethodName) ⟨"OrreryBox$Reader", "readLight", "()V"⟩) ∈ gw := gw_s 59 (by decide +kernel) rfl
theorem zs_XReader_68 : zwV "OrreryBox$Reader" 68 "OrreryBox$Reader" zy_XReader_readLight zb_XReader_readLight 1 none := ⟨zw_1211, zw_1213, zv_59, zw_2, zc_XReader_readLight⟩
theorem zw_1180 : (Jvm.Cond.methodLink "OrreryBox$Reader" (65 : Nat) ({ cls := "OrreryBox$Reader", name := "readCamera", desc := "()V" } : Jvm.MethodName)) ∈ gw := gw_t 1180 (by decide +kernel) rfl
theorem zw_1182 : (Jvm.Cond.instanceMethod ({ cls := "OrreryBox$Reader", name := "readCamera", desc := "()V" } : Jvm.MethodName)) ∈ gw := gw_t 1182 (by decide +kernel) rfl
theorem zv_54 : (Jvm.Cond.selects "OrreryBox$Reader" (⟨"OrreryBox$Reader", "readCamera", "()V"⟩ : MethodName) ⟨"OrreryBox$Reader", "readCamera", "()V"⟩) ∈ gw := gw_s 54 (by decide +kernel) rfl
theorem zs_XReader_65 : zwV "OrreryBox$Reader" 65 "OrreryBox$Reader" zy_XReader_readCamera zb_XReader_readCamera 1 none := ⟨zw_1180, zw_1182, zv_54, zw_2, zc_XReader_readCamera⟩
def L_XReader_read_67 (sh : zSh) (fuel : Nat) (v0 : Nat) (v4 : Int32) (v5 : Int32) (mm : zMem) : Option (Nat × Int32 × Int32 × zMem) := match fuel with
  | 0 => none
  | fu + 1 => (if 6 < v5 then some (v0, v4, v5, mm) else (if v4 = 0 then some (v0, v4, v5, mm) else Option.bind (F_XReader_wordOf sh mm v5) (fun p37 => zoS (sh v0) 7 (fun le39 => Option.bind (F_XReader_seesWord sh (p37.2) v0 (p37.1)) (fun p40 => (if p40.1 = 0 then L_XReader_read_67 sh fu v0 v4 (v5 + 1) (p40.2) else Option.bind (F_XReader_wordOf sh (p40.2) v5) (fun p42 => zoS (sh v0) 7 (fun le44 => Option.bind (F_XReader_needName sh (p42.2) v0 (p42.1)) (fun p45 => (if v5 = 5 then zoS (sh v0) 7 (fun le65 => Option.bind (F_XReader_readCamera sh p45 v0) (fun p66 => (if 6 ≤ v5 then L_XReader_read_67 sh fu v0 0 (v5 + 1) p66 else zoS (sh v0) 7 (fun le69 => Option.bind (F_XReader_takes sh p66 v0 44) (fun p70 => (if p70.1 = 0 then L_XReader_read_67 sh fu v0 0 (v5 + 1) (p70.2) else L_XReader_read_67 sh fu v0 1 (v5 + 1) (p70.2))))))) else (if v5 = 6 then zoS (sh v0) 7 (fun le57 => Option.bind (F_XReader_readLight sh p45 v0) (fun p58 => (if 6 ≤ v5 then L_XReader_read_67 sh fu v0 0 (v5 + 1) p58 else zoS (sh v0) 7 (fun le61 => Option.bind (F_XReader_takes sh p58 v0 44) (fun p62 => (if p62.1 = 0 then L_XReader_read_67 sh fu v0 0 (v5 + 1) (p62.2) else L_XReader_read_67 sh fu v0 1 (v5 + 1) (p62.2))))))) else zoS (sh v0) 7 (fun le49 => Option.bind (F_XReader_readThings sh p45 v0 v5) (fun p50 => (if 6 ≤ v5 then L_XReader_read_67 sh fu v0 0 (v5 + 1) p50 else zoS (sh v0) 7 (fun le53 => Option.bind (F_XReader_takes sh p50 v0 44) (fun p54 => (if p54.1 = 0 then L_XReader_read_67 sh fu v0 0 (v5 + 1) (p54.2) else L_XReader_read_67 sh fu v0 1 (v5 + 1) (p54.2))))))))))))))))))
set_option maxHeartbeats 4000000 in
set_option maxRecDepth 100000 in
theorem lp_XReader_read_67 {p : Program} {l : Launch} {e : Env} {s : State} {m : MethodId} {args : Array Value} {below : List Frame} {meth : Method} {c : Code} {D : va_G} {tA : Nat → ClassId} {b n : Nat} {post : Option Value → zV → Nat → Prop} {sh : zSh} (F : zF p s m args meth c zb_XReader_read 6 "OrreryBox$Reader" D tA b) : ∀ (fuel : Nat) (v0 : Nat) (v4 : Int32) (v5 : Int32) (mm : zMem) (r : Nat × Int32 × Int32 × zMem), L_XReader_read_67 sh fuel v0 v4 v5 mm = some r → (Z p l e { frames := 9, cells := 0, slots := 0, locals := 205 } s m args below meth c D b 6 (MQ below (zQ D b post) args s 0 0 (fun q => b ≤ q)) (zW tA b sh r.2.2.2) n 0 0 165 [(0, .ref (b + (r.1))), (4, .int (r.2.1)), (5, .int (r.2.2.1))] []) → Z p l e { frames := 9, cells := 0, slots := 0, locals := 205 } s m args below meth c D b 6 (MQ below (zQ D b post) args s 0 0 (fun q => b ≤ q)) (zW tA b sh mm) n 0 0 67 [(0, .ref (b + v0)), (4, .int v4), (5, .int v5)] [] := by
  intro fuel
  induction fuel with
  | zero =>
    intro v0 v4 v5 mm r h
    cases h
  | succ fu ih =>
    intro v0 v4 v5 mm r h hx0
    rw [L_XReader_read_67] at h
    refine zr_iload F zd_XReader_read_67 rfl ?_
    refine zr_bipushv (v := 6) F zd_XReader_read_69 (by decide) ?_
    refine zr_icmp_gt F 165 zd_XReader_read_71 (by decide) (fun hb35 => ?_) (fun hb35 => ?_)
    ·
      rw [if_pos hb35] at h
      obtain rfl := Option.some.inj h
      refine zr_loc (L' := [(0, .ref (b + v0)), (4, .int v4), (5, .int v5)]) ⟨rfl, rfl, rfl, trivial⟩ ?_
      exact hx0 
    ·
      rw [if_neg hb35] at h
      refine zr_iload F zd_XReader_read_74 rfl ?_
      refine zr_pcn 76 rfl ?_
      refine zr_if_eq F 165 zd_XReader_read_76 (by decide) (fun hb36 => ?_) (fun hb36 => ?_)
      ·
        rw [if_pos hb36] at h
        obtain rfl := Option.some.inj h
        refine zr_loc (L' := [(0, .ref (b + v0)), (4, .int v4), (5, .int v5)]) ⟨rfl, rfl, rfl, trivial⟩ ?_
        exact hx0 
      ·
        rw [if_neg hb36] at h
        refine zr_aload_n F zd_XReader_read_79 rfl ?_
        refine zr_iload F zd_XReader_read_80 rfl ?_
        obtain ⟨p37, ep37, h⟩ := zoB_s h
        refine zr_callS1 F (k_XReader_wordOf l D tA b sh _ ep37) zd_XReader_read_82 zs_XReader_53 zq_XReader_wordOf rfl rfl ⟨(Nat.le_of_ble_eq_true rfl), (Nat.le_of_ble_eq_true rfl)⟩ (Nat.le_of_ble_eq_true rfl) ⟨(Nat.le_of_ble_eq_true rfl), (Nat.le_of_ble_eq_true rfl)⟩ ?_
        obtain ⟨le39, hs38, h⟩ := zoS_s h
        obtain ⟨p40, ep40, h⟩ := zoB_s h
        refine zr_callV1 F (k_XReader_seesWord l D tA b sh _ ep40) zd_XReader_read_85 (zW_o hs38 (by decide)) rfl zs_XReader_57 rfl zq_XReader_seesWord rfl rfl ⟨(Nat.le_of_ble_eq_true rfl), (Nat.le_of_ble_eq_true rfl)⟩ (Nat.le_of_ble_eq_true rfl) ⟨(Nat.le_of_ble_eq_true rfl), (Nat.le_of_ble_eq_true rfl)⟩ ?_
        refine zr_if_ne F 94 zd_XReader_read_88 (by decide) (fun hb41 => ?_) (fun hb41 => ?_)
        ·
          rw [if_neg hb41] at h
          refine zr_aload_n F zd_XReader_read_94 rfl ?_
          refine zr_iload F zd_XReader_read_95 rfl ?_
          refine zr_pcn 97 rfl ?_
          obtain ⟨p42, ep42, h⟩ := zoB_s h
          refine zr_callS1 F (k_XReader_wordOf l D tA b sh _ ep42) zd_XReader_read_97 zs_XReader_53 zq_XReader_wordOf rfl rfl ⟨(Nat.le_of_ble_eq_true rfl), (Nat.le_of_ble_eq_true rfl)⟩ (Nat.le_of_ble_eq_true rfl) ⟨(Nat.le_of_ble_eq_true rfl), (Nat.le_of_ble_eq_true rfl)⟩ ?_
          obtain ⟨le44, hs43, h⟩ := zoS_s h
          obtain ⟨p45, ep45, h⟩ := zoB_s h
          refine zr_callV0 F (k_XReader_needName l D tA b sh _ ep45) zd_XReader_read_100 (zW_o hs43 (by decide)) rfl zs_XReader_61 rfl zq_XReader_needName rfl rfl ⟨(Nat.le_of_ble_eq_true rfl), (Nat.le_of_ble_eq_true rfl)⟩ (Nat.le_of_ble_eq_true rfl) ⟨(Nat.le_of_ble_eq_true rfl), (Nat.le_of_ble_eq_true rfl)⟩ ?_
          refine zr_iload F zd_XReader_read_103 rfl ?_
          refine zr_iconstv (v := 5) F zd_XReader_read_105 (by decide) ?_
          refine zr_icmp_ne F 116 zd_XReader_read_106 (by decide) (fun hb46 => ?_) (fun hb46 => ?_)
          ·
            rw [if_neg hb46] at h
            refine zr_iload F zd_XReader_read_116 rfl ?_
            refine zr_bipushv (v := 6) F zd_XReader_read_118 (by decide) ?_
            refine zr_icmp_ne F 130 zd_XReader_read_120 (by decide) (fun hb47 => ?_) (fun hb47 => ?_)
            ·
              rw [if_neg hb47] at h
              refine zr_pcn 130 rfl ?_
              refine zr_aload_n F zd_XReader_read_130 rfl ?_
              refine zr_iload F zd_XReader_read_131 rfl ?_
              obtain ⟨le49, hs48, h⟩ := zoS_s h
              obtain ⟨p50, ep50, h⟩ := zoB_s h
              refine zr_callV0 F (k_XReader_readThings l D tA b sh _ ep50) zd_XReader_read_133 (zW_o hs48 (by decide)) rfl zs_XReader_71 rfl zq_XReader_readThings rfl rfl ⟨(Nat.le_of_ble_eq_true rfl), (Nat.le_of_ble_eq_true rfl)⟩ (Nat.le_of_ble_eq_true rfl) ⟨(Nat.le_of_ble_eq_true rfl), (Nat.le_of_ble_eq_true rfl)⟩ ?_
              refine zr_iload F zd_XReader_read_136 rfl ?_
              refine zr_bipushv (v := 6) F zd_XReader_read_138 (by decide) ?_
              refine zr_icmp_ge F 156 zd_XReader_read_140 (by decide) (fun hb51 => ?_) (fun hb51 => ?_)
              ·
                rw [if_pos hb51] at h
                refine zr_iconstv (v := 0) F zd_XReader_read_156 (by decide) ?_
                refine zr_istore F zd_XReader_read_157 (by decide) ?_
                refine zr_pcn 159 rfl ?_
                refine zr_iinc (v := (v5 + 1)) F zd_XReader_read_159 rfl rfl (by decide) ?_
                refine zr_goto F 67 zd_XReader_read_162 (by decide) ?_
                refine zr_loc (L' := [(0, .ref (b + v0)), (4, .int 0), (5, .int (v5 + 1))]) ⟨rfl, rfl, rfl, trivial⟩ ?_
                exact ih _ _ _ _ _ h hx0
              ·
                rw [if_neg hb51] at h
                refine zr_aload_n F zd_XReader_read_143 rfl ?_
                refine zr_bipushv (v := 44) F zd_XReader_read_144 (by decide) ?_
                obtain ⟨le53, hs52, h⟩ := zoS_s h
                obtain ⟨p54, ep54, h⟩ := zoB_s h
                refine zr_callV1 F (k_XReader_takes l D tA b sh _ ep54) zd_XReader_read_146 (zW_o hs52 (by decide)) rfl zs_XReader_74 rfl zq_XReader_takes rfl rfl ⟨(Nat.le_of_ble_eq_true rfl), (Nat.le_of_ble_eq_true rfl)⟩ (Nat.le_of_ble_eq_true rfl) ⟨(Nat.le_of_ble_eq_true rfl), (Nat.le_of_ble_eq_true rfl)⟩ ?_
                refine zr_if_eq F 156 zd_XReader_read_149 (by decide) (fun hb55 => ?_) (fun hb55 => ?_)
                ·
                  rw [if_pos hb55] at h
                  refine zr_iconstv (v := 0) F zd_XReader_read_156 (by decide) ?_
                  refine zr_istore F zd_XReader_read_157 (by decide) ?_
                  refine zr_pcn 159 rfl ?_
                  refine zr_iinc (v := (v5 + 1)) F zd_XReader_read_159 rfl rfl (by decide) ?_
                  refine zr_goto F 67 zd_XReader_read_162 (by decide) ?_
                  refine zr_loc (L' := [(0, .ref (b + v0)), (4, .int 0), (5, .int (v5 + 1))]) ⟨rfl, rfl, rfl, trivial⟩ ?_
                  exact ih _ _ _ _ _ h hx0
                ·
                  rw [if_neg hb55] at h
                  refine zr_iconstv (v := 1) F zd_XReader_read_152 (by decide) ?_
                  refine zr_goto F 157 zd_XReader_read_153 (by decide) ?_
                  refine zr_istore F zd_XReader_read_157 (by decide) ?_
                  refine zr_iinc (v := (v5 + 1)) F zd_XReader_read_159 rfl rfl (by decide) ?_
                  refine zr_goto F 67 zd_XReader_read_162 (by decide) ?_
                  refine zr_loc (L' := [(0, .ref (b + v0)), (4, .int 1), (5, .int (v5 + 1))]) ⟨rfl, rfl, rfl, trivial⟩ ?_
                  exact ih _ _ _ _ _ h hx0
            ·
              rw [if_pos hb47] at h
              refine zr_aload_n F zd_XReader_read_123 rfl ?_
              refine zr_pcn 124 rfl ?_
              obtain ⟨le57, hs56, h⟩ := zoS_s h
              obtain ⟨p58, ep58, h⟩ := zoB_s h
              refine zr_callV0 F (k_XReader_readLight l D tA b sh _ ep58) zd_XReader_read_124 (zW_o hs56 (by decide)) rfl zs_XReader_68 rfl zq_XReader_readLight rfl rfl ⟨(Nat.le_of_ble_eq_true rfl), (Nat.le_of_ble_eq_true rfl)⟩ (Nat.le_of_ble_eq_true rfl) ⟨(Nat.le_of_ble_eq_true rfl), (Nat.le_of_ble_eq_true rfl)⟩ ?_
              refine zr_goto F 136 zd_XReader_read_127 (by decide) ?_
              refine zr_iload F zd_XReader_read_136 rfl ?_
              refine zr_bipushv (v := 6) F zd_XReader_read_138 (by decide) ?_
              refine zr_icmp_ge F 156 zd_XReader_read_140 (by decide) (fun hb59 => ?_) (fun hb59 => ?_)
              ·
                rw [if_pos hb59] at h
                refine zr_iconstv (v := 0) F zd_XReader_read_156 (by decide) ?_
                refine zr_istore F zd_XReader_read_157 (by decide) ?_
                refine zr_iinc (v := (v5 + 1)) F zd_XReader_read_159 rfl rfl (by decide) ?_
                refine zr_pcn 162 rfl ?_
                refine zr_goto F 67 zd_XReader_read_162 (by decide) ?_
                refine zr_loc (L' := [(0, .ref (b + v0)), (4, .int 0), (5, .int (v5 + 1))]) ⟨rfl, rfl, rfl, trivial⟩ ?_
                exact ih _ _ _ _ _ h hx0
              ·
                rw [if_neg hb59] at h
                refine zr_aload_n F zd_XReader_read_143 rfl ?_
                refine zr_bipushv (v := 44) F zd_XReader_read_144 (by decide) ?_
                obtain ⟨le61, hs60, h⟩ := zoS_s h
                obtain ⟨p62, ep62, h⟩ := zoB_s h
                refine zr_callV1 F (k_XReader_takes l D tA b sh _ ep62) zd_XReader_read_146 (zW_o hs60 (by decide)) rfl zs_XReader_74 rfl zq_XReader_takes rfl rfl ⟨(Nat.le_of_ble_eq_true rfl), (Nat.le_of_ble_eq_true rfl)⟩ (Nat.le_of_ble_eq_true rfl) ⟨(Nat.le_of_ble_eq_true rfl), (Nat.le_of_ble_eq_true rfl)⟩ ?_
                refine zr_if_eq F 156 zd_XReader_read_149 (by decide) (fun hb63 => ?_) (fun hb63 => ?_)
                ·
                  rw [if_pos hb63] at h
                  refine zr_iconstv (v := 0) F zd_XReader_read_156 (by decide) ?_
                  refine zr_istore F zd_XReader_read_157 (by decide) ?_
                  refine zr_iinc (v := (v5 + 1)) F zd_XReader_read_159 rfl rfl (by decide) ?_
                  refine zr_pcn 162 rfl ?_
                  refine zr_goto F 67 zd_XReader_read_162 (by decide) ?_
                  refine zr_loc (L' := [(0, .ref (b + v0)), (4, .int 0), (5, .int (v5 + 1))]) ⟨rfl, rfl, rfl, trivial⟩ ?_
                  exact ih _ _ _ _ _ h hx0
                ·
                  rw [if_neg hb63] at h
                  refine zr_iconstv (v := 1) F zd_XReader_read_152 (by decide) ?_
                  refine zr_goto F 157 zd_XReader_read_153 (by decide) ?_
                  refine zr_istore F zd_XReader_read_157 (by decide) ?_
                  refine zr_iinc (v := (v5 + 1)) F zd_XReader_read_159 rfl rfl (by decide) ?_
                  refine zr_goto F 67 zd_XReader_read_162 (by decide) ?_
                  refine zr_loc (L' := [(0, .ref (b + v0)), (4, .int 1), (5, .int (v5 + 1))]) ⟨rfl, rfl, rfl, trivial⟩ ?_
                  exact ih _ _ _ _ _ h hx0
          ·
            rw [if_pos hb46] at h
            refine zr_aload_n F zd_XReader_read_109 rfl ?_
            obtain ⟨le65, hs64, h⟩ := zoS_s h
            obtain ⟨p66, ep66, h⟩ := zoB_s h
            refine zr_callV0 F (k_XReader_readCamera l D tA b sh _ ep66) zd_XReader_read_110 (zW_o hs64 (by decide)) rfl zs_XReader_65 rfl zq_XReader_readCamera rfl rfl ⟨(Nat.le_of_ble_eq_true rfl), (Nat.le_of_ble_eq_true rfl)⟩ (Nat.le_of_ble_eq_true rfl) ⟨(Nat.le_of_ble_eq_true rfl), (Nat.le_of_ble_eq_true rfl)⟩ ?_
            refine zr_pcn 113 rfl ?_
            refine zr_goto F 136 zd_XReader_read_113 (by decide) ?_
            refine zr_iload F zd_XReader_read_136 rfl ?_
            refine zr_bipushv (v := 6) F zd_XReader_read_138 (by decide) ?_
            refine zr_icmp_ge F 156 zd_XReader_read_140 (by decide) (fun hb67 => ?_) (fun hb67 => ?_)
            ·
              rw [if_pos hb67] at h
              refine zr_iconstv (v := 0) F zd_XReader_read_156 (by decide) ?_
              refine zr_istore F zd_XReader_read_157 (by decide) ?_
              refine zr_iinc (v := (v5 + 1)) F zd_XReader_read_159 rfl rfl (by decide) ?_
              refine zr_goto F 67 zd_XReader_read_162 (by decide) ?_
              refine zr_loc (L' := [(0, .ref (b + v0)), (4, .int 0), (5, .int (v5 + 1))]) ⟨rfl, rfl, rfl, trivial⟩ ?_
              exact ih _ _ _ _ _ h hx0
            ·
              rw [if_neg hb67] at h
              refine zr_pcn 143 rfl ?_
              refine zr_aload_n F zd_XReader_read_143 rfl ?_
              refine zr_bipushv (v := 44) F zd_XReader_read_144 (by decide) ?_
              obtain ⟨le69, hs68, h⟩ := zoS_s h
              obtain ⟨p70, ep70, h⟩ := zoB_s h
              refine zr_callV1 F (k_XReader_takes l D tA b sh _ ep70) zd_XReader_read_146 (zW_o hs68 (by decide)) rfl zs_XReader_74 rfl zq_XReader_takes rfl rfl ⟨(Nat.le_of_ble_eq_true rfl), (Nat.le_of_ble_eq_true rfl)⟩ (Nat.le_of_ble_eq_true rfl) ⟨(Nat.le_of_ble_eq_true rfl), (Nat.le_of_ble_eq_true rfl)⟩ ?_
              refine zr_if_eq F 156 zd_XReader_read_149 (by decide) (fun hb71 => ?_) (fun hb71 => ?_)
              ·
                rw [if_pos hb71] at h
                refine zr_iconstv (v := 0) F zd_XReader_read_156 (by decide) ?_
                refine zr_istore F zd_XReader_read_157 (by decide) ?_
                refine zr_iinc (v := (v5 + 1)) F zd_XReader_read_159 rfl rfl (by decide) ?_
                refine zr_goto F 67 zd_XReader_read_162 (by decide) ?_
                refine zr_loc (L' := [(0, .ref (b + v0)), (4, .int 0), (5, .int (v5 + 1))]) ⟨rfl, rfl, rfl, trivial⟩ ?_
                exact ih _ _ _ _ _ h hx0
              ·
                rw [if_neg hb71] at h
                refine zr_pcn 152 rfl ?_
                refine zr_iconstv (v := 1) F zd_XReader_read_152 (by decide) ?_
                refine zr_goto F 157 zd_XReader_read_153 (by decide) ?_
                refine zr_istore F zd_XReader_read_157 (by decide) ?_
                refine zr_iinc (v := (v5 + 1)) F zd_XReader_read_159 rfl rfl (by decide) ?_
                refine zr_goto F 67 zd_XReader_read_162 (by decide) ?_
                refine zr_loc (L' := [(0, .ref (b + v0)), (4, .int 1), (5, .int (v5 + 1))]) ⟨rfl, rfl, rfl, trivial⟩ ?_
                exact ih _ _ _ _ _ h hx0
        ·
          rw [if_pos hb41] at h
          refine zr_goto F 159 zd_XReader_read_91 (by decide) ?_
          refine zr_iinc (v := (v5 + 1)) F zd_XReader_read_159 rfl rfl (by decide) ?_
          refine zr_goto F 67 zd_XReader_read_162 (by decide) ?_
          refine zr_loc (L' := [(0, .ref (b + v0)), (4, .int v4), (5, .int (v5 + 1))]) ⟨rfl, rfl, rfl, trivial⟩ ?_
          exact ih _ _ _ _ _ h hx0
def F_XReader_read (sh : zSh) (mm : zMem) (o : Nat) (x0_ : Nat) (x1_ : Int32) (x2_ : Nat) : Option zMem := zoS (sh o) 7 (fun le2 => zoL (mR mm o 3 (some x0_)) (fun mm3 => zoS (sh o) 7 (fun le5 => zoL (mI mm3 o 4 x1_) (fun mm6 => zoS (sh o) 7 (fun le8 => zoL (mR mm6 o 7 (some x2_)) (fun mm9 => zoS (sh o) 7 (fun le11 => zoL (mI mm9 o 5 0) (fun mm12 => zoS (sh o) 7 (fun le14 => zoL (mI mm12 o 0 0) (fun mm15 => zoS (sh o) 7 (fun le17 => zoL (mI mm15 o 1 0) (fun mm18 => zoS (sh o) 7 (fun le20 => Option.bind (mm18.2.2 o 7) (fun a21 => zoS (sh a21) 8 (fun le23 => Option.bind (F_XScene_clear sh mm18 a21) (fun p24 => zoS (sh o) 7 (fun le26 => Option.bind (F_XReader_step sh p24 o 0) (fun p27 => zoS (sh o) 7 (fun le29 => Option.bind (F_XReader_need sh p27 o 123) (fun p30 => zoS (sh o) 7 (fun le32 => Option.bind (F_XReader_sees sh p30 o 125) (fun p33 => (if p33.1 = 0 then Option.bind (L_XReader_read_67 sh zfuel o 1 0 (p33.2)) (fun q92 => (if q92.2.1 = 0 then zoS (sh (q92.1)) 7 (fun le95 => Option.bind (F_XReader_need sh (q92.2.2.2) (q92.1) 125) (fun p96 => zoS (sh (q92.1)) 7 (fun le98 => zoS (sh (q92.1)) 7 (fun le100 => (if (p96.1 (q92.1) 4) ≤ (p96.1 (q92.1) 5) then some p96 else zoS (sh (q92.1)) 7 (fun le103 => zoS (sh (q92.1)) 7 (fun le105 => none))))))) else zoS (sh (q92.1)) 7 (fun le108 => zoS (sh (q92.1)) 7 (fun le110 => none)))) else Option.bind (L_XReader_read_67 sh zfuel o 0 0 (p33.2)) (fun q72 => (if q72.2.1 = 0 then zoS (sh (q72.1)) 7 (fun le75 => Option.bind (F_XReader_need sh (q72.2.2.2) (q72.1) 125) (fun p76 => zoS (sh (q72.1)) 7 (fun le78 => zoS (sh (q72.1)) 7 (fun le80 => (if (p76.1 (q72.1) 4) ≤ (p76.1 (q72.1) 5) then some p76 else zoS (sh (q72.1)) 7 (fun le83 => zoS (sh (q72.1)) 7 (fun le85 => none))))))) else zoS (sh (q72.1)) 7 (fun le88 => zoS (sh (q72.1)) 7 (fun le90 => none)))))))))))))))))))))))))))
set_option maxHeartbeats 4000000 in
set_option maxRecDepth 100000 in
theorem k_XReader_read (l : Launch) (D : va_G) (tA : Nat → ClassId) (b : Nat) (sh : zSh) (n : Nat) {mm : zMem} {o : Nat} {x0_ : Nat} {x1_ : Int32} {x2_ : Nat} {r : zMem} (h : F_XReader_read sh mm o x0_ x1_ x2_ = some r) : zM l D tA b zy_XReader_read zb_XReader_read 6 none 9 205 0 0 [.ref (b + o), .ref (b + x0_), .int x1_, .ref (b + x2_)] (zW tA b sh mm) n (zE none (zW tA b sh r) n) := by
  unfold F_XReader_read at h
  refine zM_of (own := "OrreryBox$Reader") (plainFor_of_name (by decide)) rfl (Nat.le_of_ble_eq_true rfl) (fun p e s m below meth c F hr hin hH => ?_)
  refine zr_aload_n F zd_XReader_read_0 rfl ?_
  refine zr_aload_n F zd_XReader_read_1 rfl ?_
  obtain ⟨le2, hs1, h⟩ := zoS_s h
  refine zr_put F 7 3 zd_XReader_read_2 (zW_o hs1 (by decide)) rfl (by decide) zw_51 rfl rfl rfl rfl (by exact (Nat.le_of_ble_eq_true rfl)) ?_
  obtain ⟨mm3, emm3, h⟩ := zoL_s h
  refine zr_norm (zW tA b sh mm3) _ (by rw [emm3]; exact zW_pR (v := (some x0_)) hs1 (by decide) (zf_R_7_3 b _ _ _)) rfl ?_
  refine zr_aload_n F zd_XReader_read_5 rfl ?_
  refine zr_iload_n F zd_XReader_read_6 rfl ?_
  obtain ⟨le5, hs4, h⟩ := zoS_s h
  refine zr_put F 7 4 zd_XReader_read_7 (zW_o hs4 (by decide)) rfl (by decide) zw_52 rfl rfl rfl rfl (by exact (Nat.le_of_ble_eq_true rfl)) ?_
  obtain ⟨mm6, emm6, h⟩ := zoL_s h
  refine zr_norm (zW tA b sh mm6) _ (by rw [emm6]; exact zW_pI (v := x1_) hs4 (by decide) (zf_I_7_4 b _ _ _)) rfl ?_
  refine zr_aload_n F zd_XReader_read_10 rfl ?_
  refine zr_pcn 11 rfl ?_
  refine zr_aload_n F zd_XReader_read_11 rfl ?_
  obtain ⟨le8, hs7, h⟩ := zoS_s h
  refine zr_put F 7 7 zd_XReader_read_12 (zW_o hs7 (by decide)) rfl (by decide) zw_55 rfl rfl rfl rfl (by exact (Nat.le_of_ble_eq_true rfl)) ?_
  obtain ⟨mm9, emm9, h⟩ := zoL_s h
  refine zr_norm (zW tA b sh mm9) _ (by rw [emm9]; exact zW_pR (v := (some x2_)) hs7 (by decide) (zf_R_7_7 b _ _ _)) rfl ?_
  refine zr_aload_n F zd_XReader_read_15 rfl ?_
  refine zr_iconstv (v := 0) F zd_XReader_read_16 (by decide) ?_
  obtain ⟨le11, hs10, h⟩ := zoS_s h
  refine zr_put F 7 5 zd_XReader_read_17 (zW_o hs10 (by decide)) rfl (by decide) zw_53 rfl rfl rfl rfl (by exact (Nat.le_of_ble_eq_true rfl)) ?_
  obtain ⟨mm12, emm12, h⟩ := zoL_s h
  refine zr_norm (zW tA b sh mm12) _ (by rw [emm12]; exact zW_pI (v := 0) hs10 (by decide) (zf_I_7_5 b _ _ _)) rfl ?_
  refine zr_aload_n F zd_XReader_read_20 rfl ?_
  refine zr_iconstv (v := 0) F zd_XReader_read_21 (by decide) ?_
  obtain ⟨le14, hs13, h⟩ := zoS_s h
  refine zr_put F 7 0 zd_XReader_read_22 (zW_o hs13 (by decide)) rfl (by decide) zw_46 rfl rfl rfl rfl (by exact (Nat.le_of_ble_eq_true rfl)) ?_
  obtain ⟨mm15, emm15, h⟩ := zoL_s h
  refine zr_norm (zW tA b sh mm15) _ (by rw [emm15]; exact zW_pI (v := 0) hs13 (by decide) (zf_I_7_0 b _ _ _)) rfl ?_
  refine zr_pcn 25 rfl ?_
  refine zr_aload_n F zd_XReader_read_25 rfl ?_
  refine zr_iconstv (v := 0) F zd_XReader_read_26 (by decide) ?_
  obtain ⟨le17, hs16, h⟩ := zoS_s h
  refine zr_put F 7 1 zd_XReader_read_27 (zW_o hs16 (by decide)) rfl (by decide) zw_48 rfl rfl rfl rfl (by exact (Nat.le_of_ble_eq_true rfl)) ?_
  obtain ⟨mm18, emm18, h⟩ := zoL_s h
  refine zr_norm (zW tA b sh mm18) _ (by rw [emm18]; exact zW_pI (v := 0) hs16 (by decide) (zf_I_7_1 b _ _ _)) rfl ?_
  refine zr_aload_n F zd_XReader_read_30 rfl ?_
  obtain ⟨le20, hs19, h⟩ := zoS_s h
  obtain ⟨a21, ea21, h⟩ := zoB_s h
  refine zr_get F 7 7 zd_XReader_read_31 (zW_o hs19 (by decide)) rfl (by decide) zw_55 rfl (by rfl) ?_
  refine zr_tor ea21 ?_
  obtain ⟨le23, hs22, h⟩ := zoS_s h
  obtain ⟨p24, ep24, h⟩ := zoB_s h
  refine zr_callVN0 F (k_XScene_clear l D tA b sh _ ep24) zd_XReader_read_34 (zW_o hs22 (by decide)) rfl zs_XReader_36 rfl zq_XScene_clear rfl rfl ⟨(Nat.le_of_ble_eq_true rfl), (Nat.le_of_ble_eq_true rfl)⟩ (Nat.le_of_ble_eq_true rfl) ⟨(Nat.le_of_ble_eq_true rfl), (Nat.le_of_ble_eq_true rfl)⟩ ?_
  refine zr_aload_n F zd_XReader_read_37 rfl ?_
  refine zr_iconstv (v := 0) F zd_XReader_read_38 (by decide) ?_
  refine zr_pcn 39 rfl ?_
  obtain ⟨le26, hs25, h⟩ := zoS_s h
  obtain ⟨p27, ep27, h⟩ := zoB_s h
  refine zr_callV0 F (k_XReader_step l D tA b sh _ ep27) zd_XReader_read_39 (zW_o hs25 (by decide)) rfl zs_XReader_41 rfl zq_XReader_step rfl rfl ⟨(Nat.le_of_ble_eq_true rfl), (Nat.le_of_ble_eq_true rfl)⟩ (Nat.le_of_ble_eq_true rfl) ⟨(Nat.le_of_ble_eq_true rfl), (Nat.le_of_ble_eq_true rfl)⟩ ?_
  refine zr_aload_n F zd_XReader_read_42 rfl ?_
  refine zr_bipushv (v := 123) F zd_XReader_read_43 (by decide) ?_
  obtain ⟨le29, hs28, h⟩ := zoS_s h
  obtain ⟨p30, ep30, h⟩ := zoB_s h
  refine zr_callV0 F (k_XReader_need l D tA b sh _ ep30) zd_XReader_read_45 (zW_o hs28 (by decide)) rfl zs_XReader_45 rfl zq_XReader_need rfl rfl ⟨(Nat.le_of_ble_eq_true rfl), (Nat.le_of_ble_eq_true rfl)⟩ (Nat.le_of_ble_eq_true rfl) ⟨(Nat.le_of_ble_eq_true rfl), (Nat.le_of_ble_eq_true rfl)⟩ ?_
  refine zr_aload_n F zd_XReader_read_48 rfl ?_
  refine zr_bipushv (v := 125) F zd_XReader_read_49 (by decide) ?_
  obtain ⟨le32, hs31, h⟩ := zoS_s h
  obtain ⟨p33, ep33, h⟩ := zoB_s h
  refine zr_callV1 F (k_XReader_sees l D tA b sh _ ep33) zd_XReader_read_51 (zW_o hs31 (by decide)) rfl zs_XReader_49 rfl zq_XReader_sees rfl rfl ⟨(Nat.le_of_ble_eq_true rfl), (Nat.le_of_ble_eq_true rfl)⟩ (Nat.le_of_ble_eq_true rfl) ⟨(Nat.le_of_ble_eq_true rfl), (Nat.le_of_ble_eq_true rfl)⟩ ?_
  refine zr_if_ne F 61 zd_XReader_read_54 (by decide) (fun hb34 => ?_) (fun hb34 => ?_)
  ·
    rw [if_neg hb34] at h
    refine zr_pcn 61 rfl ?_
    refine zr_iconstv (v := 0) F zd_XReader_read_61 (by decide) ?_
    refine zr_istore F zd_XReader_read_62 (by decide) ?_
    refine zr_iconstv (v := 0) F zd_XReader_read_64 (by decide) ?_
    refine zr_istore F zd_XReader_read_65 (by decide) ?_
    obtain ⟨q72, eq72, h⟩ := zoB_s h
    refine zr_loc (L' := [(0, .ref (b + o)), (4, .int 0), (5, .int 0)]) ⟨rfl, rfl, rfl, trivial⟩ ?_
    refine lp_XReader_read_67 F _ _ _ _ _ _ eq72 ?_
    ·
      refine zr_pcn 165 rfl ?_
      refine zr_iload F zd_XReader_read_165 rfl ?_
      refine zr_if_eq F 179 zd_XReader_read_167 (by decide) (fun hb73 => ?_) (fun hb73 => ?_)
      ·
        rw [if_pos hb73] at h
        refine zr_aload_n F zd_XReader_read_179 rfl ?_
        refine zr_bipushv (v := 125) F zd_XReader_read_180 (by decide) ?_
        obtain ⟨le75, hs74, h⟩ := zoS_s h
        obtain ⟨p76, ep76, h⟩ := zoB_s h
        refine zr_callV0 F (k_XReader_need l D tA b sh _ ep76) zd_XReader_read_182 (zW_o hs74 (by decide)) rfl zs_XReader_45 rfl zq_XReader_need rfl rfl ⟨(Nat.le_of_ble_eq_true rfl), (Nat.le_of_ble_eq_true rfl)⟩ (Nat.le_of_ble_eq_true rfl) ⟨(Nat.le_of_ble_eq_true rfl), (Nat.le_of_ble_eq_true rfl)⟩ ?_
        refine zr_aload_n F zd_XReader_read_185 rfl ?_
        obtain ⟨le78, hs77, h⟩ := zoS_s h
        refine zr_get F 7 5 zd_XReader_read_186 (zW_o hs77 (by decide)) rfl (by decide) zw_53 rfl (by rfl) ?_
        refine zr_aload_n F zd_XReader_read_189 rfl ?_
        refine zr_pcn 190 rfl ?_
        obtain ⟨le80, hs79, h⟩ := zoS_s h
        refine zr_get F 7 4 zd_XReader_read_190 (zW_o hs79 (by decide)) rfl (by decide) zw_52 rfl (by rfl) ?_
        refine zr_icmp_ge F 205 zd_XReader_read_193 (by decide) (fun hb81 => ?_) (fun hb81 => ?_)
        ·
          rw [if_pos hb81] at h
          obtain rfl := Option.some.inj h
          exact zr_vret F hr zd_XReader_read_205 (Nat.le_of_ble_eq_true rfl) (Nat.le_of_ble_eq_true rfl) ⟨rfl, rfl, rfl⟩
        ·
          rw [if_neg hb81] at h
          refine zr_aload_n F zd_XReader_read_196 rfl ?_
          refine zr_iconstv (v := 1) F zd_XReader_read_197 (by decide) ?_
          refine zr_aload_n F zd_XReader_read_198 rfl ?_
          obtain ⟨le83, hs82, h⟩ := zoS_s h
          refine zr_get F 7 5 zd_XReader_read_199 (zW_o hs82 (by decide)) rfl (by decide) zw_53 rfl (by rfl) ?_
          obtain ⟨le85, hs84, h⟩ := zoS_s h
          cases h
      ·
        rw [if_neg hb73] at h
        refine zr_pcn 170 rfl ?_
        refine zr_aload_n F zd_XReader_read_170 rfl ?_
        refine zr_iconstv (v := 1) F zd_XReader_read_171 (by decide) ?_
        refine zr_aload_n F zd_XReader_read_172 rfl ?_
        obtain ⟨le88, hs87, h⟩ := zoS_s h
        refine zr_get F 7 5 zd_XReader_read_173 (zW_o hs87 (by decide)) rfl (by decide) zw_53 rfl (by rfl) ?_
        obtain ⟨le90, hs89, h⟩ := zoS_s h
        cases h
  ·
    rw [if_pos hb34] at h
    refine zr_iconstv (v := 1) F zd_XReader_read_57 (by decide) ?_
    refine zr_goto F 62 zd_XReader_read_58 (by decide) ?_
    refine zr_istore F zd_XReader_read_62 (by decide) ?_
    refine zr_pcn 64 rfl ?_
    refine zr_iconstv (v := 0) F zd_XReader_read_64 (by decide) ?_
    refine zr_istore F zd_XReader_read_65 (by decide) ?_
    obtain ⟨q92, eq92, h⟩ := zoB_s h
    refine zr_loc (L' := [(0, .ref (b + o)), (4, .int 1), (5, .int 0)]) ⟨rfl, rfl, rfl, trivial⟩ ?_
    refine lp_XReader_read_67 F _ _ _ _ _ _ eq92 ?_
    ·
      refine zr_iload F zd_XReader_read_165 rfl ?_
      refine zr_if_eq F 179 zd_XReader_read_167 (by decide) (fun hb93 => ?_) (fun hb93 => ?_)
      ·
        rw [if_pos hb93] at h
        refine zr_aload_n F zd_XReader_read_179 rfl ?_
        refine zr_bipushv (v := 125) F zd_XReader_read_180 (by decide) ?_
        obtain ⟨le95, hs94, h⟩ := zoS_s h
        obtain ⟨p96, ep96, h⟩ := zoB_s h
        refine zr_callV0 F (k_XReader_need l D tA b sh _ ep96) zd_XReader_read_182 (zW_o hs94 (by decide)) rfl zs_XReader_45 rfl zq_XReader_need rfl rfl ⟨(Nat.le_of_ble_eq_true rfl), (Nat.le_of_ble_eq_true rfl)⟩ (Nat.le_of_ble_eq_true rfl) ⟨(Nat.le_of_ble_eq_true rfl), (Nat.le_of_ble_eq_true rfl)⟩ ?_
        refine zr_aload_n F zd_XReader_read_185 rfl ?_
        refine zr_pcn 186 rfl ?_
        obtain ⟨le98, hs97, h⟩ := zoS_s h
        refine zr_get F 7 5 zd_XReader_read_186 (zW_o hs97 (by decide)) rfl (by decide) zw_53 rfl (by rfl) ?_
        refine zr_aload_n F zd_XReader_read_189 rfl ?_
        obtain ⟨le100, hs99, h⟩ := zoS_s h
        refine zr_get F 7 4 zd_XReader_read_190 (zW_o hs99 (by decide)) rfl (by decide) zw_52 rfl (by rfl) ?_
        refine zr_icmp_ge F 205 zd_XReader_read_193 (by decide) (fun hb101 => ?_) (fun hb101 => ?_)
        ·
          rw [if_pos hb101] at h
          obtain rfl := Option.some.inj h
          exact zr_vret F hr zd_XReader_read_205 (Nat.le_of_ble_eq_true rfl) (Nat.le_of_ble_eq_true rfl) ⟨rfl, rfl, rfl⟩
        ·
          rw [if_neg hb101] at h
          refine zr_aload_n F zd_XReader_read_196 rfl ?_
          refine zr_iconstv (v := 1) F zd_XReader_read_197 (by decide) ?_
          refine zr_aload_n F zd_XReader_read_198 rfl ?_
          refine zr_pcn 199 rfl ?_
          obtain ⟨le103, hs102, h⟩ := zoS_s h
          refine zr_get F 7 5 zd_XReader_read_199 (zW_o hs102 (by decide)) rfl (by decide) zw_53 rfl (by rfl) ?_
          obtain ⟨le105, hs104, h⟩ := zoS_s h
          cases h
      ·
        rw [if_neg hb93] at h
        refine zr_aload_n F zd_XReader_read_170 rfl ?_
        refine zr_iconstv (v := 1) F zd_XReader_read_171 (by decide) ?_
        refine zr_aload_n F zd_XReader_read_172 rfl ?_
        obtain ⟨le108, hs107, h⟩ := zoS_s h
        refine zr_get F 7 5 zd_XReader_read_173 (zW_o hs107 (by decide)) rfl (by decide) zw_53 rfl (by rfl) ?_
        obtain ⟨le110, hs109, h⟩ := zoS_s h
        cases h
def L_T_XReader_read_67 (sh : zSh) (fuel : Nat) (v0 : Nat) (v4 : Int32) (v5 : Int32) (mm : zMem) : Option (Nat × Nat × Int32 × Int32 × zMem) := match fuel with
  | 0 => none
  | fu + 1 => (if 6 < v5 then some (1, v0, v4, v5, mm) else (if v4 = 0 then some (1, v0, v4, v5, mm) else Option.bind (F_XReader_wordOf sh mm v5) (fun p37 => zoS (sh v0) 7 (fun le39 => Option.bind (F_XReader_seesWord sh (p37.2) v0 (p37.1)) (fun p40 => (if p40.1 = 0 then L_T_XReader_read_67 sh fu v0 v4 (v5 + 1) (p40.2) else Option.bind (F_XReader_wordOf sh (p40.2) v5) (fun p42 => zoS (sh v0) 7 (fun le44 => zoX (F_XReader_needName sh (p42.2) v0 (p42.1)) (Option.bind (T_XReader_needName sh (p42.2) v0 (p42.1)) (fun mq46 => some (0, (0 : Nat), (0 : Int32), (0 : Int32), mq46))) (fun p45 => (if v5 = 5 then zoS (sh v0) 7 (fun le68 => zoX (F_XReader_readCamera sh p45 v0) (Option.bind (T_XReader_readCamera sh p45 v0) (fun mq70 => some (0, (0 : Nat), (0 : Int32), (0 : Int32), mq70))) (fun p69 => (if 6 ≤ v5 then L_T_XReader_read_67 sh fu v0 0 (v5 + 1) p69 else zoS (sh v0) 7 (fun le73 => Option.bind (F_XReader_takes sh p69 v0 44) (fun p74 => (if p74.1 = 0 then L_T_XReader_read_67 sh fu v0 0 (v5 + 1) (p74.2) else L_T_XReader_read_67 sh fu v0 1 (v5 + 1) (p74.2))))))) else (if v5 = 6 then zoS (sh v0) 7 (fun le59 => zoX (F_XReader_readLight sh p45 v0) (Option.bind (T_XReader_readLight sh p45 v0) (fun mq61 => some (0, (0 : Nat), (0 : Int32), (0 : Int32), mq61))) (fun p60 => (if 6 ≤ v5 then L_T_XReader_read_67 sh fu v0 0 (v5 + 1) p60 else zoS (sh v0) 7 (fun le64 => Option.bind (F_XReader_takes sh p60 v0 44) (fun p65 => (if p65.1 = 0 then L_T_XReader_read_67 sh fu v0 0 (v5 + 1) (p65.2) else L_T_XReader_read_67 sh fu v0 1 (v5 + 1) (p65.2))))))) else zoS (sh v0) 7 (fun le50 => zoX (F_XReader_readThings sh p45 v0 v5) (Option.bind (T_XReader_readThings sh p45 v0 v5) (fun mq52 => some (0, (0 : Nat), (0 : Int32), (0 : Int32), mq52))) (fun p51 => (if 6 ≤ v5 then L_T_XReader_read_67 sh fu v0 0 (v5 + 1) p51 else zoS (sh v0) 7 (fun le55 => Option.bind (F_XReader_takes sh p51 v0 44) (fun p56 => (if p56.1 = 0 then L_T_XReader_read_67 sh fu v0 0 (v5 + 1) (p56.2) else L_T_XReader_read_67 sh fu v0 1 (v5 + 1) (p56.2))))))))))))))))))
set_option maxHeartbeats 4000000 in
set_option maxRecDepth 100000 in
theorem lp_T_XReader_read_67 {p : Program} {l : Launch} {e : Env} {s : State} {m : MethodId} {args : Array Value} {below : List Frame} {meth : Method} {c : Code} {D : va_G} {tA : Nat → ClassId} {b n : Nat} {cls : String} {fT : zV} {nT : Nat} {sh : zSh} (F : zF p s m args meth c zb_XReader_read 6 "OrreryBox$Reader" D tA b) (hl : l.stackTraces = false) (hno : c.exceptionTable.toList = []) : ∀ (fuel : Nat) (v0 : Nat) (v4 : Int32) (v5 : Int32) (mm : zMem) (r : Nat × Nat × Int32 × Int32 × zMem), L_T_XReader_read_67 sh fuel v0 v4 v5 mm = some r → (r.1 = 1 → Z p l e { frames := 11, cells := 1, slots := 6, locals := 213 } s m args below meth c D b 6 (zTQ below D b cls fT nT args s 1 6) (zW tA b sh r.2.2.2.2) n 0 0 165 [(0, .ref (b + (r.2.1))), (4, .int (r.2.2.1)), (5, .int (r.2.2.2.1))] []) → (r.1 = 0 → zW tA b sh r.2.2.2.2 = fT ∧ n + 1 = nT) → Z p l e { frames := 11, cells := 1, slots := 6, locals := 213 } s m args below meth c D b 6 (zTQ below D b cls fT nT args s 1 6) (zW tA b sh mm) n 0 0 67 [(0, .ref (b + v0)), (4, .int v4), (5, .int v5)] [] := by
  intro fuel
  induction fuel with
  | zero =>
    intro v0 v4 v5 mm r h
    cases h
  | succ fu ih =>
    intro v0 v4 v5 mm r h hx0 hp
    rw [L_T_XReader_read_67] at h
    refine zr_iload F zd_XReader_read_67 rfl ?_
    refine zr_bipushv (v := 6) F zd_XReader_read_69 (by decide) ?_
    refine zr_icmp_gt F 165 zd_XReader_read_71 (by decide) (fun hb35 => ?_) (fun hb35 => ?_)
    ·
      rw [if_pos hb35] at h
      obtain rfl := Option.some.inj h
      refine zr_loc (L' := [(0, .ref (b + v0)), (4, .int v4), (5, .int v5)]) ⟨rfl, rfl, rfl, trivial⟩ ?_
      exact hx0 rfl
    ·
      rw [if_neg hb35] at h
      refine zr_iload F zd_XReader_read_74 rfl ?_
      refine zr_pcn 76 rfl ?_
      refine zr_if_eq F 165 zd_XReader_read_76 (by decide) (fun hb36 => ?_) (fun hb36 => ?_)
      ·
        rw [if_pos hb36] at h
        obtain rfl := Option.some.inj h
        refine zr_loc (L' := [(0, .ref (b + v0)), (4, .int v4), (5, .int v5)]) ⟨rfl, rfl, rfl, trivial⟩ ?_
        exact hx0 rfl
      ·
        rw [if_neg hb36] at h
        refine zr_aload_n F zd_XReader_read_79 rfl ?_
        refine zr_iload F zd_XReader_read_80 rfl ?_
        obtain ⟨p37, ep37, h⟩ := zoB_s h
        refine zr_callS1 F (k_XReader_wordOf l D tA b sh _ ep37) zd_XReader_read_82 zs_XReader_53 zq_XReader_wordOf rfl rfl ⟨(Nat.le_of_ble_eq_true rfl), (Nat.le_of_ble_eq_true rfl)⟩ (Nat.le_of_ble_eq_true rfl) ⟨(Nat.le_of_ble_eq_true rfl), (Nat.le_of_ble_eq_true rfl)⟩ ?_
        obtain ⟨le39, hs38, h⟩ := zoS_s h
        obtain ⟨p40, ep40, h⟩ := zoB_s h
        refine zr_callV1 F (k_XReader_seesWord l D tA b sh _ ep40) zd_XReader_read_85 (zW_o hs38 (by decide)) rfl zs_XReader_57 rfl zq_XReader_seesWord rfl rfl ⟨(Nat.le_of_ble_eq_true rfl), (Nat.le_of_ble_eq_true rfl)⟩ (Nat.le_of_ble_eq_true rfl) ⟨(Nat.le_of_ble_eq_true rfl), (Nat.le_of_ble_eq_true rfl)⟩ ?_
        refine zr_if_ne F 94 zd_XReader_read_88 (by decide) (fun hb41 => ?_) (fun hb41 => ?_)
        ·
          rw [if_neg hb41] at h
          refine zr_aload_n F zd_XReader_read_94 rfl ?_
          refine zr_iload F zd_XReader_read_95 rfl ?_
          refine zr_pcn 97 rfl ?_
          obtain ⟨p42, ep42, h⟩ := zoB_s h
          refine zr_callS1 F (k_XReader_wordOf l D tA b sh _ ep42) zd_XReader_read_97 zs_XReader_53 zq_XReader_wordOf rfl rfl ⟨(Nat.le_of_ble_eq_true rfl), (Nat.le_of_ble_eq_true rfl)⟩ (Nat.le_of_ble_eq_true rfl) ⟨(Nat.le_of_ble_eq_true rfl), (Nat.le_of_ble_eq_true rfl)⟩ ?_
          obtain ⟨le44, hs43, h⟩ := zoS_s h
          cases ep45 : F_XReader_needName sh (p42.2) v0 (p42.1) with
          | none =>
            rw [ep45] at h
            dsimp only [zoX] at h
            obtain ⟨mq46, emq46, h⟩ := zoB_s h
            obtain rfl := Option.some.inj h
            obtain ⟨ef, en⟩ := hp rfl
            subst ef
            subst en
            exact zr_thrV F hno (kT_XReader_needName l D tA b sh _ hl emq46) zd_XReader_read_100 (zW_o hs43 (by decide)) rfl zs_XReader_61 rfl zq_XReader_needName rfl rfl ⟨(Nat.le_of_ble_eq_true rfl), (Nat.le_of_ble_eq_true rfl)⟩ (Nat.le_of_ble_eq_true rfl) ⟨(Nat.le_of_ble_eq_true rfl), (Nat.le_of_ble_eq_true rfl)⟩ ⟨(Nat.le_of_ble_eq_true rfl), (Nat.le_of_ble_eq_true rfl)⟩
          | some p45 =>
            rw [ep45] at h
            dsimp only [zoX] at h
            refine zr_callV0 F (k_XReader_needName l D tA b sh _ ep45) zd_XReader_read_100 (zW_o hs43 (by decide)) rfl zs_XReader_61 rfl zq_XReader_needName rfl rfl ⟨(Nat.le_of_ble_eq_true rfl), (Nat.le_of_ble_eq_true rfl)⟩ (Nat.le_of_ble_eq_true rfl) ⟨(Nat.le_of_ble_eq_true rfl), (Nat.le_of_ble_eq_true rfl)⟩ ?_
            refine zr_iload F zd_XReader_read_103 rfl ?_
            refine zr_iconstv (v := 5) F zd_XReader_read_105 (by decide) ?_
            refine zr_icmp_ne F 116 zd_XReader_read_106 (by decide) (fun hb47 => ?_) (fun hb47 => ?_)
            ·
              rw [if_neg hb47] at h
              refine zr_iload F zd_XReader_read_116 rfl ?_
              refine zr_bipushv (v := 6) F zd_XReader_read_118 (by decide) ?_
              refine zr_icmp_ne F 130 zd_XReader_read_120 (by decide) (fun hb48 => ?_) (fun hb48 => ?_)
              ·
                rw [if_neg hb48] at h
                refine zr_pcn 130 rfl ?_
                refine zr_aload_n F zd_XReader_read_130 rfl ?_
                refine zr_iload F zd_XReader_read_131 rfl ?_
                obtain ⟨le50, hs49, h⟩ := zoS_s h
                cases ep51 : F_XReader_readThings sh p45 v0 v5 with
                | none =>
                  rw [ep51] at h
                  dsimp only [zoX] at h
                  obtain ⟨mq52, emq52, h⟩ := zoB_s h
                  obtain rfl := Option.some.inj h
                  obtain ⟨ef, en⟩ := hp rfl
                  subst ef
                  subst en
                  exact zr_thrV F hno (kT_XReader_readThings l D tA b sh _ hl emq52) zd_XReader_read_133 (zW_o hs49 (by decide)) rfl zs_XReader_71 rfl zq_XReader_readThings rfl rfl ⟨(Nat.le_of_ble_eq_true rfl), (Nat.le_of_ble_eq_true rfl)⟩ (Nat.le_of_ble_eq_true rfl) ⟨(Nat.le_of_ble_eq_true rfl), (Nat.le_of_ble_eq_true rfl)⟩ ⟨(Nat.le_of_ble_eq_true rfl), (Nat.le_of_ble_eq_true rfl)⟩
                | some p51 =>
                  rw [ep51] at h
                  dsimp only [zoX] at h
                  refine zr_callV0 F (k_XReader_readThings l D tA b sh _ ep51) zd_XReader_read_133 (zW_o hs49 (by decide)) rfl zs_XReader_71 rfl zq_XReader_readThings rfl rfl ⟨(Nat.le_of_ble_eq_true rfl), (Nat.le_of_ble_eq_true rfl)⟩ (Nat.le_of_ble_eq_true rfl) ⟨(Nat.le_of_ble_eq_true rfl), (Nat.le_of_ble_eq_true rfl)⟩ ?_
                  refine zr_iload F zd_XReader_read_136 rfl ?_
                  refine zr_bipushv (v := 6) F zd_XReader_read_138 (by decide) ?_
                  refine zr_icmp_ge F 156 zd_XReader_read_140 (by decide) (fun hb53 => ?_) (fun hb53 => ?_)
                  ·
                    rw [if_pos hb53] at h
                    refine zr_iconstv (v := 0) F zd_XReader_read_156 (by decide) ?_
                    refine zr_istore F zd_XReader_read_157 (by decide) ?_
                    refine zr_pcn 159 rfl ?_
                    refine zr_iinc (v := (v5 + 1)) F zd_XReader_read_159 rfl rfl (by decide) ?_
                    refine zr_goto F 67 zd_XReader_read_162 (by decide) ?_
                    refine zr_loc (L' := [(0, .ref (b + v0)), (4, .int 0), (5, .int (v5 + 1))]) ⟨rfl, rfl, rfl, trivial⟩ ?_
                    exact ih _ _ _ _ _ h hx0 hp
                  ·
                    rw [if_neg hb53] at h
                    refine zr_aload_n F zd_XReader_read_143 rfl ?_
                    refine zr_bipushv (v := 44) F zd_XReader_read_144 (by decide) ?_
                    obtain ⟨le55, hs54, h⟩ := zoS_s h
                    obtain ⟨p56, ep56, h⟩ := zoB_s h
                    refine zr_callV1 F (k_XReader_takes l D tA b sh _ ep56) zd_XReader_read_146 (zW_o hs54 (by decide)) rfl zs_XReader_74 rfl zq_XReader_takes rfl rfl ⟨(Nat.le_of_ble_eq_true rfl), (Nat.le_of_ble_eq_true rfl)⟩ (Nat.le_of_ble_eq_true rfl) ⟨(Nat.le_of_ble_eq_true rfl), (Nat.le_of_ble_eq_true rfl)⟩ ?_
                    refine zr_if_eq F 156 zd_XReader_read_149 (by decide) (fun hb57 => ?_) (fun hb57 => ?_)
                    ·
                      rw [if_pos hb57] at h
                      refine zr_iconstv (v := 0) F zd_XReader_read_156 (by decide) ?_
                      refine zr_istore F zd_XReader_read_157 (by decide) ?_
                      refine zr_pcn 159 rfl ?_
                      refine zr_iinc (v := (v5 + 1)) F zd_XReader_read_159 rfl rfl (by decide) ?_
                      refine zr_goto F 67 zd_XReader_read_162 (by decide) ?_
                      refine zr_loc (L' := [(0, .ref (b + v0)), (4, .int 0), (5, .int (v5 + 1))]) ⟨rfl, rfl, rfl, trivial⟩ ?_
                      exact ih _ _ _ _ _ h hx0 hp
                    ·
                      rw [if_neg hb57] at h
                      refine zr_iconstv (v := 1) F zd_XReader_read_152 (by decide) ?_
                      refine zr_goto F 157 zd_XReader_read_153 (by decide) ?_
                      refine zr_istore F zd_XReader_read_157 (by decide) ?_
                      refine zr_iinc (v := (v5 + 1)) F zd_XReader_read_159 rfl rfl (by decide) ?_
                      refine zr_goto F 67 zd_XReader_read_162 (by decide) ?_
                      refine zr_loc (L' := [(0, .ref (b + v0)), (4, .int 1), (5, .int (v5 + 1))]) ⟨rfl, rfl, rfl, trivial⟩ ?_
                      exact ih _ _ _ _ _ h hx0 hp
              ·
                rw [if_pos hb48] at h
                refine zr_aload_n F zd_XReader_read_123 rfl ?_
                refine zr_pcn 124 rfl ?_
                obtain ⟨le59, hs58, h⟩ := zoS_s h
                cases ep60 : F_XReader_readLight sh p45 v0 with
                | none =>
                  rw [ep60] at h
                  dsimp only [zoX] at h
                  obtain ⟨mq61, emq61, h⟩ := zoB_s h
                  obtain rfl := Option.some.inj h
                  obtain ⟨ef, en⟩ := hp rfl
                  subst ef
                  subst en
                  exact zr_thrV F hno (kT_XReader_readLight l D tA b sh _ hl emq61) zd_XReader_read_124 (zW_o hs58 (by decide)) rfl zs_XReader_68 rfl zq_XReader_readLight rfl rfl ⟨(Nat.le_of_ble_eq_true rfl), (Nat.le_of_ble_eq_true rfl)⟩ (Nat.le_of_ble_eq_true rfl) ⟨(Nat.le_of_ble_eq_true rfl), (Nat.le_of_ble_eq_true rfl)⟩ ⟨(Nat.le_of_ble_eq_true rfl), (Nat.le_of_ble_eq_true rfl)⟩
                | some p60 =>
                  rw [ep60] at h
                  dsimp only [zoX] at h
                  refine zr_callV0 F (k_XReader_readLight l D tA b sh _ ep60) zd_XReader_read_124 (zW_o hs58 (by decide)) rfl zs_XReader_68 rfl zq_XReader_readLight rfl rfl ⟨(Nat.le_of_ble_eq_true rfl), (Nat.le_of_ble_eq_true rfl)⟩ (Nat.le_of_ble_eq_true rfl) ⟨(Nat.le_of_ble_eq_true rfl), (Nat.le_of_ble_eq_true rfl)⟩ ?_
                  refine zr_goto F 136 zd_XReader_read_127 (by decide) ?_
                  refine zr_iload F zd_XReader_read_136 rfl ?_
                  refine zr_bipushv (v := 6) F zd_XReader_read_138 (by decide) ?_
                  refine zr_icmp_ge F 156 zd_XReader_read_140 (by decide) (fun hb62 => ?_) (fun hb62 => ?_)
                  ·
                    rw [if_pos hb62] at h
                    refine zr_iconstv (v := 0) F zd_XReader_read_156 (by decide) ?_
                    refine zr_istore F zd_XReader_read_157 (by decide) ?_
                    refine zr_iinc (v := (v5 + 1)) F zd_XReader_read_159 rfl rfl (by decide) ?_
                    refine zr_pcn 162 rfl ?_
                    refine zr_goto F 67 zd_XReader_read_162 (by decide) ?_
                    refine zr_loc (L' := [(0, .ref (b + v0)), (4, .int 0), (5, .int (v5 + 1))]) ⟨rfl, rfl, rfl, trivial⟩ ?_
                    exact ih _ _ _ _ _ h hx0 hp
                  ·
                    rw [if_neg hb62] at h
                    refine zr_aload_n F zd_XReader_read_143 rfl ?_
                    refine zr_bipushv (v := 44) F zd_XReader_read_144 (by decide) ?_
                    obtain ⟨le64, hs63, h⟩ := zoS_s h
                    obtain ⟨p65, ep65, h⟩ := zoB_s h
                    refine zr_callV1 F (k_XReader_takes l D tA b sh _ ep65) zd_XReader_read_146 (zW_o hs63 (by decide)) rfl zs_XReader_74 rfl zq_XReader_takes rfl rfl ⟨(Nat.le_of_ble_eq_true rfl), (Nat.le_of_ble_eq_true rfl)⟩ (Nat.le_of_ble_eq_true rfl) ⟨(Nat.le_of_ble_eq_true rfl), (Nat.le_of_ble_eq_true rfl)⟩ ?_
                    refine zr_if_eq F 156 zd_XReader_read_149 (by decide) (fun hb66 => ?_) (fun hb66 => ?_)
                    ·
                      rw [if_pos hb66] at h
                      refine zr_iconstv (v := 0) F zd_XReader_read_156 (by decide) ?_
                      refine zr_istore F zd_XReader_read_157 (by decide) ?_
                      refine zr_iinc (v := (v5 + 1)) F zd_XReader_read_159 rfl rfl (by decide) ?_
                      refine zr_pcn 162 rfl ?_
                      refine zr_goto F 67 zd_XReader_read_162 (by decide) ?_
                      refine zr_loc (L' := [(0, .ref (b + v0)), (4, .int 0), (5, .int (v5 + 1))]) ⟨rfl, rfl, rfl, trivial⟩ ?_
                      exact ih _ _ _ _ _ h hx0 hp
                    ·
                      rw [if_neg hb66] at h
                      refine zr_iconstv (v := 1) F zd_XReader_read_152 (by decide) ?_
                      refine zr_goto F 157 zd_XReader_read_153 (by decide) ?_
                      refine zr_istore F zd_XReader_read_157 (by decide) ?_
                      refine zr_iinc (v := (v5 + 1)) F zd_XReader_read_159 rfl rfl (by decide) ?_
                      refine zr_goto F 67 zd_XReader_read_162 (by decide) ?_
                      refine zr_loc (L' := [(0, .ref (b + v0)), (4, .int 1), (5, .int (v5 + 1))]) ⟨rfl, rfl, rfl, trivial⟩ ?_
                      exact ih _ _ _ _ _ h hx0 hp
            ·
              rw [if_pos hb47] at h
              refine zr_aload_n F zd_XReader_read_109 rfl ?_
              obtain ⟨le68, hs67, h⟩ := zoS_s h
              cases ep69 : F_XReader_readCamera sh p45 v0 with
              | none =>
                rw [ep69] at h
                dsimp only [zoX] at h
                obtain ⟨mq70, emq70, h⟩ := zoB_s h
                obtain rfl := Option.some.inj h
                obtain ⟨ef, en⟩ := hp rfl
                subst ef
                subst en
                exact zr_thrV F hno (kT_XReader_readCamera l D tA b sh _ hl emq70) zd_XReader_read_110 (zW_o hs67 (by decide)) rfl zs_XReader_65 rfl zq_XReader_readCamera rfl rfl ⟨(Nat.le_of_ble_eq_true rfl), (Nat.le_of_ble_eq_true rfl)⟩ (Nat.le_of_ble_eq_true rfl) ⟨(Nat.le_of_ble_eq_true rfl), (Nat.le_of_ble_eq_true rfl)⟩ ⟨(Nat.le_of_ble_eq_true rfl), (Nat.le_of_ble_eq_true rfl)⟩
              | some p69 =>
                rw [ep69] at h
                dsimp only [zoX] at h
                refine zr_callV0 F (k_XReader_readCamera l D tA b sh _ ep69) zd_XReader_read_110 (zW_o hs67 (by decide)) rfl zs_XReader_65 rfl zq_XReader_readCamera rfl rfl ⟨(Nat.le_of_ble_eq_true rfl), (Nat.le_of_ble_eq_true rfl)⟩ (Nat.le_of_ble_eq_true rfl) ⟨(Nat.le_of_ble_eq_true rfl), (Nat.le_of_ble_eq_true rfl)⟩ ?_
                refine zr_pcn 113 rfl ?_
                refine zr_goto F 136 zd_XReader_read_113 (by decide) ?_
                refine zr_iload F zd_XReader_read_136 rfl ?_
                refine zr_bipushv (v := 6) F zd_XReader_read_138 (by decide) ?_
                refine zr_icmp_ge F 156 zd_XReader_read_140 (by decide) (fun hb71 => ?_) (fun hb71 => ?_)
                ·
                  rw [if_pos hb71] at h
                  refine zr_iconstv (v := 0) F zd_XReader_read_156 (by decide) ?_
                  refine zr_istore F zd_XReader_read_157 (by decide) ?_
                  refine zr_iinc (v := (v5 + 1)) F zd_XReader_read_159 rfl rfl (by decide) ?_
                  refine zr_goto F 67 zd_XReader_read_162 (by decide) ?_
                  refine zr_loc (L' := [(0, .ref (b + v0)), (4, .int 0), (5, .int (v5 + 1))]) ⟨rfl, rfl, rfl, trivial⟩ ?_
                  exact ih _ _ _ _ _ h hx0 hp
                ·
                  rw [if_neg hb71] at h
                  refine zr_pcn 143 rfl ?_
                  refine zr_aload_n F zd_XReader_read_143 rfl ?_
                  refine zr_bipushv (v := 44) F zd_XReader_read_144 (by decide) ?_
                  obtain ⟨le73, hs72, h⟩ := zoS_s h
                  obtain ⟨p74, ep74, h⟩ := zoB_s h
                  refine zr_callV1 F (k_XReader_takes l D tA b sh _ ep74) zd_XReader_read_146 (zW_o hs72 (by decide)) rfl zs_XReader_74 rfl zq_XReader_takes rfl rfl ⟨(Nat.le_of_ble_eq_true rfl), (Nat.le_of_ble_eq_true rfl)⟩ (Nat.le_of_ble_eq_true rfl) ⟨(Nat.le_of_ble_eq_true rfl), (Nat.le_of_ble_eq_true rfl)⟩ ?_
                  refine zr_if_eq F 156 zd_XReader_read_149 (by decide) (fun hb75 => ?_) (fun hb75 => ?_)
                  ·
                    rw [if_pos hb75] at h
                    refine zr_iconstv (v := 0) F zd_XReader_read_156 (by decide) ?_
                    refine zr_istore F zd_XReader_read_157 (by decide) ?_
                    refine zr_iinc (v := (v5 + 1)) F zd_XReader_read_159 rfl rfl (by decide) ?_
                    refine zr_goto F 67 zd_XReader_read_162 (by decide) ?_
                    refine zr_loc (L' := [(0, .ref (b + v0)), (4, .int 0), (5, .int (v5 + 1))]) ⟨rfl, rfl, rfl, trivial⟩ ?_
                    exact ih _ _ _ _ _ h hx0 hp
                  ·
                    rw [if_neg hb75] at h
                    refine zr_pcn 152 rfl ?_
                    refine zr_iconstv (v := 1) F zd_XReader_read_152 (by decide) ?_
                    refine zr_goto F 157 zd_XReader_read_153 (by decide) ?_
                    refine zr_istore F zd_XReader_read_157 (by decide) ?_
                    refine zr_iinc (v := (v5 + 1)) F zd_XReader_read_159 rfl rfl (by decide) ?_
                    refine zr_goto F 67 zd_XReader_read_162 (by decide) ?_
                    refine zr_loc (L' := [(0, .ref (b + v0)), (4, .int 1), (5, .int (v5 + 1))]) ⟨rfl, rfl, rfl, trivial⟩ ?_
                    exact ih _ _ _ _ _ h hx0 hp
        ·
          rw [if_pos hb41] at h
          refine zr_goto F 159 zd_XReader_read_91 (by decide) ?_
          refine zr_iinc (v := (v5 + 1)) F zd_XReader_read_159 rfl rfl (by decide) ?_
          refine zr_goto F 67 zd_XReader_read_162 (by decide) ?_
          refine zr_loc (L' := [(0, .ref (b + v0)), (4, .int v4), (5, .int (v5 + 1))]) ⟨rfl, rfl, rfl, trivial⟩ ?_
          exact ih _ _ _ _ _ h hx0 hp
def T_XReader_read (sh : zSh) (mm : zMem) (o : Nat) (x0_ : Nat) (x1_ : Int32) (x2_ : Nat) : Option zMem := zoS (sh o) 7 (fun le2 => zoL (mR mm o 3 (some x0_)) (fun mm3 => zoS (sh o) 7 (fun le5 => zoL (mI mm3 o 4 x1_) (fun mm6 => zoS (sh o) 7 (fun le8 => zoL (mR mm6 o 7 (some x2_)) (fun mm9 => zoS (sh o) 7 (fun le11 => zoL (mI mm9 o 5 0) (fun mm12 => zoS (sh o) 7 (fun le14 => zoL (mI mm12 o 0 0) (fun mm15 => zoS (sh o) 7 (fun le17 => zoL (mI mm15 o 1 0) (fun mm18 => zoS (sh o) 7 (fun le20 => Option.bind (mm18.2.2 o 7) (fun a21 => zoS (sh a21) 8 (fun le23 => Option.bind (F_XScene_clear sh mm18 a21) (fun p24 => zoS (sh o) 7 (fun le26 => Option.bind (F_XReader_step sh p24 o 0) (fun p27 => zoS (sh o) 7 (fun le29 => zoX (F_XReader_need sh p27 o 123) (T_XReader_need sh p27 o 123) (fun p30 => zoS (sh o) 7 (fun le32 => Option.bind (F_XReader_sees sh p30 o 125) (fun p33 => (if p33.1 = 0 then Option.bind (L_T_XReader_read_67 sh zfuel o 1 0 (p33.2)) (fun q96 => (if q96.1 = 1 then (if q96.2.2.1 = 0 then zoS (sh (q96.2.1)) 7 (fun le99 => zoX (F_XReader_need sh (q96.2.2.2.2) (q96.2.1) 125) (T_XReader_need sh (q96.2.2.2.2) (q96.2.1) 125) (fun p100 => zoS (sh (q96.2.1)) 7 (fun le102 => zoS (sh (q96.2.1)) 7 (fun le104 => (if (p100.1 (q96.2.1) 4) ≤ (p100.1 (q96.2.1) 5) then none else zoS (sh (q96.2.1)) 7 (fun le107 => zoS (sh (q96.2.1)) 7 (fun le109 => T_XReader_refuse sh p100 (q96.2.1) 1 (p100.1 (q96.2.1) 5)))))))) else zoS (sh (q96.2.1)) 7 (fun le112 => zoS (sh (q96.2.1)) 7 (fun le114 => T_XReader_refuse sh (q96.2.2.2.2) (q96.2.1) 1 ((q96.2.2.2.2).1 (q96.2.1) 5)))) else some (q96.2.2.2.2))) else Option.bind (L_T_XReader_read_67 sh zfuel o 0 0 (p33.2)) (fun q76 => (if q76.1 = 1 then (if q76.2.2.1 = 0 then zoS (sh (q76.2.1)) 7 (fun le79 => zoX (F_XReader_need sh (q76.2.2.2.2) (q76.2.1) 125) (T_XReader_need sh (q76.2.2.2.2) (q76.2.1) 125) (fun p80 => zoS (sh (q76.2.1)) 7 (fun le82 => zoS (sh (q76.2.1)) 7 (fun le84 => (if (p80.1 (q76.2.1) 4) ≤ (p80.1 (q76.2.1) 5) then none else zoS (sh (q76.2.1)) 7 (fun le87 => zoS (sh (q76.2.1)) 7 (fun le89 => T_XReader_refuse sh p80 (q76.2.1) 1 (p80.1 (q76.2.1) 5)))))))) else zoS (sh (q76.2.1)) 7 (fun le92 => zoS (sh (q76.2.1)) 7 (fun le94 => T_XReader_refuse sh (q76.2.2.2.2) (q76.2.1) 1 ((q76.2.2.2.2).1 (q76.2.1) 5)))) else some (q76.2.2.2.2))))))))))))))))))))))))))
set_option maxHeartbeats 4000000 in
set_option maxRecDepth 100000 in
theorem kT_XReader_read (l : Launch) (D : va_G) (tA : Nat → ClassId) (b : Nat) (sh : zSh) (n : Nat) (hl : l.stackTraces = false) {mm : zMem} {o : Nat} {x0_ : Nat} {x1_ : Int32} {x2_ : Nat} {r : zMem} (h : T_XReader_read sh mm o x0_ x1_ x2_ = some r) : zMT l D tA b zy_XReader_read zb_XReader_read 6 none 11 213 1 6 [.ref (b + o), .ref (b + x0_), .int x1_, .ref (b + x2_)] (zW tA b sh mm) n "java/lang/IllegalArgumentException" (zW tA b sh r) (n + 1) := by
  unfold T_XReader_read at h
  refine zMT_of (own := "OrreryBox$Reader") (plainFor_of_name (by decide)) rfl (Nat.le_of_ble_eq_true rfl) (fun p e s m below meth c F hno hH => ?_)
  refine zr_aload_n F zd_XReader_read_0 rfl ?_
  refine zr_aload_n F zd_XReader_read_1 rfl ?_
  obtain ⟨le2, hs1, h⟩ := zoS_s h
  refine zr_put F 7 3 zd_XReader_read_2 (zW_o hs1 (by decide)) rfl (by decide) zw_51 rfl rfl rfl rfl (by exact (Nat.le_of_ble_eq_true rfl)) ?_
  obtain ⟨mm3, emm3, h⟩ := zoL_s h
  refine zr_norm (zW tA b sh mm3) _ (by rw [emm3]; exact zW_pR (v := (some x0_)) hs1 (by decide) (zf_R_7_3 b _ _ _)) rfl ?_
  refine zr_aload_n F zd_XReader_read_5 rfl ?_
  refine zr_iload_n F zd_XReader_read_6 rfl ?_
  obtain ⟨le5, hs4, h⟩ := zoS_s h
  refine zr_put F 7 4 zd_XReader_read_7 (zW_o hs4 (by decide)) rfl (by decide) zw_52 rfl rfl rfl rfl (by exact (Nat.le_of_ble_eq_true rfl)) ?_
  obtain ⟨mm6, emm6, h⟩ := zoL_s h
  refine zr_norm (zW tA b sh mm6) _ (by rw [emm6]; exact zW_pI (v := x1_) hs4 (by decide) (zf_I_7_4 b _ _ _)) rfl ?_
  refine zr_aload_n F zd_XReader_read_10 rfl ?_
  refine zr_pcn 11 rfl ?_
  refine zr_aload_n F zd_XReader_read_11 rfl ?_
  obtain ⟨le8, hs7, h⟩ := zoS_s h
  refine zr_put F 7 7 zd_XReader_read_12 (zW_o hs7 (by decide)) rfl (by decide) zw_55 rfl rfl rfl rfl (by exact (Nat.le_of_ble_eq_true rfl)) ?_
  obtain ⟨mm9, emm9, h⟩ := zoL_s h
  refine zr_norm (zW tA b sh mm9) _ (by rw [emm9]; exact zW_pR (v := (some x2_)) hs7 (by decide) (zf_R_7_7 b _ _ _)) rfl ?_
  refine zr_aload_n F zd_XReader_read_15 rfl ?_
  refine zr_iconstv (v := 0) F zd_XReader_read_16 (by decide) ?_
  obtain ⟨le11, hs10, h⟩ := zoS_s h
  refine zr_put F 7 5 zd_XReader_read_17 (zW_o hs10 (by decide)) rfl (by decide) zw_53 rfl rfl rfl rfl (by exact (Nat.le_of_ble_eq_true rfl)) ?_
  obtain ⟨mm12, emm12, h⟩ := zoL_s h
  refine zr_norm (zW tA b sh mm12) _ (by rw [emm12]; exact zW_pI (v := 0) hs10 (by decide) (zf_I_7_5 b _ _ _)) rfl ?_
  refine zr_aload_n F zd_XReader_read_20 rfl ?_
  refine zr_iconstv (v := 0) F zd_XReader_read_21 (by decide) ?_
  obtain ⟨le14, hs13, h⟩ := zoS_s h
  refine zr_put F 7 0 zd_XReader_read_22 (zW_o hs13 (by decide)) rfl (by decide) zw_46 rfl rfl rfl rfl (by exact (Nat.le_of_ble_eq_true rfl)) ?_
  obtain ⟨mm15, emm15, h⟩ := zoL_s h
  refine zr_norm (zW tA b sh mm15) _ (by rw [emm15]; exact zW_pI (v := 0) hs13 (by decide) (zf_I_7_0 b _ _ _)) rfl ?_
  refine zr_pcn 25 rfl ?_
  refine zr_aload_n F zd_XReader_read_25 rfl ?_
  refine zr_iconstv (v := 0) F zd_XReader_read_26 (by decide) ?_
  obtain ⟨le17, hs16, h⟩ := zoS_s h
  refine zr_put F 7 1 zd_XReader_read_27 (zW_o hs16 (by decide)) rfl (by decide) zw_48 rfl rfl rfl rfl (by exact (Nat.le_of_ble_eq_true rfl)) ?_
  obtain ⟨mm18, emm18, h⟩ := zoL_s h
  refine zr_norm (zW tA b sh mm18) _ (by rw [emm18]; exact zW_pI (v := 0) hs16 (by decide) (zf_I_7_1 b _ _ _)) rfl ?_
  refine zr_aload_n F zd_XReader_read_30 rfl ?_
  obtain ⟨le20, hs19, h⟩ := zoS_s h
  obtain ⟨a21, ea21, h⟩ := zoB_s h
  refine zr_get F 7 7 zd_XReader_read_31 (zW_o hs19 (by decide)) rfl (by decide) zw_55 rfl (by rfl) ?_
  refine zr_tor ea21 ?_
  obtain ⟨le23, hs22, h⟩ := zoS_s h
  obtain ⟨p24, ep24, h⟩ := zoB_s h
  refine zr_callVN0 F (k_XScene_clear l D tA b sh _ ep24) zd_XReader_read_34 (zW_o hs22 (by decide)) rfl zs_XReader_36 rfl zq_XScene_clear rfl rfl ⟨(Nat.le_of_ble_eq_true rfl), (Nat.le_of_ble_eq_true rfl)⟩ (Nat.le_of_ble_eq_true rfl) ⟨(Nat.le_of_ble_eq_true rfl), (Nat.le_of_ble_eq_true rfl)⟩ ?_
  refine zr_aload_n F zd_XReader_read_37 rfl ?_
  refine zr_iconstv (v := 0) F zd_XReader_read_38 (by decide) ?_
  refine zr_pcn 39 rfl ?_
  obtain ⟨le26, hs25, h⟩ := zoS_s h
  obtain ⟨p27, ep27, h⟩ := zoB_s h
  refine zr_callV0 F (k_XReader_step l D tA b sh _ ep27) zd_XReader_read_39 (zW_o hs25 (by decide)) rfl zs_XReader_41 rfl zq_XReader_step rfl rfl ⟨(Nat.le_of_ble_eq_true rfl), (Nat.le_of_ble_eq_true rfl)⟩ (Nat.le_of_ble_eq_true rfl) ⟨(Nat.le_of_ble_eq_true rfl), (Nat.le_of_ble_eq_true rfl)⟩ ?_
  refine zr_aload_n F zd_XReader_read_42 rfl ?_
  refine zr_bipushv (v := 123) F zd_XReader_read_43 (by decide) ?_
  obtain ⟨le29, hs28, h⟩ := zoS_s h
  cases ep30 : F_XReader_need sh p27 o 123 with
  | none =>
    rw [ep30] at h
    dsimp only [zoX] at h
    exact zr_thrV F hno (kT_XReader_need l D tA b sh _ hl h) zd_XReader_read_45 (zW_o hs28 (by decide)) rfl zs_XReader_45 rfl zq_XReader_need rfl rfl ⟨(Nat.le_of_ble_eq_true rfl), (Nat.le_of_ble_eq_true rfl)⟩ (Nat.le_of_ble_eq_true rfl) ⟨(Nat.le_of_ble_eq_true rfl), (Nat.le_of_ble_eq_true rfl)⟩ ⟨(Nat.le_of_ble_eq_true rfl), (Nat.le_of_ble_eq_true rfl)⟩
  | some p30 =>
    rw [ep30] at h
    dsimp only [zoX] at h
    refine zr_callV0 F (k_XReader_need l D tA b sh _ ep30) zd_XReader_read_45 (zW_o hs28 (by decide)) rfl zs_XReader_45 rfl zq_XReader_need rfl rfl ⟨(Nat.le_of_ble_eq_true rfl), (Nat.le_of_ble_eq_true rfl)⟩ (Nat.le_of_ble_eq_true rfl) ⟨(Nat.le_of_ble_eq_true rfl), (Nat.le_of_ble_eq_true rfl)⟩ ?_
    refine zr_aload_n F zd_XReader_read_48 rfl ?_
    refine zr_bipushv (v := 125) F zd_XReader_read_49 (by decide) ?_
    obtain ⟨le32, hs31, h⟩ := zoS_s h
    obtain ⟨p33, ep33, h⟩ := zoB_s h
    refine zr_callV1 F (k_XReader_sees l D tA b sh _ ep33) zd_XReader_read_51 (zW_o hs31 (by decide)) rfl zs_XReader_49 rfl zq_XReader_sees rfl rfl ⟨(Nat.le_of_ble_eq_true rfl), (Nat.le_of_ble_eq_true rfl)⟩ (Nat.le_of_ble_eq_true rfl) ⟨(Nat.le_of_ble_eq_true rfl), (Nat.le_of_ble_eq_true rfl)⟩ ?_
    refine zr_if_ne F 61 zd_XReader_read_54 (by decide) (fun hb34 => ?_) (fun hb34 => ?_)
    ·
      rw [if_neg hb34] at h
      refine zr_pcn 61 rfl ?_
      refine zr_iconstv (v := 0) F zd_XReader_read_61 (by decide) ?_
      refine zr_istore F zd_XReader_read_62 (by decide) ?_
      refine zr_iconstv (v := 0) F zd_XReader_read_64 (by decide) ?_
      refine zr_istore F zd_XReader_read_65 (by decide) ?_
      obtain ⟨q76, eq76, h⟩ := zoB_s h
      refine zr_loc (L' := [(0, .ref (b + o)), (4, .int 0), (5, .int 0)]) ⟨rfl, rfl, rfl, trivial⟩ ?_
      refine lp_T_XReader_read_67 F hl hno _ _ _ _ _ _ eq76 ?_ ?_
      ·
        intro ec
        rw [if_pos ec] at h
        refine zr_pcn 165 rfl ?_
        refine zr_iload F zd_XReader_read_165 rfl ?_
        refine zr_if_eq F 179 zd_XReader_read_167 (by decide) (fun hb77 => ?_) (fun hb77 => ?_)
        ·
          rw [if_pos hb77] at h
          refine zr_aload_n F zd_XReader_read_179 rfl ?_
          refine zr_bipushv (v := 125) F zd_XReader_read_180 (by decide) ?_
          obtain ⟨le79, hs78, h⟩ := zoS_s h
          cases ep80 : F_XReader_need sh (q76.2.2.2.2) (q76.2.1) 125 with
          | none =>
            rw [ep80] at h
            dsimp only [zoX] at h
            exact zr_thrV F hno (kT_XReader_need l D tA b sh _ hl h) zd_XReader_read_182 (zW_o hs78 (by decide)) rfl zs_XReader_45 rfl zq_XReader_need rfl rfl ⟨(Nat.le_of_ble_eq_true rfl), (Nat.le_of_ble_eq_true rfl)⟩ (Nat.le_of_ble_eq_true rfl) ⟨(Nat.le_of_ble_eq_true rfl), (Nat.le_of_ble_eq_true rfl)⟩ ⟨(Nat.le_of_ble_eq_true rfl), (Nat.le_of_ble_eq_true rfl)⟩
          | some p80 =>
            rw [ep80] at h
            dsimp only [zoX] at h
            refine zr_callV0 F (k_XReader_need l D tA b sh _ ep80) zd_XReader_read_182 (zW_o hs78 (by decide)) rfl zs_XReader_45 rfl zq_XReader_need rfl rfl ⟨(Nat.le_of_ble_eq_true rfl), (Nat.le_of_ble_eq_true rfl)⟩ (Nat.le_of_ble_eq_true rfl) ⟨(Nat.le_of_ble_eq_true rfl), (Nat.le_of_ble_eq_true rfl)⟩ ?_
            refine zr_aload_n F zd_XReader_read_185 rfl ?_
            obtain ⟨le82, hs81, h⟩ := zoS_s h
            refine zr_get F 7 5 zd_XReader_read_186 (zW_o hs81 (by decide)) rfl (by decide) zw_53 rfl (by rfl) ?_
            refine zr_aload_n F zd_XReader_read_189 rfl ?_
            refine zr_pcn 190 rfl ?_
            obtain ⟨le84, hs83, h⟩ := zoS_s h
            refine zr_get F 7 4 zd_XReader_read_190 (zW_o hs83 (by decide)) rfl (by decide) zw_52 rfl (by rfl) ?_
            refine zr_icmp_ge F 205 zd_XReader_read_193 (by decide) (fun hb85 => ?_) (fun hb85 => ?_)
            ·
              rw [if_pos hb85] at h
              cases h
            ·
              rw [if_neg hb85] at h
              refine zr_aload_n F zd_XReader_read_196 rfl ?_
              refine zr_iconstv (v := 1) F zd_XReader_read_197 (by decide) ?_
              refine zr_aload_n F zd_XReader_read_198 rfl ?_
              obtain ⟨le87, hs86, h⟩ := zoS_s h
              refine zr_get F 7 5 zd_XReader_read_199 (zW_o hs86 (by decide)) rfl (by decide) zw_53 rfl (by rfl) ?_
              obtain ⟨le89, hs88, h⟩ := zoS_s h
              exact zr_thrV F hno (kT_XReader_refuse l D tA b sh _ hl h) zd_XReader_read_202 (zW_o hs88 (by decide)) rfl zs_XReader_77 rfl zq_XReader_refuse rfl rfl ⟨(Nat.le_of_ble_eq_true rfl), (Nat.le_of_ble_eq_true rfl)⟩ (Nat.le_of_ble_eq_true rfl) ⟨(Nat.le_of_ble_eq_true rfl), (Nat.le_of_ble_eq_true rfl)⟩ ⟨(Nat.le_of_ble_eq_true rfl), (Nat.le_of_ble_eq_true rfl)⟩
        ·
          rw [if_neg hb77] at h
          refine zr_pcn 170 rfl ?_
          refine zr_aload_n F zd_XReader_read_170 rfl ?_
          refine zr_iconstv (v := 1) F zd_XReader_read_171 (by decide) ?_
          refine zr_aload_n F zd_XReader_read_172 rfl ?_
          obtain ⟨le92, hs91, h⟩ := zoS_s h
          refine zr_get F 7 5 zd_XReader_read_173 (zW_o hs91 (by decide)) rfl (by decide) zw_53 rfl (by rfl) ?_
          obtain ⟨le94, hs93, h⟩ := zoS_s h
          exact zr_thrV F hno (kT_XReader_refuse l D tA b sh _ hl h) zd_XReader_read_176 (zW_o hs93 (by decide)) rfl zs_XReader_77 rfl zq_XReader_refuse rfl rfl ⟨(Nat.le_of_ble_eq_true rfl), (Nat.le_of_ble_eq_true rfl)⟩ (Nat.le_of_ble_eq_true rfl) ⟨(Nat.le_of_ble_eq_true rfl), (Nat.le_of_ble_eq_true rfl)⟩ ⟨(Nat.le_of_ble_eq_true rfl), (Nat.le_of_ble_eq_true rfl)⟩
      ·
        intro ec
        rw [if_neg (by rw [ec]; decide)] at h
        obtain rfl := Option.some.inj h
        exact ⟨rfl, rfl⟩
    ·
      rw [if_pos hb34] at h
      refine zr_iconstv (v := 1) F zd_XReader_read_57 (by decide) ?_
      refine zr_goto F 62 zd_XReader_read_58 (by decide) ?_
      refine zr_istore F zd_XReader_read_62 (by decide) ?_
      refine zr_pcn 64 rfl ?_
      refine zr_iconstv (v := 0) F zd_XReader_read_64 (by decide) ?_
      refine zr_istore F zd_XReader_read_65 (by decide) ?_
      obtain ⟨q96, eq96, h⟩ := zoB_s h
      refine zr_loc (L' := [(0, .ref (b + o)), (4, .int 1), (5, .int 0)]) ⟨rfl, rfl, rfl, trivial⟩ ?_
      refine lp_T_XReader_read_67 F hl hno _ _ _ _ _ _ eq96 ?_ ?_
      ·
        intro ec
        rw [if_pos ec] at h
        refine zr_iload F zd_XReader_read_165 rfl ?_
        refine zr_if_eq F 179 zd_XReader_read_167 (by decide) (fun hb97 => ?_) (fun hb97 => ?_)
        ·
          rw [if_pos hb97] at h
          refine zr_aload_n F zd_XReader_read_179 rfl ?_
          refine zr_bipushv (v := 125) F zd_XReader_read_180 (by decide) ?_
          obtain ⟨le99, hs98, h⟩ := zoS_s h
          cases ep100 : F_XReader_need sh (q96.2.2.2.2) (q96.2.1) 125 with
          | none =>
            rw [ep100] at h
            dsimp only [zoX] at h
            exact zr_thrV F hno (kT_XReader_need l D tA b sh _ hl h) zd_XReader_read_182 (zW_o hs98 (by decide)) rfl zs_XReader_45 rfl zq_XReader_need rfl rfl ⟨(Nat.le_of_ble_eq_true rfl), (Nat.le_of_ble_eq_true rfl)⟩ (Nat.le_of_ble_eq_true rfl) ⟨(Nat.le_of_ble_eq_true rfl), (Nat.le_of_ble_eq_true rfl)⟩ ⟨(Nat.le_of_ble_eq_true rfl), (Nat.le_of_ble_eq_true rfl)⟩
          | some p100 =>
            rw [ep100] at h
            dsimp only [zoX] at h
            refine zr_callV0 F (k_XReader_need l D tA b sh _ ep100) zd_XReader_read_182 (zW_o hs98 (by decide)) rfl zs_XReader_45 rfl zq_XReader_need rfl rfl ⟨(Nat.le_of_ble_eq_true rfl), (Nat.le_of_ble_eq_true rfl)⟩ (Nat.le_of_ble_eq_true rfl) ⟨(Nat.le_of_ble_eq_true rfl), (Nat.le_of_ble_eq_true rfl)⟩ ?_
            refine zr_aload_n F zd_XReader_read_185 rfl ?_
            refine zr_pcn 186 rfl ?_
            obtain ⟨le102, hs101, h⟩ := zoS_s h
            refine zr_get F 7 5 zd_XReader_read_186 (zW_o hs101 (by decide)) rfl (by decide) zw_53 rfl (by rfl) ?_
            refine zr_aload_n F zd_XReader_read_189 rfl ?_
            obtain ⟨le104, hs103, h⟩ := zoS_s h
            refine zr_get F 7 4 zd_XReader_read_190 (zW_o hs103 (by decide)) rfl (by decide) zw_52 rfl (by rfl) ?_
            refine zr_icmp_ge F 205 zd_XReader_read_193 (by decide) (fun hb105 => ?_) (fun hb105 => ?_)
            ·
              rw [if_pos hb105] at h
              cases h
            ·
              rw [if_neg hb105] at h
              refine zr_aload_n F zd_XReader_read_196 rfl ?_
              refine zr_iconstv (v := 1) F zd_XReader_read_197 (by decide) ?_
              refine zr_aload_n F zd_XReader_read_198 rfl ?_
              refine zr_pcn 199 rfl ?_
              obtain ⟨le107, hs106, h⟩ := zoS_s h
              refine zr_get F 7 5 zd_XReader_read_199 (zW_o hs106 (by decide)) rfl (by decide) zw_53 rfl (by rfl) ?_
              obtain ⟨le109, hs108, h⟩ := zoS_s h
              exact zr_thrV F hno (kT_XReader_refuse l D tA b sh _ hl h) zd_XReader_read_202 (zW_o hs108 (by decide)) rfl zs_XReader_77 rfl zq_XReader_refuse rfl rfl ⟨(Nat.le_of_ble_eq_true rfl), (Nat.le_of_ble_eq_true rfl)⟩ (Nat.le_of_ble_eq_true rfl) ⟨(Nat.le_of_ble_eq_true rfl), (Nat.le_of_ble_eq_true rfl)⟩ ⟨(Nat.le_of_ble_eq_true rfl), (Nat.le_of_ble_eq_true rfl)⟩
        ·
          rw [if_neg hb97] at h
          refine zr_aload_n F zd_XReader_read_170 rfl ?_
          refine zr_iconstv (v := 1) F zd_XReader_read_171 (by decide) ?_
          refine zr_aload_n F zd_XReader_read_172 rfl ?_
          obtain ⟨le112, hs111, h⟩ := zoS_s h
          refine zr_get F 7 5 zd_XReader_read_173 (zW_o hs111 (by decide)) rfl (by decide) zw_53 rfl (by rfl) ?_
          obtain ⟨le114, hs113, h⟩ := zoS_s h
          exact zr_thrV F hno (kT_XReader_refuse l D tA b sh _ hl h) zd_XReader_read_176 (zW_o hs113 (by decide)) rfl zs_XReader_77 rfl zq_XReader_refuse rfl rfl ⟨(Nat.le_of_ble_eq_true rfl), (Nat.le_of_ble_eq_true rfl)⟩ (Nat.le_of_ble_eq_true rfl) ⟨(Nat.le_of_ble_eq_true rfl), (Nat.le_of_ble_eq_true rfl)⟩ ⟨(Nat.le_of_ble_eq_true rfl), (Nat.le_of_ble_eq_true rfl)⟩
      ·
        intro ec
        rw [if_neg (by rw [ec]; decide)] at h
        obtain rfl := Option.some.inj h
        exact ⟨rfl, rfl⟩
