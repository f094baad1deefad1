abbrev zb_XReader_readMesh : ByteArray := prog_8_method_7_code
def zy_XReader_readMesh : MethodName := ⟨"OrreryBox$Reader", "readMesh", "(LOrreryBox$Mesh;)V"⟩
theorem zc_XReader_readMesh : Cond.code zy_XReader_readMesh zb_XReader_readMesh 5 none ∈ gw := gw_t 1253 (by decide +kernel) rfl
theorem zq_XReader_readMesh : zy_XReader_readMesh.cls ≠ "java/lang/invoke/MethodHandle" ∧ zy_XReader_readMesh.cls ≠ "java/lang/invoke/VarHandle" ∧ (parseMethodDescriptor zy_XReader_readMesh.desc).map (fun d => d.parameters.length) = some 1 := by decide +kernel
theorem zd_XReader_readMesh_0 : decode zb_XReader_readMesh 0 = .ok (.aload_n 1, 1) := by decide +kernel
theorem zd_XReader_readMesh_1 : decode zb_XReader_readMesh 1 = .ok (.aload_n 0, 1) := by decide +kernel
theorem zd_XReader_readMesh_2 : decode zb_XReader_readMesh 2 = .ok (.ldc 179, 2) := by decide +kernel
theorem zd_XReader_readMesh_4 : decode zb_XReader_readMesh 4 = .ok (.iconst 0, 1) := by decide +kernel
theorem zd_XReader_readMesh_5 : decode zb_XReader_readMesh 5 = .ok (.aload_n 0, 1) := by decide +kernel
theorem zd_XReader_readMesh_6 : decode zb_XReader_readMesh 6 = .ok (.getfield 23, 3) := by decide +kernel
theorem zd_XReader_readMesh_9 : decode zb_XReader_readMesh 9 = .ok (.getfield 133, 3) := by decide +kernel
theorem zd_XReader_readMesh_12 : decode zb_XReader_readMesh 12 = .ok (.iconst 1, 1) := by decide +kernel
theorem zd_XReader_readMesh_13 : decode zb_XReader_readMesh 13 = .ok (.iaload, 1) := by decide +kernel
theorem zd_XReader_readMesh_14 : decode zb_XReader_readMesh 14 = .ok (.iconst 1, 1) := by decide +kernel
theorem zd_XReader_readMesh_15 : decode zb_XReader_readMesh 15 = .ok (.isub, 1) := by decide +kernel
theorem zd_XReader_readMesh_16 : decode zb_XReader_readMesh 16 = .ok (.invokevirtual 138, 3) := by decide +kernel
theorem zd_XReader_readMesh_19 : decode zb_XReader_readMesh 19 = .ok (.putfield 181, 3) := by decide +kernel
theorem zd_XReader_readMesh_22 : decode zb_XReader_readMesh 22 = .ok (.aload_n 0, 1) := by decide +kernel
theorem zd_XReader_readMesh_23 : decode zb_XReader_readMesh 23 = .ok (.bipush 44, 2) := by decide +kernel
theorem zd_XReader_readMesh_25 : decode zb_XReader_readMesh 25 = .ok (.invokevirtual 45, 3) := by decide +kernel
theorem zd_XReader_readMesh_28 : decode zb_XReader_readMesh 28 = .ok (.aload_n 0, 1) := by decide +kernel
theorem zd_XReader_readMesh_29 : decode zb_XReader_readMesh 29 = .ok (.ldc 185, 2) := by decide +kernel
theorem zd_XReader_readMesh_31 : decode zb_XReader_readMesh 31 = .ok (.sipush 384, 3) := by decide +kernel
theorem zd_XReader_readMesh_34 : decode zb_XReader_readMesh 34 = .ok (.iconst 3, 1) := by decide +kernel
theorem zd_XReader_readMesh_35 : decode zb_XReader_readMesh 35 = .ok (.ldc 187, 2) := by decide +kernel
theorem zd_XReader_readMesh_37 : decode zb_XReader_readMesh 37 = .ok (.ldc 188, 2) := by decide +kernel
theorem zd_XReader_readMesh_39 : decode zb_XReader_readMesh 39 = .ok (.iconst 0, 1) := by decide +kernel
theorem zd_XReader_readMesh_40 : decode zb_XReader_readMesh 40 = .ok (.invokevirtual 160, 3) := by decide +kernel
theorem zd_XReader_readMesh_43 : decode zb_XReader_readMesh 43 = .ok (.istore_n 2, 1) := by decide +kernel
theorem zd_XReader_readMesh_44 : decode zb_XReader_readMesh 44 = .ok (.aload_n 0, 1) := by decide +kernel
theorem zd_XReader_readMesh_45 : decode zb_XReader_readMesh 45 = .ok (.getfield 9, 3) := by decide +kernel
theorem zd_XReader_readMesh_48 : decode zb_XReader_readMesh 48 = .ok (.iconst 0, 1) := by decide +kernel
theorem zd_XReader_readMesh_49 : decode zb_XReader_readMesh 49 = .ok (.aload_n 1, 1) := by decide +kernel
theorem zd_XReader_readMesh_50 : decode zb_XReader_readMesh 50 = .ok (.getfield 189, 3) := by decide +kernel
theorem zd_XReader_readMesh_53 : decode zb_XReader_readMesh 53 = .ok (.iconst 0, 1) := by decide +kernel
theorem zd_XReader_readMesh_54 : decode zb_XReader_readMesh 54 = .ok (.iload_n 2, 1) := by decide +kernel
theorem zd_XReader_readMesh_55 : decode zb_XReader_readMesh 55 = .ok (.invokestatic 169, 3) := by decide +kernel
theorem zd_XReader_readMesh_58 : decode zb_XReader_readMesh 58 = .ok (.aload_n 1, 1) := by decide +kernel
theorem zd_XReader_readMesh_59 : decode zb_XReader_readMesh 59 = .ok (.iload_n 2, 1) := by decide +kernel
theorem zd_XReader_readMesh_60 : decode zb_XReader_readMesh 60 = .ok (.iconst 3, 1) := by decide +kernel
theorem zd_XReader_readMesh_61 : decode zb_XReader_readMesh 61 = .ok (.idiv, 1) := by decide +kernel
theorem zd_XReader_readMesh_62 : decode zb_XReader_readMesh 62 = .ok (.putfield 191, 3) := by decide +kernel
theorem zd_XReader_readMesh_65 : decode zb_XReader_readMesh 65 = .ok (.aload_n 0, 1) := by decide +kernel
theorem zd_XReader_readMesh_66 : decode zb_XReader_readMesh 66 = .ok (.bipush 44, 2) := by decide +kernel
theorem zd_XReader_readMesh_68 : decode zb_XReader_readMesh 68 = .ok (.invokevirtual 45, 3) := by decide +kernel
theorem zd_XReader_readMesh_71 : decode zb_XReader_readMesh 71 = .ok (.aload_n 0, 1) := by decide +kernel
theorem zd_XReader_readMesh_72 : decode zb_XReader_readMesh 72 = .ok (.ldc 194, 2) := by decide +kernel
theorem zd_XReader_readMesh_74 : decode zb_XReader_readMesh 74 = .ok (.iload_n 2, 1) := by decide +kernel
theorem zd_XReader_readMesh_75 : decode zb_XReader_readMesh 75 = .ok (.iload_n 2, 1) := by decide +kernel
theorem zd_XReader_readMesh_76 : decode zb_XReader_readMesh 76 = .ok (.ldc 196, 2) := by decide +kernel
theorem zd_XReader_readMesh_78 : decode zb_XReader_readMesh 78 = .ok (.ldc 197, 2) := by decide +kernel
theorem zd_XReader_readMesh_80 : decode zb_XReader_readMesh 80 = .ok (.iconst 0, 1) := by decide +kernel
theorem zd_XReader_readMesh_81 : decode zb_XReader_readMesh 81 = .ok (.invokevirtual 160, 3) := by decide +kernel
theorem zd_XReader_readMesh_84 : decode zb_XReader_readMesh 84 = .ok (.pop, 1) := by decide +kernel
theorem zd_XReader_readMesh_85 : decode zb_XReader_readMesh 85 = .ok (.aload_n 0, 1) := by decide +kernel
theorem zd_XReader_readMesh_86 : decode zb_XReader_readMesh 86 = .ok (.getfield 9, 3) := by decide +kernel
theorem zd_XReader_readMesh_89 : decode zb_XReader_readMesh 89 = .ok (.iconst 0, 1) := by decide +kernel
theorem zd_XReader_readMesh_90 : decode zb_XReader_readMesh 90 = .ok (.aload_n 1, 1) := by decide +kernel
theorem zd_XReader_readMesh_91 : decode zb_XReader_readMesh 91 = .ok (.getfield 198, 3) := by decide +kernel
theorem zd_XReader_readMesh_94 : decode zb_XReader_readMesh 94 = .ok (.iconst 0, 1) := by decide +kernel
theorem zd_XReader_readMesh_95 : decode zb_XReader_readMesh 95 = .ok (.iload_n 2, 1) := by decide +kernel
theorem zd_XReader_readMesh_96 : decode zb_XReader_readMesh 96 = .ok (.invokestatic 169, 3) := by decide +kernel
theorem zd_XReader_readMesh_99 : decode zb_XReader_readMesh 99 = .ok (.aload_n 0, 1) := by decide +kernel
theorem zd_XReader_readMesh_100 : decode zb_XReader_readMesh 100 = .ok (.bipush 44, 2) := by decide +kernel
theorem zd_XReader_readMesh_102 : decode zb_XReader_readMesh 102 = .ok (.invokevirtual 45, 3) := by decide +kernel
theorem zd_XReader_readMesh_105 : decode zb_XReader_readMesh 105 = .ok (.iconst 2, 1) := by decide +kernel
theorem zd_XReader_readMesh_106 : decode zb_XReader_readMesh 106 = .ok (.aload_n 1, 1) := by decide +kernel
theorem zd_XReader_readMesh_107 : decode zb_XReader_readMesh 107 = .ok (.getfield 191, 3) := by decide +kernel
theorem zd_XReader_readMesh_110 : decode zb_XReader_readMesh 110 = .ok (.imul, 1) := by decide +kernel
theorem zd_XReader_readMesh_111 : decode zb_XReader_readMesh 111 = .ok (.istore_n 3, 1) := by decide +kernel
theorem zd_XReader_readMesh_112 : decode zb_XReader_readMesh 112 = .ok (.aload_n 0, 1) := by decide +kernel
theorem zd_XReader_readMesh_113 : decode zb_XReader_readMesh 113 = .ok (.ldc 200, 2) := by decide +kernel
theorem zd_XReader_readMesh_115 : decode zb_XReader_readMesh 115 = .ok (.iload_n 3, 1) := by decide +kernel
theorem zd_XReader_readMesh_116 : decode zb_XReader_readMesh 116 = .ok (.iload_n 3, 1) := by decide +kernel
theorem zd_XReader_readMesh_117 : decode zb_XReader_readMesh 117 = .ok (.ldc 202, 2) := by decide +kernel
theorem zd_XReader_readMesh_119 : decode zb_XReader_readMesh 119 = .ok (.ldc 203, 2) := by decide +kernel
theorem zd_XReader_readMesh_121 : decode zb_XReader_readMesh 121 = .ok (.iconst 0, 1) := by decide +kernel
theorem zd_XReader_readMesh_122 : decode zb_XReader_readMesh 122 = .ok (.invokevirtual 160, 3) := by decide +kernel
theorem zd_XReader_readMesh_125 : decode zb_XReader_readMesh 125 = .ok (.pop, 1) := by decide +kernel
theorem zd_XReader_readMesh_126 : decode zb_XReader_readMesh 126 = .ok (.aload_n 0, 1) := by decide +kernel
theorem zd_XReader_readMesh_127 : decode zb_XReader_readMesh 127 = .ok (.getfield 9, 3) := by decide +kernel
theorem zd_XReader_readMesh_130 : decode zb_XReader_readMesh 130 = .ok (.iconst 0, 1) := by decide +kernel
theorem zd_XReader_readMesh_131 : decode zb_XReader_readMesh 131 = .ok (.aload_n 1, 1) := by decide +kernel
theorem zd_XReader_readMesh_132 : decode zb_XReader_readMesh 132 = .ok (.getfield 204, 3) := by decide +kernel
theorem zd_XReader_readMesh_135 : decode zb_XReader_readMesh 135 = .ok (.iconst 0, 1) := by decide +kernel
theorem zd_XReader_readMesh_136 : decode zb_XReader_readMesh 136 = .ok (.iload_n 3, 1) := by decide +kernel
theorem zd_XReader_readMesh_137 : decode zb_XReader_readMesh 137 = .ok (.invokestatic 169, 3) := by decide +kernel
theorem zd_XReader_readMesh_140 : decode zb_XReader_readMesh 140 = .ok (.aload_n 0, 1) := by decide +kernel
theorem zd_XReader_readMesh_141 : decode zb_XReader_readMesh 141 = .ok (.bipush 44, 2) := by decide +kernel
theorem zd_XReader_readMesh_143 : decode zb_XReader_readMesh 143 = .ok (.invokevirtual 45, 3) := by decide +kernel
theorem zd_XReader_readMesh_146 : decode zb_XReader_readMesh 146 = .ok (.aload_n 0, 1) := by decide +kernel
theorem zd_XReader_readMesh_147 : decode zb_XReader_readMesh 147 = .ok (.ldc 206, 2) := by decide +kernel
theorem zd_XReader_readMesh_149 : decode zb_XReader_readMesh 149 = .ok (.sipush 384, 3) := by decide +kernel
theorem zd_XReader_readMesh_152 : decode zb_XReader_readMesh 152 = .ok (.iconst 3, 1) := by decide +kernel
theorem zd_XReader_readMesh_153 : decode zb_XReader_readMesh 153 = .ok (.iconst 0, 1) := by decide +kernel
theorem zd_XReader_readMesh_154 : decode zb_XReader_readMesh 154 = .ok (.aload_n 1, 1) := by decide +kernel
theorem zd_XReader_readMesh_155 : decode zb_XReader_readMesh 155 = .ok (.getfield 191, 3) := by decide +kernel
theorem zd_XReader_readMesh_158 : decode zb_XReader_readMesh 158 = .ok (.iconst 1, 1) := by decide +kernel
theorem zd_XReader_readMesh_159 : decode zb_XReader_readMesh 159 = .ok (.isub, 1) := by decide +kernel
theorem zd_XReader_readMesh_160 : decode zb_XReader_readMesh 160 = .ok (.iconst 0, 1) := by decide +kernel
theorem zd_XReader_readMesh_161 : decode zb_XReader_readMesh 161 = .ok (.invokevirtual 160, 3) := by decide +kernel
theorem zd_XReader_readMesh_164 : decode zb_XReader_readMesh 164 = .ok (.istore 4, 2) := by decide +kernel
theorem zd_XReader_readMesh_166 : decode zb_XReader_readMesh 166 = .ok (.aload_n 0, 1) := by decide +kernel
theorem zd_XReader_readMesh_167 : decode zb_XReader_readMesh 167 = .ok (.getfield 9, 3) := by decide +kernel
theorem zd_XReader_readMesh_170 : decode zb_XReader_readMesh 170 = .ok (.iconst 0, 1) := by decide +kernel
theorem zd_XReader_readMesh_171 : decode zb_XReader_readMesh 171 = .ok (.aload_n 1, 1) := by decide +kernel
theorem zd_XReader_readMesh_172 : decode zb_XReader_readMesh 172 = .ok (.getfield 208, 3) := by decide +kernel
theorem zd_XReader_readMesh_175 : decode zb_XReader_readMesh 175 = .ok (.iconst 0, 1) := by decide +kernel
theorem zd_XReader_readMesh_176 : decode zb_XReader_readMesh 176 = .ok (.iload 4, 2) := by decide +kernel
theorem zd_XReader_readMesh_178 : decode zb_XReader_readMesh 178 = .ok (.invokestatic 169, 3) := by decide +kernel
theorem zd_XReader_readMesh_181 : decode zb_XReader_readMesh 181 = .ok (.aload_n 1, 1) := by decide +kernel
theorem zd_XReader_readMesh_182 : decode zb_XReader_readMesh 182 = .ok (.iload 4, 2) := by decide +kernel
theorem zd_XReader_readMesh_184 : decode zb_XReader_readMesh 184 = .ok (.iconst 3, 1) := by decide +kernel
theorem zd_XReader_readMesh_185 : decode zb_XReader_readMesh 185 = .ok (.idiv, 1) := by decide +kernel
theorem zd_XReader_readMesh_186 : decode zb_XReader_readMesh 186 = .ok (.putfield 210, 3) := by decide +kernel
theorem zd_XReader_readMesh_189 : decode zb_XReader_readMesh 189 = .ok (.return_, 1) := by decide +kernel
theorem zw_176 : (Jvm.Cond.fieldLink "OrreryBox$Reader" (181 : Nat) "OrreryBox$Mesh" "material" "I") ∈ gw := gw_t 176 (by decide +kernel) rfl
theorem zf_I_2_0 (b : Nat) (m : zMem) (k : Nat) (v : Int32) : (zfl b 2 m k).set 0 (.int v) = zfl b 2 (mI m k 0 v) k := by simp [zfl, mI, upd, vp_updL]
theorem zw_1204 : (Jvm.Cond.constant "OrreryBox$Reader" (187 : Nat) (-1048576 : Int32)) ∈ gw := gw_t 1204 (by decide +kernel) rfl
theorem zw_1205 : (Jvm.Cond.constant "OrreryBox$Reader" (188 : Nat) (1048576 : Int32)) ∈ gw := gw_t 1205 (by decide +kernel) rfl
theorem zw_183 : (Jvm.Cond.fieldLink "OrreryBox$Reader" (189 : Nat) "OrreryBox$Mesh" "points" "[I") ∈ gw := gw_t 183 (by decide +kernel) rfl
theorem zw_178 : (Jvm.Cond.fieldLink "OrreryBox$Reader" (191 : Nat) "OrreryBox$Mesh" "pointCount" "I") ∈ gw := gw_t 178 (by decide +kernel) rfl
theorem zf_I_2_1 (b : Nat) (m : zMem) (k : Nat) (v : Int32) : (zfl b 2 m k).set 1 (.int v) = zfl b 2 (mI m k 1 v) k := by simp [zfl, mI, upd, vp_updL]
theorem zw_1216 : (Jvm.Cond.constant "OrreryBox$Reader" (196 : Nat) (-65536 : Int32)) ∈ gw := gw_t 1216 (by decide +kernel) rfl
theorem zw_1217 : (Jvm.Cond.constant "OrreryBox$Reader" (197 : Nat) (65536 : Int32)) ∈ gw := gw_t 1217 (by decide +kernel) rfl
theorem zw_186 : (Jvm.Cond.fieldLink "OrreryBox$Reader" (198 : Nat) "OrreryBox$Mesh" "normals" "[I") ∈ gw := gw_t 186 (by decide +kernel) rfl
theorem zw_1258 : (Jvm.Cond.constant "OrreryBox$Reader" (202 : Nat) (-131072 : Int32)) ∈ gw := gw_t 1258 (by decide +kernel) rfl
theorem zw_1259 : (Jvm.Cond.constant "OrreryBox$Reader" (203 : Nat) (131072 : Int32)) ∈ gw := gw_t 1259 (by decide +kernel) rfl
theorem zw_189 : (Jvm.Cond.fieldLink "OrreryBox$Reader" (204 : Nat) "OrreryBox$Mesh" "places" "[I") ∈ gw := gw_t 189 (by decide +kernel) rfl
theorem zw_192 : (Jvm.Cond.fieldLink "OrreryBox$Reader" (208 : Nat) "OrreryBox$Mesh" "faces" "[I") ∈ gw := gw_t 192 (by decide +kernel) rfl
theorem zw_180 : (Jvm.Cond.fieldLink "OrreryBox$Reader" (210 : Nat) "OrreryBox$Mesh" "faceCount" "I") ∈ gw := gw_t 180 (by decide +kernel) rfl
theorem zf_I_2_2 (b : Nat) (m : zMem) (k : Nat) (v : Int32) : (zfl b 2 m k).set 2 (.int v) = zfl b 2 (mI m k 2 v) k := by simp [zfl, mI, upd, vp_updL]
def F_XReader_readMesh (sh : zSh) (mm : zMem) (o : Nat) (x0_ : Nat) : Option zMem := zoS (sh o) 7 (fun le2 => Option.bind (mm.2.2 o 7) (fun a3 => zoS (sh a3) 8 (fun le5 => Option.bind (mm.2.2 a3 0) (fun a6 => zoS (sh a6) 100 (fun le8 => if (1 : Int32) < 0 ∨ le8 ≤ (1 : Int32).toNatClampNeg then none else zoS (sh o) 7 (fun le11 => zoL ((mm.1 a6 (1 : Int32).toNatClampNeg) - 1) (fun x12 => Option.bind (F_XReader_number sh mm o 22 0 x12) (fun p13 => zoS (sh x0_) 2 (fun le15 => zoL (mI (p13.2) x0_ 0 (p13.1)) (fun mm16 => zoS (sh o) 7 (fun le18 => Option.bind (F_XReader_need sh mm16 o 44) (fun p19 => zoS (sh o) 7 (fun le21 => Option.bind (F_XReader_numbers sh p19 o 23 384 3 (-1048576) 1048576 0) (fun p22 => zoS (sh o) 7 (fun le24 => Option.bind ((p22.2).2.2 o 2) (fun a25 => zoS (sh x0_) 2 (fun le27 => Option.bind ((p22.2).2.2 x0_ 3) (fun a28 => zoS (sh a25) 100 (fun le29 => zoS (sh a28) 100 (fun le31 => if ¬ (0 : Int32) < 0 ∧ ¬ (0 : Int32) < 0 ∧ ¬ (p22.1 : Int32) < 0 ∧ (0 : Int32).toNatClampNeg + (p22.1 : Int32).toNatClampNeg ≤ le29 ∧ (0 : Int32).toNatClampNeg + (p22.1 : Int32).toNatClampNeg ≤ le31 then zoL (mC (p22.2) a25 a28 (0 : Int32).toNatClampNeg (0 : Int32).toNatClampNeg (p22.1 : Int32).toNatClampNeg) (fun mm34 => zoL (p22.1 / 3) (fun x35 => zoS (sh x0_) 2 (fun le37 => zoL (mI mm34 x0_ 1 x35) (fun mm38 => zoS (sh o) 7 (fun le40 => Option.bind (F_XReader_need sh mm38 o 44) (fun p41 => zoS (sh o) 7 (fun le43 => Option.bind (F_XReader_numbers sh p41 o 24 (p22.1) (p22.1) (-65536) 65536 0) (fun p44 => zoS (sh o) 7 (fun le46 => Option.bind ((p44.2).2.2 o 2) (fun a47 => zoS (sh x0_) 2 (fun le49 => Option.bind ((p44.2).2.2 x0_ 4) (fun a50 => zoS (sh a47) 100 (fun le51 => zoS (sh a50) 100 (fun le53 => if ¬ (0 : Int32) < 0 ∧ ¬ (0 : Int32) < 0 ∧ ¬ (p22.1 : Int32) < 0 ∧ (0 : Int32).toNatClampNeg + (p22.1 : Int32).toNatClampNeg ≤ le51 ∧ (0 : Int32).toNatClampNeg + (p22.1 : Int32).toNatClampNeg ≤ le53 then zoL (mC (p44.2) a47 a50 (0 : Int32).toNatClampNeg (0 : Int32).toNatClampNeg (p22.1 : Int32).toNatClampNeg) (fun mm56 => zoS (sh o) 7 (fun le58 => Option.bind (F_XReader_need sh mm56 o 44) (fun p59 => zoS (sh x0_) 2 (fun le61 => zoL (2 * (p59.1 x0_ 1)) (fun x62 => zoS (sh o) 7 (fun le64 => Option.bind (F_XReader_numbers sh p59 o 25 x62 x62 (-131072) 131072 0) (fun p65 => zoS (sh o) 7 (fun le67 => Option.bind ((p65.2).2.2 o 2) (fun a68 => zoS (sh x0_) 2 (fun le70 => Option.bind ((p65.2).2.2 x0_ 5) (fun a71 => zoS (sh a68) 100 (fun le72 => zoS (sh a71) 100 (fun le74 => if ¬ (0 : Int32) < 0 ∧ ¬ (0 : Int32) < 0 ∧ ¬ (x62 : Int32) < 0 ∧ (0 : Int32).toNatClampNeg + (x62 : Int32).toNatClampNeg ≤ le72 ∧ (0 : Int32).toNatClampNeg + (x62 : Int32).toNatClampNeg ≤ le74 then zoL (mC (p65.2) a68 a71 (0 : Int32).toNatClampNeg (0 : Int32).toNatClampNeg (x62 : Int32).toNatClampNeg) (fun mm77 => zoS (sh o) 7 (fun le79 => Option.bind (F_XReader_need sh mm77 o 44) (fun p80 => zoS (sh x0_) 2 (fun le82 => zoS (sh o) 7 (fun le84 => Option.bind (F_XReader_numbers sh p80 o 26 384 3 0 ((p80.1 x0_ 1) - 1) 0) (fun p85 => zoS (sh o) 7 (fun le87 => Option.bind ((p85.2).2.2 o 2) (fun a88 => zoS (sh x0_) 2 (fun le90 => Option.bind ((p85.2).2.2 x0_ 6) (fun a91 => zoS (sh a88) 100 (fun le92 => zoS (sh a91) 100 (fun le94 => if ¬ (0 : Int32) < 0 ∧ ¬ (0 : Int32) < 0 ∧ ¬ (p85.1 : Int32) < 0 ∧ (0 : Int32).toNatClampNeg + (p85.1 : Int32).toNatClampNeg ≤ le92 ∧ (0 : Int32).toNatClampNeg + (p85.1 : Int32).toNatClampNeg ≤ le94 then zoL (mC (p85.2) a88 a91 (0 : Int32).toNatClampNeg (0 : Int32).toNatClampNeg (p85.1 : Int32).toNatClampNeg) (fun mm97 => zoL (p85.1 / 3) (fun x98 => zoS (sh x0_) 2 (fun le100 => zoL (mI mm97 x0_ 2 x98) (fun mm101 => some mm101)))) else none)))))))))))) else none))))))))))))) else none)))))))))))))) else none))))))))))))))))))))
set_option maxHeartbeats 4000000 in
set_option maxRecDepth 100000 in
theorem k_XReader_readMesh (l : Launch) (D : va_G) (tA : Nat → ClassId) (b : Nat) (sh : zSh) (n : Nat) {mm : zMem} {o : Nat} {x0_ : Nat} {r : zMem} (h : F_XReader_readMesh sh mm o x0_ = some r) : zM l D tA b zy_XReader_readMesh zb_XReader_readMesh 5 none 7 158 0 0 [.ref (b + o), .ref (b + x0_)] (zW tA b sh mm) n (zE none (zW tA b sh r) n) := by
  unfold F_XReader_readMesh at h
  refine zM_of (own := "OrreryBox$Reader") (plainFor_of_name (by decide)) rfl (Nat.le_of_ble_eq_true rfl) (fun p e s m below meth c F hr hin hH => ?_)
  refine zr_aload_n F zd_XReader_readMesh_0 rfl ?_
  refine zr_aload_n F zd_XReader_readMesh_1 rfl ?_
  refine zr_ldcS F 22 "material" zd_XReader_readMesh_2 (by decide +kernel) ?_
  refine zr_iconstv (v := 0) F zd_XReader_readMesh_4 (by decide) ?_
  refine zr_aload_n F zd_XReader_readMesh_5 rfl ?_
  obtain ⟨le2, hs1, h⟩ := zoS_s h
  obtain ⟨a3, ea3, h⟩ := zoB_s h
  refine zr_get F 7 7 zd_XReader_readMesh_6 (zW_o hs1 (by decide)) rfl (by decide) zw_55 rfl (by rfl) ?_
  refine zr_tor ea3 ?_
  obtain ⟨le5, hs4, h⟩ := zoS_s h
  obtain ⟨a6, ea6, h⟩ := zoB_s h
  refine zr_get F 8 0 zd_XReader_readMesh_9 (zW_o hs4 (by decide)) rfl (by decide) zw_284 rfl (by rfl) ?_
  refine zr_tor ea6 ?_
  refine zr_pcn 12 rfl ?_
  refine zr_iconstv (v := 1) F zd_XReader_readMesh_12 (by decide) ?_
  obtain ⟨le8, hs7, h⟩ := zoS_s h
  obtain ⟨hi9, h⟩ := zoI_s h
  refine zr_iald F zd_XReader_readMesh_13 (zW_a0 hs7) hi9 ?_
  refine zr_iconstv (v := 1) F zd_XReader_readMesh_14 (by decide) ?_
  refine zr_isub F zd_XReader_readMesh_15 ?_
  obtain ⟨le11, hs10, h⟩ := zoS_s h
  obtain ⟨x12, ex12, h⟩ := zoL_s h
  rw [← ex12]
  obtain ⟨p13, ep13, h⟩ := zoB_s h
  refine zr_callV1 F (k_XReader_number l D tA b sh _ ep13) zd_XReader_readMesh_16 (zW_o hs10 (by decide)) rfl zs_XReader_138 rfl zq_XReader_number rfl rfl ⟨(Nat.le_of_ble_eq_true rfl), (Nat.le_of_ble_eq_true rfl)⟩ (Nat.le_of_ble_eq_true rfl) ⟨(Nat.le_of_ble_eq_true rfl), (Nat.le_of_ble_eq_true rfl)⟩ ?_
  obtain ⟨le15, hs14, h⟩ := zoS_s h
  refine zr_put F 2 0 zd_XReader_readMesh_19 (zW_o hs14 (by decide)) rfl (by decide) zw_176 rfl rfl rfl rfl (by exact (Nat.le_of_ble_eq_true rfl)) ?_
  obtain ⟨mm16, emm16, h⟩ := zoL_s h
  refine zr_norm (zW tA b sh mm16) _ (by rw [emm16]; exact zW_pI (v := (p13.1)) hs14 (by decide) (zf_I_2_0 b _ _ _)) rfl ?_
  refine zr_aload_n F zd_XReader_readMesh_22 rfl ?_
  refine zr_bipushv (v := 44) F zd_XReader_readMesh_23 (by decide) ?_
  refine zr_pcn 25 rfl ?_
  obtain ⟨le18, hs17, h⟩ := zoS_s h
  obtain ⟨p19, ep19, h⟩ := zoB_s h
  refine zr_callV0 F (k_XReader_need l D tA b sh _ ep19) zd_XReader_readMesh_25 (zW_o hs17 (by decide)) rfl zs_XReader_45 rfl zq_XReader_need rfl rfl ⟨(Nat.le_of_ble_eq_true rfl), (Nat.le_of_ble_eq_true rfl)⟩ (Nat.le_of_ble_eq_true rfl) ⟨(Nat.le_of_ble_eq_true rfl), (Nat.le_of_ble_eq_true rfl)⟩ ?_
  refine zr_aload_n F zd_XReader_readMesh_28 rfl ?_
  refine zr_ldcS F 23 "points" zd_XReader_readMesh_29 (by decide +kernel) ?_
  refine zr_sipushv (v := 384) F zd_XReader_readMesh_31 (by decide) ?_
  refine zr_iconstv (v := 3) F zd_XReader_readMesh_34 (by decide) ?_
  refine zr_ldc F zd_XReader_readMesh_35 zw_1204 ?_
  refine zr_ldc F zd_XReader_readMesh_37 zw_1205 ?_
  refine zr_iconstv (v := 0) F zd_XReader_readMesh_39 (by decide) ?_
  refine zr_pcn 40 rfl ?_
  obtain ⟨le21, hs20, h⟩ := zoS_s h
  obtain ⟨p22, ep22, h⟩ := zoB_s h
  refine zr_callV1 F (k_XReader_numbers l D tA b sh _ ep22) zd_XReader_readMesh_40 (zW_o hs20 (by decide)) rfl zs_XReader_160 rfl zq_XReader_numbers rfl rfl ⟨(Nat.le_of_ble_eq_true rfl), (Nat.le_of_ble_eq_true rfl)⟩ (Nat.le_of_ble_eq_true rfl) ⟨(Nat.le_of_ble_eq_true rfl), (Nat.le_of_ble_eq_true rfl)⟩ ?_
  refine zr_istore_n F zd_XReader_readMesh_43 (by decide) ?_
  refine zr_aload_n F zd_XReader_readMesh_44 rfl ?_
  obtain ⟨le24, hs23, h⟩ := zoS_s h
  obtain ⟨a25, ea25, h⟩ := zoB_s h
  refine zr_get F 7 2 zd_XReader_readMesh_45 (zW_o hs23 (by decide)) rfl (by decide) zw_50 rfl (by rfl) ?_
  refine zr_tor ea25 ?_
  refine zr_iconstv (v := 0) F zd_XReader_readMesh_48 (by decide) ?_
  refine zr_aload_n F zd_XReader_readMesh_49 rfl ?_
  obtain ⟨le27, hs26, h⟩ := zoS_s h
  obtain ⟨a28, ea28, h⟩ := zoB_s h
  refine zr_get F 2 3 zd_XReader_readMesh_50 (zW_o hs26 (by decide)) rfl (by decide) zw_183 rfl (by rfl) ?_
  refine zr_tor ea28 ?_
  refine zr_iconstv (v := 0) F zd_XReader_readMesh_53 (by decide) ?_
  refine zr_pcn 54 rfl ?_
  refine zr_iload_n F zd_XReader_readMesh_54 rfl ?_
  obtain ⟨le29, hs30, h⟩ := zoS_s h
  obtain ⟨le31, hs32, h⟩ := zoS_s h
  obtain ⟨hc33, h⟩ := zoT_s h
  obtain ⟨mm34, emm34, h⟩ := zoL_s h
  refine zr_copy F zd_XReader_readMesh_55 zw_1202 zw_724 zw_723 zw_26 (zW_a0 hs30) (zW_a0 hs32) hc33.1 hc33.2.1 hc33.2.2.1 hc33.2.2.2.1 hc33.2.2.2.2 (Nat.le_of_ble_eq_true rfl) (Nat.le_of_ble_eq_true rfl) ?_
  refine zr_norm (zW tA b sh mm34) _ (by rw [emm34]; exact zW_c hs32) rfl ?_
  refine zr_aload_n F zd_XReader_readMesh_58 rfl ?_
  refine zr_iload_n F zd_XReader_readMesh_59 rfl ?_
  refine zr_iconstv (v := 3) F zd_XReader_readMesh_60 (by decide) ?_
  refine zr_idiv F zd_XReader_readMesh_61 (by decide) ?_
  obtain ⟨x35, ex35, h⟩ := zoL_s h
  rw [← ex35]
  obtain ⟨le37, hs36, h⟩ := zoS_s h
  refine zr_put F 2 1 zd_XReader_readMesh_62 (zW_o hs36 (by decide)) rfl (by decide) zw_178 rfl rfl rfl rfl (by exact (Nat.le_of_ble_eq_true rfl)) ?_
  obtain ⟨mm38, emm38, h⟩ := zoL_s h
  refine zr_norm (zW tA b sh mm38) _ (by rw [emm38]; exact zW_pI (v := x35) hs36 (by decide) (zf_I_2_1 b _ _ _)) rfl ?_
  refine zr_aload_n F zd_XReader_readMesh_65 rfl ?_
  refine zr_pcn 66 rfl ?_
  refine zr_bipushv (v := 44) F zd_XReader_readMesh_66 (by decide) ?_
  obtain ⟨le40, hs39, h⟩ := zoS_s h
  obtain ⟨p41, ep41, h⟩ := zoB_s h
  refine zr_callV0 F (k_XReader_need l D tA b sh _ ep41) zd_XReader_readMesh_68 (zW_o hs39 (by decide)) rfl zs_XReader_45 rfl zq_XReader_need rfl rfl ⟨(Nat.le_of_ble_eq_true rfl), (Nat.le_of_ble_eq_true rfl)⟩ (Nat.le_of_ble_eq_true rfl) ⟨(Nat.le_of_ble_eq_true rfl), (Nat.le_of_ble_eq_true rfl)⟩ ?_
  refine zr_aload_n F zd_XReader_readMesh_71 rfl ?_
  refine zr_ldcS F 24 "normals" zd_XReader_readMesh_72 (by decide +kernel) ?_
  refine zr_iload_n F zd_XReader_readMesh_74 rfl ?_
  refine zr_iload_n F zd_XReader_readMesh_75 rfl ?_
  refine zr_ldc F zd_XReader_readMesh_76 zw_1216 ?_
  refine zr_ldc F zd_XReader_readMesh_78 zw_1217 ?_
  refine zr_pcn 80 rfl ?_
  refine zr_iconstv (v := 0) F zd_XReader_readMesh_80 (by decide) ?_
  obtain ⟨le43, hs42, h⟩ := zoS_s h
  obtain ⟨p44, ep44, h⟩ := zoB_s h
  refine zr_callV1 F (k_XReader_numbers l D tA b sh _ ep44) zd_XReader_readMesh_81 (zW_o hs42 (by decide)) rfl zs_XReader_160 rfl zq_XReader_numbers rfl rfl ⟨(Nat.le_of_ble_eq_true rfl), (Nat.le_of_ble_eq_true rfl)⟩ (Nat.le_of_ble_eq_true rfl) ⟨(Nat.le_of_ble_eq_true rfl), (Nat.le_of_ble_eq_true rfl)⟩ ?_
  refine zr_pop F zd_XReader_readMesh_84 rfl ?_
  refine zr_aload_n F zd_XReader_readMesh_85 rfl ?_
  obtain ⟨le46, hs45, h⟩ := zoS_s h
  obtain ⟨a47, ea47, h⟩ := zoB_s h
  refine zr_get F 7 2 zd_XReader_readMesh_86 (zW_o hs45 (by decide)) rfl (by decide) zw_50 rfl (by rfl) ?_
  refine zr_tor ea47 ?_
  refine zr_iconstv (v := 0) F zd_XReader_readMesh_89 (by decide) ?_
  refine zr_aload_n F zd_XReader_readMesh_90 rfl ?_
  obtain ⟨le49, hs48, h⟩ := zoS_s h
  obtain ⟨a50, ea50, h⟩ := zoB_s h
  refine zr_get F 2 4 zd_XReader_readMesh_91 (zW_o hs48 (by decide)) rfl (by decide) zw_186 rfl (by rfl) ?_
  refine zr_tor ea50 ?_
  refine zr_pcn 94 rfl ?_
  refine zr_iconstv (v := 0) F zd_XReader_readMesh_94 (by decide) ?_
  refine zr_iload_n F zd_XReader_readMesh_95 rfl ?_
  obtain ⟨le51, hs52, h⟩ := zoS_s h
  obtain ⟨le53, hs54, h⟩ := zoS_s h
  obtain ⟨hc55, h⟩ := zoT_s h
  obtain ⟨mm56, emm56, h⟩ := zoL_s h
  refine zr_copy F zd_XReader_readMesh_96 zw_1202 zw_724 zw_723 zw_26 (zW_a0 hs52) (zW_a0 hs54) hc55.1 hc55.2.1 hc55.2.2.1 hc55.2.2.2.1 hc55.2.2.2.2 (Nat.le_of_ble_eq_true rfl) (Nat.le_of_ble_eq_true rfl) ?_
  refine zr_norm (zW tA b sh mm56) _ (by rw [emm56]; exact zW_c hs54) rfl ?_
  refine zr_aload_n F zd_XReader_readMesh_99 rfl ?_
  refine zr_bipushv (v := 44) F zd_XReader_readMesh_100 (by decide) ?_
  obtain ⟨le58, hs57, h⟩ := zoS_s h
  obtain ⟨p59, ep59, h⟩ := zoB_s h
  refine zr_callV0 F (k_XReader_need l D tA b sh _ ep59) zd_XReader_readMesh_102 (zW_o hs57 (by decide)) rfl zs_XReader_45 rfl zq_XReader_need rfl rfl ⟨(Nat.le_of_ble_eq_true rfl), (Nat.le_of_ble_eq_true rfl)⟩ (Nat.le_of_ble_eq_true rfl) ⟨(Nat.le_of_ble_eq_true rfl), (Nat.le_of_ble_eq_true rfl)⟩ ?_
  refine zr_iconstv (v := 2) F zd_XReader_readMesh_105 (by decide) ?_
  refine zr_aload_n F zd_XReader_readMesh_106 rfl ?_
  refine zr_pcn 107 rfl ?_
  obtain ⟨le61, hs60, h⟩ := zoS_s h
  refine zr_get F 2 1 zd_XReader_readMesh_107 (zW_o hs60 (by decide)) rfl (by decide) zw_178 rfl (by rfl) ?_
  refine zr_imul F zd_XReader_readMesh_110 ?_
  obtain ⟨x62, ex62, h⟩ := zoL_s h
  rw [← ex62]
  refine zr_istore_n F zd_XReader_readMesh_111 (by decide) ?_
  refine zr_aload_n F zd_XReader_readMesh_112 rfl ?_
  refine zr_ldcS F 25 "places" zd_XReader_readMesh_113 (by decide +kernel) ?_
  refine zr_iload_n F zd_XReader_readMesh_115 rfl ?_
  refine zr_iload_n F zd_XReader_readMesh_116 rfl ?_
  refine zr_ldc F zd_XReader_readMesh_117 zw_1258 ?_
  refine zr_pcn 119 rfl ?_
  refine zr_ldc F zd_XReader_readMesh_119 zw_1259 ?_
  refine zr_iconstv (v := 0) F zd_XReader_readMesh_121 (by decide) ?_
  obtain ⟨le64, hs63, h⟩ := zoS_s h
  obtain ⟨p65, ep65, h⟩ := zoB_s h
  refine zr_callV1 F (k_XReader_numbers l D tA b sh _ ep65) zd_XReader_readMesh_122 (zW_o hs63 (by decide)) rfl zs_XReader_160 rfl zq_XReader_numbers rfl rfl ⟨(Nat.le_of_ble_eq_true rfl), (Nat.le_of_ble_eq_true rfl)⟩ (Nat.le_of_ble_eq_true rfl) ⟨(Nat.le_of_ble_eq_true rfl), (Nat.le_of_ble_eq_true rfl)⟩ ?_
  refine zr_pop F zd_XReader_readMesh_125 rfl ?_
  refine zr_aload_n F zd_XReader_readMesh_126 rfl ?_
  obtain ⟨le67, hs66, h⟩ := zoS_s h
  obtain ⟨a68, ea68, h⟩ := zoB_s h
  refine zr_get F 7 2 zd_XReader_readMesh_127 (zW_o hs66 (by decide)) rfl (by decide) zw_50 rfl (by rfl) ?_
  refine zr_tor ea68 ?_
  refine zr_iconstv (v := 0) F zd_XReader_readMesh_130 (by decide) ?_
  refine zr_aload_n F zd_XReader_readMesh_131 rfl ?_
  refine zr_pcn 132 rfl ?_
  obtain ⟨le70, hs69, h⟩ := zoS_s h
  obtain ⟨a71, ea71, h⟩ := zoB_s h
  refine zr_get F 2 5 zd_XReader_readMesh_132 (zW_o hs69 (by decide)) rfl (by decide) zw_189 rfl (by rfl) ?_
  refine zr_tor ea71 ?_
  refine zr_iconstv (v := 0) F zd_XReader_readMesh_135 (by decide) ?_
  refine zr_iload_n F zd_XReader_readMesh_136 rfl ?_
  obtain ⟨le72, hs73, h⟩ := zoS_s h
  obtain ⟨le74, hs75, h⟩ := zoS_s h
  obtain ⟨hc76, h⟩ := zoT_s h
  obtain ⟨mm77, emm77, h⟩ := zoL_s h
  refine zr_copy F zd_XReader_readMesh_137 zw_1202 zw_724 zw_723 zw_26 (zW_a0 hs73) (zW_a0 hs75) hc76.1 hc76.2.1 hc76.2.2.1 hc76.2.2.2.1 hc76.2.2.2.2 (Nat.le_of_ble_eq_true rfl) (Nat.le_of_ble_eq_true rfl) ?_
  refine zr_norm (zW tA b sh mm77) _ (by rw [emm77]; exact zW_c hs75) rfl ?_
  refine zr_aload_n F zd_XReader_readMesh_140 rfl ?_
  refine zr_bipushv (v := 44) F zd_XReader_readMesh_141 (by decide) ?_
  obtain ⟨le79, hs78, h⟩ := zoS_s h
  obtain ⟨p80, ep80, h⟩ := zoB_s h
  refine zr_callV0 F (k_XReader_need l D tA b sh _ ep80) zd_XReader_readMesh_143 (zW_o hs78 (by decide)) rfl zs_XReader_45 rfl zq_XReader_need rfl rfl ⟨(Nat.le_of_ble_eq_true rfl), (Nat.le_of_ble_eq_true rfl)⟩ (Nat.le_of_ble_eq_true rfl) ⟨(Nat.le_of_ble_eq_true rfl), (Nat.le_of_ble_eq_true rfl)⟩ ?_
  refine zr_aload_n F zd_XReader_readMesh_146 rfl ?_
  refine zr_pcn 147 rfl ?_
  refine zr_ldcS F 26 "faces" zd_XReader_readMesh_147 (by decide +kernel) ?_
  refine zr_sipushv (v := 384) F zd_XReader_readMesh_149 (by decide) ?_
  refine zr_iconstv (v := 3) F zd_XReader_readMesh_152 (by decide) ?_
  refine zr_iconstv (v := 0) F zd_XReader_readMesh_153 (by decide) ?_
  refine zr_aload_n F zd_XReader_readMesh_154 rfl ?_
  obtain ⟨le82, hs81, h⟩ := zoS_s h
  refine zr_get F 2 1 zd_XReader_readMesh_155 (zW_o hs81 (by decide)) rfl (by decide) zw_178 rfl (by rfl) ?_
  refine zr_iconstv (v := 1) F zd_XReader_readMesh_158 (by decide) ?_
  refine zr_isub F zd_XReader_readMesh_159 ?_
  refine zr_pcn 160 rfl ?_
  refine zr_iconstv (v := 0) F zd_XReader_readMesh_160 (by decide) ?_
  obtain ⟨le84, hs83, h⟩ := zoS_s h
  obtain ⟨p85, ep85, h⟩ := zoB_s h
  refine zr_callV1 F (k_XReader_numbers l D tA b sh _ ep85) zd_XReader_readMesh_161 (zW_o hs83 (by decide)) rfl zs_XReader_160 rfl zq_XReader_numbers rfl rfl ⟨(Nat.le_of_ble_eq_true rfl), (Nat.le_of_ble_eq_true rfl)⟩ (Nat.le_of_ble_eq_true rfl) ⟨(Nat.le_of_ble_eq_true rfl), (Nat.le_of_ble_eq_true rfl)⟩ ?_
  refine zr_istore F zd_XReader_readMesh_164 (by decide) ?_
  refine zr_loc (L' := [(0, .ref (b + o)), (1, .ref (b + x0_)), (4, .int (p85.1))]) ⟨rfl, rfl, rfl, trivial⟩ ?_
  refine zr_aload_n F zd_XReader_readMesh_166 rfl ?_
  obtain ⟨le87, hs86, h⟩ := zoS_s h
  obtain ⟨a88, ea88, h⟩ := zoB_s h
  refine zr_get F 7 2 zd_XReader_readMesh_167 (zW_o hs86 (by decide)) rfl (by decide) zw_50 rfl (by rfl) ?_
  refine zr_tor ea88 ?_
  refine zr_iconstv (v := 0) F zd_XReader_readMesh_170 (by decide) ?_
  refine zr_aload_n F zd_XReader_readMesh_171 rfl ?_
  obtain ⟨le90, hs89, h⟩ := zoS_s h
  obtain ⟨a91, ea91, h⟩ := zoB_s h
  refine zr_get F 2 6 zd_XReader_readMesh_172 (zW_o hs89 (by decide)) rfl (by decide) zw_192 rfl (by rfl) ?_
  refine zr_tor ea91 ?_
  refine zr_pcn 175 rfl ?_
  refine zr_iconstv (v := 0) F zd_XReader_readMesh_175 (by decide) ?_
  refine zr_iload F zd_XReader_readMesh_176 rfl ?_
  obtain ⟨le92, hs93, h⟩ := zoS_s h
  obtain ⟨le94, hs95, h⟩ := zoS_s h
  obtain ⟨hc96, h⟩ := zoT_s h
  obtain ⟨mm97, emm97, h⟩ := zoL_s h
  refine zr_copy F zd_XReader_readMesh_178 zw_1202 zw_724 zw_723 zw_26 (zW_a0 hs93) (zW_a0 hs95) hc96.1 hc96.2.1 hc96.2.2.1 hc96.2.2.2.1 hc96.2.2.2.2 (Nat.le_of_ble_eq_true rfl) (Nat.le_of_ble_eq_true rfl) ?_
  refine zr_norm (zW tA b sh mm97) _ (by rw [emm97]; exact zW_c hs95) rfl ?_
  refine zr_aload_n F zd_XReader_readMesh_181 rfl ?_
  refine zr_iload F zd_XReader_readMesh_182 rfl ?_
  refine zr_iconstv (v := 3) F zd_XReader_readMesh_184 (by decide) ?_
  refine zr_idiv F zd_XReader_readMesh_185 (by decide) ?_
  obtain ⟨x98, ex98, h⟩ := zoL_s h
  rw [← ex98]
  obtain ⟨le100, hs99, h⟩ := zoS_s h
  refine zr_put F 2 2 zd_XReader_readMesh_186 (zW_o hs99 (by decide)) rfl (by decide) zw_180 rfl rfl rfl rfl (by exact (Nat.le_of_ble_eq_true rfl)) ?_
  obtain ⟨mm101, emm101, h⟩ := zoL_s h
  refine zr_norm (zW tA b sh mm101) _ (by rw [emm101]; exact zW_pI (v := x98) hs99 (by decide) (zf_I_2_2 b _ _ _)) rfl ?_
  refine zr_pcn 189 rfl ?_
  obtain rfl := Option.some.inj h
  exact zr_vret F hr zd_XReader_readMesh_189 (Nat.le_of_ble_eq_true rfl) (Nat.le_of_ble_eq_true rfl) ⟨rfl, rfl, rfl⟩
def T_XReader_readMesh (sh : zSh) (mm : zMem) (o : Nat) (x0_ : Nat) : Option zMem := zoS (sh o) 7 (fun le2 => Option.bind (mm.2.2 o 7) (fun a3 => zoS (sh a3) 8 (fun le5 => Option.bind (mm.2.2 a3 0) (fun a6 => zoS (sh a6) 100 (fun le8 => if (1 : Int32) < 0 ∨ le8 ≤ (1 : Int32).toNatClampNeg then none else zoS (sh o) 7 (fun le11 => zoL ((mm.1 a6 (1 : Int32).toNatClampNeg) - 1) (fun x12 => zoX (F_XReader_number sh mm o 22 0 x12) (T_XReader_number sh mm o 22 0 x12) (fun p13 => zoS (sh x0_) 2 (fun le15 => zoL (mI (p13.2) x0_ 0 (p13.1)) (fun mm16 => zoS (sh o) 7 (fun le18 => zoX (F_XReader_need sh mm16 o 44) (T_XReader_need sh mm16 o 44) (fun p19 => zoS (sh o) 7 (fun le21 => zoX (F_XReader_numbers sh p19 o 23 384 3 (-1048576) 1048576 0) (T_XReader_numbers sh p19 o 23 384 3 (-1048576) 1048576 0) (fun p22 => zoS (sh o) 7 (fun le24 => Option.bind ((p22.2).2.2 o 2) (fun a25 => zoS (sh x0_) 2 (fun le27 => Option.bind ((p22.2).2.2 x0_ 3) (fun a28 => zoS (sh a25) 100 (fun le29 => zoS (sh a28) 100 (fun le31 => if ¬ (0 : Int32) < 0 ∧ ¬ (0 : Int32) < 0 ∧ ¬ (p22.1 : Int32) < 0 ∧ (0 : Int32).toNatClampNeg + (p22.1 : Int32).toNatClampNeg ≤ le29 ∧ (0 : Int32).toNatClampNeg + (p22.1 : Int32).toNatClampNeg ≤ le31 then zoL (mC (p22.2) a25 a28 (0 : Int32).toNatClampNeg (0 : Int32).toNatClampNeg (p22.1 : Int32).toNatClampNeg) (fun mm34 => zoL (p22.1 / 3) (fun x35 => zoS (sh x0_) 2 (fun le37 => zoL (mI mm34 x0_ 1 x35) (fun mm38 => zoS (sh o) 7 (fun le40 => zoX (F_XReader_need sh mm38 o 44) (T_XReader_need sh mm38 o 44) (fun p41 => zoS (sh o) 7 (fun le43 => zoX (F_XReader_numbers sh p41 o 24 (p22.1) (p22.1) (-65536) 65536 0) (T_XReader_numbers sh p41 o 24 (p22.1) (p22.1) (-65536) 65536 0) (fun p44 => zoS (sh o) 7 (fun le46 => Option.bind ((p44.2).2.2 o 2) (fun a47 => zoS (sh x0_) 2 (fun le49 => Option.bind ((p44.2).2.2 x0_ 4) (fun a50 => zoS (sh a47) 100 (fun le51 => zoS (sh a50) 100 (fun le53 => if ¬ (0 : Int32) < 0 ∧ ¬ (0 : Int32) < 0 ∧ ¬ (p22.1 : Int32) < 0 ∧ (0 : Int32).toNatClampNeg + (p22.1 : Int32).toNatClampNeg ≤ le51 ∧ (0 : Int32).toNatClampNeg + (p22.1 : Int32).toNatClampNeg ≤ le53 then zoL (mC (p44.2) a47 a50 (0 : Int32).toNatClampNeg (0 : Int32).toNatClampNeg (p22.1 : Int32).toNatClampNeg) (fun mm56 => zoS (sh o) 7 (fun le58 => zoX (F_XReader_need sh mm56 o 44) (T_XReader_need sh mm56 o 44) (fun p59 => zoS (sh x0_) 2 (fun le61 => zoL (2 * (p59.1 x0_ 1)) (fun x62 => zoS (sh o) 7 (fun le64 => zoX (F_XReader_numbers sh p59 o 25 x62 x62 (-131072) 131072 0) (T_XReader_numbers sh p59 o 25 x62 x62 (-131072) 131072 0) (fun p65 => zoS (sh o) 7 (fun le67 => Option.bind ((p65.2).2.2 o 2) (fun a68 => zoS (sh x0_) 2 (fun le70 => Option.bind ((p65.2).2.2 x0_ 5) (fun a71 => zoS (sh a68) 100 (fun le72 => zoS (sh a71) 100 (fun le74 => if ¬ (0 : Int32) < 0 ∧ ¬ (0 : Int32) < 0 ∧ ¬ (x62 : Int32) < 0 ∧ (0 : Int32).toNatClampNeg + (x62 : Int32).toNatClampNeg ≤ le72 ∧ (0 : Int32).toNatClampNeg + (x62 : Int32).toNatClampNeg ≤ le74 then zoL (mC (p65.2) a68 a71 (0 : Int32).toNatClampNeg (0 : Int32).toNatClampNeg (x62 : Int32).toNatClampNeg) (fun mm77 => zoS (sh o) 7 (fun le79 => zoX (F_XReader_need sh mm77 o 44) (T_XReader_need sh mm77 o 44) (fun p80 => zoS (sh x0_) 2 (fun le82 => zoS (sh o) 7 (fun le84 => zoX (F_XReader_numbers sh p80 o 26 384 3 0 ((p80.1 x0_ 1) - 1) 0) (T_XReader_numbers sh p80 o 26 384 3 0 ((p80.1 x0_ 1) - 1) 0) (fun p85 => zoS (sh o) 7 (fun le87 => Option.bind ((p85.2).2.2 o 2) (fun a88 => zoS (sh x0_) 2 (fun le90 => Option.bind ((p85.2).2.2 x0_ 6) (fun a91 => zoS (sh a88) 100 (fun le92 => zoS (sh a91) 100 (fun le94 => if ¬ (0 : Int32) < 0 ∧ ¬ (0 : Int32) < 0 ∧ ¬ (p85.1 : Int32) < 0 ∧ (0 : Int32).toNatClampNeg + (p85.1 : Int32).toNatClampNeg ≤ le92 ∧ (0 : Int32).toNatClampNeg + (p85.1 : Int32).toNatClampNeg ≤ le94 then zoL (mC (p85.2) a88 a91 (0 : Int32).toNatClampNeg (0 : Int32).toNatClampNeg (p85.1 : Int32).toNatClampNeg) (fun mm97 => zoL (p85.1 / 3) (fun x98 => zoS (sh x0_) 2 (fun le100 => zoL (mI mm97 x0_ 2 x98) (fun mm101 => none)))) else none)))))))))))) else none))))))))))))) else none)))))))))))))) else none))))))))))))))))))))
set_option maxHeartbeats 4000000 in
set_option maxRecDepth 100000 in
theorem kT_XReader_readMesh (l : Launch) (D : va_G) (tA : Nat → ClassId) (b : Nat) (sh : zSh) (n : Nat) (hl : l.stackTraces = false) {mm : zMem} {o : Nat} {x0_ : Nat} {r : zMem} (h : T_XReader_readMesh sh mm o x0_ = some r) : zMT l D tA b zy_XReader_readMesh zb_XReader_readMesh 5 none 9 166 1 6 [.ref (b + o), .ref (b + x0_)] (zW tA b sh mm) n "java/lang/IllegalArgumentException" (zW tA b sh r) (n + 1) := by
  unfold T_XReader_readMesh at h
  refine zMT_of (own := "OrreryBox$Reader") (plainFor_of_name (by decide)) rfl (Nat.le_of_ble_eq_true rfl) (fun p e s m below meth c F hno hH => ?_)
  refine zr_aload_n F zd_XReader_readMesh_0 rfl ?_
  refine zr_aload_n F zd_XReader_readMesh_1 rfl ?_
  refine zr_ldcS F 22 "material" zd_XReader_readMesh_2 (by decide +kernel) ?_
  refine zr_iconstv (v := 0) F zd_XReader_readMesh_4 (by decide) ?_
  refine zr_aload_n F zd_XReader_readMesh_5 rfl ?_
  obtain ⟨le2, hs1, h⟩ := zoS_s h
  obtain ⟨a3, ea3, h⟩ := zoB_s h
  refine zr_get F 7 7 zd_XReader_readMesh_6 (zW_o hs1 (by decide)) rfl (by decide) zw_55 rfl (by rfl) ?_
  refine zr_tor ea3 ?_
  obtain ⟨le5, hs4, h⟩ := zoS_s h
  obtain ⟨a6, ea6, h⟩ := zoB_s h
  refine zr_get F 8 0 zd_XReader_readMesh_9 (zW_o hs4 (by decide)) rfl (by decide) zw_284 rfl (by rfl) ?_
  refine zr_tor ea6 ?_
  refine zr_pcn 12 rfl ?_
  refine zr_iconstv (v := 1) F zd_XReader_readMesh_12 (by decide) ?_
  obtain ⟨le8, hs7, h⟩ := zoS_s h
  obtain ⟨hi9, h⟩ := zoI_s h
  refine zr_iald F zd_XReader_readMesh_13 (zW_a0 hs7) hi9 ?_
  refine zr_iconstv (v := 1) F zd_XReader_readMesh_14 (by decide) ?_
  refine zr_isub F zd_XReader_readMesh_15 ?_
  obtain ⟨le11, hs10, h⟩ := zoS_s h
  obtain ⟨x12, ex12, h⟩ := zoL_s h
  rw [← ex12]
  cases ep13 : F_XReader_number sh mm o 22 0 x12 with
  | none =>
    rw [ep13] at h
    dsimp only [zoX] at h
    exact zr_thrV F hno (kT_XReader_number l D tA b sh _ hl h) zd_XReader_readMesh_16 (zW_o hs10 (by decide)) rfl zs_XReader_138 rfl zq_XReader_number rfl rfl ⟨(Nat.le_of_ble_eq_true rfl), (Nat.le_of_ble_eq_true rfl)⟩ (Nat.le_of_ble_eq_true rfl) ⟨(Nat.le_of_ble_eq_true rfl), (Nat.le_of_ble_eq_true rfl)⟩ ⟨(Nat.le_of_ble_eq_true rfl), (Nat.le_of_ble_eq_true rfl)⟩
  | some p13 =>
    rw [ep13] at h
    dsimp only [zoX] at h
    refine zr_callV1 F (k_XReader_number l D tA b sh _ ep13) zd_XReader_readMesh_16 (zW_o hs10 (by decide)) rfl zs_XReader_138 rfl zq_XReader_number rfl rfl ⟨(Nat.le_of_ble_eq_true rfl), (Nat.le_of_ble_eq_true rfl)⟩ (Nat.le_of_ble_eq_true rfl) ⟨(Nat.le_of_ble_eq_true rfl), (Nat.le_of_ble_eq_true rfl)⟩ ?_
    obtain ⟨le15, hs14, h⟩ := zoS_s h
    refine zr_put F 2 0 zd_XReader_readMesh_19 (zW_o hs14 (by decide)) rfl (by decide) zw_176 rfl rfl rfl rfl (by exact (Nat.le_of_ble_eq_true rfl)) ?_
    obtain ⟨mm16, emm16, h⟩ := zoL_s h
    refine zr_norm (zW tA b sh mm16) _ (by rw [emm16]; exact zW_pI (v := (p13.1)) hs14 (by decide) (zf_I_2_0 b _ _ _)) rfl ?_
    refine zr_aload_n F zd_XReader_readMesh_22 rfl ?_
    refine zr_bipushv (v := 44) F zd_XReader_readMesh_23 (by decide) ?_
    refine zr_pcn 25 rfl ?_
    obtain ⟨le18, hs17, h⟩ := zoS_s h
    cases ep19 : F_XReader_need sh mm16 o 44 with
    | none =>
      rw [ep19] at h
      dsimp only [zoX] at h
      exact zr_thrV F hno (kT_XReader_need l D tA b sh _ hl h) zd_XReader_readMesh_25 (zW_o hs17 (by decide)) rfl zs_XReader_45 rfl zq_XReader_need rfl rfl ⟨(Nat.le_of_ble_eq_true rfl), (Nat.le_of_ble_eq_true rfl)⟩ (Nat.le_of_ble_eq_true rfl) ⟨(Nat.le_of_ble_eq_true rfl), (Nat.le_of_ble_eq_true rfl)⟩ ⟨(Nat.le_of_ble_eq_true rfl), (Nat.le_of_ble_eq_true rfl)⟩
    | some p19 =>
      rw [ep19] at h
      dsimp only [zoX] at h
      refine zr_callV0 F (k_XReader_need l D tA b sh _ ep19) zd_XReader_readMesh_25 (zW_o hs17 (by decide)) rfl zs_XReader_45 rfl zq_XReader_need rfl rfl ⟨(Nat.le_of_ble_eq_true rfl), (Nat.le_of_ble_eq_true rfl)⟩ (Nat.le_of_ble_eq_true rfl) ⟨(Nat.le_of_ble_eq_true rfl), (Nat.le_of_ble_eq_true rfl)⟩ ?_
      refine zr_aload_n F zd_XReader_readMesh_28 rfl ?_
      refine zr_ldcS F 23 "points" zd_XReader_readMesh_29 (by decide +kernel) ?_
      refine zr_sipushv (v := 384) F zd_XReader_readMesh_31 (by decide) ?_
      refine zr_iconstv (v := 3) F zd_XReader_readMesh_34 (by decide) ?_
      refine zr_ldc F zd_XReader_readMesh_35 zw_1204 ?_
      refine zr_ldc F zd_XReader_readMesh_37 zw_1205 ?_
      refine zr_iconstv (v := 0) F zd_XReader_readMesh_39 (by decide) ?_
      refine zr_pcn 40 rfl ?_
      obtain ⟨le21, hs20, h⟩ := zoS_s h
      cases ep22 : F_XReader_numbers sh p19 o 23 384 3 (-1048576) 1048576 0 with
      | none =>
        rw [ep22] at h
        dsimp only [zoX] at h
        exact zr_thrV F hno (kT_XReader_numbers l D tA b sh _ hl h) zd_XReader_readMesh_40 (zW_o hs20 (by decide)) rfl zs_XReader_160 rfl zq_XReader_numbers rfl rfl ⟨(Nat.le_of_ble_eq_true rfl), (Nat.le_of_ble_eq_true rfl)⟩ (Nat.le_of_ble_eq_true rfl) ⟨(Nat.le_of_ble_eq_true rfl), (Nat.le_of_ble_eq_true rfl)⟩ ⟨(Nat.le_of_ble_eq_true rfl), (Nat.le_of_ble_eq_true rfl)⟩
      | some p22 =>
        rw [ep22] at h
        dsimp only [zoX] at h
        refine zr_callV1 F (k_XReader_numbers l D tA b sh _ ep22) zd_XReader_readMesh_40 (zW_o hs20 (by decide)) rfl zs_XReader_160 rfl zq_XReader_numbers rfl rfl ⟨(Nat.le_of_ble_eq_true rfl), (Nat.le_of_ble_eq_true rfl)⟩ (Nat.le_of_ble_eq_true rfl) ⟨(Nat.le_of_ble_eq_true rfl), (Nat.le_of_ble_eq_true rfl)⟩ ?_
        refine zr_istore_n F zd_XReader_readMesh_43 (by decide) ?_
        refine zr_aload_n F zd_XReader_readMesh_44 rfl ?_
        obtain ⟨le24, hs23, h⟩ := zoS_s h
        obtain ⟨a25, ea25, h⟩ := zoB_s h
        refine zr_get F 7 2 zd_XReader_readMesh_45 (zW_o hs23 (by decide)) rfl (by decide) zw_50 rfl (by rfl) ?_
        refine zr_tor ea25 ?_
        refine zr_iconstv (v := 0) F zd_XReader_readMesh_48 (by decide) ?_
        refine zr_aload_n F zd_XReader_readMesh_49 rfl ?_
        obtain ⟨le27, hs26, h⟩ := zoS_s h
        obtain ⟨a28, ea28, h⟩ := zoB_s h
        refine zr_get F 2 3 zd_XReader_readMesh_50 (zW_o hs26 (by decide)) rfl (by decide) zw_183 rfl (by rfl) ?_
        refine zr_tor ea28 ?_
        refine zr_iconstv (v := 0) F zd_XReader_readMesh_53 (by decide) ?_
        refine zr_pcn 54 rfl ?_
        refine zr_iload_n F zd_XReader_readMesh_54 rfl ?_
        obtain ⟨le29, hs30, h⟩ := zoS_s h
        obtain ⟨le31, hs32, h⟩ := zoS_s h
        obtain ⟨hc33, h⟩ := zoT_s h
        obtain ⟨mm34, emm34, h⟩ := zoL_s h
        refine zr_copy F zd_XReader_readMesh_55 zw_1202 zw_724 zw_723 zw_26 (zW_a0 hs30) (zW_a0 hs32) hc33.1 hc33.2.1 hc33.2.2.1 hc33.2.2.2.1 hc33.2.2.2.2 (Nat.le_of_ble_eq_true rfl) (Nat.le_of_ble_eq_true rfl) ?_
        refine zr_norm (zW tA b sh mm34) _ (by rw [emm34]; exact zW_c hs32) rfl ?_
        refine zr_aload_n F zd_XReader_readMesh_58 rfl ?_
        refine zr_iload_n F zd_XReader_readMesh_59 rfl ?_
        refine zr_iconstv (v := 3) F zd_XReader_readMesh_60 (by decide) ?_
        refine zr_idiv F zd_XReader_readMesh_61 (by decide) ?_
        obtain ⟨x35, ex35, h⟩ := zoL_s h
        rw [← ex35]
        obtain ⟨le37, hs36, h⟩ := zoS_s h
        refine zr_put F 2 1 zd_XReader_readMesh_62 (zW_o hs36 (by decide)) rfl (by decide) zw_178 rfl rfl rfl rfl (by exact (Nat.le_of_ble_eq_true rfl)) ?_
        obtain ⟨mm38, emm38, h⟩ := zoL_s h
        refine zr_norm (zW tA b sh mm38) _ (by rw [emm38]; exact zW_pI (v := x35) hs36 (by decide) (zf_I_2_1 b _ _ _)) rfl ?_
        refine zr_aload_n F zd_XReader_readMesh_65 rfl ?_
        refine zr_pcn 66 rfl ?_
        refine zr_bipushv (v := 44) F zd_XReader_readMesh_66 (by decide) ?_
        obtain ⟨le40, hs39, h⟩ := zoS_s h
        cases ep41 : F_XReader_need sh mm38 o 44 with
        | none =>
          rw [ep41] at h
          dsimp only [zoX] at h
          exact zr_thrV F hno (kT_XReader_need l D tA b sh _ hl h) zd_XReader_readMesh_68 (zW_o hs39 (by decide)) rfl zs_XReader_45 rfl zq_XReader_need rfl rfl ⟨(Nat.le_of_ble_eq_true rfl), (Nat.le_of_ble_eq_true rfl)⟩ (Nat.le_of_ble_eq_true rfl) ⟨(Nat.le_of_ble_eq_true rfl), (Nat.le_of_ble_eq_true rfl)⟩ ⟨(Nat.le_of_ble_eq_true rfl), (Nat.le_of_ble_eq_true rfl)⟩
        | some p41 =>
          rw [ep41] at h
          dsimp only [zoX] at h
          refine zr_callV0 F (k_XReader_need l D tA b sh _ ep41) zd_XReader_readMesh_68 (zW_o hs39 (by decide)) rfl zs_XReader_45 rfl zq_XReader_need rfl rfl ⟨(Nat.le_of_ble_eq_true rfl), (Nat.le_of_ble_eq_true rfl)⟩ (Nat.le_of_ble_eq_true rfl) ⟨(Nat.le_of_ble_eq_true rfl), (Nat.le_of_ble_eq_true rfl)⟩ ?_
          refine zr_aload_n F zd_XReader_readMesh_71 rfl ?_
          refine zr_ldcS F 24 "normals" zd_XReader_readMesh_72 (by decide +kernel) ?_
          refine zr_iload_n F zd_XReader_readMesh_74 rfl ?_
          refine zr_iload_n F zd_XReader_readMesh_75 rfl ?_
          refine zr_ldc F zd_XReader_readMesh_76 zw_1216 ?_
          refine zr_ldc F zd_XReader_readMesh_78 zw_1217 ?_
          refine zr_pcn 80 rfl ?_
          refine zr_iconstv (v := 0) F zd_XReader_readMesh_80 (by decide) ?_
          obtain ⟨le43, hs42, h⟩ := zoS_s h
          cases ep44 : F_XReader_numbers sh p41 o 24 (p22.1) (p22.1) (-65536) 65536 0 with
          | none =>
            rw [ep44] at h
            dsimp only [zoX] at h
            exact zr_thrV F hno (kT_XReader_numbers l D tA b sh _ hl h) zd_XReader_readMesh_81 (zW_o hs42 (by decide)) rfl zs_XReader_160 rfl zq_XReader_numbers rfl rfl ⟨(Nat.le_of_ble_eq_true rfl), (Nat.le_of_ble_eq_true rfl)⟩ (Nat.le_of_ble_eq_true rfl) ⟨(Nat.le_of_ble_eq_true rfl), (Nat.le_of_ble_eq_true rfl)⟩ ⟨(Nat.le_of_ble_eq_true rfl), (Nat.le_of_ble_eq_true rfl)⟩
          | some p44 =>
            rw [ep44] at h
            dsimp only [zoX] at h
            refine zr_callV1 F (k_XReader_numbers l D tA b sh _ ep44) zd_XReader_readMesh_81 (zW_o hs42 (by decide)) rfl zs_XReader_160 rfl zq_XReader_numbers rfl rfl ⟨(Nat.le_of_ble_eq_true rfl), (Nat.le_of_ble_eq_true rfl)⟩ (Nat.le_of_ble_eq_true rfl) ⟨(Nat.le_of_ble_eq_true rfl), (Nat.le_of_ble_eq_true rfl)⟩ ?_
            refine zr_pop F zd_XReader_readMesh_84 rfl ?_
            refine zr_aload_n F zd_XReader_readMesh_85 rfl ?_
            obtain ⟨le46, hs45, h⟩ := zoS_s h
            obtain ⟨a47, ea47, h⟩ := zoB_s h
            refine zr_get F 7 2 zd_XReader_readMesh_86 (zW_o hs45 (by decide)) rfl (by decide) zw_50 rfl (by rfl) ?_
            refine zr_tor ea47 ?_
            refine zr_iconstv (v := 0) F zd_XReader_readMesh_89 (by decide) ?_
            refine zr_aload_n F zd_XReader_readMesh_90 rfl ?_
            obtain ⟨le49, hs48, h⟩ := zoS_s h
            obtain ⟨a50, ea50, h⟩ := zoB_s h
            refine zr_get F 2 4 zd_XReader_readMesh_91 (zW_o hs48 (by decide)) rfl (by decide) zw_186 rfl (by rfl) ?_
            refine zr_tor ea50 ?_
            refine zr_pcn 94 rfl ?_
            refine zr_iconstv (v := 0) F zd_XReader_readMesh_94 (by decide) ?_
            refine zr_iload_n F zd_XReader_readMesh_95 rfl ?_
            obtain ⟨le51, hs52, h⟩ := zoS_s h
            obtain ⟨le53, hs54, h⟩ := zoS_s h
            obtain ⟨hc55, h⟩ := zoT_s h
            obtain ⟨mm56, emm56, h⟩ := zoL_s h
            refine zr_copy F zd_XReader_readMesh_96 zw_1202 zw_724 zw_723 zw_26 (zW_a0 hs52) (zW_a0 hs54) hc55.1 hc55.2.1 hc55.2.2.1 hc55.2.2.2.1 hc55.2.2.2.2 (Nat.le_of_ble_eq_true rfl) (Nat.le_of_ble_eq_true rfl) ?_
            refine zr_norm (zW tA b sh mm56) _ (by rw [emm56]; exact zW_c hs54) rfl ?_
            refine zr_aload_n F zd_XReader_readMesh_99 rfl ?_
            refine zr_bipushv (v := 44) F zd_XReader_readMesh_100 (by decide) ?_
            obtain ⟨le58, hs57, h⟩ := zoS_s h
            cases ep59 : F_XReader_need sh mm56 o 44 with
            | none =>
              rw [ep59] at h
              dsimp only [zoX] at h
              exact zr_thrV F hno (kT_XReader_need l D tA b sh _ hl h) zd_XReader_readMesh_102 (zW_o hs57 (by decide)) rfl zs_XReader_45 rfl zq_XReader_need rfl rfl ⟨(Nat.le_of_ble_eq_true rfl), (Nat.le_of_ble_eq_true rfl)⟩ (Nat.le_of_ble_eq_true rfl) ⟨(Nat.le_of_ble_eq_true rfl), (Nat.le_of_ble_eq_true rfl)⟩ ⟨(Nat.le_of_ble_eq_true rfl), (Nat.le_of_ble_eq_true rfl)⟩
            | some p59 =>
              rw [ep59] at h
              dsimp only [zoX] at h
              refine zr_callV0 F (k_XReader_need l D tA b sh _ ep59) zd_XReader_readMesh_102 (zW_o hs57 (by decide)) rfl zs_XReader_45 rfl zq_XReader_need rfl rfl ⟨(Nat.le_of_ble_eq_true rfl), (Nat.le_of_ble_eq_true rfl)⟩ (Nat.le_of_ble_eq_true rfl) ⟨(Nat.le_of_ble_eq_true rfl), (Nat.le_of_ble_eq_true rfl)⟩ ?_
              refine zr_iconstv (v := 2) F zd_XReader_readMesh_105 (by decide) ?_
              refine zr_aload_n F zd_XReader_readMesh_106 rfl ?_
              refine zr_pcn 107 rfl ?_
              obtain ⟨le61, hs60, h⟩ := zoS_s h
              refine zr_get F 2 1 zd_XReader_readMesh_107 (zW_o hs60 (by decide)) rfl (by decide) zw_178 rfl (by rfl) ?_
              refine zr_imul F zd_XReader_readMesh_110 ?_
              obtain ⟨x62, ex62, h⟩ := zoL_s h
              rw [← ex62]
              refine zr_istore_n F zd_XReader_readMesh_111 (by decide) ?_
              refine zr_aload_n F zd_XReader_readMesh_112 rfl ?_
              refine zr_ldcS F 25 "places" zd_XReader_readMesh_113 (by decide +kernel) ?_
              refine zr_iload_n F zd_XReader_readMesh_115 rfl ?_
              refine zr_iload_n F zd_XReader_readMesh_116 rfl ?_
              refine zr_ldc F zd_XReader_readMesh_117 zw_1258 ?_
              refine zr_pcn 119 rfl ?_
              refine zr_ldc F zd_XReader_readMesh_119 zw_1259 ?_
              refine zr_iconstv (v := 0) F zd_XReader_readMesh_121 (by decide) ?_
              obtain ⟨le64, hs63, h⟩ := zoS_s h
              cases ep65 : F_XReader_numbers sh p59 o 25 x62 x62 (-131072) 131072 0 with
              | none =>
                rw [ep65] at h
                dsimp only [zoX] at h
                exact zr_thrV F hno (kT_XReader_numbers l D tA b sh _ hl h) zd_XReader_readMesh_122 (zW_o hs63 (by decide)) rfl zs_XReader_160 rfl zq_XReader_numbers rfl rfl ⟨(Nat.le_of_ble_eq_true rfl), (Nat.le_of_ble_eq_true rfl)⟩ (Nat.le_of_ble_eq_true rfl) ⟨(Nat.le_of_ble_eq_true rfl), (Nat.le_of_ble_eq_true rfl)⟩ ⟨(Nat.le_of_ble_eq_true rfl), (Nat.le_of_ble_eq_true rfl)⟩
              | some p65 =>
                rw [ep65] at h
                dsimp only [zoX] at h
                refine zr_callV1 F (k_XReader_numbers l D tA b sh _ ep65) zd_XReader_readMesh_122 (zW_o hs63 (by decide)) rfl zs_XReader_160 rfl zq_XReader_numbers rfl rfl ⟨(Nat.le_of_ble_eq_true rfl), (Nat.le_of_ble_eq_true rfl)⟩ (Nat.le_of_ble_eq_true rfl) ⟨(Nat.le_of_ble_eq_true rfl), (Nat.le_of_ble_eq_true rfl)⟩ ?_
                refine zr_pop F zd_XReader_readMesh_125 rfl ?_
                refine zr_aload_n F zd_XReader_readMesh_126 rfl ?_
                obtain ⟨le67, hs66, h⟩ := zoS_s h
                obtain ⟨a68, ea68, h⟩ := zoB_s h
                refine zr_get F 7 2 zd_XReader_readMesh_127 (zW_o hs66 (by decide)) rfl (by decide) zw_50 rfl (by rfl) ?_
                refine zr_tor ea68 ?_
                refine zr_iconstv (v := 0) F zd_XReader_readMesh_130 (by decide) ?_
                refine zr_aload_n F zd_XReader_readMesh_131 rfl ?_
                refine zr_pcn 132 rfl ?_
                obtain ⟨le70, hs69, h⟩ := zoS_s h
                obtain ⟨a71, ea71, h⟩ := zoB_s h
                refine zr_get F 2 5 zd_XReader_readMesh_132 (zW_o hs69 (by decide)) rfl (by decide) zw_189 rfl (by rfl) ?_
                refine zr_tor ea71 ?_
                refine zr_iconstv (v := 0) F zd_XReader_readMesh_135 (by decide) ?_
                refine zr_iload_n F zd_XReader_readMesh_136 rfl ?_
                obtain ⟨le72, hs73, h⟩ := zoS_s h
                obtain ⟨le74, hs75, h⟩ := zoS_s h
                obtain ⟨hc76, h⟩ := zoT_s h
                obtain ⟨mm77, emm77, h⟩ := zoL_s h
                refine zr_copy F zd_XReader_readMesh_137 zw_1202 zw_724 zw_723 zw_26 (zW_a0 hs73) (zW_a0 hs75) hc76.1 hc76.2.1 hc76.2.2.1 hc76.2.2.2.1 hc76.2.2.2.2 (Nat.le_of_ble_eq_true rfl) (Nat.le_of_ble_eq_true rfl) ?_
                refine zr_norm (zW tA b sh mm77) _ (by rw [emm77]; exact zW_c hs75) rfl ?_
                refine zr_aload_n F zd_XReader_readMesh_140 rfl ?_
                refine zr_bipushv (v := 44) F zd_XReader_readMesh_141 (by decide) ?_
                obtain ⟨le79, hs78, h⟩ := zoS_s h
                cases ep80 : F_XReader_need sh mm77 o 44 with
                | none =>
                  rw [ep80] at h
                  dsimp only [zoX] at h
                  exact zr_thrV F hno (kT_XReader_need l D tA b sh _ hl h) zd_XReader_readMesh_143 (zW_o hs78 (by decide)) rfl zs_XReader_45 rfl zq_XReader_need rfl rfl ⟨(Nat.le_of_ble_eq_true rfl), (Nat.le_of_ble_eq_true rfl)⟩ (Nat.le_of_ble_eq_true rfl) ⟨(Nat.le_of_ble_eq_true rfl), (Nat.le_of_ble_eq_true rfl)⟩ ⟨(Nat.le_of_ble_eq_true rfl), (Nat.le_of_ble_eq_true rfl)⟩
                | some p80 =>
                  rw [ep80] at h
                  dsimp only [zoX] at h
                  refine zr_callV0 F (k_XReader_need l D tA b sh _ ep80) zd_XReader_readMesh_143 (zW_o hs78 (by decide)) rfl zs_XReader_45 rfl zq_XReader_need rfl rfl ⟨(Nat.le_of_ble_eq_true rfl), (Nat.le_of_ble_eq_true rfl)⟩ (Nat.le_of_ble_eq_true rfl) ⟨(Nat.le_of_ble_eq_true rfl), (Nat.le_of_ble_eq_true rfl)⟩ ?_
                  refine zr_aload_n F zd_XReader_readMesh_146 rfl ?_
                  refine zr_pcn 147 rfl ?_
                  refine zr_ldcS F 26 "faces" zd_XReader_readMesh_147 (by decide +kernel) ?_
                  refine zr_sipushv (v := 384) F zd_XReader_readMesh_149 (by decide) ?_
                  refine zr_iconstv (v := 3) F zd_XReader_readMesh_152 (by decide) ?_
                  refine zr_iconstv (v := 0) F zd_XReader_readMesh_153 (by decide) ?_
                  refine zr_aload_n F zd_XReader_readMesh_154 rfl ?_
                  obtain ⟨le82, hs81, h⟩ := zoS_s h
                  refine zr_get F 2 1 zd_XReader_readMesh_155 (zW_o hs81 (by decide)) rfl (by decide) zw_178 rfl (by rfl) ?_
                  refine zr_iconstv (v := 1) F zd_XReader_readMesh_158 (by decide) ?_
                  refine zr_isub F zd_XReader_readMesh_159 ?_
                  refine zr_pcn 160 rfl ?_
                  refine zr_iconstv (v := 0) F zd_XReader_readMesh_160 (by decide) ?_
                  obtain ⟨le84, hs83, h⟩ := zoS_s h
                  cases ep85 : F_XReader_numbers sh p80 o 26 384 3 0 ((p80.1 x0_ 1) - 1) 0 with
                  | none =>
                    rw [ep85] at h
                    dsimp only [zoX] at h
                    exact zr_thrV F hno (kT_XReader_numbers l D tA b sh _ hl h) zd_XReader_readMesh_161 (zW_o hs83 (by decide)) rfl zs_XReader_160 rfl zq_XReader_numbers rfl rfl ⟨(Nat.le_of_ble_eq_true rfl), (Nat.le_of_ble_eq_true rfl)⟩ (Nat.le_of_ble_eq_true rfl) ⟨(Nat.le_of_ble_eq_true rfl), (Nat.le_of_ble_eq_true rfl)⟩ ⟨(Nat.le_of_ble_eq_true rfl), (Nat.le_of_ble_eq_true rfl)⟩
                  | some p85 =>
                    rw [ep85] at h
                    dsimp only [zoX] at h
                    refine zr_callV1 F (k_XReader_numbers l D tA b sh _ ep85) zd_XReader_readMesh_161 (zW_o hs83 (by decide)) rfl zs_XReader_160 rfl zq_XReader_numbers rfl rfl ⟨(Nat.le_of_ble_eq_true rfl), (Nat.le_of_ble_eq_true rfl)⟩ (Nat.le_of_ble_eq_true rfl) ⟨(Nat.le_of_ble_eq_true rfl), (Nat.le_of_ble_eq_true rfl)⟩ ?_
                    refine zr_istore F zd_XReader_readMesh_164 (by decide) ?_
                    refine zr_loc (L' := [(0, .ref (b + o)), (1, .ref (b + x0_)), (4, .int (p85.1))]) ⟨rfl, rfl, rfl, trivial⟩ ?_
                    refine zr_aload_n F zd_XReader_readMesh_166 rfl ?_
                    obtain ⟨le87, hs86, h⟩ := zoS_s h
                    obtain ⟨a88, ea88, h⟩ := zoB_s h
                    refine zr_get F 7 2 zd_XReader_readMesh_167 (zW_o hs86 (by decide)) rfl (by decide) zw_50 rfl (by rfl) ?_
                    refine zr_tor ea88 ?_
                    refine zr_iconstv (v := 0) F zd_XReader_readMesh_170 (by decide) ?_
                    refine zr_aload_n F zd_XReader_readMesh_171 rfl ?_
                    obtain ⟨le90, hs89, h⟩ := zoS_s h
                    obtain ⟨a91, ea91, h⟩ := zoB_s h
                    refine zr_get F 2 6 zd_XReader_readMesh_172 (zW_o hs89 (by decide)) rfl (by decide) zw_192 rfl (by rfl) ?_
                    refine zr_tor ea91 ?_
                    refine zr_pcn 175 rfl ?_
                    refine zr_iconstv (v := 0) F zd_XReader_readMesh_175 (by decide) ?_
                    refine zr_iload F zd_XReader_readMesh_176 rfl ?_
                    obtain ⟨le92, hs93, h⟩ := zoS_s h
                    obtain ⟨le94, hs95, h⟩ := zoS_s h
                    obtain ⟨hc96, h⟩ := zoT_s h
                    obtain ⟨mm97, emm97, h⟩ := zoL_s h
                    refine zr_copy F zd_XReader_readMesh_178 zw_1202 zw_724 zw_723 zw_26 (zW_a0 hs93) (zW_a0 hs95) hc96.1 hc96.2.1 hc96.2.2.1 hc96.2.2.2.1 hc96.2.2.2.2 (Nat.le_of_ble_eq_true rfl) (Nat.le_of_ble_eq_true rfl) ?_
                    refine zr_norm (zW tA b sh mm97) _ (by rw [emm97]; exact zW_c hs95) rfl ?_
                    refine zr_aload_n F zd_XReader_readMesh_181 rfl ?_
                    refine zr_iload F zd_XReader_readMesh_182 rfl ?_
                    refine zr_iconstv (v := 3) F zd_XReader_readMesh_184 (by decide) ?_
                    refine zr_idiv F zd_XReader_readMesh_185 (by decide) ?_
                    obtain ⟨x98, ex98, h⟩ := zoL_s h
                    rw [← ex98]
                    obtain ⟨le100, hs99, h⟩ := zoS_s h
                    refine zr_put F 2 2 zd_XReader_readMesh_186 (zW_o hs99 (by decide)) rfl (by decide) zw_180 rfl rfl rfl rfl (by exact (Nat.le_of_ble_eq_true rfl)) ?_
                    obtain ⟨mm101, emm101, h⟩ := zoL_s h
                    refine zr_norm (zW tA b sh mm101) _ (by rw [emm101]; exact zW_pI (v := x98) hs99 (by decide) (zf_I_2_2 b _ _ _)) rfl ?_
                    refine zr_pcn 189 rfl ?_
                    cases h
